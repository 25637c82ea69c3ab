def stOK (what who v : Int32) (n : Nat) : Prop := (what = 0 ∧ 0 ≤ who ∧ who < 12 ∧ 0 ≤ v ∧ v ≤ 9) ∨ (what = 1 ∧ 0 ≤ who ∧ who < 12 ∧ 0 ≤ v ∧ v ≤ 99) ∨ (what = 2 ∧ 0 ≤ who ∧ who < 12 ∧ 0 ≤ v ∧ v ≤ 99) ∨ (what = 3 ∧ 0 ≤ who ∧ who < nI n ∧ 0 ≤ v ∧ v ≤ 9) ∨ (what = 4 ∧ 0 ≤ who ∧ who < nI n ∧ 0 ≤ v ∧ v ≤ 99) ∨ (what = 5 ∧ 0 ≤ v ∧ v ≤ 9)
theorem s_ktakes {d n : Nat} {σ : zS} {Q : Int32 → zS → Prop} {what who v : Int32} (hn : σ 2 11 = nI n) (hn18 : n ≤ 18) (h0 : ∀ p, p < 12 → what = 0 → who = nI p → 0 ≤ v → v ≤ 9 → Q 1 (up σ 3 p v)) (h1 : ∀ p, p < 12 → what = 1 → who = nI p → 0 ≤ v → v ≤ 99 → Q 1 (up σ 4 p v)) (h2 : ∀ p, p < 12 → what = 2 → who = nI p → 0 ≤ v → v ≤ 99 → Q 1 (up σ 5 p v)) (h3 : ∀ p, p < n → what = 3 → who = nI p → 0 ≤ v → v ≤ 9 → Q 1 (up σ 7 p v)) (h4 : ∀ p, p < n → what = 4 → who = nI p → 0 ≤ v → v ≤ 99 → Q 1 (up σ 8 p v)) (h5 : what = 5 → 0 ≤ v → v ≤ 9 → Q 1 (up σ 2 14 v)) (hx : ¬ stOK what who v n → Q 0 σ) : zI1 (d + 1) 16 [.ref 2, .int what, .int who, .int v] σ Q := by
  show zk _ _ 0 [.ref 2, .int what, .int who, .int v, zun, zun] [] _ _
  by_cases hk : stOK what who v n
  · rcases id hk with ⟨ew, w0, w1, v0, v1⟩ | ⟨ew, w0, w1, v0, v1⟩ | ⟨ew, w0, w1, v0, v1⟩ | ⟨ew, w0, w1, v0, v1⟩ | ⟨ew, w0, w1, v0, v1⟩ | ⟨ew, v0, v1⟩
    · obtain ⟨p, hp, ep⟩ := zI_of (n := 12) w0 w1 (by omega)
      have hq := h0 p hp ew ep v0 v1
      clear h0 h1 h2 h3 h4 h5 hx hk
      subst ew ep
      refine r_il1 zi_16_0 rfl ?_
      refine r_push zi_16_1 rfl ?_
      refine r_ic0 zi_16_2 rfl (fun c => absurd c (by decide)) (fun _ => ?_)
      refine r_il1 zi_16_5 rfl ?_
      refine r_push zi_16_6 rfl ?_
      refine r_ic3 zi_16_7 rfl (fun c => absurd c (by decide)) (fun _ => ?_)
      refine r_il2 zi_16_10 rfl ?_
      refine r_cIS zi_16_11 rfl rfl rfl rfl rfl rfl (s_kplace (fun _ _ => ?_) (fun z => absurd ⟨w0, w1⟩ z))
      show zk _ _ 14 _ _ _ _
      refine r_if0 zi_16_14 rfl (fun c => absurd c (by decide)) (fun _ => ?_)
      refine r_goto zi_16_17 rfl ?_
      refine r_push zi_16_28 rfl ?_
      refine r_goto zi_16_29 rfl ?_
      refine r_is4 zi_16_33 rfl ?_
      refine r_il1 zi_16_35 rfl ?_
      refine r_if0 zi_16_36 rfl (fun _ => ?_) (fun c => absurd (by decide) c)
      refine r_push zi_16_49 rfl ?_
      refine r_goto zi_16_51 rfl ?_
      refine r_is5 zi_16_56 rfl ?_
      refine r_il4 zi_16_58 rfl ?_
      refine r_if0 zi_16_60 rfl (fun c => absurd c (by decide)) (fun _ => ?_)
      refine r_il1 zi_16_63 rfl ?_
      refine r_push zi_16_64 rfl ?_
      refine r_push zi_16_65 rfl ?_
      refine r_cIS zi_16_66 rfl rfl rfl rfl rfl rfl (s_within (fun _ _ => ?_) (fun z => absurd ⟨(by decide), (by decide)⟩ z))
      show zk _ _ 69 _ _ _ _
      refine r_if0 zi_16_69 rfl (fun c => absurd c (by decide)) (fun _ => ?_)
      refine r_il3 zi_16_72 rfl ?_
      refine r_push zi_16_73 rfl ?_
      refine r_il5 zi_16_74 rfl ?_
      refine r_cIS zi_16_76 rfl rfl rfl rfl rfl rfl (s_within (fun _ _ => ?_) (fun z => absurd ⟨v0, v1⟩ z))
      show zk _ _ 79 _ _ _ _
      refine r_if1 zi_16_79 rfl (fun _ => ?_) (fun c => absurd c (by decide))
      refine r_il1 zi_16_84 rfl ?_
      refine r_sw zi_16_85 rfl ?_
      rw [show zsw [(0, 120), (1, 130), (2, 140), (3, 150), (4, 160)] 170 0 = 120 from by decide]
      refine r_al0 zi_16_120 rfl ?_
      refine q_getR zi_16_121 rfl cf_2_0 ?_
      refine r_il2 zi_16_124 rfl ?_
      refine r_il3 zi_16_125 rfl ?_
      refine r_ast zi_16_126 rfl p ca_3 (by first | rfl | (simp only [zI_add, zI_mul] <;> rfl)) (by first | omega | decide) ?_
      refine r_goto zi_16_127 rfl ?_
      refine r_push zi_16_175 rfl ?_
      refine r_retZ zi_16_176 rfl (by decide) ?_
      exact ⟨_, rfl, hq⟩
    · obtain ⟨p, hp, ep⟩ := zI_of (n := 12) w0 w1 (by omega)
      have hq := h1 p hp ew ep v0 v1
      clear h0 h1 h2 h3 h4 h5 hx hk
      subst ew ep
      refine r_il1 zi_16_0 rfl ?_
      refine r_push zi_16_1 rfl ?_
      refine r_ic0 zi_16_2 rfl (fun c => absurd c (by decide)) (fun _ => ?_)
      refine r_il1 zi_16_5 rfl ?_
      refine r_push zi_16_6 rfl ?_
      refine r_ic3 zi_16_7 rfl (fun c => absurd c (by decide)) (fun _ => ?_)
      refine r_il2 zi_16_10 rfl ?_
      refine r_cIS zi_16_11 rfl rfl rfl rfl rfl rfl (s_kplace (fun _ _ => ?_) (fun z => absurd ⟨w0, w1⟩ z))
      show zk _ _ 14 _ _ _ _
      refine r_if0 zi_16_14 rfl (fun c => absurd c (by decide)) (fun _ => ?_)
      refine r_goto zi_16_17 rfl ?_
      refine r_push zi_16_28 rfl ?_
      refine r_goto zi_16_29 rfl ?_
      refine r_is4 zi_16_33 rfl ?_
      refine r_il1 zi_16_35 rfl ?_
      refine r_if0 zi_16_36 rfl (fun c => absurd c (by decide)) (fun _ => ?_)
      refine r_il1 zi_16_39 rfl ?_
      refine r_push zi_16_40 rfl ?_
      refine r_ic0 zi_16_41 rfl (fun c => absurd c (by decide)) (fun _ => ?_)
      refine r_il1 zi_16_44 rfl ?_
      refine r_push zi_16_45 rfl ?_
      refine r_ic1 zi_16_46 rfl (fun _ => ?_) (fun c => absurd c (by decide))
      refine r_push zi_16_54 rfl ?_
      refine r_is5 zi_16_56 rfl ?_
      refine r_il4 zi_16_58 rfl ?_
      refine r_if0 zi_16_60 rfl (fun c => absurd c (by decide)) (fun _ => ?_)
      refine r_il1 zi_16_63 rfl ?_
      refine r_push zi_16_64 rfl ?_
      refine r_push zi_16_65 rfl ?_
      refine r_cIS zi_16_66 rfl rfl rfl rfl rfl rfl (s_within (fun _ _ => ?_) (fun z => absurd ⟨(by decide), (by decide)⟩ z))
      show zk _ _ 69 _ _ _ _
      refine r_if0 zi_16_69 rfl (fun c => absurd c (by decide)) (fun _ => ?_)
      refine r_il3 zi_16_72 rfl ?_
      refine r_push zi_16_73 rfl ?_
      refine r_il5 zi_16_74 rfl ?_
      refine r_cIS zi_16_76 rfl rfl rfl rfl rfl rfl (s_within (fun _ _ => ?_) (fun z => absurd ⟨v0, v1⟩ z))
      show zk _ _ 79 _ _ _ _
      refine r_if1 zi_16_79 rfl (fun _ => ?_) (fun c => absurd c (by decide))
      refine r_il1 zi_16_84 rfl ?_
      refine r_sw zi_16_85 rfl ?_
      rw [show zsw [(0, 120), (1, 130), (2, 140), (3, 150), (4, 160)] 170 1 = 130 from by decide]
      refine r_al0 zi_16_130 rfl ?_
      refine q_getR zi_16_131 rfl cf_2_1 ?_
      refine r_il2 zi_16_134 rfl ?_
      refine r_il3 zi_16_135 rfl ?_
      refine r_ast zi_16_136 rfl p ca_4 (by first | rfl | (simp only [zI_add, zI_mul] <;> rfl)) (by first | omega | decide) ?_
      refine r_goto zi_16_137 rfl ?_
      refine r_push zi_16_175 rfl ?_
      refine r_retZ zi_16_176 rfl (by decide) ?_
      exact ⟨_, rfl, hq⟩
    · obtain ⟨p, hp, ep⟩ := zI_of (n := 12) w0 w1 (by omega)
      have hq := h2 p hp ew ep v0 v1
      clear h0 h1 h2 h3 h4 h5 hx hk
      subst ew ep
      refine r_il1 zi_16_0 rfl ?_
      refine r_push zi_16_1 rfl ?_
      refine r_ic0 zi_16_2 rfl (fun c => absurd c (by decide)) (fun _ => ?_)
      refine r_il1 zi_16_5 rfl ?_
      refine r_push zi_16_6 rfl ?_
      refine r_ic3 zi_16_7 rfl (fun c => absurd c (by decide)) (fun _ => ?_)
      refine r_il2 zi_16_10 rfl ?_
      refine r_cIS zi_16_11 rfl rfl rfl rfl rfl rfl (s_kplace (fun _ _ => ?_) (fun z => absurd ⟨w0, w1⟩ z))
      show zk _ _ 14 _ _ _ _
      refine r_if0 zi_16_14 rfl (fun c => absurd c (by decide)) (fun _ => ?_)
      refine r_goto zi_16_17 rfl ?_
      refine r_push zi_16_28 rfl ?_
      refine r_goto zi_16_29 rfl ?_
      refine r_is4 zi_16_33 rfl ?_
      refine r_il1 zi_16_35 rfl ?_
      refine r_if0 zi_16_36 rfl (fun c => absurd c (by decide)) (fun _ => ?_)
      refine r_il1 zi_16_39 rfl ?_
      refine r_push zi_16_40 rfl ?_
      refine r_ic0 zi_16_41 rfl (fun c => absurd c (by decide)) (fun _ => ?_)
      refine r_il1 zi_16_44 rfl ?_
      refine r_push zi_16_45 rfl ?_
      refine r_ic1 zi_16_46 rfl (fun _ => ?_) (fun c => absurd c (by decide))
      refine r_push zi_16_54 rfl ?_
      refine r_is5 zi_16_56 rfl ?_
      refine r_il4 zi_16_58 rfl ?_
      refine r_if0 zi_16_60 rfl (fun c => absurd c (by decide)) (fun _ => ?_)
      refine r_il1 zi_16_63 rfl ?_
      refine r_push zi_16_64 rfl ?_
      refine r_push zi_16_65 rfl ?_
      refine r_cIS zi_16_66 rfl rfl rfl rfl rfl rfl (s_within (fun _ _ => ?_) (fun z => absurd ⟨(by decide), (by decide)⟩ z))
      show zk _ _ 69 _ _ _ _
      refine r_if0 zi_16_69 rfl (fun c => absurd c (by decide)) (fun _ => ?_)
      refine r_il3 zi_16_72 rfl ?_
      refine r_push zi_16_73 rfl ?_
      refine r_il5 zi_16_74 rfl ?_
      refine r_cIS zi_16_76 rfl rfl rfl rfl rfl rfl (s_within (fun _ _ => ?_) (fun z => absurd ⟨v0, v1⟩ z))
      show zk _ _ 79 _ _ _ _
      refine r_if1 zi_16_79 rfl (fun _ => ?_) (fun c => absurd c (by decide))
      refine r_il1 zi_16_84 rfl ?_
      refine r_sw zi_16_85 rfl ?_
      rw [show zsw [(0, 120), (1, 130), (2, 140), (3, 150), (4, 160)] 170 2 = 140 from by decide]
      refine r_al0 zi_16_140 rfl ?_
      refine q_getR zi_16_141 rfl cf_2_2 ?_
      refine r_il2 zi_16_144 rfl ?_
      refine r_il3 zi_16_145 rfl ?_
      refine r_ast zi_16_146 rfl p ca_5 (by first | rfl | (simp only [zI_add, zI_mul] <;> rfl)) (by first | omega | decide) ?_
      refine r_goto zi_16_147 rfl ?_
      refine r_push zi_16_175 rfl ?_
      refine r_retZ zi_16_176 rfl (by decide) ?_
      exact ⟨_, rfl, hq⟩
    · obtain ⟨p, hp, ep⟩ := zI_of (n := n) w0 w1 (by omega)
      have hq := h3 p hp ew ep v0 v1
      clear h0 h1 h2 h3 h4 h5 hx hk
      subst ew ep
      refine r_il1 zi_16_0 rfl ?_
      refine r_push zi_16_1 rfl ?_
      refine r_ic0 zi_16_2 rfl (fun c => absurd c (by decide)) (fun _ => ?_)
      refine r_il1 zi_16_5 rfl ?_
      refine r_push zi_16_6 rfl ?_
      refine r_ic3 zi_16_7 rfl (fun _ => ?_) (fun c => absurd (by decide) c)
      refine r_al0 zi_16_20 rfl ?_
      refine r_il2 zi_16_21 rfl ?_
      refine q_cIV zi_16_22 rfl rfl rfl rfl rfl rfl rfl cf_2_0.ob (s_dsubj zDu_2 hn hn18 (fun _ _ _ => ?_) (fun z => absurd ⟨w0, w1⟩ z))
      show zk _ _ 25 _ _ _ _
      refine r_if0 zi_16_25 rfl (fun c => absurd c (by decide)) (fun _ => ?_)
      refine r_push zi_16_28 rfl ?_
      refine r_goto zi_16_29 rfl ?_
      refine r_is4 zi_16_33 rfl ?_
      refine r_il1 zi_16_35 rfl ?_
      refine r_if0 zi_16_36 rfl (fun c => absurd c (by decide)) (fun _ => ?_)
      refine r_il1 zi_16_39 rfl ?_
      refine r_push zi_16_40 rfl ?_
      refine r_ic0 zi_16_41 rfl (fun _ => ?_) (fun c => absurd (by decide) c)
      refine r_push zi_16_49 rfl ?_
      refine r_goto zi_16_51 rfl ?_
      refine r_is5 zi_16_56 rfl ?_
      refine r_il4 zi_16_58 rfl ?_
      refine r_if0 zi_16_60 rfl (fun c => absurd c (by decide)) (fun _ => ?_)
      refine r_il1 zi_16_63 rfl ?_
      refine r_push zi_16_64 rfl ?_
      refine r_push zi_16_65 rfl ?_
      refine r_cIS zi_16_66 rfl rfl rfl rfl rfl rfl (s_within (fun _ _ => ?_) (fun z => absurd ⟨(by decide), (by decide)⟩ z))
      show zk _ _ 69 _ _ _ _
      refine r_if0 zi_16_69 rfl (fun c => absurd c (by decide)) (fun _ => ?_)
      refine r_il3 zi_16_72 rfl ?_
      refine r_push zi_16_73 rfl ?_
      refine r_il5 zi_16_74 rfl ?_
      refine r_cIS zi_16_76 rfl rfl rfl rfl rfl rfl (s_within (fun _ _ => ?_) (fun z => absurd ⟨v0, v1⟩ z))
      show zk _ _ 79 _ _ _ _
      refine r_if1 zi_16_79 rfl (fun _ => ?_) (fun c => absurd c (by decide))
      refine r_il1 zi_16_84 rfl ?_
      refine r_sw zi_16_85 rfl ?_
      rw [show zsw [(0, 120), (1, 130), (2, 140), (3, 150), (4, 160)] 170 3 = 150 from by decide]
      refine r_al0 zi_16_150 rfl ?_
      refine q_getR zi_16_151 rfl cf_2_4 ?_
      refine r_il2 zi_16_154 rfl ?_
      refine r_il3 zi_16_155 rfl ?_
      refine r_ast zi_16_156 rfl p ca_7 (by first | rfl | (simp only [zI_add, zI_mul] <;> rfl)) (by first | omega | decide) ?_
      refine r_goto zi_16_157 rfl ?_
      refine r_push zi_16_175 rfl ?_
      refine r_retZ zi_16_176 rfl (by decide) ?_
      exact ⟨_, rfl, hq⟩
    · obtain ⟨p, hp, ep⟩ := zI_of (n := n) w0 w1 (by omega)
      have hq := h4 p hp ew ep v0 v1
      clear h0 h1 h2 h3 h4 h5 hx hk
      subst ew ep
      refine r_il1 zi_16_0 rfl ?_
      refine r_push zi_16_1 rfl ?_
      refine r_ic0 zi_16_2 rfl (fun c => absurd c (by decide)) (fun _ => ?_)
      refine r_il1 zi_16_5 rfl ?_
      refine r_push zi_16_6 rfl ?_
      refine r_ic3 zi_16_7 rfl (fun _ => ?_) (fun c => absurd (by decide) c)
      refine r_al0 zi_16_20 rfl ?_
      refine r_il2 zi_16_21 rfl ?_
      refine q_cIV zi_16_22 rfl rfl rfl rfl rfl rfl rfl cf_2_0.ob (s_dsubj zDu_2 hn hn18 (fun _ _ _ => ?_) (fun z => absurd ⟨w0, w1⟩ z))
      show zk _ _ 25 _ _ _ _
      refine r_if0 zi_16_25 rfl (fun c => absurd c (by decide)) (fun _ => ?_)
      refine r_push zi_16_28 rfl ?_
      refine r_goto zi_16_29 rfl ?_
      refine r_is4 zi_16_33 rfl ?_
      refine r_il1 zi_16_35 rfl ?_
      refine r_if0 zi_16_36 rfl (fun c => absurd c (by decide)) (fun _ => ?_)
      refine r_il1 zi_16_39 rfl ?_
      refine r_push zi_16_40 rfl ?_
      refine r_ic0 zi_16_41 rfl (fun c => absurd c (by decide)) (fun _ => ?_)
      refine r_il1 zi_16_44 rfl ?_
      refine r_push zi_16_45 rfl ?_
      refine r_ic1 zi_16_46 rfl (fun _ => ?_) (fun c => absurd c (by decide))
      refine r_push zi_16_54 rfl ?_
      refine r_is5 zi_16_56 rfl ?_
      refine r_il4 zi_16_58 rfl ?_
      refine r_if0 zi_16_60 rfl (fun c => absurd c (by decide)) (fun _ => ?_)
      refine r_il1 zi_16_63 rfl ?_
      refine r_push zi_16_64 rfl ?_
      refine r_push zi_16_65 rfl ?_
      refine r_cIS zi_16_66 rfl rfl rfl rfl rfl rfl (s_within (fun _ _ => ?_) (fun z => absurd ⟨(by decide), (by decide)⟩ z))
      show zk _ _ 69 _ _ _ _
      refine r_if0 zi_16_69 rfl (fun c => absurd c (by decide)) (fun _ => ?_)
      refine r_il3 zi_16_72 rfl ?_
      refine r_push zi_16_73 rfl ?_
      refine r_il5 zi_16_74 rfl ?_
      refine r_cIS zi_16_76 rfl rfl rfl rfl rfl rfl (s_within (fun _ _ => ?_) (fun z => absurd ⟨v0, v1⟩ z))
      show zk _ _ 79 _ _ _ _
      refine r_if1 zi_16_79 rfl (fun _ => ?_) (fun c => absurd c (by decide))
      refine r_il1 zi_16_84 rfl ?_
      refine r_sw zi_16_85 rfl ?_
      rw [show zsw [(0, 120), (1, 130), (2, 140), (3, 150), (4, 160)] 170 4 = 160 from by decide]
      refine r_al0 zi_16_160 rfl ?_
      refine q_getR zi_16_161 rfl cf_2_5 ?_
      refine r_il2 zi_16_164 rfl ?_
      refine r_il3 zi_16_165 rfl ?_
      refine r_ast zi_16_166 rfl p ca_8 (by first | rfl | (simp only [zI_add, zI_mul] <;> rfl)) (by first | omega | decide) ?_
      refine r_goto zi_16_167 rfl ?_
      refine r_push zi_16_175 rfl ?_
      refine r_retZ zi_16_176 rfl (by decide) ?_
      exact ⟨_, rfl, hq⟩
    · have hq := h5 ew v0 v1
      clear h0 h1 h2 h3 h4 h5 hx hk
      subst ew
      refine r_il1 zi_16_0 rfl ?_
      refine r_push zi_16_1 rfl ?_
      refine r_ic0 zi_16_2 rfl (fun _ => ?_) (fun c => absurd (by decide) c)
      refine r_push zi_16_28 rfl ?_
      refine r_goto zi_16_29 rfl ?_
      refine r_is4 zi_16_33 rfl ?_
      refine r_il1 zi_16_35 rfl ?_
      refine r_if0 zi_16_36 rfl (fun c => absurd c (by decide)) (fun _ => ?_)
      refine r_il1 zi_16_39 rfl ?_
      refine r_push zi_16_40 rfl ?_
      refine r_ic0 zi_16_41 rfl (fun c => absurd c (by decide)) (fun _ => ?_)
      refine r_il1 zi_16_44 rfl ?_
      refine r_push zi_16_45 rfl ?_
      refine r_ic1 zi_16_46 rfl (fun c => absurd (by decide) c) (fun _ => ?_)
      refine r_push zi_16_49 rfl ?_
      refine r_goto zi_16_51 rfl ?_
      refine r_is5 zi_16_56 rfl ?_
      refine r_il4 zi_16_58 rfl ?_
      refine r_if0 zi_16_60 rfl (fun c => absurd c (by decide)) (fun _ => ?_)
      refine r_il1 zi_16_63 rfl ?_
      refine r_push zi_16_64 rfl ?_
      refine r_push zi_16_65 rfl ?_
      refine r_cIS zi_16_66 rfl rfl rfl rfl rfl rfl (s_within (fun _ _ => ?_) (fun z => absurd ⟨(by decide), (by decide)⟩ z))
      show zk _ _ 69 _ _ _ _
      refine r_if0 zi_16_69 rfl (fun c => absurd c (by decide)) (fun _ => ?_)
      refine r_il3 zi_16_72 rfl ?_
      refine r_push zi_16_73 rfl ?_
      refine r_il5 zi_16_74 rfl ?_
      refine r_cIS zi_16_76 rfl rfl rfl rfl rfl rfl (s_within (fun _ _ => ?_) (fun z => absurd ⟨v0, v1⟩ z))
      show zk _ _ 79 _ _ _ _
      refine r_if1 zi_16_79 rfl (fun _ => ?_) (fun c => absurd c (by decide))
      refine r_il1 zi_16_84 rfl ?_
      refine r_sw zi_16_85 rfl ?_
      rw [show zsw [(0, 120), (1, 130), (2, 140), (3, 150), (4, 160)] 170 5 = 170 from by decide]
      refine r_al0 zi_16_170 rfl ?_
      refine r_il3 zi_16_171 rfl ?_
      refine q_put zi_16_172 rfl cf_2_14 rfl ?_
      refine r_push zi_16_175 rfl ?_
      refine r_retZ zi_16_176 rfl (by decide) ?_
      exact ⟨_, rfl, hq⟩
  · have hx := hx hk
    clear h0 h1 h2 h3 h4 h5
    unfold stOK at hk
    have hsu : ∀ (Q2 : Int32 → zS → Prop), (0 ≤ who → who < nI n → Q2 1 σ) → (¬ (0 ≤ who ∧ who < nI n) → Q2 0 σ) → zI1 d 18 [.ref 2, .int who] σ Q2 := fun Q2 k1 k0 => s_dsubj zDu_2 hn hn18 (fun s hs e => k1 (by rw [e]; exact nI_z (by omega)) (by rw [e]; exact nI_lt hs (by omega))) k0
    refine r_il1 zi_16_0 rfl ?_
    refine r_push zi_16_1 rfl ?_
    refine r_ic0 zi_16_2 rfl (fun c1 => ?_) (fun c1 => ?_)
    · refine r_push zi_16_28 rfl ?_
      refine r_goto zi_16_29 rfl ?_
      refine r_is4 zi_16_33 rfl ?_
      refine r_il1 zi_16_35 rfl ?_
      refine r_if0 zi_16_36 rfl (fun c2 => ?_) (fun c2 => ?_)
      · refine r_push zi_16_49 rfl ?_
        refine r_goto zi_16_51 rfl ?_
        refine r_is5 zi_16_56 rfl ?_
        refine r_il4 zi_16_58 rfl ?_
        refine r_if0 zi_16_60 rfl (fun c => absurd c (by decide)) (fun _ => ?_)
        refine r_il1 zi_16_63 rfl ?_
        refine r_push zi_16_64 rfl ?_
        refine r_push zi_16_65 rfl ?_
        refine r_cIS zi_16_66 rfl rfl rfl rfl rfl rfl (s_within (fun i3 a3 => ?_) (fun i3 => ?_))
        · show zk _ _ 69 _ _ _ _
          refine r_if0 zi_16_69 rfl (fun c => absurd c (by decide)) (fun _ => ?_)
          refine r_il3 zi_16_72 rfl ?_
          refine r_push zi_16_73 rfl ?_
          refine r_il5 zi_16_74 rfl ?_
          refine r_cIS zi_16_76 rfl rfl rfl rfl rfl rfl (s_within (fun i4 a4 => ?_) (fun i4 => ?_))
          · show zk _ _ 79 _ _ _ _
            refine r_if1 zi_16_79 rfl (fun _ => ?_) (fun c => absurd c (by decide))
            exfalso; grind
          · show zk _ _ 79 _ _ _ _
            refine r_if1 zi_16_79 rfl (fun c => absurd (by decide) c) (fun _ => ?_)
            refine r_push zi_16_82 rfl ?_
            refine r_retZ zi_16_83 rfl (by decide) ?_
            exact ⟨_, rfl, hx⟩
        · show zk _ _ 69 _ _ _ _
          refine r_if0 zi_16_69 rfl (fun _ => ?_) (fun c => absurd (by decide) c)
          refine r_push zi_16_82 rfl ?_
          refine r_retZ zi_16_83 rfl (by decide) ?_
          exact ⟨_, rfl, hx⟩
      · refine r_il1 zi_16_39 rfl ?_
        refine r_push zi_16_40 rfl ?_
        refine r_ic0 zi_16_41 rfl (fun c5 => ?_) (fun c5 => ?_)
        · refine r_push zi_16_49 rfl ?_
          refine r_goto zi_16_51 rfl ?_
          refine r_is5 zi_16_56 rfl ?_
          refine r_il4 zi_16_58 rfl ?_
          refine r_if0 zi_16_60 rfl (fun c => absurd c (by decide)) (fun _ => ?_)
          refine r_il1 zi_16_63 rfl ?_
          refine r_push zi_16_64 rfl ?_
          refine r_push zi_16_65 rfl ?_
          refine r_cIS zi_16_66 rfl rfl rfl rfl rfl rfl (s_within (fun i6 a6 => ?_) (fun i6 => ?_))
          · show zk _ _ 69 _ _ _ _
            refine r_if0 zi_16_69 rfl (fun c => absurd c (by decide)) (fun _ => ?_)
            refine r_il3 zi_16_72 rfl ?_
            refine r_push zi_16_73 rfl ?_
            refine r_il5 zi_16_74 rfl ?_
            refine r_cIS zi_16_76 rfl rfl rfl rfl rfl rfl (s_within (fun i7 a7 => ?_) (fun i7 => ?_))
            · show zk _ _ 79 _ _ _ _
              refine r_if1 zi_16_79 rfl (fun _ => ?_) (fun c => absurd c (by decide))
              exfalso; grind
            · show zk _ _ 79 _ _ _ _
              refine r_if1 zi_16_79 rfl (fun c => absurd (by decide) c) (fun _ => ?_)
              refine r_push zi_16_82 rfl ?_
              refine r_retZ zi_16_83 rfl (by decide) ?_
              exact ⟨_, rfl, hx⟩
          · show zk _ _ 69 _ _ _ _
            refine r_if0 zi_16_69 rfl (fun _ => ?_) (fun c => absurd (by decide) c)
            refine r_push zi_16_82 rfl ?_
            refine r_retZ zi_16_83 rfl (by decide) ?_
            exact ⟨_, rfl, hx⟩
        · refine r_il1 zi_16_44 rfl ?_
          refine r_push zi_16_45 rfl ?_
          refine r_ic1 zi_16_46 rfl (fun c8 => ?_) (fun c8 => ?_)
          · refine r_push zi_16_54 rfl ?_
            refine r_is5 zi_16_56 rfl ?_
            refine r_il4 zi_16_58 rfl ?_
            refine r_if0 zi_16_60 rfl (fun c => absurd c (by decide)) (fun _ => ?_)
            refine r_il1 zi_16_63 rfl ?_
            refine r_push zi_16_64 rfl ?_
            refine r_push zi_16_65 rfl ?_
            refine r_cIS zi_16_66 rfl rfl rfl rfl rfl rfl (s_within (fun i9 a9 => ?_) (fun i9 => ?_))
            · show zk _ _ 69 _ _ _ _
              refine r_if0 zi_16_69 rfl (fun c => absurd c (by decide)) (fun _ => ?_)
              refine r_il3 zi_16_72 rfl ?_
              refine r_push zi_16_73 rfl ?_
              refine r_il5 zi_16_74 rfl ?_
              refine r_cIS zi_16_76 rfl rfl rfl rfl rfl rfl (s_within (fun i10 a10 => ?_) (fun i10 => ?_))
              · show zk _ _ 79 _ _ _ _
                refine r_if1 zi_16_79 rfl (fun _ => ?_) (fun c => absurd c (by decide))
                exfalso; grind
              · show zk _ _ 79 _ _ _ _
                refine r_if1 zi_16_79 rfl (fun c => absurd (by decide) c) (fun _ => ?_)
                refine r_push zi_16_82 rfl ?_
                refine r_retZ zi_16_83 rfl (by decide) ?_
                exact ⟨_, rfl, hx⟩
            · show zk _ _ 69 _ _ _ _
              refine r_if0 zi_16_69 rfl (fun _ => ?_) (fun c => absurd (by decide) c)
              refine r_push zi_16_82 rfl ?_
              refine r_retZ zi_16_83 rfl (by decide) ?_
              exact ⟨_, rfl, hx⟩
          · refine r_push zi_16_49 rfl ?_
            refine r_goto zi_16_51 rfl ?_
            refine r_is5 zi_16_56 rfl ?_
            refine r_il4 zi_16_58 rfl ?_
            refine r_if0 zi_16_60 rfl (fun c => absurd c (by decide)) (fun _ => ?_)
            refine r_il1 zi_16_63 rfl ?_
            refine r_push zi_16_64 rfl ?_
            refine r_push zi_16_65 rfl ?_
            refine r_cIS zi_16_66 rfl rfl rfl rfl rfl rfl (s_within (fun i11 a11 => ?_) (fun i11 => ?_))
            · show zk _ _ 69 _ _ _ _
              refine r_if0 zi_16_69 rfl (fun c => absurd c (by decide)) (fun _ => ?_)
              refine r_il3 zi_16_72 rfl ?_
              refine r_push zi_16_73 rfl ?_
              refine r_il5 zi_16_74 rfl ?_
              refine r_cIS zi_16_76 rfl rfl rfl rfl rfl rfl (s_within (fun i12 a12 => ?_) (fun i12 => ?_))
              · show zk _ _ 79 _ _ _ _
                refine r_if1 zi_16_79 rfl (fun _ => ?_) (fun c => absurd c (by decide))
                exfalso; grind
              · show zk _ _ 79 _ _ _ _
                refine r_if1 zi_16_79 rfl (fun c => absurd (by decide) c) (fun _ => ?_)
                refine r_push zi_16_82 rfl ?_
                refine r_retZ zi_16_83 rfl (by decide) ?_
                exact ⟨_, rfl, hx⟩
            · show zk _ _ 69 _ _ _ _
              refine r_if0 zi_16_69 rfl (fun _ => ?_) (fun c => absurd (by decide) c)
              refine r_push zi_16_82 rfl ?_
              refine r_retZ zi_16_83 rfl (by decide) ?_
              exact ⟨_, rfl, hx⟩
    · refine r_il1 zi_16_5 rfl ?_
      refine r_push zi_16_6 rfl ?_
      refine r_ic3 zi_16_7 rfl (fun c13 => ?_) (fun c13 => ?_)
      · refine r_al0 zi_16_20 rfl ?_
        refine r_il2 zi_16_21 rfl ?_
        refine q_cIV zi_16_22 rfl rfl rfl rfl rfl rfl rfl cf_2_0.ob (hsu _ (fun i14 a14 => ?_) (fun i14 => ?_))
        · show zk _ _ 25 _ _ _ _
          refine r_if0 zi_16_25 rfl (fun c => absurd c (by decide)) (fun _ => ?_)
          refine r_push zi_16_28 rfl ?_
          refine r_goto zi_16_29 rfl ?_
          refine r_is4 zi_16_33 rfl ?_
          refine r_il1 zi_16_35 rfl ?_
          refine r_if0 zi_16_36 rfl (fun c15 => ?_) (fun c15 => ?_)
          · refine r_push zi_16_49 rfl ?_
            refine r_goto zi_16_51 rfl ?_
            refine r_is5 zi_16_56 rfl ?_
            refine r_il4 zi_16_58 rfl ?_
            refine r_if0 zi_16_60 rfl (fun c => absurd c (by decide)) (fun _ => ?_)
            refine r_il1 zi_16_63 rfl ?_
            refine r_push zi_16_64 rfl ?_
            refine r_push zi_16_65 rfl ?_
            refine r_cIS zi_16_66 rfl rfl rfl rfl rfl rfl (s_within (fun i16 a16 => ?_) (fun i16 => ?_))
            · show zk _ _ 69 _ _ _ _
              refine r_if0 zi_16_69 rfl (fun c => absurd c (by decide)) (fun _ => ?_)
              refine r_il3 zi_16_72 rfl ?_
              refine r_push zi_16_73 rfl ?_
              refine r_il5 zi_16_74 rfl ?_
              refine r_cIS zi_16_76 rfl rfl rfl rfl rfl rfl (s_within (fun i17 a17 => ?_) (fun i17 => ?_))
              · show zk _ _ 79 _ _ _ _
                refine r_if1 zi_16_79 rfl (fun _ => ?_) (fun c => absurd c (by decide))
                exfalso; grind
              · show zk _ _ 79 _ _ _ _
                refine r_if1 zi_16_79 rfl (fun c => absurd (by decide) c) (fun _ => ?_)
                refine r_push zi_16_82 rfl ?_
                refine r_retZ zi_16_83 rfl (by decide) ?_
                exact ⟨_, rfl, hx⟩
            · show zk _ _ 69 _ _ _ _
              refine r_if0 zi_16_69 rfl (fun _ => ?_) (fun c => absurd (by decide) c)
              refine r_push zi_16_82 rfl ?_
              refine r_retZ zi_16_83 rfl (by decide) ?_
              exact ⟨_, rfl, hx⟩
          · refine r_il1 zi_16_39 rfl ?_
            refine r_push zi_16_40 rfl ?_
            refine r_ic0 zi_16_41 rfl (fun c18 => ?_) (fun c18 => ?_)
            · refine r_push zi_16_49 rfl ?_
              refine r_goto zi_16_51 rfl ?_
              refine r_is5 zi_16_56 rfl ?_
              refine r_il4 zi_16_58 rfl ?_
              refine r_if0 zi_16_60 rfl (fun c => absurd c (by decide)) (fun _ => ?_)
              refine r_il1 zi_16_63 rfl ?_
              refine r_push zi_16_64 rfl ?_
              refine r_push zi_16_65 rfl ?_
              refine r_cIS zi_16_66 rfl rfl rfl rfl rfl rfl (s_within (fun i19 a19 => ?_) (fun i19 => ?_))
              · show zk _ _ 69 _ _ _ _
                refine r_if0 zi_16_69 rfl (fun c => absurd c (by decide)) (fun _ => ?_)
                refine r_il3 zi_16_72 rfl ?_
                refine r_push zi_16_73 rfl ?_
                refine r_il5 zi_16_74 rfl ?_
                refine r_cIS zi_16_76 rfl rfl rfl rfl rfl rfl (s_within (fun i20 a20 => ?_) (fun i20 => ?_))
                · show zk _ _ 79 _ _ _ _
                  refine r_if1 zi_16_79 rfl (fun _ => ?_) (fun c => absurd c (by decide))
                  exfalso; grind
                · show zk _ _ 79 _ _ _ _
                  refine r_if1 zi_16_79 rfl (fun c => absurd (by decide) c) (fun _ => ?_)
                  refine r_push zi_16_82 rfl ?_
                  refine r_retZ zi_16_83 rfl (by decide) ?_
                  exact ⟨_, rfl, hx⟩
              · show zk _ _ 69 _ _ _ _
                refine r_if0 zi_16_69 rfl (fun _ => ?_) (fun c => absurd (by decide) c)
                refine r_push zi_16_82 rfl ?_
                refine r_retZ zi_16_83 rfl (by decide) ?_
                exact ⟨_, rfl, hx⟩
            · refine r_il1 zi_16_44 rfl ?_
              refine r_push zi_16_45 rfl ?_
              refine r_ic1 zi_16_46 rfl (fun c21 => ?_) (fun c21 => ?_)
              · refine r_push zi_16_54 rfl ?_
                refine r_is5 zi_16_56 rfl ?_
                refine r_il4 zi_16_58 rfl ?_
                refine r_if0 zi_16_60 rfl (fun c => absurd c (by decide)) (fun _ => ?_)
                refine r_il1 zi_16_63 rfl ?_
                refine r_push zi_16_64 rfl ?_
                refine r_push zi_16_65 rfl ?_
                refine r_cIS zi_16_66 rfl rfl rfl rfl rfl rfl (s_within (fun i22 a22 => ?_) (fun i22 => ?_))
                · show zk _ _ 69 _ _ _ _
                  refine r_if0 zi_16_69 rfl (fun c => absurd c (by decide)) (fun _ => ?_)
                  refine r_il3 zi_16_72 rfl ?_
                  refine r_push zi_16_73 rfl ?_
                  refine r_il5 zi_16_74 rfl ?_
                  refine r_cIS zi_16_76 rfl rfl rfl rfl rfl rfl (s_within (fun i23 a23 => ?_) (fun i23 => ?_))
                  · show zk _ _ 79 _ _ _ _
                    refine r_if1 zi_16_79 rfl (fun _ => ?_) (fun c => absurd c (by decide))
                    exfalso; grind
                  · show zk _ _ 79 _ _ _ _
                    refine r_if1 zi_16_79 rfl (fun c => absurd (by decide) c) (fun _ => ?_)
                    refine r_push zi_16_82 rfl ?_
                    refine r_retZ zi_16_83 rfl (by decide) ?_
                    exact ⟨_, rfl, hx⟩
                · show zk _ _ 69 _ _ _ _
                  refine r_if0 zi_16_69 rfl (fun _ => ?_) (fun c => absurd (by decide) c)
                  refine r_push zi_16_82 rfl ?_
                  refine r_retZ zi_16_83 rfl (by decide) ?_
                  exact ⟨_, rfl, hx⟩
              · refine r_push zi_16_49 rfl ?_
                refine r_goto zi_16_51 rfl ?_
                refine r_is5 zi_16_56 rfl ?_
                refine r_il4 zi_16_58 rfl ?_
                refine r_if0 zi_16_60 rfl (fun c => absurd c (by decide)) (fun _ => ?_)
                refine r_il1 zi_16_63 rfl ?_
                refine r_push zi_16_64 rfl ?_
                refine r_push zi_16_65 rfl ?_
                refine r_cIS zi_16_66 rfl rfl rfl rfl rfl rfl (s_within (fun i24 a24 => ?_) (fun i24 => ?_))
                · show zk _ _ 69 _ _ _ _
                  refine r_if0 zi_16_69 rfl (fun c => absurd c (by decide)) (fun _ => ?_)
                  refine r_il3 zi_16_72 rfl ?_
                  refine r_push zi_16_73 rfl ?_
                  refine r_il5 zi_16_74 rfl ?_
                  refine r_cIS zi_16_76 rfl rfl rfl rfl rfl rfl (s_within (fun i25 a25 => ?_) (fun i25 => ?_))
                  · show zk _ _ 79 _ _ _ _
                    refine r_if1 zi_16_79 rfl (fun _ => ?_) (fun c => absurd c (by decide))
                    exfalso; grind
                  · show zk _ _ 79 _ _ _ _
                    refine r_if1 zi_16_79 rfl (fun c => absurd (by decide) c) (fun _ => ?_)
                    refine r_push zi_16_82 rfl ?_
                    refine r_retZ zi_16_83 rfl (by decide) ?_
                    exact ⟨_, rfl, hx⟩
                · show zk _ _ 69 _ _ _ _
                  refine r_if0 zi_16_69 rfl (fun _ => ?_) (fun c => absurd (by decide) c)
                  refine r_push zi_16_82 rfl ?_
                  refine r_retZ zi_16_83 rfl (by decide) ?_
                  exact ⟨_, rfl, hx⟩
        · show zk _ _ 25 _ _ _ _
          refine r_if0 zi_16_25 rfl (fun _ => ?_) (fun c => absurd (by decide) c)
          refine r_push zi_16_32 rfl ?_
          refine r_is4 zi_16_33 rfl ?_
          refine r_il1 zi_16_35 rfl ?_
          refine r_if0 zi_16_36 rfl (fun c26 => ?_) (fun c26 => ?_)
          · refine r_push zi_16_49 rfl ?_
            refine r_goto zi_16_51 rfl ?_
            refine r_is5 zi_16_56 rfl ?_
            refine r_il4 zi_16_58 rfl ?_
            refine r_if0 zi_16_60 rfl (fun _ => ?_) (fun c => absurd (by decide) c)
            refine r_push zi_16_82 rfl ?_
            refine r_retZ zi_16_83 rfl (by decide) ?_
            exact ⟨_, rfl, hx⟩
          · refine r_il1 zi_16_39 rfl ?_
            refine r_push zi_16_40 rfl ?_
            refine r_ic0 zi_16_41 rfl (fun c27 => ?_) (fun c27 => ?_)
            · refine r_push zi_16_49 rfl ?_
              refine r_goto zi_16_51 rfl ?_
              refine r_is5 zi_16_56 rfl ?_
              refine r_il4 zi_16_58 rfl ?_
              refine r_if0 zi_16_60 rfl (fun _ => ?_) (fun c => absurd (by decide) c)
              refine r_push zi_16_82 rfl ?_
              refine r_retZ zi_16_83 rfl (by decide) ?_
              exact ⟨_, rfl, hx⟩
            · refine r_il1 zi_16_44 rfl ?_
              refine r_push zi_16_45 rfl ?_
              refine r_ic1 zi_16_46 rfl (fun c28 => ?_) (fun c28 => ?_)
              · refine r_push zi_16_54 rfl ?_
                refine r_is5 zi_16_56 rfl ?_
                refine r_il4 zi_16_58 rfl ?_
                refine r_if0 zi_16_60 rfl (fun _ => ?_) (fun c => absurd (by decide) c)
                refine r_push zi_16_82 rfl ?_
                refine r_retZ zi_16_83 rfl (by decide) ?_
                exact ⟨_, rfl, hx⟩
              · refine r_push zi_16_49 rfl ?_
                refine r_goto zi_16_51 rfl ?_
                refine r_is5 zi_16_56 rfl ?_
                refine r_il4 zi_16_58 rfl ?_
                refine r_if0 zi_16_60 rfl (fun _ => ?_) (fun c => absurd (by decide) c)
                refine r_push zi_16_82 rfl ?_
                refine r_retZ zi_16_83 rfl (by decide) ?_
                exact ⟨_, rfl, hx⟩
      · refine r_il2 zi_16_10 rfl ?_
        refine r_cIS zi_16_11 rfl rfl rfl rfl rfl rfl (s_kplace (fun i29 a29 => ?_) (fun i29 => ?_))
        · show zk _ _ 14 _ _ _ _
          refine r_if0 zi_16_14 rfl (fun c => absurd c (by decide)) (fun _ => ?_)
          refine r_goto zi_16_17 rfl ?_
          refine r_push zi_16_28 rfl ?_
          refine r_goto zi_16_29 rfl ?_
          refine r_is4 zi_16_33 rfl ?_
          refine r_il1 zi_16_35 rfl ?_
          refine r_if0 zi_16_36 rfl (fun c30 => ?_) (fun c30 => ?_)
          · refine r_push zi_16_49 rfl ?_
            refine r_goto zi_16_51 rfl ?_
            refine r_is5 zi_16_56 rfl ?_
            refine r_il4 zi_16_58 rfl ?_
            refine r_if0 zi_16_60 rfl (fun c => absurd c (by decide)) (fun _ => ?_)
            refine r_il1 zi_16_63 rfl ?_
            refine r_push zi_16_64 rfl ?_
            refine r_push zi_16_65 rfl ?_
            refine r_cIS zi_16_66 rfl rfl rfl rfl rfl rfl (s_within (fun i31 a31 => ?_) (fun i31 => ?_))
            · show zk _ _ 69 _ _ _ _
              refine r_if0 zi_16_69 rfl (fun c => absurd c (by decide)) (fun _ => ?_)
              refine r_il3 zi_16_72 rfl ?_
              refine r_push zi_16_73 rfl ?_
              refine r_il5 zi_16_74 rfl ?_
              refine r_cIS zi_16_76 rfl rfl rfl rfl rfl rfl (s_within (fun i32 a32 => ?_) (fun i32 => ?_))
              · show zk _ _ 79 _ _ _ _
                refine r_if1 zi_16_79 rfl (fun _ => ?_) (fun c => absurd c (by decide))
                exfalso; grind
              · show zk _ _ 79 _ _ _ _
                refine r_if1 zi_16_79 rfl (fun c => absurd (by decide) c) (fun _ => ?_)
                refine r_push zi_16_82 rfl ?_
                refine r_retZ zi_16_83 rfl (by decide) ?_
                exact ⟨_, rfl, hx⟩
            · show zk _ _ 69 _ _ _ _
              refine r_if0 zi_16_69 rfl (fun _ => ?_) (fun c => absurd (by decide) c)
              refine r_push zi_16_82 rfl ?_
              refine r_retZ zi_16_83 rfl (by decide) ?_
              exact ⟨_, rfl, hx⟩
          · refine r_il1 zi_16_39 rfl ?_
            refine r_push zi_16_40 rfl ?_
            refine r_ic0 zi_16_41 rfl (fun c33 => ?_) (fun c33 => ?_)
            · refine r_push zi_16_49 rfl ?_
              refine r_goto zi_16_51 rfl ?_
              refine r_is5 zi_16_56 rfl ?_
              refine r_il4 zi_16_58 rfl ?_
              refine r_if0 zi_16_60 rfl (fun c => absurd c (by decide)) (fun _ => ?_)
              refine r_il1 zi_16_63 rfl ?_
              refine r_push zi_16_64 rfl ?_
              refine r_push zi_16_65 rfl ?_
              refine r_cIS zi_16_66 rfl rfl rfl rfl rfl rfl (s_within (fun i34 a34 => ?_) (fun i34 => ?_))
              · show zk _ _ 69 _ _ _ _
                refine r_if0 zi_16_69 rfl (fun c => absurd c (by decide)) (fun _ => ?_)
                refine r_il3 zi_16_72 rfl ?_
                refine r_push zi_16_73 rfl ?_
                refine r_il5 zi_16_74 rfl ?_
                refine r_cIS zi_16_76 rfl rfl rfl rfl rfl rfl (s_within (fun i35 a35 => ?_) (fun i35 => ?_))
                · show zk _ _ 79 _ _ _ _
                  refine r_if1 zi_16_79 rfl (fun _ => ?_) (fun c => absurd c (by decide))
                  exfalso; grind
                · show zk _ _ 79 _ _ _ _
                  refine r_if1 zi_16_79 rfl (fun c => absurd (by decide) c) (fun _ => ?_)
                  refine r_push zi_16_82 rfl ?_
                  refine r_retZ zi_16_83 rfl (by decide) ?_
                  exact ⟨_, rfl, hx⟩
              · show zk _ _ 69 _ _ _ _
                refine r_if0 zi_16_69 rfl (fun _ => ?_) (fun c => absurd (by decide) c)
                refine r_push zi_16_82 rfl ?_
                refine r_retZ zi_16_83 rfl (by decide) ?_
                exact ⟨_, rfl, hx⟩
            · refine r_il1 zi_16_44 rfl ?_
              refine r_push zi_16_45 rfl ?_
              refine r_ic1 zi_16_46 rfl (fun c36 => ?_) (fun c36 => ?_)
              · refine r_push zi_16_54 rfl ?_
                refine r_is5 zi_16_56 rfl ?_
                refine r_il4 zi_16_58 rfl ?_
                refine r_if0 zi_16_60 rfl (fun c => absurd c (by decide)) (fun _ => ?_)
                refine r_il1 zi_16_63 rfl ?_
                refine r_push zi_16_64 rfl ?_
                refine r_push zi_16_65 rfl ?_
                refine r_cIS zi_16_66 rfl rfl rfl rfl rfl rfl (s_within (fun i37 a37 => ?_) (fun i37 => ?_))
                · show zk _ _ 69 _ _ _ _
                  refine r_if0 zi_16_69 rfl (fun c => absurd c (by decide)) (fun _ => ?_)
                  refine r_il3 zi_16_72 rfl ?_
                  refine r_push zi_16_73 rfl ?_
                  refine r_il5 zi_16_74 rfl ?_
                  refine r_cIS zi_16_76 rfl rfl rfl rfl rfl rfl (s_within (fun i38 a38 => ?_) (fun i38 => ?_))
                  · show zk _ _ 79 _ _ _ _
                    refine r_if1 zi_16_79 rfl (fun _ => ?_) (fun c => absurd c (by decide))
                    exfalso; grind
                  · show zk _ _ 79 _ _ _ _
                    refine r_if1 zi_16_79 rfl (fun c => absurd (by decide) c) (fun _ => ?_)
                    refine r_push zi_16_82 rfl ?_
                    refine r_retZ zi_16_83 rfl (by decide) ?_
                    exact ⟨_, rfl, hx⟩
                · show zk _ _ 69 _ _ _ _
                  refine r_if0 zi_16_69 rfl (fun _ => ?_) (fun c => absurd (by decide) c)
                  refine r_push zi_16_82 rfl ?_
                  refine r_retZ zi_16_83 rfl (by decide) ?_
                  exact ⟨_, rfl, hx⟩
              · refine r_push zi_16_49 rfl ?_
                refine r_goto zi_16_51 rfl ?_
                refine r_is5 zi_16_56 rfl ?_
                refine r_il4 zi_16_58 rfl ?_
                refine r_if0 zi_16_60 rfl (fun c => absurd c (by decide)) (fun _ => ?_)
                refine r_il1 zi_16_63 rfl ?_
                refine r_push zi_16_64 rfl ?_
                refine r_push zi_16_65 rfl ?_
                refine r_cIS zi_16_66 rfl rfl rfl rfl rfl rfl (s_within (fun i39 a39 => ?_) (fun i39 => ?_))
                · show zk _ _ 69 _ _ _ _
                  refine r_if0 zi_16_69 rfl (fun c => absurd c (by decide)) (fun _ => ?_)
                  refine r_il3 zi_16_72 rfl ?_
                  refine r_push zi_16_73 rfl ?_
                  refine r_il5 zi_16_74 rfl ?_
                  refine r_cIS zi_16_76 rfl rfl rfl rfl rfl rfl (s_within (fun i40 a40 => ?_) (fun i40 => ?_))
                  · show zk _ _ 79 _ _ _ _
                    refine r_if1 zi_16_79 rfl (fun _ => ?_) (fun c => absurd c (by decide))
                    exfalso; grind
                  · show zk _ _ 79 _ _ _ _
                    refine r_if1 zi_16_79 rfl (fun c => absurd (by decide) c) (fun _ => ?_)
                    refine r_push zi_16_82 rfl ?_
                    refine r_retZ zi_16_83 rfl (by decide) ?_
                    exact ⟨_, rfl, hx⟩
                · show zk _ _ 69 _ _ _ _
                  refine r_if0 zi_16_69 rfl (fun _ => ?_) (fun c => absurd (by decide) c)
                  refine r_push zi_16_82 rfl ?_
                  refine r_retZ zi_16_83 rfl (by decide) ?_
                  exact ⟨_, rfl, hx⟩
        · show zk _ _ 14 _ _ _ _
          refine r_if0 zi_16_14 rfl (fun _ => ?_) (fun c => absurd (by decide) c)
          refine r_push zi_16_32 rfl ?_
          refine r_is4 zi_16_33 rfl ?_
          refine r_il1 zi_16_35 rfl ?_
          refine r_if0 zi_16_36 rfl (fun c41 => ?_) (fun c41 => ?_)
          · refine r_push zi_16_49 rfl ?_
            refine r_goto zi_16_51 rfl ?_
            refine r_is5 zi_16_56 rfl ?_
            refine r_il4 zi_16_58 rfl ?_
            refine r_if0 zi_16_60 rfl (fun _ => ?_) (fun c => absurd (by decide) c)
            refine r_push zi_16_82 rfl ?_
            refine r_retZ zi_16_83 rfl (by decide) ?_
            exact ⟨_, rfl, hx⟩
          · refine r_il1 zi_16_39 rfl ?_
            refine r_push zi_16_40 rfl ?_
            refine r_ic0 zi_16_41 rfl (fun c42 => ?_) (fun c42 => ?_)
            · refine r_push zi_16_49 rfl ?_
              refine r_goto zi_16_51 rfl ?_
              refine r_is5 zi_16_56 rfl ?_
              refine r_il4 zi_16_58 rfl ?_
              refine r_if0 zi_16_60 rfl (fun _ => ?_) (fun c => absurd (by decide) c)
              refine r_push zi_16_82 rfl ?_
              refine r_retZ zi_16_83 rfl (by decide) ?_
              exact ⟨_, rfl, hx⟩
            · refine r_il1 zi_16_44 rfl ?_
              refine r_push zi_16_45 rfl ?_
              refine r_ic1 zi_16_46 rfl (fun c43 => ?_) (fun c43 => ?_)
              · refine r_push zi_16_54 rfl ?_
                refine r_is5 zi_16_56 rfl ?_
                refine r_il4 zi_16_58 rfl ?_
                refine r_if0 zi_16_60 rfl (fun _ => ?_) (fun c => absurd (by decide) c)
                refine r_push zi_16_82 rfl ?_
                refine r_retZ zi_16_83 rfl (by decide) ?_
                exact ⟨_, rfl, hx⟩
              · refine r_push zi_16_49 rfl ?_
                refine r_goto zi_16_51 rfl ?_
                refine r_is5 zi_16_56 rfl ?_
                refine r_il4 zi_16_58 rfl ?_
                refine r_if0 zi_16_60 rfl (fun _ => ?_) (fun c => absurd (by decide) c)
                refine r_push zi_16_82 rfl ?_
                refine r_retZ zi_16_83 rfl (by decide) ?_
                exact ⟨_, rfl, hx⟩
theorem s_kset {d n : Nat} {σ : zS} {Q : Int32 → zS → Prop} {what who v : Int32} (hn : σ 2 11 = nI n) (hn18 : n ≤ 18) (h0 : ∀ p, p < 12 → what = 0 → who = nI p → 0 ≤ v → v ≤ 9 → Q 1 (up (up σ 3 p v) 95 2 0)) (h1 : ∀ p, p < 12 → what = 1 → who = nI p → 0 ≤ v → v ≤ 99 → Q 1 (up (up σ 4 p v) 95 2 0)) (h2 : ∀ p, p < 12 → what = 2 → who = nI p → 0 ≤ v → v ≤ 99 → Q 1 (up (up σ 5 p v) 95 2 0)) (h3 : ∀ p, p < n → what = 3 → who = nI p → 0 ≤ v → v ≤ 9 → Q 1 (up (up σ 7 p v) 95 2 0)) (h4 : ∀ p, p < n → what = 4 → who = nI p → 0 ≤ v → v ≤ 99 → Q 1 (up (up σ 8 p v) 95 2 0)) (h5 : what = 5 → 0 ≤ v → v ≤ 9 → Q 1 (up (up σ 2 14 v) 95 2 0)) (hx : ¬ stOK what who v n → Q 0 σ) : zI1 (d + 2) 123 [.ref 0, .int what, .int who, .int v] σ Q := by
  show zk _ _ 0 [.ref 0, .int what, .int who, .int v, zun] [] _ _
  refine r_al0 zi_123_0 rfl ?_
  refine q_getR zi_123_1 rfl cf_0_0 ?_
  refine q_getR zi_123_4 rfl cf_1_0 ?_
  refine r_il1 zi_123_7 rfl ?_
  refine r_il2 zi_123_8 rfl ?_
  refine r_il3 zi_123_9 rfl ?_
  refine q_cIV zi_123_10 rfl rfl rfl rfl rfl rfl rfl cf_2_0.ob (s_ktakes hn hn18 (fun x00 x01 x02 x03 x04 x05 => ?_) (fun x10 x11 x12 x13 x14 x15 => ?_) (fun x20 x21 x22 x23 x24 x25 => ?_) (fun x30 x31 x32 x33 x34 x35 => ?_) (fun x40 x41 x42 x43 x44 x45 => ?_) (fun x50 x51 x52 => ?_) (fun xx => ?_))
  · show zk _ _ 13 _ _ _ _
    refine r_is4 zi_123_13 rfl ?_
    refine r_il4 zi_123_15 rfl ?_
    refine r_if0 zi_123_17 rfl (fun c => absurd c (by decide)) (fun _ => ?_)
    refine r_al0 zi_123_20 rfl ?_
    refine q_getR zi_123_21 rfl cf_0_6 ?_
    refine q_cVV zi_123_24 rfl rfl rfl rfl rfl rfl rfl cf_95_0.ob (s_forget ?_)
    show zk _ _ 27 _ _ _ _
    refine r_il4 zi_123_27 rfl ?_
    refine r_retZ zi_123_29 rfl (by decide) ?_
    first | exact ⟨_, rfl, hx (by assumption)⟩ | exact ⟨_, rfl, h0 _ (by assumption) (by assumption) (by assumption) (by assumption) (by assumption)⟩ | exact ⟨_, rfl, h1 _ (by assumption) (by assumption) (by assumption) (by assumption) (by assumption)⟩ | exact ⟨_, rfl, h2 _ (by assumption) (by assumption) (by assumption) (by assumption) (by assumption)⟩ | exact ⟨_, rfl, h3 _ (by assumption) (by assumption) (by assumption) (by assumption) (by assumption)⟩ | exact ⟨_, rfl, h4 _ (by assumption) (by assumption) (by assumption) (by assumption) (by assumption)⟩ | exact ⟨_, rfl, h5 (by assumption) (by assumption) (by assumption)⟩
  · show zk _ _ 13 _ _ _ _
    refine r_is4 zi_123_13 rfl ?_
    refine r_il4 zi_123_15 rfl ?_
    refine r_if0 zi_123_17 rfl (fun c => absurd c (by decide)) (fun _ => ?_)
    refine r_al0 zi_123_20 rfl ?_
    refine q_getR zi_123_21 rfl cf_0_6 ?_
    refine q_cVV zi_123_24 rfl rfl rfl rfl rfl rfl rfl cf_95_0.ob (s_forget ?_)
    show zk _ _ 27 _ _ _ _
    refine r_il4 zi_123_27 rfl ?_
    refine r_retZ zi_123_29 rfl (by decide) ?_
    first | exact ⟨_, rfl, hx (by assumption)⟩ | exact ⟨_, rfl, h0 _ (by assumption) (by assumption) (by assumption) (by assumption) (by assumption)⟩ | exact ⟨_, rfl, h1 _ (by assumption) (by assumption) (by assumption) (by assumption) (by assumption)⟩ | exact ⟨_, rfl, h2 _ (by assumption) (by assumption) (by assumption) (by assumption) (by assumption)⟩ | exact ⟨_, rfl, h3 _ (by assumption) (by assumption) (by assumption) (by assumption) (by assumption)⟩ | exact ⟨_, rfl, h4 _ (by assumption) (by assumption) (by assumption) (by assumption) (by assumption)⟩ | exact ⟨_, rfl, h5 (by assumption) (by assumption) (by assumption)⟩
  · show zk _ _ 13 _ _ _ _
    refine r_is4 zi_123_13 rfl ?_
    refine r_il4 zi_123_15 rfl ?_
    refine r_if0 zi_123_17 rfl (fun c => absurd c (by decide)) (fun _ => ?_)
    refine r_al0 zi_123_20 rfl ?_
    refine q_getR zi_123_21 rfl cf_0_6 ?_
    refine q_cVV zi_123_24 rfl rfl rfl rfl rfl rfl rfl cf_95_0.ob (s_forget ?_)
    show zk _ _ 27 _ _ _ _
    refine r_il4 zi_123_27 rfl ?_
    refine r_retZ zi_123_29 rfl (by decide) ?_
    first | exact ⟨_, rfl, hx (by assumption)⟩ | exact ⟨_, rfl, h0 _ (by assumption) (by assumption) (by assumption) (by assumption) (by assumption)⟩ | exact ⟨_, rfl, h1 _ (by assumption) (by assumption) (by assumption) (by assumption) (by assumption)⟩ | exact ⟨_, rfl, h2 _ (by assumption) (by assumption) (by assumption) (by assumption) (by assumption)⟩ | exact ⟨_, rfl, h3 _ (by assumption) (by assumption) (by assumption) (by assumption) (by assumption)⟩ | exact ⟨_, rfl, h4 _ (by assumption) (by assumption) (by assumption) (by assumption) (by assumption)⟩ | exact ⟨_, rfl, h5 (by assumption) (by assumption) (by assumption)⟩
  · show zk _ _ 13 _ _ _ _
    refine r_is4 zi_123_13 rfl ?_
    refine r_il4 zi_123_15 rfl ?_
    refine r_if0 zi_123_17 rfl (fun c => absurd c (by decide)) (fun _ => ?_)
    refine r_al0 zi_123_20 rfl ?_
    refine q_getR zi_123_21 rfl cf_0_6 ?_
    refine q_cVV zi_123_24 rfl rfl rfl rfl rfl rfl rfl cf_95_0.ob (s_forget ?_)
    show zk _ _ 27 _ _ _ _
    refine r_il4 zi_123_27 rfl ?_
    refine r_retZ zi_123_29 rfl (by decide) ?_
    first | exact ⟨_, rfl, hx (by assumption)⟩ | exact ⟨_, rfl, h0 _ (by assumption) (by assumption) (by assumption) (by assumption) (by assumption)⟩ | exact ⟨_, rfl, h1 _ (by assumption) (by assumption) (by assumption) (by assumption) (by assumption)⟩ | exact ⟨_, rfl, h2 _ (by assumption) (by assumption) (by assumption) (by assumption) (by assumption)⟩ | exact ⟨_, rfl, h3 _ (by assumption) (by assumption) (by assumption) (by assumption) (by assumption)⟩ | exact ⟨_, rfl, h4 _ (by assumption) (by assumption) (by assumption) (by assumption) (by assumption)⟩ | exact ⟨_, rfl, h5 (by assumption) (by assumption) (by assumption)⟩
  · show zk _ _ 13 _ _ _ _
    refine r_is4 zi_123_13 rfl ?_
    refine r_il4 zi_123_15 rfl ?_
    refine r_if0 zi_123_17 rfl (fun c => absurd c (by decide)) (fun _ => ?_)
    refine r_al0 zi_123_20 rfl ?_
    refine q_getR zi_123_21 rfl cf_0_6 ?_
    refine q_cVV zi_123_24 rfl rfl rfl rfl rfl rfl rfl cf_95_0.ob (s_forget ?_)
    show zk _ _ 27 _ _ _ _
    refine r_il4 zi_123_27 rfl ?_
    refine r_retZ zi_123_29 rfl (by decide) ?_
    first | exact ⟨_, rfl, hx (by assumption)⟩ | exact ⟨_, rfl, h0 _ (by assumption) (by assumption) (by assumption) (by assumption) (by assumption)⟩ | exact ⟨_, rfl, h1 _ (by assumption) (by assumption) (by assumption) (by assumption) (by assumption)⟩ | exact ⟨_, rfl, h2 _ (by assumption) (by assumption) (by assumption) (by assumption) (by assumption)⟩ | exact ⟨_, rfl, h3 _ (by assumption) (by assumption) (by assumption) (by assumption) (by assumption)⟩ | exact ⟨_, rfl, h4 _ (by assumption) (by assumption) (by assumption) (by assumption) (by assumption)⟩ | exact ⟨_, rfl, h5 (by assumption) (by assumption) (by assumption)⟩
  · show zk _ _ 13 _ _ _ _
    refine r_is4 zi_123_13 rfl ?_
    refine r_il4 zi_123_15 rfl ?_
    refine r_if0 zi_123_17 rfl (fun c => absurd c (by decide)) (fun _ => ?_)
    refine r_al0 zi_123_20 rfl ?_
    refine q_getR zi_123_21 rfl cf_0_6 ?_
    refine q_cVV zi_123_24 rfl rfl rfl rfl rfl rfl rfl cf_95_0.ob (s_forget ?_)
    show zk _ _ 27 _ _ _ _
    refine r_il4 zi_123_27 rfl ?_
    refine r_retZ zi_123_29 rfl (by decide) ?_
    first | exact ⟨_, rfl, hx (by assumption)⟩ | exact ⟨_, rfl, h0 _ (by assumption) (by assumption) (by assumption) (by assumption) (by assumption)⟩ | exact ⟨_, rfl, h1 _ (by assumption) (by assumption) (by assumption) (by assumption) (by assumption)⟩ | exact ⟨_, rfl, h2 _ (by assumption) (by assumption) (by assumption) (by assumption) (by assumption)⟩ | exact ⟨_, rfl, h3 _ (by assumption) (by assumption) (by assumption) (by assumption) (by assumption)⟩ | exact ⟨_, rfl, h4 _ (by assumption) (by assumption) (by assumption) (by assumption) (by assumption)⟩ | exact ⟨_, rfl, h5 (by assumption) (by assumption) (by assumption)⟩
  · show zk _ _ 13 _ _ _ _
    refine r_is4 zi_123_13 rfl ?_
    refine r_il4 zi_123_15 rfl ?_
    refine r_if0 zi_123_17 rfl (fun _ => ?_) (fun c => absurd (by decide) c)
    refine r_il4 zi_123_27 rfl ?_
    refine r_retZ zi_123_29 rfl (by decide) ?_
    first | exact ⟨_, rfl, hx (by assumption)⟩ | exact ⟨_, rfl, h0 _ (by assumption) (by assumption) (by assumption) (by assumption) (by assumption)⟩ | exact ⟨_, rfl, h1 _ (by assumption) (by assumption) (by assumption) (by assumption) (by assumption)⟩ | exact ⟨_, rfl, h2 _ (by assumption) (by assumption) (by assumption) (by assumption) (by assumption)⟩ | exact ⟨_, rfl, h3 _ (by assumption) (by assumption) (by assumption) (by assumption) (by assumption)⟩ | exact ⟨_, rfl, h4 _ (by assumption) (by assumption) (by assumption) (by assumption) (by assumption)⟩ | exact ⟨_, rfl, h5 (by assumption) (by assumption) (by assumption)⟩
theorem s_mcan {d n : Nat} {σ : zS} {Q : Int32 → zS → Prop} {what who v : Int32} (hn : σ 195 6 = nI n) (h1 : stOK what who v n → Q 1 σ) (h0 : ¬ stOK what who v n → Q 0 σ) : zI1 (d + 1) 183 [.ref 195, .int what, .int who, .int v] σ Q := by
  show zk _ _ 0 [.ref 195, .int what, .int who, .int v] [] _ _
  unfold stOK at h1 h0
  rw [← hn] at h1 h0
  refine r_al0 zi_183_0 rfl ?_
  refine r_il1 zi_183_1 rfl ?_
  refine r_push zi_183_2 rfl ?_
  refine r_push zi_183_3 rfl ?_
  refine q_cIV zi_183_4 rfl rfl rfl rfl rfl rfl rfl cf_195_0.ob (s_isIn (fun i1 a1 => ?_) (fun i1 => ?_))
  · show zk _ _ 7 _ _ _ _
    refine r_if0 zi_183_7 rfl (fun c => absurd c (by decide)) (fun _ => ?_)
    refine r_al0 zi_183_10 rfl ?_
    refine r_il2 zi_183_11 rfl ?_
    refine q_cIV zi_183_12 rfl rfl rfl rfl rfl rfl rfl cf_195_0.ob (s_mplace (fun i2 a2 => ?_) (fun i2 => ?_))
    · show zk _ _ 15 _ _ _ _
      refine r_if0 zi_183_15 rfl (fun c => absurd c (by decide)) (fun _ => ?_)
      refine r_al0 zi_183_18 rfl ?_
      refine r_il3 zi_183_19 rfl ?_
      refine r_push zi_183_20 rfl ?_
      refine r_il1 zi_183_21 rfl ?_
      refine r_if1 zi_183_22 rfl (fun c3 => ?_) (fun c3 => ?_)
      · refine r_push zi_183_30 rfl ?_
        refine q_cIV zi_183_32 rfl rfl rfl rfl rfl rfl rfl cf_195_0.ob (s_isIn (fun i4 a4 => ?_) (fun i4 => ?_))
        · show zk _ _ 35 _ _ _ _
          refine r_if0 zi_183_35 rfl (fun c => absurd c (by decide)) (fun _ => ?_)
          refine r_push zi_183_38 rfl ?_
          refine r_goto zi_183_39 rfl ?_
          refine r_retZ zi_183_43 rfl (by decide) ?_
          first | exact ⟨_, rfl, h1 (by grind)⟩ | exact ⟨_, rfl, h0 (by grind)⟩
        · show zk _ _ 35 _ _ _ _
          refine r_if0 zi_183_35 rfl (fun _ => ?_) (fun c => absurd (by decide) c)
          refine r_push zi_183_42 rfl ?_
          refine r_retZ zi_183_43 rfl (by decide) ?_
          first | exact ⟨_, rfl, h1 (by grind)⟩ | exact ⟨_, rfl, h0 (by grind)⟩
      · refine r_push zi_183_25 rfl ?_
        refine r_goto zi_183_27 rfl ?_
        refine q_cIV zi_183_32 rfl rfl rfl rfl rfl rfl rfl cf_195_0.ob (s_isIn (fun i5 a5 => ?_) (fun i5 => ?_))
        · show zk _ _ 35 _ _ _ _
          refine r_if0 zi_183_35 rfl (fun c => absurd c (by decide)) (fun _ => ?_)
          refine r_push zi_183_38 rfl ?_
          refine r_goto zi_183_39 rfl ?_
          refine r_retZ zi_183_43 rfl (by decide) ?_
          first | exact ⟨_, rfl, h1 (by grind)⟩ | exact ⟨_, rfl, h0 (by grind)⟩
        · show zk _ _ 35 _ _ _ _
          refine r_if0 zi_183_35 rfl (fun _ => ?_) (fun c => absurd (by decide) c)
          refine r_push zi_183_42 rfl ?_
          refine r_retZ zi_183_43 rfl (by decide) ?_
          first | exact ⟨_, rfl, h1 (by grind)⟩ | exact ⟨_, rfl, h0 (by grind)⟩
    · show zk _ _ 15 _ _ _ _
      refine r_if0 zi_183_15 rfl (fun _ => ?_) (fun c => absurd (by decide) c)
      refine r_push zi_183_42 rfl ?_
      refine r_retZ zi_183_43 rfl (by decide) ?_
      first | exact ⟨_, rfl, h1 (by grind)⟩ | exact ⟨_, rfl, h0 (by grind)⟩
  · show zk _ _ 7 _ _ _ _
    refine r_if0 zi_183_7 rfl (fun _ => ?_) (fun c => absurd (by decide) c)
    refine r_il1 zi_183_44 rfl ?_
    refine r_push zi_183_45 rfl ?_
    refine r_ic0 zi_183_46 rfl (fun c6 => ?_) (fun c6 => ?_)
    · refine r_al0 zi_183_54 rfl ?_
      refine r_il2 zi_183_55 rfl ?_
      refine q_cIV zi_183_56 rfl rfl rfl rfl rfl rfl rfl cf_195_0.ob (s_msubj (fun i7 a7 => ?_) (fun i7 => ?_))
      · show zk _ _ 59 _ _ _ _
        refine r_if0 zi_183_59 rfl (fun c => absurd c (by decide)) (fun _ => ?_)
        refine r_al0 zi_183_62 rfl ?_
        refine r_il3 zi_183_63 rfl ?_
        refine r_push zi_183_64 rfl ?_
        refine r_il1 zi_183_65 rfl ?_
        refine r_push zi_183_66 rfl ?_
        refine r_ic1 zi_183_67 rfl (fun c8 => ?_) (fun c8 => ?_)
        · refine r_push zi_183_75 rfl ?_
          refine q_cIV zi_183_77 rfl rfl rfl rfl rfl rfl rfl cf_195_0.ob (s_isIn (fun i9 a9 => ?_) (fun i9 => ?_))
          · show zk _ _ 80 _ _ _ _
            refine r_if0 zi_183_80 rfl (fun c => absurd c (by decide)) (fun _ => ?_)
            refine r_push zi_183_83 rfl ?_
            refine r_goto zi_183_84 rfl ?_
            refine r_retZ zi_183_88 rfl (by decide) ?_
            first | exact ⟨_, rfl, h1 (by grind)⟩ | exact ⟨_, rfl, h0 (by grind)⟩
          · show zk _ _ 80 _ _ _ _
            refine r_if0 zi_183_80 rfl (fun _ => ?_) (fun c => absurd (by decide) c)
            refine r_push zi_183_87 rfl ?_
            refine r_retZ zi_183_88 rfl (by decide) ?_
            first | exact ⟨_, rfl, h1 (by grind)⟩ | exact ⟨_, rfl, h0 (by grind)⟩
        · refine r_push zi_183_70 rfl ?_
          refine r_goto zi_183_72 rfl ?_
          refine q_cIV zi_183_77 rfl rfl rfl rfl rfl rfl rfl cf_195_0.ob (s_isIn (fun i10 a10 => ?_) (fun i10 => ?_))
          · show zk _ _ 80 _ _ _ _
            refine r_if0 zi_183_80 rfl (fun c => absurd c (by decide)) (fun _ => ?_)
            refine r_push zi_183_83 rfl ?_
            refine r_goto zi_183_84 rfl ?_
            refine r_retZ zi_183_88 rfl (by decide) ?_
            first | exact ⟨_, rfl, h1 (by grind)⟩ | exact ⟨_, rfl, h0 (by grind)⟩
          · show zk _ _ 80 _ _ _ _
            refine r_if0 zi_183_80 rfl (fun _ => ?_) (fun c => absurd (by decide) c)
            refine r_push zi_183_87 rfl ?_
            refine r_retZ zi_183_88 rfl (by decide) ?_
            first | exact ⟨_, rfl, h1 (by grind)⟩ | exact ⟨_, rfl, h0 (by grind)⟩
      · show zk _ _ 59 _ _ _ _
        refine r_if0 zi_183_59 rfl (fun _ => ?_) (fun c => absurd (by decide) c)
        refine r_push zi_183_87 rfl ?_
        refine r_retZ zi_183_88 rfl (by decide) ?_
        first | exact ⟨_, rfl, h1 (by grind)⟩ | exact ⟨_, rfl, h0 (by grind)⟩
    · refine r_il1 zi_183_49 rfl ?_
      refine r_push zi_183_50 rfl ?_
      refine r_ic1 zi_183_51 rfl (fun c11 => ?_) (fun c11 => ?_)
      · refine r_il1 zi_183_89 rfl ?_
        refine r_push zi_183_90 rfl ?_
        refine r_ic1 zi_183_91 rfl (fun c12 => ?_) (fun c12 => ?_)
        · refine r_push zi_183_109 rfl ?_
          refine r_retZ zi_183_110 rfl (by decide) ?_
          first | exact ⟨_, rfl, h1 (by grind)⟩ | exact ⟨_, rfl, h0 (by grind)⟩
        · refine r_al0 zi_183_94 rfl ?_
          refine r_il3 zi_183_95 rfl ?_
          refine r_push zi_183_96 rfl ?_
          refine r_push zi_183_97 rfl ?_
          refine q_cIV zi_183_99 rfl rfl rfl rfl rfl rfl rfl cf_195_0.ob (s_isIn (fun i13 a13 => ?_) (fun i13 => ?_))
          · show zk _ _ 102 _ _ _ _
            refine r_if0 zi_183_102 rfl (fun c => absurd c (by decide)) (fun _ => ?_)
            refine r_push zi_183_105 rfl ?_
            refine r_goto zi_183_106 rfl ?_
            refine r_retZ zi_183_110 rfl (by decide) ?_
            first | exact ⟨_, rfl, h1 (by grind)⟩ | exact ⟨_, rfl, h0 (by grind)⟩
          · show zk _ _ 102 _ _ _ _
            refine r_if0 zi_183_102 rfl (fun _ => ?_) (fun c => absurd (by decide) c)
            refine r_push zi_183_109 rfl ?_
            refine r_retZ zi_183_110 rfl (by decide) ?_
            first | exact ⟨_, rfl, h1 (by grind)⟩ | exact ⟨_, rfl, h0 (by grind)⟩
      · refine r_al0 zi_183_54 rfl ?_
        refine r_il2 zi_183_55 rfl ?_
        refine q_cIV zi_183_56 rfl rfl rfl rfl rfl rfl rfl cf_195_0.ob (s_msubj (fun i14 a14 => ?_) (fun i14 => ?_))
        · show zk _ _ 59 _ _ _ _
          refine r_if0 zi_183_59 rfl (fun c => absurd c (by decide)) (fun _ => ?_)
          refine r_al0 zi_183_62 rfl ?_
          refine r_il3 zi_183_63 rfl ?_
          refine r_push zi_183_64 rfl ?_
          refine r_il1 zi_183_65 rfl ?_
          refine r_push zi_183_66 rfl ?_
          refine r_ic1 zi_183_67 rfl (fun c15 => ?_) (fun c15 => ?_)
          · refine r_push zi_183_75 rfl ?_
            refine q_cIV zi_183_77 rfl rfl rfl rfl rfl rfl rfl cf_195_0.ob (s_isIn (fun i16 a16 => ?_) (fun i16 => ?_))
            · show zk _ _ 80 _ _ _ _
              refine r_if0 zi_183_80 rfl (fun c => absurd c (by decide)) (fun _ => ?_)
              refine r_push zi_183_83 rfl ?_
              refine r_goto zi_183_84 rfl ?_
              refine r_retZ zi_183_88 rfl (by decide) ?_
              first | exact ⟨_, rfl, h1 (by grind)⟩ | exact ⟨_, rfl, h0 (by grind)⟩
            · show zk _ _ 80 _ _ _ _
              refine r_if0 zi_183_80 rfl (fun _ => ?_) (fun c => absurd (by decide) c)
              refine r_push zi_183_87 rfl ?_
              refine r_retZ zi_183_88 rfl (by decide) ?_
              first | exact ⟨_, rfl, h1 (by grind)⟩ | exact ⟨_, rfl, h0 (by grind)⟩
          · refine r_push zi_183_70 rfl ?_
            refine r_goto zi_183_72 rfl ?_
            refine q_cIV zi_183_77 rfl rfl rfl rfl rfl rfl rfl cf_195_0.ob (s_isIn (fun i17 a17 => ?_) (fun i17 => ?_))
            · show zk _ _ 80 _ _ _ _
              refine r_if0 zi_183_80 rfl (fun c => absurd c (by decide)) (fun _ => ?_)
              refine r_push zi_183_83 rfl ?_
              refine r_goto zi_183_84 rfl ?_
              refine r_retZ zi_183_88 rfl (by decide) ?_
              first | exact ⟨_, rfl, h1 (by grind)⟩ | exact ⟨_, rfl, h0 (by grind)⟩
            · show zk _ _ 80 _ _ _ _
              refine r_if0 zi_183_80 rfl (fun _ => ?_) (fun c => absurd (by decide) c)
              refine r_push zi_183_87 rfl ?_
              refine r_retZ zi_183_88 rfl (by decide) ?_
              first | exact ⟨_, rfl, h1 (by grind)⟩ | exact ⟨_, rfl, h0 (by grind)⟩
        · show zk _ _ 59 _ _ _ _
          refine r_if0 zi_183_59 rfl (fun _ => ?_) (fun c => absurd (by decide) c)
          refine r_push zi_183_87 rfl ?_
          refine r_retZ zi_183_88 rfl (by decide) ?_
          first | exact ⟨_, rfl, h1 (by grind)⟩ | exact ⟨_, rfl, h0 (by grind)⟩
theorem s_mset {d n : Nat} {σ : zS} {Q : Int32 → zS → Prop} {what who v : Int32} (hn : σ 195 6 = nI n) (hn18 : n ≤ 18) (h0 : ∀ p, p < 12 → what = 0 → who = nI p → 0 ≤ v → v ≤ 9 → Q 1 (up (up (up σ 195 0 0) 199 p (v - 5)) 195 3 0)) (h1 : ∀ p, p < 12 → what = 1 → who = nI p → 0 ≤ v → v ≤ 99 → Q 1 (up (up (up σ 195 0 0) 196 (6 + p) (v)) 195 3 0)) (h2 : ∀ p, p < 12 → what = 2 → who = nI p → 0 ≤ v → v ≤ 99 → Q 1 (up (up (up σ 195 0 0) 196 (18 + p) (v)) 195 3 0)) (h3 : ∀ p, p < n → what = 3 → who = nI p → 0 ≤ v → v ≤ 9 → Q 1 (up (up (up σ 195 0 0) 200 p (v)) 195 3 0)) (h4 : ∀ p, p < n → what = 4 → who = nI p → 0 ≤ v → v ≤ 99 → Q 1 (up (up (up σ 195 0 0) 196 (48 + p) (v)) 195 3 0)) (h5 : what = 5 → 0 ≤ v → v ≤ 9 → Q 1 (up (up (up σ 195 0 0) 196 3 (v)) 195 3 0)) (hx : ¬ stOK what who v n → Q 0 (up σ 195 0 0)) : zI1 (d + 2) 184 [.ref 195, .int what, .int who, .int v] σ Q := by
  have hn' : up σ 195 0 0 195 6 = nI n := (zup_n2 (by omega)).trans hn
  show zk _ _ 0 [.ref 195, .int what, .int who, .int v] [] _ _
  by_cases hk : stOK what who v n
  · rcases id hk with ⟨ew, w0, w1, v0, v1⟩ | ⟨ew, w0, w1, v0, v1⟩ | ⟨ew, w0, w1, v0, v1⟩ | ⟨ew, w0, w1, v0, v1⟩ | ⟨ew, w0, w1, v0, v1⟩ | ⟨ew, v0, v1⟩
    · obtain ⟨p, hp, ep⟩ := zI_of (n := 12) w0 w1 (by omega)
      have hq := h0 p hp ew ep v0 v1
      clear h0 h1 h2 h3 h4 h5 hx
      subst ew ep
      refine r_al0 zi_184_0 rfl ?_
      refine r_push zi_184_1 rfl ?_
      refine q_put zi_184_2 rfl cf_195_0 rfl ?_
      refine r_al0 zi_184_5 rfl ?_
      refine r_il1 zi_184_6 rfl ?_
      refine r_il2 zi_184_7 rfl ?_
      refine r_il3 zi_184_8 rfl ?_
      refine q_cIV zi_184_9 rfl rfl rfl rfl rfl rfl rfl cf_195_0.ob (s_mcan hn' (fun _ => ?_) (fun z => absurd hk z))
      show zk _ _ 12 _ _ _ _
      refine r_if1 zi_184_12 rfl (fun _ => ?_) (fun c => absurd c (by decide))
      refine r_il1 zi_184_17 rfl ?_
      refine r_if1 zi_184_18 rfl (fun c => absurd (by decide) c) (fun _ => ?_)
      refine r_al0 zi_184_21 rfl ?_
      refine q_getR zi_184_22 rfl cf_195_7 ?_
      refine r_il2 zi_184_25 rfl ?_
      refine r_il3 zi_184_26 rfl ?_
      refine r_push zi_184_27 rfl ?_
      refine r_b1 zi_184_28 rfl ?_
      refine r_ast zi_184_29 rfl p ca_199 (by first | rfl | (simp only [zI_add, zI_mul] <;> rfl)) (by first | omega | decide) ?_
      refine r_il1 zi_184_30 rfl ?_
      refine r_push zi_184_31 rfl ?_
      refine r_ic1 zi_184_32 rfl (fun _ => ?_) (fun c => absurd c (by decide))
      refine r_il1 zi_184_45 rfl ?_
      refine r_push zi_184_46 rfl ?_
      refine r_ic1 zi_184_47 rfl (fun _ => ?_) (fun c => absurd c (by decide))
      refine r_il1 zi_184_60 rfl ?_
      refine r_push zi_184_61 rfl ?_
      refine r_ic1 zi_184_62 rfl (fun _ => ?_) (fun c => absurd c (by decide))
      refine r_il1 zi_184_72 rfl ?_
      refine r_push zi_184_73 rfl ?_
      refine r_ic1 zi_184_74 rfl (fun _ => ?_) (fun c => absurd c (by decide))
      refine r_il1 zi_184_87 rfl ?_
      refine r_push zi_184_88 rfl ?_
      refine r_ic1 zi_184_89 rfl (fun _ => ?_) (fun c => absurd c (by decide))
      refine r_al0 zi_184_99 rfl ?_
      refine r_push zi_184_100 rfl ?_
      refine q_put zi_184_101 rfl cf_195_3 rfl ?_
      refine r_push zi_184_104 rfl ?_
      refine r_retZ zi_184_105 rfl (by decide) ?_
      exact ⟨_, rfl, hq⟩
    · obtain ⟨p, hp, ep⟩ := zI_of (n := 12) w0 w1 (by omega)
      have hq := h1 p hp ew ep v0 v1
      clear h0 h1 h2 h3 h4 h5 hx
      subst ew ep
      refine r_al0 zi_184_0 rfl ?_
      refine r_push zi_184_1 rfl ?_
      refine q_put zi_184_2 rfl cf_195_0 rfl ?_
      refine r_al0 zi_184_5 rfl ?_
      refine r_il1 zi_184_6 rfl ?_
      refine r_il2 zi_184_7 rfl ?_
      refine r_il3 zi_184_8 rfl ?_
      refine q_cIV zi_184_9 rfl rfl rfl rfl rfl rfl rfl cf_195_0.ob (s_mcan hn' (fun _ => ?_) (fun z => absurd hk z))
      show zk _ _ 12 _ _ _ _
      refine r_if1 zi_184_12 rfl (fun _ => ?_) (fun c => absurd c (by decide))
      refine r_il1 zi_184_17 rfl ?_
      refine r_if1 zi_184_18 rfl (fun _ => ?_) (fun c => absurd c (by decide))
      refine r_il1 zi_184_30 rfl ?_
      refine r_push zi_184_31 rfl ?_
      refine r_ic1 zi_184_32 rfl (fun c => absurd (by decide) c) (fun _ => ?_)
      refine r_al0 zi_184_35 rfl ?_
      refine q_getR zi_184_36 rfl cf_195_1 ?_
      refine r_push zi_184_39 rfl ?_
      refine r_il2 zi_184_41 rfl ?_
      refine r_b0 zi_184_42 rfl ?_
      rw [show (6 + nI p : Int32) = nI (6 + p) from nI_add _ _]
      refine r_il3 zi_184_43 rfl ?_
      refine r_ast zi_184_44 rfl (6 + p) ca_196 (by first | rfl | (simp only [zI_add, zI_mul] <;> rfl)) (by first | omega | decide) ?_
      refine r_il1 zi_184_45 rfl ?_
      refine r_push zi_184_46 rfl ?_
      refine r_ic1 zi_184_47 rfl (fun _ => ?_) (fun c => absurd c (by decide))
      refine r_il1 zi_184_60 rfl ?_
      refine r_push zi_184_61 rfl ?_
      refine r_ic1 zi_184_62 rfl (fun _ => ?_) (fun c => absurd c (by decide))
      refine r_il1 zi_184_72 rfl ?_
      refine r_push zi_184_73 rfl ?_
      refine r_ic1 zi_184_74 rfl (fun _ => ?_) (fun c => absurd c (by decide))
      refine r_il1 zi_184_87 rfl ?_
      refine r_push zi_184_88 rfl ?_
      refine r_ic1 zi_184_89 rfl (fun _ => ?_) (fun c => absurd c (by decide))
      refine r_al0 zi_184_99 rfl ?_
      refine r_push zi_184_100 rfl ?_
      refine q_put zi_184_101 rfl cf_195_3 rfl ?_
      refine r_push zi_184_104 rfl ?_
      refine r_retZ zi_184_105 rfl (by decide) ?_
      exact ⟨_, rfl, hq⟩
    · obtain ⟨p, hp, ep⟩ := zI_of (n := 12) w0 w1 (by omega)
      have hq := h2 p hp ew ep v0 v1
      clear h0 h1 h2 h3 h4 h5 hx
      subst ew ep
      refine r_al0 zi_184_0 rfl ?_
      refine r_push zi_184_1 rfl ?_
      refine q_put zi_184_2 rfl cf_195_0 rfl ?_
      refine r_al0 zi_184_5 rfl ?_
      refine r_il1 zi_184_6 rfl ?_
      refine r_il2 zi_184_7 rfl ?_
      refine r_il3 zi_184_8 rfl ?_
      refine q_cIV zi_184_9 rfl rfl rfl rfl rfl rfl rfl cf_195_0.ob (s_mcan hn' (fun _ => ?_) (fun z => absurd hk z))
      show zk _ _ 12 _ _ _ _
      refine r_if1 zi_184_12 rfl (fun _ => ?_) (fun c => absurd c (by decide))
      refine r_il1 zi_184_17 rfl ?_
      refine r_if1 zi_184_18 rfl (fun _ => ?_) (fun c => absurd c (by decide))
      refine r_il1 zi_184_30 rfl ?_
      refine r_push zi_184_31 rfl ?_
      refine r_ic1 zi_184_32 rfl (fun _ => ?_) (fun c => absurd c (by decide))
      refine r_il1 zi_184_45 rfl ?_
      refine r_push zi_184_46 rfl ?_
      refine r_ic1 zi_184_47 rfl (fun c => absurd (by decide) c) (fun _ => ?_)
      refine r_al0 zi_184_50 rfl ?_
      refine q_getR zi_184_51 rfl cf_195_1 ?_
      refine r_push zi_184_54 rfl ?_
      refine r_il2 zi_184_56 rfl ?_
      refine r_b0 zi_184_57 rfl ?_
      rw [show (18 + nI p : Int32) = nI (18 + p) from nI_add _ _]
      refine r_il3 zi_184_58 rfl ?_
      refine r_ast zi_184_59 rfl (18 + p) ca_196 (by first | rfl | (simp only [zI_add, zI_mul] <;> rfl)) (by first | omega | decide) ?_
      refine r_il1 zi_184_60 rfl ?_
      refine r_push zi_184_61 rfl ?_
      refine r_ic1 zi_184_62 rfl (fun _ => ?_) (fun c => absurd c (by decide))
      refine r_il1 zi_184_72 rfl ?_
      refine r_push zi_184_73 rfl ?_
      refine r_ic1 zi_184_74 rfl (fun _ => ?_) (fun c => absurd c (by decide))
      refine r_il1 zi_184_87 rfl ?_
      refine r_push zi_184_88 rfl ?_
      refine r_ic1 zi_184_89 rfl (fun _ => ?_) (fun c => absurd c (by decide))
      refine r_al0 zi_184_99 rfl ?_
      refine r_push zi_184_100 rfl ?_
      refine q_put zi_184_101 rfl cf_195_3 rfl ?_
      refine r_push zi_184_104 rfl ?_
      refine r_retZ zi_184_105 rfl (by decide) ?_
      exact ⟨_, rfl, hq⟩
    · obtain ⟨p, hp, ep⟩ := zI_of (n := n) w0 w1 (by omega)
      have hq := h3 p hp ew ep v0 v1
      clear h0 h1 h2 h3 h4 h5 hx
      subst ew ep
      refine r_al0 zi_184_0 rfl ?_
      refine r_push zi_184_1 rfl ?_
      refine q_put zi_184_2 rfl cf_195_0 rfl ?_
      refine r_al0 zi_184_5 rfl ?_
      refine r_il1 zi_184_6 rfl ?_
      refine r_il2 zi_184_7 rfl ?_
      refine r_il3 zi_184_8 rfl ?_
      refine q_cIV zi_184_9 rfl rfl rfl rfl rfl rfl rfl cf_195_0.ob (s_mcan hn' (fun _ => ?_) (fun z => absurd hk z))
      show zk _ _ 12 _ _ _ _
      refine r_if1 zi_184_12 rfl (fun _ => ?_) (fun c => absurd c (by decide))
      refine r_il1 zi_184_17 rfl ?_
      refine r_if1 zi_184_18 rfl (fun _ => ?_) (fun c => absurd c (by decide))
      refine r_il1 zi_184_30 rfl ?_
      refine r_push zi_184_31 rfl ?_
      refine r_ic1 zi_184_32 rfl (fun _ => ?_) (fun c => absurd c (by decide))
      refine r_il1 zi_184_45 rfl ?_
      refine r_push zi_184_46 rfl ?_
      refine r_ic1 zi_184_47 rfl (fun _ => ?_) (fun c => absurd c (by decide))
      refine r_il1 zi_184_60 rfl ?_
      refine r_push zi_184_61 rfl ?_
      refine r_ic1 zi_184_62 rfl (fun c => absurd (by decide) c) (fun _ => ?_)
      refine r_al0 zi_184_65 rfl ?_
      refine q_getR zi_184_66 rfl cf_195_8 ?_
      refine r_il2 zi_184_69 rfl ?_
      refine r_il3 zi_184_70 rfl ?_
      refine r_ast zi_184_71 rfl p ca_200 (by first | rfl | (simp only [zI_add, zI_mul] <;> rfl)) (by first | omega | decide) ?_
      refine r_il1 zi_184_72 rfl ?_
      refine r_push zi_184_73 rfl ?_
      refine r_ic1 zi_184_74 rfl (fun _ => ?_) (fun c => absurd c (by decide))
      refine r_il1 zi_184_87 rfl ?_
      refine r_push zi_184_88 rfl ?_
      refine r_ic1 zi_184_89 rfl (fun _ => ?_) (fun c => absurd c (by decide))
      refine r_al0 zi_184_99 rfl ?_
      refine r_push zi_184_100 rfl ?_
      refine q_put zi_184_101 rfl cf_195_3 rfl ?_
      refine r_push zi_184_104 rfl ?_
      refine r_retZ zi_184_105 rfl (by decide) ?_
      exact ⟨_, rfl, hq⟩
    · obtain ⟨p, hp, ep⟩ := zI_of (n := n) w0 w1 (by omega)
      have hq := h4 p hp ew ep v0 v1
      clear h0 h1 h2 h3 h4 h5 hx
      subst ew ep
      refine r_al0 zi_184_0 rfl ?_
      refine r_push zi_184_1 rfl ?_
      refine q_put zi_184_2 rfl cf_195_0 rfl ?_
      refine r_al0 zi_184_5 rfl ?_
      refine r_il1 zi_184_6 rfl ?_
      refine r_il2 zi_184_7 rfl ?_
      refine r_il3 zi_184_8 rfl ?_
      refine q_cIV zi_184_9 rfl rfl rfl rfl rfl rfl rfl cf_195_0.ob (s_mcan hn' (fun _ => ?_) (fun z => absurd hk z))
      show zk _ _ 12 _ _ _ _
      refine r_if1 zi_184_12 rfl (fun _ => ?_) (fun c => absurd c (by decide))
      refine r_il1 zi_184_17 rfl ?_
      refine r_if1 zi_184_18 rfl (fun _ => ?_) (fun c => absurd c (by decide))
      refine r_il1 zi_184_30 rfl ?_
      refine r_push zi_184_31 rfl ?_
      refine r_ic1 zi_184_32 rfl (fun _ => ?_) (fun c => absurd c (by decide))
      refine r_il1 zi_184_45 rfl ?_
      refine r_push zi_184_46 rfl ?_
      refine r_ic1 zi_184_47 rfl (fun _ => ?_) (fun c => absurd c (by decide))
      refine r_il1 zi_184_60 rfl ?_
      refine r_push zi_184_61 rfl ?_
      refine r_ic1 zi_184_62 rfl (fun _ => ?_) (fun c => absurd c (by decide))
      refine r_il1 zi_184_72 rfl ?_
      refine r_push zi_184_73 rfl ?_
      refine r_ic1 zi_184_74 rfl (fun c => absurd (by decide) c) (fun _ => ?_)
      refine r_al0 zi_184_77 rfl ?_
      refine q_getR zi_184_78 rfl cf_195_1 ?_
      refine r_push zi_184_81 rfl ?_
      refine r_il2 zi_184_83 rfl ?_
      refine r_b0 zi_184_84 rfl ?_
      rw [show (48 + nI p : Int32) = nI (48 + p) from nI_add _ _]
      refine r_il3 zi_184_85 rfl ?_
      refine r_ast zi_184_86 rfl (48 + p) ca_196 (by first | rfl | (simp only [zI_add, zI_mul] <;> rfl)) (by first | omega | decide) ?_
      refine r_il1 zi_184_87 rfl ?_
      refine r_push zi_184_88 rfl ?_
      refine r_ic1 zi_184_89 rfl (fun _ => ?_) (fun c => absurd c (by decide))
      refine r_al0 zi_184_99 rfl ?_
      refine r_push zi_184_100 rfl ?_
      refine q_put zi_184_101 rfl cf_195_3 rfl ?_
      refine r_push zi_184_104 rfl ?_
      refine r_retZ zi_184_105 rfl (by decide) ?_
      exact ⟨_, rfl, hq⟩
    · have hq := h5 ew v0 v1
      clear h0 h1 h2 h3 h4 h5 hx
      subst ew
      refine r_al0 zi_184_0 rfl ?_
      refine r_push zi_184_1 rfl ?_
      refine q_put zi_184_2 rfl cf_195_0 rfl ?_
      refine r_al0 zi_184_5 rfl ?_
      refine r_il1 zi_184_6 rfl ?_
      refine r_il2 zi_184_7 rfl ?_
      refine r_il3 zi_184_8 rfl ?_
      refine q_cIV zi_184_9 rfl rfl rfl rfl rfl rfl rfl cf_195_0.ob (s_mcan hn' (fun _ => ?_) (fun z => absurd hk z))
      show zk _ _ 12 _ _ _ _
      refine r_if1 zi_184_12 rfl (fun _ => ?_) (fun c => absurd c (by decide))
      refine r_il1 zi_184_17 rfl ?_
      refine r_if1 zi_184_18 rfl (fun _ => ?_) (fun c => absurd c (by decide))
      refine r_il1 zi_184_30 rfl ?_
      refine r_push zi_184_31 rfl ?_
      refine r_ic1 zi_184_32 rfl (fun _ => ?_) (fun c => absurd c (by decide))
      refine r_il1 zi_184_45 rfl ?_
      refine r_push zi_184_46 rfl ?_
      refine r_ic1 zi_184_47 rfl (fun _ => ?_) (fun c => absurd c (by decide))
      refine r_il1 zi_184_60 rfl ?_
      refine r_push zi_184_61 rfl ?_
      refine r_ic1 zi_184_62 rfl (fun _ => ?_) (fun c => absurd c (by decide))
      refine r_il1 zi_184_72 rfl ?_
      refine r_push zi_184_73 rfl ?_
      refine r_ic1 zi_184_74 rfl (fun _ => ?_) (fun c => absurd c (by decide))
      refine r_il1 zi_184_87 rfl ?_
      refine r_push zi_184_88 rfl ?_
      refine r_ic1 zi_184_89 rfl (fun c => absurd (by decide) c) (fun _ => ?_)
      refine r_al0 zi_184_92 rfl ?_
      refine q_getR zi_184_93 rfl cf_195_1 ?_
      refine r_push zi_184_96 rfl ?_
      refine r_il3 zi_184_97 rfl ?_
      refine r_ast zi_184_98 rfl 3 ca_196 (by first | rfl | (simp only [zI_add, zI_mul] <;> rfl)) (by first | omega | decide) ?_
      refine r_al0 zi_184_99 rfl ?_
      refine r_push zi_184_100 rfl ?_
      refine q_put zi_184_101 rfl cf_195_3 rfl ?_
      refine r_push zi_184_104 rfl ?_
      refine r_retZ zi_184_105 rfl (by decide) ?_
      exact ⟨_, rfl, hq⟩
  · have hx := hx hk
    clear h0 h1 h2 h3 h4 h5
    refine r_al0 zi_184_0 rfl ?_
    refine r_push zi_184_1 rfl ?_
    refine q_put zi_184_2 rfl cf_195_0 rfl ?_
    refine r_al0 zi_184_5 rfl ?_
    refine r_il1 zi_184_6 rfl ?_
    refine r_il2 zi_184_7 rfl ?_
    refine r_il3 zi_184_8 rfl ?_
    refine q_cIV zi_184_9 rfl rfl rfl rfl rfl rfl rfl cf_195_0.ob (s_mcan hn' (fun z => absurd z hk) (fun _ => ?_))
    show zk _ _ 12 _ _ _ _
    refine r_if1 zi_184_12 rfl (fun c => absurd (by decide) c) (fun _ => ?_)
    refine r_push zi_184_15 rfl ?_
    refine r_retZ zi_184_16 rfl (by decide) ?_
    exact ⟨_, rfl, hx⟩
theorem c_set {what who v : Int32} : zPr 123 184 [.int what, .int who, .int v] := fun σ hI => by
  obtain ⟨n, V, hD, _⟩ := id hI
  obtain ⟨hV, hm, hg, hz, hs, h5, hx⟩ := id hD
  have hn18 := hg.2.1
  have hsub : σ 2 11 = nI n := (hV.2.1 11 (by decide) (by decide)).trans hg.1
  have rs : ∀ (b p : Nat), b ≤ 18 → p < b → who = nI p → 0 ≤ who ∧ who < nI b := fun b p hb hp e => by rw [e]; exact ⟨nI_z (by omega), nI_lt hp (by omega)⟩
  refine s_kset (d := 8) hsub hn18 (fun p hp ew ep v0 v1 => ?_) (fun p hp ew ep v0 v1 => ?_) (fun p hp ew ep v0 v1 => ?_) (fun p hp ew ep v0 v1 => ?_) (fun p hp ew ep v0 v1 => ?_) (fun ew v0 v1 => ?_) (fun z => ?_)
  · refine s_mset (d := 8) (n := n) ((zup_n2 (by omega)).trans ((zup_n2 (by omega)).trans hs)) hn18 (fun p' hp' ew' ep' v0' v1' => ?_) (fun p' hp' ew' ep' v0' v1' => absurd (ew.symm.trans ew') (by decide)) (fun p' hp' ew' ep' v0' v1' => absurd (ew.symm.trans ew') (by decide)) (fun p' hp' ew' ep' v0' v1' => absurd (ew.symm.trans ew') (by decide)) (fun p' hp' ew' ep' v0' v1' => absurd (ew.symm.trans ew') (by decide)) (fun ew' v0' v1' => absurd (ew.symm.trans ew') (by decide)) (fun y => absurd (Or.inl ⟨ew, (rs 12 p (by omega) hp ep).1, (rs 12 p (by omega) hp ep).2, v0, v1⟩) y)
    have q := nI_j ep ep' (by omega) (by omega)
    subst q
    refine ⟨rfl, INV_D (V' := up V 0 p' v) hI hD (Nat.le_refl n) ⟨?_, ?_, zVg_u hg (by omega), fun s g1 g2 => ?_, ?_, ?_, vX_x hx (fun j i h => zup_n2 (by omega))⟩ (fun a b x y => ?_) ?_ ?_⟩
    · exact zVk_o zKk2 (zVk_a zKk2 hV (j := 0) (by omega)) (l := [95, 195, 199]) ((((Fr.rf.put (by decide)).put (by decide)).put (by decide)).put (by decide)) (by decide)
    · exact zVm_o (zVm_h (zVm_o hm (((Fr.rf (l := [3, 95, 195])).put (by decide)).put (by decide) |>.put (by decide)) (by decide) : zVm (up (up (up σ 3 p' v) 95 2 0) 195 0 0) V n false) (by grind)) ((Fr.rf (l := [195])).put (by decide)) (by decide)
    · rw [zup_z (by decide), zup_z (by decide)]; exact hz s g1 g2
    · rw [zup_n2 (by omega), zup_n2 (by omega), zup_n2 (by omega), zup_n2 (by omega), zup_n2 (by omega)]; exact hs
    · rw [zup_n2 (by omega), zup_n2 (by omega), zup_n2 (by omega), zup_n2 (by omega), zup_n2 (by omega)]; exact h5
    · unfold sc at x; unfold dc at y
      rw [zup_n2 (by omega), zup_n2 (by omega), zup_n2 (by omega), zup_n2 (by omega), zup_n2 (by omega)]
    · rw [zup_n2 (by omega), zup_n2 (by omega), zup_n2 (by omega), zup_eq]
    · exact zup_eq
  · refine s_mset (d := 8) (n := n) ((zup_n2 (by omega)).trans ((zup_n2 (by omega)).trans hs)) hn18 (fun p' hp' ew' ep' v0' v1' => absurd (ew.symm.trans ew') (by decide)) (fun p' hp' ew' ep' v0' v1' => ?_) (fun p' hp' ew' ep' v0' v1' => absurd (ew.symm.trans ew') (by decide)) (fun p' hp' ew' ep' v0' v1' => absurd (ew.symm.trans ew') (by decide)) (fun p' hp' ew' ep' v0' v1' => absurd (ew.symm.trans ew') (by decide)) (fun ew' v0' v1' => absurd (ew.symm.trans ew') (by decide)) (fun y => absurd (Or.inr (Or.inl ⟨ew, (rs 12 p (by omega) hp ep).1, (rs 12 p (by omega) hp ep).2, v0, v1⟩)) y)
    have q := nI_j ep ep' (by omega) (by omega)
    subst q
    refine ⟨rfl, INV_D (V' := up V 1 p' v) hI hD (Nat.le_refl n) ⟨?_, ?_, zVg_u hg (by omega), fun s g1 g2 => ?_, ?_, ?_, vX_x hx (fun j i h => zup_n2 (by omega))⟩ (fun a b x y => ?_) ?_ ?_⟩
    · exact zVk_o zKk2 (zVk_a zKk2 hV (j := 1) (by omega)) (l := [95, 195, 196]) ((((Fr.rf.put (by decide)).put (by decide)).put (by decide)).put (by decide)) (by decide)
    · exact zVm_o (zVm_u hn18 (zVm_o hm (((Fr.rf (l := [4, 95, 195])).put (by decide)).put (by decide) |>.put (by decide)) (by decide) : zVm (up (up (up σ 4 p' v) 95 2 0) 195 0 0) V n false) ⟨zCn1 hp, fun _ _ => rfl, fun z => by omega, fun z => by omega⟩) ((Fr.rf (l := [195])).put (by decide)) (by decide)
    · rw [zup_z (by decide), zup_z (by decide)]; exact hz s g1 g2
    · rw [zup_n2 (by omega), zup_n2 (by omega), zup_n2 (by omega), zup_n2 (by omega), zup_n2 (by omega)]; exact hs
    · rw [zup_n2 (by omega), zup_n2 (by omega), zup_n2 (by omega), zup_n2 (by omega), zup_n2 (by omega)]; exact h5
    · unfold sc at x; unfold dc at y
      rw [zup_n2 (by omega), zup_n2 (by omega), zup_n2 (by omega), zup_n2 (by omega), zup_n2 (by omega)]
    · rw [zup_n2 (by omega), zup_n2 (by omega), zup_n2 (by omega), zup_eq]
    · exact zup_eq
  · refine s_mset (d := 8) (n := n) ((zup_n2 (by omega)).trans ((zup_n2 (by omega)).trans hs)) hn18 (fun p' hp' ew' ep' v0' v1' => absurd (ew.symm.trans ew') (by decide)) (fun p' hp' ew' ep' v0' v1' => absurd (ew.symm.trans ew') (by decide)) (fun p' hp' ew' ep' v0' v1' => ?_) (fun p' hp' ew' ep' v0' v1' => absurd (ew.symm.trans ew') (by decide)) (fun p' hp' ew' ep' v0' v1' => absurd (ew.symm.trans ew') (by decide)) (fun ew' v0' v1' => absurd (ew.symm.trans ew') (by decide)) (fun y => absurd (Or.inr (Or.inr (Or.inl ⟨ew, (rs 12 p (by omega) hp ep).1, (rs 12 p (by omega) hp ep).2, v0, v1⟩))) y)
    have q := nI_j ep ep' (by omega) (by omega)
    subst q
    refine ⟨rfl, INV_D (V' := up V 2 p' v) hI hD (Nat.le_refl n) ⟨?_, ?_, zVg_u hg (by omega), fun s g1 g2 => ?_, ?_, ?_, ⟨fun q hq => by
      by_cases y : q = p'
      · rw [y, zup_eq]; exact v1
      · rw [zup_n2 (by omega)]; exact hx.1 q hq, by rw [zup_n2 (by omega)]; exact hx.2⟩⟩ (fun a b x y => ?_) ?_ ?_⟩
    · exact zVk_o zKk2 (zVk_a zKk2 hV (j := 2) (by omega)) (l := [95, 195, 196]) ((((Fr.rf.put (by decide)).put (by decide)).put (by decide)).put (by decide)) (by decide)
    · exact zVm_o (zVm_u hn18 (zVm_o hm (((Fr.rf (l := [5, 95, 195])).put (by decide)).put (by decide) |>.put (by decide)) (by decide) : zVm (up (up (up σ 5 p' v) 95 2 0) 195 0 0) V n false) ⟨zCn2 hp, fun _ _ => rfl, fun z => by omega, fun z => by omega⟩) ((Fr.rf (l := [195])).put (by decide)) (by decide)
    · rw [zup_z (by decide), zup_z (by decide)]; exact hz s g1 g2
    · rw [zup_n2 (by omega), zup_n2 (by omega), zup_n2 (by omega), zup_n2 (by omega), zup_n2 (by omega)]; exact hs
    · rw [zup_n2 (by omega), zup_n2 (by omega), zup_n2 (by omega), zup_n2 (by omega), zup_n2 (by omega)]; exact h5
    · unfold sc at x; unfold dc at y
      rw [zup_n2 (by omega), zup_n2 (by omega), zup_n2 (by omega), zup_n2 (by omega), zup_n2 (by omega)]
    · rw [zup_n2 (by omega), zup_n2 (by omega), zup_n2 (by omega), zup_eq]
    · exact zup_eq
  · refine s_mset (d := 8) (n := n) ((zup_n2 (by omega)).trans ((zup_n2 (by omega)).trans hs)) hn18 (fun p' hp' ew' ep' v0' v1' => absurd (ew.symm.trans ew') (by decide)) (fun p' hp' ew' ep' v0' v1' => absurd (ew.symm.trans ew') (by decide)) (fun p' hp' ew' ep' v0' v1' => absurd (ew.symm.trans ew') (by decide)) (fun p' hp' ew' ep' v0' v1' => ?_) (fun p' hp' ew' ep' v0' v1' => absurd (ew.symm.trans ew') (by decide)) (fun ew' v0' v1' => absurd (ew.symm.trans ew') (by decide)) (fun y => absurd (Or.inr (Or.inr (Or.inr (Or.inl ⟨ew, (rs n p (by omega) hp ep).1, (rs n p (by omega) hp ep).2, v0, v1⟩)))) y)
    have q := nI_j ep ep' (by omega) (by omega)
    subst q
    refine ⟨rfl, INV_D (V' := up V 4 p' v) hI hD (Nat.le_refl n) ⟨?_, ?_, zVg_u hg (by omega), fun s g1 g2 => ?_, ?_, ?_, vX_x hx (fun j i h => zup_n2 (by omega))⟩ (fun a b x y => ?_) ?_ ?_⟩
    · exact zVk_o zKk2 (zVk_a zKk2 hV (j := 4) (by omega)) (l := [95, 195, 200]) ((((Fr.rf.put (by decide)).put (by decide)).put (by decide)).put (by decide)) (by decide)
    · exact zVm_o (zVm_e (zVm_o hm (((Fr.rf (l := [7, 95, 195])).put (by decide)).put (by decide) |>.put (by decide)) (by decide) : zVm (up (up (up σ 7 p' v) 95 2 0) 195 0 0) V n false)) ((Fr.rf (l := [195])).put (by decide)) (by decide)
    · rw [zup_z (by decide), zup_z (by decide)]; exact hz s g1 g2
    · rw [zup_n2 (by omega), zup_n2 (by omega), zup_n2 (by omega), zup_n2 (by omega), zup_n2 (by omega)]; exact hs
    · rw [zup_n2 (by omega), zup_n2 (by omega), zup_n2 (by omega), zup_n2 (by omega), zup_n2 (by omega)]; exact h5
    · unfold sc at x; unfold dc at y
      rw [zup_n2 (by omega), zup_n2 (by omega), zup_n2 (by omega), zup_n2 (by omega), zup_n2 (by omega)]
    · rw [zup_n2 (by omega), zup_n2 (by omega), zup_n2 (by omega), zup_eq]
    · exact zup_eq
  · refine s_mset (d := 8) (n := n) ((zup_n2 (by omega)).trans ((zup_n2 (by omega)).trans hs)) hn18 (fun p' hp' ew' ep' v0' v1' => absurd (ew.symm.trans ew') (by decide)) (fun p' hp' ew' ep' v0' v1' => absurd (ew.symm.trans ew') (by decide)) (fun p' hp' ew' ep' v0' v1' => absurd (ew.symm.trans ew') (by decide)) (fun p' hp' ew' ep' v0' v1' => absurd (ew.symm.trans ew') (by decide)) (fun p' hp' ew' ep' v0' v1' => ?_) (fun ew' v0' v1' => absurd (ew.symm.trans ew') (by decide)) (fun y => absurd (Or.inr (Or.inr (Or.inr (Or.inr (Or.inl ⟨ew, (rs n p (by omega) hp ep).1, (rs n p (by omega) hp ep).2, v0, v1⟩))))) y)
    have q := nI_j ep ep' (by omega) (by omega)
    subst q
    refine ⟨rfl, INV_D (V' := up V 5 p' v) hI hD (Nat.le_refl n) ⟨?_, ?_, zVg_u hg (by omega), fun s g1 g2 => ?_, ?_, ?_, vX_x hx (fun j i h => zup_n2 (by omega))⟩ (fun a b x y => ?_) ?_ ?_⟩
    · exact zVk_o zKk2 (zVk_a zKk2 hV (j := 5) (by omega)) (l := [95, 195, 196]) ((((Fr.rf.put (by decide)).put (by decide)).put (by decide)).put (by decide)) (by decide)
    · exact zVm_o (zVm_u hn18 (zVm_o hm (((Fr.rf (l := [8, 95, 195])).put (by decide)).put (by decide) |>.put (by decide)) (by decide) : zVm (up (up (up σ 8 p' v) 95 2 0) 195 0 0) V n false) ⟨zCn5 (by omega), fun _ _ => rfl, fun z => by omega, fun z => by omega⟩) ((Fr.rf (l := [195])).put (by decide)) (by decide)
    · rw [zup_n2 (by omega), zup_z (by decide)]; exact hz s g1 g2
    · rw [zup_n2 (by omega), zup_n2 (by omega), zup_n2 (by omega), zup_n2 (by omega), zup_n2 (by omega)]; exact hs
    · rw [zup_n2 (by omega), zup_n2 (by omega), zup_n2 (by omega), zup_n2 (by omega), zup_n2 (by omega)]; exact h5
    · unfold sc at x; unfold dc at y
      rw [zup_n2 (by omega), zup_n2 (by omega), zup_n2 (by omega), zup_n2 (by omega), zup_n2 (by omega)]
    · rw [zup_n2 (by omega), zup_n2 (by omega), zup_n2 (by omega), zup_eq]
    · exact zup_eq
  · refine s_mset (d := 8) (n := n) ((zup_n2 (by omega)).trans ((zup_n2 (by omega)).trans hs)) hn18 (fun p' hp' ew' ep' v0' v1' => absurd (ew.symm.trans ew') (by decide)) (fun p' hp' ew' ep' v0' v1' => absurd (ew.symm.trans ew') (by decide)) (fun p' hp' ew' ep' v0' v1' => absurd (ew.symm.trans ew') (by decide)) (fun p' hp' ew' ep' v0' v1' => absurd (ew.symm.trans ew') (by decide)) (fun p' hp' ew' ep' v0' v1' => absurd (ew.symm.trans ew') (by decide)) (fun ew' v0' v1' => ?_) (fun y => absurd (Or.inr (Or.inr (Or.inr (Or.inr (Or.inr ⟨ew, v0, v1⟩))))) y)
    refine ⟨rfl, INV_D (V' := up V 11 14 v) hI hD (Nat.le_refl n) ⟨?_, ?_, zVg_u hg (by omega), fun s g1 g2 => ?_, ?_, ?_, vX_x hx (fun j i h => zup_n2 (by omega))⟩ (fun a b x y => ?_) ?_ ?_⟩
    · exact zVk_o zKk2 (zVk_f zKk2 hV (f := 14) (by omega) (by omega)) (l := [95, 195, 196]) ((((Fr.rf.put (by decide)).put (by decide)).put (by decide)).put (by decide)) (by decide)
    · exact zVm_o (zVm_u hn18 (zVm_o hm (((Fr.rf (l := [2, 95, 195])).put (by decide)).put (by decide) |>.put (by decide)) (by decide) : zVm (up (up (up σ 2 14 v) 95 2 0) 195 0 0) V n false) ⟨zCnf (by omega), fun _ _ => rfl, fun z => by omega, fun z => by omega⟩) ((Fr.rf (l := [195])).put (by decide)) (by decide)
    · rw [zup_z (by decide), zup_z (by decide)]; exact hz s g1 g2
    · rw [zup_n2 (by omega), zup_n2 (by omega), zup_n2 (by omega), zup_n2 (by omega), zup_n2 (by omega)]; exact hs
    · rw [zup_n2 (by omega), zup_n2 (by omega), zup_n2 (by omega), zup_n2 (by omega), zup_n2 (by omega)]; exact h5
    · unfold sc at x; unfold dc at y
      rw [zup_n2 (by omega), zup_n2 (by omega), zup_n2 (by omega), zup_n2 (by omega), zup_n2 (by omega)]
    · rw [zup_n2 (by omega), zup_n2 (by omega), zup_n2 (by omega), zup_eq]
    · exact zup_eq
  · exact s_mset (d := 8) hs hn18 (fun p' hp' ew' ep' v0' v1' => absurd (Or.inl ⟨ew', (rs 12 p' (by omega) hp' ep').1, (rs 12 p' (by omega) hp' ep').2, v0', v1'⟩) z) (fun p' hp' ew' ep' v0' v1' => absurd (Or.inr (Or.inl ⟨ew', (rs 12 p' (by omega) hp' ep').1, (rs 12 p' (by omega) hp' ep').2, v0', v1'⟩)) z) (fun p' hp' ew' ep' v0' v1' => absurd (Or.inr (Or.inr (Or.inl ⟨ew', (rs 12 p' (by omega) hp' ep').1, (rs 12 p' (by omega) hp' ep').2, v0', v1'⟩))) z) (fun p' hp' ew' ep' v0' v1' => absurd (Or.inr (Or.inr (Or.inr (Or.inl ⟨ew', (rs n p' (by omega) hp' ep').1, (rs n p' (by omega) hp' ep').2, v0', v1'⟩)))) z) (fun p' hp' ew' ep' v0' v1' => absurd (Or.inr (Or.inr (Or.inr (Or.inr (Or.inl ⟨ew', (rs n p' (by omega) hp' ep').1, (rs n p' (by omega) hp' ep').2, v0', v1'⟩))))) z) (fun ew' v0' v1' => absurd (Or.inr (Or.inr (Or.inr (Or.inr (Or.inr ⟨ew', v0', v1'⟩))))) z) (fun _ => zPr_i hI sc_u)

