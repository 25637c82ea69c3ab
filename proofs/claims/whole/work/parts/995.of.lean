/-! of in the class; place and of in the model -/
theorem zPl_c {V : zS} {n : Nat} {b : Nat → Int32} {T : zTe} {q : Nat} {f : Int32} {Q : Int32 → Prop} (h : Q (zPl V n b T q f)) : (f = 0 → Q (V 0 q)) ∧ (f = 1 → Q (V 1 q)) ∧ (f = 2 → Q (V 2 q)) ∧ (f = 3 → Q (zset (fun s => decide (V 6 s = 1) && decide (V 3 s = nI q)) n)) ∧ (f = 4 → Q (b q)) ∧ (f = 5 → Q (T 2 (zFv V n false 0 q 0))) ∧ (¬ f = 0 → ¬ f = 1 → ¬ f = 2 → ¬ f = 3 → ¬ f = 4 → ¬ f = 5 → Q (-1)) := by
  unfold zPl at h
  refine ⟨fun z => ?_, fun z => ?_, fun z => ?_, fun z => ?_, fun z => ?_, fun z => ?_, fun z0 z1 z2 z3 z4 z5 => ?_⟩
  · subst z; exact h
  · subst z; exact h
  · subst z; exact h
  · subst z; exact h
  · subst z; exact h
  · subst z; exact h
  · rw [if_neg z0, if_neg z1, if_neg z2, if_neg z3, if_neg z4, if_neg z5] at h; exact h
theorem zQo_c {V : zS} {n : Nat} {T : zTe} {s : Nat} {f : Int32} {Q : Int32 → Prop} (h : Q (zQo V n T s f)) : (f = 0 → Q (V 3 s)) ∧ (f = 1 → Q (V 4 s)) ∧ (f = 2 → Q (V 5 s)) ∧ (f = 3 → Q (V 6 s)) ∧ (f = 4 → Q (V 7 s)) ∧ (f = 5 → Q (V 8 s)) ∧ (f = 6 → Q (T 0 (zFv V n true s (un (V 3 s)) 4))) ∧ (f = 7 → Q (T 1 (zFv V n true s (un (V 3 s)) 4))) ∧ (¬ f = 0 → ¬ f = 1 → ¬ f = 2 → ¬ f = 3 → ¬ f = 4 → ¬ f = 5 → ¬ f = 6 → ¬ f = 7 → Q (-1)) := by
  unfold zQo at h
  refine ⟨fun z => ?_, fun z => ?_, fun z => ?_, fun z => ?_, fun z => ?_, fun z => ?_, fun z => ?_, fun z => ?_, fun z0 z1 z2 z3 z4 z5 z6 z7 => ?_⟩
  · subst z; exact h
  · subst z; exact h
  · subst z; exact h
  · subst z; exact h
  · subst z; exact h
  · subst z; exact h
  · subst z; exact h
  · subst z; exact h
  · rw [if_neg z0, if_neg z1, if_neg z2, if_neg z3, if_neg z4, if_neg z5, if_neg z6, if_neg z7] at h; exact h
theorem s_kof {d n N : Nat} {σ V : zS} {Q : Int32 → zS → Prop} {w f : Int32} {Wd Fr' Wh To O A : Nat → Nat} {B : Nat → Int32} (hV : zVk σ 2 false V) (hg : zVg V n) (hd : zKd σ N Wd Fr' Wh To O A B) (h1 : ∀ s, s < n → w = nI s → ∀ τ, Fr [89, 90] σ τ → Q (zQo V n (zTl N Wd Fr' Wh To O A) s f) τ) (h0 : ¬ (0 ≤ w ∧ w < nI n) → Q (-1) σ) : zI1 (d + 3) 132 [.ref 0, .int w, .int f] σ Q := by
  obtain ⟨gn, gn18, gat, _⟩ := id hg
  have hsub : σ 2 11 = nI n := (hV.2.1 11 (by decide) (by decide)).trans gn
  show zk _ _ 0 [.ref 0, .int w, .int f, zun] [] _ _
  by_cases hw : 0 ≤ w ∧ w < nI n
  · obtain ⟨s, hs, e⟩ := zpl_ex hw.1 hw.2 (by omega)
    have hx := h1 s hs e
    clear h1
    subst e
    obtain ⟨p, hp, hpV⟩ := gat s hs
    have hup : un (V 3 s) = p := by rw [hpV]; exact un_nI (by omega)
    have v0 : σ (2 + 1 + 3) s = V 3 s := hV.1 3 (by decide) s
    have v1 : σ (2 + 1 + 4) s = V 4 s := hV.1 4 (by decide) s
    have v2 : σ (2 + 1 + 5) s = V 5 s := hV.1 5 (by decide) s
    have v3 : σ (2 + 1 + 6) s = V 6 s := hV.1 6 (by decide) s
    have v4 : σ (2 + 1 + 7) s = V 7 s := hV.1 7 (by decide) s
    have v5 : σ (2 + 1 + 8) s = V 8 s := hV.1 8 (by decide) s
    have htl : ∀ (j : Nat) (Q2 : Int32 → zS → Prop), j ≤ 2 → (∀ υ, Fr [89, 90] σ υ → Q2 (zTl N Wd Fr' Wh To O A j (zFv V n true s p 4)) υ) → zI1 (d + 2) 24 [.ref 88, .int (nI (10000 + j)), .int (nI s), .int (nI p), .int 4] σ Q2 := fun j Q2 hj h2 => s_tells (sb := true) zLa88 zDu_2 (by decide) hsub gn18 (Or.inl ⟨rfl, hs, rfl⟩) hp hd.1 hd.2.1 hj (fun υ hF => by rw [zfk_v hV]; exact h2 υ hF)
    have hy := fun τ hF => zQo_c (Q := fun v => Q v τ) (hx τ hF)
    rw [hup] at hy
    have b0 := fun z => (hy σ Fr.rf).1 z
    have b1 := fun z => (hy σ Fr.rf).2.1 z
    have b2 := fun z => (hy σ Fr.rf).2.2.1 z
    have b3 := fun z => (hy σ Fr.rf).2.2.2.1 z
    have b4 := fun z => (hy σ Fr.rf).2.2.2.2.1 z
    have b5 := fun z => (hy σ Fr.rf).2.2.2.2.2.1 z
    have b6 := fun z τ hF => (hy τ hF).2.2.2.2.2.2.1 z
    have b7 := fun z τ hF => (hy τ hF).2.2.2.2.2.2.2.1 z
    have b8 := (hy σ Fr.rf).2.2.2.2.2.2.2.2
    refine r_al0 zi_132_0 rfl ?_
    refine q_getR zi_132_1 rfl cf_0_0 ?_
    refine q_getR zi_132_4 rfl cf_1_0 ?_
    refine r_as3 zi_132_7 rfl ?_
    refine r_al3 zi_132_8 rfl ?_
    refine r_il1 zi_132_9 rfl ?_
    refine q_cIV zi_132_10 rfl rfl rfl rfl rfl rfl rfl cf_2_0.ob (s_dsubj zDu_2 hsub gn18 (fun q hq1 e => ?_) (fun z => absurd hw z))
    show zk _ _ 13 _ _ _ _
    refine r_if1 zi_132_13 rfl (fun _ => ?_) (fun c => absurd c (by decide))
    refine r_il2 zi_132_18 rfl ?_
    refine r_sw zi_132_19 rfl ?_
    by_cases c2_0 : f = 0
    · rw [c2_0]
      show zk _ _ 64 _ _ _ _
      refine r_al3 zi_132_64 rfl ?_
      refine q_getR zi_132_65 rfl cf_2_3 ?_
      refine r_il1 zi_132_68 rfl ?_
      refine r_alde zi_132_69 rfl s ca_6 (by first | rfl | (simp only [zI_add, zI_mul] <;> rfl)) (by first | omega | decide) (u := V 3 s) (by first | exact v0 | ((repeat (first | rw [zup_ne (by first | decide | omega)] | rw [zup_nj (by first | decide | omega)] | rw [fil_ne (by first | decide | omega)])) <;> exact v0) | (simp [up_rd, fil_rd]; exact v0)) ?_
      refine r_retI zi_132_70 rfl ?_
      first | exact ⟨_, rfl, b0 (by assumption)⟩ | exact ⟨_, rfl, b1 (by assumption)⟩ | exact ⟨_, rfl, b2 (by assumption)⟩ | exact ⟨_, rfl, b3 (by assumption)⟩ | exact ⟨_, rfl, b4 (by assumption)⟩ | exact ⟨_, rfl, b5 (by assumption)⟩ | exact ⟨_, rfl, b6 (by assumption) υ x1⟩ | exact ⟨_, rfl, b7 (by assumption) υ x1⟩ | exact ⟨_, rfl, b8 (by assumption) (by assumption) (by assumption) (by assumption) (by assumption) (by assumption) (by assumption) (by assumption)⟩
    by_cases c2_1 : f = 1
    · rw [c2_1]
      show zk _ _ 71 _ _ _ _
      refine r_al3 zi_132_71 rfl ?_
      refine q_getR zi_132_72 rfl cf_2_4 ?_
      refine r_il1 zi_132_75 rfl ?_
      refine r_alde zi_132_76 rfl s ca_7 (by first | rfl | (simp only [zI_add, zI_mul] <;> rfl)) (by first | omega | decide) (u := V 4 s) (by first | exact v1 | ((repeat (first | rw [zup_ne (by first | decide | omega)] | rw [zup_nj (by first | decide | omega)] | rw [fil_ne (by first | decide | omega)])) <;> exact v1) | (simp [up_rd, fil_rd]; exact v1)) ?_
      refine r_retI zi_132_77 rfl ?_
      first | exact ⟨_, rfl, b0 (by assumption)⟩ | exact ⟨_, rfl, b1 (by assumption)⟩ | exact ⟨_, rfl, b2 (by assumption)⟩ | exact ⟨_, rfl, b3 (by assumption)⟩ | exact ⟨_, rfl, b4 (by assumption)⟩ | exact ⟨_, rfl, b5 (by assumption)⟩ | exact ⟨_, rfl, b6 (by assumption) υ x1⟩ | exact ⟨_, rfl, b7 (by assumption) υ x1⟩ | exact ⟨_, rfl, b8 (by assumption) (by assumption) (by assumption) (by assumption) (by assumption) (by assumption) (by assumption) (by assumption)⟩
    by_cases c2_2 : f = 2
    · rw [c2_2]
      show zk _ _ 78 _ _ _ _
      refine r_al3 zi_132_78 rfl ?_
      refine q_getR zi_132_79 rfl cf_2_5 ?_
      refine r_il1 zi_132_82 rfl ?_
      refine r_alde zi_132_83 rfl s ca_8 (by first | rfl | (simp only [zI_add, zI_mul] <;> rfl)) (by first | omega | decide) (u := V 5 s) (by first | exact v2 | ((repeat (first | rw [zup_ne (by first | decide | omega)] | rw [zup_nj (by first | decide | omega)] | rw [fil_ne (by first | decide | omega)])) <;> exact v2) | (simp [up_rd, fil_rd]; exact v2)) ?_
      refine r_retI zi_132_84 rfl ?_
      first | exact ⟨_, rfl, b0 (by assumption)⟩ | exact ⟨_, rfl, b1 (by assumption)⟩ | exact ⟨_, rfl, b2 (by assumption)⟩ | exact ⟨_, rfl, b3 (by assumption)⟩ | exact ⟨_, rfl, b4 (by assumption)⟩ | exact ⟨_, rfl, b5 (by assumption)⟩ | exact ⟨_, rfl, b6 (by assumption) υ x1⟩ | exact ⟨_, rfl, b7 (by assumption) υ x1⟩ | exact ⟨_, rfl, b8 (by assumption) (by assumption) (by assumption) (by assumption) (by assumption) (by assumption) (by assumption) (by assumption)⟩
    by_cases c2_3 : f = 3
    · rw [c2_3]
      show zk _ _ 85 _ _ _ _
      refine r_al3 zi_132_85 rfl ?_
      refine q_getR zi_132_86 rfl cf_2_6 ?_
      refine r_il1 zi_132_89 rfl ?_
      refine r_alde zi_132_90 rfl s ca_9 (by first | rfl | (simp only [zI_add, zI_mul] <;> rfl)) (by first | omega | decide) (u := V 6 s) (by first | exact v3 | ((repeat (first | rw [zup_ne (by first | decide | omega)] | rw [zup_nj (by first | decide | omega)] | rw [fil_ne (by first | decide | omega)])) <;> exact v3) | (simp [up_rd, fil_rd]; exact v3)) ?_
      refine r_retI zi_132_91 rfl ?_
      first | exact ⟨_, rfl, b0 (by assumption)⟩ | exact ⟨_, rfl, b1 (by assumption)⟩ | exact ⟨_, rfl, b2 (by assumption)⟩ | exact ⟨_, rfl, b3 (by assumption)⟩ | exact ⟨_, rfl, b4 (by assumption)⟩ | exact ⟨_, rfl, b5 (by assumption)⟩ | exact ⟨_, rfl, b6 (by assumption) υ x1⟩ | exact ⟨_, rfl, b7 (by assumption) υ x1⟩ | exact ⟨_, rfl, b8 (by assumption) (by assumption) (by assumption) (by assumption) (by assumption) (by assumption) (by assumption) (by assumption)⟩
    by_cases c2_4 : f = 4
    · rw [c2_4]
      show zk _ _ 92 _ _ _ _
      refine r_al3 zi_132_92 rfl ?_
      refine q_getR zi_132_93 rfl cf_2_7 ?_
      refine r_il1 zi_132_96 rfl ?_
      refine r_alde zi_132_97 rfl s ca_10 (by first | rfl | (simp only [zI_add, zI_mul] <;> rfl)) (by first | omega | decide) (u := V 7 s) (by first | exact v4 | ((repeat (first | rw [zup_ne (by first | decide | omega)] | rw [zup_nj (by first | decide | omega)] | rw [fil_ne (by first | decide | omega)])) <;> exact v4) | (simp [up_rd, fil_rd]; exact v4)) ?_
      refine r_retI zi_132_98 rfl ?_
      first | exact ⟨_, rfl, b0 (by assumption)⟩ | exact ⟨_, rfl, b1 (by assumption)⟩ | exact ⟨_, rfl, b2 (by assumption)⟩ | exact ⟨_, rfl, b3 (by assumption)⟩ | exact ⟨_, rfl, b4 (by assumption)⟩ | exact ⟨_, rfl, b5 (by assumption)⟩ | exact ⟨_, rfl, b6 (by assumption) υ x1⟩ | exact ⟨_, rfl, b7 (by assumption) υ x1⟩ | exact ⟨_, rfl, b8 (by assumption) (by assumption) (by assumption) (by assumption) (by assumption) (by assumption) (by assumption) (by assumption)⟩
    by_cases c2_5 : f = 5
    · rw [c2_5]
      show zk _ _ 99 _ _ _ _
      refine r_al3 zi_132_99 rfl ?_
      refine q_getR zi_132_100 rfl cf_2_8 ?_
      refine r_il1 zi_132_103 rfl ?_
      refine r_alde zi_132_104 rfl s ca_11 (by first | rfl | (simp only [zI_add, zI_mul] <;> rfl)) (by first | omega | decide) (u := V 8 s) (by first | exact v5 | ((repeat (first | rw [zup_ne (by first | decide | omega)] | rw [zup_nj (by first | decide | omega)] | rw [fil_ne (by first | decide | omega)])) <;> exact v5) | (simp [up_rd, fil_rd]; exact v5)) ?_
      refine r_retI zi_132_105 rfl ?_
      first | exact ⟨_, rfl, b0 (by assumption)⟩ | exact ⟨_, rfl, b1 (by assumption)⟩ | exact ⟨_, rfl, b2 (by assumption)⟩ | exact ⟨_, rfl, b3 (by assumption)⟩ | exact ⟨_, rfl, b4 (by assumption)⟩ | exact ⟨_, rfl, b5 (by assumption)⟩ | exact ⟨_, rfl, b6 (by assumption) υ x1⟩ | exact ⟨_, rfl, b7 (by assumption) υ x1⟩ | exact ⟨_, rfl, b8 (by assumption) (by assumption) (by assumption) (by assumption) (by assumption) (by assumption) (by assumption) (by assumption)⟩
    by_cases c2_6 : f = 6
    · rw [c2_6]
      show zk _ _ 106 _ _ _ _
      refine r_al0 zi_132_106 rfl ?_
      refine q_getR zi_132_107 rfl cf_0_4 ?_
      refine q_getR zi_132_110 rfl cf_87_2 ?_
      refine r_push zi_132_113 rfl ?_
      refine r_il1 zi_132_116 rfl ?_
      refine r_al3 zi_132_117 rfl ?_
      refine q_getR zi_132_118 rfl cf_2_3 ?_
      refine r_il1 zi_132_121 rfl ?_
      refine r_alde zi_132_122 rfl s ca_6 (by first | rfl | (simp only [zI_add, zI_mul] <;> rfl)) (by first | omega | decide) (u := nI p) (by first | exact (v0.trans hpV) | ((repeat (first | rw [zup_ne (by first | decide | omega)] | rw [zup_nj (by first | decide | omega)] | rw [fil_ne (by first | decide | omega)])) <;> exact (v0.trans hpV)) | (simp [up_rd, fil_rd]; exact (v0.trans hpV))) ?_
      refine r_push zi_132_123 rfl ?_
      refine q_cIV zi_132_124 rfl rfl rfl rfl rfl rfl rfl cf_88_0.ob (htl 0 _ (by decide) (fun υ x1 => ?_))
      show zk _ _ 127 _ _ _ _
      refine r_retI zi_132_127 rfl ?_
      first | exact ⟨_, rfl, b0 (by assumption)⟩ | exact ⟨_, rfl, b1 (by assumption)⟩ | exact ⟨_, rfl, b2 (by assumption)⟩ | exact ⟨_, rfl, b3 (by assumption)⟩ | exact ⟨_, rfl, b4 (by assumption)⟩ | exact ⟨_, rfl, b5 (by assumption)⟩ | exact ⟨_, rfl, b6 (by assumption) υ x1⟩ | exact ⟨_, rfl, b7 (by assumption) υ x1⟩ | exact ⟨_, rfl, b8 (by assumption) (by assumption) (by assumption) (by assumption) (by assumption) (by assumption) (by assumption) (by assumption)⟩
    by_cases c2_7 : f = 7
    · rw [c2_7]
      show zk _ _ 128 _ _ _ _
      refine r_al0 zi_132_128 rfl ?_
      refine q_getR zi_132_129 rfl cf_0_4 ?_
      refine q_getR zi_132_132 rfl cf_87_2 ?_
      refine r_push zi_132_135 rfl ?_
      refine r_il1 zi_132_138 rfl ?_
      refine r_al3 zi_132_139 rfl ?_
      refine q_getR zi_132_140 rfl cf_2_3 ?_
      refine r_il1 zi_132_143 rfl ?_
      refine r_alde zi_132_144 rfl s ca_6 (by first | rfl | (simp only [zI_add, zI_mul] <;> rfl)) (by first | omega | decide) (u := nI p) (by first | exact (v0.trans hpV) | ((repeat (first | rw [zup_ne (by first | decide | omega)] | rw [zup_nj (by first | decide | omega)] | rw [fil_ne (by first | decide | omega)])) <;> exact (v0.trans hpV)) | (simp [up_rd, fil_rd]; exact (v0.trans hpV))) ?_
      refine r_push zi_132_145 rfl ?_
      refine q_cIV zi_132_146 rfl rfl rfl rfl rfl rfl rfl cf_88_0.ob (htl 1 _ (by decide) (fun υ x1 => ?_))
      show zk _ _ 149 _ _ _ _
      refine r_retI zi_132_149 rfl ?_
      first | exact ⟨_, rfl, b0 (by assumption)⟩ | exact ⟨_, rfl, b1 (by assumption)⟩ | exact ⟨_, rfl, b2 (by assumption)⟩ | exact ⟨_, rfl, b3 (by assumption)⟩ | exact ⟨_, rfl, b4 (by assumption)⟩ | exact ⟨_, rfl, b5 (by assumption)⟩ | exact ⟨_, rfl, b6 (by assumption) υ x1⟩ | exact ⟨_, rfl, b7 (by assumption) υ x1⟩ | exact ⟨_, rfl, b8 (by assumption) (by assumption) (by assumption) (by assumption) (by assumption) (by assumption) (by assumption) (by assumption)⟩
    rw [show zsw [(0, 64), (1, 71), (2, 78), (3, 85), (4, 92), (5, 99), (6, 106), (7, 128)] 150 f = 150 from by simp [zsw, c2_0, c2_1, c2_2, c2_3, c2_4, c2_5, c2_6, c2_7]]
    refine r_push zi_132_150 rfl ?_
    refine r_retI zi_132_151 rfl ?_
    first | exact ⟨_, rfl, b0 (by assumption)⟩ | exact ⟨_, rfl, b1 (by assumption)⟩ | exact ⟨_, rfl, b2 (by assumption)⟩ | exact ⟨_, rfl, b3 (by assumption)⟩ | exact ⟨_, rfl, b4 (by assumption)⟩ | exact ⟨_, rfl, b5 (by assumption)⟩ | exact ⟨_, rfl, b6 (by assumption) υ x1⟩ | exact ⟨_, rfl, b7 (by assumption) υ x1⟩ | exact ⟨_, rfl, b8 (by assumption) (by assumption) (by assumption) (by assumption) (by assumption) (by assumption) (by assumption) (by assumption)⟩
  · have h0 := h0 hw
    refine r_al0 zi_132_0 rfl ?_
    refine q_getR zi_132_1 rfl cf_0_0 ?_
    refine q_getR zi_132_4 rfl cf_1_0 ?_
    refine r_as3 zi_132_7 rfl ?_
    refine r_al3 zi_132_8 rfl ?_
    refine r_il1 zi_132_9 rfl ?_
    refine q_cIV zi_132_10 rfl rfl rfl rfl rfl rfl rfl cf_2_0.ob (s_dsubj zDu_2 hsub gn18 (fun q hq1 e => absurd ⟨by rw [e]; exact nI_pos' (by omega), by rw [e]; exact nI_lt hq1 (by omega)⟩ hw) (fun _ => ?_))
    show zk _ _ 13 _ _ _ _
    refine r_if1 zi_132_13 rfl (fun c => absurd (by decide) c) (fun _ => ?_)
    refine r_push zi_132_16 rfl ?_
    refine r_retI zi_132_17 rfl ?_
    exact ⟨_, rfl, h0⟩
theorem zMd_t {σ : zS} {n N : Nat} {th : Bool} {v : Int32} {Wd Fr' Wh To O A : Nat → Nat} {B : Nat → Int32} (h : zMd σ n th N Wd Fr' Wh To O A B) : zMd (up σ 195 0 v) n th N Wd Fr' Wh To O A B := by
  obtain ⟨h1, h2, h3, h4, hM, h6, h7⟩ := h
  have e : ∀ a b, a ≠ 195 → up σ 195 0 v a b = σ a b := fun a b ha => zup_ne ha
  refine ⟨(zup_nj (by decide)).trans h1, h2, (zup_nj (by decide)).trans h3, h4, ⟨(e 204 0 (by decide)).trans hM.1, fun l hl => ?_⟩, (funext fun b => e 214 b (by decide)).trans h6, h7⟩
  obtain ⟨m1, m2, m3, m4, m5⟩ := hM.2 l hl
  exact ⟨(e 205 _ (by decide)).trans m1, (e 206 _ (by decide)).trans m2, (e 207 _ (by decide)).trans m3, (e 208 _ (by decide)).trans m4, fun j h3 h4 => ⟨(e 209 j (by decide)).trans (m5 j h3 h4).1, (e 210 j (by decide)).trans (m5 j h3 h4).2⟩⟩
theorem s_mplaceOf {d n N : Nat} {σ V : zS} {Q : Int32 → zS → Prop} {p f : Int32} {Wd Fr' Wh To O A : Nat → Nat} {B : Nat → Int32} (hM : zMd σ n false N Wd Fr' Wh To O A B) (hV : zVm σ V n false) (hg : zVg V n) (h1 : ∀ q, q < 12 → p = nI q → ∀ τ, Fr [215, 216] (up σ 195 0 0) τ → Q (zPl V n B (zTl N Wd Fr' Wh To O A) q f) τ) (h0 : ¬ (0 ≤ p ∧ p < 12) → Q (-1) (up σ 195 0 0)) : zI1 (d + 5) 245 [.ref 195, .int p, .int f] σ Q := by
  have hn18 := hM.2.1
  have hM1 := zMd_t (v := 0) hM
  have hV1 : zVm (up σ 195 0 0) V n false := zVm_o hV ((Fr.rf (l := [195])).put (by decide)) (by decide)
  show zk _ _ 0 [.ref 195, .int p, .int f] [] _ _
  by_cases hp : 0 ≤ p ∧ p < 12
  · obtain ⟨q, hq, e⟩ := zpl_ex (n := 12) hp.1 hp.2 (by decide)
    have hx := h1 q hq e
    clear h1
    subst e
    obtain ⟨m6, m18, m199⟩ := hV1.2.1 q hq
    have m214 : up σ 195 0 0 214 q = B q := congrFun hM1.2.2.2.2.2.1 q
    generalize hσ1 : up σ 195 0 0 = σ1 at *
    have hth : ∀ (Q2 : Int32 → zS → Prop), Q2 (zset (fun s => decide (V 6 s = 1) && decide (V 3 s = nI q)) n) σ1 → zI1 (d + 4) 180 [.ref 195, .int (nI q)] σ1 Q2 := fun Q2 h2 => s_mthose (d := d + 3) hM1.1 hn18 (by rw [zma_v hV1]; exact h2)
    have htl : ∀ (Q2 : Int32 → zS → Prop), (∀ υ, Fr [215, 216] σ1 υ → Q2 (zTl N Wd Fr' Wh To O A 2 (zFv V n false 0 q 0)) υ) → zI1 (d + 4) 230 [.ref 195, .int (nI q)] σ1 Q2 := fun Q2 h2 => s_growsOf hM1.1 hn18 hq hM1.2.2.2.1 hM1.2.2.2.2.1 (fun υ x => by rw [zfM_v0 hV1 hq]; exact h2 υ x)
    have hy := fun τ hF => zPl_c (Q := fun v => Q v τ) (hx τ hF)
    have b0 := fun z => (hy σ1 Fr.rf).1 z
    have b1 := fun z => (hy σ1 Fr.rf).2.1 z
    have b2 := fun z => (hy σ1 Fr.rf).2.2.1 z
    have b3 := fun z => (hy σ1 Fr.rf).2.2.2.1 z
    have b4 := fun z => (hy σ1 Fr.rf).2.2.2.2.1 z
    have b5 := fun z τ hF => (hy τ hF).2.2.2.2.2.1 z
    have b6 := (hy σ1 Fr.rf).2.2.2.2.2.2
    rw [← m199] at b0
    refine r_al0 zi_245_0 rfl ?_
    refine r_push zi_245_1 rfl ?_
    refine q_put zi_245_2 rfl cf_195_0 rfl ?_
    refine r_al0 zi_245_5 rfl ?_
    rw [hσ1]
    refine r_il1 zi_245_6 rfl ?_
    refine q_cIV zi_245_7 rfl rfl rfl rfl rfl rfl rfl cf_195_0.ob (s_mplace (fun _ _ => ?_) (fun z => absurd hp z))
    show zk _ _ 10 _ _ _ _
    refine r_if1 zi_245_10 rfl (fun _ => ?_) (fun c => absurd c (by decide))
    refine r_il2 zi_245_15 rfl ?_
    refine r_if1 zi_245_16 rfl (fun c2 => ?_) (fun c2 => ?_)
    · refine r_il2 zi_245_28 rfl ?_
      refine r_push zi_245_29 rfl ?_
      refine r_ic1 zi_245_30 rfl (fun c3 => ?_) (fun c3 => ?_)
      · refine r_il2 zi_245_43 rfl ?_
        refine r_push zi_245_44 rfl ?_
        refine r_ic1 zi_245_45 rfl (fun c4 => ?_) (fun c4 => ?_)
        · refine r_il2 zi_245_58 rfl ?_
          refine r_push zi_245_59 rfl ?_
          refine r_ic1 zi_245_60 rfl (fun c5 => ?_) (fun c5 => ?_)
          · refine r_il2 zi_245_71 rfl ?_
            refine r_push zi_245_72 rfl ?_
            refine r_ic1 zi_245_73 rfl (fun c6 => ?_) (fun c6 => ?_)
            · refine r_il2 zi_245_85 rfl ?_
              refine r_push zi_245_86 rfl ?_
              refine r_ic1 zi_245_87 rfl (fun c7 => ?_) (fun c7 => ?_)
              · refine r_push zi_245_98 rfl ?_
                refine r_retI zi_245_99 rfl ?_
                first | exact ⟨_, rfl, b0 (by grind)⟩ | exact ⟨_, rfl, b1 (by grind)⟩ | exact ⟨_, rfl, b2 (by grind)⟩ | exact ⟨_, rfl, b3 (by grind)⟩ | exact ⟨_, rfl, b4 (by grind)⟩ | exact ⟨_, rfl, b5 (by grind) υ x1⟩ | exact ⟨_, rfl, b6 (by grind) (by grind) (by grind) (by grind) (by grind) (by grind)⟩
              · refine r_al0 zi_245_90 rfl ?_
                refine r_il1 zi_245_91 rfl ?_
                refine q_cIV zi_245_92 rfl rfl rfl rfl rfl rfl rfl cf_195_0.ob (htl _ (fun υ x1 => ?_))
                show zk _ _ 95 _ _ _ _
                refine r_goto zi_245_95 rfl ?_
                refine r_retI zi_245_99 rfl ?_
                first | exact ⟨_, rfl, b0 (by grind)⟩ | exact ⟨_, rfl, b1 (by grind)⟩ | exact ⟨_, rfl, b2 (by grind)⟩ | exact ⟨_, rfl, b3 (by grind)⟩ | exact ⟨_, rfl, b4 (by grind)⟩ | exact ⟨_, rfl, b5 (by grind) υ x1⟩ | exact ⟨_, rfl, b6 (by grind) (by grind) (by grind) (by grind) (by grind) (by grind)⟩
            · refine r_al0 zi_245_76 rfl ?_
              refine q_getR zi_245_77 rfl cf_195_38 ?_
              refine r_il1 zi_245_80 rfl ?_
              refine r_alde zi_245_81 rfl q ca_214 (by first | rfl | (simp only [zI_add, zI_mul] <;> rfl)) (by first | omega | decide) (u := B q) (by first | exact m214 | ((repeat (first | rw [zup_ne (by first | decide | omega)] | rw [zup_nj (by first | decide | omega)] | rw [fil_ne (by first | decide | omega)])) <;> exact m214) | (simp [up_rd, fil_rd]; exact m214)) ?_
              refine r_goto zi_245_82 rfl ?_
              refine r_retI zi_245_99 rfl ?_
              first | exact ⟨_, rfl, b0 (by grind)⟩ | exact ⟨_, rfl, b1 (by grind)⟩ | exact ⟨_, rfl, b2 (by grind)⟩ | exact ⟨_, rfl, b3 (by grind)⟩ | exact ⟨_, rfl, b4 (by grind)⟩ | exact ⟨_, rfl, b5 (by grind) υ x1⟩ | exact ⟨_, rfl, b6 (by grind) (by grind) (by grind) (by grind) (by grind) (by grind)⟩
          · refine r_al0 zi_245_63 rfl ?_
            refine r_il1 zi_245_64 rfl ?_
            refine q_cIV zi_245_65 rfl rfl rfl rfl rfl rfl rfl cf_195_0.ob (hth _ ?_)
            show zk _ _ 68 _ _ _ _
            refine r_goto zi_245_68 rfl ?_
            refine r_retI zi_245_99 rfl ?_
            first | exact ⟨_, rfl, b0 (by grind)⟩ | exact ⟨_, rfl, b1 (by grind)⟩ | exact ⟨_, rfl, b2 (by grind)⟩ | exact ⟨_, rfl, b3 (by grind)⟩ | exact ⟨_, rfl, b4 (by grind)⟩ | exact ⟨_, rfl, b5 (by grind) υ x1⟩ | exact ⟨_, rfl, b6 (by grind) (by grind) (by grind) (by grind) (by grind) (by grind)⟩
        · refine r_al0 zi_245_48 rfl ?_
          refine q_getR zi_245_49 rfl cf_195_1 ?_
          refine r_push zi_245_52 rfl ?_
          refine r_il1 zi_245_54 rfl ?_
          refine r_b0 zi_245_55 rfl ?_
          rw [show (18 + nI q : Int32) = nI (18 + q) from nI_add _ _]
          refine r_alde zi_245_56 rfl (18 + q) ca_196 (by first | rfl | (simp only [zI_add, zI_mul] <;> rfl)) (by first | omega | decide) (u := V 2 q) (by first | exact m18 | ((repeat (first | rw [zup_ne (by first | decide | omega)] | rw [zup_nj (by first | decide | omega)] | rw [fil_ne (by first | decide | omega)])) <;> exact m18) | (simp [up_rd, fil_rd]; exact m18)) ?_
          refine r_retI zi_245_57 rfl ?_
          first | exact ⟨_, rfl, b0 (by grind)⟩ | exact ⟨_, rfl, b1 (by grind)⟩ | exact ⟨_, rfl, b2 (by grind)⟩ | exact ⟨_, rfl, b3 (by grind)⟩ | exact ⟨_, rfl, b4 (by grind)⟩ | exact ⟨_, rfl, b5 (by grind) υ x1⟩ | exact ⟨_, rfl, b6 (by grind) (by grind) (by grind) (by grind) (by grind) (by grind)⟩
      · refine r_al0 zi_245_33 rfl ?_
        refine q_getR zi_245_34 rfl cf_195_1 ?_
        refine r_push zi_245_37 rfl ?_
        refine r_il1 zi_245_39 rfl ?_
        refine r_b0 zi_245_40 rfl ?_
        rw [show (6 + nI q : Int32) = nI (6 + q) from nI_add _ _]
        refine r_alde zi_245_41 rfl (6 + q) ca_196 (by first | rfl | (simp only [zI_add, zI_mul] <;> rfl)) (by first | omega | decide) (u := V 1 q) (by first | exact m6 | ((repeat (first | rw [zup_ne (by first | decide | omega)] | rw [zup_nj (by first | decide | omega)] | rw [fil_ne (by first | decide | omega)])) <;> exact m6) | (simp [up_rd, fil_rd]; exact m6)) ?_
        refine r_retI zi_245_42 rfl ?_
        first | exact ⟨_, rfl, b0 (by grind)⟩ | exact ⟨_, rfl, b1 (by grind)⟩ | exact ⟨_, rfl, b2 (by grind)⟩ | exact ⟨_, rfl, b3 (by grind)⟩ | exact ⟨_, rfl, b4 (by grind)⟩ | exact ⟨_, rfl, b5 (by grind) υ x1⟩ | exact ⟨_, rfl, b6 (by grind) (by grind) (by grind) (by grind) (by grind) (by grind)⟩
    · refine r_al0 zi_245_19 rfl ?_
      refine q_getR zi_245_20 rfl cf_195_7 ?_
      refine r_il1 zi_245_23 rfl ?_
      refine r_ald zi_245_24 rfl q ca_199 (by first | rfl | (simp only [zI_add, zI_mul] <;> rfl)) (by first | omega | decide) ?_
      refine r_push zi_245_25 rfl ?_
      refine r_b0 zi_245_26 rfl ?_
      refine r_retI zi_245_27 rfl ?_
      first | exact ⟨_, rfl, b0 (by grind)⟩ | exact ⟨_, rfl, b1 (by grind)⟩ | exact ⟨_, rfl, b2 (by grind)⟩ | exact ⟨_, rfl, b3 (by grind)⟩ | exact ⟨_, rfl, b4 (by grind)⟩ | exact ⟨_, rfl, b5 (by grind) υ x1⟩ | exact ⟨_, rfl, b6 (by grind) (by grind) (by grind) (by grind) (by grind) (by grind)⟩
  · have h0 := h0 hp
    refine r_al0 zi_245_0 rfl ?_
    refine r_push zi_245_1 rfl ?_
    refine q_put zi_245_2 rfl cf_195_0 rfl ?_
    refine r_al0 zi_245_5 rfl ?_
    refine r_il1 zi_245_6 rfl ?_
    refine q_cIV zi_245_7 rfl rfl rfl rfl rfl rfl rfl cf_195_0.ob (s_mplace (fun z1 z2 => absurd ⟨z1, z2⟩ hp) (fun _ => ?_))
    show zk _ _ 10 _ _ _ _
    refine r_if1 zi_245_10 rfl (fun c => absurd (by decide) c) (fun _ => ?_)
    refine r_push zi_245_13 rfl ?_
    refine r_retI zi_245_14 rfl ?_
    exact ⟨_, rfl, h0⟩

