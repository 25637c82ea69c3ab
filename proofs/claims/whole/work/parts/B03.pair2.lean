theorem nI_z {n : Nat} (h : n < 2 ^ 31) : 0 ≤ nI n := nI_le (a := 0) (Nat.zero_le _) h
theorem nI_j {a b : Nat} {v : Int32} (h1 : v = nI a) (h2 : v = nI b) (ha : a < 2 ^ 31) (hb : b < 2 ^ 31) : b = a := (nI_eq hb ha).mp (h2.symm.trans h1)
theorem nI_r {a b c : Nat} {v : Int32} (e : v = nI a) (h1 : b ≤ a) (h2 : a ≤ c) (hc : c < 2 ^ 31) : nI b ≤ v ∧ v ≤ nI c := by
  rw [e]; exact ⟨nI_le h1 (by omega), nI_le h2 hc⟩
theorem c_bath {h g yw what : Int32} : zPr 136 253 [.int h, .int g, .int yw, .int what] := fun σ hI => by
  have ok : ∀ H G Y n a, H ≤ 99 → G ≤ 99 → Y ≤ 99 → 1 ≤ n → n ≤ 10 → a ≤ 1 → h = nI H → g = nI G → yw = nI Y → what = nI (10 * n + a) → zbOK h g yw what := fun H G Y n a h1 h2 h3 h4 h5 h6 e1 e2 e3 e4 => by
    have a1 := nI_r (b := 0) (c := 99) e1 (by omega) h1 (by omega)
    have a2 := nI_r (b := 0) (c := 99) e2 (by omega) h2 (by omega)
    have a3 := nI_r (b := 0) (c := 99) e3 (by omega) h3 (by omega)
    have a4 := nI_r (b := 10) (c := 109) e4 (by omega) (by omega) (by omega)
    refine ⟨a1.1, a1.2, a2.1, a2.2, a3.1, a3.2, a4.1, a4.2, ?_⟩
    rw [e4, show (nI (10 * n + a) % 10 : Int32) = nI ((10 * n + a) % 10) from zI_rem (d := 10) (by omega) (by omega) (by omega), show (10 * n + a) % 10 = a by omega]
    exact nI_le (b := 1) h6 (by omega)
  refine s_kbath (d := 6) (fun H G Y n a h1 h2 h3 h4 h5 h6 e1 e2 e3 e4 τ hτ => ?_) (fun z => ?_)
  · refine s_mbath (d := 7) (fun H' G' Y' n' a' g1 g2 g3 g4 g5 g6 f1 f2 f3 f4 υ hυ => ?_) (fun y => absurd (ok H G Y n a h1 h2 h3 h4 h5 h6 e1 e2 e3 e4) y)
    have q1 := nI_j e1 f1 (by omega) (by omega)
    have q2 := nI_j e2 f2 (by omega) (by omega)
    have q3 := nI_j e3 f3 (by omega) (by omega)
    have q4 := nI_j e4 f4 (by omega) (by omega)
    have q5 : n' = n := by omega
    have q6 : a' = a := by omega
    subst q1 q2 q3 q5 q6
    exact zPr_i hI ((sc_fr hτ rfl).tr (sc_up hυ rfl))
  · exact s_mbath (d := 7) (fun H' G' Y' n' a' g1 g2 g3 g4 g5 g6 f1 f2 f3 f4 υ hυ => absurd (ok H' G' Y' n' a' g1 g2 g3 g4 g5 g6 f1 f2 f3 f4) z) (fun y => zPr_i hI sc_u)
theorem c_follows {ab d m k : Int32} : zPr 137 254 [.int ab, .int d, .int m, .int k] := fun σ hI => by
  have ok : ∀ AB D M K, AB ≤ 999999 → 1 ≤ D → D ≤ 5 → 1 ≤ M → M ≤ 1000 → K ≤ 1000000 → ab = nI AB → d = nI D → m = nI M → k = nI K → zfOK ab d m k := fun AB D M K h1 h2 h3 h4 h5 h6 e1 e2 e3 e4 => by
    have a1 := nI_r (b := 0) (c := 999999) e1 (by omega) h1 (by omega)
    have a2 := nI_r (b := 1) (c := 5) e2 h2 h3 (by omega)
    have a3 := nI_r (b := 1) (c := 1000) e3 h4 h5 (by omega)
    have a4 := nI_r (b := 0) (c := 1000000) e4 (by omega) h6 (by omega)
    exact ⟨a1.1, a1.2, a2.1, a2.2, a3.1, a3.2, a4.1, a4.2⟩
  refine s_kfollows (d0 := 7) (fun AB D M K f _ h1 h2 h3 h4 h5 h6 e1 e2 e3 e4 ef τ hτ => ?_) (fun z => ?_)
  · refine s_mfollows (d0 := 9) (fun AB' D' M' K' f' _ g1 g2 g3 g4 g5 g6 f1 f2 f3 f4 ef' υ hυ => ?_) (fun y => absurd (ok AB D M K h1 h2 h3 h4 h5 h6 e1 e2 e3 e4) y)
    have q1 := nI_j e1 f1 (by omega) (by omega)
    have q2 := nI_j e2 f2 (by omega) (by omega)
    have q3 := nI_j e3 f3 (by omega) (by omega)
    have q4 := nI_j e4 f4 (by omega) (by omega)
    subst q1 q2 q3 q4
    have q5 : f' = f := ef'.trans ef.symm
    subst q5
    exact zPr_i hI ((sc_fr hτ rfl).tr (sc_up hυ rfl))
  · exact s_mfollows (d0 := 9) (fun AB' D' M' K' f' _ g1 g2 g3 g4 g5 g6 f1 f2 f3 f4 ef' υ hυ => absurd (ok AB' D' M' K' g1 g2 g3 g4 g5 g6 f1 f2 f3 f4) z) (fun y => zPr_i hI sc_u)
theorem s_msaid2 {d : Nat} {σ : zS} {Q : Int32 → zS → Prop} {v w wd what : Int32} (h1 : zsOK v w wd what → ∀ x y n, x < 1000 → y < 1000 → v = nI x → w = nI y → n ≤ 8 → zdl wd x n y → ∀ τ, Fr [222, 223] (up σ 195 0 0) τ → Q (if what = 0 then nI n else nI (zSw wd x n y)) τ) (h2 : zsOK v w wd what → ∀ x y, x < 1000 → y < 1000 → v = nI x → w = nI y → (∀ n, n ≤ 8 → zSw wd x n y = 0) → ∀ τ, Fr [222, 223] (up σ 195 0 0) τ → Q (-1) τ) (h0 : ¬ zsOK v w wd what → Q (-1) (up σ 195 0 0)) : zI1 (d + 2) 261 [.ref 195, .int v, .int w, .int wd, .int what] σ Q := by
  show zk _ _ 0 [.ref 195, .int v, .int w, .int wd, .int what, zun, zun, zun] [] _ _
  by_cases hk : zsOK v w wd what
  · replace h1 := h1 hk
    replace h2 := h2 hk
    obtain ⟨a1, a2, a3, a4, a5, a6, a7, a8⟩ := id hk
    obtain ⟨x, hx, rfl⟩ := zI_ofle (n := 999) a1 a2 (by omega)
    obtain ⟨y, hy, rfl⟩ := zI_ofle (n := 999) a3 a4 (by omega)
    refine r_al0 zi_261_0 rfl ?_
    refine r_push zi_261_1 rfl ?_
    refine q_put zi_261_2 rfl cf_195_0 rfl ?_
    refine r_al0 zi_261_5 rfl ?_
    refine r_il1 zi_261_6 rfl ?_
    refine r_push zi_261_7 rfl ?_
    refine r_push zi_261_8 rfl ?_
    refine q_cIV zi_261_11 rfl rfl rfl rfl rfl rfl rfl cf_195_0.ob (s_isIn (fun _ _ => ?_) (fun z => absurd ⟨a1, a2⟩ z))
    show zk _ _ 14 _ _ _ _
    refine r_if0 zi_261_14 rfl (fun c => absurd c (by decide)) (fun _ => ?_)
    refine r_al0 zi_261_17 rfl ?_
    refine r_il2 zi_261_18 rfl ?_
    refine r_push zi_261_19 rfl ?_
    refine r_push zi_261_20 rfl ?_
    refine q_cIV zi_261_23 rfl rfl rfl rfl rfl rfl rfl cf_195_0.ob (s_isIn (fun _ _ => ?_) (fun z => absurd ⟨a3, a4⟩ z))
    show zk _ _ 26 _ _ _ _
    refine r_if0 zi_261_26 rfl (fun c => absurd c (by decide)) (fun _ => ?_)
    refine r_al0 zi_261_29 rfl ?_
    refine r_il3 zi_261_30 rfl ?_
    refine r_push zi_261_31 rfl ?_
    refine r_push zi_261_32 rfl ?_
    refine q_cIV zi_261_34 rfl rfl rfl rfl rfl rfl rfl cf_195_0.ob (s_isIn (fun _ _ => ?_) (fun z => absurd ⟨a5, a6⟩ z))
    show zk _ _ 37 _ _ _ _
    refine r_if0 zi_261_37 rfl (fun c => absurd c (by decide)) (fun _ => ?_)
    refine r_al0 zi_261_40 rfl ?_
    refine r_il4 zi_261_41 rfl ?_
    refine r_push zi_261_43 rfl ?_
    refine r_push zi_261_44 rfl ?_
    refine q_cIV zi_261_45 rfl rfl rfl rfl rfl rfl rfl cf_195_0.ob (s_isIn (fun _ _ => ?_) (fun z => absurd ⟨a7, a8⟩ z))
    show zk _ _ 48 _ _ _ _
    refine r_if1 zi_261_48 rfl (fun _ => ?_) (fun c => absurd c (by decide))
    refine r_push zi_261_53 rfl ?_
    refine r_is5 zi_261_54 rfl ?_
    refine l_msi (fun τ hF hS => ?_) 1000 0 _ (by omega) (by omega) Fr.rf (fun u hu => by omega)
    show zk _ _ 88 _ _ _ _
    refine r_push zi_261_88 rfl ?_
    refine r_is5 zi_261_89 rfl ?_
    exact l_ms4 (σ := up σ 195 0 0) (by omega) (by omega) (fun n hn hd => h1 x y n (by omega) (by omega) rfl rfl hn hd) (fun hz => h2 x y (by omega) (by omega) rfl rfl hz) 9 0 τ _ _ (by omega) (hF.sub (by simp)) hS (fun j hj => by omega)
  · have h0 := h0 hk
    refine r_al0 zi_261_0 rfl ?_
    refine r_push zi_261_1 rfl ?_
    refine q_put zi_261_2 rfl cf_195_0 rfl ?_
    refine r_al0 zi_261_5 rfl ?_
    refine r_il1 zi_261_6 rfl ?_
    refine r_push zi_261_7 rfl ?_
    refine r_push zi_261_8 rfl ?_
    refine q_cIV zi_261_11 rfl rfl rfl rfl rfl rfl rfl cf_195_0.ob (s_isIn (fun i1 a1 => ?_) (fun i1 => ?_))
    · show zk _ _ 14 _ _ _ _
      refine r_if0 zi_261_14 rfl (fun c => absurd c (by decide)) (fun _ => ?_)
      refine r_al0 zi_261_17 rfl ?_
      refine r_il2 zi_261_18 rfl ?_
      refine r_push zi_261_19 rfl ?_
      refine r_push zi_261_20 rfl ?_
      refine q_cIV zi_261_23 rfl rfl rfl rfl rfl rfl rfl cf_195_0.ob (s_isIn (fun i2 a2 => ?_) (fun i2 => ?_))
      · show zk _ _ 26 _ _ _ _
        refine r_if0 zi_261_26 rfl (fun c => absurd c (by decide)) (fun _ => ?_)
        refine r_al0 zi_261_29 rfl ?_
        refine r_il3 zi_261_30 rfl ?_
        refine r_push zi_261_31 rfl ?_
        refine r_push zi_261_32 rfl ?_
        refine q_cIV zi_261_34 rfl rfl rfl rfl rfl rfl rfl cf_195_0.ob (s_isIn (fun i3 a3 => ?_) (fun i3 => ?_))
        · show zk _ _ 37 _ _ _ _
          refine r_if0 zi_261_37 rfl (fun c => absurd c (by decide)) (fun _ => ?_)
          refine r_al0 zi_261_40 rfl ?_
          refine r_il4 zi_261_41 rfl ?_
          refine r_push zi_261_43 rfl ?_
          refine r_push zi_261_44 rfl ?_
          refine q_cIV zi_261_45 rfl rfl rfl rfl rfl rfl rfl cf_195_0.ob (s_isIn (fun i4 a4 => ?_) (fun i4 => ?_))
          · show zk _ _ 48 _ _ _ _
            refine r_if1 zi_261_48 rfl (fun _ => ?_) (fun c => absurd c (by decide))
            exact absurd ⟨by assumption, by assumption, by assumption, by assumption, by assumption, by assumption, by assumption, by assumption⟩ hk
          · show zk _ _ 48 _ _ _ _
            refine r_if1 zi_261_48 rfl (fun c => absurd (by decide) c) (fun _ => ?_)
            refine r_push zi_261_51 rfl ?_
            refine r_retI zi_261_52 rfl ?_
            exact ⟨_, rfl, h0⟩
        · show zk _ _ 37 _ _ _ _
          refine r_if0 zi_261_37 rfl (fun _ => ?_) (fun c => absurd (by decide) c)
          refine r_push zi_261_51 rfl ?_
          refine r_retI zi_261_52 rfl ?_
          exact ⟨_, rfl, h0⟩
      · show zk _ _ 26 _ _ _ _
        refine r_if0 zi_261_26 rfl (fun _ => ?_) (fun c => absurd (by decide) c)
        refine r_push zi_261_51 rfl ?_
        refine r_retI zi_261_52 rfl ?_
        exact ⟨_, rfl, h0⟩
    · show zk _ _ 14 _ _ _ _
      refine r_if0 zi_261_14 rfl (fun _ => ?_) (fun c => absurd (by decide) c)
      refine r_push zi_261_51 rfl ?_
      refine r_retI zi_261_52 rfl ?_
      exact ⟨_, rfl, h0⟩
theorem s_ksaid2 {d : Nat} {σ : zS} {Q : Int32 → zS → Prop} {v w wd what : Int32} (h1 : zsOK v w wd what → ∀ x y n, x < 1000 → y < 1000 → v = nI x → w = nI y → n ≤ 8 → zdl wd x n y → ∀ τ, Fr [184, 185, 186] σ τ → Q (if what = 0 then nI n else nI (zSw wd x n y)) τ) (h2 : zsOK v w wd what → ∀ x y, x < 1000 → y < 1000 → v = nI x → w = nI y → (∀ n, n ≤ 8 → zSw wd x n y = 0) → ∀ τ, Fr [184, 185, 186] σ τ → Q (-1) τ) (h0 : ¬ zsOK v w wd what → Q (-1) σ) : zI1 (d + 3) 139 [.ref 0, .int v, .int w, .int wd, .int what] σ Q := by
  show zk _ _ 0 [.ref 0, .int v, .int w, .int wd, .int what, zun] [] _ _
  by_cases hk : zsOK v w wd what
  · replace h1 := h1 hk
    replace h2 := h2 hk
    obtain ⟨a1, a2, a3, a4, a5, a6, a7, a8⟩ := id hk
    obtain ⟨x, hx, rfl⟩ := zI_ofle (n := 999) a1 a2 (by omega)
    obtain ⟨y, hy, rfl⟩ := zI_ofle (n := 999) a3 a4 (by omega)
    by_cases hw : what = 0
    · refine r_il1 zi_139_0 rfl ?_
      refine r_push zi_139_1 rfl ?_
      refine r_push zi_139_2 rfl ?_
      refine r_cIS zi_139_5 rfl rfl rfl rfl rfl rfl (s_within (fun _ _ => ?_) (fun z => absurd ⟨a1, a2⟩ z))
      show zk _ _ 8 _ _ _ _
      refine r_if0 zi_139_8 rfl (fun c => absurd c (by decide)) (fun _ => ?_)
      refine r_il2 zi_139_11 rfl ?_
      refine r_push zi_139_12 rfl ?_
      refine r_push zi_139_13 rfl ?_
      refine r_cIS zi_139_16 rfl rfl rfl rfl rfl rfl (s_within (fun _ _ => ?_) (fun z => absurd ⟨a3, a4⟩ z))
      show zk _ _ 19 _ _ _ _
      refine r_if0 zi_139_19 rfl (fun c => absurd c (by decide)) (fun _ => ?_)
      refine r_il3 zi_139_22 rfl ?_
      refine r_push zi_139_23 rfl ?_
      refine r_push zi_139_24 rfl ?_
      refine r_cIS zi_139_26 rfl rfl rfl rfl rfl rfl (s_within (fun _ _ => ?_) (fun z => absurd ⟨a5, a6⟩ z))
      show zk _ _ 29 _ _ _ _
      refine r_if0 zi_139_29 rfl (fun c => absurd c (by decide)) (fun _ => ?_)
      refine r_il4 zi_139_32 rfl ?_
      refine r_push zi_139_34 rfl ?_
      refine r_push zi_139_35 rfl ?_
      refine r_cIS zi_139_36 rfl rfl rfl rfl rfl rfl (s_within (fun _ _ => ?_) (fun z => absurd ⟨a7, a8⟩ z))
      show zk _ _ 39 _ _ _ _
      refine r_if1 zi_139_39 rfl (fun _ => ?_) (fun c => absurd c (by decide))
      refine r_al0 zi_139_44 rfl ?_
      refine q_getR zi_139_45 rfl cf_0_8 ?_
      refine r_il1 zi_139_48 rfl ?_
      refine r_il2 zi_139_49 rfl ?_
      refine r_il3 zi_139_50 rfl ?_
      refine q_cIV zi_139_51 rfl rfl rfl rfl rfl rfl rfl cf_177_0.ob (s_kwords (by omega) (by omega) (fun n hn hd τ hF he => ?_) (fun hz τ hF => ?_))
      · show zk _ _ 54 _ _ _ _
        refine r_is5 zi_139_54 rfl ?_
        refine r_il4 zi_139_56 rfl ?_
        refine r_if0 zi_139_58 rfl (fun _ => ?_) (fun c => absurd hw c)
        refine r_il5 zi_139_67 rfl ?_
        refine r_goto zi_139_69 rfl ?_
        refine r_retI zi_139_81 rfl ?_
        first | exact ⟨_, rfl, by have h := h1 x y n (by omega) (by omega) rfl rfl hn hd τ hF; rw [if_pos hw] at h; exact h⟩ | exact ⟨_, rfl, h2 x y (by omega) (by omega) rfl rfl hz τ hF⟩
      · show zk _ _ 54 _ _ _ _
        refine r_is5 zi_139_54 rfl ?_
        refine r_il4 zi_139_56 rfl ?_
        refine r_if0 zi_139_58 rfl (fun _ => ?_) (fun c => absurd hw c)
        refine r_il5 zi_139_67 rfl ?_
        refine r_goto zi_139_69 rfl ?_
        refine r_retI zi_139_81 rfl ?_
        first | exact ⟨_, rfl, by have h := h1 x y n (by omega) (by omega) rfl rfl hn hd τ hF; rw [if_pos hw] at h; exact h⟩ | exact ⟨_, rfl, h2 x y (by omega) (by omega) rfl rfl hz τ hF⟩
    · refine r_il1 zi_139_0 rfl ?_
      refine r_push zi_139_1 rfl ?_
      refine r_push zi_139_2 rfl ?_
      refine r_cIS zi_139_5 rfl rfl rfl rfl rfl rfl (s_within (fun _ _ => ?_) (fun z => absurd ⟨a1, a2⟩ z))
      show zk _ _ 8 _ _ _ _
      refine r_if0 zi_139_8 rfl (fun c => absurd c (by decide)) (fun _ => ?_)
      refine r_il2 zi_139_11 rfl ?_
      refine r_push zi_139_12 rfl ?_
      refine r_push zi_139_13 rfl ?_
      refine r_cIS zi_139_16 rfl rfl rfl rfl rfl rfl (s_within (fun _ _ => ?_) (fun z => absurd ⟨a3, a4⟩ z))
      show zk _ _ 19 _ _ _ _
      refine r_if0 zi_139_19 rfl (fun c => absurd c (by decide)) (fun _ => ?_)
      refine r_il3 zi_139_22 rfl ?_
      refine r_push zi_139_23 rfl ?_
      refine r_push zi_139_24 rfl ?_
      refine r_cIS zi_139_26 rfl rfl rfl rfl rfl rfl (s_within (fun _ _ => ?_) (fun z => absurd ⟨a5, a6⟩ z))
      show zk _ _ 29 _ _ _ _
      refine r_if0 zi_139_29 rfl (fun c => absurd c (by decide)) (fun _ => ?_)
      refine r_il4 zi_139_32 rfl ?_
      refine r_push zi_139_34 rfl ?_
      refine r_push zi_139_35 rfl ?_
      refine r_cIS zi_139_36 rfl rfl rfl rfl rfl rfl (s_within (fun _ _ => ?_) (fun z => absurd ⟨a7, a8⟩ z))
      show zk _ _ 39 _ _ _ _
      refine r_if1 zi_139_39 rfl (fun _ => ?_) (fun c => absurd c (by decide))
      refine r_al0 zi_139_44 rfl ?_
      refine q_getR zi_139_45 rfl cf_0_8 ?_
      refine r_il1 zi_139_48 rfl ?_
      refine r_il2 zi_139_49 rfl ?_
      refine r_il3 zi_139_50 rfl ?_
      refine q_cIV zi_139_51 rfl rfl rfl rfl rfl rfl rfl cf_177_0.ob (s_kwords (by omega) (by omega) (fun n hn hd τ hF he => ?_) (fun hz τ hF => ?_))
      · show zk _ _ 54 _ _ _ _
        refine r_is5 zi_139_54 rfl ?_
        refine r_il4 zi_139_56 rfl ?_
        refine r_if0 zi_139_58 rfl (fun c => absurd c hw) (fun _ => ?_)
        refine r_il5 zi_139_61 rfl ?_
        refine r_push zi_139_63 rfl ?_
        refine r_ic1 zi_139_64 rfl (fun c6 => ?_) (fun c6 => ?_)
        · refine r_al0 zi_139_72 rfl ?_
          refine q_getR zi_139_73 rfl cf_0_8 ?_
          refine q_getR zi_139_76 rfl cf_177_8 ?_
          refine r_il2 zi_139_79 rfl ?_
          refine r_ald zi_139_80 rfl y ca_185 (by first | rfl | (simp only [zI_add, zI_mul] <;> rfl)) (by first | omega | decide) ?_
          rw [he]
          refine r_retI zi_139_81 rfl ?_
          first
          | exact ⟨_, rfl, by have h := h1 x y n (by omega) (by omega) rfl rfl hn hd τ hF; rw [if_neg hw] at h; exact h⟩
          | exact ⟨_, rfl, h2 x y (by omega) (by omega) rfl rfl hz τ hF⟩
          | (exfalso; exact absurd (nI_pos' (n := n) (by omega)) (by rw [show nI n = -1 by assumption]; decide))
        · refine r_il5 zi_139_67 rfl ?_
          refine r_goto zi_139_69 rfl ?_
          refine r_retI zi_139_81 rfl ?_
          first
          | exact ⟨_, rfl, by have h := h1 x y n (by omega) (by omega) rfl rfl hn hd τ hF; rw [if_neg hw] at h; exact h⟩
          | exact ⟨_, rfl, h2 x y (by omega) (by omega) rfl rfl hz τ hF⟩
          | (exfalso; exact absurd (nI_pos' (n := n) (by omega)) (by rw [show nI n = -1 by assumption]; decide))
      · show zk _ _ 54 _ _ _ _
        refine r_is5 zi_139_54 rfl ?_
        refine r_il4 zi_139_56 rfl ?_
        refine r_if0 zi_139_58 rfl (fun c => absurd c hw) (fun _ => ?_)
        refine r_il5 zi_139_61 rfl ?_
        refine r_push zi_139_63 rfl ?_
        refine r_ic1 zi_139_64 rfl (fun c => absurd (by decide) c) (fun _ => ?_)
        refine r_il5 zi_139_67 rfl ?_
        refine r_goto zi_139_69 rfl ?_
        refine r_retI zi_139_81 rfl ?_
        first
        | exact ⟨_, rfl, by have h := h1 x y n (by omega) (by omega) rfl rfl hn hd τ hF; rw [if_neg hw] at h; exact h⟩
        | exact ⟨_, rfl, h2 x y (by omega) (by omega) rfl rfl hz τ hF⟩
        | (exfalso; exact absurd (nI_pos' (n := n) (by omega)) (by rw [show nI n = -1 by assumption]; decide))
  · have h0 := h0 hk
    refine r_il1 zi_139_0 rfl ?_
    refine r_push zi_139_1 rfl ?_
    refine r_push zi_139_2 rfl ?_
    refine r_cIS zi_139_5 rfl rfl rfl rfl rfl rfl (s_within (fun i1 a1 => ?_) (fun i1 => ?_))
    · show zk _ _ 8 _ _ _ _
      refine r_if0 zi_139_8 rfl (fun c => absurd c (by decide)) (fun _ => ?_)
      refine r_il2 zi_139_11 rfl ?_
      refine r_push zi_139_12 rfl ?_
      refine r_push zi_139_13 rfl ?_
      refine r_cIS zi_139_16 rfl rfl rfl rfl rfl rfl (s_within (fun i2 a2 => ?_) (fun i2 => ?_))
      · show zk _ _ 19 _ _ _ _
        refine r_if0 zi_139_19 rfl (fun c => absurd c (by decide)) (fun _ => ?_)
        refine r_il3 zi_139_22 rfl ?_
        refine r_push zi_139_23 rfl ?_
        refine r_push zi_139_24 rfl ?_
        refine r_cIS zi_139_26 rfl rfl rfl rfl rfl rfl (s_within (fun i3 a3 => ?_) (fun i3 => ?_))
        · show zk _ _ 29 _ _ _ _
          refine r_if0 zi_139_29 rfl (fun c => absurd c (by decide)) (fun _ => ?_)
          refine r_il4 zi_139_32 rfl ?_
          refine r_push zi_139_34 rfl ?_
          refine r_push zi_139_35 rfl ?_
          refine r_cIS zi_139_36 rfl rfl rfl rfl rfl rfl (s_within (fun i4 a4 => ?_) (fun i4 => ?_))
          · show zk _ _ 39 _ _ _ _
            refine r_if1 zi_139_39 rfl (fun _ => ?_) (fun c => absurd c (by decide))
            exact absurd ⟨by assumption, by assumption, by assumption, by assumption, by assumption, by assumption, by assumption, by assumption⟩ hk
          · show zk _ _ 39 _ _ _ _
            refine r_if1 zi_139_39 rfl (fun c => absurd (by decide) c) (fun _ => ?_)
            refine r_push zi_139_42 rfl ?_
            refine r_retI zi_139_43 rfl ?_
            exact ⟨_, rfl, h0⟩
        · show zk _ _ 29 _ _ _ _
          refine r_if0 zi_139_29 rfl (fun _ => ?_) (fun c => absurd (by decide) c)
          refine r_push zi_139_42 rfl ?_
          refine r_retI zi_139_43 rfl ?_
          exact ⟨_, rfl, h0⟩
      · show zk _ _ 19 _ _ _ _
        refine r_if0 zi_139_19 rfl (fun _ => ?_) (fun c => absurd (by decide) c)
        refine r_push zi_139_42 rfl ?_
        refine r_retI zi_139_43 rfl ?_
        exact ⟨_, rfl, h0⟩
    · show zk _ _ 8 _ _ _ _
      refine r_if0 zi_139_8 rfl (fun _ => ?_) (fun c => absurd (by decide) c)
      refine r_push zi_139_42 rfl ?_
      refine r_retI zi_139_43 rfl ?_
      exact ⟨_, rfl, h0⟩

theorem s_kqueue2 {d c : Nat} {σ : zS} {Q : Int32 → zS → Prop} {A N : Nat → Nat} {k what : Int32} (hc : σ 34 1 = nI c) (hc10 : c ≤ 10) (hT : zQh σ c A N) (h1 : zqOK k what → ∀ K, 1 ≤ K → K ≤ 3 → k = nI K → ∀ τ, Fr [177, 189, 190, 191] σ τ → Q (nI (zqa A N c K what)) τ) (h0 : ¬ zqOK k what → Q (-1) σ) : zI1 (d + 3) 146 [.ref 0, .int k, .int what] σ Q := by
  show zk _ _ 0 [.ref 0, .int k, .int what] [] _ _
  by_cases hk : zqOK k what
  · replace h1 := h1 hk
    obtain ⟨a1, a2, a3, a4⟩ := id hk
    obtain ⟨K, hK, rfl⟩ := zI_ofle (n := 3) (v := k) (by grind) a2 (by omega)
    have hK1 : 1 ≤ K := (nI_leI (a := 1) (by omega) (by omega)).mp a1
    have hq := h1 K hK1 hK rfl
    unfold zqa at hq
    have hS := zSo_m A c (by omega)
    have hA : ∀ j, j < c → A j ≤ 99 := fun j hj => (hT j hj).2.1
    have hN : ∀ j, j < c → N j ≤ 20 := fun j hj => (hT j hj).2.2
    have hb := zqF_le (k := K) hA hN hS.1
    have hserve : ∀ (Q2 : zS → Prop), (∀ τ, Fr [177, 189, 190, 191] σ τ → τ 177 16 = nI c → τ 177 17 = nI (zqT A N (zPm A c) K c) → (∀ x, x < c → τ 189 x = nI (A (zPm A c x)) ∧ τ 190 x = nI (zqb A N (zPm A c) K x)) → Q2 τ) → zV1 (d + 2) 80 [.ref 177, .ref 34, .int (nI K)] σ Q2 := by
      intro Q2 hq2
      show zk _ _ 0 [.ref 177, .ref 34, .int (nI K), zun, zun, zun] [] _ _
      refine r_al0 zi_80_0 rfl ?_
      refine r_al1 zi_80_1 rfl ?_
      refine q_cVV zi_80_2 rfl rfl rfl rfl rfl rfl rfl cf_177_0.ob (s_ksort hc hc10 hT (fun τ hF hn hx => ?_))
      show zk _ _ 5 _ _ _ _
      refine r_al0 zi_80_5 rfl ?_
      refine q_getR zi_80_6 rfl cf_177_15 ?_
      refine r_push zi_80_9 rfl ?_
      refine r_cVS zi_80_10 rfl rfl rfl rfl rfl rfl (s_afill ca_191 (by omega) ?_)
      show zk _ _ 13 _ _ _ _
      refine r_al0 zi_80_13 rfl ?_
      refine r_push zi_80_14 rfl ?_
      refine q_put zi_80_15 rfl cf_177_17 rfl ?_
      refine r_push zi_80_18 rfl ?_
      refine r_is3 zi_80_19 rfl ?_
      exact l_kserve (σ := σ) hK1 hK hc10 hA hN hS.1 hq2 c 0 _ _ _ (by omega) (((hF.sub (by simp)).fil (by decide)).put (by decide)) (by rw [zup_nj (by decide), fil_ne (by decide)]; exact hn) zup_eq (fun s hs => by rw [zup_ne (by decide)]; exact fil_in hs) (fun x hx2 => by omega) (fun x _ hx2 => by rw [zup_ne (by decide), fil_ne (by decide)]; exact hx x hx2)
    have hXY : ∀ τ : zS, (∀ x, x < c → τ 189 x = nI (A (zPm A c x)) ∧ τ 190 x = nI (zqb A N (zPm A c) K x)) → ∀ t, t < c → τ 189 t = nI (A (zPm A c t)) ∧ τ 190 t = nI (zqb A N (zPm A c) K t) ∧ A (zPm A c t) ≤ zqb A N (zPm A c) K t ∧ zqb A N (zPm A c) K t ≤ 1000 := fun τ hx t ht => by
      obtain ⟨g1, g2⟩ := hx t ht
      have g3 := (hb t (by omega)).1 (zsv (zqF A N (zPm A c) K t) K)
      have g4 := hA _ (hS.1 t ht)
      exact ⟨g1, g2, Nat.le_max_left _ _, by unfold zqb; omega⟩
    refine r_il1 zi_146_0 rfl ?_
    refine r_push zi_146_1 rfl ?_
    refine r_push zi_146_2 rfl ?_
    refine r_cIS zi_146_3 rfl rfl rfl rfl rfl rfl (s_within (fun _ _ => ?_) (fun z => absurd ⟨a1, a2⟩ z))
    show zk _ _ 6 _ _ _ _
    refine r_if0 zi_146_6 rfl (fun c => absurd c (by decide)) (fun _ => ?_)
    refine r_il2 zi_146_9 rfl ?_
    refine r_push zi_146_10 rfl ?_
    refine r_push zi_146_11 rfl ?_
    refine r_cIS zi_146_12 rfl rfl rfl rfl rfl rfl (s_within (fun _ _ => ?_) (fun z => absurd ⟨a3, a4⟩ z))
    show zk _ _ 15 _ _ _ _
    refine r_if1 zi_146_15 rfl (fun _ => ?_) (fun c => absurd c (by decide))
    refine r_al0 zi_146_20 rfl ?_
    refine q_getR zi_146_21 rfl cf_0_8 ?_
    refine r_al0 zi_146_24 rfl ?_
    refine q_getR zi_146_25 rfl cf_0_0 ?_
    refine q_getR zi_146_28 rfl cf_1_9 ?_
    refine r_il1 zi_146_31 rfl ?_
    refine q_cVV zi_146_32 rfl rfl rfl rfl rfl rfl rfl cf_177_0.ob (hserve _ (fun τ hF hn ht hx => ?_))
    show zk _ _ 35 _ _ _ _
    refine r_il2 zi_146_35 rfl ?_
    refine r_sw zi_146_36 rfl ?_
    by_cases c4_0 : what = 0
    · rw [c4_0]
      show zk _ _ 64 _ _ _ _
      refine r_al0 zi_146_64 rfl ?_
      refine q_getR zi_146_65 rfl cf_0_8 ?_
      refine q_cIV zi_146_68 rfl rfl rfl rfl rfl rfl rfl cf_177_0.ob (s_kwt hn hc10 (hXY τ hx) ?_)
      show zk _ _ 71 _ _ _ _
      refine r_retI zi_146_71 rfl ?_
      have hq := hq τ hF
      rw [if_pos (by assumption)] at hq
      exact ⟨_, rfl, hq⟩
    by_cases c4_1 : what = 1
    · rw [c4_1]
      show zk _ _ 72 _ _ _ _
      refine r_al0 zi_146_72 rfl ?_
      refine q_getR zi_146_73 rfl cf_0_8 ?_
      refine q_getI zi_146_76 rfl cf_177_17 ?_
      rw [ht]
      refine r_retI zi_146_79 rfl ?_
      have hq := hq τ hF
      rw [if_neg (by assumption), if_pos (by assumption)] at hq
      exact ⟨_, rfl, hq⟩
    rw [show zsw [(0, 64), (1, 72)] 80 what = 80 from by simp [zsw, c4_0, c4_1]]
    refine r_al0 zi_146_80 rfl ?_
    refine q_getR zi_146_81 rfl cf_0_8 ?_
    refine q_cIV zi_146_84 rfl rfl rfl rfl rfl rfl rfl cf_177_0.ob (s_kmw hn hc10 (hXY τ hx) ?_)
    show zk _ _ 87 _ _ _ _
    refine r_retI zi_146_87 rfl ?_
    have hq := hq τ hF
    rw [if_neg (by assumption), if_neg (by assumption)] at hq
    exact ⟨_, rfl, hq⟩
  · have h0 := h0 hk
    refine r_il1 zi_146_0 rfl ?_
    refine r_push zi_146_1 rfl ?_
    refine r_push zi_146_2 rfl ?_
    refine r_cIS zi_146_3 rfl rfl rfl rfl rfl rfl (s_within (fun i1 a1 => ?_) (fun i1 => ?_))
    · show zk _ _ 6 _ _ _ _
      refine r_if0 zi_146_6 rfl (fun c => absurd c (by decide)) (fun _ => ?_)
      refine r_il2 zi_146_9 rfl ?_
      refine r_push zi_146_10 rfl ?_
      refine r_push zi_146_11 rfl ?_
      refine r_cIS zi_146_12 rfl rfl rfl rfl rfl rfl (s_within (fun i2 a2 => ?_) (fun i2 => ?_))
      · show zk _ _ 15 _ _ _ _
        refine r_if1 zi_146_15 rfl (fun _ => ?_) (fun c => absurd c (by decide))
        exact absurd ⟨by assumption, by assumption, by assumption, by assumption⟩ hk
      · show zk _ _ 15 _ _ _ _
        refine r_if1 zi_146_15 rfl (fun c => absurd (by decide) c) (fun _ => ?_)
        refine r_push zi_146_18 rfl ?_
        refine r_retI zi_146_19 rfl ?_
        exact ⟨_, rfl, h0⟩
    · show zk _ _ 6 _ _ _ _
      refine r_if0 zi_146_6 rfl (fun _ => ?_) (fun c => absurd (by decide) c)
      refine r_push zi_146_18 rfl ?_
      refine r_retI zi_146_19 rfl ?_
      exact ⟨_, rfl, h0⟩

theorem s_mqueue2 {d c : Nat} {σ : zS} {Q : Int32 → zS → Prop} {A N : Nat → Nat} {k what : Int32} (hc : σ 195 56 = nI c) (hc10 : c ≤ 10) (hT : zQm σ c A N) (h1 : zqOK k what → ∀ K, 1 ≤ K → K ≤ 3 → k = nI K → ∀ τ, Fr [231, 232] (up σ 195 0 0) τ → Q (nI (zqa A N c K what)) τ) (h0 : ¬ zqOK k what → Q (-1) (up σ 195 0 0)) : zI1 (d + 2) 274 [.ref 195, .int k, .int what] σ Q := by
  show zk _ _ 0 [.ref 195, .int k, .int what, zun, zun, zun, zun, zun, zun] [] _ _
  by_cases hk : zqOK k what
  · replace h1 := h1 hk
    obtain ⟨a1, a2, a3, a4⟩ := id hk
    obtain ⟨K, hK, rfl⟩ := zI_ofle (n := 3) (v := k) (by grind) a2 (by omega)
    have hK1 : 1 ≤ K := (nI_leI (a := 1) (by omega) (by omega)).mp a1
    have hq := h1 K hK1 hK rfl
    unfold zqa at hq
    have hS := zSo_m A c (by omega)
    have hA : ∀ j, j < c → A j ≤ 99 := fun j hj => (hT j hj).2.2.1
    have hN : ∀ j, j < c → N j ≤ 20 := fun j hj => (hT j hj).2.2.2
    have hb := zqF_le (k := K) hA hN hS.1
    have hc0 : up σ 195 0 0 195 56 = nI c := by rw [zup_nj (by decide)]; exact hc
    have hT0 : zQm (up σ 195 0 0) c A N := fun j hj => by rw [zup_ne (by decide), zup_ne (by decide)]; exact hT j hj
    obtain ⟨G, hG⟩ : ∃ G : Nat → Nat, ∀ x, x < c → G (zPm A c x) = zqb A N (zPm A c) K x := by
      refine ⟨fun j => zqb A N (zPm A c) K (zdF (fun t => decide (zPm A c t = j)) c 0), fun x hx => ?_⟩
      dsimp only
      have hs := zdF_spec (P := fun t => decide (zPm A c t = zPm A c x)) c 0
      have hlt : zdF (fun t => decide (zPm A c t = zPm A c x)) c 0 < c := by
        by_cases e : zdF (fun t => decide (zPm A c t = zPm A c x)) c 0 < c
        · exact e
        · have := hs.2.2.2 x (by omega) (by omega)
          simp at this
      have := of_decide_eq_true (hs.2.2.1 (by omega))
      rw [zSo_inj hS hlt hx this]
    have eW : zqW (fun t => A (zPm A c t)) (zqb A N (zPm A c) K) c = zqW A G c := by
      rw [← zqW_perm hS]
      exact zsum_congr c (fun t ht => by have hg := hG t ht; dsimp only; simp only [hg])
    have eM : zqM (fun t => A (zPm A c t)) (zqb A N (zPm A c) K) c = zqM A G c := by
      rw [← zqM_perm hS]
      have e1 : ∀ i, i < c → zqn (fun t => A (zPm A c t)) (zqb A N (zPm A c) K) c i = zqn (fun t => A (zPm A c t)) (fun t => G (zPm A c t)) c i := fun i _ => zsum_congr c (fun t ht => by have hg := hG t ht; dsimp only; simp only [hg])
      have e2 : ∀ n, n ≤ c → zmx (zqn (fun t => A (zPm A c t)) (zqb A N (zPm A c) K) c) n = zmx (zqn (fun t => A (zPm A c t)) (fun t => G (zPm A c t)) c) n := by
        intro n
        induction n with
        | zero => intro _; rfl
        | succ n ih => intro hn; show max _ _ = max _ _; rw [ih (by omega), e1 n (by omega)]
      exact e2 c (Nat.le_refl _)
    rw [eW, eM] at hq
    have hXY : ∀ τ : zS, Fr [231, 232] (up σ 195 0 0) τ → (∀ x, x < c → τ 231 (zPm A c x) = nI (zqb A N (zPm A c) K x)) → ∀ t, t < c → τ 229 t = nI (A t) ∧ τ 231 t = nI (G t) ∧ A t ≤ G t ∧ G t ≤ 1000 := fun τ hF hx t ht => by
      obtain ⟨u, hu, e⟩ := zSo_surj hS ht
      have g1 := hx u hu
      have g2 := hG u hu
      have g3 := (hb u (by omega)).1 (zsv (zqF A N (zPm A c) K u) K)
      have g4 := hA t ht
      rw [e] at g1 g2
      refine ⟨(hF 229 (by decide) t).trans (hT0 t ht).1, by rw [g1, g2], ?_, ?_⟩
      · rw [g2]; unfold zqb; rw [e]; exact Nat.le_max_left _ _
      · rw [g2]; unfold zqb; rw [e]; omega
    by_cases w1 : what = 1
    · rw [if_neg (by rw [w1]; decide), if_pos w1] at hq
      refine r_al0 zi_274_0 rfl ?_
      refine r_push zi_274_1 rfl ?_
      refine q_put zi_274_2 rfl cf_195_0 rfl ?_
      refine r_al0 zi_274_5 rfl ?_
      refine r_il1 zi_274_6 rfl ?_
      refine r_push zi_274_7 rfl ?_
      refine r_push zi_274_8 rfl ?_
      refine q_cIV zi_274_9 rfl rfl rfl rfl rfl rfl rfl cf_195_0.ob (s_isIn (fun _ _ => ?_) (fun z => absurd ⟨a1, a2⟩ z))
      show zk _ _ 12 _ _ _ _
      refine r_if0 zi_274_12 rfl (fun c => absurd c (by decide)) (fun _ => ?_)
      refine r_al0 zi_274_15 rfl ?_
      refine r_il2 zi_274_16 rfl ?_
      refine r_push zi_274_17 rfl ?_
      refine r_push zi_274_18 rfl ?_
      refine q_cIV zi_274_19 rfl rfl rfl rfl rfl rfl rfl cf_195_0.ob (s_isIn (fun _ _ => ?_) (fun z => absurd ⟨a3, a4⟩ z))
      show zk _ _ 22 _ _ _ _
      refine r_if1 zi_274_22 rfl (fun _ => ?_) (fun c => absurd c (by decide))
      refine r_al0 zi_274_27 rfl ?_
      refine r_il1 zi_274_28 rfl ?_
      refine q_cIV zi_274_29 rfl rfl rfl rfl rfl rfl rfl cf_195_0.ob (s_mserve hc0 hK1 hK hc10 hT0 hS (fun τ hF hx => ?_))
      show zk _ _ 32 _ _ _ _
      refine r_is3 zi_274_32 rfl ?_
      refine r_il2 zi_274_33 rfl ?_
      refine r_push zi_274_34 rfl ?_
      refine r_ic1 zi_274_35 rfl (fun c => absurd w1 c) (fun _ => ?_)
      refine r_il3 zi_274_38 rfl ?_
      refine r_retI zi_274_39 rfl ?_
      exact ⟨_, rfl, hq τ hF⟩
    · refine r_al0 zi_274_0 rfl ?_
      refine r_push zi_274_1 rfl ?_
      refine q_put zi_274_2 rfl cf_195_0 rfl ?_
      refine r_al0 zi_274_5 rfl ?_
      refine r_il1 zi_274_6 rfl ?_
      refine r_push zi_274_7 rfl ?_
      refine r_push zi_274_8 rfl ?_
      refine q_cIV zi_274_9 rfl rfl rfl rfl rfl rfl rfl cf_195_0.ob (s_isIn (fun _ _ => ?_) (fun z => absurd ⟨a1, a2⟩ z))
      show zk _ _ 12 _ _ _ _
      refine r_if0 zi_274_12 rfl (fun c => absurd c (by decide)) (fun _ => ?_)
      refine r_al0 zi_274_15 rfl ?_
      refine r_il2 zi_274_16 rfl ?_
      refine r_push zi_274_17 rfl ?_
      refine r_push zi_274_18 rfl ?_
      refine q_cIV zi_274_19 rfl rfl rfl rfl rfl rfl rfl cf_195_0.ob (s_isIn (fun _ _ => ?_) (fun z => absurd ⟨a3, a4⟩ z))
      show zk _ _ 22 _ _ _ _
      refine r_if1 zi_274_22 rfl (fun _ => ?_) (fun c => absurd c (by decide))
      refine r_al0 zi_274_27 rfl ?_
      refine r_il1 zi_274_28 rfl ?_
      refine q_cIV zi_274_29 rfl rfl rfl rfl rfl rfl rfl cf_195_0.ob (s_mserve hc0 hK1 hK hc10 hT0 hS (fun τ hF hx => ?_))
      show zk _ _ 32 _ _ _ _
      refine r_is3 zi_274_32 rfl ?_
      refine r_il2 zi_274_33 rfl ?_
      refine r_push zi_274_34 rfl ?_
      refine r_ic1 zi_274_35 rfl (fun _ => ?_) (fun c => absurd c w1)
      refine r_push zi_274_40 rfl ?_
      refine r_is4 zi_274_41 rfl ?_
      refine r_push zi_274_43 rfl ?_
      refine r_is5 zi_274_44 rfl ?_
      refine r_push zi_274_46 rfl ?_
      refine r_is6 zi_274_47 rfl ?_
      refine l_mq2 ((hF 195 (by decide) 56).trans hc0) hc10 (hXY τ hF hx) ?_ c 0 _ _ (by omega)
      have hq := hq τ hF
      by_cases w0 : what = 0
      · rw [if_pos w0] at hq ⊢; exact hq
      · rw [if_neg w0, if_neg w1] at hq; rw [if_neg w0]; exact hq
  · have h0 := h0 hk
    refine r_al0 zi_274_0 rfl ?_
    refine r_push zi_274_1 rfl ?_
    refine q_put zi_274_2 rfl cf_195_0 rfl ?_
    refine r_al0 zi_274_5 rfl ?_
    refine r_il1 zi_274_6 rfl ?_
    refine r_push zi_274_7 rfl ?_
    refine r_push zi_274_8 rfl ?_
    refine q_cIV zi_274_9 rfl rfl rfl rfl rfl rfl rfl cf_195_0.ob (s_isIn (fun i1 a1 => ?_) (fun i1 => ?_))
    · show zk _ _ 12 _ _ _ _
      refine r_if0 zi_274_12 rfl (fun c => absurd c (by decide)) (fun _ => ?_)
      refine r_al0 zi_274_15 rfl ?_
      refine r_il2 zi_274_16 rfl ?_
      refine r_push zi_274_17 rfl ?_
      refine r_push zi_274_18 rfl ?_
      refine q_cIV zi_274_19 rfl rfl rfl rfl rfl rfl rfl cf_195_0.ob (s_isIn (fun i2 a2 => ?_) (fun i2 => ?_))
      · show zk _ _ 22 _ _ _ _
        refine r_if1 zi_274_22 rfl (fun _ => ?_) (fun c => absurd c (by decide))
        exact absurd ⟨by assumption, by assumption, by assumption, by assumption⟩ hk
      · show zk _ _ 22 _ _ _ _
        refine r_if1 zi_274_22 rfl (fun c => absurd (by decide) c) (fun _ => ?_)
        refine r_push zi_274_25 rfl ?_
        refine r_retI zi_274_26 rfl ?_
        exact ⟨_, rfl, h0⟩
    · show zk _ _ 12 _ _ _ _
      refine r_if0 zi_274_12 rfl (fun _ => ?_) (fun c => absurd (by decide) c)
      refine r_push zi_274_25 rfl ?_
      refine r_retI zi_274_26 rfl ?_
      exact ⟨_, rfl, h0⟩

theorem c_said {v w wd what : Int32} : zPr 139 261 [.int v, .int w, .int wd, .int what] := fun σ hI => by
  by_cases hok : zsOK v w wd what
  · refine s_ksaid2 (d := 7) (fun _ x y n h1 h2 e1 e2 hn hz τ hτ => ?_) (fun _ x y h1 h2 e1 e2 hz τ hτ => ?_) (fun z => absurd hok z)
    · refine s_msaid2 (d := 8) (fun _ x' y' n' g1 g2 f1 f2 hn' hz' υ hυ => ?_) (fun _ x' y' g1 g2 f1 f2 hz' υ hυ => ?_) (fun z => absurd hok z)
      · have q1 := nI_j e1 f1 (by omega) (by omega)
        have q2 := nI_j e2 f2 (by omega) (by omega)
        subst q1 q2
        have q3 := zdl_uniq hz hz'
        subst q3
        exact zPr_i hI ((sc_fr hτ rfl).tr (sc_up hυ rfl))
      · have q1 := nI_j e1 f1 (by omega) (by omega)
        have q2 := nI_j e2 f2 (by omega) (by omega)
        subst q1 q2
        have := hz.1
        rw [hz' n hn] at this
        exact absurd this (by decide)
    · refine s_msaid2 (d := 8) (fun _ x' y' n' g1 g2 f1 f2 hn' hz' υ hυ => ?_) (fun _ x' y' g1 g2 f1 f2 hz' υ hυ => ?_) (fun z => absurd hok z)
      · have q1 := nI_j e1 f1 (by omega) (by omega)
        have q2 := nI_j e2 f2 (by omega) (by omega)
        subst q1 q2
        have := hz'.1
        rw [hz n' hn'] at this
        exact absurd this (by decide)
      · exact zPr_i hI ((sc_fr hτ rfl).tr (sc_up hυ rfl))
  · exact s_ksaid2 (d := 7) (fun z => absurd z hok) (fun z => absurd z hok) (fun _ => s_msaid2 (d := 8) (fun z => absurd z hok) (fun z => absurd z hok) (fun _ => zPr_i hI sc_u))
theorem c_queue {k what : Int32} : zPr 146 274 [.int k, .int what] := fun σ hI => by
  obtain ⟨n, V, h1, h2, h3, h4, h5, h6, h7, h8, h9⟩ := id hI
  obtain ⟨_, _, ⟨c, c10, e1, e2, e3⟩, _⟩ := h6
  have hA : ∃ A N : Nat → Nat, ∀ i, i < c → A i ≤ 99 ∧ N i ≤ 20 ∧ σ 35 i = nI (A i * 100 + N i) ∧ σ 229 i = nI (A i) ∧ σ 230 i = nI (N i) := ⟨fun i => un (σ 229 i), fun i => un (σ 230 i), fun i hi => by
    obtain ⟨a, m, a1, a2, a3, a4, a5⟩ := e3 i hi
    dsimp only
    rw [a4, a5, un_nI (by omega), un_nI (by omega)]
    exact ⟨a1, a2, a3, rfl, rfl⟩⟩
  obtain ⟨A, N, hAN⟩ := hA
  have hk : zQh σ c A N := fun j hj => ⟨(hAN j hj).2.2.1, (hAN j hj).1, (hAN j hj).2.1⟩
  have hm : ∀ τ, Fg sc σ τ → zQm τ c A N := fun τ hτ j hj => ⟨(hτ 229 j (by unfold sc; omega)).trans (hAN j hj).2.2.2.1, (hτ 230 j (by unfold sc; omega)).trans (hAN j hj).2.2.2.2, (hAN j hj).1, (hAN j hj).2.1⟩
  refine s_kqueue2 (d := 7) e1 c10 hk (fun hok K h1 h2 eK τ hτ => ?_) (fun hok => ?_)
  · have f := sc_fr hτ rfl
    refine s_mqueue2 (d := 8) ((f 195 56 (by unfold sc; omega)).trans e2) c10 (hm τ f) (fun _ K' g1 g2 fK υ hυ => ?_) (fun z => absurd hok z)
    have q := nI_j eK fK (by omega) (by omega)
    subst q
    exact zPr_i hI (f.tr (sc_up hυ rfl))
  · exact s_mqueue2 (d := 8) e2 c10 (hm σ Fg.rf) (fun z => absurd z hok) (fun _ => zPr_i hI sc_u)
theorem c_together {what : Int32} : zPr 143 270 [.int what] := fun σ hI => by
  obtain ⟨n, V, h1, h2, h3, h4, h5, h6, h7, h8, h9⟩ := id hI
  obtain ⟨_, ⟨c, c5, e1, e2, e3⟩, _⟩ := h6
  have hW : ∃ W : Nat → Nat, ∀ i, i < c → W i ≤ 9999 ∧ 1 ≤ W i ∧ σ 33 i = nI (W i) ∧ σ 225 i = nI (W i) := ⟨fun i => un (σ 33 i), fun i hi => by
    obtain ⟨q1, a, a1, a2, a3, _⟩ := e3 i hi
    dsimp only
    rw [← q1, a3, un_nI (by omega)]
    exact ⟨a2, a1, rfl, rfl⟩⟩
  obtain ⟨W, hW⟩ := hW
  refine s_ktog (d := 6) e1 c5 (fun k hk => ⟨(hW k hk).2.2.1, (hW k hk).1⟩) (fun a1 a2 τ hτ => ?_) (fun z => ?_)
  · have f := sc_fr hτ rfl
    refine s_mtog (d := 7) ((f 195 50 (by unfold sc; omega)).trans e2) c5 (fun k hk => ⟨(f 225 k (by unfold sc; omega)).trans (hW k hk).2.2.2, (hW k hk).1, (hW k hk).2.1⟩) (fun _ _ υ hυ => ?_) (fun y => absurd ⟨a1, a2⟩ y)
    refine zPr_i hI (f.tr ((sc_u (v := 0)).tr (fun a b hn => hυ a b (fun z => hn ?_) (fun z y => hn ?_))))
    · exact sc_A (List.all_eq_true.mp (show [226, 227, 228].all scA = true from rfl) a z)
    · have y2 : b = 54 := by simpa using y
      unfold sc; omega
  · exact s_mtog (d := 7) e2 c5 (fun k hk => ⟨(hW k hk).2.2.2, (hW k hk).1, (hW k hk).2.1⟩) (fun b1 b2 => absurd ⟨b1, b2⟩ z) (fun _ => zPr_i hI sc_u)
theorem c_cross {w : Int32} : zPr 148 277 [.int w] := fun σ hI => by
  obtain ⟨n, V, h1, h2, h3, h4, h5, h6, h7, h8, h9⟩ := id hI
  obtain ⟨_, _, _, ⟨c, c10, e1, e2, e3⟩⟩ := h6
  have hr : ∃ r : Nat → Nat, (∀ k, k < 10 → r k < 10000) ∧ ∀ i, i < c → σ 37 i = nI (r i) ∧ σ 233 i = nI (r i / 100) ∧ σ 234 i = nI (r i % 100) := ⟨fun i => if i < c then un (σ 37 i) else 0, fun k hk => by
    dsimp only
    split
    · rename_i hi
      obtain ⟨a, m, a1, a2, a3, a4, a5⟩ := e3 k hi
      rw [a3, un_nI (by omega)]; omega
    · omega, fun i hi => by
    obtain ⟨a, m, a1, a2, a3, a4, a5⟩ := e3 i hi
    dsimp only
    rw [if_pos hi, a3, un_nI (by omega), a4, a5, show (a * 100 + m) / 100 = a by omega, show (a * 100 + m) % 100 = m by omega]
    exact ⟨rfl, rfl, rfl⟩⟩
  obtain ⟨r, hr1, hr2⟩ := hr
  refine s_kcross (d := 8) e1 c10 (fun k hk => ⟨hr1 k (by omega), (hr2 k hk).1⟩) (fun z => ?_) (fun hw => ?_) (fun hw τ hτ => ?_)
  · exact s_mcross (d := 9) e2 c10 hr1 (fun k hk => (hr2 k hk).2.1) (fun k hk => (hr2 k hk).2.2) (fun _ => zPr_i hI sc_u) (fun y => absurd (by rw [y]; decide) z) (fun y => absurd (by rw [y]; decide) z)
  · exact s_mcross (d := 9) e2 c10 hr1 (fun k hk => (hr2 k hk).2.1) (fun k hk => (hr2 k hk).2.2) (fun y => absurd (by rw [hw]; decide) y) (fun _ υ hυ => zPr_i hI (sc_up hυ rfl)) (fun y => absurd (hw.symm.trans y) (by decide))
  · have f := sc_fr hτ rfl
    exact s_mcross (d := 9) ((f 195 61 (by unfold sc; omega)).trans e2) c10 hr1 (fun k hk => (f 233 k (by unfold sc; omega)).trans (hr2 k hk).2.1) (fun k hk => (f 234 k (by unfold sc; omega)).trans (hr2 k hk).2.2) (fun y => absurd (by rw [hw]; decide) y) (fun y => absurd (hw.symm.trans y) (by decide)) (fun _ υ hυ => zPr_i hI (f.tr (sc_up hυ rfl)))
theorem zwf_c {P R : Nat → Int32} {c : Nat} (e : ∀ i, i < c → P i = R i) (was y : Int32) : ∀ k, k ≤ c → zbs (zwf P was y) k = zbs (zwf R was y) k
  | 0, _ => by simp only [zbs]
  | k + 1, h => by
    unfold zbs
    rw [zwf_c e was y k (by omega), show zwf P was y k = zwf R was y k by unfold zwf; rw [e k (by omega)]]
theorem zys_c {P R : Nat → Int32} {c t : Nat} (e : ∀ i, i < c → P i = R i) : zys P c t = zys R c t := zset_x c (fun s hs => by rw [e s hs])
theorem zfo_c {P R : Nat → Int32} {c : Nat} (e : ∀ i, i < c → P i = R i) (was a : Int32) : ∀ m t r f, zfo P c was a m t r f = zfo R c was a m t r f := by
  intro m
  induction m with
  | zero => intro t r f; rfl
  | succ m ih => intro t r f; unfold zfo; rw [ih, zys_c e]
theorem c_wrong {was n i : Int32} : zPr 141 264 [.int was, .int n, .int i] := fun σ hI => by
  obtain ⟨n0, V, h1, h2, h3, h4, h5, h6, h7, h8, h9⟩ := id hI
  obtain ⟨⟨c, c8, e1, e2, e3⟩, _⟩ := h6
  have r10 : ∀ m, m ≤ 10 → n = nI m → 0 ≤ n ∧ n ≤ 10 := fun m hm e => nI_r (b := 0) (c := 10) e (by omega) hm (by omega)
  have ri : ∀ j, j < c → i = nI j → -2 ≤ i ∧ i < nI c := fun j hj e => by
    have := nI_lt hj (by omega)
    have h0 := nI_z (n := j) (by omega)
    rw [e]; exact ⟨by grind, this⟩
  have hcp : 0 ≤ nI c := nI_z (by omega)
  refine s_kwrong (d := 8) e1 c8 (fun z => ?_) (fun m hm en a1 a2 ei => ?_) (fun m hm en a1 a2 ei => ?_) (fun m hm en a1 a2 j hj ei => ?_)
  · exact s_mwrong (d := 8) e2 c8 (fun _ => zPr_i hI sc_u) (fun m hm en b1 b2 fi => absurd ⟨b1, b2, (r10 m hm en).1, (r10 m hm en).2, by rw [fi]; decide, by rw [fi]; grind⟩ z) (fun m hm en b1 b2 fi => absurd ⟨b1, b2, (r10 m hm en).1, (r10 m hm en).2, by rw [fi]; decide, by rw [fi]; grind⟩ z) (fun m hm en b1 b2 j hj fi => absurd ⟨b1, b2, (r10 m hm en).1, (r10 m hm en).2, (ri j hj fi).1, (ri j hj fi).2⟩ z)
  · refine s_mwrong (d := 8) e2 c8 (fun y => absurd ⟨a1, a2, (r10 m hm en).1, (r10 m hm en).2, by rw [ei]; decide, by rw [ei]; grind⟩ y) (fun m' hm' en' b1 b2 fi => ?_) (fun m' hm' en' b1 b2 fi => absurd (ei.symm.trans fi) (by decide)) (fun m' hm' en' b1 b2 j hj fi => ?_)
    · have q := nI_j en en' (by omega) (by omega)
      subst q
      rw [zfo_c e3]; exact zPr_i hI sc_u
    · have := nI_z (n := j) (by omega)
      rw [← fi, ei] at this; exact absurd this (by decide)
  · refine s_mwrong (d := 8) e2 c8 (fun y => absurd ⟨a1, a2, (r10 m hm en).1, (r10 m hm en).2, by rw [ei]; decide, by rw [ei]; grind⟩ y) (fun m' hm' en' b1 b2 fi => absurd (ei.symm.trans fi) (by decide)) (fun m' hm' en' b1 b2 fi => ?_) (fun m' hm' en' b1 b2 j hj fi => ?_)
    · have q := nI_j en en' (by omega) (by omega)
      subst q
      rw [zwf_c e3 was _ c (by omega)]; exact zPr_i hI sc_u
    · have := nI_z (n := j) (by omega)
      rw [← fi, ei] at this; exact absurd this (by decide)
  · refine s_mwrong (d := 8) e2 c8 (fun y => absurd ⟨a1, a2, (r10 m hm en).1, (r10 m hm en).2, (ri j hj ei).1, (ri j hj ei).2⟩ y) (fun m' hm' en' b1 b2 fi => ?_) (fun m' hm' en' b1 b2 fi => ?_) (fun m' hm' en' b1 b2 j' hj' fi => ?_)
    · have := nI_z (n := j) (by omega)
      rw [← ei, fi] at this; exact absurd this (by decide)
    · have := nI_z (n := j) (by omega)
      rw [← ei, fi] at this; exact absurd this (by decide)
    · have q := nI_j en en' (by omega) (by omega)
      have q2 := nI_j ei fi (by omega) (by omega)
      subst q q2
      rw [show zwf (σ 31) was (zfi m') j' = zwf (σ 224) was (zfi m') j' by unfold zwf; rw [e3 j' hj]]; exact zPr_i hI sc_u

