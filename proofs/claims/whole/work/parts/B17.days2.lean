theorem s_kdaysO {d n N nT nE D c la : Nat} {td tp tv ed : Nat → Nat} {eo : Nat → Int32} {σ V : zS} {H : Nat → zS} {Q : Int32 → zS → Prop} {Wd Fr' Wh To O A : Nat → Nat} {B : Nat → Int32} {v : Int32} (hd : zKd σ N Wd Fr' Wh To O A B) (hth : σ 87 3 = 0) (hT : zTk σ nT td tp tv) (hE : zEk σ nE ed eo) (ho : ∀ l, l < nE → zOg n (eo l)) (hV : zVk σ 2 false V) (hg : zVg V n) (hP : cP σ c la H) (hc : c ≤ 6) (hl : la < 6) (hD : V 11 17 = nI D) (hD9 : D ≤ 9999) (h1 : ∀ k, 1 ≤ k → k ≤ 60 → v = nI k → D + k ≤ 9999 → ∀ υ la', Fg kdP σ υ → la' < 6 → zVk υ 2 false (dyN (dDay (zTl N Wd Fr' Wh To O A) B n false nT td tp tv nE ed eo) k V c H 0).1 → cP υ (dyN (dDay (zTl N Wd Fr' Wh To O A) B n false nT td tp tv nE ed eo) k V c H 0).2.1 la' (dyN (dDay (zTl N Wd Fr' Wh To O A) B n false nT td tp tv nE ed eo) k V c H 0).2.2.1 → Q (dyN (dDay (zTl N Wd Fr' Wh To O A) B n false nT td tp tv nE ed eo) k V c H 0).2.2.2 υ) (h0 : ¬ (1 ≤ v ∧ v ≤ 60) → Q (-1) σ) (h2 : ∀ k, 1 ≤ k → k ≤ 60 → v = nI k → ¬ D + k ≤ 9999 → Q (-1) σ) : zI1 (d + 7) 126 [.ref 0, .int v] σ Q := by
  have eD : σ 2 17 = nI D := (hV.2.1 17 (by omega) (by omega)).trans hD
  show zk _ _ 0 [.ref 0, .int v, zun, zun] [] _ _
  by_cases hv : 1 ≤ v ∧ v ≤ 60
  · obtain ⟨k, hk, e⟩ := zI_ofle (n := 60) (v := v) (by have := hv.1; grind) hv.2 (by omega)
    have k1 : 1 ≤ k := (nI_leI (a := 1) (by omega) (by omega)).mp (by rw [← e]; exact hv.1)
    replace h1 := h1 k k1 hk e
    replace h2 := h2 k k1 hk e
    clear h0
    subst e
    by_cases h9 : D + k ≤ 9999
    · replace h1 := h1 h9
      refine r_il1 zi_126_0 rfl ?_
      refine r_push zi_126_1 rfl ?_
      refine r_push zi_126_2 rfl ?_
      refine r_cIS zi_126_4 rfl rfl rfl rfl rfl rfl (s_within (fun _ _ => ?_) (fun z => absurd hv z))
      show zk _ _ 7 _ _ _ _
      refine r_if0 zi_126_7 rfl (fun c => absurd c (by decide)) (fun _ => ?_)
      refine r_al0 zi_126_10 rfl ?_
      refine q_getR zi_126_11 rfl cf_0_0 ?_
      refine q_getR zi_126_14 rfl cf_1_0 ?_
      refine q_getIe zi_126_17 rfl cf_2_17 (v := nI D) (by first | exact eD | ((repeat (first | rw [zup_ne (by first | decide | omega)] | rw [zup_nj (by first | decide | omega)] | rw [fil_ne (by first | decide | omega)])) <;> exact eD) | (simp [up_rd, fil_rd]; exact eD)) ?_
      refine r_push zi_126_20 rfl ?_
      refine r_il1 zi_126_23 rfl ?_
      refine r_b1 zi_126_24 rfl ?_
      rw [show (9999 - nI k : Int32) = nI (9999 - k) from pk_sub (a := 9999) (b := k) (by omega)]
      refine n_ic5 (i := D) (j := (9999 - k)) zi_126_25 rfl (by omega) (by omega) (fun _ => ?_) (fun c => absurd c (by omega))
      refine r_push zi_126_30 rfl ?_
      refine r_is2 zi_126_31 rfl ?_
      refine r_push zi_126_32 rfl ?_
      refine r_is3 zi_126_33 rfl ?_
      exact l_kdays hd hth hT hE ho hk k 0 c la V H 0 σ (by omega) Fg.rf hV hg hP hc hl h1
    · replace h2 := h2 h9
      refine r_il1 zi_126_0 rfl ?_
      refine r_push zi_126_1 rfl ?_
      refine r_push zi_126_2 rfl ?_
      refine r_cIS zi_126_4 rfl rfl rfl rfl rfl rfl (s_within (fun _ _ => ?_) (fun z => absurd hv z))
      show zk _ _ 7 _ _ _ _
      refine r_if0 zi_126_7 rfl (fun c => absurd c (by decide)) (fun _ => ?_)
      refine r_al0 zi_126_10 rfl ?_
      refine q_getR zi_126_11 rfl cf_0_0 ?_
      refine q_getR zi_126_14 rfl cf_1_0 ?_
      refine q_getIe zi_126_17 rfl cf_2_17 (v := nI D) (by first | exact eD | ((repeat (first | rw [zup_ne (by first | decide | omega)] | rw [zup_nj (by first | decide | omega)] | rw [fil_ne (by first | decide | omega)])) <;> exact eD) | (simp [up_rd, fil_rd]; exact eD)) ?_
      refine r_push zi_126_20 rfl ?_
      refine r_il1 zi_126_23 rfl ?_
      refine r_b1 zi_126_24 rfl ?_
      rw [show (9999 - nI k : Int32) = nI (9999 - k) from pk_sub (a := 9999) (b := k) (by omega)]
      refine n_ic5 (i := D) (j := (9999 - k)) zi_126_25 rfl (by omega) (by omega) (fun c => absurd c (by omega)) (fun _ => ?_)
      refine r_push zi_126_28 rfl ?_
      refine r_retI zi_126_29 rfl ?_
      exact ⟨_, rfl, h2⟩
  · have h0 := h0 hv
    refine r_il1 zi_126_0 rfl ?_
    refine r_push zi_126_1 rfl ?_
    refine r_push zi_126_2 rfl ?_
    refine r_cIS zi_126_4 rfl rfl rfl rfl rfl rfl (s_within (fun a b => absurd ⟨a, b⟩ hv) (fun _ => ?_))
    show zk _ _ 7 _ _ _ _
    refine r_if0 zi_126_7 rfl (fun _ => ?_) (fun c => absurd (by decide) c)
    refine r_push zi_126_28 rfl ?_
    refine r_retI zi_126_29 rfl ?_
    exact ⟨_, rfl, h0⟩
theorem s_mdaysO {d n N nT nE D c : Nat} {td tp tv ed : Nat → Nat} {eo : Nat → Int32} {σ V : zS} {H : Nat → zS} {Q : Int32 → zS → Prop} {Wd Fr' Wh To O A : Nat → Nat} {B : Nat → Int32} {v : Int32} (hM : zMd σ n false N Wd Fr' Wh To O A B) (hT : zTm σ nT td tp tv) (hE : zEm σ n nE ed eo) (ho : ∀ l, l < nE → zOg n (eo l)) (hV : zVm σ V n false) (hg : zVg V n) (hP : mP σ n c H) (hc : c ≤ 6) (hD : V 11 17 = nI D) (hD9 : D ≤ 9999) (h1 : ∀ k, 1 ≤ k → k ≤ 60 → v = nI k → D + k ≤ 9999 → ∀ υ, Fg mdP (up σ 195 0 0) υ → zVm υ (dyN (dDay (zTl N Wd Fr' Wh To O A) B n false nT td tp tv nE ed eo) k V c H 0).1 n false → mP υ n (dyN (dDay (zTl N Wd Fr' Wh To O A) B n false nT td tp tv nE ed eo) k V c H 0).2.1 (dyN (dDay (zTl N Wd Fr' Wh To O A) B n false nT td tp tv nE ed eo) k V c H 0).2.2.1 → Q (dyN (dDay (zTl N Wd Fr' Wh To O A) B n false nT td tp tv nE ed eo) k V c H 0).2.2.2 υ) (h0 : ¬ (1 ≤ v ∧ v ≤ 60) → Q (-1) (up σ 195 0 0)) (h2 : ∀ k, 1 ≤ k → k ≤ 60 → v = nI k → ¬ D + k ≤ 9999 → Q (-1) (up σ 195 0 0)) : zI1 (d + 10) 244 [.ref 195, .int v] σ Q := by
  have hn18 := hg.2.1
  have eD : up σ 195 0 0 196 0 = nI D := (zup_n2 (by omega)).trans (hV.1.1.trans hD)
  have f : ∀ a b, ¬ (a = 195 ∧ b = 0) → up σ 195 0 0 a b = σ a b := fun a b h => zup_n2 h
  show zk _ _ 0 [.ref 195, .int v, zun, zun] [] _ _
  by_cases hv : 1 ≤ v ∧ v ≤ 60
  · obtain ⟨k, hk, e⟩ := zI_ofle (n := 60) (v := v) (by have := hv.1; grind) hv.2 (by omega)
    have k1 : 1 ≤ k := (nI_leI (a := 1) (by omega) (by omega)).mp (by rw [← e]; exact hv.1)
    replace h1 := h1 k k1 hk e
    replace h2 := h2 k k1 hk e
    clear h0
    subst e
    by_cases h9 : D + k ≤ 9999
    · replace h1 := h1 h9
      refine r_al0 zi_244_0 rfl ?_
      refine r_push zi_244_1 rfl ?_
      refine q_put zi_244_2 rfl cf_195_0 rfl ?_
      refine r_al0 zi_244_5 rfl ?_
      refine r_il1 zi_244_6 rfl ?_
      refine r_push zi_244_7 rfl ?_
      refine r_push zi_244_8 rfl ?_
      refine q_cIV zi_244_10 rfl rfl rfl rfl rfl rfl rfl cf_195_0.ob (s_isIn (fun _ _ => ?_) (fun z => absurd hv z))
      show zk _ _ 13 _ _ _ _
      refine r_if0 zi_244_13 rfl (fun c => absurd c (by decide)) (fun _ => ?_)
      refine r_al0 zi_244_16 rfl ?_
      refine q_getR zi_244_17 rfl cf_195_1 ?_
      refine r_push zi_244_20 rfl ?_
      refine r_alde zi_244_21 rfl 0 ca_196 (by first | rfl | (simp only [zI_add, zI_mul] <;> rfl)) (by first | omega | decide) (u := nI D) (by first | exact eD | ((repeat (first | rw [zup_ne (by first | decide | omega)] | rw [zup_nj (by first | decide | omega)] | rw [fil_ne (by first | decide | omega)])) <;> exact eD) | (simp [up_rd, fil_rd]; exact eD)) ?_
      refine r_il1 zi_244_22 rfl ?_
      refine r_b0 zi_244_23 rfl ?_
      rw [show (nI D + nI k : Int32) = nI (D + k) from nI_add _ _]
      refine r_push zi_244_24 rfl ?_
      refine n_ic5 (i := (D + k)) (j := 9999) zi_244_27 rfl (by omega) (by omega) (fun _ => ?_) (fun c => absurd c (by omega))
      refine r_push zi_244_32 rfl ?_
      refine r_is2 zi_244_33 rfl ?_
      refine r_push zi_244_34 rfl ?_
      refine r_is3 zi_244_35 rfl ?_
      exact l_mdays (zMd_g hM (fun a b g => f a b (by omega))) (zTm_g hT (fun a b g => f a b (by omega))) (zEm_g hE (fun a b g => f a b (by omega))) ho hk k 0 c V H 0 _ (by omega) Fg.rf (zVm_a hn18 hV (fun a b g => f a b (by omega))) hg (mP_f hn18 hP (fun a b g => f a b (by omega))) hc h1
    · replace h2 := h2 h9
      refine r_al0 zi_244_0 rfl ?_
      refine r_push zi_244_1 rfl ?_
      refine q_put zi_244_2 rfl cf_195_0 rfl ?_
      refine r_al0 zi_244_5 rfl ?_
      refine r_il1 zi_244_6 rfl ?_
      refine r_push zi_244_7 rfl ?_
      refine r_push zi_244_8 rfl ?_
      refine q_cIV zi_244_10 rfl rfl rfl rfl rfl rfl rfl cf_195_0.ob (s_isIn (fun _ _ => ?_) (fun z => absurd hv z))
      show zk _ _ 13 _ _ _ _
      refine r_if0 zi_244_13 rfl (fun c => absurd c (by decide)) (fun _ => ?_)
      refine r_al0 zi_244_16 rfl ?_
      refine q_getR zi_244_17 rfl cf_195_1 ?_
      refine r_push zi_244_20 rfl ?_
      refine r_alde zi_244_21 rfl 0 ca_196 (by first | rfl | (simp only [zI_add, zI_mul] <;> rfl)) (by first | omega | decide) (u := nI D) (by first | exact eD | ((repeat (first | rw [zup_ne (by first | decide | omega)] | rw [zup_nj (by first | decide | omega)] | rw [fil_ne (by first | decide | omega)])) <;> exact eD) | (simp [up_rd, fil_rd]; exact eD)) ?_
      refine r_il1 zi_244_22 rfl ?_
      refine r_b0 zi_244_23 rfl ?_
      rw [show (nI D + nI k : Int32) = nI (D + k) from nI_add _ _]
      refine r_push zi_244_24 rfl ?_
      refine n_ic5 (i := (D + k)) (j := 9999) zi_244_27 rfl (by omega) (by omega) (fun c => absurd c (by omega)) (fun _ => ?_)
      refine r_push zi_244_30 rfl ?_
      refine r_retI zi_244_31 rfl ?_
      exact ⟨_, rfl, h2⟩
  · have h0 := h0 hv
    refine r_al0 zi_244_0 rfl ?_
    refine r_push zi_244_1 rfl ?_
    refine q_put zi_244_2 rfl cf_195_0 rfl ?_
    refine r_al0 zi_244_5 rfl ?_
    refine r_il1 zi_244_6 rfl ?_
    refine r_push zi_244_7 rfl ?_
    refine r_push zi_244_8 rfl ?_
    refine q_cIV zi_244_10 rfl rfl rfl rfl rfl rfl rfl cf_195_0.ob (s_isIn (fun a b => absurd ⟨a, b⟩ hv) (fun _ => ?_))
    show zk _ _ 13 _ _ _ _
    refine r_if0 zi_244_13 rfl (fun _ => ?_) (fun c => absurd (by decide) c)
    refine r_push zi_244_30 rfl ?_
    refine r_retI zi_244_31 rfl ?_
    exact ⟨_, rfl, h0⟩
theorem c_days {v : Int32} : zPr 126 244 [.int v] := fun σ hI => by
  refine nm_in hI (fun σ hI e => ?_)
  obtain ⟨n, V, hD, h2, h3, h4, ⟨nE, ed, eo, hE, hEm⟩, h6, h7, h8, h9⟩ := id hI
  obtain ⟨n2, V2, N, Wd, Fr', Wh, To, O, A, B, hN⟩ := INV_N hI e
  have hn2 : n2 = n := nI_j hD.2.2.2.2.1 hN.1.2.2.2.2.1 (by have := hD.2.2.1.2.1; omega) (by have := hN.1.2.2.1.2.1; omega)
  subst hn2
  obtain ⟨hV, hm, hg, hz, hs, h50, hx⟩ := id hD
  obtain ⟨nT, td, tp, tv, hT, hTm⟩ := h4
  have hn18 := hg.2.1
  obtain ⟨c, la, H, c6, l6, hc, hmP, hgP⟩ := vP_e h8
  obtain ⟨hxw, D, hD9, hDD⟩ := id hx
  have hk := vN_k hN
  have hM := vN_m hN
  have ho : ∀ l, l < nE → zOg n2 (eo l) := fun l hl => zOm_g (hEm.2.2 l hl).2
  refine s_kdaysO (d := 3) hk h7.2.2.2.2.1 hT hE ho hV hg hc c6 l6 hDD hD9 (fun k k1 k2 ek k9 τ la' t1 t2 t3 t4 => ?_) (fun z => ?_) (fun k k1 k2 ek k9 => ?_)
  · have f : ∀ a b, 169 ≤ a → τ a b = σ a b := fun a b g => t1 a b (by unfold kdP; omega)
    refine s_mdaysO (d := 0) (zMd_g hM (fun a b g => f a b (by omega))) (zTm_g hTm (fun a b g => f a b (by omega))) (zEm_g hEm (fun a b g => f a b (by omega))) ho (zVm_a hn18 hm (fun a b g => f a b (by omega))) hg (mP_f hn18 hmP (fun a b g => f a b (by omega))) c6 hDD hD9 (fun k' k1' k2' ek' k9' υ u1 u2 u3 => ?_) (fun y => absurd (nI_r (b := 1) (c := 60) ek k1 k2 (by omega)) y) (fun k' k1' k2' ek' k9' => ?_)
    · have q := nI_j ek ek' (by omega) (by omega)
      subst q
      obtain ⟨r1, r2, r3, r4, r5⟩ := dyN_g (T := zTl N Wd Fr' Wh To O A) (B := B) (td := td) (tp := tp) (tv := tv) (ed := ed) (nT := nT) hk.2.2.2.1 ho k' D c V H 0 k9 hDD hg hz hxw hgP c6
      have fu : ∀ a b, ¬ mdP a b → ¬ (a = 195 ∧ b = 0) → υ a b = τ a b := fun a b g1 g2 => (u1 a b g1).trans (zup_n2 g2)
      refine ⟨rfl, INV_W hI hD ⟨zVk_g t3 (fun a b g1 g2 => fu a b (by unfold mdP; omega) (by omega)), u2, r1, r2, ?_, ?_, r3⟩ (vP_i r5 t2 (cP_f t4 (fun a b g => fu a b (by unfold mdP; omega) (by omega))) u3 r4) (fun a b g1 g2 g3 g4 g5 g6 g7 => ?_)⟩
      · exact ((fu 195 6 (by unfold mdP; omega) (by omega)).trans (f 195 6 (by omega))).trans hs
      · exact ((fu 195 5 (by unfold mdP; omega) (by omega)).trans (f 195 5 (by omega))).trans h50
      · unfold sc at g1
        exact (fu a b (by unfold mdP; omega) (by omega)).trans (t1 a b (by unfold kdP; omega))
    · have q := nI_j ek ek' (by omega) (by omega)
      subst q
      exact absurd k9 k9'
  · exact s_mdaysO (d := 0) hM hTm hEm ho hm hg hmP c6 hDD hD9 (fun k' k1' k2' ek' k9' υ u1 u2 u3 => absurd (nI_r (b := 1) (c := 60) ek' k1' k2' (by omega)) z) (fun y => zPr_i hI sc_u) (fun k' k1' k2' ek' k9' => zPr_i hI sc_u)
  · refine s_mdaysO (d := 0) hM hTm hEm ho hm hg hmP c6 hDD hD9 (fun k' k1' k2' ek' k9' υ u1 u2 u3 => ?_) (fun y => zPr_i hI sc_u) (fun k' k1' k2' ek' k9' => zPr_i hI sc_u)
    have q := nI_j ek ek' (by omega) (by omega)
    subst q
    exact absurd k9' k9

