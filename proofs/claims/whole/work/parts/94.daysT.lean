/-! CLASS: Days (T): the night, and a day whole -/

theorem l_nightT {d n nE : Nat} {ed : Nat → Nat} {eo : Nat → Int32} {σ : zS} {Q : zS → Prop} (hE : zEk σ nE ed eo) (ho : ∀ l, l < nE → zOg n (eo l)) : ∀ (m l : Nat) (τ : zS) (V : zS), l + m = nE → Fx 91 [75, 76, 77, 78, 79, 80, 81, 82, 83, 84, 85, 86, 93, 94] [4] σ τ → zVk τ 75 true V → zVg V n → (∀ υ, Fx 91 [75, 76, 77, 78, 79, 80, 81, 82, 83, 84, 85, 86, 93, 94] [4] σ υ → zVk υ 75 true (dNi (dLe ed eo m l V)) → υ 91 4 = τ 91 4 → Q υ) → zk (d + 3) 12 2 [.ref 91, .int (nI l)] [] τ (fun r t => r = none ∧ Q t) := by
  obtain ⟨t1, t2, t3⟩ := hE
  intro m
  induction m with
  | zero =>
    intro l τ V hl hF hV hg hq
    have e : l = nE := by omega
    subst e
    have hn : τ 18 2 = nI l := (hF.at (by decide) (by decide) 2).trans t1
    have h12 : τ 75 12 = V 11 12 := hV.2.1 12 (by decide) (by decide)
    have h17 : τ 75 17 = V 11 17 := hV.2.1 17 (by decide) (by decide)
    refine r_il1 zi_12_2 rfl ?_
    refine r_al0 zi_12_3 rfl ?_
    refine q_getR zi_12_4 rfl cf_91_0 ?_
    refine q_getR zi_12_7 rfl cf_1_3 ?_
    refine q_getIe zi_12_10 rfl cf_18_2 (v := nI l) (by first | exact hn | ((repeat (first | rw [zup_ne (by first | decide | omega)] | rw [zup_nj (by first | decide | omega)] | rw [fil_ne (by first | decide | omega)])) <;> exact hn) | (simp [up_rd, fil_rd]; exact hn)) ?_
    refine n_ic3 (i := l) (j := l) zi_12_13 rfl (by omega) (by omega) (fun _ => ?_) (fun c => absurd c (by omega))
    refine r_al0 zi_12_63 rfl ?_
    refine q_getR zi_12_64 rfl cf_91_1 ?_
    refine q_getR zi_12_67 rfl cf_75_9 ?_
    refine r_push zi_12_70 rfl ?_
    refine r_al0 zi_12_71 rfl ?_
    refine q_getR zi_12_72 rfl cf_91_1 ?_
    refine q_getR zi_12_75 rfl cf_75_10 ?_
    refine r_push zi_12_78 rfl ?_
    refine r_push zi_12_79 rfl ?_
    refine r_acpy (k := 24) zi_12_81 rfl ca_85 ca_86 rfl (by first | decide | omega) (by first | decide | omega) ?_
    refine r_al0 zi_12_84 rfl ?_
    refine q_getR zi_12_85 rfl cf_91_1 ?_
    refine r_al0 zi_12_88 rfl ?_
    refine q_getR zi_12_89 rfl cf_91_1 ?_
    refine q_getIe zi_12_92 rfl cf_75_12 (v := V 11 12) (by first | exact ((fil_ne (by decide)).trans h12) | ((repeat (first | rw [zup_ne (by first | decide | omega)] | rw [zup_nj (by first | decide | omega)] | rw [fil_ne (by first | decide | omega)])) <;> exact ((fil_ne (by decide)).trans h12)) | (simp [up_rd, fil_rd]; exact ((fil_ne (by decide)).trans h12))) ?_
    refine q_put zi_12_95 rfl cf_75_13 rfl ?_
    refine r_al0 zi_12_98 rfl ?_
    refine q_getR zi_12_99 rfl cf_91_1 ?_
    refine r_push zi_12_102 rfl ?_
    refine q_put zi_12_103 rfl cf_75_12 rfl ?_
    refine r_al0 zi_12_106 rfl ?_
    refine q_getR zi_12_107 rfl cf_91_1 ?_
    refine r_dupR zi_12_110 rfl ?_
    refine q_getIe zi_12_111 rfl cf_75_17 (v := V 11 17) (by rw [zup_nj (by decide), zup_nj (by decide), fil_ne (by decide)]; exact h17) ?_
    refine r_push zi_12_114 rfl ?_
    refine r_b0 zi_12_115 rfl ?_
    refine q_put zi_12_116 rfl cf_75_17 rfl ?_
    refine r_ret zi_12_119 rfl ?_
    exact ⟨rfl, hq _ ((((hF.fil (by decide)).put (by decide)).put (by decide)).put (by decide)) (zVk_f (f := 17) (Or.inr rfl) (zVk_f (f := 12) (Or.inr rfl) (zVk_f (f := 13) (Or.inr rfl) (zVk_l (r := 9) (Or.inr rfl) hV (by decide)) (by decide) (by decide)) (by decide) (by decide)) (by decide) (by decide)) (by rw [zup_ne (by decide), zup_ne (by decide), zup_ne (by decide), fil_ne (by decide)])⟩
  | succ m ih =>
    intro l τ V hl hF hV hg hq
    have hn : τ 18 2 = nI nE := (hF.at (by decide) (by decide) 2).trans t1
    have h17 : τ 75 17 = V 11 17 := hV.2.1 17 (by decide) (by decide)
    obtain ⟨t, ht, ht2, ht3⟩ := id hg.2.2.2.2.2.1
    have h12 : τ 75 12 = nI t := (hV.2.1 12 (by decide) (by decide)).trans ht2
    obtain ⟨c0, c1⟩ := t3 l (by omega)
    have e22 : ∀ i, τ 19 i = σ 19 i := fun i => hF.at (by decide) (by decide) i
    have hc : ∀ (j : Nat) (v : Int32) (Q2 : Int32 → zS → Prop), j < 4 → σ 19 (l * 4 + j) = v → Q2 v τ → zI1 (d + 2) 97 [.ref 18, .int (nI l), .int (nI j)] τ Q2 := fun j v Q2 hj e hq2 => s_cell zTx18 (by omega) hj (by rw [show τ (18 + 1) (l * 4 + j) = v from (e22 _).trans e]; exact hq2)
    have hq : ∀ υ, Fx 91 [75, 76, 77, 78, 79, 80, 81, 82, 83, 84, 85, 86, 93, 94] [4] σ υ → zVk υ 75 true (dNi (dLe ed eo m (l + 1) (if nI (ed l) = V 11 17 then dGv V (eo l) else V))) → υ 91 4 = τ 91 4 → Q υ := hq
    by_cases e1 : nI (ed l) = V 11 17
    · rw [if_pos e1] at hq
      have hg2 : zVg (dGv V (eo l)) n := dGv_g hg (ho l (by omega))
      rw [dGv_t ht2 ht] at hq hg2
      have hgv : ∀ (Q2 : zS → Prop), (∀ υ, Fx 91 [75, 76, 77, 78, 79, 80, 81, 82, 83, 84, 85, 86, 93, 94] [4] σ υ → zVk υ 75 true (if t = 24 then V else up (up V 9 t (eo l)) 11 12 (nI (t + 1))) → υ 91 4 = τ 91 4 → Q2 υ) → zV1 (d + 2) 17 [.ref 75, .int (eo l)] τ Q2 := fun Q2 h2 => s_dgiven zDu_75 h12 ht (fun z => h2 _ ((hF.put (by decide)).put (by decide)) (by rw [if_neg (by omega)]; exact zVk_f (f := 12) (Or.inr rfl) (zVk_a (j := 9) (Or.inr rfl) hV (by decide)) (by decide) (by decide)) ((zup_ne (by decide)).trans (zup_ne (by decide)))) (fun z => h2 _ hF (by rw [if_pos z]; exact hV) rfl)
      refine r_il1 zi_12_2 rfl ?_
      refine r_al0 zi_12_3 rfl ?_
      refine q_getR zi_12_4 rfl cf_91_0 ?_
      refine q_getR zi_12_7 rfl cf_1_3 ?_
      refine q_getIe zi_12_10 rfl cf_18_2 (v := nI nE) (by first | exact hn | ((repeat (first | rw [zup_ne (by first | decide | omega)] | rw [zup_nj (by first | decide | omega)] | rw [fil_ne (by first | decide | omega)])) <;> exact hn) | (simp [up_rd, fil_rd]; exact hn)) ?_
      refine n_ic3 (i := l) (j := nE) zi_12_13 rfl (by omega) (by omega) (fun c => absurd c (by omega)) (fun _ => ?_)
      refine r_al0 zi_12_16 rfl ?_
      refine q_getR zi_12_17 rfl cf_91_0 ?_
      refine q_getR zi_12_20 rfl cf_1_3 ?_
      refine r_il1 zi_12_23 rfl ?_
      refine r_push zi_12_24 rfl ?_
      refine q_cIV zi_12_25 rfl rfl rfl rfl rfl rfl rfl cf_18_0.ob (hc 0 _ _ (by decide) c0 ?_)
      show zk _ _ 28 _ _ _ _
      refine r_al0 zi_12_28 rfl ?_
      refine q_getR zi_12_29 rfl cf_91_1 ?_
      refine q_getIe zi_12_32 rfl cf_75_17 (v := V 11 17) (by first | exact h17 | ((repeat (first | rw [zup_ne (by first | decide | omega)] | rw [zup_nj (by first | decide | omega)] | rw [fil_ne (by first | decide | omega)])) <;> exact h17) | (simp [up_rd, fil_rd]; exact h17)) ?_
      refine r_ic1 zi_12_35 rfl (fun c => absurd e1 c) (fun _ => ?_)
      refine r_al0 zi_12_38 rfl ?_
      refine q_getR zi_12_39 rfl cf_91_1 ?_
      refine r_al0 zi_12_42 rfl ?_
      refine q_getR zi_12_43 rfl cf_91_0 ?_
      refine q_getR zi_12_46 rfl cf_1_3 ?_
      refine r_il1 zi_12_49 rfl ?_
      refine r_push zi_12_50 rfl ?_
      refine q_cIV zi_12_51 rfl rfl rfl rfl rfl rfl rfl cf_18_0.ob (hc 1 _ _ (by decide) c1 ?_)
      show zk _ _ 54 _ _ _ _
      refine q_cVV zi_12_54 rfl rfl rfl rfl rfl rfl rfl cf_75_0.ob (hgv _ (fun υ hF2 hV2 h4 => ?_))
      show zk _ _ 57 _ _ _ _
      refine r_in1 zi_12_57 rfl ?_
      rw [show (nI l + 1 : Int32) = nI (l + 1) from nI_add _ _]
      refine r_goto zi_12_60 rfl ?_
      exact ih (l + 1) _ _ (by omega) hF2 hV2 hg2 (fun υ2 g1 g2 g3 => hq υ2 g1 g2 (g3.trans h4))
    · rw [if_neg e1] at hq
      refine r_il1 zi_12_2 rfl ?_
      refine r_al0 zi_12_3 rfl ?_
      refine q_getR zi_12_4 rfl cf_91_0 ?_
      refine q_getR zi_12_7 rfl cf_1_3 ?_
      refine q_getIe zi_12_10 rfl cf_18_2 (v := nI nE) (by first | exact hn | ((repeat (first | rw [zup_ne (by first | decide | omega)] | rw [zup_nj (by first | decide | omega)] | rw [fil_ne (by first | decide | omega)])) <;> exact hn) | (simp [up_rd, fil_rd]; exact hn)) ?_
      refine n_ic3 (i := l) (j := nE) zi_12_13 rfl (by omega) (by omega) (fun c => absurd c (by omega)) (fun _ => ?_)
      refine r_al0 zi_12_16 rfl ?_
      refine q_getR zi_12_17 rfl cf_91_0 ?_
      refine q_getR zi_12_20 rfl cf_1_3 ?_
      refine r_il1 zi_12_23 rfl ?_
      refine r_push zi_12_24 rfl ?_
      refine q_cIV zi_12_25 rfl rfl rfl rfl rfl rfl rfl cf_18_0.ob (hc 0 _ _ (by decide) c0 ?_)
      show zk _ _ 28 _ _ _ _
      refine r_al0 zi_12_28 rfl ?_
      refine q_getR zi_12_29 rfl cf_91_1 ?_
      refine q_getIe zi_12_32 rfl cf_75_17 (v := V 11 17) (by first | exact h17 | ((repeat (first | rw [zup_ne (by first | decide | omega)] | rw [zup_nj (by first | decide | omega)] | rw [fil_ne (by first | decide | omega)])) <;> exact h17) | (simp [up_rd, fil_rd]; exact h17)) ?_
      refine r_ic1 zi_12_35 rfl (fun _ => ?_) (fun c => absurd c e1)
      refine r_in1 zi_12_57 rfl ?_
      rw [show (nI l + 1 : Int32) = nI (l + 1) from nI_add _ _]
      refine r_goto zi_12_60 rfl ?_
      exact ih (l + 1) _ _ (by omega) hF hV hg hq
theorem s_goByT {d n N nT nE : Nat} {td tp tv ed : Nat → Nat} {eo : Nat → Int32} {σ : zS} {Q : Int32 → zS → Prop} {V : zS} {Wd Fr' Wh To O A : Nat → Nat} {B : Nat → Int32} (hV : zVk σ 75 true V) (hg : zVg V n) (hd : zKd σ N Wd Fr' Wh To O A B) (hth : σ 91 3 = 1) (hT : zTk σ nT td tp tv) (hE : zEk σ nE ed eo) (ho : ∀ l, l < nE → zOg n (eo l)) (h : ∀ τ, Fx 91 [75, 76, 77, 78, 79, 80, 81, 82, 83, 84, 85, 86, 93, 94] [4] σ τ → zVk τ 75 true (dDay (zTl N Wd Fr' Wh To O A) B n true nT td tp tv nE ed eo V).1 → τ 91 4 = nI (dDay (zTl N Wd Fr' Wh To O A) B n true nT td tp tv nE ed eo V).2 → Q (nI (dDay (zTl N Wd Fr' Wh To O A) B n true nT td tp tv nE ed eo V).2) τ) : zI1 (d + 6) 1 [.ref 91] σ Q := by
  unfold dDay at h
  have hB := hd.2.2.2.1
  have g1 : zVg (dTi td tp tv nT 0 V) n := dTi_g nT 0 V hg
  obtain ⟨b, hb, hb2, _⟩ := id g1.2.2.2.2.2.2.1
  have hub : un (dTi td tp tv nT 0 V 11 13) = b := by rw [hb2]; exact un_nI (by omega)
  simp only [hub] at h
  have g2 : zVg (dOs (zTl N Wd Fr' Wh To O A) B n true b 0 (dTi td tp tv nT 0 V) 0 0).1 n := dOs_g hB hb b 0 _ 0 0 (by omega) hb2 g1
  have hh1 : ∀ (τ : zS) (Q2 : zS → Prop), Fx 91 [75, 76, 77, 78, 79, 80, 81, 82, 83, 84, 85, 86, 93, 94] [4] σ τ → zVk τ 75 true V → (∀ υ, Fx 91 [75, 76, 77, 78, 79, 80, 81, 82, 83, 84, 85, 86, 93, 94] [4] σ υ → zVk υ 75 true (dTi td tp tv nT 0 V) → υ 91 4 = τ 91 4 → Q2 υ) → zV1 (d + 5) 2 [.ref 91] τ Q2 := fun τ Q2 hF hV h2 => by
    show zk _ _ 0 [.ref 91, zun, zun, zun] [] _ _
    refine r_push zi_2_0 rfl ?_
    refine r_is1 zi_2_1 rfl ?_
    exact l_tideT hT nT 0 τ V _ _ (by omega) hF hV hg h2
  generalize dTi td tp tv nT 0 V = V1 at *
  have hh2 : ∀ (τ : zS) (Q2 : Int32 → zS → Prop), Fx 91 [75, 76, 77, 78, 79, 80, 81, 82, 83, 84, 85, 86, 93, 94] [4] σ τ → zVk τ 75 true V1 → τ 91 4 = nI 0 → (∀ υ, Fx 91 [75, 76, 77, 78, 79, 80, 81, 82, 83, 84, 85, 86, 93, 94] [4] σ υ → zVk υ 75 true (dOs (zTl N Wd Fr' Wh To O A) B n true b 0 V1 0 0).1 → υ 91 4 = nI (dOs (zTl N Wd Fr' Wh To O A) B n true b 0 V1 0 0).2.2 → Q2 (dOs (zTl N Wd Fr' Wh To O A) B n true b 0 V1 0 0).2.1 υ) → zI1 (d + 5) 3 [.ref 91] τ Q2 := fun τ Q2 hF hV h4 h2 => by
    show zk _ _ 0 [.ref 91, zun, zun, zun, zun] [] _ _
    refine r_push zi_3_0 rfl ?_
    refine r_is1 zi_3_1 rfl ?_
    refine r_push zi_3_2 rfl ?_
    refine r_is2 zi_3_3 rfl ?_
    exact l_ordersT hd hth hb b 0 0 0 τ V1 _ _ (by omega) hF hV g1 hb2 h4 h2
  generalize dOs (zTl N Wd Fr' Wh To O A) B n true b 0 V1 0 0 = r at *
  obtain ⟨V2, acc, c2⟩ := r
  have g3 : zVg (dSt (zTl N Wd Fr' Wh To O A) B n true acc 18 0 V2 c2).1 n := dSt_g hB 18 0 _ _ (by omega) g2
  have hh3 : ∀ (τ : zS) (Q2 : zS → Prop), Fx 91 [75, 76, 77, 78, 79, 80, 81, 82, 83, 84, 85, 86, 93, 94] [4] σ τ → zVk τ 75 true V2 → τ 91 4 = nI c2 → (∀ υ, Fx 91 [75, 76, 77, 78, 79, 80, 81, 82, 83, 84, 85, 86, 93, 94] [4] σ υ → zVk υ 75 true (dSt (zTl N Wd Fr' Wh To O A) B n true acc 18 0 V2 c2).1 → υ 91 4 = nI (dSt (zTl N Wd Fr' Wh To O A) B n true acc 18 0 V2 c2).2 → Q2 υ) → zV1 (d + 5) 4 [.ref 91, .int acc] τ Q2 := fun τ Q2 hF hV h4 h2 => by
    show zk _ _ 0 [.ref 91, .int acc, zun] [] _ _
    refine r_push zi_4_0 rfl ?_
    refine r_is2 zi_4_1 rfl ?_
    exact l_standT hd hth 18 0 c2 τ V2 (by omega) hF hV g2 h4 h2
  simp only at h
  generalize dSt (zTl N Wd Fr' Wh To O A) B n true acc 18 0 V2 c2 = r at *
  obtain ⟨V3, c3⟩ := r
  have g4 : zVg (dFi (zTl N Wd Fr' Wh To O A) n 12 0 V3) n := dFi_g 12 0 _ g3
  have hh4 : ∀ (τ : zS) (Q2 : zS → Prop), Fx 91 [75, 76, 77, 78, 79, 80, 81, 82, 83, 84, 85, 86, 93, 94] [4] σ τ → zVk τ 75 true V3 → (∀ υ, Fx 91 [75, 76, 77, 78, 79, 80, 81, 82, 83, 84, 85, 86, 93, 94] [4] σ υ → zVk υ 75 true (dFi (zTl N Wd Fr' Wh To O A) n 12 0 V3) → υ 91 4 = τ 91 4 → Q2 υ) → zV1 (d + 5) 9 [.ref 91] τ Q2 := fun τ Q2 hF hV h2 => by
    show zk _ _ 0 [.ref 91, zun, zun] [] _ _
    refine r_push zi_9_0 rfl ?_
    refine r_is1 zi_9_1 rfl ?_
    exact l_firesT hd 12 0 τ V3 _ (by omega) hF hV g3 h2
  simp only at h
  generalize dFi (zTl N Wd Fr' Wh To O A) n 12 0 V3 = V4 at *
  have g5 : zVg (dSe true n 12 0 V4) n := dSe_g 12 0 _ g4
  have hh5 : ∀ (τ : zS) (Q2 : zS → Prop), Fx 91 [75, 76, 77, 78, 79, 80, 81, 82, 83, 84, 85, 86, 93, 94] [4] σ τ → zVk τ 75 true V4 → (∀ υ, Fx 91 [75, 76, 77, 78, 79, 80, 81, 82, 83, 84, 85, 86, 93, 94] [4] σ υ → zVk υ 75 true (dSe true n 12 0 V4) → υ 91 4 = τ 91 4 → Q2 υ) → zV1 (d + 5) 10 [.ref 91] τ Q2 := fun τ Q2 hF hV h2 => by
    show zk _ _ 0 [.ref 91, zun] [] _ _
    refine r_push zi_10_0 rfl ?_
    refine r_is1 zi_10_1 rfl ?_
    exact l_seaT hth 12 0 τ V4 (by omega) hF hV g4 h2
  generalize dSe true n 12 0 V4 = V5 at *
  have hh6 : ∀ (τ : zS) (Q2 : zS → Prop), Fx 91 [75, 76, 77, 78, 79, 80, 81, 82, 83, 84, 85, 86, 93, 94] [4] σ τ → zVk τ 75 true V5 → (∀ υ, Fx 91 [75, 76, 77, 78, 79, 80, 81, 82, 83, 84, 85, 86, 93, 94] [4] σ υ → zVk υ 75 true (dNi (dLe ed eo nE 0 V5)) → υ 91 4 = τ 91 4 → Q2 υ) → zV1 (d + 5) 12 [.ref 91] τ Q2 := fun τ Q2 hF hV h2 => by
    show zk _ _ 0 [.ref 91, zun] [] _ _
    refine r_push zi_12_0 rfl ?_
    refine r_is1 zi_12_1 rfl ?_
    exact l_nightT hE ho nE 0 τ V5 (by omega) hF hV g5 h2
  have hs1 : Fx 91 [75, 76, 77, 78, 79, 80, 81, 82, 83, 84, 85, 86, 93, 94] [4] σ (up σ 91 4 0) := Fx.rf.pf (by decide)
  have hs2 : zVk (up σ 91 4 0) 75 true V := zVk_c (Or.inr rfl) hV (by decide)
  show zk _ _ 0 [.ref 91] [] _ _
  refine r_al0 zi_1_0 rfl ?_
  refine r_push zi_1_1 rfl ?_
  refine q_put zi_1_2 rfl cf_91_4 rfl ?_
  refine r_al0 zi_1_5 rfl ?_
  refine q_cVV zi_1_6 rfl rfl rfl rfl rfl rfl rfl cf_91_0.ob (hh1 _ _ hs1 hs2 (fun υ1 x1 y1 x41 => ?_))
  show zk _ _ 9 _ _ _ _
  refine r_al0 zi_1_9 rfl ?_
  refine r_al0 zi_1_10 rfl ?_
  refine q_cIV zi_1_11 rfl rfl rfl rfl rfl rfl rfl cf_91_0.ob (hh2 υ1 _ x1 y1 (x41.trans zup_eq) (fun υ2 x2 y2 x42 => ?_))
  show zk _ _ 14 _ _ _ _
  refine q_cVV zi_1_14 rfl rfl rfl rfl rfl rfl rfl cf_91_0.ob (hh3 υ2 _ x2 y2 x42 (fun υ3 x3 y3 x43 => ?_))
  show zk _ _ 17 _ _ _ _
  refine r_al0 zi_1_17 rfl ?_
  refine q_cVV zi_1_18 rfl rfl rfl rfl rfl rfl rfl cf_91_0.ob (hh4 υ3 _ x3 y3 (fun υ4 x4 y4 x44 => ?_))
  show zk _ _ 21 _ _ _ _
  refine r_al0 zi_1_21 rfl ?_
  refine q_cVV zi_1_22 rfl rfl rfl rfl rfl rfl rfl cf_91_0.ob (hh5 υ4 _ x4 y4 (fun υ5 x5 y5 x45 => ?_))
  show zk _ _ 25 _ _ _ _
  refine r_al0 zi_1_25 rfl ?_
  refine q_cVV zi_1_26 rfl rfl rfl rfl rfl rfl rfl cf_91_0.ob (hh6 υ5 _ x5 y5 (fun υ6 x6 y6 x46 => ?_))
  show zk _ _ 29 _ _ _ _
  refine r_al0 zi_1_29 rfl ?_
  refine q_getIe zi_1_30 rfl cf_91_4 (v := nI c3) (by first | exact ((((x46.trans x45).trans x44)).trans x43) | ((repeat (first | rw [zup_ne (by first | decide | omega)] | rw [zup_nj (by first | decide | omega)] | rw [fil_ne (by first | decide | omega)])) <;> exact ((((x46.trans x45).trans x44)).trans x43)) | (simp [up_rd, fil_rd]; exact ((((x46.trans x45).trans x44)).trans x43))) ?_
  refine r_retI zi_1_33 rfl ?_
  exact ⟨_, rfl, h υ6 x6 y6 (((x46.trans x45).trans x44).trans x43)⟩

