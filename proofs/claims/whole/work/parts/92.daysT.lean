/-! CLASS: Days (T): the loops -/

theorem l_firesT {d n N : Nat} {σ : zS} {Q : zS → Prop} {Wd Fr' Wh To O A : Nat → Nat} {B : Nat → Int32} (hd : zKd σ N Wd Fr' Wh To O A B) : ∀ (m p : Nat) (τ : zS) (V : zS) (u2 : Value), p + m = 12 → Fx 91 [75, 76, 77, 78, 79, 80, 81, 82, 83, 84, 85, 86, 93, 94] [4] σ τ → zVk τ 75 true V → zVg V n → (∀ υ, Fx 91 [75, 76, 77, 78, 79, 80, 81, 82, 83, 84, 85, 86, 93, 94] [4] σ υ → zVk υ 75 true (dFi (zTl N Wd Fr' Wh To O A) n m p V) → υ 91 4 = τ 91 4 → Q υ) → zk (d + 3) 9 2 [.ref 91, .int (nI p), u2] [] τ (fun r t => r = none ∧ Q t) := by
  intro m
  induction m with
  | zero =>
    intro p τ V u2 hp hF hV hg hq
    have e : p = 12 := by omega
    subst e
    refine r_il1 zi_9_2 rfl ?_
    refine r_push zi_9_3 rfl ?_
    refine r_ic3 zi_9_5 rfl (fun _ => ?_) (fun c => absurd (by decide) c)
    refine r_ret zi_9_65 rfl ?_
    exact ⟨rfl, hq τ hF hV rfl⟩
  | succ m ih =>
    intro p τ V u2 hp hF hV hg hq
    obtain ⟨gn, gn18, gat, gal, gst, gtd, gbf, gwr⟩ := id hg
    have hsub : τ 75 11 = nI n := (hV.2.1 11 (by decide) (by decide)).trans gn
    obtain ⟨d1, d2, d3, d4, d5⟩ := zKd_fr hd hF (fun a h1 h2 => by simp; omega)
    have hf : τ (75 + 1 + 1) p = V 1 p := hV.1 1 (by decide) p
    have htell : ∀ (Q2 : Int32 → zS → Prop), (∀ υ, Fr [92 + 1, 92 + 2] τ υ → Q2 (zTl N Wd Fr' Wh To O A 2 (zFv V n false 0 p 0)) υ) → zI1 (d + 2) 24 [.ref 92, .int (nI (10000 + 2)), .int (-1), .int (nI p), .int 0] τ Q2 := fun Q2 hq => s_tells (sb := false) (s := 0) zLa92 zDu_75 (by decide) hsub gn18 (Or.inr ⟨rfl, rfl, rfl⟩) (by omega) d1 d2 (by omega) (fun υ hF => by rw [zfk_v hV]; exact hq υ hF)
    have hq : ∀ υ, Fx 91 [75, 76, 77, 78, 79, 80, 81, 82, 83, 84, 85, 86, 93, 94] [4] σ υ → zVk υ 75 true (dFi (zTl N Wd Fr' Wh To O A) n m (p + 1) (if 0 < V 1 p then up V 1 p (zmn9 (V 1 p + zTl N Wd Fr' Wh To O A 2 (zFv V n false 0 p 0))) else V)) → υ 91 4 = τ 91 4 → Q υ := hq
    by_cases h0 : 0 < V 1 p
    · rw [if_pos h0] at hq
      have hg2 : zVg (up V 1 p (zmn9 (V 1 p + zTl N Wd Fr' Wh To O A 2 (zFv V n false 0 p 0)))) n := zVg_u hg (by omega)
      generalize zTl N Wd Fr' Wh To O A 2 (zFv V n false 0 p 0) = M at htell hq hg2
      refine r_il1 zi_9_2 rfl ?_
      refine r_push zi_9_3 rfl ?_
      refine n_ic3 (i := p) (j := 12) zi_9_5 rfl (by omega) (by omega) (fun c => absurd c (by omega)) (fun _ => ?_)
      refine r_al0 zi_9_8 rfl ?_
      refine q_getR zi_9_9 rfl cf_91_1 ?_
      refine q_getR zi_9_12 rfl cf_75_1 ?_
      refine r_il1 zi_9_15 rfl ?_
      refine r_alde zi_9_16 rfl p ca_77 (by first | rfl | (simp only [zI_add, zI_mul] <;> rfl)) (by first | omega | decide) (u := V 1 p) (by first | exact hf | ((repeat (first | rw [zup_ne (by first | decide | omega)] | rw [zup_nj (by first | decide | omega)] | rw [fil_ne (by first | decide | omega)])) <;> exact hf) | (simp [up_rd, fil_rd]; exact hf)) ?_
      refine r_if5 zi_9_17 rfl (fun c => absurd c (by grind)) (fun _ => ?_)
      refine r_al0 zi_9_20 rfl ?_
      refine q_getR zi_9_21 rfl cf_91_2 ?_
      refine r_push zi_9_24 rfl ?_
      refine r_push zi_9_27 rfl ?_
      refine r_il1 zi_9_28 rfl ?_
      refine r_push zi_9_29 rfl ?_
      refine q_cIV zi_9_30 rfl rfl rfl rfl rfl rfl rfl cf_92_0.ob (htell _ (fun υ hF2 => ?_))
      show zk _ _ 33 _ _ _ _
      refine r_is2 zi_9_33 rfl ?_
      refine r_al0 zi_9_34 rfl ?_
      refine q_getR zi_9_35 rfl cf_91_1 ?_
      refine q_getR zi_9_38 rfl cf_75_1 ?_
      refine r_il1 zi_9_41 rfl ?_
      refine r_push zi_9_42 rfl ?_
      refine r_al0 zi_9_44 rfl ?_
      refine q_getR zi_9_45 rfl cf_91_1 ?_
      refine q_getR zi_9_48 rfl cf_75_1 ?_
      refine r_il1 zi_9_51 rfl ?_
      refine r_alde zi_9_52 rfl p ca_77 (by first | rfl | (simp only [zI_add, zI_mul] <;> rfl)) (by first | omega | decide) (u := V 1 p) (by first | exact ((hF2 (75 + 1 + 1) (by decide) p).trans hf) | ((repeat (first | rw [zup_ne (by first | decide | omega)] | rw [zup_nj (by first | decide | omega)] | rw [fil_ne (by first | decide | omega)])) <;> exact ((hF2 (75 + 1 + 1) (by decide) p).trans hf)) | (simp [up_rd, fil_rd]; exact ((hF2 (75 + 1 + 1) (by decide) p).trans hf))) ?_
      refine r_il2 zi_9_53 rfl ?_
      refine r_b0 zi_9_54 rfl ?_
      refine r_min zi_9_55 rfl ?_
      refine r_ast zi_9_58 rfl p ca_77 (by first | rfl | (simp only [zI_add, zI_mul] <;> rfl)) (by first | omega | decide) ?_
      refine r_in1 zi_9_59 rfl ?_
      rw [show (nI p + 1 : Int32) = nI (p + 1) from nI_add _ _]
      refine r_goto zi_9_62 rfl ?_
      exact ih (p + 1) _ _ _ (by omega) ((hF.tr (Fx.of hF2 (by simp))).put (by decide)) (zVk_a (j := 1) (Or.inr rfl) (zVk_o (Or.inr rfl) hV hF2 (by simp)) (by decide)) hg2 (fun υ g1 g2 g3 => hq υ g1 g2 (g3.trans ((zup_ne (by decide)).trans (hF2 91 (by decide) 4))))
    · rw [if_neg h0] at hq
      refine r_il1 zi_9_2 rfl ?_
      refine r_push zi_9_3 rfl ?_
      refine n_ic3 (i := p) (j := 12) zi_9_5 rfl (by omega) (by omega) (fun c => absurd c (by omega)) (fun _ => ?_)
      refine r_al0 zi_9_8 rfl ?_
      refine q_getR zi_9_9 rfl cf_91_1 ?_
      refine q_getR zi_9_12 rfl cf_75_1 ?_
      refine r_il1 zi_9_15 rfl ?_
      refine r_alde zi_9_16 rfl p ca_77 (by first | rfl | (simp only [zI_add, zI_mul] <;> rfl)) (by first | omega | decide) (u := V 1 p) (by first | exact hf | ((repeat (first | rw [zup_ne (by first | decide | omega)] | rw [zup_nj (by first | decide | omega)] | rw [fil_ne (by first | decide | omega)])) <;> exact hf) | (simp [up_rd, fil_rd]; exact hf)) ?_
      refine r_if5 zi_9_17 rfl (fun _ => ?_) (fun c => absurd (by grind) c)
      refine r_in1 zi_9_59 rfl ?_
      rw [show (nI p + 1 : Int32) = nI (p + 1) from nI_add _ _]
      refine r_goto zi_9_62 rfl ?_
      exact ih (p + 1) _ _ _ (by omega) hF hV hg hq
theorem l_drownT {d n p : Nat} {σ : zS} {Q : zS → Prop} (hp : p < 12) : ∀ (m s : Nat) (τ : zS) (V : zS), s + m = 18 → Fx 91 [75, 76, 77, 78, 79, 80, 81, 82, 83, 84, 85, 86, 93, 94] [4] σ τ → σ 91 3 = 1 → zVk τ 75 true V → zVg V n → (∀ υ, Fx 91 [75, 76, 77, 78, 79, 80, 81, 82, 83, 84, 85, 86, 93, 94] [4] σ υ → zVk υ 75 true (dDw true n p m s V) → υ 91 4 = τ 91 4 → Q υ) → zk (d + 2) 11 2 [.ref 91, .int (nI p), .int (nI s)] [] τ (fun r t => r = none ∧ Q t) := by
  intro m
  induction m with
  | zero =>
    intro s τ V hs hF hth hV hg hq
    have e : s = 18 := by omega
    subst e
    refine r_il2 zi_11_2 rfl ?_
    refine r_push zi_11_3 rfl ?_
    refine r_ic3 zi_11_5 rfl (fun _ => ?_) (fun c => absurd (by decide) c)
    refine r_ret zi_11_68 rfl ?_
    exact ⟨rfl, hq τ hF hV rfl⟩
  | succ m ih =>
    intro s τ V hs hF hth hV hg hq
    obtain ⟨gn, gn18, gat, gal, gst, gtd, gbf, ⟨wr, gw, gw2⟩⟩ := id hg
    have hsub : τ 75 11 = nI n := (hV.2.1 11 (by decide) (by decide)).trans gn
    have hal : τ (75 + 1 + 6) s = V 6 s := hV.1 6 (by decide) s
    have hat : τ (75 + 1 + 3) s = V 3 s := hV.1 3 (by decide) s
    have h15 : τ 75 15 = V 11 15 := hV.2.1 15 (by decide) (by decide)
    have l0 := nI_pos' (n := s) (by omega)
    have hinj : ∀ q, q < n → nI s = nI q → q = s := fun q hq e => ((nI_eq (by omega) (by omega)).mp e).symm
    have hq : ∀ υ, Fx 91 [75, 76, 77, 78, 79, 80, 81, 82, 83, 84, 85, 86, 93, 94] [4] σ υ → zVk υ 75 true (dDw true n p m (s + 1) (if s < n ∧ V 6 s = 1 ∧ V 3 s = nI p then dW true 3 (nI s) (nI p) (up (up V 6 s 0) 11 15 (V 11 15 + 1)) else V)) → υ 91 4 = τ 91 4 → Q υ := hq
    by_cases hc : s < n ∧ V 6 s = 1
    · have ls : nI s < nI n := nI_lt hc.1 (by omega)
      have hlv : ∀ (d : Nat) (Q2 : Int32 → zS → Prop), Q2 1 τ → zI1 (d + 1) 19 [.ref 75, .int (nI s)] τ Q2 := fun d Q2 hq => s_dlives zDu_75 hsub gn18 (fun q hq1 e al => hq) (fun z => absurd ⟨l0, ls⟩ z) (fun q hq1 e al => absurd (hal.trans hc.2) (by rw [← hinj q hq1 e]; exact al))
      by_cases ha : V 3 s = nI p
      · rw [if_pos ⟨hc.1, hc.2, ha⟩] at hq
        refine r_il2 zi_11_2 rfl ?_
        refine r_push zi_11_3 rfl ?_
        refine n_ic3 (i := s) (j := 18) zi_11_5 rfl (by omega) (by omega) (fun c => absurd c (by omega)) (fun _ => ?_)
        refine r_al0 zi_11_8 rfl ?_
        refine q_getR zi_11_9 rfl cf_91_1 ?_
        refine r_il2 zi_11_12 rfl ?_
        refine q_cIV zi_11_13 rfl rfl rfl rfl rfl rfl rfl cf_75_0.ob (hlv _ _ ?_)
        show zk _ _ 16 _ _ _ _
        refine r_if0 zi_11_16 rfl (fun c => absurd c (by decide)) (fun _ => ?_)
        refine r_al0 zi_11_19 rfl ?_
        refine q_getR zi_11_20 rfl cf_91_1 ?_
        refine q_getR zi_11_23 rfl cf_75_3 ?_
        refine r_il2 zi_11_26 rfl ?_
        refine r_alde zi_11_27 rfl s ca_79 (by first | rfl | (simp only [zI_add, zI_mul] <;> rfl)) (by first | omega | decide) (u := V 3 s) (by first | exact hat | ((repeat (first | rw [zup_ne (by first | decide | omega)] | rw [zup_nj (by first | decide | omega)] | rw [fil_ne (by first | decide | omega)])) <;> exact hat) | (simp [up_rd, fil_rd]; exact hat)) ?_
        refine r_il1 zi_11_28 rfl ?_
        refine r_ic1 zi_11_29 rfl (fun c => absurd ha c) (fun _ => ?_)
        refine r_al0 zi_11_32 rfl ?_
        refine q_getR zi_11_33 rfl cf_91_1 ?_
        refine q_getR zi_11_36 rfl cf_75_6 ?_
        refine r_il2 zi_11_39 rfl ?_
        refine r_push zi_11_40 rfl ?_
        refine r_ast zi_11_41 rfl s ca_82 (by first | rfl | (simp only [zI_add, zI_mul] <;> rfl)) (by first | omega | decide) ?_
        refine r_al0 zi_11_42 rfl ?_
        refine q_getR zi_11_43 rfl cf_91_1 ?_
        refine r_dupR zi_11_46 rfl ?_
        refine q_getIe zi_11_47 rfl cf_75_15 (v := V 11 15) (by first | exact h15 | ((repeat (first | rw [zup_ne (by first | decide | omega)] | rw [zup_nj (by first | decide | omega)] | rw [fil_ne (by first | decide | omega)])) <;> exact h15) | (simp [up_rd, fil_rd]; exact h15)) ?_
        refine r_push zi_11_50 rfl ?_
        refine r_b0 zi_11_51 rfl ?_
        refine q_put zi_11_52 rfl cf_75_15 rfl ?_
        refine r_al0 zi_11_55 rfl ?_
        refine r_push zi_11_56 rfl ?_
        refine r_il2 zi_11_57 rfl ?_
        refine r_il1 zi_11_58 rfl ?_
        refine q_cVV zi_11_59 rfl rfl rfl rfl rfl rfl rfl cf_91_0.ob (s_writeT (zVk_f (f := 15) (Or.inr rfl) (zVk_a (j := 6) (Or.inr rfl) hV (by decide)) (by decide) (by decide)) ((zup_ne (by decide)).trans ((zup_ne (by decide)).trans ((hF.fl (by decide) (by decide)).trans hth))) ((zup_nj (by decide)).trans ((zup_ne (by decide)).trans gw2)) gw (fun τ3 hF3 hV3 f4 => ?_))
        show zk _ _ 62 _ _ _ _
        refine r_in2 zi_11_62 rfl ?_
        rw [show (nI s + 1 : Int32) = nI (s + 1) from nI_add _ _]
        refine r_goto zi_11_65 rfl ?_
        exact ih (s + 1) _ _ (by omega) (((hF.put (by decide)).put (by decide)).tr hF3) hth hV3 (dW_g (zVg_u (zVg_6 hg) (by omega))) (fun υ g1 g2 g3 => hq υ g1 g2 (g3.trans (f4.trans ((zup_ne (by decide)).trans (zup_ne (by decide))))))
      · rw [if_neg (fun z => ha z.2.2)] at hq
        refine r_il2 zi_11_2 rfl ?_
        refine r_push zi_11_3 rfl ?_
        refine n_ic3 (i := s) (j := 18) zi_11_5 rfl (by omega) (by omega) (fun c => absurd c (by omega)) (fun _ => ?_)
        refine r_al0 zi_11_8 rfl ?_
        refine q_getR zi_11_9 rfl cf_91_1 ?_
        refine r_il2 zi_11_12 rfl ?_
        refine q_cIV zi_11_13 rfl rfl rfl rfl rfl rfl rfl cf_75_0.ob (hlv _ _ ?_)
        show zk _ _ 16 _ _ _ _
        refine r_if0 zi_11_16 rfl (fun c => absurd c (by decide)) (fun _ => ?_)
        refine r_al0 zi_11_19 rfl ?_
        refine q_getR zi_11_20 rfl cf_91_1 ?_
        refine q_getR zi_11_23 rfl cf_75_3 ?_
        refine r_il2 zi_11_26 rfl ?_
        refine r_alde zi_11_27 rfl s ca_79 (by first | rfl | (simp only [zI_add, zI_mul] <;> rfl)) (by first | omega | decide) (u := V 3 s) (by first | exact hat | ((repeat (first | rw [zup_ne (by first | decide | omega)] | rw [zup_nj (by first | decide | omega)] | rw [fil_ne (by first | decide | omega)])) <;> exact hat) | (simp [up_rd, fil_rd]; exact hat)) ?_
        refine r_il1 zi_11_28 rfl ?_
        refine r_ic1 zi_11_29 rfl (fun _ => ?_) (fun c => absurd c ha)
        refine r_in2 zi_11_62 rfl ?_
        rw [show (nI s + 1 : Int32) = nI (s + 1) from nI_add _ _]
        refine r_goto zi_11_65 rfl ?_
        exact ih (s + 1) _ _ (by omega) hF hth hV hg hq
    · rw [if_neg (fun z => hc ⟨z.1, z.2.1⟩)] at hq
      have hlv : ∀ (d : Nat) (Q2 : Int32 → zS → Prop), Q2 0 τ → zI1 (d + 1) 19 [.ref 75, .int (nI s)] τ Q2 := fun d Q2 hq => s_dlives zDu_75 hsub gn18 (fun q hq1 e al => absurd ⟨by rw [← hinj q hq1 e]; exact hq1, hal.symm.trans (by rw [← hinj q hq1 e]; exact al)⟩ hc) (fun z => hq) (fun q hq1 e al => hq)
      refine r_il2 zi_11_2 rfl ?_
      refine r_push zi_11_3 rfl ?_
      refine n_ic3 (i := s) (j := 18) zi_11_5 rfl (by omega) (by omega) (fun c => absurd c (by omega)) (fun _ => ?_)
      refine r_al0 zi_11_8 rfl ?_
      refine q_getR zi_11_9 rfl cf_91_1 ?_
      refine r_il2 zi_11_12 rfl ?_
      refine q_cIV zi_11_13 rfl rfl rfl rfl rfl rfl rfl cf_75_0.ob (hlv _ _ ?_)
      show zk _ _ 16 _ _ _ _
      refine r_if0 zi_11_16 rfl (fun _ => ?_) (fun c => absurd (by decide) c)
      refine r_in2 zi_11_62 rfl ?_
      rw [show (nI s + 1 : Int32) = nI (s + 1) from nI_add _ _]
      refine r_goto zi_11_65 rfl ?_
      exact ih (s + 1) _ _ (by omega) hF hth hV hg hq
theorem l_seaT {d n : Nat} {σ : zS} {Q : zS → Prop} (hth : σ 91 3 = 1) : ∀ (m p : Nat) (τ : zS) (V : zS), p + m = 12 → Fx 91 [75, 76, 77, 78, 79, 80, 81, 82, 83, 84, 85, 86, 93, 94] [4] σ τ → zVk τ 75 true V → zVg V n → (∀ υ, Fx 91 [75, 76, 77, 78, 79, 80, 81, 82, 83, 84, 85, 86, 93, 94] [4] σ υ → zVk υ 75 true (dSe true n m p V) → υ 91 4 = τ 91 4 → Q υ) → zk (d + 3) 10 2 [.ref 91, .int (nI p)] [] τ (fun r t => r = none ∧ Q t) := by
  intro m
  induction m with
  | zero =>
    intro p τ V hp hF hV hg hq
    have e : p = 12 := by omega
    subst e
    refine r_il1 zi_10_2 rfl ?_
    refine r_push zi_10_3 rfl ?_
    refine r_ic3 zi_10_5 rfl (fun _ => ?_) (fun c => absurd (by decide) c)
    refine r_ret zi_10_70 rfl ?_
    exact ⟨rfl, hq τ hF hV rfl⟩
  | succ m ih =>
    intro p τ V hp hF hV hg hq
    have h14 : τ 75 14 = V 11 14 := hV.2.1 14 (by decide) (by decide)
    have h0 : τ (75 + 1 + 0) p = V 0 p := hV.1 0 (by decide) p
    have h2 : τ (75 + 1 + 2) p = V 2 p := hV.1 2 (by decide) p
    have hq : ∀ υ, Fx 91 [75, 76, 77, 78, 79, 80, 81, 82, 83, 84, 85, 86, 93, 94] [4] σ υ → zVk υ 75 true (dSe true n m (p + 1) (if V 0 p < V 11 14 ∧ V 2 p / 10 < V 11 14 then up (dDw true n p 18 0 V) 1 p 0 else V)) → υ 91 4 = τ 91 4 → Q υ := hq
    by_cases c1 : V 0 p < V 11 14
    · by_cases c2 : V 2 p / 10 < V 11 14
      · rw [if_pos ⟨c1, c2⟩] at hq
        have hdw : ∀ (Q2 : zS → Prop), (∀ υ, Fx 91 [75, 76, 77, 78, 79, 80, 81, 82, 83, 84, 85, 86, 93, 94] [4] σ υ → zVk υ 75 true (dDw true n p 18 0 V) → υ 91 4 = τ 91 4 → Q2 υ) → zV1 (d + 2) 11 [.ref 91, .int (nI p)] τ Q2 := fun Q2 hq2 => by
          show zk _ _ 0 [.ref 91, .int (nI p), zun] [] _ _
          refine r_push zi_11_0 rfl ?_
          refine r_is2 zi_11_1 rfl ?_
          exact l_drownT (σ := σ) (by omega) 18 0 τ V (by omega) hF hth hV hg hq2
        refine r_il1 zi_10_2 rfl ?_
        refine r_push zi_10_3 rfl ?_
        refine n_ic3 (i := p) (j := 12) zi_10_5 rfl (by omega) (by omega) (fun c => absurd c (by omega)) (fun _ => ?_)
        refine r_al0 zi_10_8 rfl ?_
        refine q_getR zi_10_9 rfl cf_91_1 ?_
        refine q_getIe zi_10_12 rfl cf_75_14 (v := V 11 14) (by first | exact h14 | ((repeat (first | rw [zup_ne (by first | decide | omega)] | rw [zup_nj (by first | decide | omega)] | rw [fil_ne (by first | decide | omega)])) <;> exact h14) | (simp [up_rd, fil_rd]; exact h14)) ?_
        refine r_al0 zi_10_15 rfl ?_
        refine q_getR zi_10_16 rfl cf_91_1 ?_
        refine q_getR zi_10_19 rfl cf_75_0 ?_
        refine r_il1 zi_10_22 rfl ?_
        refine r_alde zi_10_23 rfl p ca_76 (by first | rfl | (simp only [zI_add, zI_mul] <;> rfl)) (by first | omega | decide) (u := V 0 p) (by first | exact h0 | ((repeat (first | rw [zup_ne (by first | decide | omega)] | rw [zup_nj (by first | decide | omega)] | rw [fil_ne (by first | decide | omega)])) <;> exact h0) | (simp [up_rd, fil_rd]; exact h0)) ?_
        refine r_ic5 zi_10_24 rfl (fun c => absurd c (by grind)) (fun _ => ?_)
        refine r_al0 zi_10_27 rfl ?_
        refine q_getR zi_10_28 rfl cf_91_1 ?_
        refine q_getIe zi_10_31 rfl cf_75_14 (v := V 11 14) (by first | exact h14 | ((repeat (first | rw [zup_ne (by first | decide | omega)] | rw [zup_nj (by first | decide | omega)] | rw [fil_ne (by first | decide | omega)])) <;> exact h14) | (simp [up_rd, fil_rd]; exact h14)) ?_
        refine r_al0 zi_10_34 rfl ?_
        refine q_getR zi_10_35 rfl cf_91_1 ?_
        refine q_getR zi_10_38 rfl cf_75_2 ?_
        refine r_il1 zi_10_41 rfl ?_
        refine r_alde zi_10_42 rfl p ca_78 (by first | rfl | (simp only [zI_add, zI_mul] <;> rfl)) (by first | omega | decide) (u := V 2 p) (by first | exact h2 | ((repeat (first | rw [zup_ne (by first | decide | omega)] | rw [zup_nj (by first | decide | omega)] | rw [fil_ne (by first | decide | omega)])) <;> exact h2) | (simp [up_rd, fil_rd]; exact h2)) ?_
        refine r_push zi_10_43 rfl ?_
        refine r_div zi_10_45 rfl (by decide) ?_
        refine r_ic5 zi_10_46 rfl (fun c => absurd c (by grind)) (fun _ => ?_)
        refine r_al0 zi_10_49 rfl ?_
        refine r_il1 zi_10_50 rfl ?_
        refine q_cVV zi_10_51 rfl rfl rfl rfl rfl rfl rfl cf_91_0.ob (hdw _ (fun υ hF2 hV2 f4 => ?_))
        show zk _ _ 54 _ _ _ _
        refine r_al0 zi_10_54 rfl ?_
        refine q_getR zi_10_55 rfl cf_91_1 ?_
        refine q_getR zi_10_58 rfl cf_75_1 ?_
        refine r_il1 zi_10_61 rfl ?_
        refine r_push zi_10_62 rfl ?_
        refine r_ast zi_10_63 rfl p ca_77 (by first | rfl | (simp only [zI_add, zI_mul] <;> rfl)) (by first | omega | decide) ?_
        refine r_in1 zi_10_64 rfl ?_
        rw [show (nI p + 1 : Int32) = nI (p + 1) from nI_add _ _]
        refine r_goto zi_10_67 rfl ?_
        exact ih (p + 1) _ _ (by omega) (hF2.put (by decide)) (zVk_a (j := 1) (Or.inr rfl) hV2 (by decide)) (zVg_u (dDw_g 18 0 V hg) (by omega)) (fun υ2 g1 g2 g3 => hq υ2 g1 g2 (g3.trans ((zup_ne (by decide)).trans f4)))
      · rw [if_neg (fun z => c2 z.2)] at hq
        refine r_il1 zi_10_2 rfl ?_
        refine r_push zi_10_3 rfl ?_
        refine n_ic3 (i := p) (j := 12) zi_10_5 rfl (by omega) (by omega) (fun c => absurd c (by omega)) (fun _ => ?_)
        refine r_al0 zi_10_8 rfl ?_
        refine q_getR zi_10_9 rfl cf_91_1 ?_
        refine q_getIe zi_10_12 rfl cf_75_14 (v := V 11 14) (by first | exact h14 | ((repeat (first | rw [zup_ne (by first | decide | omega)] | rw [zup_nj (by first | decide | omega)] | rw [fil_ne (by first | decide | omega)])) <;> exact h14) | (simp [up_rd, fil_rd]; exact h14)) ?_
        refine r_al0 zi_10_15 rfl ?_
        refine q_getR zi_10_16 rfl cf_91_1 ?_
        refine q_getR zi_10_19 rfl cf_75_0 ?_
        refine r_il1 zi_10_22 rfl ?_
        refine r_alde zi_10_23 rfl p ca_76 (by first | rfl | (simp only [zI_add, zI_mul] <;> rfl)) (by first | omega | decide) (u := V 0 p) (by first | exact h0 | ((repeat (first | rw [zup_ne (by first | decide | omega)] | rw [zup_nj (by first | decide | omega)] | rw [fil_ne (by first | decide | omega)])) <;> exact h0) | (simp [up_rd, fil_rd]; exact h0)) ?_
        refine r_ic5 zi_10_24 rfl (fun c => absurd c (by grind)) (fun _ => ?_)
        refine r_al0 zi_10_27 rfl ?_
        refine q_getR zi_10_28 rfl cf_91_1 ?_
        refine q_getIe zi_10_31 rfl cf_75_14 (v := V 11 14) (by first | exact h14 | ((repeat (first | rw [zup_ne (by first | decide | omega)] | rw [zup_nj (by first | decide | omega)] | rw [fil_ne (by first | decide | omega)])) <;> exact h14) | (simp [up_rd, fil_rd]; exact h14)) ?_
        refine r_al0 zi_10_34 rfl ?_
        refine q_getR zi_10_35 rfl cf_91_1 ?_
        refine q_getR zi_10_38 rfl cf_75_2 ?_
        refine r_il1 zi_10_41 rfl ?_
        refine r_alde zi_10_42 rfl p ca_78 (by first | rfl | (simp only [zI_add, zI_mul] <;> rfl)) (by first | omega | decide) (u := V 2 p) (by first | exact h2 | ((repeat (first | rw [zup_ne (by first | decide | omega)] | rw [zup_nj (by first | decide | omega)] | rw [fil_ne (by first | decide | omega)])) <;> exact h2) | (simp [up_rd, fil_rd]; exact h2)) ?_
        refine r_push zi_10_43 rfl ?_
        refine r_div zi_10_45 rfl (by decide) ?_
        refine r_ic5 zi_10_46 rfl (fun _ => ?_) (fun c => absurd (by grind) c)
        refine r_in1 zi_10_64 rfl ?_
        rw [show (nI p + 1 : Int32) = nI (p + 1) from nI_add _ _]
        refine r_goto zi_10_67 rfl ?_
        exact ih (p + 1) _ _ (by omega) hF hV hg hq
    · rw [if_neg (fun z => c1 z.1)] at hq
      refine r_il1 zi_10_2 rfl ?_
      refine r_push zi_10_3 rfl ?_
      refine n_ic3 (i := p) (j := 12) zi_10_5 rfl (by omega) (by omega) (fun c => absurd c (by omega)) (fun _ => ?_)
      refine r_al0 zi_10_8 rfl ?_
      refine q_getR zi_10_9 rfl cf_91_1 ?_
      refine q_getIe zi_10_12 rfl cf_75_14 (v := V 11 14) (by first | exact h14 | ((repeat (first | rw [zup_ne (by first | decide | omega)] | rw [zup_nj (by first | decide | omega)] | rw [fil_ne (by first | decide | omega)])) <;> exact h14) | (simp [up_rd, fil_rd]; exact h14)) ?_
      refine r_al0 zi_10_15 rfl ?_
      refine q_getR zi_10_16 rfl cf_91_1 ?_
      refine q_getR zi_10_19 rfl cf_75_0 ?_
      refine r_il1 zi_10_22 rfl ?_
      refine r_alde zi_10_23 rfl p ca_76 (by first | rfl | (simp only [zI_add, zI_mul] <;> rfl)) (by first | omega | decide) (u := V 0 p) (by first | exact h0 | ((repeat (first | rw [zup_ne (by first | decide | omega)] | rw [zup_nj (by first | decide | omega)] | rw [fil_ne (by first | decide | omega)])) <;> exact h0) | (simp [up_rd, fil_rd]; exact h0)) ?_
      refine r_ic5 zi_10_24 rfl (fun _ => ?_) (fun c => absurd (by grind) c)
      refine r_in1 zi_10_64 rfl ?_
      rw [show (nI p + 1 : Int32) = nI (p + 1) from nI_add _ _]
      refine r_goto zi_10_67 rfl ?_
      exact ih (p + 1) _ _ (by omega) hF hV hg hq

