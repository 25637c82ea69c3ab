/-! CLASS: Days (R): the loops -/
theorem dDw_g {th : Bool} {n p : Nat} : ∀ (m s : Nat) (V : zS), zVg V n → zVg (dDw th n p m s V) n
  | 0, _, _, h => h
  | m + 1, s, V, h => dDw_g m (s + 1) _ (by split; exact dW_g (zVg_u (zVg_6 h) (by omega)); exact h)
theorem dSe_g {th : Bool} {n : Nat} : ∀ (m p : Nat) (V : zS), zVg V n → zVg (dSe th n m p V) n
  | 0, _, _, h => h
  | m + 1, p, V, h => dSe_g m (p + 1) _ (by split; exact zVg_u (dDw_g 18 0 V h) (by omega); exact h)
theorem dTi_g {td tp tv : Nat → Nat} {n : Nat} : ∀ (m l : Nat) (V : zS), zVg V n → zVg (dTi td tp tv m l V) n
  | 0, _, _, h => h
  | m + 1, l, V, h => dTi_g m (l + 1) _ (by split; (split; exact zVg_u h (by omega); exact zVg_u h (by omega)); exact h)
theorem dGv_g {V : zS} {n : Nat} {o : Int32} (hg : zVg V n) (ho : zOg n o) : zVg (dGv V o) n := by
  obtain ⟨gn, gn18, gat, gal, gst, ⟨t, ht, ht2, ht3⟩, ⟨b, hb, hb2, hb3⟩, ⟨wr, gw, gw2⟩⟩ := hg
  unfold dGv
  by_cases h24 : t = 24
  · rw [if_pos (by rw [ht2, h24]; rfl)]
    exact ⟨gn, gn18, gat, gal, gst, ⟨t, ht, ht2, ht3⟩, ⟨b, hb, hb2, hb3⟩, ⟨wr, gw, gw2⟩⟩
  · rw [if_neg (fun z => h24 ((nI_eq (b := 24) (by omega) (by omega)).mp (by rw [← ht2]; exact z)))]
    have hu : un (V 11 12) = t := by rw [ht2]; exact un_nI (by omega)
    rw [hu]
    refine ⟨(zup_nj (by decide)).trans ((zup_ne (by decide)).trans gn), gn18, fun s hs => by rw [zup_ne (by decide), zup_ne (by decide)]; exact gat s hs, fun s hs => by rw [zup_ne (by decide), zup_ne (by decide)]; exact gal s hs, fun s hs => by rw [zup_ne (by decide), zup_ne (by decide)]; exact gst s hs, ⟨t + 1, by omega, by rw [zup_eq, ht2]; exact nI_1 t, fun i hi => ?_⟩, ⟨b, hb, by rw [zup_nj (by decide), zup_ne (by decide)]; exact hb2, fun i hi => by rw [zup_ne (by decide), zup_ne (by decide)]; exact hb3 i hi⟩, ⟨wr, gw, by rw [zup_nj (by decide), zup_ne (by decide)]; exact gw2⟩⟩
    rw [zup_ne (by decide), up_rd]
    by_cases e : i = t
    · rw [if_pos ⟨rfl, e⟩]; exact ho
    · rw [if_neg (fun z => e z.2)]; exact ht3 i (by omega)
theorem dLe_g {ed : Nat → Nat} {eo : Nat → Int32} {n nE : Nat} (ho : ∀ l, l < nE → zOg n (eo l)) : ∀ (m l : Nat) (V : zS), l + m ≤ nE → zVg V n → zVg (dLe ed eo m l V) n
  | 0, _, _, _, h => h
  | m + 1, l, V, hl, h => dLe_g ho m (l + 1) _ (by omega) (by split; exact dGv_g h (ho l (by omega)); exact h)
theorem dOr_rw {T : zTe} {B : Nat → Int32} {n s d : Nat} {th g : Bool} {V : zS} : dOr T B n th V s d g 10 = V 10 ∧ dOr T B n th V s d g 11 13 = V 11 13 := by
  have hW : ∀ (wh who mu : Int32) (U : zS), dW th wh who mu U 10 = U 10 ∧ dW th wh who mu U 11 13 = U 11 13 := fun wh who mu U => ⟨dW_row (by decide) (by decide), dW_r (by decide) (by decide)⟩
  have hD : ∀ (U : zS) (w a : Nat), dDn T B n U s w a 10 = U 10 ∧ dDn T B n U s w a 11 13 = U 11 13 := fun U w a => by
    unfold dDn
    split
    · exact ⟨funext fun b => by simp [up_rd], by simp [up_rd]⟩
    · split
      · exact ⟨funext fun b => by simp [up_rd], by simp [up_rd]⟩
      · split
        · exact ⟨funext fun b => by simp [up_rd], by simp [up_rd]⟩
        · split
          · exact ⟨funext fun b => by simp [up_rd], by simp [up_rd]⟩
          · exact ⟨funext fun b => by simp [up_rd], by simp [up_rd]⟩
  have hR : ∀ w, dDr T n th V s w 10 = V 10 ∧ dDr T n th V s w 11 13 = V 11 13 := fun w => by
    unfold dDr
    split
    · exact ⟨funext fun b => by simp [up_rd], by simp [up_rd]⟩
    · exact ⟨rfl, rfl⟩
  have hO : ∀ w a, dOb T B n th V s w a 10 = V 10 ∧ dOb T B n th V s w a 11 13 = V 11 13 := fun w a => by
    unfold dOb
    split
    · exact ⟨(hW _ _ _ _).1.trans ((hD _ _ _).1.trans (hR w).1), (hW _ _ _ _).2.trans ((hD _ _ _).2.trans (hR w).2)⟩
    · exact ⟨(hW _ _ _ _).1.trans ((funext fun b => zup_ne (by decide)).trans (hR w).1), (hW _ _ _ _).2.trans ((zup_nj (by decide)).trans (hR w).2)⟩
  unfold dOr
  split
  · exact ⟨rfl, rfl⟩
  · split
    · unfold dSp
      exact ⟨(funext fun b => zup_ne (by decide)).trans (hW _ _ _ _).1, (zup_ne (by decide)).trans (hW _ _ _ _).2⟩
    · split
      · exact ⟨(funext fun b => zup_ne (by decide)).trans (hO _ _).1, (zup_ne (by decide)).trans (hO _ _).2⟩
      · exact hO _ _

theorem l_firesR {d n N : Nat} {σ : zS} {Q : zS → Prop} {Wd Fr' Wh To O A : Nat → Nat} {B : Nat → Int32} (hd : zKd σ N Wd Fr' Wh To O A B) : ∀ (m p : Nat) (τ : zS) (V : zS) (u2 : Value), p + m = 12 → Fx 87 [2, 3, 4, 5, 6, 7, 8, 9, 10, 11, 12, 13, 14, 89, 90] [4] σ τ → zVk τ 2 false V → zVg V n → (∀ υ, Fx 87 [2, 3, 4, 5, 6, 7, 8, 9, 10, 11, 12, 13, 14, 89, 90] [4] σ υ → zVk υ 2 false (dFi (zTl N Wd Fr' Wh To O A) n m p V) → υ 87 4 = τ 87 4 → Q υ) → zk (d + 3) 9 2 [.ref 87, .int (nI p), u2] [] τ (fun r t => r = none ∧ Q t) := by
  intro m
  induction m with
  | zero =>
    intro p τ V u2 hp hF hV hg hq
    have e : p = 12 := by omega
    subst e
    refine r_il1 zi_9_2 rfl ?_
    refine r_push zi_9_3 rfl ?_
    refine r_ic3 zi_9_5 rfl (fun _ => ?_) (fun c => absurd (by decide) c)
    refine r_ret zi_9_65 rfl ?_
    exact ⟨rfl, hq τ hF hV rfl⟩
  | succ m ih =>
    intro p τ V u2 hp hF hV hg hq
    obtain ⟨gn, gn18, gat, gal, gst, gtd, gbf, gwr⟩ := id hg
    have hsub : τ 2 11 = nI n := (hV.2.1 11 (by decide) (by decide)).trans gn
    obtain ⟨d1, d2, d3, d4, d5⟩ := zKd_fr hd hF (fun a h1 h2 => by simp; omega)
    have hf : τ (2 + 1 + 1) p = V 1 p := hV.1 1 (by decide) p
    have htell : ∀ (Q2 : Int32 → zS → Prop), (∀ υ, Fr [88 + 1, 88 + 2] τ υ → Q2 (zTl N Wd Fr' Wh To O A 2 (zFv V n false 0 p 0)) υ) → zI1 (d + 2) 24 [.ref 88, .int (nI (10000 + 2)), .int (-1), .int (nI p), .int 0] τ Q2 := fun Q2 hq => s_tells (sb := false) (s := 0) zLa88 zDu_2 (by decide) hsub gn18 (Or.inr ⟨rfl, rfl, rfl⟩) (by omega) d1 d2 (by omega) (fun υ hF => by rw [zfk_v hV]; exact hq υ hF)
    have hq : ∀ υ, Fx 87 [2, 3, 4, 5, 6, 7, 8, 9, 10, 11, 12, 13, 14, 89, 90] [4] σ υ → zVk υ 2 false (dFi (zTl N Wd Fr' Wh To O A) n m (p + 1) (if 0 < V 1 p then up V 1 p (zmn9 (V 1 p + zTl N Wd Fr' Wh To O A 2 (zFv V n false 0 p 0))) else V)) → υ 87 4 = τ 87 4 → Q υ := hq
    by_cases h0 : 0 < V 1 p
    · rw [if_pos h0] at hq
      have hg2 : zVg (up V 1 p (zmn9 (V 1 p + zTl N Wd Fr' Wh To O A 2 (zFv V n false 0 p 0)))) n := zVg_u hg (by omega)
      generalize zTl N Wd Fr' Wh To O A 2 (zFv V n false 0 p 0) = M at htell hq hg2
      refine r_il1 zi_9_2 rfl ?_
      refine r_push zi_9_3 rfl ?_
      refine n_ic3 (i := p) (j := 12) zi_9_5 rfl (by omega) (by omega) (fun c => absurd c (by omega)) (fun _ => ?_)
      refine r_al0 zi_9_8 rfl ?_
      refine q_getR zi_9_9 rfl cf_87_1 ?_
      refine q_getR zi_9_12 rfl cf_2_1 ?_
      refine r_il1 zi_9_15 rfl ?_
      refine r_alde zi_9_16 rfl p ca_4 (by first | rfl | (simp only [zI_add, zI_mul] <;> rfl)) (by first | omega | decide) (u := V 1 p) (by first | exact hf | ((repeat (first | rw [zup_ne (by first | decide | omega)] | rw [zup_nj (by first | decide | omega)] | rw [fil_ne (by first | decide | omega)])) <;> exact hf) | (simp [up_rd, fil_rd]; exact hf)) ?_
      refine r_if5 zi_9_17 rfl (fun c => absurd c (by grind)) (fun _ => ?_)
      refine r_al0 zi_9_20 rfl ?_
      refine q_getR zi_9_21 rfl cf_87_2 ?_
      refine r_push zi_9_24 rfl ?_
      refine r_push zi_9_27 rfl ?_
      refine r_il1 zi_9_28 rfl ?_
      refine r_push zi_9_29 rfl ?_
      refine q_cIV zi_9_30 rfl rfl rfl rfl rfl rfl rfl cf_88_0.ob (htell _ (fun υ hF2 => ?_))
      show zk _ _ 33 _ _ _ _
      refine r_is2 zi_9_33 rfl ?_
      refine r_al0 zi_9_34 rfl ?_
      refine q_getR zi_9_35 rfl cf_87_1 ?_
      refine q_getR zi_9_38 rfl cf_2_1 ?_
      refine r_il1 zi_9_41 rfl ?_
      refine r_push zi_9_42 rfl ?_
      refine r_al0 zi_9_44 rfl ?_
      refine q_getR zi_9_45 rfl cf_87_1 ?_
      refine q_getR zi_9_48 rfl cf_2_1 ?_
      refine r_il1 zi_9_51 rfl ?_
      refine r_alde zi_9_52 rfl p ca_4 (by first | rfl | (simp only [zI_add, zI_mul] <;> rfl)) (by first | omega | decide) (u := V 1 p) (by first | exact ((hF2 (2 + 1 + 1) (by decide) p).trans hf) | ((repeat (first | rw [zup_ne (by first | decide | omega)] | rw [zup_nj (by first | decide | omega)] | rw [fil_ne (by first | decide | omega)])) <;> exact ((hF2 (2 + 1 + 1) (by decide) p).trans hf)) | (simp [up_rd, fil_rd]; exact ((hF2 (2 + 1 + 1) (by decide) p).trans hf))) ?_
      refine r_il2 zi_9_53 rfl ?_
      refine r_b0 zi_9_54 rfl ?_
      refine r_min zi_9_55 rfl ?_
      refine r_ast zi_9_58 rfl p ca_4 (by first | rfl | (simp only [zI_add, zI_mul] <;> rfl)) (by first | omega | decide) ?_
      refine r_in1 zi_9_59 rfl ?_
      rw [show (nI p + 1 : Int32) = nI (p + 1) from nI_add _ _]
      refine r_goto zi_9_62 rfl ?_
      exact ih (p + 1) _ _ _ (by omega) ((hF.tr (Fx.of hF2 (by simp))).put (by decide)) (zVk_a (j := 1) (Or.inl rfl) (zVk_o (Or.inl rfl) hV hF2 (by simp)) (by decide)) hg2 (fun υ g1 g2 g3 => hq υ g1 g2 (g3.trans ((zup_ne (by decide)).trans (hF2 87 (by decide) 4))))
    · rw [if_neg h0] at hq
      refine r_il1 zi_9_2 rfl ?_
      refine r_push zi_9_3 rfl ?_
      refine n_ic3 (i := p) (j := 12) zi_9_5 rfl (by omega) (by omega) (fun c => absurd c (by omega)) (fun _ => ?_)
      refine r_al0 zi_9_8 rfl ?_
      refine q_getR zi_9_9 rfl cf_87_1 ?_
      refine q_getR zi_9_12 rfl cf_2_1 ?_
      refine r_il1 zi_9_15 rfl ?_
      refine r_alde zi_9_16 rfl p ca_4 (by first | rfl | (simp only [zI_add, zI_mul] <;> rfl)) (by first | omega | decide) (u := V 1 p) (by first | exact hf | ((repeat (first | rw [zup_ne (by first | decide | omega)] | rw [zup_nj (by first | decide | omega)] | rw [fil_ne (by first | decide | omega)])) <;> exact hf) | (simp [up_rd, fil_rd]; exact hf)) ?_
      refine r_if5 zi_9_17 rfl (fun _ => ?_) (fun c => absurd (by grind) c)
      refine r_in1 zi_9_59 rfl ?_
      rw [show (nI p + 1 : Int32) = nI (p + 1) from nI_add _ _]
      refine r_goto zi_9_62 rfl ?_
      exact ih (p + 1) _ _ _ (by omega) hF hV hg hq
theorem l_drownR {d n p : Nat} {σ : zS} {Q : zS → Prop} (hp : p < 12) : ∀ (m s : Nat) (τ : zS) (V : zS), s + m = 18 → Fx 87 [2, 3, 4, 5, 6, 7, 8, 9, 10, 11, 12, 13, 14, 89, 90] [4] σ τ → σ 87 3 = 0 → zVk τ 2 false V → zVg V n → (∀ υ, Fx 87 [2, 3, 4, 5, 6, 7, 8, 9, 10, 11, 12, 13, 14, 89, 90] [4] σ υ → zVk υ 2 false (dDw false n p m s V) → υ 87 4 = τ 87 4 → Q υ) → zk (d + 2) 11 2 [.ref 87, .int (nI p), .int (nI s)] [] τ (fun r t => r = none ∧ Q t) := by
  intro m
  induction m with
  | zero =>
    intro s τ V hs hF hth hV hg hq
    have e : s = 18 := by omega
    subst e
    refine r_il2 zi_11_2 rfl ?_
    refine r_push zi_11_3 rfl ?_
    refine r_ic3 zi_11_5 rfl (fun _ => ?_) (fun c => absurd (by decide) c)
    refine r_ret zi_11_68 rfl ?_
    exact ⟨rfl, hq τ hF hV rfl⟩
  | succ m ih =>
    intro s τ V hs hF hth hV hg hq
    obtain ⟨gn, gn18, gat, gal, gst, gtd, gbf, ⟨wr, gw, gw2⟩⟩ := id hg
    have hsub : τ 2 11 = nI n := (hV.2.1 11 (by decide) (by decide)).trans gn
    have hal : τ (2 + 1 + 6) s = V 6 s := hV.1 6 (by decide) s
    have hat : τ (2 + 1 + 3) s = V 3 s := hV.1 3 (by decide) s
    have h15 : τ 2 15 = V 11 15 := hV.2.1 15 (by decide) (by decide)
    have l0 := nI_pos' (n := s) (by omega)
    have hinj : ∀ q, q < n → nI s = nI q → q = s := fun q hq e => ((nI_eq (by omega) (by omega)).mp e).symm
    have hq : ∀ υ, Fx 87 [2, 3, 4, 5, 6, 7, 8, 9, 10, 11, 12, 13, 14, 89, 90] [4] σ υ → zVk υ 2 false (dDw false n p m (s + 1) (if s < n ∧ V 6 s = 1 ∧ V 3 s = nI p then dW false 3 (nI s) (nI p) (up (up V 6 s 0) 11 15 (V 11 15 + 1)) else V)) → υ 87 4 = τ 87 4 → Q υ := hq
    by_cases hc : s < n ∧ V 6 s = 1
    · have ls : nI s < nI n := nI_lt hc.1 (by omega)
      have hlv : ∀ (d : Nat) (Q2 : Int32 → zS → Prop), Q2 1 τ → zI1 (d + 1) 19 [.ref 2, .int (nI s)] τ Q2 := fun d Q2 hq => s_dlives zDu_2 hsub gn18 (fun q hq1 e al => hq) (fun z => absurd ⟨l0, ls⟩ z) (fun q hq1 e al => absurd (hal.trans hc.2) (by rw [← hinj q hq1 e]; exact al))
      by_cases ha : V 3 s = nI p
      · rw [if_pos ⟨hc.1, hc.2, ha⟩] at hq
        refine r_il2 zi_11_2 rfl ?_
        refine r_push zi_11_3 rfl ?_
        refine n_ic3 (i := s) (j := 18) zi_11_5 rfl (by omega) (by omega) (fun c => absurd c (by omega)) (fun _ => ?_)
        refine r_al0 zi_11_8 rfl ?_
        refine q_getR zi_11_9 rfl cf_87_1 ?_
        refine r_il2 zi_11_12 rfl ?_
        refine q_cIV zi_11_13 rfl rfl rfl rfl rfl rfl rfl cf_2_0.ob (hlv _ _ ?_)
        show zk _ _ 16 _ _ _ _
        refine r_if0 zi_11_16 rfl (fun c => absurd c (by decide)) (fun _ => ?_)
        refine r_al0 zi_11_19 rfl ?_
        refine q_getR zi_11_20 rfl cf_87_1 ?_
        refine q_getR zi_11_23 rfl cf_2_3 ?_
        refine r_il2 zi_11_26 rfl ?_
        refine r_alde zi_11_27 rfl s ca_6 (by first | rfl | (simp only [zI_add, zI_mul] <;> rfl)) (by first | omega | decide) (u := V 3 s) (by first | exact hat | ((repeat (first | rw [zup_ne (by first | decide | omega)] | rw [zup_nj (by first | decide | omega)] | rw [fil_ne (by first | decide | omega)])) <;> exact hat) | (simp [up_rd, fil_rd]; exact hat)) ?_
        refine r_il1 zi_11_28 rfl ?_
        refine r_ic1 zi_11_29 rfl (fun c => absurd ha c) (fun _ => ?_)
        refine r_al0 zi_11_32 rfl ?_
        refine q_getR zi_11_33 rfl cf_87_1 ?_
        refine q_getR zi_11_36 rfl cf_2_6 ?_
        refine r_il2 zi_11_39 rfl ?_
        refine r_push zi_11_40 rfl ?_
        refine r_ast zi_11_41 rfl s ca_9 (by first | rfl | (simp only [zI_add, zI_mul] <;> rfl)) (by first | omega | decide) ?_
        refine r_al0 zi_11_42 rfl ?_
        refine q_getR zi_11_43 rfl cf_87_1 ?_
        refine r_dupR zi_11_46 rfl ?_
        refine q_getIe zi_11_47 rfl cf_2_15 (v := V 11 15) (by first | exact h15 | ((repeat (first | rw [zup_ne (by first | decide | omega)] | rw [zup_nj (by first | decide | omega)] | rw [fil_ne (by first | decide | omega)])) <;> exact h15) | (simp [up_rd, fil_rd]; exact h15)) ?_
        refine r_push zi_11_50 rfl ?_
        refine r_b0 zi_11_51 rfl ?_
        refine q_put zi_11_52 rfl cf_2_15 rfl ?_
        refine r_al0 zi_11_55 rfl ?_
        refine r_push zi_11_56 rfl ?_
        refine r_il2 zi_11_57 rfl ?_
        refine r_il1 zi_11_58 rfl ?_
        refine q_cVV zi_11_59 rfl rfl rfl rfl rfl rfl rfl cf_87_0.ob (s_writeR (zVk_f (f := 15) (Or.inl rfl) (zVk_a (j := 6) (Or.inl rfl) hV (by decide)) (by decide) (by decide)) ((zup_ne (by decide)).trans ((zup_ne (by decide)).trans ((hF.fl (by decide) (by decide)).trans hth))) ((zup_nj (by decide)).trans ((zup_ne (by decide)).trans gw2)) gw (fun τ3 hF3 hV3 f4 => ?_))
        show zk _ _ 62 _ _ _ _
        refine r_in2 zi_11_62 rfl ?_
        rw [show (nI s + 1 : Int32) = nI (s + 1) from nI_add _ _]
        refine r_goto zi_11_65 rfl ?_
        exact ih (s + 1) _ _ (by omega) (((hF.put (by decide)).put (by decide)).tr hF3) hth hV3 (dW_g (zVg_u (zVg_6 hg) (by omega))) (fun υ g1 g2 g3 => hq υ g1 g2 (g3.trans (f4.trans ((zup_ne (by decide)).trans (zup_ne (by decide))))))
      · rw [if_neg (fun z => ha z.2.2)] at hq
        refine r_il2 zi_11_2 rfl ?_
        refine r_push zi_11_3 rfl ?_
        refine n_ic3 (i := s) (j := 18) zi_11_5 rfl (by omega) (by omega) (fun c => absurd c (by omega)) (fun _ => ?_)
        refine r_al0 zi_11_8 rfl ?_
        refine q_getR zi_11_9 rfl cf_87_1 ?_
        refine r_il2 zi_11_12 rfl ?_
        refine q_cIV zi_11_13 rfl rfl rfl rfl rfl rfl rfl cf_2_0.ob (hlv _ _ ?_)
        show zk _ _ 16 _ _ _ _
        refine r_if0 zi_11_16 rfl (fun c => absurd c (by decide)) (fun _ => ?_)
        refine r_al0 zi_11_19 rfl ?_
        refine q_getR zi_11_20 rfl cf_87_1 ?_
        refine q_getR zi_11_23 rfl cf_2_3 ?_
        refine r_il2 zi_11_26 rfl ?_
        refine r_alde zi_11_27 rfl s ca_6 (by first | rfl | (simp only [zI_add, zI_mul] <;> rfl)) (by first | omega | decide) (u := V 3 s) (by first | exact hat | ((repeat (first | rw [zup_ne (by first | decide | omega)] | rw [zup_nj (by first | decide | omega)] | rw [fil_ne (by first | decide | omega)])) <;> exact hat) | (simp [up_rd, fil_rd]; exact hat)) ?_
        refine r_il1 zi_11_28 rfl ?_
        refine r_ic1 zi_11_29 rfl (fun _ => ?_) (fun c => absurd c ha)
        refine r_in2 zi_11_62 rfl ?_
        rw [show (nI s + 1 : Int32) = nI (s + 1) from nI_add _ _]
        refine r_goto zi_11_65 rfl ?_
        exact ih (s + 1) _ _ (by omega) hF hth hV hg hq
    · rw [if_neg (fun z => hc ⟨z.1, z.2.1⟩)] at hq
      have hlv : ∀ (d : Nat) (Q2 : Int32 → zS → Prop), Q2 0 τ → zI1 (d + 1) 19 [.ref 2, .int (nI s)] τ Q2 := fun d Q2 hq => s_dlives zDu_2 hsub gn18 (fun q hq1 e al => absurd ⟨by rw [← hinj q hq1 e]; exact hq1, hal.symm.trans (by rw [← hinj q hq1 e]; exact al)⟩ hc) (fun z => hq) (fun q hq1 e al => hq)
      refine r_il2 zi_11_2 rfl ?_
      refine r_push zi_11_3 rfl ?_
      refine n_ic3 (i := s) (j := 18) zi_11_5 rfl (by omega) (by omega) (fun c => absurd c (by omega)) (fun _ => ?_)
      refine r_al0 zi_11_8 rfl ?_
      refine q_getR zi_11_9 rfl cf_87_1 ?_
      refine r_il2 zi_11_12 rfl ?_
      refine q_cIV zi_11_13 rfl rfl rfl rfl rfl rfl rfl cf_2_0.ob (hlv _ _ ?_)
      show zk _ _ 16 _ _ _ _
      refine r_if0 zi_11_16 rfl (fun _ => ?_) (fun c => absurd (by decide) c)
      refine r_in2 zi_11_62 rfl ?_
      rw [show (nI s + 1 : Int32) = nI (s + 1) from nI_add _ _]
      refine r_goto zi_11_65 rfl ?_
      exact ih (s + 1) _ _ (by omega) hF hth hV hg hq
theorem l_seaR {d n : Nat} {σ : zS} {Q : zS → Prop} (hth : σ 87 3 = 0) : ∀ (m p : Nat) (τ : zS) (V : zS), p + m = 12 → Fx 87 [2, 3, 4, 5, 6, 7, 8, 9, 10, 11, 12, 13, 14, 89, 90] [4] σ τ → zVk τ 2 false V → zVg V n → (∀ υ, Fx 87 [2, 3, 4, 5, 6, 7, 8, 9, 10, 11, 12, 13, 14, 89, 90] [4] σ υ → zVk υ 2 false (dSe false n m p V) → υ 87 4 = τ 87 4 → Q υ) → zk (d + 3) 10 2 [.ref 87, .int (nI p)] [] τ (fun r t => r = none ∧ Q t) := by
  intro m
  induction m with
  | zero =>
    intro p τ V hp hF hV hg hq
    have e : p = 12 := by omega
    subst e
    refine r_il1 zi_10_2 rfl ?_
    refine r_push zi_10_3 rfl ?_
    refine r_ic3 zi_10_5 rfl (fun _ => ?_) (fun c => absurd (by decide) c)
    refine r_ret zi_10_70 rfl ?_
    exact ⟨rfl, hq τ hF hV rfl⟩
  | succ m ih =>
    intro p τ V hp hF hV hg hq
    have h14 : τ 2 14 = V 11 14 := hV.2.1 14 (by decide) (by decide)
    have h0 : τ (2 + 1 + 0) p = V 0 p := hV.1 0 (by decide) p
    have h2 : τ (2 + 1 + 2) p = V 2 p := hV.1 2 (by decide) p
    have hq : ∀ υ, Fx 87 [2, 3, 4, 5, 6, 7, 8, 9, 10, 11, 12, 13, 14, 89, 90] [4] σ υ → zVk υ 2 false (dSe false n m (p + 1) (if V 0 p < V 11 14 ∧ V 2 p / 10 < V 11 14 then up (dDw false n p 18 0 V) 1 p 0 else V)) → υ 87 4 = τ 87 4 → Q υ := hq
    by_cases c1 : V 0 p < V 11 14
    · by_cases c2 : V 2 p / 10 < V 11 14
      · rw [if_pos ⟨c1, c2⟩] at hq
        have hdw : ∀ (Q2 : zS → Prop), (∀ υ, Fx 87 [2, 3, 4, 5, 6, 7, 8, 9, 10, 11, 12, 13, 14, 89, 90] [4] σ υ → zVk υ 2 false (dDw false n p 18 0 V) → υ 87 4 = τ 87 4 → Q2 υ) → zV1 (d + 2) 11 [.ref 87, .int (nI p)] τ Q2 := fun Q2 hq2 => by
          show zk _ _ 0 [.ref 87, .int (nI p), zun] [] _ _
          refine r_push zi_11_0 rfl ?_
          refine r_is2 zi_11_1 rfl ?_
          exact l_drownR (σ := σ) (by omega) 18 0 τ V (by omega) hF hth hV hg hq2
        refine r_il1 zi_10_2 rfl ?_
        refine r_push zi_10_3 rfl ?_
        refine n_ic3 (i := p) (j := 12) zi_10_5 rfl (by omega) (by omega) (fun c => absurd c (by omega)) (fun _ => ?_)
        refine r_al0 zi_10_8 rfl ?_
        refine q_getR zi_10_9 rfl cf_87_1 ?_
        refine q_getIe zi_10_12 rfl cf_2_14 (v := V 11 14) (by first | exact h14 | ((repeat (first | rw [zup_ne (by first | decide | omega)] | rw [zup_nj (by first | decide | omega)] | rw [fil_ne (by first | decide | omega)])) <;> exact h14) | (simp [up_rd, fil_rd]; exact h14)) ?_
        refine r_al0 zi_10_15 rfl ?_
        refine q_getR zi_10_16 rfl cf_87_1 ?_
        refine q_getR zi_10_19 rfl cf_2_0 ?_
        refine r_il1 zi_10_22 rfl ?_
        refine r_alde zi_10_23 rfl p ca_3 (by first | rfl | (simp only [zI_add, zI_mul] <;> rfl)) (by first | omega | decide) (u := V 0 p) (by first | exact h0 | ((repeat (first | rw [zup_ne (by first | decide | omega)] | rw [zup_nj (by first | decide | omega)] | rw [fil_ne (by first | decide | omega)])) <;> exact h0) | (simp [up_rd, fil_rd]; exact h0)) ?_
        refine r_ic5 zi_10_24 rfl (fun c => absurd c (by grind)) (fun _ => ?_)
        refine r_al0 zi_10_27 rfl ?_
        refine q_getR zi_10_28 rfl cf_87_1 ?_
        refine q_getIe zi_10_31 rfl cf_2_14 (v := V 11 14) (by first | exact h14 | ((repeat (first | rw [zup_ne (by first | decide | omega)] | rw [zup_nj (by first | decide | omega)] | rw [fil_ne (by first | decide | omega)])) <;> exact h14) | (simp [up_rd, fil_rd]; exact h14)) ?_
        refine r_al0 zi_10_34 rfl ?_
        refine q_getR zi_10_35 rfl cf_87_1 ?_
        refine q_getR zi_10_38 rfl cf_2_2 ?_
        refine r_il1 zi_10_41 rfl ?_
        refine r_alde zi_10_42 rfl p ca_5 (by first | rfl | (simp only [zI_add, zI_mul] <;> rfl)) (by first | omega | decide) (u := V 2 p) (by first | exact h2 | ((repeat (first | rw [zup_ne (by first | decide | omega)] | rw [zup_nj (by first | decide | omega)] | rw [fil_ne (by first | decide | omega)])) <;> exact h2) | (simp [up_rd, fil_rd]; exact h2)) ?_
        refine r_push zi_10_43 rfl ?_
        refine r_div zi_10_45 rfl (by decide) ?_
        refine r_ic5 zi_10_46 rfl (fun c => absurd c (by grind)) (fun _ => ?_)
        refine r_al0 zi_10_49 rfl ?_
        refine r_il1 zi_10_50 rfl ?_
        refine q_cVV zi_10_51 rfl rfl rfl rfl rfl rfl rfl cf_87_0.ob (hdw _ (fun υ hF2 hV2 f4 => ?_))
        show zk _ _ 54 _ _ _ _
        refine r_al0 zi_10_54 rfl ?_
        refine q_getR zi_10_55 rfl cf_87_1 ?_
        refine q_getR zi_10_58 rfl cf_2_1 ?_
        refine r_il1 zi_10_61 rfl ?_
        refine r_push zi_10_62 rfl ?_
        refine r_ast zi_10_63 rfl p ca_4 (by first | rfl | (simp only [zI_add, zI_mul] <;> rfl)) (by first | omega | decide) ?_
        refine r_in1 zi_10_64 rfl ?_
        rw [show (nI p + 1 : Int32) = nI (p + 1) from nI_add _ _]
        refine r_goto zi_10_67 rfl ?_
        exact ih (p + 1) _ _ (by omega) (hF2.put (by decide)) (zVk_a (j := 1) (Or.inl rfl) hV2 (by decide)) (zVg_u (dDw_g 18 0 V hg) (by omega)) (fun υ2 g1 g2 g3 => hq υ2 g1 g2 (g3.trans ((zup_ne (by decide)).trans f4)))
      · rw [if_neg (fun z => c2 z.2)] at hq
        refine r_il1 zi_10_2 rfl ?_
        refine r_push zi_10_3 rfl ?_
        refine n_ic3 (i := p) (j := 12) zi_10_5 rfl (by omega) (by omega) (fun c => absurd c (by omega)) (fun _ => ?_)
        refine r_al0 zi_10_8 rfl ?_
        refine q_getR zi_10_9 rfl cf_87_1 ?_
        refine q_getIe zi_10_12 rfl cf_2_14 (v := V 11 14) (by first | exact h14 | ((repeat (first | rw [zup_ne (by first | decide | omega)] | rw [zup_nj (by first | decide | omega)] | rw [fil_ne (by first | decide | omega)])) <;> exact h14) | (simp [up_rd, fil_rd]; exact h14)) ?_
        refine r_al0 zi_10_15 rfl ?_
        refine q_getR zi_10_16 rfl cf_87_1 ?_
        refine q_getR zi_10_19 rfl cf_2_0 ?_
        refine r_il1 zi_10_22 rfl ?_
        refine r_alde zi_10_23 rfl p ca_3 (by first | rfl | (simp only [zI_add, zI_mul] <;> rfl)) (by first | omega | decide) (u := V 0 p) (by first | exact h0 | ((repeat (first | rw [zup_ne (by first | decide | omega)] | rw [zup_nj (by first | decide | omega)] | rw [fil_ne (by first | decide | omega)])) <;> exact h0) | (simp [up_rd, fil_rd]; exact h0)) ?_
        refine r_ic5 zi_10_24 rfl (fun c => absurd c (by grind)) (fun _ => ?_)
        refine r_al0 zi_10_27 rfl ?_
        refine q_getR zi_10_28 rfl cf_87_1 ?_
        refine q_getIe zi_10_31 rfl cf_2_14 (v := V 11 14) (by first | exact h14 | ((repeat (first | rw [zup_ne (by first | decide | omega)] | rw [zup_nj (by first | decide | omega)] | rw [fil_ne (by first | decide | omega)])) <;> exact h14) | (simp [up_rd, fil_rd]; exact h14)) ?_
        refine r_al0 zi_10_34 rfl ?_
        refine q_getR zi_10_35 rfl cf_87_1 ?_
        refine q_getR zi_10_38 rfl cf_2_2 ?_
        refine r_il1 zi_10_41 rfl ?_
        refine r_alde zi_10_42 rfl p ca_5 (by first | rfl | (simp only [zI_add, zI_mul] <;> rfl)) (by first | omega | decide) (u := V 2 p) (by first | exact h2 | ((repeat (first | rw [zup_ne (by first | decide | omega)] | rw [zup_nj (by first | decide | omega)] | rw [fil_ne (by first | decide | omega)])) <;> exact h2) | (simp [up_rd, fil_rd]; exact h2)) ?_
        refine r_push zi_10_43 rfl ?_
        refine r_div zi_10_45 rfl (by decide) ?_
        refine r_ic5 zi_10_46 rfl (fun _ => ?_) (fun c => absurd (by grind) c)
        refine r_in1 zi_10_64 rfl ?_
        rw [show (nI p + 1 : Int32) = nI (p + 1) from nI_add _ _]
        refine r_goto zi_10_67 rfl ?_
        exact ih (p + 1) _ _ (by omega) hF hV hg hq
    · rw [if_neg (fun z => c1 z.1)] at hq
      refine r_il1 zi_10_2 rfl ?_
      refine r_push zi_10_3 rfl ?_
      refine n_ic3 (i := p) (j := 12) zi_10_5 rfl (by omega) (by omega) (fun c => absurd c (by omega)) (fun _ => ?_)
      refine r_al0 zi_10_8 rfl ?_
      refine q_getR zi_10_9 rfl cf_87_1 ?_
      refine q_getIe zi_10_12 rfl cf_2_14 (v := V 11 14) (by first | exact h14 | ((repeat (first | rw [zup_ne (by first | decide | omega)] | rw [zup_nj (by first | decide | omega)] | rw [fil_ne (by first | decide | omega)])) <;> exact h14) | (simp [up_rd, fil_rd]; exact h14)) ?_
      refine r_al0 zi_10_15 rfl ?_
      refine q_getR zi_10_16 rfl cf_87_1 ?_
      refine q_getR zi_10_19 rfl cf_2_0 ?_
      refine r_il1 zi_10_22 rfl ?_
      refine r_alde zi_10_23 rfl p ca_3 (by first | rfl | (simp only [zI_add, zI_mul] <;> rfl)) (by first | omega | decide) (u := V 0 p) (by first | exact h0 | ((repeat (first | rw [zup_ne (by first | decide | omega)] | rw [zup_nj (by first | decide | omega)] | rw [fil_ne (by first | decide | omega)])) <;> exact h0) | (simp [up_rd, fil_rd]; exact h0)) ?_
      refine r_ic5 zi_10_24 rfl (fun _ => ?_) (fun c => absurd (by grind) c)
      refine r_in1 zi_10_64 rfl ?_
      rw [show (nI p + 1 : Int32) = nI (p + 1) from nI_add _ _]
      refine r_goto zi_10_67 rfl ?_
      exact ih (p + 1) _ _ (by omega) hF hV hg hq

