/-! MODEL: the tide, the fires, the sea -/
def zTm (σ : zS) (nT : Nat) (td tp tv : Nat → Nat) : Prop := σ 195 35 = nI nT ∧ nT ≤ 16 ∧ ∀ l, l < nT → σ 213 (3 * l) = nI (td l) ∧ σ 213 (3 * l + 1) = nI (tp l) ∧ σ 213 (3 * l + 2) = nI (tv l) ∧ tp l ≤ 12
def zEm (σ : zS) (n nE : Nat) (ed : Nat → Nat) (eo : Nat → Int32) : Prop := σ 195 33 = nI nE ∧ nE ≤ 16 ∧ ∀ l, l < nE → σ 212 (2 * l) = nI (ed l) ∧ zOm n (eo l) (σ 212 (2 * l + 1))
theorem dDw_end {n p : Nat} {th : Bool} {V : zS} : ∀ (m s : Nat), n ≤ s → dDw th n p m s V = V
  | 0, _, _ => rfl
  | m + 1, s, hs => by
    unfold dDw
    rw [if_neg (fun z => absurd z.1 (by omega))]
    exact dDw_end m (s + 1) (by omega)
theorem l_mdrown {d n p N : Nat} {σ V0 : zS} {Q : zS → Prop} {th : Bool} {Wd Fr' Wh To O A : Nat → Nat} {B : Nat → Int32} (hM : zMd σ n th N Wd Fr' Wh To O A B) (hp : p < 12) : ∀ (m s : Nat) (τ V : zS), s + m = n → zFm th σ τ → zVm τ V n th → zVg V n → (∀ q, s ≤ q → V 6 q = V0 6 q ∧ V 3 q = V0 3 q) → (∀ υ, zFm th σ υ → zVm υ (up (dDw th n p (m + (18 - n)) s V) 1 p 0) n th → Q υ) → zk (d + 3) 241 8 [.ref 195, .int (nI p), .int (zset (fun s => decide (V0 6 s = 1) && decide (V0 3 s = nI p)) n), .int (nI s)] [] τ (fun r t => r = none ∧ Q t) := by
  have hn18 := hM.2.1
  intro m
  induction m with
  | zero =>
    intro s τ V hs hF hV hg hx hq
    have e : s = n := by omega
    subst e
    have hn : τ 195 6 = nI s := (hF.1 195 (by decide) 6).trans hM.1
    rw [dDw_end _ s (by omega)] at hq
    refine r_il3 zi_241_8 rfl ?_
    refine r_al0 zi_241_9 rfl ?_
    refine q_getIe zi_241_10 rfl cf_195_6 (v := nI s) (by first | exact hn | ((repeat (first | rw [zup_ne (by first | decide | omega)] | rw [zup_nj (by first | decide | omega)] | rw [fil_ne (by first | decide | omega)])) <;> exact hn) | (simp [up_rd, fil_rd]; exact hn)) ?_
    refine n_ic3 (i := s) (j := s) zi_241_13 rfl (by omega) (by omega) (fun _ => ?_) (fun c => absurd c (by omega))
    refine r_al0 zi_241_65 rfl ?_
    refine q_getR zi_241_66 rfl cf_195_1 ?_
    refine r_push zi_241_69 rfl ?_
    refine r_il1 zi_241_71 rfl ?_
    refine r_b0 zi_241_72 rfl ?_
    rw [show (6 + nI p : Int32) = nI (6 + p) from nI_add _ _]
    refine r_push zi_241_73 rfl ?_
    refine r_ast zi_241_74 rfl (6 + p) ca_196 (by first | rfl | (simp only [zI_add, zI_mul] <;> rfl)) (by first | omega | decide) ?_
    refine r_ret zi_241_75 rfl ?_
    exact ⟨rfl, hq _ hF.put (zVm_u hn18 hV (zCm_k (zCn1 hp) (by decide) (by decide)))⟩
  | succ m ih =>
    intro s τ V hs hF hV hg hx hq
    have hn : τ 195 6 = nI n := (hF.1 195 (by decide) 6).trans hM.1
    have hMt := zMd_fr hF.1 hM
    obtain ⟨x6, x3⟩ := hx s (by omega)
    have hbt := zset_bt (f := fun s => decide (V0 6 s = 1) && decide (V0 3 s = nI p)) (n := n) (k := s) (by omega) (by omega)
    rw [show m + 1 + (18 - n) = (m + (18 - n)) + 1 by omega] at hq
    have hq : ∀ υ, zFm th σ υ → zVm υ (up (dDw th n p (m + (18 - n)) (s + 1) (if s < n ∧ V 6 s = 1 ∧ V 3 s = nI p then dW th 3 (nI s) (nI p) (up (up V 6 s 0) 11 15 (V 11 15 + 1)) else V)) 1 p 0) n th → Q υ := hq
    by_cases hc : V 6 s = 1 ∧ V 3 s = nI p
    · rw [if_pos ⟨by omega, hc.1, hc.2⟩] at hq
      have hh : ∀ (Q2 : Int32 → zS → Prop), Q2 (nI 1) τ → zI1 (d + 2) 170 [.ref 195, .int (zset (fun s => decide (V0 6 s = 1) && decide (V0 3 s = nI p)) n), .int (nI s)] τ Q2 := fun Q2 h2 => s_has (fun _ => h2) (fun z => by
        have e1 : zbt (zset (fun s => decide (V0 6 s = 1) && decide (V0 3 s = nI p)) n) s = true := by
          rw [hbt, ← x6, ← x3, decide_eq_true (show s < n by omega), decide_eq_true hc.1, decide_eq_true hc.2]; rfl
        exact absurd (of_decide_eq_true e1) z)
      have gn : zVg (up (up V 6 s 0) 11 15 (V 11 15 + 1)) n := zVg_u (zVg_6 hg) (by omega)
      obtain ⟨wr, gw, gw2⟩ := id gn.2.2.2.2.2.2.2
      have k15 : τ 196 4 = V 11 15 := hV.1.2.2.2.2.1
      have hnt : ∀ (υ : zS) (Q2 : zS → Prop), zFm th σ υ → zVm υ (up (up V 6 s 0) 11 15 (V 11 15 + 1)) n th → (∀ ρ, zFm th σ ρ → zVm ρ (dW th 3 (nI s) (nI p) (up (up V 6 s 0) 11 15 (V 11 15 + 1))) n th → Q2 ρ) → zV1 (d + 2) 233 [.ref 195, .int 3, .int (nI s), .int (nI p)] υ Q2 := fun υ Q2 hF2 hV2 h2 => s_mnotes (zMd_fr hF2.1 hM) hV2 gw2 gw (fun ρ x y => h2 ρ (hF2.tr x) y)
      refine r_il3 zi_241_8 rfl ?_
      refine r_al0 zi_241_9 rfl ?_
      refine q_getIe zi_241_10 rfl cf_195_6 (v := nI n) (by first | exact hn | ((repeat (first | rw [zup_ne (by first | decide | omega)] | rw [zup_nj (by first | decide | omega)] | rw [fil_ne (by first | decide | omega)])) <;> exact hn) | (simp [up_rd, fil_rd]; exact hn)) ?_
      refine n_ic3 (i := s) (j := n) zi_241_13 rfl (by omega) (by omega) (fun c => absurd c (by omega)) (fun _ => ?_)
      refine r_al0 zi_241_16 rfl ?_
      refine r_il2 zi_241_17 rfl ?_
      refine r_il3 zi_241_18 rfl ?_
      refine q_cIV zi_241_19 rfl rfl rfl rfl rfl rfl rfl cf_195_0.ob (hh _ ?_)
      show zk _ _ 22 _ _ _ _
      refine r_if1 zi_241_22 rfl (fun _ => ?_) (fun c => absurd c (by decide))
      refine r_al0 zi_241_28 rfl ?_
      refine q_getR zi_241_29 rfl cf_195_1 ?_
      refine r_push zi_241_32 rfl ?_
      refine r_il3 zi_241_34 rfl ?_
      refine r_b0 zi_241_35 rfl ?_
      rw [show (66 + nI s : Int32) = nI (66 + s) from nI_add _ _]
      refine r_push zi_241_36 rfl ?_
      refine r_ast zi_241_37 rfl (66 + s) ca_196 (by first | rfl | (simp only [zI_add, zI_mul] <;> rfl)) (by first | omega | decide) ?_
      refine r_al0 zi_241_38 rfl ?_
      refine q_getR zi_241_39 rfl cf_195_1 ?_
      refine r_push zi_241_42 rfl ?_
      refine r_al0 zi_241_43 rfl ?_
      refine q_getR zi_241_44 rfl cf_195_1 ?_
      refine r_push zi_241_47 rfl ?_
      refine r_alde zi_241_48 rfl 4 ca_196 rfl (by decide) (u := V 11 15) (by first | exact ((zup_nj (by omega)).trans k15) | ((repeat (first | rw [zup_ne (by first | decide | omega)] | rw [zup_nj (by first | decide | omega)] | rw [fil_ne (by first | decide | omega)])) <;> exact ((zup_nj (by omega)).trans k15)) | (simp [up_rd, fil_rd]; exact ((zup_nj (by omega)).trans k15))) ?_
      refine r_push zi_241_49 rfl ?_
      refine r_b0 zi_241_50 rfl ?_
      refine r_ast zi_241_51 rfl 4 ca_196 rfl (by decide) ?_
      refine r_al0 zi_241_52 rfl ?_
      refine r_push zi_241_53 rfl ?_
      refine r_il3 zi_241_54 rfl ?_
      refine r_il1 zi_241_55 rfl ?_
      refine q_cVV zi_241_56 rfl rfl rfl rfl rfl rfl rfl cf_195_0.ob (hnt _ _ hF.put.put (zVm_u hn18 (zVm_u hn18 hV (m := 66 + s) (u := 1) (v := 0) (r := 6) (i := s) ⟨zCn6 (by omega), fun z => absurd rfl z, fun _ => ⟨rfl, rfl⟩, fun z => absurd z (by decide)⟩) (zCm_k (zCnf (by decide)) (by decide) (by decide))) (fun ρ x1 x2 => ?_))
      show zk _ _ 59 _ _ _ _
      refine r_in3 zi_241_59 rfl ?_
      rw [show (nI s + 1 : Int32) = nI (s + 1) from nI_add _ _]
      refine r_goto zi_241_62 rfl ?_
      refine ih (s + 1) ρ _ (by omega) x1 x2 (dW_g gn) (fun q hq => ?_) hq
      rw [dW_row (by decide) (by decide), dW_row (by decide) (by decide)]
      have h9 := hx q (by omega)
      exact ⟨(zup_ne (by decide)).trans ((zup_nj (by omega)).trans h9.1), (zup_ne (by decide)).trans ((zup_ne (by decide)).trans h9.2)⟩
    · rw [if_neg (fun z => hc ⟨z.2.1, z.2.2⟩)] at hq
      have hh : ∀ (Q2 : Int32 → zS → Prop), Q2 (nI 0) τ → zI1 (d + 2) 170 [.ref 195, .int (zset (fun s => decide (V0 6 s = 1) && decide (V0 3 s = nI p)) n), .int (nI s)] τ Q2 := fun Q2 h2 => s_has (fun z => by
        have e1 : zbt (zset (fun s => decide (V0 6 s = 1) && decide (V0 3 s = nI p)) n) s = true := decide_eq_true z
        rw [hbt, ← x6, ← x3] at e1
        simp at e1
        exact absurd e1.2 hc) (fun _ => h2)
      refine r_il3 zi_241_8 rfl ?_
      refine r_al0 zi_241_9 rfl ?_
      refine q_getIe zi_241_10 rfl cf_195_6 (v := nI n) (by first | exact hn | ((repeat (first | rw [zup_ne (by first | decide | omega)] | rw [zup_nj (by first | decide | omega)] | rw [fil_ne (by first | decide | omega)])) <;> exact hn) | (simp [up_rd, fil_rd]; exact hn)) ?_
      refine n_ic3 (i := s) (j := n) zi_241_13 rfl (by omega) (by omega) (fun c => absurd c (by omega)) (fun _ => ?_)
      refine r_al0 zi_241_16 rfl ?_
      refine r_il2 zi_241_17 rfl ?_
      refine r_il3 zi_241_18 rfl ?_
      refine q_cIV zi_241_19 rfl rfl rfl rfl rfl rfl rfl cf_195_0.ob (hh _ ?_)
      show zk _ _ 22 _ _ _ _
      refine r_if1 zi_241_22 rfl (fun c => absurd (by decide) c) (fun _ => ?_)
      refine r_goto zi_241_25 rfl ?_
      refine r_in3 zi_241_59 rfl ?_
      rw [show (nI s + 1 : Int32) = nI (s + 1) from nI_add _ _]
      refine r_goto zi_241_62 rfl ?_
      exact ih (s + 1) τ V (by omega) hF hV hg (fun q hq => hx q (by omega)) hq
theorem s_mdrown {d n p N : Nat} {σ V : zS} {Q : zS → Prop} {th : Bool} {Wd Fr' Wh To O A : Nat → Nat} {B : Nat → Int32} (hM : zMd σ n th N Wd Fr' Wh To O A B) (hp : p < 12) (hV : zVm σ V n th) (hg : zVg V n) (hq : ∀ υ, zFm th σ υ → zVm υ (up (dDw th n p 18 0 V) 1 p 0) n th → Q υ) : zV1 (d + 3) 241 [.ref 195, .int (nI p)] σ Q := by
  have hn18 := hM.2.1
  have e18 : n + (18 - n) = 18 := by omega
  have hth : ∀ (Q2 : Int32 → zS → Prop), Q2 (zset (fun s => decide (V 6 s = 1) && decide (V 3 s = nI p)) n) σ → zI1 (d + 2) 180 [.ref 195, .int (nI p)] σ Q2 := fun Q2 h2 => s_mthose (d := d + 1) hM.1 hn18 (by rw [zma_v hV]; exact h2)
  show zk _ _ 0 [.ref 195, .int (nI p), zun, zun] [] _ _
  refine r_al0 zi_241_0 rfl ?_
  refine r_il1 zi_241_1 rfl ?_
  refine q_cIV zi_241_2 rfl rfl rfl rfl rfl rfl rfl cf_195_0.ob (hth _ ?_)
  show zk _ _ 5 _ _ _ _
  refine r_is2 zi_241_5 rfl ?_
  refine r_push zi_241_6 rfl ?_
  refine r_is3 zi_241_7 rfl ?_
  exact l_mdrown (V0 := V) hM hp n 0 σ V (by omega) zFm.rf hV hg (fun q _ => ⟨rfl, rfl⟩) (by rw [e18]; exact hq)
theorem l_mtide {d n N nT : Nat} {td tp tv : Nat → Nat} {σ : zS} {Q : Option Int32 → zS → Prop} {th : Bool} {Wd Fr' Wh To O A : Nat → Nat} {B : Nat → Int32} (hM : zMd σ n th N Wd Fr' Wh To O A B) (hT : zTm σ nT td tp tv) : ∀ (m l : Nat) (τ V : zS) (u2 : Value), l + m = nT → zFm th σ τ → zVm τ V n th → (∀ υ, zFm th σ υ → zVm υ (dTi td tp tv m l V) n th → zk (d + 9) 243 75 [.ref 195, .int (nI (3 * nT)), u2] [] υ Q) → zk (d + 9) 243 2 [.ref 195, .int (nI (3 * l)), u2] [] τ Q := by
  have hn18 := hM.2.1
  obtain ⟨t1, t2, t3⟩ := hT
  intro m
  induction m with
  | zero =>
    intro l τ V u2 hl hF hV hq
    have e : l = nT := by omega
    subst e
    have hn : τ 195 35 = nI l := (hF.1 195 (by decide) 35).trans t1
    refine r_il1 zi_243_2 rfl ?_
    refine r_push zi_243_3 rfl ?_
    refine r_al0 zi_243_4 rfl ?_
    refine q_getIe zi_243_5 rfl cf_195_35 (v := nI l) (by first | exact hn | ((repeat (first | rw [zup_ne (by first | decide | omega)] | rw [zup_nj (by first | decide | omega)] | rw [fil_ne (by first | decide | omega)])) <;> exact hn) | (simp [up_rd, fil_rd]; exact hn)) ?_
    refine r_b2 zi_243_8 rfl ?_
    rw [show (3 * nI l : Int32) = nI (3 * l) from pk_mul _ _]
    refine n_ic3 (i := (3*l)) (j := (3 * l)) zi_243_9 rfl (by omega) (by omega) (fun _ => ?_) (fun c => absurd c (by omega))
    exact hq τ hF hV
  | succ m ih =>
    intro l τ V u2 hl hF hV hq
    have hn : τ 195 35 = nI nT := (hF.1 195 (by decide) 35).trans t1
    obtain ⟨c0, c1, c2, c3⟩ := t3 l (by omega)
    have e213 : ∀ i, τ 213 i = σ 213 i := fun i => hF.1 213 (by decide) i
    have hd : τ 196 0 = V 11 17 := hV.1.1
    have e33 : 3 * l + 3 = 3 * (l + 1) := by omega
    have hq : ∀ υ, zFm th σ υ → zVm υ (dTi td tp tv m (l + 1) (if nI (td l) = V 11 17 then (if tp l < 12 then up V 1 (tp l) (nI (tv l)) else up V 11 14 (nI (tv l))) else V)) n th → zk (d + 9) 243 75 [.ref 195, .int (nI (3 * nT)), u2] [] υ Q := hq
    by_cases e1 : nI (td l) = V 11 17
    · rw [if_pos e1] at hq
      by_cases e2 : tp l < 12
      · rw [if_pos e2] at hq
        refine r_il1 zi_243_2 rfl ?_
        refine r_push zi_243_3 rfl ?_
        refine r_al0 zi_243_4 rfl ?_
        refine q_getIe zi_243_5 rfl cf_195_35 (v := nI nT) (by first | exact hn | ((repeat (first | rw [zup_ne (by first | decide | omega)] | rw [zup_nj (by first | decide | omega)] | rw [fil_ne (by first | decide | omega)])) <;> exact hn) | (simp [up_rd, fil_rd]; exact hn)) ?_
        refine r_b2 zi_243_8 rfl ?_
        rw [show (3 * nI nT : Int32) = nI (3 * nT) from pk_mul _ _]
        refine n_ic3 (i := (3*l)) (j := (3 * nT)) zi_243_9 rfl (by omega) (by omega) (fun c => absurd c (by omega)) (fun _ => ?_)
        refine r_al0 zi_243_12 rfl ?_
        refine q_getR zi_243_13 rfl cf_195_36 ?_
        refine r_il1 zi_243_16 rfl ?_
        refine r_alde zi_243_17 rfl (3*l) ca_213 (by first | rfl | (simp only [zI_add, zI_mul] <;> rfl)) (by first | omega | decide) (u := nI (td l)) (by first | exact ((e213 _).trans c0) | ((repeat (first | rw [zup_ne (by first | decide | omega)] | rw [zup_nj (by first | decide | omega)] | rw [fil_ne (by first | decide | omega)])) <;> exact ((e213 _).trans c0)) | (simp [up_rd, fil_rd]; exact ((e213 _).trans c0))) ?_
        refine r_al0 zi_243_18 rfl ?_
        refine q_getR zi_243_19 rfl cf_195_1 ?_
        refine r_push zi_243_22 rfl ?_
        refine r_alde zi_243_23 rfl 0 ca_196 rfl (by decide) (u := V 11 17) (by first | exact hd | ((repeat (first | rw [zup_ne (by first | decide | omega)] | rw [zup_nj (by first | decide | omega)] | rw [fil_ne (by first | decide | omega)])) <;> exact hd) | (simp [up_rd, fil_rd]; exact hd)) ?_
        refine r_ic1 zi_243_24 rfl (fun c => absurd e1 c) (fun _ => ?_)
        refine r_al0 zi_243_27 rfl ?_
        refine q_getR zi_243_28 rfl cf_195_1 ?_
        refine r_al0 zi_243_31 rfl ?_
        refine q_getR zi_243_32 rfl cf_195_36 ?_
        refine r_il1 zi_243_35 rfl ?_
        refine r_push zi_243_36 rfl ?_
        refine r_b0 zi_243_37 rfl ?_
        rw [show (nI (3*l) + 1 : Int32) = nI ((3*l) + 1) from nI_add _ _]
        refine r_alde zi_243_38 rfl ((3*l) + 1) ca_213 (by first | rfl | (simp only [zI_add, zI_mul] <;> rfl)) (by first | omega | decide) (u := nI (tp l)) (by first | exact ((e213 _).trans c1) | ((repeat (first | rw [zup_ne (by first | decide | omega)] | rw [zup_nj (by first | decide | omega)] | rw [fil_ne (by first | decide | omega)])) <;> exact ((e213 _).trans c1)) | (simp [up_rd, fil_rd]; exact ((e213 _).trans c1))) ?_
        refine r_push zi_243_39 rfl ?_
        refine n_ic1 (i := (tp l)) (j := 12) zi_243_41 rfl (by omega) (by omega) (fun _ => ?_) (fun c => absurd c (by omega))
        refine r_push zi_243_48 rfl ?_
        refine r_al0 zi_243_50 rfl ?_
        refine q_getR zi_243_51 rfl cf_195_36 ?_
        refine r_il1 zi_243_54 rfl ?_
        refine r_push zi_243_55 rfl ?_
        refine r_b0 zi_243_56 rfl ?_
        rw [show (nI (3*l) + 1 : Int32) = nI ((3*l) + 1) from nI_add _ _]
        refine r_alde zi_243_57 rfl ((3*l) + 1) ca_213 (by first | rfl | (simp only [zI_add, zI_mul] <;> rfl)) (by first | omega | decide) (u := nI (tp l)) (by first | exact ((e213 _).trans c1) | ((repeat (first | rw [zup_ne (by first | decide | omega)] | rw [zup_nj (by first | decide | omega)] | rw [fil_ne (by first | decide | omega)])) <;> exact ((e213 _).trans c1)) | (simp [up_rd, fil_rd]; exact ((e213 _).trans c1))) ?_
        refine r_b0 zi_243_58 rfl ?_
        rw [show (6 + nI (tp l) : Int32) = nI (6 + (tp l)) from nI_add _ _]
        refine r_al0 zi_243_59 rfl ?_
        refine q_getR zi_243_60 rfl cf_195_36 ?_
        refine r_il1 zi_243_63 rfl ?_
        refine r_push zi_243_64 rfl ?_
        refine r_b0 zi_243_65 rfl ?_
        rw [show (nI (3*l) + 2 : Int32) = nI ((3*l) + 2) from nI_add _ _]
        refine r_alde zi_243_66 rfl ((3*l) + 2) ca_213 (by first | rfl | (simp only [zI_add, zI_mul] <;> rfl)) (by first | omega | decide) (u := nI (tv l)) (by first | exact ((e213 _).trans c2) | ((repeat (first | rw [zup_ne (by first | decide | omega)] | rw [zup_nj (by first | decide | omega)] | rw [fil_ne (by first | decide | omega)])) <;> exact ((e213 _).trans c2)) | (simp [up_rd, fil_rd]; exact ((e213 _).trans c2))) ?_
        refine r_ast zi_243_67 rfl (6 + (tp l)) ca_196 (by first | rfl | (simp only [zI_add, zI_mul] <;> rfl)) (by first | omega | decide) ?_
        refine r_il1 zi_243_68 rfl ?_
        refine r_push zi_243_69 rfl ?_
        refine r_b0 zi_243_70 rfl ?_
        rw [show (nI (3*l) + 3 : Int32) = nI ((3*l) + 3) from nI_add _ _]
        refine r_is1 zi_243_71 rfl ?_
        refine r_goto zi_243_72 rfl ?_
        rw [e33]; exact ih (l + 1) _ _ _ (by omega) hF.put (zVm_u hn18 hV (zCm_k (zCn1 e2) (by decide) (by decide))) hq
      · rw [if_neg e2] at hq
        refine r_il1 zi_243_2 rfl ?_
        refine r_push zi_243_3 rfl ?_
        refine r_al0 zi_243_4 rfl ?_
        refine q_getIe zi_243_5 rfl cf_195_35 (v := nI nT) (by first | exact hn | ((repeat (first | rw [zup_ne (by first | decide | omega)] | rw [zup_nj (by first | decide | omega)] | rw [fil_ne (by first | decide | omega)])) <;> exact hn) | (simp [up_rd, fil_rd]; exact hn)) ?_
        refine r_b2 zi_243_8 rfl ?_
        rw [show (3 * nI nT : Int32) = nI (3 * nT) from pk_mul _ _]
        refine n_ic3 (i := (3*l)) (j := (3 * nT)) zi_243_9 rfl (by omega) (by omega) (fun c => absurd c (by omega)) (fun _ => ?_)
        refine r_al0 zi_243_12 rfl ?_
        refine q_getR zi_243_13 rfl cf_195_36 ?_
        refine r_il1 zi_243_16 rfl ?_
        refine r_alde zi_243_17 rfl (3*l) ca_213 (by first | rfl | (simp only [zI_add, zI_mul] <;> rfl)) (by first | omega | decide) (u := nI (td l)) (by first | exact ((e213 _).trans c0) | ((repeat (first | rw [zup_ne (by first | decide | omega)] | rw [zup_nj (by first | decide | omega)] | rw [fil_ne (by first | decide | omega)])) <;> exact ((e213 _).trans c0)) | (simp [up_rd, fil_rd]; exact ((e213 _).trans c0))) ?_
        refine r_al0 zi_243_18 rfl ?_
        refine q_getR zi_243_19 rfl cf_195_1 ?_
        refine r_push zi_243_22 rfl ?_
        refine r_alde zi_243_23 rfl 0 ca_196 rfl (by decide) (u := V 11 17) (by first | exact hd | ((repeat (first | rw [zup_ne (by first | decide | omega)] | rw [zup_nj (by first | decide | omega)] | rw [fil_ne (by first | decide | omega)])) <;> exact hd) | (simp [up_rd, fil_rd]; exact hd)) ?_
        refine r_ic1 zi_243_24 rfl (fun c => absurd e1 c) (fun _ => ?_)
        refine r_al0 zi_243_27 rfl ?_
        refine q_getR zi_243_28 rfl cf_195_1 ?_
        refine r_al0 zi_243_31 rfl ?_
        refine q_getR zi_243_32 rfl cf_195_36 ?_
        refine r_il1 zi_243_35 rfl ?_
        refine r_push zi_243_36 rfl ?_
        refine r_b0 zi_243_37 rfl ?_
        rw [show (nI (3*l) + 1 : Int32) = nI ((3*l) + 1) from nI_add _ _]
        refine r_alde zi_243_38 rfl ((3*l) + 1) ca_213 (by first | rfl | (simp only [zI_add, zI_mul] <;> rfl)) (by first | omega | decide) (u := nI (tp l)) (by first | exact ((e213 _).trans c1) | ((repeat (first | rw [zup_ne (by first | decide | omega)] | rw [zup_nj (by first | decide | omega)] | rw [fil_ne (by first | decide | omega)])) <;> exact ((e213 _).trans c1)) | (simp [up_rd, fil_rd]; exact ((e213 _).trans c1))) ?_
        refine r_push zi_243_39 rfl ?_
        refine n_ic1 (i := (tp l)) (j := 12) zi_243_41 rfl (by omega) (by omega) (fun c => absurd c (by omega)) (fun _ => ?_)
        refine r_push zi_243_44 rfl ?_
        refine r_goto zi_243_45 rfl ?_
        refine r_al0 zi_243_59 rfl ?_
        refine q_getR zi_243_60 rfl cf_195_36 ?_
        refine r_il1 zi_243_63 rfl ?_
        refine r_push zi_243_64 rfl ?_
        refine r_b0 zi_243_65 rfl ?_
        rw [show (nI (3*l) + 2 : Int32) = nI ((3*l) + 2) from nI_add _ _]
        refine r_alde zi_243_66 rfl ((3*l) + 2) ca_213 (by first | rfl | (simp only [zI_add, zI_mul] <;> rfl)) (by first | omega | decide) (u := nI (tv l)) (by first | exact ((e213 _).trans c2) | ((repeat (first | rw [zup_ne (by first | decide | omega)] | rw [zup_nj (by first | decide | omega)] | rw [fil_ne (by first | decide | omega)])) <;> exact ((e213 _).trans c2)) | (simp [up_rd, fil_rd]; exact ((e213 _).trans c2))) ?_
        refine r_ast zi_243_67 rfl 3 ca_196 rfl (by decide) ?_
        refine r_il1 zi_243_68 rfl ?_
        refine r_push zi_243_69 rfl ?_
        refine r_b0 zi_243_70 rfl ?_
        rw [show (nI (3*l) + 3 : Int32) = nI ((3*l) + 3) from nI_add _ _]
        refine r_is1 zi_243_71 rfl ?_
        refine r_goto zi_243_72 rfl ?_
        rw [e33]; exact ih (l + 1) _ _ _ (by omega) hF.put (zVm_u hn18 hV (zCm_k (zCnf (by decide)) (by decide) (by decide))) hq
    · rw [if_neg e1] at hq
      refine r_il1 zi_243_2 rfl ?_
      refine r_push zi_243_3 rfl ?_
      refine r_al0 zi_243_4 rfl ?_
      refine q_getIe zi_243_5 rfl cf_195_35 (v := nI nT) (by first | exact hn | ((repeat (first | rw [zup_ne (by first | decide | omega)] | rw [zup_nj (by first | decide | omega)] | rw [fil_ne (by first | decide | omega)])) <;> exact hn) | (simp [up_rd, fil_rd]; exact hn)) ?_
      refine r_b2 zi_243_8 rfl ?_
      rw [show (3 * nI nT : Int32) = nI (3 * nT) from pk_mul _ _]
      refine n_ic3 (i := (3*l)) (j := (3 * nT)) zi_243_9 rfl (by omega) (by omega) (fun c => absurd c (by omega)) (fun _ => ?_)
      refine r_al0 zi_243_12 rfl ?_
      refine q_getR zi_243_13 rfl cf_195_36 ?_
      refine r_il1 zi_243_16 rfl ?_
      refine r_alde zi_243_17 rfl (3*l) ca_213 (by first | rfl | (simp only [zI_add, zI_mul] <;> rfl)) (by first | omega | decide) (u := nI (td l)) (by first | exact ((e213 _).trans c0) | ((repeat (first | rw [zup_ne (by first | decide | omega)] | rw [zup_nj (by first | decide | omega)] | rw [fil_ne (by first | decide | omega)])) <;> exact ((e213 _).trans c0)) | (simp [up_rd, fil_rd]; exact ((e213 _).trans c0))) ?_
      refine r_al0 zi_243_18 rfl ?_
      refine q_getR zi_243_19 rfl cf_195_1 ?_
      refine r_push zi_243_22 rfl ?_
      refine r_alde zi_243_23 rfl 0 ca_196 rfl (by decide) (u := V 11 17) (by first | exact hd | ((repeat (first | rw [zup_ne (by first | decide | omega)] | rw [zup_nj (by first | decide | omega)] | rw [fil_ne (by first | decide | omega)])) <;> exact hd) | (simp [up_rd, fil_rd]; exact hd)) ?_
      refine r_ic1 zi_243_24 rfl (fun _ => ?_) (fun c => absurd c e1)
      refine r_il1 zi_243_68 rfl ?_
      refine r_push zi_243_69 rfl ?_
      refine r_b0 zi_243_70 rfl ?_
      rw [show (nI (3*l) + 3 : Int32) = nI ((3*l) + 3) from nI_add _ _]
      refine r_is1 zi_243_71 rfl ?_
      refine r_goto zi_243_72 rfl ?_
      rw [e33]; exact ih (l + 1) _ _ _ (by omega) hF hV hq
theorem l_mfires {d n N c : Nat} {σ : zS} {Q : Option Int32 → zS → Prop} {th : Bool} {Wd Fr' Wh To O A : Nat → Nat} {B : Nat → Int32} (hM : zMd σ n th N Wd Fr' Wh To O A B) : ∀ (m p : Nat) (τ V : zS), p + m = 12 → zFm th σ τ → zVm τ V n th → (∀ υ, zFm th σ υ → zVm υ (dFi (zTl N Wd Fr' Wh To O A) n m p V) n th → zk (d + 9) 243 136 [.ref 195, .int (nI c), .int (nI 12)] [] υ Q) → zk (d + 9) 243 82 [.ref 195, .int (nI c), .int (nI p)] [] τ Q := by
  have hn18 := hM.2.1
  intro m
  induction m with
  | zero =>
    intro p τ V hp hF hV hq
    have e : p = 12 := by omega
    subst e
    refine r_il2 zi_243_82 rfl ?_
    refine r_push zi_243_83 rfl ?_
    refine r_ic3 zi_243_85 rfl (fun _ => ?_) (fun c => absurd (by decide) c)
    exact hq τ hF hV
  | succ m ih =>
    intro p τ V hp hF hV hq
    have hMt := zMd_fr hF.1 hM
    have m6 := (hV.2.1 p (by omega)).1
    have hq : ∀ υ, zFm th σ υ → zVm υ (dFi (zTl N Wd Fr' Wh To O A) n m (p + 1) (if 0 < V 1 p then up V 1 p (zmn9 (V 1 p + zTl N Wd Fr' Wh To O A 2 (zFv V n false 0 p 0))) else V)) n th → zk (d + 9) 243 136 [.ref 195, .int (nI c), .int (nI 12)] [] υ Q := hq
    by_cases h0 : 0 < V 1 p
    · rw [if_pos h0] at hq
      have hgr : ∀ (Q2 : Int32 → zS → Prop), (∀ υ, zFm th σ υ → zVm υ V n th → Q2 (zTl N Wd Fr' Wh To O A 2 (zFv V n false 0 p 0)) υ) → zI1 (d + 8) 230 [.ref 195, .int (nI p)] τ Q2 := fun Q2 h2 => s_growsOf (d := d + 4) hMt.1 hn18 (by omega) hMt.2.2.2.1 hMt.2.2.2.2.1 (fun υ x => by rw [zfM_v0 hV (by omega)]; exact h2 υ (hF.tr (zFm.of x (by simp))) (zVm_o hV x (by decide)))
      generalize zTl N Wd Fr' Wh To O A 2 (zFv V n false 0 p 0) = M at *
      refine r_il2 zi_243_82 rfl ?_
      refine r_push zi_243_83 rfl ?_
      refine n_ic3 (i := p) (j := 12) zi_243_85 rfl (by omega) (by omega) (fun c => absurd c (by omega)) (fun _ => ?_)
      refine r_al0 zi_243_88 rfl ?_
      refine q_getR zi_243_89 rfl cf_195_1 ?_
      refine r_push zi_243_92 rfl ?_
      refine r_il2 zi_243_94 rfl ?_
      refine r_b0 zi_243_95 rfl ?_
      rw [show (6 + nI p : Int32) = nI (6 + p) from nI_add _ _]
      refine r_alde zi_243_96 rfl (6 + p) ca_196 (by first | rfl | (simp only [zI_add, zI_mul] <;> rfl)) (by first | omega | decide) (u := V 1 p) (by first | exact m6 | ((repeat (first | rw [zup_ne (by first | decide | omega)] | rw [zup_nj (by first | decide | omega)] | rw [fil_ne (by first | decide | omega)])) <;> exact m6) | (simp [up_rd, fil_rd]; exact m6)) ?_
      refine r_if5 zi_243_97 rfl (fun c => absurd c (by grind)) (fun _ => ?_)
      refine r_al0 zi_243_100 rfl ?_
      refine q_getR zi_243_101 rfl cf_195_1 ?_
      refine r_push zi_243_104 rfl ?_
      refine r_il2 zi_243_106 rfl ?_
      refine r_b0 zi_243_107 rfl ?_
      rw [show (6 + nI p : Int32) = nI (6 + p) from nI_add _ _]
      refine r_al0 zi_243_108 rfl ?_
      refine r_push zi_243_109 rfl ?_
      refine r_al0 zi_243_111 rfl ?_
      refine q_getR zi_243_112 rfl cf_195_1 ?_
      refine r_push zi_243_115 rfl ?_
      refine r_il2 zi_243_117 rfl ?_
      refine r_b0 zi_243_118 rfl ?_
      rw [show (6 + nI p : Int32) = nI (6 + p) from nI_add _ _]
      refine r_alde zi_243_119 rfl (6 + p) ca_196 (by first | rfl | (simp only [zI_add, zI_mul] <;> rfl)) (by first | omega | decide) (u := V 1 p) (by first | exact m6 | ((repeat (first | rw [zup_ne (by first | decide | omega)] | rw [zup_nj (by first | decide | omega)] | rw [fil_ne (by first | decide | omega)])) <;> exact m6) | (simp [up_rd, fil_rd]; exact m6)) ?_
      refine r_al0 zi_243_120 rfl ?_
      refine r_il2 zi_243_121 rfl ?_
      refine q_cIV zi_243_122 rfl rfl rfl rfl rfl rfl rfl cf_195_0.ob (hgr _ (fun υ x1 x2 => ?_))
      show zk _ _ 125 _ _ _ _
      refine r_b0 zi_243_125 rfl ?_
      refine q_cIV zi_243_126 rfl rfl rfl rfl rfl rfl rfl cf_195_0.ob (s_lesser ?_)
      show zk _ _ 129 _ _ _ _
      refine r_ast zi_243_129 rfl (6 + p) ca_196 (by first | rfl | (simp only [zI_add, zI_mul] <;> rfl)) (by first | omega | decide) ?_
      refine r_in2 zi_243_130 rfl ?_
      rw [show (nI p + 1 : Int32) = nI (p + 1) from nI_add _ _]
      refine r_goto zi_243_133 rfl ?_
      exact ih (p + 1) _ _ (by omega) x1.put (zVm_u hn18 x2 (zCm_k (zCn1 (by omega)) (by decide) (by decide))) hq
    · rw [if_neg h0] at hq
      refine r_il2 zi_243_82 rfl ?_
      refine r_push zi_243_83 rfl ?_
      refine n_ic3 (i := p) (j := 12) zi_243_85 rfl (by omega) (by omega) (fun c => absurd c (by omega)) (fun _ => ?_)
      refine r_al0 zi_243_88 rfl ?_
      refine q_getR zi_243_89 rfl cf_195_1 ?_
      refine r_push zi_243_92 rfl ?_
      refine r_il2 zi_243_94 rfl ?_
      refine r_b0 zi_243_95 rfl ?_
      rw [show (6 + nI p : Int32) = nI (6 + p) from nI_add _ _]
      refine r_alde zi_243_96 rfl (6 + p) ca_196 (by first | rfl | (simp only [zI_add, zI_mul] <;> rfl)) (by first | omega | decide) (u := V 1 p) (by first | exact m6 | ((repeat (first | rw [zup_ne (by first | decide | omega)] | rw [zup_nj (by first | decide | omega)] | rw [fil_ne (by first | decide | omega)])) <;> exact m6) | (simp [up_rd, fil_rd]; exact m6)) ?_
      refine r_if5 zi_243_97 rfl (fun _ => ?_) (fun c => absurd (by grind) c)
      refine r_in2 zi_243_130 rfl ?_
      rw [show (nI p + 1 : Int32) = nI (p + 1) from nI_add _ _]
      refine r_goto zi_243_133 rfl ?_
      exact ih (p + 1) _ _ (by omega) hF hV hq
theorem l_msea {d n N c : Nat} {σ : zS} {Q : Option Int32 → zS → Prop} {th : Bool} {Wd Fr' Wh To O A : Nat → Nat} {B : Nat → Int32} (hM : zMd σ n th N Wd Fr' Wh To O A B) : ∀ (m p : Nat) (τ V : zS), p + m = 12 → zFm th σ τ → zVm τ V n th → zVg V n → (∀ υ, zFm th σ υ → zVm υ (dSe th n m p V) n th → zk (d + 9) 243 193 [.ref 195, .int (nI c), .int (nI 12)] [] υ Q) → zk (d + 9) 243 138 [.ref 195, .int (nI c), .int (nI p)] [] τ Q := by
  have hn18 := hM.2.1
  intro m
  induction m with
  | zero =>
    intro p τ V hp hF hV hg hq
    have e : p = 12 := by omega
    subst e
    refine r_il2 zi_243_138 rfl ?_
    refine r_push zi_243_139 rfl ?_
    refine r_ic3 zi_243_141 rfl (fun _ => ?_) (fun c => absurd (by decide) c)
    exact hq τ hF hV
  | succ m ih =>
    intro p τ V hp hF hV hg hq
    have hMt := zMd_fr hF.1 hM
    obtain ⟨m6, m18, m199⟩ := hV.2.1 p (by omega)
    have m3 : τ 196 3 = V 11 14 := hV.1.2.2.2.1
    have hq : ∀ υ, zFm th σ υ → zVm υ (dSe th n m (p + 1) (if V 0 p < V 11 14 ∧ V 2 p / 10 < V 11 14 then up (dDw th n p 18 0 V) 1 p 0 else V)) n th → zk (d + 9) 243 193 [.ref 195, .int (nI c), .int (nI 12)] [] υ Q := hq
    have main : zk (d + 9) 243 158 [.ref 195, .int (nI c), .int (nI p)] [.int (V 0 p), .int (V 11 14)] τ Q := by
      by_cases c1 : V 0 p < V 11 14
      · by_cases c2 : V 2 p / 10 < V 11 14
        · rw [if_pos ⟨c1, c2⟩] at hq
          have hdr : ∀ (Q2 : zS → Prop), (∀ υ, zFm th σ υ → zVm υ (up (dDw th n p 18 0 V) 1 p 0) n th → Q2 υ) → zV1 (d + 8) 241 [.ref 195, .int (nI p)] τ Q2 := fun Q2 h2 => s_mdrown (d := d + 5) hMt (by omega) hV hg (fun υ x y => h2 υ (hF.tr x) y)
          refine r_ic5 zi_243_158 rfl (fun c => absurd c (by grind)) (fun _ => ?_)
          refine r_al0 zi_243_161 rfl ?_
          refine q_getR zi_243_162 rfl cf_195_1 ?_
          refine r_push zi_243_165 rfl ?_
          refine r_alde zi_243_166 rfl 3 ca_196 rfl (by decide) (u := V 11 14) (by first | exact m3 | ((repeat (first | rw [zup_ne (by first | decide | omega)] | rw [zup_nj (by first | decide | omega)] | rw [fil_ne (by first | decide | omega)])) <;> exact m3) | (simp [up_rd, fil_rd]; exact m3)) ?_
          refine r_al0 zi_243_167 rfl ?_
          refine q_getR zi_243_168 rfl cf_195_1 ?_
          refine r_push zi_243_171 rfl ?_
          refine r_il2 zi_243_173 rfl ?_
          refine r_b0 zi_243_174 rfl ?_
          rw [show (18 + nI p : Int32) = nI (18 + p) from nI_add _ _]
          refine r_alde zi_243_175 rfl (18 + p) ca_196 (by first | rfl | (simp only [zI_add, zI_mul] <;> rfl)) (by first | omega | decide) (u := V 2 p) (by first | exact m18 | ((repeat (first | rw [zup_ne (by first | decide | omega)] | rw [zup_nj (by first | decide | omega)] | rw [fil_ne (by first | decide | omega)])) <;> exact m18) | (simp [up_rd, fil_rd]; exact m18)) ?_
          refine r_push zi_243_176 rfl ?_
          refine r_div zi_243_178 rfl (by decide) ?_
          refine r_ic5 zi_243_179 rfl (fun c => absurd c (by grind)) (fun _ => ?_)
          refine r_al0 zi_243_182 rfl ?_
          refine r_il2 zi_243_183 rfl ?_
          refine q_cVV zi_243_184 rfl rfl rfl rfl rfl rfl rfl cf_195_0.ob (hdr _ (fun υ x1 x2 => ?_))
          show zk _ _ 187 _ _ _ _
          refine r_in2 zi_243_187 rfl ?_
          rw [show (nI p + 1 : Int32) = nI (p + 1) from nI_add _ _]
          refine r_goto zi_243_190 rfl ?_
          exact ih (p + 1) _ _ (by omega) x1 x2 (zVg_u (dDw_g 18 0 V hg) (by omega)) hq
        · rw [if_neg (fun z => c2 z.2)] at hq
          refine r_ic5 zi_243_158 rfl (fun c => absurd c (by grind)) (fun _ => ?_)
          refine r_al0 zi_243_161 rfl ?_
          refine q_getR zi_243_162 rfl cf_195_1 ?_
          refine r_push zi_243_165 rfl ?_
          refine r_alde zi_243_166 rfl 3 ca_196 rfl (by decide) (u := V 11 14) (by first | exact m3 | ((repeat (first | rw [zup_ne (by first | decide | omega)] | rw [zup_nj (by first | decide | omega)] | rw [fil_ne (by first | decide | omega)])) <;> exact m3) | (simp [up_rd, fil_rd]; exact m3)) ?_
          refine r_al0 zi_243_167 rfl ?_
          refine q_getR zi_243_168 rfl cf_195_1 ?_
          refine r_push zi_243_171 rfl ?_
          refine r_il2 zi_243_173 rfl ?_
          refine r_b0 zi_243_174 rfl ?_
          rw [show (18 + nI p : Int32) = nI (18 + p) from nI_add _ _]
          refine r_alde zi_243_175 rfl (18 + p) ca_196 (by first | rfl | (simp only [zI_add, zI_mul] <;> rfl)) (by first | omega | decide) (u := V 2 p) (by first | exact m18 | ((repeat (first | rw [zup_ne (by first | decide | omega)] | rw [zup_nj (by first | decide | omega)] | rw [fil_ne (by first | decide | omega)])) <;> exact m18) | (simp [up_rd, fil_rd]; exact m18)) ?_
          refine r_push zi_243_176 rfl ?_
          refine r_div zi_243_178 rfl (by decide) ?_
          refine r_ic5 zi_243_179 rfl (fun _ => ?_) (fun c => absurd (by grind) c)
          refine r_in2 zi_243_187 rfl ?_
          rw [show (nI p + 1 : Int32) = nI (p + 1) from nI_add _ _]
          refine r_goto zi_243_190 rfl ?_
          exact ih (p + 1) _ _ (by omega) hF hV hg hq
      · rw [if_neg (fun z => c1 z.1)] at hq
        refine r_ic5 zi_243_158 rfl (fun _ => ?_) (fun c => absurd (by grind) c)
        refine r_in2 zi_243_187 rfl ?_
        rw [show (nI p + 1 : Int32) = nI (p + 1) from nI_add _ _]
        refine r_goto zi_243_190 rfl ?_
        exact ih (p + 1) _ _ (by omega) hF hV hg hq
    refine r_il2 zi_243_138 rfl ?_
    refine r_push zi_243_139 rfl ?_
    refine n_ic3 (i := p) (j := 12) zi_243_141 rfl (by omega) (by omega) (fun c => absurd c (by omega)) (fun _ => ?_)
    refine r_al0 zi_243_144 rfl ?_
    refine q_getR zi_243_145 rfl cf_195_1 ?_
    refine r_push zi_243_148 rfl ?_
    refine r_alde zi_243_149 rfl 3 ca_196 rfl (by decide) (u := V 11 14) (by first | exact m3 | ((repeat (first | rw [zup_ne (by first | decide | omega)] | rw [zup_nj (by first | decide | omega)] | rw [fil_ne (by first | decide | omega)])) <;> exact m3) | (simp [up_rd, fil_rd]; exact m3)) ?_
    refine r_al0 zi_243_150 rfl ?_
    refine q_getR zi_243_151 rfl cf_195_7 ?_
    refine r_il2 zi_243_154 rfl ?_
    refine r_ald zi_243_155 rfl p ca_199 (by first | rfl | (simp only [zI_add, zI_mul] <;> rfl)) (by first | omega | decide) ?_
    refine r_push zi_243_156 rfl ?_
    refine r_b0 zi_243_157 rfl ?_
    rw [m199]; exact main

