theorem s_goBack {d c la : Nat} {σ : zS} {H : Nat → zS} {Q : Int32 → zS → Prop} (hP : cP σ c la H) (hc : c ≤ 6) (hl : la < 6) (h0 : c = 0 → Q 0 σ) (h1 : 0 < c → ∀ τ, (∀ a b, a < 2 ∨ 13 < a → ¬ (a = 95 ∧ (b = 1 ∨ b = 2)) → τ a b = σ a b) → (∀ j x, vr j x → vw τ 2 j x = H 0 j x) → cP τ (c - 1) ((la + 6 - 1) % 6) (fun i => H (i + 1)) → Q 1 τ) : zI1 (d + 1) 31 [.ref 95, .ref 2] σ Q := by
  have hd := zpt_d hl
  obtain ⟨p1, p2, p3⟩ := id hP
  show zk _ _ 0 [.ref 95, .ref 2, zun] [] _ _
  by_cases hz : c = 0
  · replace h0 := h0 hz
    subst hz
    refine r_al0 zi_31_0 rfl ?_
    refine q_getR zi_31_1 rfl cf_95_0 ?_
    refine r_al0 zi_31_4 rfl ?_
    refine q_getIe zi_31_5 rfl cf_95_1 (v := nI la) (by first | exact p2 | ((repeat (first | rw [zup_ne (by first | decide | omega)] | rw [zup_nj (by first | decide | omega)] | rw [fil_ne (by first | decide | omega)])) <;> exact p2) | (simp [up_rd, fil_rd]; exact p2)) ?_
    refine r_aald zi_31_8 rfl la cr_96 rfl (zpt_s hl) (by decide) ?_
    refine r_as2 zi_31_9 rfl ?_
    refine r_al0 zi_31_10 rfl ?_
    refine q_getIe zi_31_11 rfl cf_95_2 (v := nI 0) (by first | exact p1 | ((repeat (first | rw [zup_ne (by first | decide | omega)] | rw [zup_nj (by first | decide | omega)] | rw [fil_ne (by first | decide | omega)])) <;> exact p1) | (simp [up_rd, fil_rd]; exact p1)) ?_
    refine r_if0 zi_31_14 rfl (fun _ => ?_) (fun c => absurd rfl c)
    refine r_push zi_31_21 rfl ?_
    refine r_retZ zi_31_22 rfl (by decide) ?_
    exact ⟨_, rfl, h0⟩
  · have h1 := h1 (by omega)
    have q1 : ∀ υ, dBe 2 (zpt la) σ υ → υ 95 1 = nI la := fun υ h => (h.1 95 1 (by omega)).trans p2
    have q2 : ∀ υ, dBe 2 (zpt la) σ υ → up υ 95 1 (nI ((la + 6 - 1) % 6)) 95 2 = nI c := fun υ h => (zup_n2 (by omega)).trans ((h.1 95 2 (by omega)).trans p1)
    have hfin : ∀ υ, dBe 2 (zpt la) σ υ → Q 1 (up (up υ 95 1 (nI ((la + 6 - 1) % 6))) 95 2 (nI (c - 1))) := fun υ hυ => by
      have fr : ∀ a b, a < 2 ∨ 13 < a → ¬ (a = 95 ∧ (b = 1 ∨ b = 2)) → up (up υ 95 1 (nI ((la + 6 - 1) % 6))) 95 2 (nI (c - 1)) a b = σ a b := fun a b g1 g2 => (zup_n2 (by omega)).trans ((zup_n2 (by omega)).trans (hυ.1 a b (by omega)))
      refine h1 _ fr (fun j x hr => ?_) ⟨zup_eq, (zup_n2 (by omega)).trans zup_eq, fun i hi j x hr => ?_⟩
      · have := p3 0 (by omega) j x hr
        rw [show (la + 6 - 0) % 6 = la by omega] at this
        rw [← this, ← vw_b (f := 0) hυ hr]
        exact vw_f (fun a b g1 g2 => (zup_n2 (by omega)).trans (zup_n2 (by omega))) hr
      · show _ = H (i + 1) j x
        rw [← p3 (i + 1) (by omega) j x hr, show ((la + 6 - 1) % 6 + 6 - i) % 6 = (la + 6 - (i + 1)) % 6 by omega]
        exact vw_f (fun a b g1 g2 => fr a b (by unfold zpt at *; omega) (by unfold zpt at *; omega)) hr
    refine r_al0 zi_31_0 rfl ?_
    refine q_getR zi_31_1 rfl cf_95_0 ?_
    refine r_al0 zi_31_4 rfl ?_
    refine q_getIe zi_31_5 rfl cf_95_1 (v := nI la) (by first | exact p2 | ((repeat (first | rw [zup_ne (by first | decide | omega)] | rw [zup_nj (by first | decide | omega)] | rw [fil_ne (by first | decide | omega)])) <;> exact p2) | (simp [up_rd, fil_rd]; exact p2)) ?_
    refine r_aald zi_31_8 rfl la cr_96 rfl (zpt_s hl) (by decide) ?_
    refine r_as2 zi_31_9 rfl ?_
    refine r_al0 zi_31_10 rfl ?_
    refine q_getIe zi_31_11 rfl cf_95_2 (v := nI c) (by first | exact p1 | ((repeat (first | rw [zup_ne (by first | decide | omega)] | rw [zup_nj (by first | decide | omega)] | rw [fil_ne (by first | decide | omega)])) <;> exact p1) | (simp [up_rd, fil_rd]; exact p1)) ?_
    refine n_if0 (i := c) zi_31_14 rfl (by omega) (fun c => absurd c (by omega)) (fun _ => ?_)
    refine r_al2 zi_31_17 rfl ?_
    refine r_ifnonnull zi_31_18 rfl ?_
    refine r_al1 zi_31_23 rfl ?_
    refine r_al2 zi_31_24 rfl ?_
    refine q_cVV zi_31_25 rfl rfl rfl rfl rfl rfl rfl cf_2_0.ob (s_dbec zDu_2 hd (by unfold zpt; omega) (fun υ hυ => ?_))
    show zk _ _ 28 _ _ _ _
    refine r_al0 zi_31_28 rfl ?_
    refine r_al0 zi_31_29 rfl ?_
    refine q_getIe zi_31_30 rfl cf_95_1 (v := nI la) (by first | exact (q1 _ hυ) | ((repeat (first | rw [zup_ne (by first | decide | omega)] | rw [zup_nj (by first | decide | omega)] | rw [fil_ne (by first | decide | omega)])) <;> exact (q1 _ hυ)) | (simp [up_rd, fil_rd]; exact (q1 _ hυ))) ?_
    refine r_push zi_31_33 rfl ?_
    refine r_b0 zi_31_35 rfl ?_
    rw [show (nI la + 6 : Int32) = nI (la + 6) from nI_add _ _]
    refine r_push zi_31_36 rfl ?_
    refine r_b1 zi_31_37 rfl ?_
    rw [show (nI (la + 6) - 1 : Int32) = nI ((la + 6) - 1) from pk_sub (a := (la + 6)) (b := 1) (by omega)]
    refine r_push zi_31_38 rfl ?_
    refine r_rem zi_31_40 rfl (by decide) ?_
    rw [show (nI ((la + 6) - 1) % 6 : Int32) = nI (((la + 6) - 1) % 6) from zI_rem (d := 6) (by omega) (by omega) (by omega)]
    refine q_put zi_31_41 rfl cf_95_1 rfl ?_
    refine r_al0 zi_31_44 rfl ?_
    refine r_dupR zi_31_45 rfl ?_
    refine q_getIe zi_31_46 rfl cf_95_2 (v := nI c) (by first | exact (q2 _ hυ) | ((repeat (first | rw [zup_ne (by first | decide | omega)] | rw [zup_nj (by first | decide | omega)] | rw [fil_ne (by first | decide | omega)])) <;> exact (q2 _ hυ)) | (simp [up_rd, fil_rd]; exact (q2 _ hυ))) ?_
    refine r_push zi_31_49 rfl ?_
    refine r_b1 zi_31_50 rfl ?_
    rw [show (nI c - 1 : Int32) = nI (c - 1) from pk_sub (a := c) (b := 1) (by omega)]
    refine q_put zi_31_51 rfl cf_95_2 rfl ?_
    refine r_push zi_31_54 rfl ?_
    refine r_retZ zi_31_55 rfl (by decide) ?_
    exact ⟨_, rfl, hfin _ hυ⟩
theorem zVm_t {σ V : zS} {n : Nat} {th : Bool} (h : zVm σ V n th) : zVm σ V n true := ⟨h.1, h.2.1, h.2.2.1, h.2.2.2.1, h.2.2.2.2.1, h.2.2.2.2.2.1, h.2.2.2.2.2.2.1, fun z => by cases z⟩
theorem l_mah1 {d : Nat} {σ : zS} {R : Option Int32 → zS → Prop} (h5 : σ 195 3 = nI 5) (hq : ∀ τ u, (∀ a b, a ≠ 197 → τ a b = σ a b) → (∀ b, b < 850 → τ 197 b = σ 197 (b + 170)) → zk d 171 55 [.ref 195, u] [] τ R) : ∀ (m i : Nat) (τ : zS), i + m = 850 → (∀ a b, a ≠ 197 → τ a b = σ a b) → (∀ b, b < i → τ 197 b = σ 197 (b + 170)) → (∀ b, i ≤ b → τ 197 b = σ 197 b) → zk d 171 21 [.ref 195, .int (nI i)] [] τ R := by
  intro m
  induction m with
  | zero =>
    intro i τ hi h1 h2 h3
    have e5 : τ 195 3 = nI 5 := (h1 195 3 (by decide)).trans h5
    refine r_il1 zi_171_21 rfl ?_
    refine r_push zi_171_22 rfl ?_
    refine r_al0 zi_171_25 rfl ?_
    refine q_getIe zi_171_26 rfl cf_195_3 (v := nI 5) (by first | exact e5 | ((repeat (first | rw [zup_ne (by first | decide | omega)] | rw [zup_nj (by first | decide | omega)] | rw [fil_ne (by first | decide | omega)])) <;> exact e5) | (simp [up_rd, fil_rd]; exact e5)) ?_
    refine r_b2 zi_171_29 rfl ?_
    rw [show (170 * nI 5 : Int32) = nI (170 * 5) from pk_mul _ _]
    refine n_ic3 (i := i) (j := (170 * 5)) zi_171_30 rfl (by omega) (by omega) (fun _ => ?_) (fun c => absurd c (by omega))
    exact hq τ _ h1 (fun b hb => h2 b (by omega))
  | succ m ih =>
    intro i τ hi h1 h2 h3
    have e5 : τ 195 3 = nI 5 := (h1 195 3 (by decide)).trans h5
    have e6 : τ 197 (i + 170) = σ 197 (i + 170) := h3 _ (by omega)
    refine r_il1 zi_171_21 rfl ?_
    refine r_push zi_171_22 rfl ?_
    refine r_al0 zi_171_25 rfl ?_
    refine q_getIe zi_171_26 rfl cf_195_3 (v := nI 5) (by first | exact e5 | ((repeat (first | rw [zup_ne (by first | decide | omega)] | rw [zup_nj (by first | decide | omega)] | rw [fil_ne (by first | decide | omega)])) <;> exact e5) | (simp [up_rd, fil_rd]; exact e5)) ?_
    refine r_b2 zi_171_29 rfl ?_
    rw [show (170 * nI 5 : Int32) = nI (170 * 5) from pk_mul _ _]
    refine n_ic3 (i := i) (j := (170 * 5)) zi_171_30 rfl (by omega) (by omega) (fun c => absurd c (by omega)) (fun _ => ?_)
    refine r_al0 zi_171_33 rfl ?_
    refine q_getR zi_171_34 rfl cf_195_2 ?_
    refine r_il1 zi_171_37 rfl ?_
    refine r_al0 zi_171_38 rfl ?_
    refine q_getR zi_171_39 rfl cf_195_2 ?_
    refine r_il1 zi_171_42 rfl ?_
    refine r_push zi_171_43 rfl ?_
    refine r_b0 zi_171_46 rfl ?_
    rw [show (nI i + 170 : Int32) = nI (i + 170) from nI_add _ _]
    refine r_alde zi_171_47 rfl (i + 170) ca_197 (by first | rfl | (simp only [zI_add, zI_mul] <;> rfl)) (by first | omega | decide) (u := σ 197 (i + 170)) (by first | exact e6 | ((repeat (first | rw [zup_ne (by first | decide | omega)] | rw [zup_nj (by first | decide | omega)] | rw [fil_ne (by first | decide | omega)])) <;> exact e6) | (simp [up_rd, fil_rd]; exact e6)) ?_
    refine r_ast zi_171_48 rfl i ca_197 (by first | rfl | (simp only [zI_add, zI_mul] <;> rfl)) (by first | omega | decide) ?_
    refine r_in1 zi_171_49 rfl ?_
    rw [show (nI i + 1 : Int32) = nI (i + 1) from nI_add _ _]
    refine r_goto zi_171_52 rfl ?_
    refine ih (i + 1) _ (by omega) (fun a b hab => (zup_ne hab).trans (h1 a b hab)) (fun b hb => ?_) (fun b hb => (zup_nj (by omega)).trans (h3 b (by omega)))
    by_cases e : b = i
    · rw [e, zup_eq]
    · rw [zup_nj e]; exact h2 b (by omega)
theorem l_mah2 {d c : Nat} {σ : zS} {Q : zS → Prop} (hc : c < 6) (h5 : σ 195 3 = nI c) (hq : ∀ τ, (∀ a b, a ≠ 197 → τ a b = σ a b) → (∀ b, b < 170 → τ 197 (170 * c + b) = σ 196 b) → (∀ b, b < 170 * c → τ 197 b = σ 197 b) → Q (up τ 195 3 (nI (c + 1)))) : ∀ (m i : Nat) (τ : zS), i + m = 170 → (∀ a b, a ≠ 197 → τ a b = σ a b) → (∀ b, b < i → τ 197 (170 * c + b) = σ 196 b) → (∀ b, b < 170 * c → τ 197 b = σ 197 b) → zk d 171 57 [.ref 195, .int (nI i)] [] τ (fun r s => r = none ∧ Q s) := by
  intro m
  induction m with
  | zero =>
    intro i τ hi h1 h2 h3
    have e5 : τ 195 3 = nI c := (h1 195 3 (by decide)).trans h5
    refine r_il1 zi_171_57 rfl ?_
    refine r_push zi_171_58 rfl ?_
    refine n_ic3 (i := i) (j := 170) zi_171_61 rfl (by omega) (by omega) (fun _ => ?_) (fun c => absurd c (by omega))
    refine r_al0 zi_171_91 rfl ?_
    refine r_al0 zi_171_92 rfl ?_
    refine q_getIe zi_171_93 rfl cf_195_3 (v := nI c) (by first | exact e5 | ((repeat (first | rw [zup_ne (by first | decide | omega)] | rw [zup_nj (by first | decide | omega)] | rw [fil_ne (by first | decide | omega)])) <;> exact e5) | (simp [up_rd, fil_rd]; exact e5)) ?_
    refine r_push zi_171_96 rfl ?_
    refine r_b0 zi_171_97 rfl ?_
    rw [show (nI c + 1 : Int32) = nI (c + 1) from nI_add _ _]
    refine q_put zi_171_98 rfl cf_195_3 rfl ?_
    refine r_ret zi_171_101 rfl ?_
    exact ⟨rfl, hq τ h1 (fun b hb => h2 b (by omega)) h3⟩
  | succ m ih =>
    intro i τ hi h1 h2 h3
    have e5 : τ 195 3 = nI c := (h1 195 3 (by decide)).trans h5
    have e6 : τ 196 i = σ 196 i := h1 _ _ (by decide)
    refine r_il1 zi_171_57 rfl ?_
    refine r_push zi_171_58 rfl ?_
    refine n_ic3 (i := i) (j := 170) zi_171_61 rfl (by omega) (by omega) (fun c => absurd c (by omega)) (fun _ => ?_)
    refine r_al0 zi_171_64 rfl ?_
    refine q_getR zi_171_65 rfl cf_195_2 ?_
    refine r_push zi_171_68 rfl ?_
    refine r_al0 zi_171_71 rfl ?_
    refine q_getIe zi_171_72 rfl cf_195_3 (v := nI c) (by first | exact e5 | ((repeat (first | rw [zup_ne (by first | decide | omega)] | rw [zup_nj (by first | decide | omega)] | rw [fil_ne (by first | decide | omega)])) <;> exact e5) | (simp [up_rd, fil_rd]; exact e5)) ?_
    refine r_b2 zi_171_75 rfl ?_
    rw [show (170 * nI c : Int32) = nI (170 * c) from pk_mul _ _]
    refine r_il1 zi_171_76 rfl ?_
    refine r_b0 zi_171_77 rfl ?_
    rw [show (nI (170 * c) + nI i : Int32) = nI ((170 * c) + i) from nI_add _ _]
    refine r_al0 zi_171_78 rfl ?_
    refine q_getR zi_171_79 rfl cf_195_1 ?_
    refine r_il1 zi_171_82 rfl ?_
    refine r_alde zi_171_83 rfl i ca_196 (by first | rfl | (simp only [zI_add, zI_mul] <;> rfl)) (by first | omega | decide) (u := σ 196 i) (by first | exact e6 | ((repeat (first | rw [zup_ne (by first | decide | omega)] | rw [zup_nj (by first | decide | omega)] | rw [fil_ne (by first | decide | omega)])) <;> exact e6) | (simp [up_rd, fil_rd]; exact e6)) ?_
    refine r_ast zi_171_84 rfl ((170 * c) + i) ca_197 (by first | rfl | (simp only [zI_add, zI_mul] <;> rfl)) (by first | omega | decide) ?_
    refine r_in1 zi_171_85 rfl ?_
    rw [show (nI i + 1 : Int32) = nI (i + 1) from nI_add _ _]
    refine r_goto zi_171_88 rfl ?_
    refine ih (i + 1) _ (by omega) (fun a b hab => (zup_ne hab).trans (h1 a b hab)) (fun b hb => ?_) (fun b hb => (zup_nj (by omega)).trans (h3 b hb))
    by_cases e : b = i
    · rw [e, zup_eq]
    · rw [zup_nj (by omega)]; exact h2 b (by omega)
theorem mrw_v {σ τ V : zS} {n r r' : Nat} (hn : n ≤ 18) (h : zVm (mrw σ r') V n true) (e : ∀ b, b < 170 → τ 197 (170 * r + b) = σ 197 (170 * r' + b)) (e1 : ∀ b, τ 199 b = σ 199 b) (e2 : ∀ b, τ 200 b = σ 200 b) : zVm (mrw τ r) V n true := zVm_g (τ := mrw τ r) hn h (fun b hb => by
    show (if 196 = 196 then τ 197 (170 * r + b) else _) = (if 196 = 196 then σ 197 (170 * r' + b) else _)
    rw [if_pos rfl, if_pos rfl]; exact e b hb) (fun b _ => e1 b) (fun b _ => e2 b) (fun z => by cases z)
theorem mrw_n {σ τ V : zS} {n r : Nat} (hn : n ≤ 18) (h : zVm σ V n true) (e : ∀ b, b < 170 → τ 197 (170 * r + b) = σ 196 b) (e1 : ∀ b, τ 199 b = σ 199 b) (e2 : ∀ b, τ 200 b = σ 200 b) : zVm (mrw τ r) V n true := zVm_g (τ := mrw τ r) hn h (fun b hb => by
    show (if 196 = 196 then τ 197 (170 * r + b) else _) = σ 196 b
    rw [if_pos rfl]; exact e b hb) (fun b _ => e1 b) (fun b _ => e2 b) (fun z => by cases z)
theorem s_ahead {d n c : Nat} {σ V : zS} {H : Nat → zS} {Q : zS → Prop} (hn : n ≤ 18) (hV : zVm σ V n false) (hP : mP σ n c H) (hc : c ≤ 6) (hq : ∀ τ, (∀ a b, a ≠ 197 → ¬ (a = 195 ∧ b = 3) → τ a b = σ a b) → mP τ n (min 6 (c + 1)) (hcons V H) → Q τ) : zV1 d 171 [.ref 195] σ Q := by
  obtain ⟨p1, p2⟩ := id hP
  show zk _ _ 0 [.ref 195, zun] [] _ _
  by_cases h6 : c = 6
  · subst h6
    have g3 : up σ 195 3 (nI 5) 195 3 = nI 5 := zup_eq
    refine r_al0 zi_171_0 rfl ?_
    refine q_getIe zi_171_1 rfl cf_195_3 (v := nI 6) (by first | exact p1 | ((repeat (first | rw [zup_ne (by first | decide | omega)] | rw [zup_nj (by first | decide | omega)] | rw [fil_ne (by first | decide | omega)])) <;> exact p1) | (simp [up_rd, fil_rd]; exact p1)) ?_
    refine r_push zi_171_4 rfl ?_
    refine n_ic1 (i := 6) (j := 6) zi_171_6 rfl (by omega) (by omega) (fun c => absurd c (by omega)) (fun _ => ?_)
    refine r_al0 zi_171_9 rfl ?_
    refine r_al0 zi_171_10 rfl ?_
    refine q_getIe zi_171_11 rfl cf_195_3 (v := nI 6) (by first | exact p1 | ((repeat (first | rw [zup_ne (by first | decide | omega)] | rw [zup_nj (by first | decide | omega)] | rw [fil_ne (by first | decide | omega)])) <;> exact p1) | (simp [up_rd, fil_rd]; exact p1)) ?_
    refine r_push zi_171_14 rfl ?_
    refine r_b1 zi_171_15 rfl ?_
    rw [show (nI 6 - 1 : Int32) = nI (6 - 1) from pk_sub (a := 6) (b := 1) (by omega)]
    refine q_put zi_171_16 rfl cf_195_3 rfl ?_
    refine r_push zi_171_19 rfl ?_
    refine r_is1 zi_171_20 rfl ?_
    refine l_mah1 g3 (fun τ u h1 h2 => ?_) 850 0 _ (by omega) (fun _ _ _ => rfl) (fun b hb => by omega) (fun _ _ => rfl)
    refine r_push zi_171_55 rfl ?_
    refine r_is1 zi_171_56 rfl ?_
    refine l_mah2 (c := 5) (by omega) ((h1 195 3 (by decide)).trans g3) (fun υ k1 k2 k3 => ?_) 170 0 _ (by omega) (fun _ _ _ => rfl) (fun b hb => by omega) (fun _ _ => rfl)
    have fr : ∀ a b, a ≠ 197 → ¬ (a = 195 ∧ b = 3) → up υ 195 3 (nI (5 + 1)) a b = σ a b := fun a b g1 g2 => (zup_n2 (by omega)).trans ((k1 a b g1).trans ((h1 a b g1).trans (zup_n2 (by omega))))
    refine hq _ fr ⟨zup_eq, fun i hi => ?_⟩
    unfold hcons
    by_cases hi0 : i = 0
    · subst hi0
      rw [if_pos rfl]
      exact mrw_n hn (zVm_t hV) (fun b hb => (zup_ne (by decide)).trans ((k2 b hb).trans ((h1 196 b (by decide)).trans (zup_ne (by decide))))) (fun b => fr 199 b (by decide) (by omega)) (fun b => fr 200 b (by decide) (by omega))
    · rw [if_neg hi0]
      refine mrw_v hn (p2 (i - 1) (by omega)) (fun b hb => ?_) (fun b => fr 199 b (by decide) (by omega)) (fun b => fr 200 b (by decide) (by omega))
      rw [zup_ne (by decide), k3 _ (by omega), h2 _ (by omega), zup_ne (by decide)]
      exact congrArg _ (by omega)
  · refine r_al0 zi_171_0 rfl ?_
    refine q_getIe zi_171_1 rfl cf_195_3 (v := nI c) (by first | exact p1 | ((repeat (first | rw [zup_ne (by first | decide | omega)] | rw [zup_nj (by first | decide | omega)] | rw [fil_ne (by first | decide | omega)])) <;> exact p1) | (simp [up_rd, fil_rd]; exact p1)) ?_
    refine r_push zi_171_4 rfl ?_
    refine n_ic1 (i := c) (j := 6) zi_171_6 rfl (by omega) (by omega) (fun _ => ?_) (fun c => absurd c (by omega))
    refine r_push zi_171_55 rfl ?_
    refine r_is1 zi_171_56 rfl ?_
    refine l_mah2 (c := c) (by omega) p1 (fun υ k1 k2 k3 => ?_) 170 0 _ (by omega) (fun _ _ _ => rfl) (fun b hb => by omega) (fun _ _ => rfl)
    have fr : ∀ a b, a ≠ 197 → ¬ (a = 195 ∧ b = 3) → up υ 195 3 (nI (c + 1)) a b = σ a b := fun a b g1 g2 => (zup_n2 (by omega)).trans (k1 a b g1)
    refine hq _ fr ⟨zup_eq.trans (by rw [Nat.min_eq_right (by omega)]), fun i hi => ?_⟩
    rw [Nat.min_eq_right (by omega)] at hi ⊢
    unfold hcons
    by_cases hi0 : i = 0
    · subst hi0
      rw [if_pos rfl]
      exact mrw_n hn (zVm_t hV) (fun b hb => (zup_ne (by decide)).trans (by rw [show c + 1 - 1 - 0 = c by omega]; exact k2 b hb)) (fun b => fr 199 b (by decide) (by omega)) (fun b => fr 200 b (by decide) (by omega))
    · rw [if_neg hi0]
      refine mrw_v hn (p2 (i - 1) (by omega)) (fun b hb => ?_) (fun b => fr 199 b (by decide) (by omega)) (fun b => fr 200 b (by decide) (by omega))
      rw [zup_ne (by decide), k3 _ (by omega), show c + 1 - 1 - i = c - 1 - (i - 1) by omega]

