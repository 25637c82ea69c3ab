/-! B in the class -/
theorem l_opens {d N j0 : Nat} {σ : zS} {Q : Int32 → zS → Prop} {K S : Nat → Nat} {r : (Nat × Nat) ⊕ (Nat × List Nat)} {cs : List Nat} (h1 : ∀ f j p υ, j0 ≤ j → pcd K (f + 1) true j cs p = some r → ¬ (K j = 10016 ∨ K j = 20040) → kCs υ K S N j cs p → Fg pC σ υ → Q 1 υ) (h0 : ∀ n i υ, r = .inl (n, i) → Fg (pF pC) σ υ → υ 170 4 = nI n → υ 170 5 = nI (S i) → Q 0 υ) : ∀ (f j i : Nat) (p : List Nat) (τ : zS) (u : Value), j0 ≤ j → pcd K f true j cs p = some r → i ≤ opn p → kCs τ K S N j cs p → Fg pC σ τ → zk (d + 1) 46 2 [.ref 169, .int (nI i), u] [] τ (fun r t => ∃ v, r = some v ∧ Q v t) := by
  intro f
  induction f with
  | zero => intro j i p τ u _ hr; cases hr
  | succ f ih =>
    intro j i p τ u hj0 hr hi hc hF
    obtain ⟨t1, t2, t3, t4, t5, t6, t7, t8⟩ := id hc
    have hl26 := pok_len t7 t8
    have hb := tko_b (t1.2.2.2.2.2.2 j)
    have htok : ∀ (Q2 : Int32 → zS → Prop), Q2 (nI (K j)) τ → zI1 d 103 [.ref 170] τ Q2 := fun Q2 h2 => s_tok t1 h2
    by_cases c : K j = 10016 ∨ K j = 20040
    · have hjn := kTk_ne t1 (by omega)
      have hr2 : (if opn p = 8 then some (.inl (3, j)) else pcd K f true (j + 1) cs (K j :: p)) = some r := by rw [← hr]; exact (if_pos c).symm
      have e2 : opn (K j :: p) = opn p + 1 := by
        show (if K j = 10016 ∨ K j = 20040 then 1 else 0) + opn p = _
        rw [if_pos c]; exact Nat.add_comm _ _
      by_cases o8 : opn p = 8
      · rw [if_pos o8] at hr2
        have er := Option.some.inj hr2
        have h0 := fun υ x y z => h0 3 j υ er.symm x y z
        have hfl : ∀ (Q2 : Int32 → zS → Prop), (∀ υ, Q 0 υ → Q2 0 υ) → zI1 d 104 [.ref 170, .int 3] τ Q2 := fun Q2 h2 => s_fails t1 (h2 _ (h0 _ (kfl hF) ((zup_nj (by decide)).trans zup_eq) zup_eq))
        generalize K j = k at *
        generalize opn p = o at *
        refine r_il1 zi_46_2 rfl ?_
        refine r_push zi_46_3 rfl ?_
        refine n_ic4 (i := i) (j := 8) zi_46_5 rfl (by omega) (by omega) (fun c => absurd c (by omega)) (fun _ => ?_)
        refine r_al0 zi_46_8 rfl ?_
        refine q_getR zi_46_9 rfl cf_169_0 ?_
        refine q_cIV zi_46_12 rfl rfl rfl rfl rfl rfl rfl cf_170_0.ob (htok _ ?_)
        show zk _ _ 15 _ _ _ _
        refine r_is2 zi_46_15 rfl ?_
        refine r_il2 zi_46_16 rfl ?_
        refine r_push zi_46_17 rfl ?_
        refine n_ic0 (i := k) (j := 10016) zi_46_20 rfl (by omega) (by omega) (fun c2 => ?_) (fun c2 => ?_)
        · refine r_al0 zi_46_32 rfl ?_
          refine q_getIe zi_46_33 rfl cf_169_4 (v := nI o) (by first | exact t4 | ((repeat (first | rw [zup_ne (by first | decide | omega)] | rw [zup_nj (by first | decide | omega)] | rw [fil_ne (by first | decide | omega)])) <;> exact t4) | (simp [up_rd, fil_rd]; exact t4)) ?_
          refine r_push zi_46_36 rfl ?_
          refine n_ic2 (i := o) (j := 8) zi_46_38 rfl (by omega) (by omega) (fun c => absurd c (by omega)) (fun _ => ?_)
          refine r_al0 zi_46_41 rfl ?_
          refine q_getR zi_46_42 rfl cf_169_0 ?_
          refine r_push zi_46_45 rfl ?_
          refine q_cIV zi_46_46 rfl rfl rfl rfl rfl rfl rfl cf_170_0.ob (hfl _ (fun υ x => ?_))
          show zk _ _ 49 _ _ _ _
          refine r_retZ zi_46_49 rfl (by decide) ?_
          exact ⟨_, rfl, x⟩
        · refine r_il2 zi_46_23 rfl ?_
          refine r_push zi_46_24 rfl ?_
          refine n_ic0 (i := k) (j := 20040) zi_46_27 rfl (by omega) (by omega) (fun c4 => ?_) (fun c4 => ?_)
          · refine r_al0 zi_46_32 rfl ?_
            refine q_getIe zi_46_33 rfl cf_169_4 (v := nI o) (by first | exact t4 | ((repeat (first | rw [zup_ne (by first | decide | omega)] | rw [zup_nj (by first | decide | omega)] | rw [fil_ne (by first | decide | omega)])) <;> exact t4) | (simp [up_rd, fil_rd]; exact t4)) ?_
            refine r_push zi_46_36 rfl ?_
            refine n_ic2 (i := o) (j := 8) zi_46_38 rfl (by omega) (by omega) (fun c => absurd c (by omega)) (fun _ => ?_)
            refine r_al0 zi_46_41 rfl ?_
            refine q_getR zi_46_42 rfl cf_169_0 ?_
            refine r_push zi_46_45 rfl ?_
            refine q_cIV zi_46_46 rfl rfl rfl rfl rfl rfl rfl cf_170_0.ob (hfl _ (fun υ x => ?_))
            show zk _ _ 49 _ _ _ _
            refine r_retZ zi_46_49 rfl (by decide) ?_
            exact ⟨_, rfl, x⟩
          · exfalso; omega
      · rw [if_neg o8] at hr2
        have hN := t1.2.2.1
        have hnew : kCs (up (up (up (up τ 169 4 (nI (opn p + 1))) 176 p.length (nI (K j))) 169 3 (nI (p.length + 1))) 170 3 (nI (j + 1))) K S N (j + 1) cs (K j :: p) := by
          refine ⟨kTk_m t1 (((((Fg.rf (P := pC)).put (by unfold pC; omega)).put (by unfold pC; omega)).put (by unfold pC; omega)).put (by unfold pC; omega)) zup_eq hjn, kDc_f t2 ?_ (fun b => ?_), ?_, ?_, ⟨?_, ?_⟩, by rw [List.length_cons]; omega, ⟨t7, by omega⟩, by rw [e2]; omega⟩
          · exact (((zup_ne (by decide)).trans (zup_ne (by decide))).trans (zup_ne (by decide))).trans (zup_ne (by decide))
          · exact (((zup_ne (by decide)).trans (zup_ne (by decide))).trans (zup_ne (by decide))).trans (zup_ne (by decide))
          · exact (zup_ne (by decide)).trans zup_eq
          · rw [e2]; exact (((zup_ne (by decide)).trans (zup_nj (by decide))).trans (zup_ne (by decide))).trans zup_eq
          · exact ((zup_ne (by decide)).trans (zup_ne (by decide))).trans zup_eq
          · exact kPl_f (fun b => (zup_ne (by decide)).trans (zup_ne (by decide))) p (kPl_up p (Nat.le_refl _) (kPl_f (fun b => zup_ne (by decide)) p t5))
        have ih := fun u => ih (j + 1) (i + 1) (K j :: p) _ u (by omega) hr2 (by rw [e2]; omega) hnew ((((hF.put (by unfold pC; omega)).put (by unfold pC; omega)).put (by unfold pC; omega)).put (by unfold pC; omega))
        have h3 : ∀ v : Int32, up τ 169 4 v 169 3 = nI p.length := fun v => (zup_nj (by decide)).trans t3
        have h5 : ∀ a b c : Int32, up (up (up τ 169 4 a) 176 p.length b) 169 3 c 170 3 = nI j := fun a b c => (((zup_ne (by decide)).trans (zup_ne (by decide))).trans (zup_ne (by decide))).trans t1.2.2.2.2.1
        generalize K j = k at *
        generalize opn p = o at *
        generalize p.length = m at *
        refine r_il1 zi_46_2 rfl ?_
        refine r_push zi_46_3 rfl ?_
        refine n_ic4 (i := i) (j := 8) zi_46_5 rfl (by omega) (by omega) (fun c => absurd c (by omega)) (fun _ => ?_)
        refine r_al0 zi_46_8 rfl ?_
        refine q_getR zi_46_9 rfl cf_169_0 ?_
        refine q_cIV zi_46_12 rfl rfl rfl rfl rfl rfl rfl cf_170_0.ob (htok _ ?_)
        show zk _ _ 15 _ _ _ _
        refine r_is2 zi_46_15 rfl ?_
        refine r_il2 zi_46_16 rfl ?_
        refine r_push zi_46_17 rfl ?_
        refine n_ic0 (i := k) (j := 10016) zi_46_20 rfl (by omega) (by omega) (fun c2 => ?_) (fun c2 => ?_)
        · refine r_al0 zi_46_32 rfl ?_
          refine q_getIe zi_46_33 rfl cf_169_4 (v := nI o) (by first | exact t4 | ((repeat (first | rw [zup_ne (by first | decide | omega)] | rw [zup_nj (by first | decide | omega)] | rw [fil_ne (by first | decide | omega)])) <;> exact t4) | (simp [up_rd, fil_rd]; exact t4)) ?_
          refine r_push zi_46_36 rfl ?_
          refine n_ic2 (i := o) (j := 8) zi_46_38 rfl (by omega) (by omega) (fun _ => ?_) (fun c => absurd c (by omega))
          refine r_al0 zi_46_50 rfl ?_
          refine r_dupR zi_46_51 rfl ?_
          refine q_getIe zi_46_52 rfl cf_169_4 (v := nI o) (by first | exact t4 | ((repeat (first | rw [zup_ne (by first | decide | omega)] | rw [zup_nj (by first | decide | omega)] | rw [fil_ne (by first | decide | omega)])) <;> exact t4) | (simp [up_rd, fil_rd]; exact t4)) ?_
          refine r_push zi_46_55 rfl ?_
          refine r_b0 zi_46_56 rfl ?_
          rw [show (nI o + 1 : Int32) = nI (o + 1) from nI_add _ _]
          refine q_put zi_46_57 rfl cf_169_4 rfl ?_
          refine r_al0 zi_46_60 rfl ?_
          refine r_il2 zi_46_61 rfl ?_
          refine q_cVV zi_46_62 rfl rfl rfl rfl rfl rfl rfl cf_169_0.ob (s_await (h3 _) (by omega) ?_)
          show zk _ _ 65 _ _ _ _
          refine r_al0 zi_46_65 rfl ?_
          refine q_getR zi_46_66 rfl cf_169_0 ?_
          refine r_dupR zi_46_69 rfl ?_
          refine q_getIe zi_46_70 rfl cf_170_3 (v := nI j) (by first | exact h5 _ _ _ | ((repeat (first | rw [zup_ne (by first | decide | omega)] | rw [zup_nj (by first | decide | omega)] | rw [fil_ne (by first | decide | omega)])) <;> exact h5 _ _ _) | (simp [up_rd, fil_rd]; exact h5 _ _ _)) ?_
          refine r_push zi_46_73 rfl ?_
          refine r_b0 zi_46_74 rfl ?_
          rw [show (nI j + 1 : Int32) = nI (j + 1) from nI_add _ _]
          refine q_put zi_46_75 rfl cf_170_3 rfl ?_
          refine r_in1 zi_46_78 rfl ?_
          rw [show (nI i + 1 : Int32) = nI (i + 1) from nI_add _ _]
          refine r_goto zi_46_81 rfl ?_
          exact ih _
        · refine r_il2 zi_46_23 rfl ?_
          refine r_push zi_46_24 rfl ?_
          refine n_ic0 (i := k) (j := 20040) zi_46_27 rfl (by omega) (by omega) (fun c4 => ?_) (fun c4 => ?_)
          · refine r_al0 zi_46_32 rfl ?_
            refine q_getIe zi_46_33 rfl cf_169_4 (v := nI o) (by first | exact t4 | ((repeat (first | rw [zup_ne (by first | decide | omega)] | rw [zup_nj (by first | decide | omega)] | rw [fil_ne (by first | decide | omega)])) <;> exact t4) | (simp [up_rd, fil_rd]; exact t4)) ?_
            refine r_push zi_46_36 rfl ?_
            refine n_ic2 (i := o) (j := 8) zi_46_38 rfl (by omega) (by omega) (fun _ => ?_) (fun c => absurd c (by omega))
            refine r_al0 zi_46_50 rfl ?_
            refine r_dupR zi_46_51 rfl ?_
            refine q_getIe zi_46_52 rfl cf_169_4 (v := nI o) (by first | exact t4 | ((repeat (first | rw [zup_ne (by first | decide | omega)] | rw [zup_nj (by first | decide | omega)] | rw [fil_ne (by first | decide | omega)])) <;> exact t4) | (simp [up_rd, fil_rd]; exact t4)) ?_
            refine r_push zi_46_55 rfl ?_
            refine r_b0 zi_46_56 rfl ?_
            rw [show (nI o + 1 : Int32) = nI (o + 1) from nI_add _ _]
            refine q_put zi_46_57 rfl cf_169_4 rfl ?_
            refine r_al0 zi_46_60 rfl ?_
            refine r_il2 zi_46_61 rfl ?_
            refine q_cVV zi_46_62 rfl rfl rfl rfl rfl rfl rfl cf_169_0.ob (s_await (h3 _) (by omega) ?_)
            show zk _ _ 65 _ _ _ _
            refine r_al0 zi_46_65 rfl ?_
            refine q_getR zi_46_66 rfl cf_169_0 ?_
            refine r_dupR zi_46_69 rfl ?_
            refine q_getIe zi_46_70 rfl cf_170_3 (v := nI j) (by first | exact h5 _ _ _ | ((repeat (first | rw [zup_ne (by first | decide | omega)] | rw [zup_nj (by first | decide | omega)] | rw [fil_ne (by first | decide | omega)])) <;> exact h5 _ _ _) | (simp [up_rd, fil_rd]; exact h5 _ _ _)) ?_
            refine r_push zi_46_73 rfl ?_
            refine r_b0 zi_46_74 rfl ?_
            rw [show (nI j + 1 : Int32) = nI (j + 1) from nI_add _ _]
            refine q_put zi_46_75 rfl cf_170_3 rfl ?_
            refine r_in1 zi_46_78 rfl ?_
            rw [show (nI i + 1 : Int32) = nI (i + 1) from nI_add _ _]
            refine r_goto zi_46_81 rfl ?_
            exact ih _
          · exfalso; omega
    · have h := h1 f j p τ hj0 hr c hc hF
      generalize K j = k at *
      refine r_il1 zi_46_2 rfl ?_
      refine r_push zi_46_3 rfl ?_
      refine n_ic4 (i := i) (j := 8) zi_46_5 rfl (by omega) (by omega) (fun c => absurd c (by omega)) (fun _ => ?_)
      refine r_al0 zi_46_8 rfl ?_
      refine q_getR zi_46_9 rfl cf_169_0 ?_
      refine q_cIV zi_46_12 rfl rfl rfl rfl rfl rfl rfl cf_170_0.ob (htok _ ?_)
      show zk _ _ 15 _ _ _ _
      refine r_is2 zi_46_15 rfl ?_
      refine r_il2 zi_46_16 rfl ?_
      refine r_push zi_46_17 rfl ?_
      refine n_ic0 (i := k) (j := 10016) zi_46_20 rfl (by omega) (by omega) (fun c2 => ?_) (fun c2 => ?_)
      · exfalso; omega
      · refine r_il2 zi_46_23 rfl ?_
        refine r_push zi_46_24 rfl ?_
        refine n_ic0 (i := k) (j := 20040) zi_46_27 rfl (by omega) (by omega) (fun c3 => ?_) (fun c3 => ?_)
        · exfalso; omega
        · refine r_push zi_46_30 rfl ?_
          refine r_retZ zi_46_31 rfl (by decide) ?_
          exact ⟨_, rfl, h⟩
theorem s_opens {d N f j : Nat} {σ : zS} {Q : Int32 → zS → Prop} {K S : Nat → Nat} {r : (Nat × Nat) ⊕ (Nat × List Nat)} {cs p : List Nat} (hr : pcd K f true j cs p = some r) (hc : kCs σ K S N j cs p) (h1 : ∀ f i p υ, j ≤ i → pcd K (f + 1) true i cs p = some r → ¬ (K i = 10016 ∨ K i = 20040) → kCs υ K S N i cs p → Fg pC σ υ → Q 1 υ) (h0 : ∀ n i υ, r = .inl (n, i) → Fg (pF pC) σ υ → υ 170 4 = nI n → υ 170 5 = nI (S i) → Q 0 υ) : zI1 (d + 1) 46 [.ref 169] σ Q := by
  show zk _ _ 0 [.ref 169, zun, zun] [] _ _
  refine r_push zi_46_0 rfl ?_
  refine r_is1 zi_46_1 rfl ?_
  exact l_opens h1 h0 f j 0 p _ _ (Nat.le_refl _) hr (Nat.zero_le _) hc Fg.rf
theorem pcd_c {K : Nat → Nat} {f j : Nat} {cs p : List Nat} {r : (Nat × Nat) ⊕ (Nat × List Nat)} (h : pcd K f false j cs p = some r) (c : K j = 20041) (b : 0 < brn p) : ∃ g, f = g + 1 ∧ pcd K g false (j + 1) (ppo 10016 (pjo cs p).1 (pjo cs p).2.tail).1 (ppo 10016 (pjo cs p).1 (pjo cs p).2.tail).2 = some r := by
  cases f with
  | zero => cases h
  | succ g =>
    refine ⟨g, rfl, ?_⟩
    rw [← h]
    symm
    show (if K j = 10015 then _ else if K j = 10014 then _ else if K j = 20041 ∧ 0 < brn p then _ else _) = _
    rw [if_neg (by omega), if_neg (by omega), if_pos ⟨c, b⟩]
theorem l_closes {d N j0 : Nat} {σ : zS} {Q : zS → Prop} {K S : Nat → Nat} {r : (Nat × Nat) ⊕ (Nat × List Nat)} (h1 : ∀ f j cs p υ, j0 ≤ j → pcd K f false j cs p = some r → p.head? ≠ some 10016 → ¬ (K j = 20041 ∧ 0 < brn p) → kCs υ K S N j cs p → Fg pC σ υ → Q υ) : ∀ (m i j f : Nat) (cs p : List Nat) (τ : zS), j0 ≤ j → opn p ≤ m → pcd K f false j cs p = some r → i + opn p ≤ 8 → p.head? ≠ some 10016 → kCs τ K S N j cs p → Fg pC σ τ → zk (d + 2) 47 6 [.ref 169, .int (nI i)] [] τ (fun r t => r = none ∧ Q t) := by
  intro m
  induction m with
  | zero =>
    intro i j f cs p τ hj0 hm hr hi hh hc hF
    have hb := brn_o p
    have h := h1 f j cs p τ hj0 hr hh (fun z => by omega) hc hF
    have t4 := hc.2.2.2.1
    rw [show opn p = 0 by omega] at t4
    refine r_il1 zi_47_6 rfl ?_
    refine r_push zi_47_7 rfl ?_
    refine n_ic3 (i := i) (j := 8) zi_47_9 rfl (by omega) (by omega) (fun c1 => ?_) (fun c1 => ?_)
    · refine r_ret zi_47_80 rfl ?_
      exact ⟨rfl, h⟩
    · refine r_al0 zi_47_12 rfl ?_
      refine q_getIe zi_47_13 rfl cf_169_4 (v := nI 0) (by first | exact t4 | ((repeat (first | rw [zup_ne (by first | decide | omega)] | rw [zup_nj (by first | decide | omega)] | rw [fil_ne (by first | decide | omega)])) <;> exact t4) | (simp [up_rd, fil_rd]; exact t4)) ?_
      refine r_if5 zi_47_16 rfl (fun _ => ?_) (fun c => absurd (by decide) c)
      refine r_ret zi_47_80 rfl ?_
      exact ⟨rfl, h⟩
  | succ m ih =>
    intro i j f cs p τ hj0 hm hr hi hh hc hF
    obtain ⟨t1, t2, t3, t4, t5, t6, t7, t8⟩ := id hc
    have hb := tko_b (t1.2.2.2.2.2.2 j)
    have htok : ∀ (Q2 : Int32 → zS → Prop), Q2 (nI (K j)) τ → zI1 (d + 1) 103 [.ref 170] τ Q2 := fun Q2 h2 => s_tok t1 h2
    have hb := brn_o p
    by_cases c : K j = 20041 ∧ 0 < brn p
    · have hjn := kTk_ne t1 (by omega)
      obtain ⟨g, rfl, hr2⟩ := pcd_c hr c.1 c.2
      obtain ⟨ej, et⟩ := pjo_top (cs := cs) t7 hh
      have ebr : brn (pjo cs p).2 = brn p := by unfold pjo; rw [ppo_br (by decide), ppo_br (by decide)]
      have eop : opn (pjo cs p).2 = opn p := by unfold pjo; rw [ppo_oe (by decide), ppo_oe (by decide)]
      obtain ⟨q, eq⟩ := et.resolve_left (fun z => by rw [z] at ebr; have : brn [] = 0 := rfl; omega)
      rw [eq] at ebr eop hr2
      rw [List.tail_cons] at hr2
      have eo2 : opn (20040 :: q) = opn q + 1 := Nat.add_comm _ _
      have hjs : ∀ (Q2 : zS → Prop), (∀ υ, Fg pC τ υ → kCs υ K S N j (pjo cs p).1 (20040 :: q) → Q2 υ) → zV1 (d + 1) 49 [.ref 169, .int 0] τ Q2 := fun Q2 h2 => s_joins (g := false) rfl hc (fun υ x y => h2 υ x (by
        have e : pjf false cs p = pjo cs p := ej.symm
        rw [e] at y; rw [← eq]; exact y))
      have hnew : ∀ υ, Fg pC τ υ → kCs υ K S N j (pjo cs p).1 (20040 :: q) → kCs (up (up (up υ 169 3 (nI q.length)) 169 4 (nI (opn q))) 170 3 (nI (j + 1))) K S N (j + 1) (pjo cs p).1 q := fun υ x y => by
        obtain ⟨y1, y2, y3, y4, y5, y6, y7, y8⟩ := y
        refine ⟨kTk_m y1 ((((Fg.rf (P := pC)).put (by unfold pC; omega)).put (by unfold pC; omega)).put (by unfold pC; omega)) zup_eq hjn, kDc_f y2 (((zup_ne (by decide)).trans (zup_ne (by decide))).trans (zup_ne (by decide))) (fun b => ((zup_ne (by decide)).trans (zup_ne (by decide))).trans (zup_ne (by decide))), ((zup_ne (by decide)).trans (zup_nj (by decide))).trans zup_eq, (zup_ne (by decide)).trans zup_eq, kPl_f (fun b => ((zup_ne (by decide)).trans (zup_ne (by decide))).trans (zup_ne (by decide))) q y5.2, by rw [List.length_cons] at y6; omega, y7.1, by omega⟩
      have hns := fun υ x y (Q2 : zS → Prop) h2 => s_nots (d := d) (Q := Q2) (hnew υ x y) h2
      have hop := ppo_op (x := 10016) q (pjo cs p).1
      have ih := fun υ x y => ih (i + 1) (j + 1) g _ _ υ (by omega) (by omega) hr2 (by omega) (ppo_h q (pjo cs p).1) y x
      have h3 : ∀ υ, kCs υ K S N j (pjo cs p).1 (20040 :: q) → υ 169 3 = nI (q.length + 1) := fun υ y => y.2.2.1
      have h4 : ∀ υ (a : Int32), kCs υ K S N j (pjo cs p).1 (20040 :: q) → up υ 169 3 a 169 4 = nI (opn q + 1) := fun υ a y => (zup_nj (by decide)).trans (y.2.2.2.1.trans (by rw [eo2]))
      have h5 : ∀ υ (a b : Int32), kCs υ K S N j (pjo cs p).1 (20040 :: q) → up (up υ 169 3 a) 169 4 b 170 3 = nI j := fun υ a b y => ((zup_ne (by decide)).trans (zup_ne (by decide))).trans y.1.2.2.2.2.1
      have hF2 : ∀ υ ρ, Fg pC τ υ → Fg pC (up (up (up υ 169 3 (nI q.length)) 169 4 (nI (opn q))) 170 3 (nI (j + 1))) ρ → Fg pC σ ρ := fun υ ρ x y => ((((hF.tr x).put (by unfold pC; omega)).put (by unfold pC; omega)).put (by unfold pC; omega)).tr y
      have c1 := c.1
      have ho : 0 < opn p := by omega
      generalize opn p = o at *
      generalize K j = k at *
      generalize q.length = qm at *
      generalize opn q = qo at *
      refine r_il1 zi_47_6 rfl ?_
      refine r_push zi_47_7 rfl ?_
      refine n_ic3 (i := i) (j := 8) zi_47_9 rfl (by omega) (by omega) (fun c => absurd c (by omega)) (fun _ => ?_)
      refine r_al0 zi_47_12 rfl ?_
      refine q_getIe zi_47_13 rfl cf_169_4 (v := nI o) (by first | exact t4 | ((repeat (first | rw [zup_ne (by first | decide | omega)] | rw [zup_nj (by first | decide | omega)] | rw [fil_ne (by first | decide | omega)])) <;> exact t4) | (simp [up_rd, fil_rd]; exact t4)) ?_
      refine n_if5 (i := o) zi_47_16 rfl (by omega) (fun c => absurd c (by omega)) (fun _ => ?_)
      refine r_al0 zi_47_19 rfl ?_
      refine q_getR zi_47_20 rfl cf_169_0 ?_
      refine q_cIV zi_47_23 rfl rfl rfl rfl rfl rfl rfl cf_170_0.ob (htok _ ?_)
      show zk _ _ 26 _ _ _ _
      refine r_push zi_47_26 rfl ?_
      refine n_ic1 (i := k) (j := 20041) zi_47_29 rfl (by omega) (by omega) (fun c => absurd c (by omega)) (fun _ => ?_)
      refine r_al0 zi_47_32 rfl ?_
      refine r_push zi_47_33 rfl ?_
      refine q_cVV zi_47_34 rfl rfl rfl rfl rfl rfl rfl cf_169_0.ob (hjs _ (fun υ x1 x2 => ?_))
      show zk _ _ 37 _ _ _ _
      refine r_al0 zi_47_37 rfl ?_
      refine r_dupR zi_47_38 rfl ?_
      refine q_getIe zi_47_39 rfl cf_169_3 (v := nI (qm+1)) (by first | exact h3 υ x2 | ((repeat (first | rw [zup_ne (by first | decide | omega)] | rw [zup_nj (by first | decide | omega)] | rw [fil_ne (by first | decide | omega)])) <;> exact h3 υ x2) | (simp [up_rd, fil_rd]; exact h3 υ x2)) ?_
      refine r_push zi_47_42 rfl ?_
      refine r_b1 zi_47_43 rfl ?_
      rw [show (nI (qm+1) - 1 : Int32) = nI (qm+1 - 1) from pk_sub (a := qm+1) (b := 1) (by omega)]
      refine q_put zi_47_44 rfl cf_169_3 rfl ?_
      refine r_al0 zi_47_47 rfl ?_
      refine r_dupR zi_47_48 rfl ?_
      refine q_getIe zi_47_49 rfl cf_169_4 (v := nI (qo+1)) (by first | exact (h4 υ _ x2) | ((repeat (first | rw [zup_ne (by first | decide | omega)] | rw [zup_nj (by first | decide | omega)] | rw [fil_ne (by first | decide | omega)])) <;> exact (h4 υ _ x2)) | (simp [up_rd, fil_rd]; exact (h4 υ _ x2))) ?_
      refine r_push zi_47_52 rfl ?_
      refine r_b1 zi_47_53 rfl ?_
      rw [show (nI (qo+1) - 1 : Int32) = nI (qo+1 - 1) from pk_sub (a := qo+1) (b := 1) (by omega)]
      refine q_put zi_47_54 rfl cf_169_4 rfl ?_
      refine r_al0 zi_47_57 rfl ?_
      refine q_getR zi_47_58 rfl cf_169_0 ?_
      refine r_dupR zi_47_61 rfl ?_
      refine q_getIe zi_47_62 rfl cf_170_3 (v := nI j) (by first | exact (h5 υ _ _ x2) | ((repeat (first | rw [zup_ne (by first | decide | omega)] | rw [zup_nj (by first | decide | omega)] | rw [fil_ne (by first | decide | omega)])) <;> exact (h5 υ _ _ x2)) | (simp [up_rd, fil_rd]; exact (h5 υ _ _ x2))) ?_
      refine r_push zi_47_65 rfl ?_
      refine r_b0 zi_47_66 rfl ?_
      rw [show (nI j + 1 : Int32) = nI (j + 1) from nI_add _ _]
      refine q_put zi_47_67 rfl cf_170_3 rfl ?_
      refine r_al0 zi_47_70 rfl ?_
      refine q_cVV zi_47_71 rfl rfl rfl rfl rfl rfl rfl cf_169_0.ob (hns υ x1 x2 _ (fun ρ y1 y2 => ?_))
      show zk _ _ 74 _ _ _ _
      refine r_in1 zi_47_74 rfl ?_
      rw [show (nI i + 1 : Int32) = nI (i + 1) from nI_add _ _]
      refine r_goto zi_47_77 rfl ?_
      exact ih ρ (hF2 υ ρ x1 y1) y2
    · have h := h1 f j cs p τ hj0 hr hh c hc hF
      have hpb := pok_b p t7 hh
      have c' : ¬ (K j = 20041 ∧ 0 < opn p) := fun z => c ⟨z.1, by omega⟩
      generalize opn p = o at *
      generalize K j = k at *
      refine r_il1 zi_47_6 rfl ?_
      refine r_push zi_47_7 rfl ?_
      refine n_ic3 (i := i) (j := 8) zi_47_9 rfl (by omega) (by omega) (fun c1 => ?_) (fun c1 => ?_)
      · refine r_ret zi_47_80 rfl ?_
        exact ⟨rfl, h⟩
      · refine r_al0 zi_47_12 rfl ?_
        refine q_getIe zi_47_13 rfl cf_169_4 (v := nI o) (by first | exact t4 | ((repeat (first | rw [zup_ne (by first | decide | omega)] | rw [zup_nj (by first | decide | omega)] | rw [fil_ne (by first | decide | omega)])) <;> exact t4) | (simp [up_rd, fil_rd]; exact t4)) ?_
        refine n_if5 (i := o) zi_47_16 rfl (by omega) (fun c2 => ?_) (fun c2 => ?_)
        · refine r_ret zi_47_80 rfl ?_
          exact ⟨rfl, h⟩
        · refine r_al0 zi_47_19 rfl ?_
          refine q_getR zi_47_20 rfl cf_169_0 ?_
          refine q_cIV zi_47_23 rfl rfl rfl rfl rfl rfl rfl cf_170_0.ob (htok _ ?_)
          show zk _ _ 26 _ _ _ _
          refine r_push zi_47_26 rfl ?_
          refine n_ic1 (i := k) (j := 20041) zi_47_29 rfl (by omega) (by omega) (fun c4 => ?_) (fun c4 => ?_)
          · refine r_ret zi_47_80 rfl ?_
            exact ⟨rfl, h⟩
          · exfalso; omega
theorem s_closes {d N f j : Nat} {σ : zS} {Q : zS → Prop} {K S : Nat → Nat} {r : (Nat × Nat) ⊕ (Nat × List Nat)} {cs p : List Nat} (hr : pcd K f false j (ppo 10016 cs p).1 (ppo 10016 cs p).2 = some r) (hc : kCs σ K S N j cs p) (h1 : ∀ f i cs p υ, j ≤ i → pcd K f false i cs p = some r → p.head? ≠ some 10016 → ¬ (K i = 20041 ∧ 0 < brn p) → kCs υ K S N i cs p → Fg pC σ υ → Q υ) : zV1 (d + 2) 47 [.ref 169] σ Q := by
  have key := fun υ x y => l_closes (d := d) h1 8 0 j f _ _ υ (Nat.le_refl _) (by have := hc.2.2.2.2.2.2.2; have := ppo_op (x := 10016) p cs; omega) hr (by have := hc.2.2.2.2.2.2.2; have := ppo_op (x := 10016) p cs; omega) (ppo_h p cs) y x
  show zk _ _ 0 [.ref 169, zun] [] _ _
  refine r_al0 zi_47_0 rfl ?_
  refine q_cVV zi_47_1 rfl rfl rfl rfl rfl rfl rfl cf_169_0.ob (s_nots hc (fun υ x1 x2 => ?_))
  show zk _ _ 4 _ _ _ _
  refine r_push zi_47_4 rfl ?_
  refine r_is1 zi_47_5 rfl ?_
  exact key υ x1 x2

