/-! B in the class, whole -/
theorem pam_len {K : Nat → Nat} : ∀ (f : Nat) (w : Option Nat) (j : Nat) (cs : List Nat) (i : Nat) (ds : List Nat), pam K f w j cs = some (.inr (i, ds)) → ds.length + j ≤ cs.length + w.toList.length + i ∧ j ≤ i
  | 0, w, j, cs, i, ds, h => by cases h
  | f + 1, w, j, cs, i, ds, h => by
    replace h : (if K j = 20042 then (if pun (K (j + 1)) = true then pam K f w (j + 2) (cs ++ [K (j + 1)] ++ [20042]) else some (.inl (1, j + 1))) else if K j = 20047 then (if 10000 ≤ K (j + 1) then some (.inl (1, j + 1)) else if K (j + 1) = 0 then some (.inl (2, j + 1)) else pam K f w (j + 2) (cs ++ [K (j + 1)] ++ [20047])) else if K j = 20043 ∨ K j = 20045 then (if pun (K (j + 1)) = true then pam K f (some (K j)) (j + 2) (cs ++ w.toList ++ [K (j + 1)]) else some (.inl (1, j + 1))) else some (.inr (j, cs ++ w.toList))) = some (.inr (i, ds)) := h
    have l2 : ∀ a b : Nat, (cs ++ [a] ++ [b]).length = cs.length + 2 := fun a b => by rw [List.length_append, List.length_append]; rfl
    have l3 : ∀ a : Nat, (cs ++ w.toList ++ [a]).length = cs.length + w.toList.length + 1 := fun a => by rw [List.length_append, List.length_append]; rfl
    have l4 : ∀ a : Nat, (some a).toList.length = 1 := fun a => rfl
    split at h
    · split at h
      · have := pam_len f _ _ _ _ _ h
        rw [l2] at this; omega
      · cases h
    · split at h
      · split at h
        · cases h
        · split at h
          · cases h
          · have := pam_len f _ _ _ _ _ h
            rw [l2] at this; omega
      · split at h
        · split at h
          · have := pam_len f _ _ _ _ _ h
            rw [l3, l4] at this; omega
          · cases h
        · have e := Option.some.inj h
          injection e with e
          injection e with e1 e2
          subst e1; subst e2
          rw [List.length_append]; omega
theorem pe_len {K : Nat → Nat} {f j i : Nat} {cs ds : List Nat} (h : pe K f j cs = some (.inr (i, ds))) : ds.length + j ≤ cs.length + i ∧ j < i := by
  unfold pe at h
  split at h
  · have h := pam_len f _ _ _ _ _ h
    rw [List.length_append] at h
    change _ ≤ cs.length + 1 + 0 + i ∧ _ at h
    omega
  · cases h
theorem ppo_nh {p cs : List Nat} (h : pok p) (hh : p.head? ≠ some 10016) : (ppo 10015 cs p).2.head? ≠ some 10016 := by
  cases p with
  | nil => exact hh
  | cons x q =>
    unfold ppo
    split
    · rename_i e
      rcases h.2 with e2 | e2 | ⟨_, e2, e3⟩ | ⟨e2, _⟩
      · omega
      · omega
      · cases q with
        | nil => exact e3
        | cons y r =>
          unfold ppo
          rw [if_neg (fun z => e2 (by rw [z]; rfl))]
          exact e3
      · omega
    · exact hh
theorem l_kcd3 {d N j0 f0 i : Nat} {σ τ0 : zS} {Q : Int32 → zS → Prop} {K S : Nat → Nat} {r : (Nat × Nat) ⊕ (Nat × List Nat)} {cs0 p0 : List Nat} {u2 u3 : Value} (h1 : ∀ j cs υ, r = .inr (j, cs) → Fg pC σ υ → kTk υ K S N j → kDc υ cs → cs.length ≤ j → Q 1 υ) (h0 : ∀ n i υ, r = .inl (n, i) → Fg (pF pC) σ υ → υ 170 4 = nI n → υ 170 5 = nI (S i) → Q 0 υ) (hi : i < 1000) (hr0 : pcd K f0 false j0 (ppo 10016 cs0 p0).1 (ppo 10016 cs0 p0).2 = some r) (hc0 : kCs τ0 K S N j0 cs0 p0) (hF0 : Fg pC σ τ0) (hback : ∀ f j cs p υ u2 u3, j0 < j → pcd K f true j cs p = some r → kCs υ K S N j cs p → Fg pC σ υ → zk (d + 4) 45 12 [.ref 169, .int (nI (i + 1)), u2, u3] [] υ (fun r t => ∃ v, r = some v ∧ Q v t)) : zk (d + 4) 45 95 [.ref 169, .int (nI i), u2, u3] [] τ0 (fun r t => ∃ v, r = some v ∧ Q v t) := by
  have hcl : ∀ (Q2 : zS → Prop), (∀ f j cs p υ, j0 ≤ j → pcd K f false j cs p = some r → p.head? ≠ some 10016 → ¬ (K j = 20041 ∧ 0 < brn p) → kCs υ K S N j cs p → Fg pC σ υ → Q2 υ) → zV1 (d + 3) 47 [.ref 169] τ0 Q2 := fun Q2 h2 => s_closes (d := d + 1) hr0 hc0 (fun f i cs p υ g1 g2 g3 g4 g5 g6 => h2 f i cs p υ g1 g2 g3 g4 g5 (hF0.tr g6))
  clear hr0 hc0
  have key : ∀ f j cs p υ u3, j0 ≤ j → pcd K f false j cs p = some r → p.head? ≠ some 10016 → ¬ (K j = 20041 ∧ 0 < brn p) → kCs υ K S N j cs p → Fg pC σ υ → zk (d + 4) 45 99 [.ref 169, .int (nI i), u2, u3] [] υ (fun r t => ∃ v, r = some v ∧ Q v t) := by
    intro f j cs p υ u3 hj hr hh hnc hc hF
    obtain ⟨t1, t2, t3, t4, t5, t6, t7, t8⟩ := id hc
    have hN := t1.2.2.1
    have hjN := t1.2.2.2.2.2.1
    have hb := tko_b (t1.2.2.2.2.2.2 j)
    have hne := fun z => kTk_ne t1 z
    have htok : ∀ (Q2 : Int32 → zS → Prop), Q2 (nI (K j)) υ → zI1 (d + 3) 103 [.ref 170] υ Q2 := fun Q2 h2 => s_tok t1 h2
    cases f with
    | zero => cases hr
    | succ f =>
    replace hr : (if K j = 10015 then pcd K f true (j + 1) (ppo 10015 cs p).1 (10015 :: (ppo 10015 cs p).2) else if K j = 10014 then pcd K f true (j + 1) (pjo cs p).1 (10014 :: (pjo cs p).2) else if K j = 20041 ∧ 0 < brn p then pcd K f false (j + 1) (ppo 10016 (pjo cs p).1 (pjo cs p).2.tail).1 (ppo 10016 (pjo cs p).1 (pjo cs p).2.tail).2 else if brn p = 0 then some (.inr (j, (pjo cs p).1)) else some (.inl (1, j))) = some r := hr
    have hpush : ∀ (ρ : zS) (x : Nat) (ds q : List Nat), j < N → Fg pC σ ρ → kCs ρ K S N j ds q → x = 10015 ∨ x = 10014 → pok (x :: q) → kCs (up (up (up ρ 176 q.length (nI x)) 169 3 (nI (q.length + 1))) 170 3 (nI (j + 1))) K S N (j + 1) ds (x :: q) ∧ Fg pC σ (up (up (up ρ 176 q.length (nI x)) 169 3 (nI (q.length + 1))) 170 3 (nI (j + 1))) := fun ρ x ds q hjn g0 g hx hpk => by
      obtain ⟨y1, y2, y3, y4, y5, y6, y7, y8⟩ := g
      have eo : opn (x :: q) = opn q := by
        show (if x = 10016 ∨ x = 20040 then 1 else 0) + opn q = _
        rw [if_neg (by omega), Nat.zero_add]
      refine ⟨⟨kTk_m y1 ((((Fg.rf (P := pC)).put (by unfold pC; omega)).put (by unfold pC; omega)).put (by unfold pC; omega)) zup_eq hjn, kDc_f y2 (((zup_ne (by decide)).trans (zup_ne (by decide))).trans (zup_ne (by decide))) (fun b => ((zup_ne (by decide)).trans (zup_ne (by decide))).trans (zup_ne (by decide))), (zup_ne (by decide)).trans zup_eq, ?_, ⟨((zup_ne (by decide)).trans (zup_ne (by decide))).trans zup_eq, kPl_f (fun b => (zup_ne (by decide)).trans (zup_ne (by decide))) q (kPl_up q (Nat.le_refl _) y5)⟩, by rw [List.length_cons]; omega, hpk, by rw [eo]; exact y8⟩, ((g0.put (by unfold pC; omega)).put (by unfold pC; omega)).put (by unfold pC; omega)⟩
      rw [eo]
      exact (((zup_ne (by decide)).trans (zup_nj (by decide))).trans (zup_ne (by decide))).trans y4
    have h170 : ∀ (ρ : zS) (m : Nat) (a b : Int32), kTk ρ K S N j → (up (up ρ 176 m a) 169 3 b) 170 3 = nI j := fun ρ m a b g => ((zup_ne (by decide)).trans (zup_ne (by decide))).trans g.2.2.2.2.1
    obtain ⟨ej, et⟩ := pjo_top (cs := cs) t7 hh
    have hjs : ∀ (Q2 : zS → Prop), (∀ ρ, Fg pC σ ρ → kCs ρ K S N j (pjo cs p).1 (pjo cs p).2 → Q2 ρ) → zV1 (d + 3) 49 [.ref 169, .int 0] υ Q2 := fun Q2 h2 => s_joins (d := d + 2) (g := false) rfl hc (fun ρ x y => h2 ρ (hF.tr x) (by
      have e : pjf false cs p = pjo cs p := ej.symm
      rw [e] at y; exact y))
    have hop : ∀ (ρ : zS) ds q, kCs ρ K S N j ds q → q.length ≤ 26 := fun ρ ds q g => pok_len g.2.2.2.2.2.2.1 g.2.2.2.2.2.2.2
    by_cases c1 : K j = 10015
    · rw [if_pos c1] at hr
      have hjn := hne (by omega)
      have hja : ∀ (Q2 : zS → Prop), (∀ ρ, Fg pC σ ρ → kCs ρ K S N j (ppo 10015 cs p).1 (ppo 10015 cs p).2 → Q2 ρ) → zV1 (d + 3) 49 [.ref 169, .int 1] υ Q2 := fun Q2 h2 => s_joins (d := d + 2) (g := true) rfl hc (fun ρ x y => h2 ρ (hF.tr x) y)
      have hpk : pok (10015 :: (ppo 10015 cs p).2) := ⟨ppo_ok p cs t7, Or.inr (Or.inr (Or.inl ⟨rfl, ppo_h p cs, ppo_nh t7 hh⟩))⟩
      rw [c1] at htok
      generalize ppo 10015 cs p = dq at *
      obtain ⟨ds, q⟩ := dq
      simp only at hr hja hpk
      have hb2 := fun ρ u2 u3 x y => hback f (j + 1) ds (10015 :: q) _ u2 u3 (by omega) hr (hpush ρ 10015 ds q hjn x y (Or.inl rfl) hpk).1 (hpush ρ 10015 ds q hjn x y (Or.inl rfl) hpk).2
      refine r_al0 zi_45_99 rfl ?_
      refine q_getR zi_45_100 rfl cf_169_0 ?_
      refine q_cIV zi_45_103 rfl rfl rfl rfl rfl rfl rfl cf_170_0.ob (htok _ ?_)
      show zk _ _ 106 _ _ _ _
      refine r_is3 zi_45_106 rfl ?_
      refine r_al0 zi_45_107 rfl ?_
      refine r_il3 zi_45_108 rfl ?_
      refine r_push zi_45_109 rfl ?_
      refine r_ic1 zi_45_112 rfl (fun c => absurd (by decide) c) (fun _ => ?_)
      refine r_push zi_45_115 rfl ?_
      refine r_goto zi_45_116 rfl ?_
      refine q_cVV zi_45_120 rfl rfl rfl rfl rfl rfl rfl cf_169_0.ob (hja _ (fun ρ x1 x2 => ?_))
      show zk _ _ 123 _ _ _ _
      refine r_il3 zi_45_123 rfl ?_
      refine r_push zi_45_124 rfl ?_
      refine r_ic0 zi_45_127 rfl (fun _ => ?_) (fun c => absurd (by decide) c)
      refine r_al0 zi_45_161 rfl ?_
      refine r_il3 zi_45_162 rfl ?_
      refine q_cVV zi_45_163 rfl rfl rfl rfl rfl rfl rfl cf_169_0.ob (s_await (m := q.length) x2.2.2.1 (by have := hop ρ ds q x2; omega) ?_)
      show zk _ _ 166 _ _ _ _
      refine r_al0 zi_45_166 rfl ?_
      refine q_getR zi_45_167 rfl cf_169_0 ?_
      refine r_dupR zi_45_170 rfl ?_
      refine q_getIe zi_45_171 rfl cf_170_3 (v := nI j) (by first | exact h170 ρ _ _ _ x2.1 | ((repeat (first | rw [zup_ne (by first | decide | omega)] | rw [zup_nj (by first | decide | omega)] | rw [fil_ne (by first | decide | omega)])) <;> exact h170 ρ _ _ _ x2.1) | (simp [up_rd, fil_rd]; exact h170 ρ _ _ _ x2.1)) ?_
      refine r_push zi_45_174 rfl ?_
      refine r_b0 zi_45_175 rfl ?_
      rw [show (nI j + 1 : Int32) = nI (j + 1) from nI_add _ _]
      refine q_put zi_45_176 rfl cf_170_3 rfl ?_
      refine r_in1 zi_45_179 rfl ?_
      rw [show (nI i + 1 : Int32) = nI (i + 1) from nI_add _ _]
      refine r_goto zi_45_182 rfl ?_
      exact hb2 ρ _ _ x1 x2
    · rw [if_neg c1] at hr
      by_cases c2 : K j = 10014
      · rw [if_pos c2] at hr
        have hjn := hne (by omega)
        have hpk : pok (10014 :: (pjo cs p).2) := by
          refine ⟨ppo_ok _ _ (ppo_ok p cs t7), Or.inr (Or.inr (Or.inr ⟨rfl, ?_⟩))⟩
          rcases et with e | ⟨q, e⟩
          · rw [e]; exact ⟨fun z => (by cases z), fun z => (by cases z), fun z => (by cases z)⟩
          · rw [e]; exact ⟨fun z => absurd (Option.some.inj z) (by decide), fun z => absurd (Option.some.inj z) (by decide), fun z => absurd (Option.some.inj z) (by decide)⟩
        rw [c2] at htok
        clear et ej
        generalize pjo cs p = dq at *
        obtain ⟨ds, q⟩ := dq
        simp only at hr hjs hpk
        have hb2 := fun ρ u2 u3 x y => hback f (j + 1) ds (10014 :: q) _ u2 u3 (by omega) hr (hpush ρ 10014 ds q hjn x y (Or.inr rfl) hpk).1 (hpush ρ 10014 ds q hjn x y (Or.inr rfl) hpk).2
        refine r_al0 zi_45_99 rfl ?_
        refine q_getR zi_45_100 rfl cf_169_0 ?_
        refine q_cIV zi_45_103 rfl rfl rfl rfl rfl rfl rfl cf_170_0.ob (htok _ ?_)
        show zk _ _ 106 _ _ _ _
        refine r_is3 zi_45_106 rfl ?_
        refine r_al0 zi_45_107 rfl ?_
        refine r_il3 zi_45_108 rfl ?_
        refine r_push zi_45_109 rfl ?_
        refine r_ic1 zi_45_112 rfl (fun _ => ?_) (fun c => absurd c (by decide))
        refine r_push zi_45_119 rfl ?_
        refine q_cVV zi_45_120 rfl rfl rfl rfl rfl rfl rfl cf_169_0.ob (hjs _ (fun ρ x1 x2 => ?_))
        show zk _ _ 123 _ _ _ _
        refine r_il3 zi_45_123 rfl ?_
        refine r_push zi_45_124 rfl ?_
        refine r_ic0 zi_45_127 rfl (fun c => absurd c (by decide)) (fun _ => ?_)
        refine r_il3 zi_45_130 rfl ?_
        refine r_push zi_45_131 rfl ?_
        refine r_ic0 zi_45_134 rfl (fun _ => ?_) (fun c => absurd (by decide) c)
        refine r_al0 zi_45_161 rfl ?_
        refine r_il3 zi_45_162 rfl ?_
        refine q_cVV zi_45_163 rfl rfl rfl rfl rfl rfl rfl cf_169_0.ob (s_await (m := q.length) x2.2.2.1 (by have := hop ρ ds q x2; omega) ?_)
        show zk _ _ 166 _ _ _ _
        refine r_al0 zi_45_166 rfl ?_
        refine q_getR zi_45_167 rfl cf_169_0 ?_
        refine r_dupR zi_45_170 rfl ?_
        refine q_getIe zi_45_171 rfl cf_170_3 (v := nI j) (by first | exact h170 ρ _ _ _ x2.1 | ((repeat (first | rw [zup_ne (by first | decide | omega)] | rw [zup_nj (by first | decide | omega)] | rw [fil_ne (by first | decide | omega)])) <;> exact h170 ρ _ _ _ x2.1) | (simp [up_rd, fil_rd]; exact h170 ρ _ _ _ x2.1)) ?_
        refine r_push zi_45_174 rfl ?_
        refine r_b0 zi_45_175 rfl ?_
        rw [show (nI j + 1 : Int32) = nI (j + 1) from nI_add _ _]
        refine q_put zi_45_176 rfl cf_170_3 rfl ?_
        refine r_in1 zi_45_179 rfl ?_
        rw [show (nI i + 1 : Int32) = nI (i + 1) from nI_add _ _]
        refine r_goto zi_45_182 rfl ?_
        exact hb2 ρ _ _ x1 x2
      · rw [if_neg c2, if_neg hnc] at hr
        have eop : opn (pjo cs p).2 = opn p := by unfold pjo; rw [ppo_oe (by decide), ppo_oe (by decide)]
        have h4 : ∀ ρ, kCs ρ K S N j (pjo cs p).1 (pjo cs p).2 → ρ 169 4 = nI (opn p) := fun ρ g => by rw [← eop]; exact g.2.2.2.1
        by_cases c3 : brn p = 0
        · rw [if_pos c3] at hr
          have er := Option.some.inj hr
          rw [pok_b p t7 hh c3] at h4
          have h1 := fun ρ x (y : kCs ρ K S N j (pjo cs p).1 (pjo cs p).2) => h1 j _ ρ er.symm x y.1 y.2.1 (by have := y.2.2.2.2.2.1; omega)
          generalize K j = k at *
          refine r_al0 zi_45_99 rfl ?_
          refine q_getR zi_45_100 rfl cf_169_0 ?_
          refine q_cIV zi_45_103 rfl rfl rfl rfl rfl rfl rfl cf_170_0.ob (htok _ ?_)
          show zk _ _ 106 _ _ _ _
          refine r_is3 zi_45_106 rfl ?_
          refine r_al0 zi_45_107 rfl ?_
          refine r_il3 zi_45_108 rfl ?_
          refine r_push zi_45_109 rfl ?_
          refine n_ic1 (i := k) (j := 10015) zi_45_112 rfl (by omega) (by omega) (fun _ => ?_) (fun c => absurd c (by omega))
          refine r_push zi_45_119 rfl ?_
          refine q_cVV zi_45_120 rfl rfl rfl rfl rfl rfl rfl cf_169_0.ob (hjs _ (fun ρ x1 x2 => ?_))
          show zk _ _ 123 _ _ _ _
          refine r_il3 zi_45_123 rfl ?_
          refine r_push zi_45_124 rfl ?_
          refine n_ic0 (i := k) (j := 10015) zi_45_127 rfl (by omega) (by omega) (fun c => absurd c (by omega)) (fun _ => ?_)
          refine r_il3 zi_45_130 rfl ?_
          refine r_push zi_45_131 rfl ?_
          refine n_ic0 (i := k) (j := 10014) zi_45_134 rfl (by omega) (by omega) (fun c => absurd c (by omega)) (fun _ => ?_)
          refine r_al0 zi_45_137 rfl ?_
          refine q_getIe zi_45_138 rfl cf_169_4 (v := nI 0) (by first | exact h4 ρ x2 | ((repeat (first | rw [zup_ne (by first | decide | omega)] | rw [zup_nj (by first | decide | omega)] | rw [fil_ne (by first | decide | omega)])) <;> exact h4 ρ x2) | (simp [up_rd, fil_rd]; exact h4 ρ x2)) ?_
          refine r_if0 zi_45_141 rfl (fun _ => ?_) (fun c => absurd (by decide) c)
          refine r_push zi_45_155 rfl ?_
          refine r_goto zi_45_156 rfl ?_
          refine r_retZ zi_45_160 rfl (by decide) ?_
          exact ⟨_, rfl, h1 ρ x1 x2⟩
        · rw [if_neg c3] at hr
          have er := Option.some.inj hr
          have hbo := brn_o p
          have hfl : ∀ ρ (Q2 : Int32 → zS → Prop), Fg pC σ ρ → kCs ρ K S N j (pjo cs p).1 (pjo cs p).2 → (∀ υ, Q 0 υ → Q2 0 υ) → zI1 (d + 3) 104 [.ref 170, .int 1] ρ Q2 := fun ρ Q2 x y h2 => s_fails y.1 (h2 _ (h0 1 j _ er.symm (kfl x) ((zup_nj (by decide)).trans zup_eq) zup_eq))
          have ho : 0 < opn p := by omega
          generalize opn p = o at *
          generalize K j = k at *
          refine r_al0 zi_45_99 rfl ?_
          refine q_getR zi_45_100 rfl cf_169_0 ?_
          refine q_cIV zi_45_103 rfl rfl rfl rfl rfl rfl rfl cf_170_0.ob (htok _ ?_)
          show zk _ _ 106 _ _ _ _
          refine r_is3 zi_45_106 rfl ?_
          refine r_al0 zi_45_107 rfl ?_
          refine r_il3 zi_45_108 rfl ?_
          refine r_push zi_45_109 rfl ?_
          refine n_ic1 (i := k) (j := 10015) zi_45_112 rfl (by omega) (by omega) (fun _ => ?_) (fun c => absurd c (by omega))
          refine r_push zi_45_119 rfl ?_
          refine q_cVV zi_45_120 rfl rfl rfl rfl rfl rfl rfl cf_169_0.ob (hjs _ (fun ρ x1 x2 => ?_))
          show zk _ _ 123 _ _ _ _
          refine r_il3 zi_45_123 rfl ?_
          refine r_push zi_45_124 rfl ?_
          refine n_ic0 (i := k) (j := 10015) zi_45_127 rfl (by omega) (by omega) (fun c => absurd c (by omega)) (fun _ => ?_)
          refine r_il3 zi_45_130 rfl ?_
          refine r_push zi_45_131 rfl ?_
          refine n_ic0 (i := k) (j := 10014) zi_45_134 rfl (by omega) (by omega) (fun c => absurd c (by omega)) (fun _ => ?_)
          refine r_al0 zi_45_137 rfl ?_
          refine q_getIe zi_45_138 rfl cf_169_4 (v := nI o) (by first | exact h4 ρ x2 | ((repeat (first | rw [zup_ne (by first | decide | omega)] | rw [zup_nj (by first | decide | omega)] | rw [fil_ne (by first | decide | omega)])) <;> exact h4 ρ x2) | (simp [up_rd, fil_rd]; exact h4 ρ x2)) ?_
          refine n_if0 (i := o) zi_45_141 rfl (by omega) (fun c => absurd c (by omega)) (fun _ => ?_)
          refine r_al0 zi_45_144 rfl ?_
          refine q_getR zi_45_145 rfl cf_169_0 ?_
          refine r_push zi_45_148 rfl ?_
          refine q_cIV zi_45_149 rfl rfl rfl rfl rfl rfl rfl cf_170_0.ob (hfl ρ _ x1 x2 (fun υ2 x3 => ?_))
          show zk _ _ 152 _ _ _ _
          refine r_if0 zi_45_152 rfl (fun _ => ?_) (fun c => absurd (by decide) c)
          refine r_push zi_45_159 rfl ?_
          refine r_retZ zi_45_160 rfl (by decide) ?_
          exact ⟨_, rfl, x3⟩
  refine r_al0 zi_45_95 rfl ?_
  refine q_cVV zi_45_96 rfl rfl rfl rfl rfl rfl rfl cf_169_0.ob (hcl _ (fun f j cs p υ y1 y2 y3 y4 y5 y6 => ?_))
  show zk _ _ 99 _ _ _ _
  exact key f j cs p υ _ y1 y2 y3 y4 y5 y6
theorem kCs_a {τ υ : zS} {K S : Nat → Nat} {N j i : Nat} {cs ds p : List Nat} (h : kCs τ K S N j cs p) (hF : Fg pA τ υ) (h1 : kTk υ K S N i) (h2 : kDc υ ds) (hl : ds.length + p.length ≤ i) : kCs υ K S N i ds p := by
  obtain ⟨t1, t2, t3, t4, t5, t6, t7, t8⟩ := h
  exact ⟨h1, h2, (hF 169 3 (by unfold pA; omega)).trans t3, (hF 169 4 (by unfold pA; omega)).trans t4, kPl_f (fun b => hF 176 b (by unfold pA; omega)) p t5, hl, t7, t8⟩
theorem l_kcd2 {d N j0 i : Nat} {σ τ : zS} {Q : Int32 → zS → Prop} {K S : Nat → Nat} {r : (Nat × Nat) ⊕ (Nat × List Nat)} {f j : Nat} {cs p : List Nat} {u2 u3 : Value} (h1 : ∀ j cs υ, r = .inr (j, cs) → Fg pC σ υ → kTk υ K S N j → kDc υ cs → cs.length ≤ j → Q 1 υ) (h0 : ∀ n i υ, r = .inl (n, i) → Fg (pF pC) σ υ → υ 170 4 = nI n → υ 170 5 = nI (S i) → Q 0 υ) (hi : i < 1000) (hj : j0 < j) (hr : (if 20060 ≤ K j ∧ K j ≤ 20062 then (match pe K 401 (j + 1) cs with | none => none | some (.inl x) => some (.inl x) | some (.inr (j2, cs2)) => pcd K f false j2 (ppo 10016 (cs2 ++ [K j]) p).1 (ppo 10016 (cs2 ++ [K j]) p).2) else some (.inl (1, j))) = some r) (hc : kCs τ K S N j cs p) (hF : Fg pC σ τ) (hback : ∀ f j cs p υ u2 u3, j0 < j → pcd K f true j cs p = some r → kCs υ K S N j cs p → Fg pC σ υ → zk (d + 4) 45 12 [.ref 169, .int (nI (i + 1)), u2, u3] [] υ (fun r t => ∃ v, r = some v ∧ Q v t)) : zk (d + 4) 45 35 [.ref 169, .int (nI i), u2, u3] [] τ (fun r t => ∃ v, r = some v ∧ Q v t) := by
  obtain ⟨t1, t2, t3, t4, t5, t6, t7, t8⟩ := id hc
  have hb := tko_b (t1.2.2.2.2.2.2 j)
  have hn5 := t1.2.2.2.2.1
  have htok : ∀ (Q2 : Int32 → zS → Prop), Q2 (nI (K j)) τ → zI1 (d + 3) 103 [.ref 170] τ Q2 := fun Q2 h2 => s_tok t1 h2
  have hw : ∀ (Q2 : Int32 → zS → Prop), (20060 ≤ K j ∧ K j ≤ 20062 → Q2 1 τ) → (¬ (20060 ≤ K j ∧ K j ≤ 20062) → Q2 0 τ) → zI1 (d + 3) 157 [.int (nI (K j)), .int 20060, .int 20062] τ Q2 := fun Q2 g1 g0 => s_within (fun x y => g1 ⟨(nI_leI (a := 20060) (by omega) (by omega)).mp x, (nI_leI (b := 20062) (by omega) (by omega)).mp y⟩) (fun x => g0 (fun y => x ⟨(nI_leI (a := 20060) (by omega) (by omega)).mpr y.1, (nI_leI (b := 20062) (by omega) (by omega)).mpr y.2⟩))
  by_cases c : 20060 ≤ K j ∧ K j ≤ 20062
  · rw [if_pos c] at hr
    have hjn := kTk_ne t1 (by omega)
    have hnx : kTk (up τ 170 3 (nI (j + 1))) K S N (j + 1) := kTk_n t1 (Fg.rf.put (Or.inr (Or.inr ⟨rfl, rfl⟩))) zup_eq hjn
    have hFx : Fg pA τ (up τ 170 3 (nI (j + 1))) := Fg.rf.put (Or.inr (Or.inr ⟨rfl, rfl⟩))
    have hdx : kDc (up τ 170 3 (nI (j + 1))) cs := kDc_f t2 (zup_ne (by decide)) (fun b => zup_ne (by decide))
    cases hp : pe K 401 (j + 1) cs with
    | none => rw [hp] at hr; cases hr
    | some x =>
      rw [hp] at hr
      have ham := fun (Q2 : Int32 → zS → Prop) k1 k0 => s_kam (d := d + 1) (Q := Q2) hp hnx hdx (by omega) k1 k0
      cases x with
      | inl y =>
        have er := Option.some.inj hr
        obtain ⟨n, q⟩ := y
        have h0 := fun υ (x : Fg (pF pA) (up τ 170 3 (nI (j + 1))) υ) g1 g2 => h0 n q υ er.symm (hF.ff.tr ((hFx.ff.tr x).sub (pF_m (fun a b => pA_C)))) g1 g2
        generalize K j = k at *
        refine r_al0 zi_45_35 rfl ?_
        refine q_getR zi_45_36 rfl cf_169_0 ?_
        refine q_cIV zi_45_39 rfl rfl rfl rfl rfl rfl rfl cf_170_0.ob (htok _ ?_)
        show zk _ _ 42 _ _ _ _
        refine r_is2 zi_45_42 rfl ?_
        refine r_il2 zi_45_43 rfl ?_
        refine r_push zi_45_44 rfl ?_
        refine r_push zi_45_47 rfl ?_
        refine r_cIS zi_45_50 rfl rfl rfl rfl rfl rfl (hw _ (fun _ => ?_) (fun z => absurd c z))
        show zk _ _ 53 _ _ _ _
        refine r_if1 zi_45_53 rfl (fun _ => ?_) (fun c => absurd c (by decide))
        refine r_al0 zi_45_65 rfl ?_
        refine q_getR zi_45_66 rfl cf_169_0 ?_
        refine r_dupR zi_45_69 rfl ?_
        refine q_getIe zi_45_70 rfl cf_170_3 (v := nI j) (by first | exact hn5 | ((repeat (first | rw [zup_ne (by first | decide | omega)] | rw [zup_nj (by first | decide | omega)] | rw [fil_ne (by first | decide | omega)])) <;> exact hn5) | (simp [up_rd, fil_rd]; exact hn5)) ?_
        refine r_push zi_45_73 rfl ?_
        refine r_b0 zi_45_74 rfl ?_
        rw [show (nI j + 1 : Int32) = nI (j + 1) from nI_add _ _]
        refine q_put zi_45_75 rfl cf_170_3 rfl ?_
        refine r_al0 zi_45_78 rfl ?_
        refine q_cIV zi_45_79 rfl rfl rfl rfl rfl rfl rfl cf_169_0.ob (ham _ (fun _ _ _ z => by cases z) (fun n2 q2 υ z x1 x2 x3 => ?_))
        show zk _ _ 82 _ _ _ _
        refine r_if1 zi_45_82 rfl (fun c => absurd (by decide) c) (fun _ => ?_)
        refine r_push zi_45_85 rfl ?_
        refine r_retZ zi_45_86 rfl (by decide) ?_
        cases z; exact ⟨_, rfl, h0 υ x1 x2 x3⟩
      | inr y =>
        obtain ⟨j2, cs2⟩ := y
        have hl := pe_len hp
        replace hr : pcd K f false j2 (ppo 10016 (cs2 ++ [K j]) p).1 (ppo 10016 (cs2 ++ [K j]) p).2 = some r := hr
        have hlay : ∀ (υ : zS) (Q2 : zS → Prop), Fg pA (up τ 170 3 (nI (j + 1))) υ → kTk υ K S N j2 → kDc υ cs2 → (∀ ρ, kCs ρ K S N j2 (cs2 ++ [K j]) p → Fg pC σ ρ → Q2 ρ) → zV1 (d + 3) 98 [.ref 173, .int (nI (K j))] υ Q2 := fun υ Q2 x1 x2 x3 k1 => s_lay2 x2 x3 (by have := x2.2.2.1; have := x2.2.2.2.2.2.1; omega) (fun ρ y1 y2 y3 => by
          have hFa : Fg pA τ ρ := (hFx.tr x1).tr (y1.sub (fun a b z => by unfold pL at z; unfold pA; omega))
          exact k1 ρ (kCs_a hc hFa y2 y3 (by rw [List.length_append, List.length_singleton]; omega)) (hF.tr (hFa.sub (fun a b => pA_C))))
        have k3 := fun ρ u2 u3 g1 g2 => l_kcd3 (d := d) (u2 := u2) (u3 := u3) h1 h0 hi hr (cs0 := cs2 ++ [K j]) (p0 := p) (τ0 := ρ) g1 g2 (fun f j cs p υ u2 u3 z => hback f j cs p υ u2 u3 (by omega))
        generalize K j = k at *
        refine r_al0 zi_45_35 rfl ?_
        refine q_getR zi_45_36 rfl cf_169_0 ?_
        refine q_cIV zi_45_39 rfl rfl rfl rfl rfl rfl rfl cf_170_0.ob (htok _ ?_)
        show zk _ _ 42 _ _ _ _
        refine r_is2 zi_45_42 rfl ?_
        refine r_il2 zi_45_43 rfl ?_
        refine r_push zi_45_44 rfl ?_
        refine r_push zi_45_47 rfl ?_
        refine r_cIS zi_45_50 rfl rfl rfl rfl rfl rfl (hw _ (fun _ => ?_) (fun z => absurd c z))
        show zk _ _ 53 _ _ _ _
        refine r_if1 zi_45_53 rfl (fun _ => ?_) (fun c => absurd c (by decide))
        refine r_al0 zi_45_65 rfl ?_
        refine q_getR zi_45_66 rfl cf_169_0 ?_
        refine r_dupR zi_45_69 rfl ?_
        refine q_getIe zi_45_70 rfl cf_170_3 (v := nI j) (by first | exact hn5 | ((repeat (first | rw [zup_ne (by first | decide | omega)] | rw [zup_nj (by first | decide | omega)] | rw [fil_ne (by first | decide | omega)])) <;> exact hn5) | (simp [up_rd, fil_rd]; exact hn5)) ?_
        refine r_push zi_45_73 rfl ?_
        refine r_b0 zi_45_74 rfl ?_
        rw [show (nI j + 1 : Int32) = nI (j + 1) from nI_add _ _]
        refine q_put zi_45_75 rfl cf_170_3 rfl ?_
        refine r_al0 zi_45_78 rfl ?_
        refine q_cIV zi_45_79 rfl rfl rfl rfl rfl rfl rfl cf_169_0.ob (ham _ (fun j3 cs3 υ z x1 x2 x3 x4 => ?_) (fun _ _ _ z => by cases z))
        show zk _ _ 82 _ _ _ _
        refine r_if1 zi_45_82 rfl (fun _ => ?_) (fun c => absurd c (by decide))
        refine r_al0 zi_45_87 rfl ?_
        refine q_getR zi_45_88 rfl cf_169_1 ?_
        refine r_il2 zi_45_91 rfl ?_
        refine q_cVV zi_45_92 rfl rfl rfl rfl rfl rfl rfl cf_173_0.ob (hlay υ _ x1 (by cases z; exact x2) (by cases z; exact x3) (fun ρ y1 y2 => ?_))
        show zk _ _ 95 _ _ _ _
        exact k3 ρ _ _ y1 y2
  · rw [if_neg c] at hr
    have er := Option.some.inj hr
    have hfl : ∀ (Q2 : Int32 → zS → Prop), (∀ υ, Q 0 υ → Q2 0 υ) → zI1 (d + 3) 104 [.ref 170, .int 1] τ Q2 := fun Q2 h2 => s_fails t1 (h2 _ (h0 1 j _ er.symm (kfl hF) ((zup_nj (by decide)).trans zup_eq) zup_eq))
    generalize K j = k at *
    refine r_al0 zi_45_35 rfl ?_
    refine q_getR zi_45_36 rfl cf_169_0 ?_
    refine q_cIV zi_45_39 rfl rfl rfl rfl rfl rfl rfl cf_170_0.ob (htok _ ?_)
    show zk _ _ 42 _ _ _ _
    refine r_is2 zi_45_42 rfl ?_
    refine r_il2 zi_45_43 rfl ?_
    refine r_push zi_45_44 rfl ?_
    refine r_push zi_45_47 rfl ?_
    refine r_cIS zi_45_50 rfl rfl rfl rfl rfl rfl (hw _ (fun z => absurd z c) (fun _ => ?_))
    show zk _ _ 53 _ _ _ _
    refine r_if1 zi_45_53 rfl (fun c => absurd (by decide) c) (fun _ => ?_)
    refine r_al0 zi_45_56 rfl ?_
    refine q_getR zi_45_57 rfl cf_169_0 ?_
    refine r_push zi_45_60 rfl ?_
    refine q_cIV zi_45_61 rfl rfl rfl rfl rfl rfl rfl cf_170_0.ob (hfl _ (fun υ x => ?_))
    show zk _ _ 64 _ _ _ _
    refine r_retZ zi_45_64 rfl (by decide) ?_
    exact ⟨_, rfl, x⟩
theorem l_kcd1 {d N j f i : Nat} {σ τ : zS} {Q : Int32 → zS → Prop} {K S : Nat → Nat} {r : (Nat × Nat) ⊕ (Nat × List Nat)} {cs p : List Nat} {u2 u3 : Value} (h1 : ∀ j cs υ, r = .inr (j, cs) → Fg pC σ υ → kTk υ K S N j → kDc υ cs → cs.length ≤ j → Q 1 υ) (h0 : ∀ n i υ, r = .inl (n, i) → Fg (pF pC) σ υ → υ 170 4 = nI n → υ 170 5 = nI (S i) → Q 0 υ) (hi : i ≤ j) (hr : pcd K f true j cs p = some r) (hc : kCs τ K S N j cs p) (hF : Fg pC σ τ) (hback : ∀ f j' cs p υ u2 u3, j < j' → pcd K f true j' cs p = some r → kCs υ K S N j' cs p → Fg pC σ υ → zk (d + 4) 45 12 [.ref 169, .int (nI (i + 1)), u2, u3] [] υ (fun r t => ∃ v, r = some v ∧ Q v t)) : zk (d + 4) 45 12 [.ref 169, .int (nI i), u2, u3] [] τ (fun r t => ∃ v, r = some v ∧ Q v t) := by
  have hN := hc.1.2.2.1
  have hjN := hc.1.2.2.2.2.2.1
  have hop : ∀ (Q2 : Int32 → zS → Prop), (∀ f i p υ, j ≤ i → pcd K (f + 1) true i cs p = some r → ¬ (K i = 10016 ∨ K i = 20040) → kCs υ K S N i cs p → Fg pC σ υ → Q2 1 υ) → (∀ υ, Q 0 υ → Q2 0 υ) → zI1 (d + 3) 46 [.ref 169] τ Q2 := fun Q2 k1 k0 => s_opens (d := d + 2) hr hc (fun f i p υ g1 g2 g3 g4 g5 => k1 f i p υ g1 g2 g3 g4 (hF.tr g5)) (fun n i υ e x y z => k0 υ (h0 n i υ e (hF.ff.tr x) y z))
  clear hr
  have key : ∀ f q p υ, j ≤ q → pcd K (f + 1) true q cs p = some r → ¬ (K q = 10016 ∨ K q = 20040) → kCs υ K S N q cs p → Fg pC σ υ → zk (d + 4) 45 26 [.ref 169, .int (nI i), u2, u3] [] υ (fun r t => ∃ v, r = some v ∧ Q v t) := fun f q p υ hq hr hn hc hF => by
    obtain ⟨t1, t2, t3, t4, t5, t6, t7, t8⟩ := id hc
    replace hr : (if K q = 10016 ∨ K q = 20040 then _ else match pe K 401 q cs with | none => none | some (.inl x) => some (.inl x) | some (.inr (j1, cs1)) => if 20060 ≤ K j1 ∧ K j1 ≤ 20062 then (match pe K 401 (j1 + 1) cs1 with | none => none | some (.inl x) => some (.inl x) | some (.inr (j2, cs2)) => pcd K f false j2 (ppo 10016 (cs2 ++ [K j1]) p).1 (ppo 10016 (cs2 ++ [K j1]) p).2) else some (.inl (1, j1))) = some r := hr
    rw [if_neg hn] at hr
    cases hp : pe K 401 q cs with
    | none => rw [hp] at hr; cases hr
    | some x =>
      rw [hp] at hr
      have ham := fun (Q2 : Int32 → zS → Prop) k1 k0 => s_kam (d := d + 1) (Q := Q2) hp t1 t2 (by omega) k1 k0
      cases x with
      | inl y =>
        have er := Option.some.inj hr
        obtain ⟨n, w⟩ := y
        have h0 := fun ρ (x : Fg (pF pA) υ ρ) g1 g2 => h0 n w ρ er.symm (hF.ff.tr (x.sub (pF_m (fun a b => pA_C)))) g1 g2
        refine r_al0 zi_45_26 rfl ?_
        refine q_cIV zi_45_27 rfl rfl rfl rfl rfl rfl rfl cf_169_0.ob (ham _ (fun _ _ _ z => by cases z) (fun n2 q2 ρ z x1 x2 x3 => ?_))
        show zk _ _ 30 _ _ _ _
        refine r_if1 zi_45_30 rfl (fun c => absurd (by decide) c) (fun _ => ?_)
        refine r_push zi_45_33 rfl ?_
        refine r_retZ zi_45_34 rfl (by decide) ?_
        cases z; exact ⟨_, rfl, h0 ρ x1 x2 x3⟩
      | inr y =>
        obtain ⟨j1, cs1⟩ := y
        have hl := pe_len hp
        replace hr : (if 20060 ≤ K j1 ∧ K j1 ≤ 20062 then (match pe K 401 (j1 + 1) cs1 with | none => none | some (.inl x) => some (.inl x) | some (.inr (j2, cs2)) => pcd K f false j2 (ppo 10016 (cs2 ++ [K j1]) p).1 (ppo 10016 (cs2 ++ [K j1]) p).2) else some (.inl (1, j1))) = some r := hr
        have k2 := fun ρ u2 u3 g1 g2 => l_kcd2 (d := d) (j0 := j) (u2 := u2) (u3 := u3) (τ := ρ) h1 h0 (by omega) (by omega) hr g1 g2 hback
        have hcs := fun ρ (x1 : Fg pA υ ρ) (x2 : kTk ρ K S N j1) (x3 : kDc ρ cs1) => kCs_a hc x1 x2 x3 (by omega)
        refine r_al0 zi_45_26 rfl ?_
        refine q_cIV zi_45_27 rfl rfl rfl rfl rfl rfl rfl cf_169_0.ob (ham _ (fun j3 cs3 ρ z x1 x2 x3 x4 => ?_) (fun _ _ _ z => by cases z))
        show zk _ _ 30 _ _ _ _
        refine r_if1 zi_45_30 rfl (fun _ => ?_) (fun c => absurd c (by decide))
        cases z; exact k2 ρ _ _ (hcs ρ x1 x2 x3) (hF.tr (x1.sub (fun a b => pA_C)))
  refine r_il1 zi_45_12 rfl ?_
  refine r_push zi_45_13 rfl ?_
  refine n_ic4 (i := i) (j := 400) zi_45_16 rfl (by omega) (by omega) (fun c => absurd c (by omega)) (fun _ => ?_)
  refine r_al0 zi_45_19 rfl ?_
  refine q_cIV zi_45_20 rfl rfl rfl rfl rfl rfl rfl cf_169_0.ob (hop _ (fun f q p υ g1 g2 g3 g4 g5 => ?_) (fun υ x => ?_))
  · show zk _ _ 23 _ _ _ _
    refine r_if0 zi_45_23 rfl (fun c => absurd c (by decide)) (fun _ => ?_)
    exact key f q p υ g1 g2 g3 g4 g5
  · show zk _ _ 23 _ _ _ _
    refine r_if0 zi_45_23 rfl (fun _ => ?_) (fun c => absurd (by decide) c)
    refine r_push zi_45_33 rfl ?_
    refine r_retZ zi_45_34 rfl (by decide) ?_
    exact ⟨_, rfl, x⟩
theorem s_kcd {d N f j : Nat} {σ : zS} {Q : Int32 → zS → Prop} {K S : Nat → Nat} {r : (Nat × Nat) ⊕ (Nat × List Nat)} {cs : List Nat} (hr : pcd K f true j cs [] = some r) (hk : kTk σ K S N j) (hd : kDc σ cs) (hl : cs.length ≤ j) (h1 : ∀ j cs υ, r = .inr (j, cs) → Fg pC σ υ → kTk υ K S N j → kDc υ cs → cs.length ≤ j → Q 1 υ) (h0 : ∀ n i υ, r = .inl (n, i) → Fg (pF pC) σ υ → υ 170 4 = nI n → υ 170 5 = nI (S i) → Q 0 υ) : zI1 (d + 4) 45 [.ref 169] σ Q := by
  have key : ∀ (m j f i : Nat) (cs p : List Nat) (τ : zS) (u2 u3 : Value), N ≤ j + m → i ≤ j → pcd K f true j cs p = some r → kCs τ K S N j cs p → Fg pC σ τ → zk (d + 4) 45 12 [.ref 169, .int (nI i), u2, u3] [] τ (fun r t => ∃ v, r = some v ∧ Q v t) := by
    intro m
    induction m with
    | zero =>
      intro j f i cs p τ u2 u3 hm hi hr hc hF
      exact l_kcd1 h1 h0 hi hr hc hF (fun f j' cs p υ u2 u3 z _ g _ => absurd g.1.2.2.2.2.2.1 (by omega))
    | succ m ih =>
      intro j f i cs p τ u2 u3 hm hi hr hc hF
      exact l_kcd1 h1 h0 hi hr hc hF (fun f j' cs p υ u2 u3 z g1 g2 g3 => ih j' f (i + 1) cs p υ u2 u3 (by omega) (by omega) g1 g2 g3)
  have hc : kCs (up (up σ 169 3 0) 169 4 0) K S N j cs [] := ⟨kTk_m hk (((Fg.rf (P := pC)).put (by unfold pC; omega)).put (by unfold pC; omega)) (((zup_ne (by decide)).trans (zup_ne (by decide))).trans hk.2.2.2.2.1) hk.2.2.2.2.2.1, kDc_f hd ((zup_ne (by decide)).trans (zup_ne (by decide))) (fun b => (zup_ne (by decide)).trans (zup_ne (by decide))), (zup_nj (by decide)).trans zup_eq, zup_eq, trivial, hl, trivial, Nat.zero_le _⟩
  show zk _ _ 0 [.ref 169, zun, zun, zun] [] _ _
  refine r_al0 zi_45_0 rfl ?_
  refine r_push zi_45_1 rfl ?_
  refine q_put zi_45_2 rfl cf_169_3 rfl ?_
  refine r_al0 zi_45_5 rfl ?_
  refine r_push zi_45_6 rfl ?_
  refine q_put zi_45_7 rfl cf_169_4 rfl ?_
  refine r_push zi_45_10 rfl ?_
  refine r_is1 zi_45_11 rfl ?_
  exact key N j f 0 cs [] _ _ _ (by omega) (Nat.zero_le _) hr hc ((Fg.rf.put (by unfold pC; omega)).put (by unfold pC; omega))

