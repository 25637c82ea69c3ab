/-! E in the class -/
theorem s_layx {d : Nat} {τ : zS} {Q : zS → Prop} {k : Int32} (hq : ∀ υ, Fg pA τ υ → (∀ b, υ 170 b = τ 170 b) → Q υ) : zV1 d 98 [.ref 173, .int k] τ Q := by
  show zk _ _ 0 [.ref 173, .int k] [] _ _
  rcases pk_ix (τ 173 3) (n := 400) (by decide) with h | h | ⟨n, hn, h⟩
  · refine r_al0 zi_98_0 rfl ?_
    refine q_getI zi_98_1 rfl cf_173_3 ?_
    refine r_if2 zi_98_4 rfl (fun _ => ?_) (fun c => absurd h c)
    refine r_ret zi_98_39 rfl ?_
    exact ⟨rfl, hq _ Fg.rf (fun _ => rfl)⟩
  · refine r_al0 zi_98_0 rfl ?_
    refine q_getI zi_98_1 rfl cf_173_3 ?_
    refine r_if2 zi_98_4 rfl (fun c1 => ?_) (fun c1 => ?_)
    · refine r_ret zi_98_39 rfl ?_
      exact ⟨rfl, hq _ Fg.rf (fun _ => rfl)⟩
    · refine r_al0 zi_98_7 rfl ?_
      refine q_getI zi_98_8 rfl cf_173_3 ?_
      refine r_al0 zi_98_11 rfl ?_
      refine q_getR zi_98_12 rfl cf_173_1 ?_
      refine r_alen zi_98_15 rfl ca_175 ?_
      refine r_ic3 zi_98_16 rfl (fun _ => ?_) (fun c => absurd h c)
      refine r_ret zi_98_39 rfl ?_
      exact ⟨rfl, hq _ Fg.rf (fun _ => rfl)⟩
  · refine r_al0 zi_98_0 rfl ?_
    refine q_getIe zi_98_1 rfl cf_173_3 (v := nI n) (by first | exact h | ((repeat (first | rw [zup_ne (by first | decide | omega)] | rw [zup_nj (by first | decide | omega)] | rw [fil_ne (by first | decide | omega)])) <;> exact h) | (simp [up_rd, fil_rd]; exact h)) ?_
    refine n_if2 (i := n) zi_98_4 rfl (by omega) (fun c => absurd c (by omega)) (fun _ => ?_)
    refine r_al0 zi_98_7 rfl ?_
    refine q_getIe zi_98_8 rfl cf_173_3 (v := nI n) (by first | exact h | ((repeat (first | rw [zup_ne (by first | decide | omega)] | rw [zup_nj (by first | decide | omega)] | rw [fil_ne (by first | decide | omega)])) <;> exact h) | (simp [up_rd, fil_rd]; exact h)) ?_
    refine r_al0 zi_98_11 rfl ?_
    refine q_getR zi_98_12 rfl cf_173_1 ?_
    refine r_alen zi_98_15 rfl ca_175 ?_
    refine n_ic3 (i := n) (j := 400) zi_98_16 rfl (by omega) (by omega) (fun c => absurd c (by omega)) (fun _ => ?_)
    refine r_al0 zi_98_19 rfl ?_
    refine q_getR zi_98_20 rfl cf_173_1 ?_
    refine r_al0 zi_98_23 rfl ?_
    refine q_getIe zi_98_24 rfl cf_173_3 (v := nI n) (by first | exact h | ((repeat (first | rw [zup_ne (by first | decide | omega)] | rw [zup_nj (by first | decide | omega)] | rw [fil_ne (by first | decide | omega)])) <;> exact h) | (simp [up_rd, fil_rd]; exact h)) ?_
    refine r_il1 zi_98_27 rfl ?_
    refine r_ast zi_98_28 rfl n ca_175 (by first | rfl | (simp only [zI_add, zI_mul] <;> rfl)) (by first | omega | decide) ?_
    refine r_al0 zi_98_29 rfl ?_
    refine r_dupR zi_98_30 rfl ?_
    refine q_getIe zi_98_31 rfl cf_173_3 (v := nI n) (by first | exact h | ((repeat (first | rw [zup_ne (by first | decide | omega)] | rw [zup_nj (by first | decide | omega)] | rw [fil_ne (by first | decide | omega)])) <;> exact h) | (simp [up_rd, fil_rd]; exact h)) ?_
    refine r_push zi_98_34 rfl ?_
    refine r_b0 zi_98_35 rfl ?_
    rw [show (nI n + 1 : Int32) = nI (n + 1) from nI_add _ _]
    refine q_put zi_98_36 rfl cf_173_3 rfl ?_
    refine r_ret zi_98_39 rfl ?_
    exact ⟨rfl, hq _ ((Fg.rf.put (Or.inl rfl)).put (Or.inr (Or.inl ⟨rfl, rfl⟩))) (fun b => (zup_ne (by decide)).trans (zup_ne (by decide)))⟩
theorem l_kam {d N : Nat} {σ : zS} {Q : Int32 → zS → Prop} {K S : Nat → Nat} {r : (Nat × Nat) ⊕ (Nat × List Nat)} (h1 : ∀ j cs υ, r = .inr (j, cs) → Fg pA σ υ → kTk υ K S N j → kDc υ cs → cs.length ≤ j → Q 1 υ) (h0 : ∀ n i υ, r = .inl (n, i) → Fg (pF pA) σ υ → υ 170 4 = nI n → υ 170 5 = nI (S i) → Q 0 υ) : ∀ (f : Nat) (w : Option Nat) (j : Nat) (cs : List Nat) (i : Nat) (τ : zS) (u4 u5 : Value), pam K f w j cs = some r → (∀ a, w = some a → a < 30000) → kTk τ K S N j → kDc τ cs → cs.length + w.toList.length ≤ j → i ≤ j → Fg pA σ τ → zk (d + 2) 42 9 [.ref 169, .int (w.elim (-1) nI), .int 1, .int (nI i), u4, u5] [] τ (fun r t => ∃ v, r = some v ∧ Q v t) := by
  intro f
  induction f with
  | zero => intro w j cs i τ u4 u5 hr; cases hr
  | succ f ih =>
    intro w j cs i τ u4 u5 hr hw hk hd hl hi hF
    have hN := hk.2.2.1
    have hjN := hk.2.2.2.2.2.1
    have hb := tko_b (hk.2.2.2.2.2.2 j)
    have hn5 := hk.2.2.2.2.1
    replace hr : (if K j = 20042 then (if pun (K (j + 1)) = true then pam K f w (j + 2) (cs ++ [K (j + 1)] ++ [20042]) else some (.inl (1, j + 1))) else if K j = 20047 then (if 10000 ≤ K (j + 1) then some (.inl (1, j + 1)) else if K (j + 1) = 0 then some (.inl (2, j + 1)) else pam K f w (j + 2) (cs ++ [K (j + 1)] ++ [20047])) else if K j = 20043 ∨ K j = 20045 then (if pun (K (j + 1)) = true then pam K f (some (K j)) (j + 2) (cs ++ w.toList ++ [K (j + 1)]) else some (.inl (1, j + 1))) else some (.inr (j, cs ++ w.toList))) = some r := hr
    have htok : ∀ (Q2 : Int32 → zS → Prop), Q2 (nI (K j)) τ → zI1 (d + 1) 103 [.ref 170] τ Q2 := fun Q2 h2 => s_tok hk h2
    have hne : K j ≠ 30001 → j + 1 ≤ N := fun z => kTk_ne hk z
    have hnx : ∀ τ0, kTk τ0 K S N j → j + 1 ≤ N → kTk (up τ0 170 3 (nI (j + 1))) K S N (j + 1) := fun τ0 g z => kTk_n g (Fg.rf.put (Or.inr (Or.inr ⟨rfl, rfl⟩))) zup_eq z
    have hFx : ∀ τ0 v, Fg pA σ τ0 → Fg pA σ (up τ0 170 3 v) := fun τ0 v g => g.put (Or.inr (Or.inr ⟨rfl, rfl⟩))
    have hun : ∀ (cs0 : List Nat) (τ0 : zS), Fg pA σ τ0 → kTk τ0 K S N j → j + 1 ≤ N → kDc τ0 cs0 → cs0.length ≤ j + 1 → ∀ (Q2 : Int32 → zS → Prop), (pun (K (j + 1)) = true → ∀ υ, Fg pA σ υ → kTk υ K S N (j + 2) → kDc υ (cs0 ++ [K (j + 1)]) → Q2 1 υ) → (¬ pun (K (j + 1)) = true → ∀ υ, Fg (pF pA) σ υ → υ 170 4 = 1 → υ 170 5 = nI (S (j + 1)) → Q2 0 υ) → zI1 (d + 1) 43 [.ref 169] (up τ0 170 3 (nI (j + 1))) Q2 := fun cs0 τ0 g1 g2 gz g3 g4 Q2 k1 k0 => s_runit (d := d) (hnx τ0 g2 gz) (kDc_f g3 (zup_ne (by decide)) (fun b => zup_ne (by decide))) g4 (fun z υ x y1 y2 => k1 z υ ((hFx _ _ g1).tr x) y1 y2) (fun z υ x y1 y2 => k0 z υ ((hFx _ _ g1).ff.tr x) y1 y2)
    have hlay : ∀ (cs0 : List Nat) (τ0 : zS) (k q : Nat), Fg pA σ τ0 → kTk τ0 K S N q → kDc τ0 cs0 → cs0.length < 400 → ∀ (Q2 : zS → Prop), (∀ υ, Fg pA σ υ → kTk υ K S N q → kDc υ (cs0 ++ [k]) → Q2 υ) → zV1 (d + 1) 98 [.ref 173, .int (nI k)] τ0 Q2 := fun cs0 τ0 k q g1 g2 g3 g4 Q2 k1 => s_lay g3 g4 (fun g5 => k1 _ ((g1.put (Or.inl rfl)).put (Or.inr (Or.inl ⟨rfl, rfl⟩))) (kTk_n g2 ((Fg.rf.put (Or.inl rfl)).put (Or.inr (Or.inl ⟨rfl, rfl⟩))) (((zup_ne (by decide)).trans (zup_ne (by decide))).trans g2.2.2.2.2.1) g2.2.2.2.2.2.1) g5)
    have hlx : ∀ (τ0 : zS) (k : Int32) (Q2 : zS → Prop), Fg (pF pA) σ τ0 → (∀ υ, Fg (pF pA) σ υ → (∀ b, υ 170 b = τ0 170 b) → Q2 υ) → zV1 (d + 1) 98 [.ref 173, .int k] τ0 Q2 := fun τ0 k Q2 g1 k1 => s_layx (fun υ x y => k1 υ (g1.tr x.ff) y)
    have hl2 : ∀ (a : Nat), (cs ++ [a]).length = cs.length + 1 := fun a => by rw [List.length_append]; rfl
    have hl3 : ∀ (a b : Nat), (cs ++ [a] ++ [b]).length = cs.length + 2 := fun a b => by rw [List.length_append, hl2]; rfl
    have hfin : ∀ (n q i : Nat) (wv : Int32) (ρ : zS) (u4 u5 : Value), r = .inl (n, q) → i < 1000 → Fg (pF pA) σ ρ → ρ 170 4 = nI n → ρ 170 5 = nI (S q) → zk (d + 2) 42 9 [.ref 169, .int wv, .int 0, .int (nI i), u4, u5] [] ρ (fun r t => ∃ v, r = some v ∧ Q v t) := fun n q i wv ρ u4 u5 e hi x y z => by
      have h0 := h0 n q ρ e x y z
      refine r_il3 zi_42_9 rfl ?_
      refine r_push zi_42_10 rfl ?_
      refine n_ic4 (i := i) (j := 400) zi_42_13 rfl (by omega) (by omega) (fun c1 => ?_) (fun c1 => ?_)
      · refine r_push zi_42_154 rfl ?_
        refine r_retZ zi_42_155 rfl (by decide) ?_
        exact ⟨_, rfl, h0⟩
      · refine r_il2 zi_42_16 rfl ?_
        refine r_if0 zi_42_17 rfl (fun _ => ?_) (fun c => absurd (by decide) c)
        refine r_push zi_42_154 rfl ?_
        refine r_retZ zi_42_155 rfl (by decide) ?_
        exact ⟨_, rfl, h0⟩
    have hjp : ∀ υ q, kTk υ K S N q → q ≤ N := fun υ q x => x.2.2.2.2.2.1
    by_cases c1 : K j = 20042
    · have hjn := hne (by omega)
      rw [if_pos c1] at hr
      rw [c1] at htok
      by_cases g : pun (K (j + 1)) = true
      · rw [if_pos g] at hr
        have ih := fun i τ u4 u5 => ih w (j + 2) _ i τ u4 u5 hr hw
        generalize w.elim (-1) nI = wv at *
        refine r_il3 zi_42_9 rfl ?_
        refine r_push zi_42_10 rfl ?_
        refine n_ic4 (i := i) (j := 400) zi_42_13 rfl (by omega) (by omega) (fun c => absurd c (by omega)) (fun _ => ?_)
        refine r_il2 zi_42_16 rfl ?_
        refine r_if0 zi_42_17 rfl (fun c => absurd c (by decide)) (fun _ => ?_)
        refine r_al0 zi_42_20 rfl ?_
        refine q_getR zi_42_21 rfl cf_169_0 ?_
        refine q_cIV zi_42_24 rfl rfl rfl rfl rfl rfl rfl cf_170_0.ob (htok _ ?_)
        show zk _ _ 27 _ _ _ _
        refine r_is4 zi_42_27 rfl ?_
        refine r_il4 zi_42_29 rfl ?_
        refine r_push zi_42_31 rfl ?_
        refine r_ic0 zi_42_34 rfl (fun _ => ?_) (fun c => absurd (by decide) c)
        refine r_push zi_42_45 rfl ?_
        refine r_goto zi_42_46 rfl ?_
        refine r_is5 zi_42_50 rfl ?_
        refine r_il5 zi_42_52 rfl ?_
        refine r_if1 zi_42_54 rfl (fun _ => ?_) (fun c => absurd c (by decide))
        refine r_il5 zi_42_72 rfl ?_
        refine r_if1 zi_42_74 rfl (fun _ => ?_) (fun c => absurd c (by decide))
        refine r_al0 zi_42_95 rfl ?_
        refine q_getR zi_42_96 rfl cf_169_0 ?_
        refine r_dupR zi_42_99 rfl ?_
        refine q_getIe zi_42_100 rfl cf_170_3 (v := nI j) (by first | exact hn5 | ((repeat (first | rw [zup_ne (by first | decide | omega)] | rw [zup_nj (by first | decide | omega)] | rw [fil_ne (by first | decide | omega)])) <;> exact hn5) | (simp [up_rd, fil_rd]; exact hn5)) ?_
        refine r_push zi_42_103 rfl ?_
        refine r_b0 zi_42_104 rfl ?_
        rw [show (nI j + 1 : Int32) = nI (j + 1) from nI_add _ _]
        refine q_put zi_42_105 rfl cf_170_3 rfl ?_
        refine r_il4 zi_42_108 rfl ?_
        refine r_push zi_42_110 rfl ?_
        refine r_ic1 zi_42_113 rfl (fun _ => ?_) (fun c => absurd c (by decide))
        refine r_al0 zi_42_123 rfl ?_
        refine q_cIV zi_42_124 rfl rfl rfl rfl rfl rfl rfl cf_169_0.ob (hun cs τ hF hk hjn hd (by omega) _ (fun _ υ x1 x2 x3 => ?_) (fun z => absurd g z))
        show zk _ _ 127 _ _ _ _
        refine r_is2 zi_42_127 rfl ?_
        refine r_il5 zi_42_128 rfl ?_
        refine r_if0 zi_42_130 rfl (fun c => absurd c (by decide)) (fun _ => ?_)
        refine r_al0 zi_42_133 rfl ?_
        refine q_getR zi_42_134 rfl cf_169_1 ?_
        refine r_il4 zi_42_137 rfl ?_
        refine q_cVV zi_42_139 rfl rfl rfl rfl rfl rfl rfl cf_173_0.ob (hlay _ υ 20042 (j + 2) x1 x2 x3 (by have := hjp _ _ x2; rw [hl2]; omega) _ (fun ρ y1 y2 y3 => ?_))
        show zk _ _ 142 _ _ _ _
        refine r_goto zi_42_142 rfl ?_
        refine r_in3 zi_42_148 rfl ?_
        rw [show (nI i + 1 : Int32) = nI (i + 1) from nI_add _ _]
        refine r_goto zi_42_151 rfl ?_
        exact ih (i + 1) ρ _ _ y2 y3 (by rw [hl3]; omega) (by omega) y1
      · rw [if_neg g] at hr
        have er := Option.some.inj hr
        generalize w.elim (-1) nI = wv at *
        refine r_il3 zi_42_9 rfl ?_
        refine r_push zi_42_10 rfl ?_
        refine n_ic4 (i := i) (j := 400) zi_42_13 rfl (by omega) (by omega) (fun c => absurd c (by omega)) (fun _ => ?_)
        refine r_il2 zi_42_16 rfl ?_
        refine r_if0 zi_42_17 rfl (fun c => absurd c (by decide)) (fun _ => ?_)
        refine r_al0 zi_42_20 rfl ?_
        refine q_getR zi_42_21 rfl cf_169_0 ?_
        refine q_cIV zi_42_24 rfl rfl rfl rfl rfl rfl rfl cf_170_0.ob (htok _ ?_)
        show zk _ _ 27 _ _ _ _
        refine r_is4 zi_42_27 rfl ?_
        refine r_il4 zi_42_29 rfl ?_
        refine r_push zi_42_31 rfl ?_
        refine r_ic0 zi_42_34 rfl (fun _ => ?_) (fun c => absurd (by decide) c)
        refine r_push zi_42_45 rfl ?_
        refine r_goto zi_42_46 rfl ?_
        refine r_is5 zi_42_50 rfl ?_
        refine r_il5 zi_42_52 rfl ?_
        refine r_if1 zi_42_54 rfl (fun _ => ?_) (fun c => absurd c (by decide))
        refine r_il5 zi_42_72 rfl ?_
        refine r_if1 zi_42_74 rfl (fun _ => ?_) (fun c => absurd c (by decide))
        refine r_al0 zi_42_95 rfl ?_
        refine q_getR zi_42_96 rfl cf_169_0 ?_
        refine r_dupR zi_42_99 rfl ?_
        refine q_getIe zi_42_100 rfl cf_170_3 (v := nI j) (by first | exact hn5 | ((repeat (first | rw [zup_ne (by first | decide | omega)] | rw [zup_nj (by first | decide | omega)] | rw [fil_ne (by first | decide | omega)])) <;> exact hn5) | (simp [up_rd, fil_rd]; exact hn5)) ?_
        refine r_push zi_42_103 rfl ?_
        refine r_b0 zi_42_104 rfl ?_
        rw [show (nI j + 1 : Int32) = nI (j + 1) from nI_add _ _]
        refine q_put zi_42_105 rfl cf_170_3 rfl ?_
        refine r_il4 zi_42_108 rfl ?_
        refine r_push zi_42_110 rfl ?_
        refine r_ic1 zi_42_113 rfl (fun _ => ?_) (fun c => absurd c (by decide))
        refine r_al0 zi_42_123 rfl ?_
        refine q_cIV zi_42_124 rfl rfl rfl rfl rfl rfl rfl cf_169_0.ob (hun cs τ hF hk hjn hd (by omega) _ (fun z => absurd z g) (fun _ υ x1 x2 x3 => ?_))
        show zk _ _ 127 _ _ _ _
        refine r_is2 zi_42_127 rfl ?_
        refine r_il5 zi_42_128 rfl ?_
        refine r_if0 zi_42_130 rfl (fun c => absurd c (by decide)) (fun _ => ?_)
        refine r_al0 zi_42_133 rfl ?_
        refine q_getR zi_42_134 rfl cf_169_1 ?_
        refine r_il4 zi_42_137 rfl ?_
        refine q_cVV zi_42_139 rfl rfl rfl rfl rfl rfl rfl cf_173_0.ob (hlx υ _ _ x1 (fun ρ y1 y2 => ?_))
        show zk _ _ 142 _ _ _ _
        refine r_goto zi_42_142 rfl ?_
        refine r_in3 zi_42_148 rfl ?_
        rw [show (nI i + 1 : Int32) = nI (i + 1) from nI_add _ _]
        refine r_goto zi_42_151 rfl ?_
        exact hfin 1 (j + 1) (i + 1) _ ρ _ _ er.symm (by omega) y1 ((y2 4).trans x2) ((y2 5).trans x3)
    · rw [if_neg c1] at hr
      by_cases c2 : K j = 20047
      · have hjn := hne (by omega)
        rw [if_pos c2] at hr
        rw [c2] at htok
        have hpt : ∀ (Q2 : Int32 → zS → Prop), (K (j + 1) < 10000 → K (j + 1) ≠ 0 → ∀ υ, Fg pA σ υ → kTk υ K S N (j + 2) → kDc υ (cs ++ [K (j + 1)]) → Q2 1 υ) → (10000 ≤ K (j + 1) → ∀ υ, Fg (pF pA) σ υ → υ 170 4 = 1 → υ 170 5 = nI (S (j + 1)) → Q2 0 υ) → (K (j + 1) = 0 → ∀ υ, Fg (pF pA) σ υ → υ 170 4 = 2 → υ 170 5 = nI (S (j + 1)) → Q2 0 υ) → zI1 (d + 1) 44 [.ref 169] (up τ 170 3 (nI (j + 1))) Q2 := fun Q2 k1 k0 k2 => s_rpart (d := d) (hnx τ hk hjn) (kDc_f hd (zup_ne (by decide)) (fun b => zup_ne (by decide))) (by omega) (fun z z2 υ x y1 y2 => k1 z z2 υ ((hFx _ _ hF).tr x) y1 y2) (fun z υ x y1 y2 => k0 z υ ((hFx _ _ hF).ff.tr x) y1 y2) (fun z υ x y1 y2 => k2 z υ ((hFx _ _ hF).ff.tr x) y1 y2)
        by_cases g : 10000 ≤ K (j + 1)
        · rw [if_pos g] at hr
          have er := Option.some.inj hr
          generalize w.elim (-1) nI = wv at *
          refine r_il3 zi_42_9 rfl ?_
          refine r_push zi_42_10 rfl ?_
          refine n_ic4 (i := i) (j := 400) zi_42_13 rfl (by omega) (by omega) (fun c => absurd c (by omega)) (fun _ => ?_)
          refine r_il2 zi_42_16 rfl ?_
          refine r_if0 zi_42_17 rfl (fun c => absurd c (by decide)) (fun _ => ?_)
          refine r_al0 zi_42_20 rfl ?_
          refine q_getR zi_42_21 rfl cf_169_0 ?_
          refine q_cIV zi_42_24 rfl rfl rfl rfl rfl rfl rfl cf_170_0.ob (htok _ ?_)
          show zk _ _ 27 _ _ _ _
          refine r_is4 zi_42_27 rfl ?_
          refine r_il4 zi_42_29 rfl ?_
          refine r_push zi_42_31 rfl ?_
          refine r_ic0 zi_42_34 rfl (fun c => absurd c (by decide)) (fun _ => ?_)
          refine r_il4 zi_42_37 rfl ?_
          refine r_push zi_42_39 rfl ?_
          refine r_ic1 zi_42_42 rfl (fun c => absurd (by decide) c) (fun _ => ?_)
          refine r_push zi_42_45 rfl ?_
          refine r_goto zi_42_46 rfl ?_
          refine r_is5 zi_42_50 rfl ?_
          refine r_il5 zi_42_52 rfl ?_
          refine r_if1 zi_42_54 rfl (fun _ => ?_) (fun c => absurd c (by decide))
          refine r_il5 zi_42_72 rfl ?_
          refine r_if1 zi_42_74 rfl (fun _ => ?_) (fun c => absurd c (by decide))
          refine r_al0 zi_42_95 rfl ?_
          refine q_getR zi_42_96 rfl cf_169_0 ?_
          refine r_dupR zi_42_99 rfl ?_
          refine q_getIe zi_42_100 rfl cf_170_3 (v := nI j) (by first | exact hn5 | ((repeat (first | rw [zup_ne (by first | decide | omega)] | rw [zup_nj (by first | decide | omega)] | rw [fil_ne (by first | decide | omega)])) <;> exact hn5) | (simp [up_rd, fil_rd]; exact hn5)) ?_
          refine r_push zi_42_103 rfl ?_
          refine r_b0 zi_42_104 rfl ?_
          rw [show (nI j + 1 : Int32) = nI (j + 1) from nI_add _ _]
          refine q_put zi_42_105 rfl cf_170_3 rfl ?_
          refine r_il4 zi_42_108 rfl ?_
          refine r_push zi_42_110 rfl ?_
          refine r_ic1 zi_42_113 rfl (fun c => absurd (by decide) c) (fun _ => ?_)
          refine r_al0 zi_42_116 rfl ?_
          refine q_cIV zi_42_117 rfl rfl rfl rfl rfl rfl rfl cf_169_0.ob (hpt _ (fun z => absurd g (by omega)) (fun _ υ x1 x2 x3 => ?_) (fun z => absurd g (by omega)))
          show zk _ _ 120 _ _ _ _
          refine r_goto zi_42_120 rfl ?_
          refine r_is2 zi_42_127 rfl ?_
          refine r_il5 zi_42_128 rfl ?_
          refine r_if0 zi_42_130 rfl (fun c => absurd c (by decide)) (fun _ => ?_)
          refine r_al0 zi_42_133 rfl ?_
          refine q_getR zi_42_134 rfl cf_169_1 ?_
          refine r_il4 zi_42_137 rfl ?_
          refine q_cVV zi_42_139 rfl rfl rfl rfl rfl rfl rfl cf_173_0.ob (hlx υ _ _ x1 (fun ρ y1 y2 => ?_))
          show zk _ _ 142 _ _ _ _
          refine r_goto zi_42_142 rfl ?_
          refine r_in3 zi_42_148 rfl ?_
          rw [show (nI i + 1 : Int32) = nI (i + 1) from nI_add _ _]
          refine r_goto zi_42_151 rfl ?_
          exact hfin 1 (j + 1) (i + 1) _ ρ _ _ er.symm (by omega) y1 ((y2 4).trans x2) ((y2 5).trans x3)
        · rw [if_neg g] at hr
          by_cases g2 : K (j + 1) = 0
          · rw [if_pos g2] at hr
            have er := Option.some.inj hr
            generalize w.elim (-1) nI = wv at *
            refine r_il3 zi_42_9 rfl ?_
            refine r_push zi_42_10 rfl ?_
            refine n_ic4 (i := i) (j := 400) zi_42_13 rfl (by omega) (by omega) (fun c => absurd c (by omega)) (fun _ => ?_)
            refine r_il2 zi_42_16 rfl ?_
            refine r_if0 zi_42_17 rfl (fun c => absurd c (by decide)) (fun _ => ?_)
            refine r_al0 zi_42_20 rfl ?_
            refine q_getR zi_42_21 rfl cf_169_0 ?_
            refine q_cIV zi_42_24 rfl rfl rfl rfl rfl rfl rfl cf_170_0.ob (htok _ ?_)
            show zk _ _ 27 _ _ _ _
            refine r_is4 zi_42_27 rfl ?_
            refine r_il4 zi_42_29 rfl ?_
            refine r_push zi_42_31 rfl ?_
            refine r_ic0 zi_42_34 rfl (fun c => absurd c (by decide)) (fun _ => ?_)
            refine r_il4 zi_42_37 rfl ?_
            refine r_push zi_42_39 rfl ?_
            refine r_ic1 zi_42_42 rfl (fun c => absurd (by decide) c) (fun _ => ?_)
            refine r_push zi_42_45 rfl ?_
            refine r_goto zi_42_46 rfl ?_
            refine r_is5 zi_42_50 rfl ?_
            refine r_il5 zi_42_52 rfl ?_
            refine r_if1 zi_42_54 rfl (fun _ => ?_) (fun c => absurd c (by decide))
            refine r_il5 zi_42_72 rfl ?_
            refine r_if1 zi_42_74 rfl (fun _ => ?_) (fun c => absurd c (by decide))
            refine r_al0 zi_42_95 rfl ?_
            refine q_getR zi_42_96 rfl cf_169_0 ?_
            refine r_dupR zi_42_99 rfl ?_
            refine q_getIe zi_42_100 rfl cf_170_3 (v := nI j) (by first | exact hn5 | ((repeat (first | rw [zup_ne (by first | decide | omega)] | rw [zup_nj (by first | decide | omega)] | rw [fil_ne (by first | decide | omega)])) <;> exact hn5) | (simp [up_rd, fil_rd]; exact hn5)) ?_
            refine r_push zi_42_103 rfl ?_
            refine r_b0 zi_42_104 rfl ?_
            rw [show (nI j + 1 : Int32) = nI (j + 1) from nI_add _ _]
            refine q_put zi_42_105 rfl cf_170_3 rfl ?_
            refine r_il4 zi_42_108 rfl ?_
            refine r_push zi_42_110 rfl ?_
            refine r_ic1 zi_42_113 rfl (fun c => absurd (by decide) c) (fun _ => ?_)
            refine r_al0 zi_42_116 rfl ?_
            refine q_cIV zi_42_117 rfl rfl rfl rfl rfl rfl rfl cf_169_0.ob (hpt _ (fun _ z => absurd g2 z) (fun z => absurd z g) (fun _ υ x1 x2 x3 => ?_))
            show zk _ _ 120 _ _ _ _
            refine r_goto zi_42_120 rfl ?_
            refine r_is2 zi_42_127 rfl ?_
            refine r_il5 zi_42_128 rfl ?_
            refine r_if0 zi_42_130 rfl (fun c => absurd c (by decide)) (fun _ => ?_)
            refine r_al0 zi_42_133 rfl ?_
            refine q_getR zi_42_134 rfl cf_169_1 ?_
            refine r_il4 zi_42_137 rfl ?_
            refine q_cVV zi_42_139 rfl rfl rfl rfl rfl rfl rfl cf_173_0.ob (hlx υ _ _ x1 (fun ρ y1 y2 => ?_))
            show zk _ _ 142 _ _ _ _
            refine r_goto zi_42_142 rfl ?_
            refine r_in3 zi_42_148 rfl ?_
            rw [show (nI i + 1 : Int32) = nI (i + 1) from nI_add _ _]
            refine r_goto zi_42_151 rfl ?_
            exact hfin 2 (j + 1) (i + 1) _ ρ _ _ er.symm (by omega) y1 ((y2 4).trans x2) ((y2 5).trans x3)
          · rw [if_neg g2] at hr
            have ih := fun i τ u4 u5 => ih w (j + 2) _ i τ u4 u5 hr hw
            generalize w.elim (-1) nI = wv at *
            refine r_il3 zi_42_9 rfl ?_
            refine r_push zi_42_10 rfl ?_
            refine n_ic4 (i := i) (j := 400) zi_42_13 rfl (by omega) (by omega) (fun c => absurd c (by omega)) (fun _ => ?_)
            refine r_il2 zi_42_16 rfl ?_
            refine r_if0 zi_42_17 rfl (fun c => absurd c (by decide)) (fun _ => ?_)
            refine r_al0 zi_42_20 rfl ?_
            refine q_getR zi_42_21 rfl cf_169_0 ?_
            refine q_cIV zi_42_24 rfl rfl rfl rfl rfl rfl rfl cf_170_0.ob (htok _ ?_)
            show zk _ _ 27 _ _ _ _
            refine r_is4 zi_42_27 rfl ?_
            refine r_il4 zi_42_29 rfl ?_
            refine r_push zi_42_31 rfl ?_
            refine r_ic0 zi_42_34 rfl (fun c => absurd c (by decide)) (fun _ => ?_)
            refine r_il4 zi_42_37 rfl ?_
            refine r_push zi_42_39 rfl ?_
            refine r_ic1 zi_42_42 rfl (fun c => absurd (by decide) c) (fun _ => ?_)
            refine r_push zi_42_45 rfl ?_
            refine r_goto zi_42_46 rfl ?_
            refine r_is5 zi_42_50 rfl ?_
            refine r_il5 zi_42_52 rfl ?_
            refine r_if1 zi_42_54 rfl (fun _ => ?_) (fun c => absurd c (by decide))
            refine r_il5 zi_42_72 rfl ?_
            refine r_if1 zi_42_74 rfl (fun _ => ?_) (fun c => absurd c (by decide))
            refine r_al0 zi_42_95 rfl ?_
            refine q_getR zi_42_96 rfl cf_169_0 ?_
            refine r_dupR zi_42_99 rfl ?_
            refine q_getIe zi_42_100 rfl cf_170_3 (v := nI j) (by first | exact hn5 | ((repeat (first | rw [zup_ne (by first | decide | omega)] | rw [zup_nj (by first | decide | omega)] | rw [fil_ne (by first | decide | omega)])) <;> exact hn5) | (simp [up_rd, fil_rd]; exact hn5)) ?_
            refine r_push zi_42_103 rfl ?_
            refine r_b0 zi_42_104 rfl ?_
            rw [show (nI j + 1 : Int32) = nI (j + 1) from nI_add _ _]
            refine q_put zi_42_105 rfl cf_170_3 rfl ?_
            refine r_il4 zi_42_108 rfl ?_
            refine r_push zi_42_110 rfl ?_
            refine r_ic1 zi_42_113 rfl (fun c => absurd (by decide) c) (fun _ => ?_)
            refine r_al0 zi_42_116 rfl ?_
            refine q_cIV zi_42_117 rfl rfl rfl rfl rfl rfl rfl cf_169_0.ob (hpt _ (fun _ _ υ x1 x2 x3 => ?_) (fun z => absurd z g) (fun z => absurd z g2))
            show zk _ _ 120 _ _ _ _
            refine r_goto zi_42_120 rfl ?_
            refine r_is2 zi_42_127 rfl ?_
            refine r_il5 zi_42_128 rfl ?_
            refine r_if0 zi_42_130 rfl (fun c => absurd c (by decide)) (fun _ => ?_)
            refine r_al0 zi_42_133 rfl ?_
            refine q_getR zi_42_134 rfl cf_169_1 ?_
            refine r_il4 zi_42_137 rfl ?_
            refine q_cVV zi_42_139 rfl rfl rfl rfl rfl rfl rfl cf_173_0.ob (hlay _ υ 20047 (j + 2) x1 x2 x3 (by have := hjp _ _ x2; rw [hl2]; omega) _ (fun ρ y1 y2 y3 => ?_))
            show zk _ _ 142 _ _ _ _
            refine r_goto zi_42_142 rfl ?_
            refine r_in3 zi_42_148 rfl ?_
            rw [show (nI i + 1 : Int32) = nI (i + 1) from nI_add _ _]
            refine r_goto zi_42_151 rfl ?_
            exact ih (i + 1) ρ _ _ y2 y3 (by rw [hl3]; omega) (by omega) y1
      · rw [if_neg c2] at hr
        by_cases c3 : K j = 20043 ∨ K j = 20045
        · have hjn := hne (by omega)
          rw [if_pos c3] at hr
          generalize hkj : K j = kj at *
          have cn : ¬ nI kj = 20043 → kj = 20045 := fun z => by rcases c3 with e | e; exact absurd (by rw [e]; rfl) z; exact e
          by_cases g : pun (K (j + 1)) = true
          · rw [if_pos g] at hr
            have ih := fun i τ u4 u5 => ih (some kj) (j + 2) _ i τ u4 u5 hr (fun a e => by cases e; omega)
            have hl4 : ∀ a, (cs ++ [a]).length + 1 ≤ j + 2 ↔ cs.length ≤ j := fun a => by rw [hl2]; omega
            cases w with
            | none =>
              have ih : ∀ i τ u4 u5, kTk τ K S N (j + 2) → kDc τ (cs ++ [K (j + 1)]) → (cs ++ [K (j + 1)]).length + 1 ≤ j + 2 → i ≤ j + 2 → Fg pA σ τ → zk (d + 2) 42 9 [.ref 169, .int (nI kj), .int 1, .int (nI i), u4, u5] [] τ (fun r t => ∃ v, r = some v ∧ Q v t) := by
                intro i τ u4 u5; have := ih i τ u4 u5; rw [show (none : Option Nat).toList = [] from rfl, List.append_nil] at this; exact this
              show zk _ _ 9 [.ref 169, .int (-1), .int 1, .int (nI i), u4, u5] [] τ _
              replace hl : cs.length ≤ j := hl
              refine r_il3 zi_42_9 rfl ?_
              refine r_push zi_42_10 rfl ?_
              refine n_ic4 (i := i) (j := 400) zi_42_13 rfl (by omega) (by omega) (fun c => absurd c (by omega)) (fun _ => ?_)
              refine r_il2 zi_42_16 rfl ?_
              refine r_if0 zi_42_17 rfl (fun c => absurd c (by decide)) (fun _ => ?_)
              refine r_al0 zi_42_20 rfl ?_
              refine q_getR zi_42_21 rfl cf_169_0 ?_
              refine q_cIV zi_42_24 rfl rfl rfl rfl rfl rfl rfl cf_170_0.ob (htok _ ?_)
              show zk _ _ 27 _ _ _ _
              refine r_is4 zi_42_27 rfl ?_
              refine r_il4 zi_42_29 rfl ?_
              refine r_push zi_42_31 rfl ?_
              refine n_ic0 (i := kj) (j := 20042) zi_42_34 rfl (by omega) (by omega) (fun c => absurd c (by omega)) (fun _ => ?_)
              refine r_il4 zi_42_37 rfl ?_
              refine r_push zi_42_39 rfl ?_
              refine n_ic1 (i := kj) (j := 20047) zi_42_42 rfl (by omega) (by omega) (fun _ => ?_) (fun c => absurd c (by omega))
              refine r_push zi_42_49 rfl ?_
              refine r_is5 zi_42_50 rfl ?_
              refine r_il5 zi_42_52 rfl ?_
              refine r_if1 zi_42_54 rfl (fun c => absurd (by decide) c) (fun _ => ?_)
              refine r_il1 zi_42_57 rfl ?_
              refine r_push zi_42_58 rfl ?_
              refine r_ic0 zi_42_59 rfl (fun _ => ?_) (fun c => absurd (by decide) c)
              refine r_il5 zi_42_72 rfl ?_
              refine r_if1 zi_42_74 rfl (fun c => absurd (by decide) c) (fun _ => ?_)
              refine r_il4 zi_42_77 rfl ?_
              refine r_push zi_42_79 rfl ?_
              refine n_ic0 (i := kj) (j := 20043) zi_42_82 rfl (by omega) (by omega) (fun c2 => ?_) (fun c2 => ?_)
              · refine r_al0 zi_42_95 rfl ?_
                refine q_getR zi_42_96 rfl cf_169_0 ?_
                refine r_dupR zi_42_99 rfl ?_
                refine q_getIe zi_42_100 rfl cf_170_3 (v := nI j) (by first | exact hn5 | ((repeat (first | rw [zup_ne (by first | decide | omega)] | rw [zup_nj (by first | decide | omega)] | rw [fil_ne (by first | decide | omega)])) <;> exact hn5) | (simp [up_rd, fil_rd]; exact hn5)) ?_
                refine r_push zi_42_103 rfl ?_
                refine r_b0 zi_42_104 rfl ?_
                rw [show (nI j + 1 : Int32) = nI (j + 1) from nI_add _ _]
                refine q_put zi_42_105 rfl cf_170_3 rfl ?_
                refine r_il4 zi_42_108 rfl ?_
                refine r_push zi_42_110 rfl ?_
                refine n_ic1 (i := kj) (j := 20047) zi_42_113 rfl (by omega) (by omega) (fun _ => ?_) (fun c => absurd c (by omega))
                refine r_al0 zi_42_123 rfl ?_
                refine q_cIV zi_42_124 rfl rfl rfl rfl rfl rfl rfl cf_169_0.ob (hun cs τ hF hk hjn hd (by omega) _ (fun _ υ x1 x2 x3 => ?_) (fun z => absurd g z))
                show zk _ _ 127 _ _ _ _
                refine r_is2 zi_42_127 rfl ?_
                refine r_il5 zi_42_128 rfl ?_
                refine r_if0 zi_42_130 rfl (fun _ => ?_) (fun c => absurd (by decide) c)
                refine r_il4 zi_42_145 rfl ?_
                refine r_is1 zi_42_147 rfl ?_
                refine r_in3 zi_42_148 rfl ?_
                rw [show (nI i + 1 : Int32) = nI (i + 1) from nI_add _ _]
                refine r_goto zi_42_151 rfl ?_
                exact ih (i + 1) υ _ _ x2 x3 ((hl4 _).mpr hl) (by omega) x1
              · refine r_il4 zi_42_85 rfl ?_
                refine r_push zi_42_87 rfl ?_
                refine n_ic0 (i := kj) (j := 20045) zi_42_90 rfl (by omega) (by omega) (fun c4 => ?_) (fun c4 => ?_)
                · refine r_al0 zi_42_95 rfl ?_
                  refine q_getR zi_42_96 rfl cf_169_0 ?_
                  refine r_dupR zi_42_99 rfl ?_
                  refine q_getIe zi_42_100 rfl cf_170_3 (v := nI j) (by first | exact hn5 | ((repeat (first | rw [zup_ne (by first | decide | omega)] | rw [zup_nj (by first | decide | omega)] | rw [fil_ne (by first | decide | omega)])) <;> exact hn5) | (simp [up_rd, fil_rd]; exact hn5)) ?_
                  refine r_push zi_42_103 rfl ?_
                  refine r_b0 zi_42_104 rfl ?_
                  rw [show (nI j + 1 : Int32) = nI (j + 1) from nI_add _ _]
                  refine q_put zi_42_105 rfl cf_170_3 rfl ?_
                  refine r_il4 zi_42_108 rfl ?_
                  refine r_push zi_42_110 rfl ?_
                  refine n_ic1 (i := kj) (j := 20047) zi_42_113 rfl (by omega) (by omega) (fun _ => ?_) (fun c => absurd c (by omega))
                  refine r_al0 zi_42_123 rfl ?_
                  refine q_cIV zi_42_124 rfl rfl rfl rfl rfl rfl rfl cf_169_0.ob (hun cs τ hF hk hjn hd (by omega) _ (fun _ υ x1 x2 x3 => ?_) (fun z => absurd g z))
                  show zk _ _ 127 _ _ _ _
                  refine r_is2 zi_42_127 rfl ?_
                  refine r_il5 zi_42_128 rfl ?_
                  refine r_if0 zi_42_130 rfl (fun _ => ?_) (fun c => absurd (by decide) c)
                  refine r_il4 zi_42_145 rfl ?_
                  refine r_is1 zi_42_147 rfl ?_
                  refine r_in3 zi_42_148 rfl ?_
                  rw [show (nI i + 1 : Int32) = nI (i + 1) from nI_add _ _]
                  refine r_goto zi_42_151 rfl ?_
                  exact ih (i + 1) υ _ _ x2 x3 ((hl4 _).mpr hl) (by omega) x1
                · exfalso; omega
            | some a =>
              have hwa := hw a rfl
              have ih : ∀ i τ u4 u5, kTk τ K S N (j + 2) → kDc τ (cs ++ [a] ++ [K (j + 1)]) → (cs ++ [a] ++ [K (j + 1)]).length + 1 ≤ j + 2 → i ≤ j + 2 → Fg pA σ τ → zk (d + 2) 42 9 [.ref 169, .int (nI kj), .int 1, .int (nI i), u4, u5] [] τ (fun r t => ∃ v, r = some v ∧ Q v t) := ih
              show zk _ _ 9 [.ref 169, .int (nI a), .int 1, .int (nI i), u4, u5] [] τ _
              replace hl : cs.length + 1 ≤ j := hl
              have an : ¬ nI a = -1 := fun z => absurd (nI_pos' (n := a) (by omega)) (by rw [z]; decide)
              refine r_il3 zi_42_9 rfl ?_
              refine r_push zi_42_10 rfl ?_
              refine n_ic4 (i := i) (j := 400) zi_42_13 rfl (by omega) (by omega) (fun c => absurd c (by omega)) (fun _ => ?_)
              refine r_il2 zi_42_16 rfl ?_
              refine r_if0 zi_42_17 rfl (fun c => absurd c (by decide)) (fun _ => ?_)
              refine r_al0 zi_42_20 rfl ?_
              refine q_getR zi_42_21 rfl cf_169_0 ?_
              refine q_cIV zi_42_24 rfl rfl rfl rfl rfl rfl rfl cf_170_0.ob (htok _ ?_)
              show zk _ _ 27 _ _ _ _
              refine r_is4 zi_42_27 rfl ?_
              refine r_il4 zi_42_29 rfl ?_
              refine r_push zi_42_31 rfl ?_
              refine n_ic0 (i := kj) (j := 20042) zi_42_34 rfl (by omega) (by omega) (fun c => absurd c (by omega)) (fun _ => ?_)
              refine r_il4 zi_42_37 rfl ?_
              refine r_push zi_42_39 rfl ?_
              refine n_ic1 (i := kj) (j := 20047) zi_42_42 rfl (by omega) (by omega) (fun _ => ?_) (fun c => absurd c (by omega))
              refine r_push zi_42_49 rfl ?_
              refine r_is5 zi_42_50 rfl ?_
              refine r_il5 zi_42_52 rfl ?_
              refine r_if1 zi_42_54 rfl (fun c => absurd (by decide) c) (fun _ => ?_)
              refine r_il1 zi_42_57 rfl ?_
              refine r_push zi_42_58 rfl ?_
              refine r_ic0 zi_42_59 rfl (fun c => absurd c an) (fun _ => ?_)
              refine r_al0 zi_42_62 rfl ?_
              refine q_getR zi_42_63 rfl cf_169_1 ?_
              refine r_il1 zi_42_66 rfl ?_
              refine q_cVV zi_42_67 rfl rfl rfl rfl rfl rfl rfl cf_173_0.ob (hlay cs τ a j hF hk hd (by omega) _ (fun υ x1 x2 x3 => ?_))
              show zk _ _ 70 _ _ _ _
              refine r_push zi_42_70 rfl ?_
              refine r_is1 zi_42_71 rfl ?_
              refine r_il5 zi_42_72 rfl ?_
              refine r_if1 zi_42_74 rfl (fun c => absurd (by decide) c) (fun _ => ?_)
              refine r_il4 zi_42_77 rfl ?_
              refine r_push zi_42_79 rfl ?_
              refine n_ic0 (i := kj) (j := 20043) zi_42_82 rfl (by omega) (by omega) (fun c3 => ?_) (fun c3 => ?_)
              · refine r_al0 zi_42_95 rfl ?_
                refine q_getR zi_42_96 rfl cf_169_0 ?_
                refine r_dupR zi_42_99 rfl ?_
                refine q_getIe zi_42_100 rfl cf_170_3 (v := nI j) (by first | exact x2.2.2.2.2.1 | ((repeat (first | rw [zup_ne (by first | decide | omega)] | rw [zup_nj (by first | decide | omega)] | rw [fil_ne (by first | decide | omega)])) <;> exact x2.2.2.2.2.1) | (simp [up_rd, fil_rd]; exact x2.2.2.2.2.1)) ?_
                refine r_push zi_42_103 rfl ?_
                refine r_b0 zi_42_104 rfl ?_
                rw [show (nI j + 1 : Int32) = nI (j + 1) from nI_add _ _]
                refine q_put zi_42_105 rfl cf_170_3 rfl ?_
                refine r_il4 zi_42_108 rfl ?_
                refine r_push zi_42_110 rfl ?_
                refine n_ic1 (i := kj) (j := 20047) zi_42_113 rfl (by omega) (by omega) (fun _ => ?_) (fun c => absurd c (by omega))
                refine r_al0 zi_42_123 rfl ?_
                refine q_cIV zi_42_124 rfl rfl rfl rfl rfl rfl rfl cf_169_0.ob (hun _ υ x1 x2 hjn x3 (by rw [hl2]; omega) _ (fun _ ρ y1 y2 y3 => ?_) (fun z => absurd g z))
                show zk _ _ 127 _ _ _ _
                refine r_is2 zi_42_127 rfl ?_
                refine r_il5 zi_42_128 rfl ?_
                refine r_if0 zi_42_130 rfl (fun _ => ?_) (fun c => absurd (by decide) c)
                refine r_il4 zi_42_145 rfl ?_
                refine r_is1 zi_42_147 rfl ?_
                refine r_in3 zi_42_148 rfl ?_
                rw [show (nI i + 1 : Int32) = nI (i + 1) from nI_add _ _]
                refine r_goto zi_42_151 rfl ?_
                exact ih (i + 1) ρ _ _ y2 y3 (by rw [hl3]; omega) (by omega) y1
              · refine r_il4 zi_42_85 rfl ?_
                refine r_push zi_42_87 rfl ?_
                refine n_ic0 (i := kj) (j := 20045) zi_42_90 rfl (by omega) (by omega) (fun c5 => ?_) (fun c5 => ?_)
                · refine r_al0 zi_42_95 rfl ?_
                  refine q_getR zi_42_96 rfl cf_169_0 ?_
                  refine r_dupR zi_42_99 rfl ?_
                  refine q_getIe zi_42_100 rfl cf_170_3 (v := nI j) (by first | exact x2.2.2.2.2.1 | ((repeat (first | rw [zup_ne (by first | decide | omega)] | rw [zup_nj (by first | decide | omega)] | rw [fil_ne (by first | decide | omega)])) <;> exact x2.2.2.2.2.1) | (simp [up_rd, fil_rd]; exact x2.2.2.2.2.1)) ?_
                  refine r_push zi_42_103 rfl ?_
                  refine r_b0 zi_42_104 rfl ?_
                  rw [show (nI j + 1 : Int32) = nI (j + 1) from nI_add _ _]
                  refine q_put zi_42_105 rfl cf_170_3 rfl ?_
                  refine r_il4 zi_42_108 rfl ?_
                  refine r_push zi_42_110 rfl ?_
                  refine n_ic1 (i := kj) (j := 20047) zi_42_113 rfl (by omega) (by omega) (fun _ => ?_) (fun c => absurd c (by omega))
                  refine r_al0 zi_42_123 rfl ?_
                  refine q_cIV zi_42_124 rfl rfl rfl rfl rfl rfl rfl cf_169_0.ob (hun _ υ x1 x2 hjn x3 (by rw [hl2]; omega) _ (fun _ ρ y1 y2 y3 => ?_) (fun z => absurd g z))
                  show zk _ _ 127 _ _ _ _
                  refine r_is2 zi_42_127 rfl ?_
                  refine r_il5 zi_42_128 rfl ?_
                  refine r_if0 zi_42_130 rfl (fun _ => ?_) (fun c => absurd (by decide) c)
                  refine r_il4 zi_42_145 rfl ?_
                  refine r_is1 zi_42_147 rfl ?_
                  refine r_in3 zi_42_148 rfl ?_
                  rw [show (nI i + 1 : Int32) = nI (i + 1) from nI_add _ _]
                  refine r_goto zi_42_151 rfl ?_
                  exact ih (i + 1) ρ _ _ y2 y3 (by rw [hl3]; omega) (by omega) y1
                · exfalso; omega
          · rw [if_neg g] at hr
            have er := Option.some.inj hr
            cases w with
            | none =>
              show zk _ _ 9 [.ref 169, .int (-1), .int 1, .int (nI i), u4, u5] [] τ _
              replace hl : cs.length ≤ j := hl
              refine r_il3 zi_42_9 rfl ?_
              refine r_push zi_42_10 rfl ?_
              refine n_ic4 (i := i) (j := 400) zi_42_13 rfl (by omega) (by omega) (fun c => absurd c (by omega)) (fun _ => ?_)
              refine r_il2 zi_42_16 rfl ?_
              refine r_if0 zi_42_17 rfl (fun c => absurd c (by decide)) (fun _ => ?_)
              refine r_al0 zi_42_20 rfl ?_
              refine q_getR zi_42_21 rfl cf_169_0 ?_
              refine q_cIV zi_42_24 rfl rfl rfl rfl rfl rfl rfl cf_170_0.ob (htok _ ?_)
              show zk _ _ 27 _ _ _ _
              refine r_is4 zi_42_27 rfl ?_
              refine r_il4 zi_42_29 rfl ?_
              refine r_push zi_42_31 rfl ?_
              refine n_ic0 (i := kj) (j := 20042) zi_42_34 rfl (by omega) (by omega) (fun c => absurd c (by omega)) (fun _ => ?_)
              refine r_il4 zi_42_37 rfl ?_
              refine r_push zi_42_39 rfl ?_
              refine n_ic1 (i := kj) (j := 20047) zi_42_42 rfl (by omega) (by omega) (fun _ => ?_) (fun c => absurd c (by omega))
              refine r_push zi_42_49 rfl ?_
              refine r_is5 zi_42_50 rfl ?_
              refine r_il5 zi_42_52 rfl ?_
              refine r_if1 zi_42_54 rfl (fun c => absurd (by decide) c) (fun _ => ?_)
              refine r_il1 zi_42_57 rfl ?_
              refine r_push zi_42_58 rfl ?_
              refine r_ic0 zi_42_59 rfl (fun _ => ?_) (fun c => absurd (by decide) c)
              refine r_il5 zi_42_72 rfl ?_
              refine r_if1 zi_42_74 rfl (fun c => absurd (by decide) c) (fun _ => ?_)
              refine r_il4 zi_42_77 rfl ?_
              refine r_push zi_42_79 rfl ?_
              refine n_ic0 (i := kj) (j := 20043) zi_42_82 rfl (by omega) (by omega) (fun c2 => ?_) (fun c2 => ?_)
              · refine r_al0 zi_42_95 rfl ?_
                refine q_getR zi_42_96 rfl cf_169_0 ?_
                refine r_dupR zi_42_99 rfl ?_
                refine q_getIe zi_42_100 rfl cf_170_3 (v := nI j) (by first | exact hn5 | ((repeat (first | rw [zup_ne (by first | decide | omega)] | rw [zup_nj (by first | decide | omega)] | rw [fil_ne (by first | decide | omega)])) <;> exact hn5) | (simp [up_rd, fil_rd]; exact hn5)) ?_
                refine r_push zi_42_103 rfl ?_
                refine r_b0 zi_42_104 rfl ?_
                rw [show (nI j + 1 : Int32) = nI (j + 1) from nI_add _ _]
                refine q_put zi_42_105 rfl cf_170_3 rfl ?_
                refine r_il4 zi_42_108 rfl ?_
                refine r_push zi_42_110 rfl ?_
                refine n_ic1 (i := kj) (j := 20047) zi_42_113 rfl (by omega) (by omega) (fun _ => ?_) (fun c => absurd c (by omega))
                refine r_al0 zi_42_123 rfl ?_
                refine q_cIV zi_42_124 rfl rfl rfl rfl rfl rfl rfl cf_169_0.ob (hun cs τ hF hk hjn hd (by omega) _ (fun z => absurd z g) (fun _ υ x1 x2 x3 => ?_))
                show zk _ _ 127 _ _ _ _
                refine r_is2 zi_42_127 rfl ?_
                refine r_il5 zi_42_128 rfl ?_
                refine r_if0 zi_42_130 rfl (fun _ => ?_) (fun c => absurd (by decide) c)
                refine r_il4 zi_42_145 rfl ?_
                refine r_is1 zi_42_147 rfl ?_
                refine r_in3 zi_42_148 rfl ?_
                rw [show (nI i + 1 : Int32) = nI (i + 1) from nI_add _ _]
                refine r_goto zi_42_151 rfl ?_
                exact hfin 1 (j + 1) (i + 1) _ υ _ _ er.symm (by omega) x1 x2 x3
              · refine r_il4 zi_42_85 rfl ?_
                refine r_push zi_42_87 rfl ?_
                refine n_ic0 (i := kj) (j := 20045) zi_42_90 rfl (by omega) (by omega) (fun c4 => ?_) (fun c4 => ?_)
                · refine r_al0 zi_42_95 rfl ?_
                  refine q_getR zi_42_96 rfl cf_169_0 ?_
                  refine r_dupR zi_42_99 rfl ?_
                  refine q_getIe zi_42_100 rfl cf_170_3 (v := nI j) (by first | exact hn5 | ((repeat (first | rw [zup_ne (by first | decide | omega)] | rw [zup_nj (by first | decide | omega)] | rw [fil_ne (by first | decide | omega)])) <;> exact hn5) | (simp [up_rd, fil_rd]; exact hn5)) ?_
                  refine r_push zi_42_103 rfl ?_
                  refine r_b0 zi_42_104 rfl ?_
                  rw [show (nI j + 1 : Int32) = nI (j + 1) from nI_add _ _]
                  refine q_put zi_42_105 rfl cf_170_3 rfl ?_
                  refine r_il4 zi_42_108 rfl ?_
                  refine r_push zi_42_110 rfl ?_
                  refine n_ic1 (i := kj) (j := 20047) zi_42_113 rfl (by omega) (by omega) (fun _ => ?_) (fun c => absurd c (by omega))
                  refine r_al0 zi_42_123 rfl ?_
                  refine q_cIV zi_42_124 rfl rfl rfl rfl rfl rfl rfl cf_169_0.ob (hun cs τ hF hk hjn hd (by omega) _ (fun z => absurd z g) (fun _ υ x1 x2 x3 => ?_))
                  show zk _ _ 127 _ _ _ _
                  refine r_is2 zi_42_127 rfl ?_
                  refine r_il5 zi_42_128 rfl ?_
                  refine r_if0 zi_42_130 rfl (fun _ => ?_) (fun c => absurd (by decide) c)
                  refine r_il4 zi_42_145 rfl ?_
                  refine r_is1 zi_42_147 rfl ?_
                  refine r_in3 zi_42_148 rfl ?_
                  rw [show (nI i + 1 : Int32) = nI (i + 1) from nI_add _ _]
                  refine r_goto zi_42_151 rfl ?_
                  exact hfin 1 (j + 1) (i + 1) _ υ _ _ er.symm (by omega) x1 x2 x3
                · exfalso; omega
            | some a =>
              have hwa := hw a rfl
              show zk _ _ 9 [.ref 169, .int (nI a), .int 1, .int (nI i), u4, u5] [] τ _
              replace hl : cs.length + 1 ≤ j := hl
              have an : ¬ nI a = -1 := fun z => absurd (nI_pos' (n := a) (by omega)) (by rw [z]; decide)
              refine r_il3 zi_42_9 rfl ?_
              refine r_push zi_42_10 rfl ?_
              refine n_ic4 (i := i) (j := 400) zi_42_13 rfl (by omega) (by omega) (fun c => absurd c (by omega)) (fun _ => ?_)
              refine r_il2 zi_42_16 rfl ?_
              refine r_if0 zi_42_17 rfl (fun c => absurd c (by decide)) (fun _ => ?_)
              refine r_al0 zi_42_20 rfl ?_
              refine q_getR zi_42_21 rfl cf_169_0 ?_
              refine q_cIV zi_42_24 rfl rfl rfl rfl rfl rfl rfl cf_170_0.ob (htok _ ?_)
              show zk _ _ 27 _ _ _ _
              refine r_is4 zi_42_27 rfl ?_
              refine r_il4 zi_42_29 rfl ?_
              refine r_push zi_42_31 rfl ?_
              refine n_ic0 (i := kj) (j := 20042) zi_42_34 rfl (by omega) (by omega) (fun c => absurd c (by omega)) (fun _ => ?_)
              refine r_il4 zi_42_37 rfl ?_
              refine r_push zi_42_39 rfl ?_
              refine n_ic1 (i := kj) (j := 20047) zi_42_42 rfl (by omega) (by omega) (fun _ => ?_) (fun c => absurd c (by omega))
              refine r_push zi_42_49 rfl ?_
              refine r_is5 zi_42_50 rfl ?_
              refine r_il5 zi_42_52 rfl ?_
              refine r_if1 zi_42_54 rfl (fun c => absurd (by decide) c) (fun _ => ?_)
              refine r_il1 zi_42_57 rfl ?_
              refine r_push zi_42_58 rfl ?_
              refine r_ic0 zi_42_59 rfl (fun c => absurd c an) (fun _ => ?_)
              refine r_al0 zi_42_62 rfl ?_
              refine q_getR zi_42_63 rfl cf_169_1 ?_
              refine r_il1 zi_42_66 rfl ?_
              refine q_cVV zi_42_67 rfl rfl rfl rfl rfl rfl rfl cf_173_0.ob (hlay cs τ a j hF hk hd (by omega) _ (fun υ x1 x2 x3 => ?_))
              show zk _ _ 70 _ _ _ _
              refine r_push zi_42_70 rfl ?_
              refine r_is1 zi_42_71 rfl ?_
              refine r_il5 zi_42_72 rfl ?_
              refine r_if1 zi_42_74 rfl (fun c => absurd (by decide) c) (fun _ => ?_)
              refine r_il4 zi_42_77 rfl ?_
              refine r_push zi_42_79 rfl ?_
              refine n_ic0 (i := kj) (j := 20043) zi_42_82 rfl (by omega) (by omega) (fun c3 => ?_) (fun c3 => ?_)
              · refine r_al0 zi_42_95 rfl ?_
                refine q_getR zi_42_96 rfl cf_169_0 ?_
                refine r_dupR zi_42_99 rfl ?_
                refine q_getIe zi_42_100 rfl cf_170_3 (v := nI j) (by first | exact x2.2.2.2.2.1 | ((repeat (first | rw [zup_ne (by first | decide | omega)] | rw [zup_nj (by first | decide | omega)] | rw [fil_ne (by first | decide | omega)])) <;> exact x2.2.2.2.2.1) | (simp [up_rd, fil_rd]; exact x2.2.2.2.2.1)) ?_
                refine r_push zi_42_103 rfl ?_
                refine r_b0 zi_42_104 rfl ?_
                rw [show (nI j + 1 : Int32) = nI (j + 1) from nI_add _ _]
                refine q_put zi_42_105 rfl cf_170_3 rfl ?_
                refine r_il4 zi_42_108 rfl ?_
                refine r_push zi_42_110 rfl ?_
                refine n_ic1 (i := kj) (j := 20047) zi_42_113 rfl (by omega) (by omega) (fun _ => ?_) (fun c => absurd c (by omega))
                refine r_al0 zi_42_123 rfl ?_
                refine q_cIV zi_42_124 rfl rfl rfl rfl rfl rfl rfl cf_169_0.ob (hun _ υ x1 x2 hjn x3 (by rw [hl2]; omega) _ (fun z => absurd z g) (fun _ ρ y1 y2 y3 => ?_))
                show zk _ _ 127 _ _ _ _
                refine r_is2 zi_42_127 rfl ?_
                refine r_il5 zi_42_128 rfl ?_
                refine r_if0 zi_42_130 rfl (fun _ => ?_) (fun c => absurd (by decide) c)
                refine r_il4 zi_42_145 rfl ?_
                refine r_is1 zi_42_147 rfl ?_
                refine r_in3 zi_42_148 rfl ?_
                rw [show (nI i + 1 : Int32) = nI (i + 1) from nI_add _ _]
                refine r_goto zi_42_151 rfl ?_
                exact hfin 1 (j + 1) (i + 1) _ ρ _ _ er.symm (by omega) y1 y2 y3
              · refine r_il4 zi_42_85 rfl ?_
                refine r_push zi_42_87 rfl ?_
                refine n_ic0 (i := kj) (j := 20045) zi_42_90 rfl (by omega) (by omega) (fun c5 => ?_) (fun c5 => ?_)
                · refine r_al0 zi_42_95 rfl ?_
                  refine q_getR zi_42_96 rfl cf_169_0 ?_
                  refine r_dupR zi_42_99 rfl ?_
                  refine q_getIe zi_42_100 rfl cf_170_3 (v := nI j) (by first | exact x2.2.2.2.2.1 | ((repeat (first | rw [zup_ne (by first | decide | omega)] | rw [zup_nj (by first | decide | omega)] | rw [fil_ne (by first | decide | omega)])) <;> exact x2.2.2.2.2.1) | (simp [up_rd, fil_rd]; exact x2.2.2.2.2.1)) ?_
                  refine r_push zi_42_103 rfl ?_
                  refine r_b0 zi_42_104 rfl ?_
                  rw [show (nI j + 1 : Int32) = nI (j + 1) from nI_add _ _]
                  refine q_put zi_42_105 rfl cf_170_3 rfl ?_
                  refine r_il4 zi_42_108 rfl ?_
                  refine r_push zi_42_110 rfl ?_
                  refine n_ic1 (i := kj) (j := 20047) zi_42_113 rfl (by omega) (by omega) (fun _ => ?_) (fun c => absurd c (by omega))
                  refine r_al0 zi_42_123 rfl ?_
                  refine q_cIV zi_42_124 rfl rfl rfl rfl rfl rfl rfl cf_169_0.ob (hun _ υ x1 x2 hjn x3 (by rw [hl2]; omega) _ (fun z => absurd z g) (fun _ ρ y1 y2 y3 => ?_))
                  show zk _ _ 127 _ _ _ _
                  refine r_is2 zi_42_127 rfl ?_
                  refine r_il5 zi_42_128 rfl ?_
                  refine r_if0 zi_42_130 rfl (fun _ => ?_) (fun c => absurd (by decide) c)
                  refine r_il4 zi_42_145 rfl ?_
                  refine r_is1 zi_42_147 rfl ?_
                  refine r_in3 zi_42_148 rfl ?_
                  rw [show (nI i + 1 : Int32) = nI (i + 1) from nI_add _ _]
                  refine r_goto zi_42_151 rfl ?_
                  exact hfin 1 (j + 1) (i + 1) _ ρ _ _ er.symm (by omega) y1 y2 y3
                · exfalso; omega
        · rw [if_neg c3] at hr
          have er := Option.some.inj hr
          have c4 : ¬ K j = 20043 := fun z => c3 (Or.inl z)
          have c5 : ¬ K j = 20045 := fun z => c3 (Or.inr z)
          generalize hkj : K j = kj at *
          cases w with
          | none =>
            have h1 := h1 j cs τ (by rw [← er]; show Sum.inr (j, cs ++ []) = _; rw [List.append_nil]) hF hk hd hl
            show zk _ _ 9 [.ref 169, .int (-1), .int 1, .int (nI i), u4, u5] [] τ _
            refine r_il3 zi_42_9 rfl ?_
            refine r_push zi_42_10 rfl ?_
            refine n_ic4 (i := i) (j := 400) zi_42_13 rfl (by omega) (by omega) (fun c => absurd c (by omega)) (fun _ => ?_)
            refine r_il2 zi_42_16 rfl ?_
            refine r_if0 zi_42_17 rfl (fun c => absurd c (by decide)) (fun _ => ?_)
            refine r_al0 zi_42_20 rfl ?_
            refine q_getR zi_42_21 rfl cf_169_0 ?_
            refine q_cIV zi_42_24 rfl rfl rfl rfl rfl rfl rfl cf_170_0.ob (htok _ ?_)
            show zk _ _ 27 _ _ _ _
            refine r_is4 zi_42_27 rfl ?_
            refine r_il4 zi_42_29 rfl ?_
            refine r_push zi_42_31 rfl ?_
            refine n_ic0 (i := kj) (j := 20042) zi_42_34 rfl (by omega) (by omega) (fun c => absurd c (by omega)) (fun _ => ?_)
            refine r_il4 zi_42_37 rfl ?_
            refine r_push zi_42_39 rfl ?_
            refine n_ic1 (i := kj) (j := 20047) zi_42_42 rfl (by omega) (by omega) (fun _ => ?_) (fun c => absurd c (by omega))
            refine r_push zi_42_49 rfl ?_
            refine r_is5 zi_42_50 rfl ?_
            refine r_il5 zi_42_52 rfl ?_
            refine r_if1 zi_42_54 rfl (fun c => absurd (by decide) c) (fun _ => ?_)
            refine r_il1 zi_42_57 rfl ?_
            refine r_push zi_42_58 rfl ?_
            refine r_ic0 zi_42_59 rfl (fun _ => ?_) (fun c => absurd (by decide) c)
            refine r_il5 zi_42_72 rfl ?_
            refine r_if1 zi_42_74 rfl (fun c => absurd (by decide) c) (fun _ => ?_)
            refine r_il4 zi_42_77 rfl ?_
            refine r_push zi_42_79 rfl ?_
            refine n_ic0 (i := kj) (j := 20043) zi_42_82 rfl (by omega) (by omega) (fun c => absurd c (by omega)) (fun _ => ?_)
            refine r_il4 zi_42_85 rfl ?_
            refine r_push zi_42_87 rfl ?_
            refine n_ic0 (i := kj) (j := 20045) zi_42_90 rfl (by omega) (by omega) (fun c => absurd c (by omega)) (fun _ => ?_)
            refine r_push zi_42_93 rfl ?_
            refine r_retZ zi_42_94 rfl (by decide) ?_
            exact ⟨_, rfl, h1⟩
          | some a =>
            have hwa := hw a rfl
            replace hl : cs.length + 1 ≤ j := hl
            have h1 := fun υ x1 x2 x3 => h1 j (cs ++ [a]) υ er.symm x1 x2 x3 (by rw [hl2]; omega)
            show zk _ _ 9 [.ref 169, .int (nI a), .int 1, .int (nI i), u4, u5] [] τ _
            have an : ¬ nI a = -1 := fun z => absurd (nI_pos' (n := a) (by omega)) (by rw [z]; decide)
            refine r_il3 zi_42_9 rfl ?_
            refine r_push zi_42_10 rfl ?_
            refine n_ic4 (i := i) (j := 400) zi_42_13 rfl (by omega) (by omega) (fun c => absurd c (by omega)) (fun _ => ?_)
            refine r_il2 zi_42_16 rfl ?_
            refine r_if0 zi_42_17 rfl (fun c => absurd c (by decide)) (fun _ => ?_)
            refine r_al0 zi_42_20 rfl ?_
            refine q_getR zi_42_21 rfl cf_169_0 ?_
            refine q_cIV zi_42_24 rfl rfl rfl rfl rfl rfl rfl cf_170_0.ob (htok _ ?_)
            show zk _ _ 27 _ _ _ _
            refine r_is4 zi_42_27 rfl ?_
            refine r_il4 zi_42_29 rfl ?_
            refine r_push zi_42_31 rfl ?_
            refine n_ic0 (i := kj) (j := 20042) zi_42_34 rfl (by omega) (by omega) (fun c => absurd c (by omega)) (fun _ => ?_)
            refine r_il4 zi_42_37 rfl ?_
            refine r_push zi_42_39 rfl ?_
            refine n_ic1 (i := kj) (j := 20047) zi_42_42 rfl (by omega) (by omega) (fun _ => ?_) (fun c => absurd c (by omega))
            refine r_push zi_42_49 rfl ?_
            refine r_is5 zi_42_50 rfl ?_
            refine r_il5 zi_42_52 rfl ?_
            refine r_if1 zi_42_54 rfl (fun c => absurd (by decide) c) (fun _ => ?_)
            refine r_il1 zi_42_57 rfl ?_
            refine r_push zi_42_58 rfl ?_
            refine r_ic0 zi_42_59 rfl (fun c => absurd c an) (fun _ => ?_)
            refine r_al0 zi_42_62 rfl ?_
            refine q_getR zi_42_63 rfl cf_169_1 ?_
            refine r_il1 zi_42_66 rfl ?_
            refine q_cVV zi_42_67 rfl rfl rfl rfl rfl rfl rfl cf_173_0.ob (hlay cs τ a j hF hk hd (by omega) _ (fun υ x1 x2 x3 => ?_))
            show zk _ _ 70 _ _ _ _
            refine r_push zi_42_70 rfl ?_
            refine r_is1 zi_42_71 rfl ?_
            refine r_il5 zi_42_72 rfl ?_
            refine r_if1 zi_42_74 rfl (fun c => absurd (by decide) c) (fun _ => ?_)
            refine r_il4 zi_42_77 rfl ?_
            refine r_push zi_42_79 rfl ?_
            refine n_ic0 (i := kj) (j := 20043) zi_42_82 rfl (by omega) (by omega) (fun c => absurd c (by omega)) (fun _ => ?_)
            refine r_il4 zi_42_85 rfl ?_
            refine r_push zi_42_87 rfl ?_
            refine n_ic0 (i := kj) (j := 20045) zi_42_90 rfl (by omega) (by omega) (fun c => absurd c (by omega)) (fun _ => ?_)
            refine r_push zi_42_93 rfl ?_
            refine r_retZ zi_42_94 rfl (by decide) ?_
            exact ⟨_, rfl, h1 υ x1 x2 x3⟩
theorem s_kam {d N f j : Nat} {σ : zS} {Q : Int32 → zS → Prop} {K S : Nat → Nat} {cs : List Nat} {r : (Nat × Nat) ⊕ (Nat × List Nat)} (hr : pe K f j cs = some r) (hk : kTk σ K S N j) (hd : kDc σ cs) (hl : cs.length ≤ j) (h1 : ∀ i cs υ, r = .inr (i, cs) → Fg pA σ υ → kTk υ K S N i → kDc υ cs → cs.length ≤ i → Q 1 υ) (h0 : ∀ n i υ, r = .inl (n, i) → Fg (pF pA) σ υ → υ 170 4 = nI n → υ 170 5 = nI (S i) → Q 0 υ) : zI1 (d + 2) 42 [.ref 169] σ Q := by
  unfold pe at hr
  show zk _ _ 0 [.ref 169, zun, zun, zun, zun, zun] [] _ _
  by_cases g : pun (K j) = true
  · rw [if_pos g] at hr
    have key := fun υ u4 u5 x1 x2 x3 x4 => l_kam (d := d) h1 h0 f none (j + 1) (cs ++ [K j]) 0 υ u4 u5 hr (fun a e => by cases e) x1 x2 x3 (Nat.zero_le _) x4
    refine r_push zi_42_0 rfl ?_
    refine r_is1 zi_42_1 rfl ?_
    refine r_al0 zi_42_2 rfl ?_
    refine q_cIV zi_42_3 rfl rfl rfl rfl rfl rfl rfl cf_169_0.ob (s_runit hk hd hl (fun _ υ x1 x2 x3 => ?_) (fun z => absurd g z))
    show zk _ _ 6 _ _ _ _
    refine r_is2 zi_42_6 rfl ?_
    refine r_push zi_42_7 rfl ?_
    refine r_is3 zi_42_8 rfl ?_
    exact key υ _ _ x2 x3 (by rw [List.length_append]; show cs.length + 1 + 0 ≤ _; omega) x1
  · rw [if_neg g] at hr
    have er := Option.some.inj hr
    have h0 := fun υ x y z => h0 1 j υ er.symm x y z
    refine r_push zi_42_0 rfl ?_
    refine r_is1 zi_42_1 rfl ?_
    refine r_al0 zi_42_2 rfl ?_
    refine q_cIV zi_42_3 rfl rfl rfl rfl rfl rfl rfl cf_169_0.ob (s_runit hk hd hl (fun z => absurd z g) (fun _ υ x1 x2 x3 => ?_))
    show zk _ _ 6 _ _ _ _
    refine r_is2 zi_42_6 rfl ?_
    refine r_push zi_42_7 rfl ?_
    refine r_is3 zi_42_8 rfl ?_
    refine r_il3 zi_42_9 rfl ?_
    refine r_push zi_42_10 rfl ?_
    refine r_ic4 zi_42_13 rfl (fun c => absurd c (by decide)) (fun _ => ?_)
    refine r_il2 zi_42_16 rfl ?_
    refine r_if0 zi_42_17 rfl (fun _ => ?_) (fun c => absurd (by decide) c)
    refine r_push zi_42_154 rfl ?_
    refine r_retZ zi_42_155 rfl (by decide) ?_
    exact ⟨_, rfl, h0 υ x1 x2 x3⟩

