/-! E in the model: products and sums -/
theorem pam_w {K : Nat → Nat} {f j s : Nat} {cs : List Nat} (h1 : K j ≠ 20042) (h2 : K j ≠ 20047) : pam K f (some s) j cs = pam K f none j (cs ++ [s]) := by
  cases f with
  | zero => rfl
  | succ f =>
    have e : ∀ w ds, pam K (f + 1) w j ds = if K j = 20042 then (if pun (K (j + 1)) = true then pam K f w (j + 2) (ds ++ [K (j + 1)] ++ [20042]) else some (.inl (1, j + 1))) else if K j = 20047 then (if 10000 ≤ K (j + 1) then some (.inl (1, j + 1)) else if K (j + 1) = 0 then some (.inl (2, j + 1)) else pam K f w (j + 2) (ds ++ [K (j + 1)] ++ [20047])) else if K j = 20043 ∨ K j = 20045 then (if pun (K (j + 1)) = true then pam K f (some (K j)) (j + 2) (ds ++ w.toList ++ [K (j + 1)]) else some (.inl (1, j + 1))) else some (.inr (j, ds ++ w.toList)) := fun w ds => rfl
    rw [e, e, if_neg h1, if_neg h1, if_neg h2, if_neg h2]
    have l1 : (some s).toList = [s] := rfl
    have l2 : (none : Option Nat).toList = [] := rfl
    rw [l1, l2, List.append_nil]
/-- the state of the model's reader -/
def mSt (τ : zS) (t : Nat → Nat) (b N j : Nat) (cs : List Nat) (l : Nat) : Prop := mTk τ t b j ∧ mDc τ cs ∧ j ≤ N ∧ cs.length + l ≤ j
theorem l_mprod {d N l j0 : Nat} {σ : zS} {Q : Int32 → zS → Prop} {t : Nat → Nat} {b : Nat} {r : (Nat × Nat) ⊕ (Nat × List Nat)} {w : Option Nat} (hE : mEn t b N) (h1 : ∀ f j cs υ, j0 ≤ j → pam (tkk t b) f w j cs = some r → tkk t b j ≠ 20042 → tkk t b j ≠ 20047 → Fg mA σ υ → mSt υ t b N j cs l → Q 0 υ) (h0 : ∀ n i υ, r = .inl (n, i) → Fg mA σ υ → υ 195 29 = nI n → υ 195 30 = nI (tks t b i) → Q (-1) υ) : ∀ (f j : Nat) (cs : List Nat) (τ : zS) (u : Value), j0 ≤ j → pam (tkk t b) f w j cs = some r → mSt τ t b N j cs l → Fg mA σ τ → zk (d + 4) 200 10 [.ref 195, u] [] τ (fun r t => ∃ v, r = some v ∧ Q v t) := by
  intro f
  induction f with
  | zero => intro j cs τ u _ hr; cases hr
  | succ f ih =>
    intro j cs τ u hj0 hr hs hF
    obtain ⟨k1, k2, k3, k4⟩ := id hs
    have hN := hE.2
    have hkd := k1.2.2.2
    have hr2 : (if tkk t b j = 20042 then (if pun (tkk t b (j + 1)) = true then pam (tkk t b) f w (j + 2) (cs ++ [tkk t b (j + 1)] ++ [20042]) else some (.inl (1, j + 1))) else if tkk t b j = 20047 then (if 10000 ≤ tkk t b (j + 1) then some (.inl (1, j + 1)) else if tkk t b (j + 1) = 0 then some (.inl (2, j + 1)) else pam (tkk t b) f w (j + 2) (cs ++ [tkk t b (j + 1)] ++ [20047])) else if tkk t b j = 20043 ∨ tkk t b j = 20045 then (if pun (tkk t b (j + 1)) = true then pam (tkk t b) f (some (tkk t b j)) (j + 2) (cs ++ w.toList ++ [tkk t b (j + 1)]) else some (.inl (1, j + 1))) else some (.inr (j, cs ++ w.toList))) = some r := hr
    have hjn : tkk t b j ≠ 30001 → j + 1 ≤ N := fun z => by
      by_cases e : j = N
      · rw [e, hE.1] at z; exact absurd rfl z
      · omega
    have l2 : ∀ a c : Nat, (cs ++ [a] ++ [c]).length = cs.length + 2 := fun a c => by rw [List.length_append, List.length_append]; rfl
    have l1 : ∀ a : Nat, (cs ++ [a]).length = cs.length + 1 := fun a => by rw [List.length_append]; rfl
    have hrd : tkk t b j ≠ 30001 → ∀ (Q2 : zS → Prop), (∀ υ, Fg mA σ υ → mTk υ t b (j + 1) → mDc υ cs → Q2 υ) → zV1 (d + 3) 193 [.ref 195] τ Q2 := fun z Q2 h2 => s_readn (d := d + 1) k1 (fun υ x y => h2 υ (hF.tr (x.sub (fun a b => mR_A))) y (mDc_f k2 (x 195 25 (by unfold mR; omega)) (fun b => x 209 b (by unfold mR; omega)) (fun b => x 210 b (by unfold mR; omega))))
    have hun : ∀ υ, j + 1 ≤ N → Fg mA σ υ → mTk υ t b (j + 1) → mDc υ cs → ∀ (Q2 : Int32 → zS → Prop), (pun (tkk t b (j + 1)) = true → ∀ ρ, Fg mA σ ρ → mSt ρ t b N (j + 2) (cs ++ [tkk t b (j + 1)]) (l + 1) → Q2 0 ρ) → (¬ pun (tkk t b (j + 1)) = true → r = .inl (1, j + 1) → ∀ ρ, Q (-1) ρ → Q2 (-1) ρ) → (¬ pun (tkk t b (j + 1)) = true → r = .inl (1, j + 1)) → zI1 (d + 3) 199 [.ref 195] υ Q2 := fun υ hj x y z Q2 g1 g0 ge => s_munit (d := d) hE hj y z (by omega) (fun p q ρ u1 u2 u3 => g1 p ρ (x.tr u1) ⟨u2, u3, q, by rw [l1]; omega⟩) (fun p ρ u1 u2 u3 => g0 p (ge p) ρ (h0 1 (j + 1) ρ (ge p) (x.tr u1) u2 u3))
    have hem : ∀ (o : Int32) (k : Nat) (ds : List Nat) (i : Nat) (υ : zS), o = nI (zdo k) → 10012 < k → Fg mA σ υ → mSt υ t b N i ds (l + 1) → ∀ (Q2 : zS → Prop), (∀ ρ, Fg mA σ ρ → mSt ρ t b N i (ds ++ [k]) l → Q2 ρ) → zV1 (d + 3) 197 [.ref 195, .int o, .int 0] υ Q2 := fun o k ds i υ e hk x y Q2 h2 => s_emits (a := 0) y.2.1 (by have := y.2.2.1; have := y.2.2.2; omega) e (by unfold zda; rw [if_neg (by omega), if_neg (by omega)]; rfl) (fun ρ u1 u2 => h2 ρ (x.tr (u1.sub (fun a b => mE_A))) ⟨mTk_f y.1 (fun q a b => u1 195 q (by unfold mE; omega)) (fun q => u1 202 q (by unfold mE; omega)) (fun q => u1 203 q (by unfold mE; omega)), u2, y.2.2.1, by rw [List.length_append, List.length_singleton]; have := y.2.2.2; omega⟩)
    have hsg : ∀ (c : Nat) (Q2 : Int32 → zS → Prop), c < 256 → (tkk t b j = 20000 + c → Q2 1 τ) → (¬ tkk t b j = 20000 + c → Q2 0 τ) → zI1 (d + 3) 196 [.ref 195, .int (nI c)] τ Q2 := fun c Q2 hc g1 g0 => s_msign hkd hc g1 g0
    by_cases c1 : tkk t b j = 20042
    · rw [if_pos c1] at hr2
      have hj := hjn (by omega)
      have hrd := hrd (by omega)
      by_cases g : pun (tkk t b (j + 1)) = true
      · rw [if_pos g] at hr2
        have ih := fun ρ x y => ih _ _ ρ (.int 1) (by omega) hr2 y x
        refine r_al0 zi_200_10 rfl ?_
        refine r_push zi_200_11 rfl ?_
        refine q_cIV zi_200_13 rfl rfl rfl rfl rfl rfl rfl cf_195_0.ob (hsg 42 _ (by decide) (fun _ => ?_) (fun z => absurd c1 z))
        show zk _ _ 16 _ _ _ _
        refine r_if1 zi_200_16 rfl (fun _ => ?_) (fun c => absurd c (by decide))
        refine r_al0 zi_200_28 rfl ?_
        refine r_push zi_200_29 rfl ?_
        refine q_cIV zi_200_31 rfl rfl rfl rfl rfl rfl rfl cf_195_0.ob (hsg 42 _ (by decide) (fun _ => ?_) (fun z => absurd c1 z))
        show zk _ _ 34 _ _ _ _
        refine r_is1 zi_200_34 rfl ?_
        refine r_al0 zi_200_35 rfl ?_
        refine q_cVV zi_200_36 rfl rfl rfl rfl rfl rfl rfl cf_195_0.ob (hrd _ (fun υ x1 x2 x3 => ?_))
        show zk _ _ 39 _ _ _ _
        refine r_il1 zi_200_39 rfl ?_
        refine r_if1 zi_200_40 rfl (fun _ => ?_) (fun c => absurd c (by decide))
        refine r_il1 zi_200_57 rfl ?_
        refine r_if1 zi_200_58 rfl (fun _ => ?_) (fun c => absurd c (by decide))
        refine r_al0 zi_200_74 rfl ?_
        refine q_cIV zi_200_75 rfl rfl rfl rfl rfl rfl rfl cf_195_0.ob (hun υ hj x1 x2 x3 _ (fun _ ρ y1 y2 => ?_) (fun z => absurd g z) (fun z => absurd g z))
        show zk _ _ 78 _ _ _ _
        refine r_push zi_200_78 rfl ?_
        refine r_ic1 zi_200_79 rfl (fun _ => ?_) (fun c => absurd c (by decide))
        refine r_al0 zi_200_84 rfl ?_
        refine r_il1 zi_200_85 rfl ?_
        refine r_if0 zi_200_86 rfl (fun c => absurd c (by decide)) (fun _ => ?_)
        refine r_push zi_200_89 rfl ?_
        refine r_goto zi_200_90 rfl ?_
        refine r_push zi_200_94 rfl ?_
        refine q_cVV zi_200_95 rfl rfl rfl rfl rfl rfl rfl cf_195_0.ob (hem 4 20042 _ _ ρ rfl (by decide) y1 y2 _ (fun ω z1 z2 => ?_))
        show zk _ _ 98 _ _ _ _
        refine r_goto zi_200_98 rfl ?_
        exact ih ω z1 z2
      · rw [if_neg g] at hr2
        have er := Option.some.inj hr2
        refine r_al0 zi_200_10 rfl ?_
        refine r_push zi_200_11 rfl ?_
        refine q_cIV zi_200_13 rfl rfl rfl rfl rfl rfl rfl cf_195_0.ob (hsg 42 _ (by decide) (fun _ => ?_) (fun z => absurd c1 z))
        show zk _ _ 16 _ _ _ _
        refine r_if1 zi_200_16 rfl (fun _ => ?_) (fun c => absurd c (by decide))
        refine r_al0 zi_200_28 rfl ?_
        refine r_push zi_200_29 rfl ?_
        refine q_cIV zi_200_31 rfl rfl rfl rfl rfl rfl rfl cf_195_0.ob (hsg 42 _ (by decide) (fun _ => ?_) (fun z => absurd c1 z))
        show zk _ _ 34 _ _ _ _
        refine r_is1 zi_200_34 rfl ?_
        refine r_al0 zi_200_35 rfl ?_
        refine q_cVV zi_200_36 rfl rfl rfl rfl rfl rfl rfl cf_195_0.ob (hrd _ (fun υ x1 x2 x3 => ?_))
        show zk _ _ 39 _ _ _ _
        refine r_il1 zi_200_39 rfl ?_
        refine r_if1 zi_200_40 rfl (fun _ => ?_) (fun c => absurd c (by decide))
        refine r_il1 zi_200_57 rfl ?_
        refine r_if1 zi_200_58 rfl (fun _ => ?_) (fun c => absurd c (by decide))
        refine r_al0 zi_200_74 rfl ?_
        refine q_cIV zi_200_75 rfl rfl rfl rfl rfl rfl rfl cf_195_0.ob (hun υ hj x1 x2 x3 _ (fun z => absurd z g) (fun _ _ ρ y => ?_) (fun _ => er.symm))
        show zk _ _ 78 _ _ _ _
        refine r_push zi_200_78 rfl ?_
        refine r_ic1 zi_200_79 rfl (fun c => absurd (by decide) c) (fun _ => ?_)
        refine r_push zi_200_82 rfl ?_
        refine r_retI zi_200_83 rfl ?_
        exact ⟨_, rfl, y⟩
    · rw [if_neg c1] at hr2
      by_cases c2 : tkk t b j = 20047
      · rw [if_pos c2] at hr2
        have hj := hjn (by omega)
        have hrd := hrd (by omega)
        have hker := fun (n : Nat) υ (x : Fg mA σ υ) (y : mTk υ t b (j + 1)) (e : r = .inl (n, j + 1)) (Q2 : Int32 → zS → Prop) (h2 : ∀ ρ, Q (-1) ρ → Q2 (-1) ρ) => s_err (d := d + 3) (n := n) y (Q := Q2) (fun ρ u1 u2 u3 => h2 ρ (h0 n (j + 1) ρ e (x.tr u1) u2 u3))
        by_cases g : 10000 ≤ tkk t b (j + 1)
        · rw [if_pos g] at hr2
          have er := Option.some.inj hr2
          have hn3 : ∀ υ, mTk υ t b (j + 1) → ¬ υ 195 14 = 3 := fun υ y z => by
            rcases y.2.2.2 with ⟨h, e1, e2⟩ | ⟨q, hq, h, e1, e2⟩ | ⟨q, hq, h, e1, e2⟩ | ⟨h, e1⟩ | ⟨h, e1⟩
            · omega
            · rw [e1] at z; exact absurd z (by decide)
            · rw [e1] at z; exact absurd z (by decide)
            · rw [e1] at z; exact absurd z (by decide)
            · rw [e1] at z; exact absurd z (by decide)
          refine r_al0 zi_200_10 rfl ?_
          refine r_push zi_200_11 rfl ?_
          refine q_cIV zi_200_13 rfl rfl rfl rfl rfl rfl rfl cf_195_0.ob (hsg 42 _ (by decide) (fun z => absurd z c1) (fun _ => ?_))
          show zk _ _ 16 _ _ _ _
          refine r_if1 zi_200_16 rfl (fun c => absurd (by decide) c) (fun _ => ?_)
          refine r_al0 zi_200_19 rfl ?_
          refine r_push zi_200_20 rfl ?_
          refine q_cIV zi_200_22 rfl rfl rfl rfl rfl rfl rfl cf_195_0.ob (hsg 47 _ (by decide) (fun _ => ?_) (fun z => absurd c2 z))
          show zk _ _ 25 _ _ _ _
          refine r_if0 zi_200_25 rfl (fun c => absurd c (by decide)) (fun _ => ?_)
          refine r_al0 zi_200_28 rfl ?_
          refine r_push zi_200_29 rfl ?_
          refine q_cIV zi_200_31 rfl rfl rfl rfl rfl rfl rfl cf_195_0.ob (hsg 42 _ (by decide) (fun z => absurd z c1) (fun _ => ?_))
          show zk _ _ 34 _ _ _ _
          refine r_is1 zi_200_34 rfl ?_
          refine r_al0 zi_200_35 rfl ?_
          refine q_cVV zi_200_36 rfl rfl rfl rfl rfl rfl rfl cf_195_0.ob (hrd _ (fun υ x1 x2 x3 => ?_))
          show zk _ _ 39 _ _ _ _
          refine r_il1 zi_200_39 rfl ?_
          refine r_if1 zi_200_40 rfl (fun c => absurd (by decide) c) (fun _ => ?_)
          refine r_al0 zi_200_43 rfl ?_
          refine q_getI zi_200_44 rfl cf_195_14 ?_
          refine r_push zi_200_47 rfl ?_
          refine r_ic0 zi_200_48 rfl (fun c => absurd c (hn3 υ x2)) (fun _ => ?_)
          refine r_al0 zi_200_51 rfl ?_
          refine r_push zi_200_52 rfl ?_
          refine q_cIV zi_200_53 rfl rfl rfl rfl rfl rfl rfl cf_195_0.ob (hker 1 υ x1 x2 er.symm _ (fun ρ y => ?_))
          show zk _ _ 56 _ _ _ _
          refine r_retI zi_200_56 rfl ?_
          exact ⟨_, rfl, y⟩
        · rw [if_neg g] at hr2
          have e14 : ∀ υ, mTk υ t b (j + 1) → υ 195 14 = 3 ∧ υ 195 15 = nI (tkk t b (j + 1)) := fun υ y => by
            rcases y.2.2.2 with ⟨h, e1, e2⟩ | ⟨q, hq, h, e1, e2⟩ | ⟨q, hq, h, e1, e2⟩ | ⟨h, e1⟩ | ⟨h, e1⟩
            · exact ⟨e1, e2⟩
            · omega
            · omega
            · omega
            · omega
          by_cases g2 : tkk t b (j + 1) = 0
          · rw [if_pos g2] at hr2
            have er := Option.some.inj hr2
            rw [g2] at e14
            refine r_al0 zi_200_10 rfl ?_
            refine r_push zi_200_11 rfl ?_
            refine q_cIV zi_200_13 rfl rfl rfl rfl rfl rfl rfl cf_195_0.ob (hsg 42 _ (by decide) (fun z => absurd z c1) (fun _ => ?_))
            show zk _ _ 16 _ _ _ _
            refine r_if1 zi_200_16 rfl (fun c => absurd (by decide) c) (fun _ => ?_)
            refine r_al0 zi_200_19 rfl ?_
            refine r_push zi_200_20 rfl ?_
            refine q_cIV zi_200_22 rfl rfl rfl rfl rfl rfl rfl cf_195_0.ob (hsg 47 _ (by decide) (fun _ => ?_) (fun z => absurd c2 z))
            show zk _ _ 25 _ _ _ _
            refine r_if0 zi_200_25 rfl (fun c => absurd c (by decide)) (fun _ => ?_)
            refine r_al0 zi_200_28 rfl ?_
            refine r_push zi_200_29 rfl ?_
            refine q_cIV zi_200_31 rfl rfl rfl rfl rfl rfl rfl cf_195_0.ob (hsg 42 _ (by decide) (fun z => absurd z c1) (fun _ => ?_))
            show zk _ _ 34 _ _ _ _
            refine r_is1 zi_200_34 rfl ?_
            refine r_al0 zi_200_35 rfl ?_
            refine q_cVV zi_200_36 rfl rfl rfl rfl rfl rfl rfl cf_195_0.ob (hrd _ (fun υ x1 x2 x3 => ?_))
            show zk _ _ 39 _ _ _ _
            refine r_il1 zi_200_39 rfl ?_
            refine r_if1 zi_200_40 rfl (fun c => absurd (by decide) c) (fun _ => ?_)
            refine r_al0 zi_200_43 rfl ?_
            refine q_getIe zi_200_44 rfl cf_195_14 (v := 3) (by first | exact (e14 υ x2).1 | ((repeat (first | rw [zup_ne (by first | decide | omega)] | rw [zup_nj (by first | decide | omega)] | rw [fil_ne (by first | decide | omega)])) <;> exact (e14 υ x2).1) | (simp [up_rd, fil_rd]; exact (e14 υ x2).1)) ?_
            refine r_push zi_200_47 rfl ?_
            refine r_ic0 zi_200_48 rfl (fun _ => ?_) (fun c => absurd rfl c)
            refine r_il1 zi_200_57 rfl ?_
            refine r_if1 zi_200_58 rfl (fun c => absurd (by decide) c) (fun _ => ?_)
            refine r_al0 zi_200_61 rfl ?_
            refine q_getIe zi_200_62 rfl cf_195_15 (v := 0) (by first | exact (e14 υ x2).2 | ((repeat (first | rw [zup_ne (by first | decide | omega)] | rw [zup_nj (by first | decide | omega)] | rw [fil_ne (by first | decide | omega)])) <;> exact (e14 υ x2).2) | (simp [up_rd, fil_rd]; exact (e14 υ x2).2)) ?_
            refine r_if1 zi_200_65 rfl (fun c => absurd (by decide) c) (fun _ => ?_)
            refine r_al0 zi_200_68 rfl ?_
            refine r_push zi_200_69 rfl ?_
            refine q_cIV zi_200_70 rfl rfl rfl rfl rfl rfl rfl cf_195_0.ob (hker 2 υ x1 x2 er.symm _ (fun ρ y => ?_))
            show zk _ _ 73 _ _ _ _
            refine r_retI zi_200_73 rfl ?_
            exact ⟨_, rfl, y⟩
          · rw [if_neg g2] at hr2
            have gp : pun (tkk t b (j + 1)) = true := decide_eq_true (Or.inl (by omega))
            have ih := fun ρ x y => ih _ _ ρ (.int 0) (by omega) hr2 y x
            generalize hkj : tkk t b (j + 1) = kk at *
            refine r_al0 zi_200_10 rfl ?_
            refine r_push zi_200_11 rfl ?_
            refine q_cIV zi_200_13 rfl rfl rfl rfl rfl rfl rfl cf_195_0.ob (hsg 42 _ (by decide) (fun z => absurd z c1) (fun _ => ?_))
            show zk _ _ 16 _ _ _ _
            refine r_if1 zi_200_16 rfl (fun c => absurd (by decide) c) (fun _ => ?_)
            refine r_al0 zi_200_19 rfl ?_
            refine r_push zi_200_20 rfl ?_
            refine q_cIV zi_200_22 rfl rfl rfl rfl rfl rfl rfl cf_195_0.ob (hsg 47 _ (by decide) (fun _ => ?_) (fun z => absurd c2 z))
            show zk _ _ 25 _ _ _ _
            refine r_if0 zi_200_25 rfl (fun c => absurd c (by decide)) (fun _ => ?_)
            refine r_al0 zi_200_28 rfl ?_
            refine r_push zi_200_29 rfl ?_
            refine q_cIV zi_200_31 rfl rfl rfl rfl rfl rfl rfl cf_195_0.ob (hsg 42 _ (by decide) (fun z => absurd z c1) (fun _ => ?_))
            show zk _ _ 34 _ _ _ _
            refine r_is1 zi_200_34 rfl ?_
            refine r_al0 zi_200_35 rfl ?_
            refine q_cVV zi_200_36 rfl rfl rfl rfl rfl rfl rfl cf_195_0.ob (hrd _ (fun υ x1 x2 x3 => ?_))
            show zk _ _ 39 _ _ _ _
            refine r_il1 zi_200_39 rfl ?_
            refine r_if1 zi_200_40 rfl (fun c => absurd (by decide) c) (fun _ => ?_)
            refine r_al0 zi_200_43 rfl ?_
            refine q_getIe zi_200_44 rfl cf_195_14 (v := 3) (by first | exact (e14 υ x2).1 | ((repeat (first | rw [zup_ne (by first | decide | omega)] | rw [zup_nj (by first | decide | omega)] | rw [fil_ne (by first | decide | omega)])) <;> exact (e14 υ x2).1) | (simp [up_rd, fil_rd]; exact (e14 υ x2).1)) ?_
            refine r_push zi_200_47 rfl ?_
            refine r_ic0 zi_200_48 rfl (fun _ => ?_) (fun c => absurd rfl c)
            refine r_il1 zi_200_57 rfl ?_
            refine r_if1 zi_200_58 rfl (fun c => absurd (by decide) c) (fun _ => ?_)
            refine r_al0 zi_200_61 rfl ?_
            refine q_getIe zi_200_62 rfl cf_195_15 (v := nI kk) (by first | exact (e14 υ x2).2 | ((repeat (first | rw [zup_ne (by first | decide | omega)] | rw [zup_nj (by first | decide | omega)] | rw [fil_ne (by first | decide | omega)])) <;> exact (e14 υ x2).2) | (simp [up_rd, fil_rd]; exact (e14 υ x2).2)) ?_
            refine n_if1 (i := kk) zi_200_65 rfl (by omega) (fun _ => ?_) (fun c => absurd c (by omega))
            refine r_al0 zi_200_74 rfl ?_
            refine q_cIV zi_200_75 rfl rfl rfl rfl rfl rfl rfl cf_195_0.ob (hun υ hj x1 x2 x3 _ (fun _ ρ y1 y2 => ?_) (fun z => absurd gp z) (fun z => absurd gp z))
            show zk _ _ 78 _ _ _ _
            refine r_push zi_200_78 rfl ?_
            refine r_ic1 zi_200_79 rfl (fun _ => ?_) (fun c => absurd c (by decide))
            refine r_al0 zi_200_84 rfl ?_
            refine r_il1 zi_200_85 rfl ?_
            refine r_if0 zi_200_86 rfl (fun _ => ?_) (fun c => absurd (by decide) c)
            refine r_push zi_200_93 rfl ?_
            refine r_push zi_200_94 rfl ?_
            refine q_cVV zi_200_95 rfl rfl rfl rfl rfl rfl rfl cf_195_0.ob (hem 5 20047 _ _ ρ rfl (by decide) y1 y2 _ (fun ω z1 z2 => ?_))
            show zk _ _ 98 _ _ _ _
            refine r_goto zi_200_98 rfl ?_
            exact ih ω z1 z2
      · have h1 := h1 (f + 1) j cs τ hj0 hr c1 c2 hF hs
        refine r_al0 zi_200_10 rfl ?_
        refine r_push zi_200_11 rfl ?_
        refine q_cIV zi_200_13 rfl rfl rfl rfl rfl rfl rfl cf_195_0.ob (hsg 42 _ (by decide) (fun z => absurd z c1) (fun _ => ?_))
        show zk _ _ 16 _ _ _ _
        refine r_if1 zi_200_16 rfl (fun c => absurd (by decide) c) (fun _ => ?_)
        refine r_al0 zi_200_19 rfl ?_
        refine r_push zi_200_20 rfl ?_
        refine q_cIV zi_200_22 rfl rfl rfl rfl rfl rfl rfl cf_195_0.ob (hsg 47 _ (by decide) (fun z => absurd z c2) (fun _ => ?_))
        show zk _ _ 25 _ _ _ _
        refine r_if0 zi_200_25 rfl (fun _ => ?_) (fun c => absurd (by decide) c)
        refine r_push zi_200_101 rfl ?_
        refine r_retI zi_200_102 rfl ?_
        exact ⟨_, rfl, h1⟩
theorem s_mprod {d N l j f : Nat} {σ : zS} {Q : Int32 → zS → Prop} {t : Nat → Nat} {b : Nat} {r : (Nat × Nat) ⊕ (Nat × List Nat)} {w : Option Nat} {cs : List Nat} (hE : mEn t b N) (hr : (if pun (tkk t b j) = true then pam (tkk t b) f w (j + 1) (cs ++ [tkk t b j]) else some (.inl (1, j))) = some r) (hs : mSt σ t b N j cs l) (h1 : ∀ f i cs υ, j + 1 ≤ i → pam (tkk t b) f w i cs = some r → tkk t b i ≠ 20042 → tkk t b i ≠ 20047 → Fg mA σ υ → mSt υ t b N i cs l → Q 0 υ) (h0 : ∀ n i υ, r = .inl (n, i) → Fg mA σ υ → υ 195 29 = nI n → υ 195 30 = nI (tks t b i) → Q (-1) υ) : zI1 (d + 4) 200 [.ref 195] σ Q := by
  obtain ⟨k1, k2, k3, k4⟩ := id hs
  show zk _ _ 0 [.ref 195, zun] [] _ _
  by_cases g : pun (tkk t b j) = true
  · rw [if_pos g] at hr
    have key := fun υ u x y => l_mprod (d := d) (l := l) (j0 := j + 1) hE h1 h0 f (j + 1) (cs ++ [tkk t b j]) υ u (Nat.le_refl _) hr y x
    refine r_al0 zi_200_0 rfl ?_
    refine q_cIV zi_200_1 rfl rfl rfl rfl rfl rfl rfl cf_195_0.ob (s_munit (d := d) hE k3 k1 k2 (by omega) (fun _ q υ x1 x2 x3 => ?_) (fun z => absurd g z))
    show zk _ _ 4 _ _ _ _
    refine r_push zi_200_4 rfl ?_
    refine r_ic1 zi_200_5 rfl (fun _ => ?_) (fun c => absurd c (by decide))
    exact key υ _ x1 ⟨x2, x3, q, by rw [List.length_append, List.length_singleton]; omega⟩
  · rw [if_neg g] at hr
    have er := Option.some.inj hr
    have h0 := fun υ => h0 1 j υ er.symm
    refine r_al0 zi_200_0 rfl ?_
    refine q_cIV zi_200_1 rfl rfl rfl rfl rfl rfl rfl cf_195_0.ob (s_munit (d := d) hE k3 k1 k2 (by omega) (fun z => absurd z g) (fun _ υ x1 x2 x3 => ?_))
    show zk _ _ 4 _ _ _ _
    refine r_push zi_200_4 rfl ?_
    refine r_ic1 zi_200_5 rfl (fun c => absurd (by decide) c) (fun _ => ?_)
    refine r_push zi_200_8 rfl ?_
    refine r_retI zi_200_9 rfl ?_
    exact ⟨_, rfl, h0 υ x1 x2 x3⟩
theorem l_msum {d N l : Nat} {σ : zS} {Q : Int32 → zS → Prop} {t : Nat → Nat} {b : Nat} {r : (Nat × Nat) ⊕ (Nat × List Nat)} (hE : mEn t b N) (h1 : ∀ j cs υ, r = .inr (j, cs) → Fg mA σ υ → mSt υ t b N j cs l → Q 0 υ) (h0 : ∀ n i υ, r = .inl (n, i) → Fg mA σ υ → υ 195 29 = nI n → υ 195 30 = nI (tks t b i) → Q (-1) υ) : ∀ (m f j : Nat) (cs : List Nat) (τ : zS) (u : Value), N ≤ j + m → pam (tkk t b) f none j cs = some r → tkk t b j ≠ 20042 → tkk t b j ≠ 20047 → mSt τ t b N j cs l → Fg mA σ τ → zk (d + 5) 201 10 [.ref 195, u] [] τ (fun r t => ∃ v, r = some v ∧ Q v t) := by
  have step : ∀ (f j : Nat) (cs : List Nat) (τ : zS) (u : Value), pam (tkk t b) f none j cs = some r → tkk t b j ≠ 20042 → tkk t b j ≠ 20047 → mSt τ t b N j cs l → Fg mA σ τ → (∀ f' j' ds υ u, j < j' → pam (tkk t b) f' none j' ds = some r → tkk t b j' ≠ 20042 → tkk t b j' ≠ 20047 → mSt υ t b N j' ds l → Fg mA σ υ → zk (d + 5) 201 10 [.ref 195, u] [] υ (fun r t => ∃ v, r = some v ∧ Q v t)) → zk (d + 5) 201 10 [.ref 195, u] [] τ (fun r t => ∃ v, r = some v ∧ Q v t) := by
    intro f j cs τ u hr c1 c2 hs hF hback
    obtain ⟨k1, k2, k3, k4⟩ := id hs
    have hkd := k1.2.2.2
    have hsg : ∀ (c : Nat) (Q2 : Int32 → zS → Prop), c < 256 → (tkk t b j = 20000 + c → Q2 1 τ) → (¬ tkk t b j = 20000 + c → Q2 0 τ) → zI1 (d + 4) 196 [.ref 195, .int (nI c)] τ Q2 := fun c Q2 hc g1 g0 => s_msign hkd hc g1 g0
    cases f with
    | zero => cases hr
    | succ f =>
    have e : ∀ w ds, pam (tkk t b) (f + 1) w j ds = if tkk t b j = 20042 then (if pun (tkk t b (j + 1)) = true then pam (tkk t b) f w (j + 2) (ds ++ [tkk t b (j + 1)] ++ [20042]) else some (.inl (1, j + 1))) else if tkk t b j = 20047 then (if 10000 ≤ tkk t b (j + 1) then some (.inl (1, j + 1)) else if tkk t b (j + 1) = 0 then some (.inl (2, j + 1)) else pam (tkk t b) f w (j + 2) (ds ++ [tkk t b (j + 1)] ++ [20047])) else if tkk t b j = 20043 ∨ tkk t b j = 20045 then (if pun (tkk t b (j + 1)) = true then pam (tkk t b) f (some (tkk t b j)) (j + 2) (ds ++ w.toList ++ [tkk t b (j + 1)]) else some (.inl (1, j + 1))) else some (.inr (j, ds ++ w.toList)) := fun w ds => rfl
    rw [e, if_neg c1, if_neg c2, show (none : Option Nat).toList = [] from rfl, List.append_nil] at hr
    by_cases c3 : tkk t b j = 20043 ∨ tkk t b j = 20045
    · rw [if_pos c3] at hr
      have hj : j + 1 ≤ N := by
        by_cases e : j = N
        · rw [e, hE.1] at c3; omega
        · omega
      have hrd : ∀ (Q2 : zS → Prop), (∀ υ, Fg mA σ υ → mSt υ t b N (j + 1) cs (l + 1) → Q2 υ) → zV1 (d + 4) 193 [.ref 195] τ Q2 := fun Q2 h2 => s_readn (d := d + 2) k1 (fun υ x y => h2 υ (hF.tr (x.sub (fun a b => mR_A))) ⟨y, mDc_f k2 (x 195 25 (by unfold mR; omega)) (fun b => x 209 b (by unfold mR; omega)) (fun b => x 210 b (by unfold mR; omega)), hj, by omega⟩)
      have hpr : ∀ υ, Fg mA σ υ → mSt υ t b N (j + 1) cs (l + 1) → ∀ (Q2 : Int32 → zS → Prop), (∀ f' j' ds ρ, j < j' → pam (tkk t b) f' none j' (ds ++ [tkk t b j]) = some r → tkk t b j' ≠ 20042 → tkk t b j' ≠ 20047 → Fg mA σ ρ → mSt ρ t b N j' ds (l + 1) → Q2 0 ρ) → (∀ ρ, Q (-1) ρ → Q2 (-1) ρ) → zI1 (d + 4) 200 [.ref 195] υ Q2 := fun υ x y Q2 g1 g0 =>
        s_mprod (d := d) (w := some (tkk t b j)) (f := f) (r := r) hE hr y (fun f' j' ds ρ p0 p1 p2 p3 p4 p5 => g1 f' j' ds ρ (by omega) (by rw [← pam_w p2 p3]; exact p1) p2 p3 (x.tr p4) p5) (fun n i ρ p1 p2 p3 p4 => g0 ρ (h0 n i ρ p1 (x.tr p2) p3 p4))
      have hem : ∀ (o : Int32) (ds : List Nat) (i : Nat) (υ : zS), o = nI (zdo (tkk t b j)) → Fg mA σ υ → mSt υ t b N i ds (l + 1) → ∀ (Q2 : zS → Prop), (∀ ρ, Fg mA σ ρ → mSt ρ t b N i (ds ++ [tkk t b j]) l → Q2 ρ) → zV1 (d + 4) 197 [.ref 195, .int o, .int 0] υ Q2 := fun o ds i υ e x y Q2 h2 => s_emits (a := 0) y.2.1 (by have := hE.2; have := y.2.2.1; have := y.2.2.2; omega) e (by unfold zda; rw [if_neg (by omega), if_neg (by omega)]; rfl) (fun ρ u1 u2 => h2 ρ (x.tr (u1.sub (fun a b => mE_A))) ⟨mTk_f y.1 (fun q a b => u1 195 q (by unfold mE; omega)) (fun q => u1 202 q (by unfold mE; omega)) (fun q => u1 203 q (by unfold mE; omega)), u2, y.2.2.1, by rw [List.length_append, List.length_singleton]; have := y.2.2.2; omega⟩)
      have e15 : ∀ c, tkk t b j = 20000 + c → τ 195 15 = nI c := fun c z => by
        rcases hkd with ⟨h, e1, e2⟩ | ⟨q, hq, h, e1, e2⟩ | ⟨q, hq, h, e1, e2⟩ | ⟨h, e1⟩ | ⟨h, e1⟩
        · omega
        · omega
        · rw [e2]; exact congrArg nI (by omega)
        · omega
        · omega
      by_cases c4 : tkk t b j = 20043
      · have e15 := e15 43 c4
        have hem := hem 2
        rw [c4] at hem hpr
        refine r_al0 zi_201_10 rfl ?_
        refine r_push zi_201_11 rfl ?_
        refine q_cIV zi_201_13 rfl rfl rfl rfl rfl rfl rfl cf_195_0.ob (hsg 43 _ (by decide) (fun _ => ?_) (fun z => absurd c4 z))
        show zk _ _ 16 _ _ _ _
        refine r_if1 zi_201_16 rfl (fun _ => ?_) (fun c => absurd c (by decide))
        refine r_al0 zi_201_28 rfl ?_
        refine q_getIe zi_201_29 rfl cf_195_15 (v := 43) (by first | exact e15 | ((repeat (first | rw [zup_ne (by first | decide | omega)] | rw [zup_nj (by first | decide | omega)] | rw [fil_ne (by first | decide | omega)])) <;> exact e15) | (simp [up_rd, fil_rd]; exact e15)) ?_
        refine r_push zi_201_32 rfl ?_
        refine r_ic1 zi_201_34 rfl (fun c => absurd (by decide) c) (fun _ => ?_)
        refine r_push zi_201_37 rfl ?_
        refine r_goto zi_201_38 rfl ?_
        refine r_is1 zi_201_42 rfl ?_
        refine r_al0 zi_201_43 rfl ?_
        refine q_cVV zi_201_44 rfl rfl rfl rfl rfl rfl rfl cf_195_0.ob (hrd _ (fun υ x1 x2 => ?_))
        show zk _ _ 47 _ _ _ _
        refine r_al0 zi_201_47 rfl ?_
        refine q_cIV zi_201_48 rfl rfl rfl rfl rfl rfl rfl cf_195_0.ob (hpr υ x1 x2 _ (fun f2 j2 ds ρ p1 p2 p3 p4 p5 p6 => ?_) (fun ρ y => ?_))
        · show zk _ _ 51 _ _ _ _
          refine r_push zi_201_51 rfl ?_
          refine r_ic1 zi_201_52 rfl (fun _ => ?_) (fun c => absurd c (by decide))
          refine r_al0 zi_201_57 rfl ?_
          refine r_il1 zi_201_58 rfl ?_
          refine r_push zi_201_59 rfl ?_
          refine q_cVV zi_201_60 rfl rfl rfl rfl rfl rfl rfl cf_195_0.ob (hem ds j2 ρ rfl p5 p6 _ (fun ω z1 z2 => ?_))
          show zk _ _ 63 _ _ _ _
          refine r_goto zi_201_63 rfl ?_
          exact hback f2 j2 _ ω _ p1 p2 p3 p4 z2 z1
        · show zk _ _ 51 _ _ _ _
          refine r_push zi_201_51 rfl ?_
          refine r_ic1 zi_201_52 rfl (fun c => absurd (by decide) c) (fun _ => ?_)
          refine r_push zi_201_55 rfl ?_
          refine r_retI zi_201_56 rfl ?_
          exact ⟨_, rfl, y⟩
      · have c5 := c3.resolve_left c4
        have e15 := e15 45 c5
        have hem := hem 3
        rw [c5] at hem hpr
        refine r_al0 zi_201_10 rfl ?_
        refine r_push zi_201_11 rfl ?_
        refine q_cIV zi_201_13 rfl rfl rfl rfl rfl rfl rfl cf_195_0.ob (hsg 43 _ (by decide) (fun z => absurd z c4) (fun _ => ?_))
        show zk _ _ 16 _ _ _ _
        refine r_if1 zi_201_16 rfl (fun c => absurd (by decide) c) (fun _ => ?_)
        refine r_al0 zi_201_19 rfl ?_
        refine r_push zi_201_20 rfl ?_
        refine q_cIV zi_201_22 rfl rfl rfl rfl rfl rfl rfl cf_195_0.ob (hsg 45 _ (by decide) (fun _ => ?_) (fun z => absurd c5 z))
        show zk _ _ 25 _ _ _ _
        refine r_if0 zi_201_25 rfl (fun c => absurd c (by decide)) (fun _ => ?_)
        refine r_al0 zi_201_28 rfl ?_
        refine q_getIe zi_201_29 rfl cf_195_15 (v := 45) (by first | exact e15 | ((repeat (first | rw [zup_ne (by first | decide | omega)] | rw [zup_nj (by first | decide | omega)] | rw [fil_ne (by first | decide | omega)])) <;> exact e15) | (simp [up_rd, fil_rd]; exact e15)) ?_
        refine r_push zi_201_32 rfl ?_
        refine r_ic1 zi_201_34 rfl (fun _ => ?_) (fun c => absurd c (by decide))
        refine r_push zi_201_41 rfl ?_
        refine r_is1 zi_201_42 rfl ?_
        refine r_al0 zi_201_43 rfl ?_
        refine q_cVV zi_201_44 rfl rfl rfl rfl rfl rfl rfl cf_195_0.ob (hrd _ (fun υ x1 x2 => ?_))
        show zk _ _ 47 _ _ _ _
        refine r_al0 zi_201_47 rfl ?_
        refine q_cIV zi_201_48 rfl rfl rfl rfl rfl rfl rfl cf_195_0.ob (hpr υ x1 x2 _ (fun f2 j2 ds ρ p1 p2 p3 p4 p5 p6 => ?_) (fun ρ y => ?_))
        · show zk _ _ 51 _ _ _ _
          refine r_push zi_201_51 rfl ?_
          refine r_ic1 zi_201_52 rfl (fun _ => ?_) (fun c => absurd c (by decide))
          refine r_al0 zi_201_57 rfl ?_
          refine r_il1 zi_201_58 rfl ?_
          refine r_push zi_201_59 rfl ?_
          refine q_cVV zi_201_60 rfl rfl rfl rfl rfl rfl rfl cf_195_0.ob (hem ds j2 ρ rfl p5 p6 _ (fun ω z1 z2 => ?_))
          show zk _ _ 63 _ _ _ _
          refine r_goto zi_201_63 rfl ?_
          exact hback f2 j2 _ ω _ p1 p2 p3 p4 z2 z1
        · show zk _ _ 51 _ _ _ _
          refine r_push zi_201_51 rfl ?_
          refine r_ic1 zi_201_52 rfl (fun c => absurd (by decide) c) (fun _ => ?_)
          refine r_push zi_201_55 rfl ?_
          refine r_retI zi_201_56 rfl ?_
          exact ⟨_, rfl, y⟩
    · rw [if_neg c3] at hr
      have h1 := h1 j cs τ (Option.some.inj hr).symm hF hs
      refine r_al0 zi_201_10 rfl ?_
      refine r_push zi_201_11 rfl ?_
      refine q_cIV zi_201_13 rfl rfl rfl rfl rfl rfl rfl cf_195_0.ob (hsg 43 _ (by decide) (fun z => absurd (Or.inl z) c3) (fun _ => ?_))
      show zk _ _ 16 _ _ _ _
      refine r_if1 zi_201_16 rfl (fun c => absurd (by decide) c) (fun _ => ?_)
      refine r_al0 zi_201_19 rfl ?_
      refine r_push zi_201_20 rfl ?_
      refine q_cIV zi_201_22 rfl rfl rfl rfl rfl rfl rfl cf_195_0.ob (hsg 45 _ (by decide) (fun z => absurd (Or.inr z) c3) (fun _ => ?_))
      show zk _ _ 25 _ _ _ _
      refine r_if0 zi_201_25 rfl (fun _ => ?_) (fun c => absurd (by decide) c)
      refine r_push zi_201_66 rfl ?_
      refine r_retI zi_201_67 rfl ?_
      exact ⟨_, rfl, h1⟩
  intro m
  induction m with
  | zero => exact fun f j cs τ u hm hr c1 c2 hs hF => step f j cs τ u hr c1 c2 hs hF (fun f' j' ds υ u z _ _ _ g _ => absurd g.2.2.1 (by omega))
  | succ m ih => exact fun f j cs τ u hm hr c1 c2 hs hF => step f j cs τ u hr c1 c2 hs hF (fun f' j' ds υ u z g1 g2 g3 g4 g5 => ih f' j' ds υ u (by omega) g1 g2 g3 g4 g5)
theorem s_msum {d N l j f : Nat} {σ : zS} {Q : Int32 → zS → Prop} {t : Nat → Nat} {b : Nat} {r : (Nat × Nat) ⊕ (Nat × List Nat)} {cs : List Nat} (hE : mEn t b N) (hr : pe (tkk t b) f j cs = some r) (hs : mSt σ t b N j cs l) (h1 : ∀ j cs υ, r = .inr (j, cs) → Fg mA σ υ → mSt υ t b N j cs l → Q 0 υ) (h0 : ∀ n i υ, r = .inl (n, i) → Fg mA σ υ → υ 195 29 = nI n → υ 195 30 = nI (tks t b i) → Q (-1) υ) : zI1 (d + 5) 201 [.ref 195] σ Q := by
  have key := fun f j cs τ u p1 p2 p3 p4 p5 => l_msum (d := d) (l := l) hE h1 h0 N f j cs τ u (by omega) p1 p2 p3 p4 p5
  have hpr : ∀ (Q2 : Int32 → zS → Prop), (∀ f' j' ds ρ, pam (tkk t b) f' none j' ds = some r → tkk t b j' ≠ 20042 → tkk t b j' ≠ 20047 → Fg mA σ ρ → mSt ρ t b N j' ds l → Q2 0 ρ) → (∀ ρ, Q (-1) ρ → Q2 (-1) ρ) → zI1 (d + 4) 200 [.ref 195] σ Q2 := fun Q2 g1 g0 =>
    s_mprod (d := d) (w := none) (f := f) (r := r) hE hr hs (fun f' j' ds ρ p0 p1 p2 p3 p4 p5 => g1 f' j' ds ρ p1 p2 p3 p4 p5) (fun n i ρ p1 p2 p3 p4 => g0 ρ (h0 n i ρ p1 p2 p3 p4))
  show zk _ _ 0 [.ref 195, zun] [] _ _
  refine r_al0 zi_201_0 rfl ?_
  refine q_cIV zi_201_1 rfl rfl rfl rfl rfl rfl rfl cf_195_0.ob (hpr _ (fun f2 j2 ds ρ p1 p2 p3 p4 p5 => ?_) (fun ρ y => ?_))
  · show zk _ _ 4 _ _ _ _
    refine r_push zi_201_4 rfl ?_
    refine r_ic1 zi_201_5 rfl (fun _ => ?_) (fun c => absurd c (by decide))
    exact key f2 j2 ds ρ _ p1 p2 p3 p5 p4
  · show zk _ _ 4 _ _ _ _
    refine r_push zi_201_4 rfl ?_
    refine r_ic1 zi_201_5 rfl (fun c => absurd (by decide) c) (fun _ => ?_)
    refine r_push zi_201_8 rfl ?_
    refine r_retI zi_201_9 rfl ?_
    exact ⟨_, rfl, y⟩

