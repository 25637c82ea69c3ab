/-! TEXTS in the class: a text is read -/
theorem s_kL0 {d N j n f : Nat} {σ τ : zS} {Q2 : Int32 → zS → Prop} {K S : Nat → Nat} {cs : List Nat} {rows : List pRw} {r : (Nat × Nat) ⊕ (List Nat × List pRw)} (hn : n ≤ 18) (hr : ptx 10000 10002 (plw K) K (f + 1) j cs rows = some r) (hne : ¬ K j = 30001) (hF : Fg pX σ τ) (hk : kLn τ K S N j cs rows n) (k1 : ∀ i ds row υ, rows.length < 16 → ptx 10000 10002 (plw K) K f i ds (rows ++ [row]) = some r → Fg pX σ υ → kLn υ K S N i ds (rows ++ [row]) n → Q2 1 υ) (k0 : ∀ q i υ, r = .inl (q, i) → Fg (pF pX) σ υ → υ 170 4 = nI q → υ 170 5 = nI (S i) → Q2 0 υ) : zI1 (d + 5) 41 [.ref 169] τ Q2 := by
  replace hr : (if K j = 30001 then some (.inr (cs, rows)) else if ¬ (10000 ≤ K j ∧ K j ≤ 10002) then some (.inl (1, j)) else if rows.length = 16 then some (.inl (3, j)) else match (plw K) j cs with | none => none | some (.inl x) => some (.inl x) | some (.inr (i, ds, row)) => ptx 10000 10002 (plw K) K f i ds (rows ++ [row])) = some r := hr
  rw [if_neg hne] at hr
  by_cases c : 10000 ≤ K j ∧ K j ≤ 10002
  · rw [if_neg (fun z => z c)] at hr
    by_cases c16 : rows.length = 16
    · rw [if_pos c16] at hr
      have er := Option.some.inj hr
      have hbg : ∀ (Q3 : Int32 → zS → Prop), (∀ υ, Q2 0 υ → Q3 0 υ) → zI1 (d + 4) 36 [.ref 169, .int 10000, .int 10002] τ Q3 := fun Q3 h2 => s_kbeg (d := d + 3) (lo := 10000) (hi := 10002) rfl rfl (by decide) (by decide) hF hk (fun υ _ _ z _ _ => absurd z (by omega)) (fun q υ e x y w => h2 υ (k0 3 j υ er.symm x (by rw [y]; exact congrArg nI (by omega)) w))
      show zk _ _ 0 [.ref 169, zun, zun, zun] [] _ _
      refine r_al0 zi_41_0 rfl ?_
      refine q_getR zi_41_1 rfl cf_169_0 ?_
      refine q_cIV zi_41_4 rfl rfl rfl rfl rfl rfl rfl cf_170_0.ob (s_tok hk.1 ?_)
      show zk _ _ 7 _ _ _ _
      refine r_is1 zi_41_7 rfl ?_
      refine r_al0 zi_41_8 rfl ?_
      refine q_getR zi_41_9 rfl cf_169_1 ?_
      refine q_getIe zi_41_12 rfl cf_173_3 (v := nI cs.length) (by first | exact hk.2.1.1 | ((repeat (first | rw [zup_ne (by first | decide | omega)] | rw [zup_nj (by first | decide | omega)] | rw [fil_ne (by first | decide | omega)])) <;> exact hk.2.1.1) | (simp [up_rd, fil_rd]; exact hk.2.1.1)) ?_
      refine r_is2 zi_41_15 rfl ?_
      refine r_al0 zi_41_16 rfl ?_
      refine r_push zi_41_17 rfl ?_
      refine r_push zi_41_20 rfl ?_
      refine q_cIV zi_41_23 rfl rfl rfl rfl rfl rfl rfl cf_169_0.ob (hbg _ (fun υ x => ?_))
      show zk _ _ 26 _ _ _ _
      refine r_if0 zi_41_26 rfl (fun _ => ?_) (fun c => absurd (by decide) c)
      refine r_push zi_41_36 rfl ?_
      refine r_retZ zi_41_37 rfl (by decide) ?_
      exact ⟨_, rfl, x⟩
    · rw [if_neg c16] at hr
      have hl16 : rows.length < 16 := by have := hk.2.2.2.2.2.2; omega
      cases hp : (plw K) j cs with
      | none => rw [hp] at hr; cases hr
      | some y =>
        rw [hp] at hr
        exact s_klaw (d := d) (r := y) (Q := Q2) (fun i ds row υ e x z => k1 i ds row υ hl16 (by rw [e] at hr; exact hr) x z) (fun q i υ e x z w => k0 q i υ (by rw [e] at hr; exact (Option.some.inj hr).symm) x z w) hp hF hk hl16 c
  · rw [if_pos c] at hr
    have er := Option.some.inj hr
    have hbg : ∀ (Q3 : Int32 → zS → Prop), (∀ υ, Q2 0 υ → Q3 0 υ) → zI1 (d + 4) 36 [.ref 169, .int 10000, .int 10002] τ Q3 := fun Q3 h2 => s_kbeg (d := d + 3) (lo := 10000) (hi := 10002) rfl rfl (by decide) (by decide) hF hk (fun υ a b _ _ _ => absurd ⟨a, b⟩ c) (fun q υ e x y w => h2 υ (k0 1 j υ er.symm x (by rw [y]; exact congrArg nI (by omega)) w))
    show zk _ _ 0 [.ref 169, zun, zun, zun] [] _ _
    refine r_al0 zi_41_0 rfl ?_
    refine q_getR zi_41_1 rfl cf_169_0 ?_
    refine q_cIV zi_41_4 rfl rfl rfl rfl rfl rfl rfl cf_170_0.ob (s_tok hk.1 ?_)
    show zk _ _ 7 _ _ _ _
    refine r_is1 zi_41_7 rfl ?_
    refine r_al0 zi_41_8 rfl ?_
    refine q_getR zi_41_9 rfl cf_169_1 ?_
    refine q_getIe zi_41_12 rfl cf_173_3 (v := nI cs.length) (by first | exact hk.2.1.1 | ((repeat (first | rw [zup_ne (by first | decide | omega)] | rw [zup_nj (by first | decide | omega)] | rw [fil_ne (by first | decide | omega)])) <;> exact hk.2.1.1) | (simp [up_rd, fil_rd]; exact hk.2.1.1)) ?_
    refine r_is2 zi_41_15 rfl ?_
    refine r_al0 zi_41_16 rfl ?_
    refine r_push zi_41_17 rfl ?_
    refine r_push zi_41_20 rfl ?_
    refine q_cIV zi_41_23 rfl rfl rfl rfl rfl rfl rfl cf_169_0.ob (hbg _ (fun υ x => ?_))
    show zk _ _ 26 _ _ _ _
    refine r_if0 zi_41_26 rfl (fun _ => ?_) (fun c => absurd (by decide) c)
    refine r_push zi_41_36 rfl ?_
    refine r_retZ zi_41_37 rfl (by decide) ?_
    exact ⟨_, rfl, x⟩
theorem s_kL1 {d N j n f : Nat} {σ τ : zS} {Q2 : Int32 → zS → Prop} {K S : Nat → Nat} {cs : List Nat} {rows : List pRw} {r : (Nat × Nat) ⊕ (List Nat × List pRw)} (hn : n ≤ 18) (hr : ptx 10017 10017 (ple n K) K (f + 1) j cs rows = some r) (hne : ¬ K j = 30001) (hF : Fg pX σ τ) (hk : kLn τ K S N j cs rows n) (k1 : ∀ i ds row υ, rows.length < 16 → ptx 10017 10017 (ple n K) K f i ds (rows ++ [row]) = some r → Fg pX σ υ → kLn υ K S N i ds (rows ++ [row]) n → Q2 1 υ) (k0 : ∀ q i υ, r = .inl (q, i) → Fg (pF pX) σ υ → υ 170 4 = nI q → υ 170 5 = nI (S i) → Q2 0 υ) : zI1 (d + 5) 38 [.ref 169] τ Q2 := by
  replace hr : (if K j = 30001 then some (.inr (cs, rows)) else if ¬ (10017 ≤ K j ∧ K j ≤ 10017) then some (.inl (1, j)) else if rows.length = 16 then some (.inl (3, j)) else match (ple n K) j cs with | none => none | some (.inl x) => some (.inl x) | some (.inr (i, ds, row)) => ptx 10017 10017 (ple n K) K f i ds (rows ++ [row])) = some r := hr
  rw [if_neg hne] at hr
  by_cases c : 10017 ≤ K j ∧ K j ≤ 10017
  · rw [if_neg (fun z => z c)] at hr
    by_cases c16 : rows.length = 16
    · rw [if_pos c16] at hr
      have er := Option.some.inj hr
      have hbg : ∀ (Q3 : Int32 → zS → Prop), (∀ υ, Q2 0 υ → Q3 0 υ) → zI1 (d + 4) 36 [.ref 169, .int 10017, .int 10017] τ Q3 := fun Q3 h2 => s_kbeg (d := d + 3) (lo := 10017) (hi := 10017) rfl rfl (by decide) (by decide) hF hk (fun υ _ _ z _ _ => absurd z (by omega)) (fun q υ e x y w => h2 υ (k0 3 j υ er.symm x (by rw [y]; exact congrArg nI (by omega)) w))
      show zk _ _ 0 [.ref 169, zun, zun, zun, zun, zun] [] _ _
      refine r_al0 zi_38_0 rfl ?_
      refine r_push zi_38_1 rfl ?_
      refine r_push zi_38_4 rfl ?_
      refine q_cIV zi_38_7 rfl rfl rfl rfl rfl rfl rfl cf_169_0.ob (hbg _ (fun υ x => ?_))
      show zk _ _ 10 _ _ _ _
      refine r_if0 zi_38_10 rfl (fun _ => ?_) (fun c => absurd (by decide) c)
      refine r_push zi_38_23 rfl ?_
      refine r_is1 zi_38_24 rfl ?_
      refine r_il1 zi_38_25 rfl ?_
      refine r_push zi_38_26 rfl ?_
      refine r_ic0 zi_38_27 rfl (fun _ => ?_) (fun c => absurd (by decide) c)
      refine r_push zi_38_53 rfl ?_
      refine r_is2 zi_38_54 rfl ?_
      refine r_il2 zi_38_55 rfl ?_
      refine r_push zi_38_56 rfl ?_
      refine r_ic1 zi_38_57 rfl (fun c => absurd (by decide) c) (fun _ => ?_)
      refine r_push zi_38_60 rfl ?_
      refine r_retZ zi_38_61 rfl (by decide) ?_
      exact ⟨_, rfl, x⟩
    · rw [if_neg c16] at hr
      have hl16 : rows.length < 16 := by have := hk.2.2.2.2.2.2; omega
      cases hp : (ple n K) j cs with
      | none => rw [hp] at hr; cases hr
      | some y =>
        rw [hp] at hr
        exact s_kord (d := d + 3) (r := y) (Q := Q2) (fun i ds row υ e x z => k1 i ds row υ hl16 (by rw [e] at hr; exact hr) x z) (fun q i υ e x z w => k0 q i υ (by rw [e] at hr; exact (Option.some.inj hr).symm) x z w) hn hp hF hk hl16 c
  · rw [if_pos c] at hr
    have er := Option.some.inj hr
    have hbg : ∀ (Q3 : Int32 → zS → Prop), (∀ υ, Q2 0 υ → Q3 0 υ) → zI1 (d + 4) 36 [.ref 169, .int 10017, .int 10017] τ Q3 := fun Q3 h2 => s_kbeg (d := d + 3) (lo := 10017) (hi := 10017) rfl rfl (by decide) (by decide) hF hk (fun υ a b _ _ _ => absurd ⟨a, b⟩ c) (fun q υ e x y w => h2 υ (k0 1 j υ er.symm x (by rw [y]; exact congrArg nI (by omega)) w))
    show zk _ _ 0 [.ref 169, zun, zun, zun, zun, zun] [] _ _
    refine r_al0 zi_38_0 rfl ?_
    refine r_push zi_38_1 rfl ?_
    refine r_push zi_38_4 rfl ?_
    refine q_cIV zi_38_7 rfl rfl rfl rfl rfl rfl rfl cf_169_0.ob (hbg _ (fun υ x => ?_))
    show zk _ _ 10 _ _ _ _
    refine r_if0 zi_38_10 rfl (fun _ => ?_) (fun c => absurd (by decide) c)
    refine r_push zi_38_23 rfl ?_
    refine r_is1 zi_38_24 rfl ?_
    refine r_il1 zi_38_25 rfl ?_
    refine r_push zi_38_26 rfl ?_
    refine r_ic0 zi_38_27 rfl (fun _ => ?_) (fun c => absurd (by decide) c)
    refine r_push zi_38_53 rfl ?_
    refine r_is2 zi_38_54 rfl ?_
    refine r_il2 zi_38_55 rfl ?_
    refine r_push zi_38_56 rfl ?_
    refine r_ic1 zi_38_57 rfl (fun c => absurd (by decide) c) (fun _ => ?_)
    refine r_push zi_38_60 rfl ?_
    refine r_retZ zi_38_61 rfl (by decide) ?_
    exact ⟨_, rfl, x⟩
theorem s_kL2 {d N j n f : Nat} {σ τ : zS} {Q2 : Int32 → zS → Prop} {K S : Nat → Nat} {cs : List Nat} {rows : List pRw} {r : (Nat × Nat) ⊕ (List Nat × List pRw)} (hn : n ≤ 18) (hr : ptx 10017 10017 (pti K) K (f + 1) j cs rows = some r) (hne : ¬ K j = 30001) (hF : Fg pX σ τ) (hk : kLn τ K S N j cs rows n) (k1 : ∀ i ds row υ, rows.length < 16 → ptx 10017 10017 (pti K) K f i ds (rows ++ [row]) = some r → Fg pX σ υ → kLn υ K S N i ds (rows ++ [row]) n → Q2 1 υ) (k0 : ∀ q i υ, r = .inl (q, i) → Fg (pF pX) σ υ → υ 170 4 = nI q → υ 170 5 = nI (S i) → Q2 0 υ) : zI1 (d + 5) 39 [.ref 169] τ Q2 := by
  replace hr : (if K j = 30001 then some (.inr (cs, rows)) else if ¬ (10017 ≤ K j ∧ K j ≤ 10017) then some (.inl (1, j)) else if rows.length = 16 then some (.inl (3, j)) else match (pti K) j cs with | none => none | some (.inl x) => some (.inl x) | some (.inr (i, ds, row)) => ptx 10017 10017 (pti K) K f i ds (rows ++ [row])) = some r := hr
  rw [if_neg hne] at hr
  by_cases c : 10017 ≤ K j ∧ K j ≤ 10017
  · rw [if_neg (fun z => z c)] at hr
    by_cases c16 : rows.length = 16
    · rw [if_pos c16] at hr
      have er := Option.some.inj hr
      have hbg : ∀ (Q3 : Int32 → zS → Prop), (∀ υ, Q2 0 υ → Q3 0 υ) → zI1 (d + 4) 36 [.ref 169, .int 10017, .int 10017] τ Q3 := fun Q3 h2 => s_kbeg (d := d + 3) (lo := 10017) (hi := 10017) rfl rfl (by decide) (by decide) hF hk (fun υ _ _ z _ _ => absurd z (by omega)) (fun q υ e x y w => h2 υ (k0 3 j υ er.symm x (by rw [y]; exact congrArg nI (by omega)) w))
      show zk _ _ 0 [.ref 169, zun, zun, zun, zun] [] _ _
      refine r_al0 zi_39_0 rfl ?_
      refine r_push zi_39_1 rfl ?_
      refine r_push zi_39_4 rfl ?_
      refine q_cIV zi_39_7 rfl rfl rfl rfl rfl rfl rfl cf_169_0.ob (hbg _ (fun υ x => ?_))
      show zk _ _ 10 _ _ _ _
      refine r_if0 zi_39_10 rfl (fun _ => ?_) (fun c => absurd (by decide) c)
      refine r_push zi_39_23 rfl ?_
      refine r_is1 zi_39_24 rfl ?_
      refine r_il1 zi_39_25 rfl ?_
      refine r_push zi_39_26 rfl ?_
      refine r_ic1 zi_39_27 rfl (fun c => absurd (by decide) c) (fun _ => ?_)
      refine r_push zi_39_30 rfl ?_
      refine r_retZ zi_39_31 rfl (by decide) ?_
      exact ⟨_, rfl, x⟩
    · rw [if_neg c16] at hr
      have hl16 : rows.length < 16 := by have := hk.2.2.2.2.2.2; omega
      cases hp : (pti K) j cs with
      | none => rw [hp] at hr; cases hr
      | some y =>
        rw [hp] at hr
        exact s_ktid (d := d + 3) (r := y) (Q := Q2) (fun i ds row υ e x z => k1 i ds row υ hl16 (by rw [e] at hr; exact hr) x z) (fun q i υ e x z w => k0 q i υ (by rw [e] at hr; exact (Option.some.inj hr).symm) x z w) hp hF hk hl16 c
  · rw [if_pos c] at hr
    have er := Option.some.inj hr
    have hbg : ∀ (Q3 : Int32 → zS → Prop), (∀ υ, Q2 0 υ → Q3 0 υ) → zI1 (d + 4) 36 [.ref 169, .int 10017, .int 10017] τ Q3 := fun Q3 h2 => s_kbeg (d := d + 3) (lo := 10017) (hi := 10017) rfl rfl (by decide) (by decide) hF hk (fun υ a b _ _ _ => absurd ⟨a, b⟩ c) (fun q υ e x y w => h2 υ (k0 1 j υ er.symm x (by rw [y]; exact congrArg nI (by omega)) w))
    show zk _ _ 0 [.ref 169, zun, zun, zun, zun] [] _ _
    refine r_al0 zi_39_0 rfl ?_
    refine r_push zi_39_1 rfl ?_
    refine r_push zi_39_4 rfl ?_
    refine q_cIV zi_39_7 rfl rfl rfl rfl rfl rfl rfl cf_169_0.ob (hbg _ (fun υ x => ?_))
    show zk _ _ 10 _ _ _ _
    refine r_if0 zi_39_10 rfl (fun _ => ?_) (fun c => absurd (by decide) c)
    refine r_push zi_39_23 rfl ?_
    refine r_is1 zi_39_24 rfl ?_
    refine r_il1 zi_39_25 rfl ?_
    refine r_push zi_39_26 rfl ?_
    refine r_ic1 zi_39_27 rfl (fun c => absurd (by decide) c) (fun _ => ?_)
    refine r_push zi_39_30 rfl ?_
    refine r_retZ zi_39_31 rfl (by decide) ?_
    exact ⟨_, rfl, x⟩
theorem s_kL3 {d N j n f : Nat} {σ τ : zS} {Q2 : Int32 → zS → Prop} {K S : Nat → Nat} {cs : List Nat} {rows : List pRw} {r : (Nat × Nat) ⊕ (List Nat × List pRw)} (hn : n ≤ 18) (hr : ptx 10026 10026 (pro K) K (f + 1) j cs rows = some r) (hne : ¬ K j = 30001) (hF : Fg pX σ τ) (hk : kLn τ K S N j cs rows n) (k1 : ∀ i ds row υ, rows.length < 16 → ptx 10026 10026 (pro K) K f i ds (rows ++ [row]) = some r → Fg pX σ υ → kLn υ K S N i ds (rows ++ [row]) n → Q2 1 υ) (k0 : ∀ q i υ, r = .inl (q, i) → Fg (pF pX) σ υ → υ 170 4 = nI q → υ 170 5 = nI (S i) → Q2 0 υ) : zI1 (d + 5) 40 [.ref 169] τ Q2 := by
  replace hr : (if K j = 30001 then some (.inr (cs, rows)) else if ¬ (10026 ≤ K j ∧ K j ≤ 10026) then some (.inl (1, j)) else if rows.length = 16 then some (.inl (3, j)) else match (pro K) j cs with | none => none | some (.inl x) => some (.inl x) | some (.inr (i, ds, row)) => ptx 10026 10026 (pro K) K f i ds (rows ++ [row])) = some r := hr
  rw [if_neg hne] at hr
  by_cases c : 10026 ≤ K j ∧ K j ≤ 10026
  · rw [if_neg (fun z => z c)] at hr
    by_cases c16 : rows.length = 16
    · rw [if_pos c16] at hr
      have er := Option.some.inj hr
      have hbg : ∀ (Q3 : Int32 → zS → Prop), (∀ υ, Q2 0 υ → Q3 0 υ) → zI1 (d + 4) 36 [.ref 169, .int 10026, .int 10026] τ Q3 := fun Q3 h2 => s_kbeg (d := d + 3) (lo := 10026) (hi := 10026) rfl rfl (by decide) (by decide) hF hk (fun υ _ _ z _ _ => absurd z (by omega)) (fun q υ e x y w => h2 υ (k0 3 j υ er.symm x (by rw [y]; exact congrArg nI (by omega)) w))
      show zk _ _ 0 [.ref 169, zun, zun] [] _ _
      refine r_al0 zi_40_0 rfl ?_
      refine r_push zi_40_1 rfl ?_
      refine r_push zi_40_4 rfl ?_
      refine q_cIV zi_40_7 rfl rfl rfl rfl rfl rfl rfl cf_169_0.ob (hbg _ (fun υ x => ?_))
      show zk _ _ 10 _ _ _ _
      refine r_if0 zi_40_10 rfl (fun _ => ?_) (fun c => absurd (by decide) c)
      refine r_push zi_40_22 rfl ?_
      refine r_is1 zi_40_23 rfl ?_
      refine r_il1 zi_40_24 rfl ?_
      refine r_push zi_40_25 rfl ?_
      refine r_ic0 zi_40_26 rfl (fun _ => ?_) (fun c => absurd (by decide) c)
      refine r_push zi_40_39 rfl ?_
      refine r_retZ zi_40_40 rfl (by decide) ?_
      exact ⟨_, rfl, x⟩
    · rw [if_neg c16] at hr
      have hl16 : rows.length < 16 := by have := hk.2.2.2.2.2.2; omega
      cases hp : (pro K) j cs with
      | none => rw [hp] at hr; cases hr
      | some y =>
        rw [hp] at hr
        exact s_kroad (d := d + 3) (r := y) (Q := Q2) (fun i ds row υ e x z => k1 i ds row υ hl16 (by rw [e] at hr; exact hr) x z) (fun q i υ e x z w => k0 q i υ (by rw [e] at hr; exact (Option.some.inj hr).symm) x z w) hp hF hk hl16 c
  · rw [if_pos c] at hr
    have er := Option.some.inj hr
    have hbg : ∀ (Q3 : Int32 → zS → Prop), (∀ υ, Q2 0 υ → Q3 0 υ) → zI1 (d + 4) 36 [.ref 169, .int 10026, .int 10026] τ Q3 := fun Q3 h2 => s_kbeg (d := d + 3) (lo := 10026) (hi := 10026) rfl rfl (by decide) (by decide) hF hk (fun υ a b _ _ _ => absurd ⟨a, b⟩ c) (fun q υ e x y w => h2 υ (k0 1 j υ er.symm x (by rw [y]; exact congrArg nI (by omega)) w))
    show zk _ _ 0 [.ref 169, zun, zun] [] _ _
    refine r_al0 zi_40_0 rfl ?_
    refine r_push zi_40_1 rfl ?_
    refine r_push zi_40_4 rfl ?_
    refine q_cIV zi_40_7 rfl rfl rfl rfl rfl rfl rfl cf_169_0.ob (hbg _ (fun υ x => ?_))
    show zk _ _ 10 _ _ _ _
    refine r_if0 zi_40_10 rfl (fun _ => ?_) (fun c => absurd (by decide) c)
    refine r_push zi_40_22 rfl ?_
    refine r_is1 zi_40_23 rfl ?_
    refine r_il1 zi_40_24 rfl ?_
    refine r_push zi_40_25 rfl ?_
    refine r_ic0 zi_40_26 rfl (fun _ => ?_) (fun c => absurd (by decide) c)
    refine r_push zi_40_39 rfl ?_
    refine r_retZ zi_40_40 rfl (by decide) ?_
    exact ⟨_, rfl, x⟩
def pklo (k : Nat) : Nat := if k = 0 then 10000 else if k = 3 then 10026 else 10017
def pkhi (k : Nat) : Nat := if k = 0 then 10002 else if k = 3 then 10026 else 10017
def pkL (n k : Nat) (K : Nat → Nat) : Nat → List Nat → pLn := if k = 0 then plw K else if k = 1 then ple n K else if k = 2 then pti K else pro K
theorem l_kreads {d N n k : Nat} {σ : zS} {Q : Int32 → zS → Prop} {K S : Nat → Nat} {r : (Nat × Nat) ⊕ (List Nat × List pRw)} {u3 u4 : Value} (hn : n ≤ 18) (hk4 : k ≤ 3) (h1 : ∀ j cs rows υ, r = .inr (cs, rows) → Fg pX σ υ → kLn υ K S N j cs rows n → Q 1 υ) (h0 : ∀ q i υ, r = .inl (q, i) → Fg (pF pX) σ υ → υ 170 4 = nI q → υ 170 5 = nI (S i) → Q 0 υ) : ∀ (f j : Nat) (cs : List Nat) (rows : List pRw) (τ : zS), ptx (pklo k) (pkhi k) (pkL n k K) K f j cs rows = some r → kLn τ K S N j cs rows n → Fg pX σ τ → zk (d + 6) 34 49 [.ref 169, .int (nI k), .ref 194, u3, u4, .int 1, .int (nI rows.length)] [] τ (fun r t => ∃ v, r = some v ∧ Q v t) := by
  intro f
  induction f with
  | zero => intro j cs rows τ hr; cases hr
  | succ f ih =>
    intro j cs rows τ hr hk hF
    have h16 := hk.2.2.2.2.2.2
    have hb := tko_b (hk.1.2.2.2.2.2.2 j)
    have htok : ∀ (Q2 : Int32 → zS → Prop), Q2 (nI (K j)) τ → zI1 (d + 5) 103 [.ref 170] τ Q2 := fun Q2 h2 => s_tok hk.1 h2
    by_cases c : K j = 30001
    · have er : r = .inr (cs, rows) := by
        have hr2 : (if K j = 30001 then some (.inr (cs, rows)) else if ¬ (pklo k ≤ K j ∧ K j ≤ pkhi k) then some (.inl (1, j)) else if rows.length = 16 then some (.inl (3, j)) else match pkL n k K j cs with | none => none | some (.inl x) => some (.inl x) | some (.inr (i, ds, row)) => ptx (pklo k) (pkhi k) (pkL n k K) K f i ds (rows ++ [row])) = some r := hr
        rw [if_pos c] at hr2
        exact (Option.some.inj hr2).symm
      have h1 := h1 j cs rows τ er hF hk
      rw [c] at htok
      generalize rows.length = rl at *
      refine r_il6 zi_34_49 rfl ?_
      refine r_push zi_34_51 rfl ?_
      refine n_ic4 (i := rl) (j := 16) zi_34_53 rfl (by omega) (by omega) (fun c => absurd c (by omega)) (fun _ => ?_)
      refine r_il5 zi_34_56 rfl ?_
      refine r_if0 zi_34_58 rfl (fun c => absurd c (by decide)) (fun _ => ?_)
      refine r_al0 zi_34_61 rfl ?_
      refine q_getR zi_34_62 rfl cf_169_0 ?_
      refine q_cIV zi_34_65 rfl rfl rfl rfl rfl rfl rfl cf_170_0.ob (htok _ ?_)
      show zk _ _ 68 _ _ _ _
      refine r_push zi_34_68 rfl ?_
      refine r_ic0 zi_34_71 rfl (fun _ => ?_) (fun c => absurd (by decide) c)
      refine r_il5 zi_34_139 rfl ?_
      refine r_retZ zi_34_141 rfl (by decide) ?_
      exact ⟨_, rfl, h1⟩
    · have hfin : ∀ (υ : zS) (l : Nat), l ≤ 17 → Q 0 υ → zk (d + 6) 34 49 [.ref 169, .int (nI k), .ref 194, u3, u4, .int 0, .int (nI l)] [] υ (fun r t => ∃ v, r = some v ∧ Q v t) := fun υ l hl h => by
        refine r_il6 zi_34_49 rfl ?_
        refine r_push zi_34_51 rfl ?_
        refine n_ic4 (i := l) (j := 16) zi_34_53 rfl (by omega) (by omega) (fun c1 => ?_) (fun c1 => ?_)
        · refine r_il5 zi_34_139 rfl ?_
          refine r_retZ zi_34_141 rfl (by decide) ?_
          exact ⟨_, rfl, h⟩
        · refine r_il5 zi_34_56 rfl ?_
          refine r_if0 zi_34_58 rfl (fun _ => ?_) (fun c => absurd (by decide) c)
          refine r_il5 zi_34_139 rfl ?_
          refine r_retZ zi_34_141 rfl (by decide) ?_
          exact ⟨_, rfl, h⟩
      have ih : ∀ i ds row υ, rows.length < 16 → ptx (pklo k) (pkhi k) (pkL n k K) K f i ds (rows ++ [row]) = some r → Fg pX σ υ → kLn υ K S N i ds (rows ++ [row]) n → zk (d + 6) 34 49 [.ref 169, .int (nI k), .ref 194, u3, u4, .int 1, .int (nI (rows.length + 1))] [] υ (fun r t => ∃ v, r = some v ∧ Q v t) := fun i ds row υ _ e x y => by
        have := ih i ds (rows ++ [row]) υ e y x
        rw [List.length_append, List.length_singleton] at this
        exact this
      have hkc : k = 0 ∨ k = 1 ∨ k = 2 ∨ k = 3 := by omega
      have hrl : rows.length ≤ 16 := h16
      rcases hkc with e | e | e | e
      · subst e
        have hln := fun (Q2 : Int32 → zS → Prop) k1 k0 => s_kL0 (d := d) (Q2 := Q2) hn hr c hF hk k1 k0
        generalize rows.length = rl at *
        show zk _ _ 49 [.ref 169, .int 0, .ref 194, u3, u4, .int 1, .int (nI rl)] [] τ _
        refine r_il6 zi_34_49 rfl ?_
        refine r_push zi_34_51 rfl ?_
        refine n_ic4 (i := rl) (j := 16) zi_34_53 rfl (by omega) (by omega) (fun c => absurd c (by omega)) (fun _ => ?_)
        refine r_il5 zi_34_56 rfl ?_
        refine r_if0 zi_34_58 rfl (fun c => absurd c (by decide)) (fun _ => ?_)
        refine r_al0 zi_34_61 rfl ?_
        refine q_getR zi_34_62 rfl cf_169_0 ?_
        refine q_cIV zi_34_65 rfl rfl rfl rfl rfl rfl rfl cf_170_0.ob (htok _ ?_)
        show zk _ _ 68 _ _ _ _
        refine r_push zi_34_68 rfl ?_
        refine n_ic0 (i := (K j)) (j := 30001) zi_34_71 rfl (by omega) (by omega) (fun c => absurd c (by omega)) (fun _ => ?_)
        refine r_il1 zi_34_74 rfl ?_
        refine r_sw zi_34_75 rfl ?_
        rw [show zsw [(0, 100), (1, 109), (2, 118)] 127 0 = 100 from by decide]
        refine r_al0 zi_34_100 rfl ?_
        refine q_cIV zi_34_101 rfl rfl rfl rfl rfl rfl rfl cf_169_0.ob (hln _ (fun i ds row υ e0 e x y => ?_) (fun q i υ e x y z => ?_))
        · show zk _ _ 104 _ _ _ _
          refine r_is5 zi_34_104 rfl ?_
          refine r_goto zi_34_106 rfl ?_
          refine r_in6 zi_34_133 rfl ?_
          rw [show (nI rl + 1 : Int32) = nI (rl + 1) from nI_add _ _]
          refine r_goto zi_34_136 rfl ?_
          exact ih i ds row υ e0 e x y
        · show zk _ _ 104 _ _ _ _
          refine r_is5 zi_34_104 rfl ?_
          refine r_goto zi_34_106 rfl ?_
          refine r_in6 zi_34_133 rfl ?_
          rw [show (nI rl + 1 : Int32) = nI (rl + 1) from nI_add _ _]
          refine r_goto zi_34_136 rfl ?_
          exact hfin υ _ (by omega) (h0 q i υ e x y z)
      · subst e
        have hln := fun (Q2 : Int32 → zS → Prop) k1 k0 => s_kL1 (d := d) (Q2 := Q2) hn hr c hF hk k1 k0
        generalize rows.length = rl at *
        show zk _ _ 49 [.ref 169, .int 1, .ref 194, u3, u4, .int 1, .int (nI rl)] [] τ _
        refine r_il6 zi_34_49 rfl ?_
        refine r_push zi_34_51 rfl ?_
        refine n_ic4 (i := rl) (j := 16) zi_34_53 rfl (by omega) (by omega) (fun c => absurd c (by omega)) (fun _ => ?_)
        refine r_il5 zi_34_56 rfl ?_
        refine r_if0 zi_34_58 rfl (fun c => absurd c (by decide)) (fun _ => ?_)
        refine r_al0 zi_34_61 rfl ?_
        refine q_getR zi_34_62 rfl cf_169_0 ?_
        refine q_cIV zi_34_65 rfl rfl rfl rfl rfl rfl rfl cf_170_0.ob (htok _ ?_)
        show zk _ _ 68 _ _ _ _
        refine r_push zi_34_68 rfl ?_
        refine n_ic0 (i := (K j)) (j := 30001) zi_34_71 rfl (by omega) (by omega) (fun c => absurd c (by omega)) (fun _ => ?_)
        refine r_il1 zi_34_74 rfl ?_
        refine r_sw zi_34_75 rfl ?_
        rw [show zsw [(0, 100), (1, 109), (2, 118)] 127 1 = 109 from by decide]
        refine r_al0 zi_34_109 rfl ?_
        refine q_cIV zi_34_110 rfl rfl rfl rfl rfl rfl rfl cf_169_0.ob (hln _ (fun i ds row υ e0 e x y => ?_) (fun q i υ e x y z => ?_))
        · show zk _ _ 113 _ _ _ _
          refine r_is5 zi_34_113 rfl ?_
          refine r_goto zi_34_115 rfl ?_
          refine r_in6 zi_34_133 rfl ?_
          rw [show (nI rl + 1 : Int32) = nI (rl + 1) from nI_add _ _]
          refine r_goto zi_34_136 rfl ?_
          exact ih i ds row υ e0 e x y
        · show zk _ _ 113 _ _ _ _
          refine r_is5 zi_34_113 rfl ?_
          refine r_goto zi_34_115 rfl ?_
          refine r_in6 zi_34_133 rfl ?_
          rw [show (nI rl + 1 : Int32) = nI (rl + 1) from nI_add _ _]
          refine r_goto zi_34_136 rfl ?_
          exact hfin υ _ (by omega) (h0 q i υ e x y z)
      · subst e
        have hln := fun (Q2 : Int32 → zS → Prop) k1 k0 => s_kL2 (d := d) (Q2 := Q2) hn hr c hF hk k1 k0
        generalize rows.length = rl at *
        show zk _ _ 49 [.ref 169, .int 2, .ref 194, u3, u4, .int 1, .int (nI rl)] [] τ _
        refine r_il6 zi_34_49 rfl ?_
        refine r_push zi_34_51 rfl ?_
        refine n_ic4 (i := rl) (j := 16) zi_34_53 rfl (by omega) (by omega) (fun c => absurd c (by omega)) (fun _ => ?_)
        refine r_il5 zi_34_56 rfl ?_
        refine r_if0 zi_34_58 rfl (fun c => absurd c (by decide)) (fun _ => ?_)
        refine r_al0 zi_34_61 rfl ?_
        refine q_getR zi_34_62 rfl cf_169_0 ?_
        refine q_cIV zi_34_65 rfl rfl rfl rfl rfl rfl rfl cf_170_0.ob (htok _ ?_)
        show zk _ _ 68 _ _ _ _
        refine r_push zi_34_68 rfl ?_
        refine n_ic0 (i := (K j)) (j := 30001) zi_34_71 rfl (by omega) (by omega) (fun c => absurd c (by omega)) (fun _ => ?_)
        refine r_il1 zi_34_74 rfl ?_
        refine r_sw zi_34_75 rfl ?_
        rw [show zsw [(0, 100), (1, 109), (2, 118)] 127 2 = 118 from by decide]
        refine r_al0 zi_34_118 rfl ?_
        refine q_cIV zi_34_119 rfl rfl rfl rfl rfl rfl rfl cf_169_0.ob (hln _ (fun i ds row υ e0 e x y => ?_) (fun q i υ e x y z => ?_))
        · show zk _ _ 122 _ _ _ _
          refine r_is5 zi_34_122 rfl ?_
          refine r_goto zi_34_124 rfl ?_
          refine r_in6 zi_34_133 rfl ?_
          rw [show (nI rl + 1 : Int32) = nI (rl + 1) from nI_add _ _]
          refine r_goto zi_34_136 rfl ?_
          exact ih i ds row υ e0 e x y
        · show zk _ _ 122 _ _ _ _
          refine r_is5 zi_34_122 rfl ?_
          refine r_goto zi_34_124 rfl ?_
          refine r_in6 zi_34_133 rfl ?_
          rw [show (nI rl + 1 : Int32) = nI (rl + 1) from nI_add _ _]
          refine r_goto zi_34_136 rfl ?_
          exact hfin υ _ (by omega) (h0 q i υ e x y z)
      · subst e
        have hln := fun (Q2 : Int32 → zS → Prop) k1 k0 => s_kL3 (d := d) (Q2 := Q2) hn hr c hF hk k1 k0
        generalize rows.length = rl at *
        show zk _ _ 49 [.ref 169, .int 3, .ref 194, u3, u4, .int 1, .int (nI rl)] [] τ _
        refine r_il6 zi_34_49 rfl ?_
        refine r_push zi_34_51 rfl ?_
        refine n_ic4 (i := rl) (j := 16) zi_34_53 rfl (by omega) (by omega) (fun c => absurd c (by omega)) (fun _ => ?_)
        refine r_il5 zi_34_56 rfl ?_
        refine r_if0 zi_34_58 rfl (fun c => absurd c (by decide)) (fun _ => ?_)
        refine r_al0 zi_34_61 rfl ?_
        refine q_getR zi_34_62 rfl cf_169_0 ?_
        refine q_cIV zi_34_65 rfl rfl rfl rfl rfl rfl rfl cf_170_0.ob (htok _ ?_)
        show zk _ _ 68 _ _ _ _
        refine r_push zi_34_68 rfl ?_
        refine n_ic0 (i := (K j)) (j := 30001) zi_34_71 rfl (by omega) (by omega) (fun c => absurd c (by omega)) (fun _ => ?_)
        refine r_il1 zi_34_74 rfl ?_
        refine r_sw zi_34_75 rfl ?_
        rw [show zsw [(0, 100), (1, 109), (2, 118)] 127 3 = 127 from by decide]
        refine r_al0 zi_34_127 rfl ?_
        refine q_cIV zi_34_128 rfl rfl rfl rfl rfl rfl rfl cf_169_0.ob (hln _ (fun i ds row υ e0 e x y => ?_) (fun q i υ e x y z => ?_))
        · show zk _ _ 131 _ _ _ _
          refine r_is5 zi_34_131 rfl ?_
          refine r_in6 zi_34_133 rfl ?_
          rw [show (nI rl + 1 : Int32) = nI (rl + 1) from nI_add _ _]
          refine r_goto zi_34_136 rfl ?_
          exact ih i ds row υ e0 e x y
        · show zk _ _ 131 _ _ _ _
          refine r_is5 zi_34_131 rfl ?_
          refine r_in6 zi_34_133 rfl ?_
          rw [show (nI rl + 1 : Int32) = nI (rl + 1) from nI_add _ _]
          refine r_goto zi_34_136 rfl ?_
          exact hfin υ _ (by omega) (h0 q i υ e x y z)
/-- what the reader changes -/
def pZ (a b : Nat) : Prop := a = 171 ∨ a = 172 ∨ a = 173 ∨ a = 174 ∨ a = 175 ∨ a = 176 ∨ (a = 170 ∧ (b = 2 ∨ b = 3 ∨ b = 4 ∨ b = 5)) ∨ (a = 169 ∧ (b = 3 ∨ b = 4 ∨ b = 5))
theorem s_clear {d : Nat} {τ : zS} {Q : zS → Prop} (hq : Q (up (up τ 173 2 0) 173 3 0)) : zV1 d 93 [.ref 173] τ Q := by
  show zk _ _ 0 [.ref 173] [] _ _
  refine r_al0 zi_93_0 rfl ?_
  refine r_push zi_93_1 rfl ?_
  refine q_put zi_93_2 rfl cf_173_2 rfl ?_
  refine r_al0 zi_93_5 rfl ?_
  refine r_push zi_93_6 rfl ?_
  refine q_put zi_93_7 rfl cf_173_3 rfl ?_
  refine r_ret zi_93_10 rfl ?_
  exact ⟨rfl, hq⟩
theorem s_kreads {d b n : Nat} {t : Nat → Nat} {σ : zS} {Q : Int32 → zS → Prop} {kv : Int32} (hT : ∀ i, i < 400 → σ 194 i = nI (t i) ∧ t i ≤ 255) (hb : b ≤ 400) (hn : n ≤ 18) (hx : ∀ k, k ≤ 3 → ptx (pklo k) (pkhi k) (pkL n k (tkk t b)) (tkk t b) 18 0 [] [] ≠ none) (h1 : ∀ k cs rows υ, k ≤ 3 → kv = nI k → ptx (pklo k) (pkhi k) (pkL n k (tkk t b)) (tkk t b) 18 0 [] [] = some (.inr (cs, rows)) → Fg pZ σ υ → υ 170 4 = 0 → υ 170 5 = -1 → kDc υ cs → υ 173 2 = nI rows.length → kRw υ 174 rows → cs.length ≤ 400 → rows.length ≤ 16 → Q 1 υ) (h0 : ∀ k q i υ, k ≤ 3 → kv = nI k → ptx (pklo k) (pkhi k) (pkL n k (tkk t b)) (tkk t b) 18 0 [] [] = some (.inl (q, i)) → Fg pZ σ υ → υ 170 4 = nI q → υ 170 5 = nI (tks t b i) → Q 0 υ) (hno : ¬ (0 ≤ kv ∧ kv ≤ 3) → ∀ υ, Fg pZ σ υ → υ 170 4 = 0 → υ 170 5 = -1 → Q 0 υ) : zI1 (d + 6) 34 [.ref 169, .int kv, .ref 194, .int (nI b), .int (nI n)] σ Q := by
  have hs0 : Fg pZ σ (up (up σ 170 4 0) 170 5 (-1)) := (Fg.rf.put (by unfold pZ; omega)).put (by unfold pZ; omega)
  have e4 : up (up σ 170 4 0) 170 5 (-1) 170 4 = 0 := (zup_nj (by decide)).trans zup_eq
  have e5 : up (up σ 170 4 0) 170 5 (-1) 170 5 = -1 := zup_eq
  have hcut : ∀ (Q2 : zS → Prop), (∀ τ, Fg pZ σ τ → τ 170 4 = 0 → τ 170 5 = -1 → (∃ N, kTk τ (tkk t b) (tks t b) N 0) → Q2 τ) → zV1 (d + 5) 101 [.ref 170, .ref 194, .int (nI b)] (up (up σ 170 4 0) 170 5 (-1)) Q2 := fun Q2 h2 => s_cut (d := d) (t := t) (fun i hi => by rw [hs0 194 i (by unfold pZ; omega)]; exact hT i hi) hb (fun τ N hN e hlt hI => by
    obtain ⟨g1, g2, g3, g4⟩ := hI
    refine h2 τ (fun a c hp => (g1 a c (fun z => hp (by unfold pZ; simp at z; omega)) (fun z y => hp (by unfold pZ; simp at y; omega))).trans (hs0 a c hp)) ((g1 170 4 (by decide) (fun _ => by decide)).trans e4) ((g1 170 5 (by decide) (fun _ => by decide)).trans e5) ⟨N, g2, fun i hi => g4 i (by omega), hN, ?_, g3, Nat.zero_le _, fun i => tkc_o⟩
    unfold tkk
    rw [e]
    exact tkc_E (Nat.lt_irrefl b))
  have hcl : ∀ τ, Fg pZ σ τ → τ 170 4 = 0 → τ 170 5 = -1 → (∃ N, kTk τ (tkk t b) (tks t b) N 0) → Fg pZ σ (up (up (up τ 173 2 0) 173 3 0) 169 5 (nI n)) ∧ up (up (up τ 173 2 0) 173 3 0) 169 5 (nI n) 170 4 = 0 ∧ up (up (up τ 173 2 0) 173 3 0) 169 5 (nI n) 170 5 = -1 ∧ ∃ N, kLn (up (up (up τ 173 2 0) 173 3 0) 169 5 (nI n)) (tkk t b) (tks t b) N 0 [] [] n := fun τ x y z ⟨N, w⟩ => by
    have ne : ∀ a c, a ≠ 173 → ¬ (a = 169 ∧ c = 5) → up (up (up τ 173 2 0) 173 3 0) 169 5 (nI n) a c = τ a c := fun a c h1 h2 => (zup_n2 h2).trans ((zup_ne h1).trans (zup_ne h1))
    refine ⟨((x.put (by unfold pZ; omega)).put (by unfold pZ; omega)).put (by unfold pZ; omega), (ne 170 4 (by decide) (by omega)).trans y, (ne 170 5 (by decide) (by omega)).trans z, N, ⟨(ne 170 2 (by decide) (by omega)).trans w.1, fun i hi => ⟨(ne 171 i (by decide) (by omega)).trans (w.2.1 i hi).1, (ne 172 i (by decide) (by omega)).trans (w.2.1 i hi).2⟩, w.2.2.1, w.2.2.2.1, (ne 170 3 (by decide) (by omega)).trans w.2.2.2.2.1, w.2.2.2.2.2.1, w.2.2.2.2.2.2⟩, ⟨(zup_ne (by decide)).trans zup_eq, fun i hi => absurd hi (Nat.not_lt_zero i)⟩, (zup_ne (by decide)).trans ((zup_nj (by decide)).trans zup_eq), fun l hl => absurd hl (Nat.not_lt_zero l), zup_eq, Nat.zero_le _, Nat.zero_le _⟩
  have hXZ : ∀ a c, pX a c → pZ a c := fun a c h => by unfold pX at h; unfold pZ; omega
  have hFZ : ∀ a c, pF pX a c → pZ a c := fun a c h => by unfold pF pX at h; unfold pZ; omega
  have key : ∀ τ u6, Fg pZ σ τ → τ 170 4 = 0 → τ 170 5 = -1 → (∃ N, kTk τ (tkk t b) (tks t b) N 0) → zk (d + 6) 34 38 [.ref 169, .int kv, .ref 194, .int (nI b), .int (nI n), zun, u6] [] (up (up (up τ 173 2 0) 173 3 0) 169 5 (nI n)) (fun r t => ∃ v, r = some v ∧ Q v t) := fun τ u6 x y z w => by
    obtain ⟨x, y, z, N, w⟩ := hcl τ x y z w
    generalize up (up (up τ 173 2 0) 173 3 0) 169 5 (nI n) = τ2 at *
    by_cases c : 0 ≤ kv ∧ kv ≤ 3
    · obtain ⟨k, hk, rfl⟩ := nI_ex (n := 3) c.1 c.2 (by decide)
      cases hp : ptx (pklo k) (pkhi k) (pkL n k (tkk t b)) (tkk t b) 18 0 [] [] with
      | none => exact absurd hp (hx k hk)
      | some r =>
        have lp := fun u3 u4 => l_kreads (d := d) (k := k) (u3 := u3) (u4 := u4) (Q := Q) hn hk (fun j cs rows υ e p q => h1 k cs rows υ hk rfl (by rw [← e]; exact hp) (x.tr (p.sub hXZ)) ((p 170 4 (by unfold pX; omega)).trans y) ((p 170 5 (by unfold pX; omega)).trans z) q.2.1 q.2.2.1 q.2.2.2.1 (by have := q.1.2.2.1; have := q.1.2.2.2.2.2.1; have := q.2.2.2.2.2.1; omega) q.2.2.2.2.2.2) (fun q i υ e p g1 g2 => h0 k q i υ hk rfl (by rw [← e]; exact hp) (x.tr (p.sub hFZ)) g1 g2) 18 0 [] [] τ2 hp w Fg.rf
        refine r_il1 zi_34_38 rfl ?_
        refine r_push zi_34_39 rfl ?_
        refine r_push zi_34_40 rfl ?_
        refine r_cIS zi_34_41 rfl rfl rfl rfl rfl rfl (s_within (fun _ _ => ?_) (fun q => absurd c q))
        show zk _ _ 44 _ _ _ _
        refine r_is5 zi_34_44 rfl ?_
        refine r_push zi_34_46 rfl ?_
        refine r_is6 zi_34_47 rfl ?_
        exact lp _ _
    · have hno := hno c τ2 x y z
      refine r_il1 zi_34_38 rfl ?_
      refine r_push zi_34_39 rfl ?_
      refine r_push zi_34_40 rfl ?_
      refine r_cIS zi_34_41 rfl rfl rfl rfl rfl rfl (s_within (fun p q => absurd ⟨p, q⟩ c) (fun _ => ?_))
      show zk _ _ 44 _ _ _ _
      refine r_is5 zi_34_44 rfl ?_
      refine r_push zi_34_46 rfl ?_
      refine r_is6 zi_34_47 rfl ?_
      refine r_il6 zi_34_49 rfl ?_
      refine r_push zi_34_51 rfl ?_
      refine r_ic4 zi_34_53 rfl (fun c => absurd c (by decide)) (fun _ => ?_)
      refine r_il5 zi_34_56 rfl ?_
      refine r_if0 zi_34_58 rfl (fun _ => ?_) (fun c => absurd (by decide) c)
      refine r_il5 zi_34_139 rfl ?_
      refine r_retZ zi_34_141 rfl (by decide) ?_
      exact ⟨_, rfl, hno⟩
  show zk _ _ 0 [.ref 169, .int kv, .ref 194, .int (nI b), .int (nI n), zun, zun] [] _ _
  refine r_al0 zi_34_0 rfl ?_
  refine q_getR zi_34_1 rfl cf_169_0 ?_
  refine r_push zi_34_4 rfl ?_
  refine q_put zi_34_5 rfl cf_170_4 rfl ?_
  refine r_al0 zi_34_8 rfl ?_
  refine q_getR zi_34_9 rfl cf_169_0 ?_
  refine r_push zi_34_12 rfl ?_
  refine q_put zi_34_13 rfl cf_170_5 rfl ?_
  refine r_al0 zi_34_16 rfl ?_
  refine q_getR zi_34_17 rfl cf_169_0 ?_
  refine r_al2 zi_34_20 rfl ?_
  refine r_il3 zi_34_21 rfl ?_
  refine q_cVV zi_34_22 rfl rfl rfl rfl rfl rfl rfl cf_170_0.ob (hcut _ (fun τ x y z w => ?_))
  show zk _ _ 25 _ _ _ _
  refine r_al0 zi_34_25 rfl ?_
  refine q_getR zi_34_26 rfl cf_169_1 ?_
  refine q_cVV zi_34_29 rfl rfl rfl rfl rfl rfl rfl cf_173_0.ob (s_clear ?_)
  show zk _ _ 32 _ _ _ _
  refine r_al0 zi_34_32 rfl ?_
  refine r_il4 zi_34_33 rfl ?_
  refine q_put zi_34_35 rfl cf_169_5 rfl ?_
  exact key τ _ x y z w

