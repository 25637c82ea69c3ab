/-! CLASS: the tape is cut -/
/-- the first i tokens lie -/
def tkI (σ : zS) (t : Nat → Nat) (b i : Nat) (τ : zS) : Prop := Fx 170 [171, 172] [2, 3] σ τ ∧ τ 170 2 = nI i ∧ τ 170 3 = 0 ∧ ∀ j, j < i → τ 171 j = nI (tkk t b j) ∧ τ 172 j = nI (tks t b j)
theorem tkI_s {σ τ : zS} {t : Nat → Nat} {b i : Nat} {k s : Int32} (h : tkI σ t b i τ) (hk : k = nI (tkk t b i)) (hs : s = nI (tks t b i)) : tkI σ t b (i + 1) (up (up (up τ 171 i k) 172 i s) 170 2 (nI (i + 1))) := by
  obtain ⟨h1, h2, h3, h4⟩ := h
  refine ⟨((h1.put (by decide)).put (by decide)).pf (by decide), zup_eq, ?_, fun j hj => ?_⟩
  · rw [zup_nj (by decide), zup_ne (by decide), zup_ne (by decide)]; exact h3
  · refine ⟨(zup_ne (by decide)).trans ((zup_ne (by decide)).trans ?_), (zup_ne (by decide)).trans ?_⟩
    · by_cases e : j = i
      · subst e; rw [zup_eq]; exact hk
      · rw [zup_nj e]; exact (h4 j (by omega)).1
    · by_cases e : j = i
      · subst e; rw [zup_eq]; exact hs
      · rw [zup_nj e, zup_ne (by decide)]; exact (h4 j (by omega)).2
theorem l_cutw {d b q : Nat} {t : Nat → Nat} {τ : zS} {Q : Option Int32 → zS → Prop} {p c : Nat} (hT : ∀ i, i < 400 → τ 194 i = nI (t i) ∧ t i ≤ 255) (hb : b ≤ 400) (hc : c ≤ 255) (hL : tkL c = true) (u2 : Value) (h : zk (d + 5) 101 100 [.ref 170, .ref 194, u2, .int (nI b), .int (nI (tkr tkL t b q)), .int (nI p), .int (nI c)] [] τ Q) : ∀ (m i : Nat), i + m = b → tkr tkL t b i = tkr tkL t b q → zk (d + 5) 101 57 [.ref 170, .ref 194, u2, .int (nI b), .int (nI i), .int (nI p), .int (nI c)] [] τ Q := by
  intro m
  induction m with
  | zero =>
    intro i hi hr
    rw [tkr_f (fun z => by omega)] at hr
    rw [← hr] at h
    refine r_il4 zi_101_57 rfl ?_
    refine r_il3 zi_101_59 rfl ?_
    refine n_ic3 (i := i) (j := b) zi_101_60 rfl (by omega) (by omega) (fun _ => ?_) (fun c => absurd c (by omega))
    exact h
  | succ m ih =>
    intro i hi hr
    obtain ⟨ht, ht2⟩ := hT i (by omega)
    by_cases g : tkL (t i) = true
    · rw [tkr_t (by omega) g] at hr
      have ih := ih (i + 1) (by omega) hr
      refine r_il4 zi_101_57 rfl ?_
      refine r_il3 zi_101_59 rfl ?_
      refine n_ic3 (i := i) (j := b) zi_101_60 rfl (by omega) (by omega) (fun c => absurd c (by omega)) (fun _ => ?_)
      refine r_il6 zi_101_63 rfl ?_
      refine r_cIS zi_101_65 rfl rfl rfl rfl rfl rfl (s_tkL hc (fun _ => ?_) (fun z => absurd hL z))
      show zk _ _ 68 _ _ _ _
      refine r_if0 zi_101_68 rfl (fun c => absurd c (by decide)) (fun _ => ?_)
      refine r_al1 zi_101_71 rfl ?_
      refine r_il4 zi_101_72 rfl ?_
      refine r_alde zi_101_74 rfl i ca_194 (by first | rfl | (simp only [zI_add, zI_mul] <;> rfl)) (by first | omega | decide) (u := nI (t i)) (by first | exact ht | ((repeat (first | rw [zup_ne (by first | decide | omega)] | rw [zup_nj (by first | decide | omega)] | rw [fil_ne (by first | decide | omega)])) <;> exact ht) | (simp [up_rd, fil_rd]; exact ht)) ?_
      refine r_cIS zi_101_75 rfl rfl rfl rfl rfl rfl (s_tkL ht2 (fun _ => ?_) (fun z => absurd g z))
      show zk _ _ 78 _ _ _ _
      refine r_if0 zi_101_78 rfl (fun c => absurd c (by decide)) (fun _ => ?_)
      refine r_goto zi_101_81 rfl ?_
      refine r_in4 zi_101_94 rfl ?_
      rw [show (nI i + 1 : Int32) = nI (i + 1) from nI_add _ _]
      refine r_goto zi_101_97 rfl ?_
      exact ih
    · rw [tkr_f (fun z => g z.2)] at hr
      rw [← hr] at h
      refine r_il4 zi_101_57 rfl ?_
      refine r_il3 zi_101_59 rfl ?_
      refine n_ic3 (i := i) (j := b) zi_101_60 rfl (by omega) (by omega) (fun c => absurd c (by omega)) (fun _ => ?_)
      refine r_il6 zi_101_63 rfl ?_
      refine r_cIS zi_101_65 rfl rfl rfl rfl rfl rfl (s_tkL hc (fun _ => ?_) (fun z => absurd hL z))
      show zk _ _ 68 _ _ _ _
      refine r_if0 zi_101_68 rfl (fun c => absurd c (by decide)) (fun _ => ?_)
      refine r_al1 zi_101_71 rfl ?_
      refine r_il4 zi_101_72 rfl ?_
      refine r_alde zi_101_74 rfl i ca_194 (by first | rfl | (simp only [zI_add, zI_mul] <;> rfl)) (by first | omega | decide) (u := nI (t i)) (by first | exact ht | ((repeat (first | rw [zup_ne (by first | decide | omega)] | rw [zup_nj (by first | decide | omega)] | rw [fil_ne (by first | decide | omega)])) <;> exact ht) | (simp [up_rd, fil_rd]; exact ht)) ?_
      refine r_cIS zi_101_75 rfl rfl rfl rfl rfl rfl (s_tkL ht2 (fun z => absurd z g) (fun _ => ?_))
      show zk _ _ 78 _ _ _ _
      refine r_if0 zi_101_78 rfl (fun _ => ?_) (fun c => absurd (by decide) c)
      exact h
theorem l_cutd {d b q : Nat} {t : Nat → Nat} {τ : zS} {Q : Option Int32 → zS → Prop} {p c : Nat} (hT : ∀ i, i < 400 → τ 194 i = nI (t i) ∧ t i ≤ 255) (hb : b ≤ 400) (hc : c ≤ 255) (hL : ¬ tkL c = true) (u2 : Value) (h : zk (d + 5) 101 100 [.ref 170, .ref 194, u2, .int (nI b), .int (nI (tkr tkD t b q)), .int (nI p), .int (nI c)] [] τ Q) : ∀ (m i : Nat), i + m = b → tkr tkD t b i = tkr tkD t b q → zk (d + 5) 101 57 [.ref 170, .ref 194, u2, .int (nI b), .int (nI i), .int (nI p), .int (nI c)] [] τ Q := by
  intro m
  induction m with
  | zero =>
    intro i hi hr
    rw [tkr_f (fun z => by omega)] at hr
    rw [← hr] at h
    refine r_il4 zi_101_57 rfl ?_
    refine r_il3 zi_101_59 rfl ?_
    refine n_ic3 (i := i) (j := b) zi_101_60 rfl (by omega) (by omega) (fun _ => ?_) (fun c => absurd c (by omega))
    exact h
  | succ m ih =>
    intro i hi hr
    obtain ⟨ht, ht2⟩ := hT i (by omega)
    by_cases g : tkD (t i) = true
    · rw [tkr_t (by omega) g] at hr
      have ih := ih (i + 1) (by omega) hr
      refine r_il4 zi_101_57 rfl ?_
      refine r_il3 zi_101_59 rfl ?_
      refine n_ic3 (i := i) (j := b) zi_101_60 rfl (by omega) (by omega) (fun c => absurd c (by omega)) (fun _ => ?_)
      refine r_il6 zi_101_63 rfl ?_
      refine r_cIS zi_101_65 rfl rfl rfl rfl rfl rfl (s_tkL hc (fun z => absurd z hL) (fun _ => ?_))
      show zk _ _ 68 _ _ _ _
      refine r_if0 zi_101_68 rfl (fun _ => ?_) (fun c => absurd (by decide) c)
      refine r_al1 zi_101_84 rfl ?_
      refine r_il4 zi_101_85 rfl ?_
      refine r_alde zi_101_87 rfl i ca_194 (by first | rfl | (simp only [zI_add, zI_mul] <;> rfl)) (by first | omega | decide) (u := nI (t i)) (by first | exact ht | ((repeat (first | rw [zup_ne (by first | decide | omega)] | rw [zup_nj (by first | decide | omega)] | rw [fil_ne (by first | decide | omega)])) <;> exact ht) | (simp [up_rd, fil_rd]; exact ht)) ?_
      refine r_cIS zi_101_88 rfl rfl rfl rfl rfl rfl (s_tkD ht2 (fun _ => ?_) (fun z => absurd g z))
      show zk _ _ 91 _ _ _ _
      refine r_if0 zi_101_91 rfl (fun c => absurd c (by decide)) (fun _ => ?_)
      refine r_in4 zi_101_94 rfl ?_
      rw [show (nI i + 1 : Int32) = nI (i + 1) from nI_add _ _]
      refine r_goto zi_101_97 rfl ?_
      exact ih
    · rw [tkr_f (fun z => g z.2)] at hr
      rw [← hr] at h
      refine r_il4 zi_101_57 rfl ?_
      refine r_il3 zi_101_59 rfl ?_
      refine n_ic3 (i := i) (j := b) zi_101_60 rfl (by omega) (by omega) (fun c => absurd c (by omega)) (fun _ => ?_)
      refine r_il6 zi_101_63 rfl ?_
      refine r_cIS zi_101_65 rfl rfl rfl rfl rfl rfl (s_tkL hc (fun z => absurd z hL) (fun _ => ?_))
      show zk _ _ 68 _ _ _ _
      refine r_if0 zi_101_68 rfl (fun _ => ?_) (fun c => absurd (by decide) c)
      refine r_al1 zi_101_84 rfl ?_
      refine r_il4 zi_101_85 rfl ?_
      refine r_alde zi_101_87 rfl i ca_194 (by first | rfl | (simp only [zI_add, zI_mul] <;> rfl)) (by first | omega | decide) (u := nI (t i)) (by first | exact ht | ((repeat (first | rw [zup_ne (by first | decide | omega)] | rw [zup_nj (by first | decide | omega)] | rw [fil_ne (by first | decide | omega)])) <;> exact ht) | (simp [up_rd, fil_rd]; exact ht)) ?_
      refine r_cIS zi_101_88 rfl rfl rfl rfl rfl rfl (s_tkD ht2 (fun z => absurd z g) (fun _ => ?_))
      show zk _ _ 91 _ _ _ _
      refine r_if0 zi_101_91 rfl (fun _ => ?_) (fun c => absurd (by decide) c)
      exact h
theorem tkc_L {t : Nat → Nat} {b s : Nat} (h : s < b) (hL : tkL (t s) = true) : tkc t b s = tkw t s (tke t b s) := by unfold tkc; rw [if_pos h, if_pos hL]
theorem tkc_D {t : Nat → Nat} {b s : Nat} (h : s < b) (hL : ¬ tkL (t s) = true) (hD : tkD (t s) = true) : tkc t b s = if 4 < tke t b s - s then 30000 else tkn t s (tke t b s - s) := by unfold tkc; rw [if_pos h, if_neg hL, if_pos hD]
theorem tkc_S {t : Nat → Nat} {b s : Nat} (h : s < b) (hL : ¬ tkL (t s) = true) (hD : ¬ tkD (t s) = true) : tkc t b s = if tkS (t s) = true then 20000 + t s else 30000 := by unfold tkc; rw [if_pos h, if_neg hL, if_neg hD]
theorem tkc_E {t : Nat → Nat} {b s : Nat} (h : ¬ s < b) : tkc t b s = 30001 := by unfold tkc; rw [if_neg h]
theorem l_cut {d b : Nat} {t : Nat → Nat} {σ : zS} {Q : zS → Prop} (hT : ∀ i, i < 400 → σ 194 i = nI (t i) ∧ t i ≤ 255) (hb : b ≤ 400) (u2 : Value) (hq : ∀ τ N, N ≤ 400 → tks t b N = b → (∀ i, i < N → tks t b i < b) → tkI σ t b (N + 1) τ → Q τ) : ∀ (m p i : Nat) (τ : zS) (u4 u6 : Value) , b ≤ p + m → p ≤ b → i ≤ p → tkr tkB t b p = tks t b i → (∀ j, j < i → tks t b j < b) → tkI σ t b i τ → (∃ v, u4 = .int v) → zk (d + 5) 101 23 [.ref 170, .ref 194, u2, .int (nI b), u4, .int (nI p), u6] [] τ (fun r t => r = none ∧ Q t) := by
  have hend : ∀ (p i : Nat) (τ : zS) (u4 u6 : Value), ¬ p < b → p ≤ b → i ≤ p → tkr tkB t b p = tks t b i → (∀ j, j < i → tks t b j < b) → tkI σ t b i τ → zk (d + 5) 101 23 [.ref 170, .ref 194, u2, .int (nI b), u4, .int (nI p), u6] [] τ (fun r t => r = none ∧ Q t) := by
    intro p i τ u4 u6 h1 h2 h3 h4 h5 h6
    have e : p = b := by omega
    subst e
    rw [tkr_f (fun z => h1 z.1)] at h4
    have h7 := hq _ i (by omega) h4.symm h5 (tkI_s (k := 30001) (s := nI p) h6 (by unfold tkk; rw [← h4, tkc_E h1]; rfl) (congrArg nI h4))
    refine r_il5 zi_101_23 rfl ?_
    refine r_il3 zi_101_25 rfl ?_
    refine n_ic3 (i := p) (j := p) zi_101_26 rfl (by omega) (by omega) (fun _ => ?_) (fun c => absurd c (by omega))
    refine r_al0 zi_101_183 rfl ?_
    refine r_push zi_101_184 rfl ?_
    refine r_il3 zi_101_187 rfl ?_
    refine q_cVV zi_101_188 rfl rfl rfl rfl rfl rfl rfl cf_170_0.ob (s_tadd h6.2.1 (by omega) ?_)
    show zk _ _ 191 _ _ _ _
    refine r_ret zi_101_191 rfl ?_
    exact ⟨rfl, h7⟩
  intro m
  induction m with
  | zero =>
    intro p i τ u4 u6 h0 h1 h2 h3 h4 h5 _
    exact hend p i τ u4 u6 (by omega) h1 h2 h3 h4 h5
  | succ m ih =>
    intro p i τ u4 u6 h0 h1 h2 h3 h4 h5 hu4
    obtain ⟨v4, rfl⟩ := hu4
    by_cases hp : p < b
    · have hT2 : ∀ i, i < 400 → τ 194 i = nI (t i) ∧ t i ≤ 255 := fun i hi => by rw [h5.1 194 i (by decide) (fun z => absurd z (by decide))]; exact hT i hi
      obtain ⟨ht, ht2⟩ := hT2 p (by omega)
      have hnum : tkL (t p) = true ∨ tkD (t p) = true → ∀ c, c = t p → ¬ (c = 32 ∨ c = 10) := fun z c hc => by
        subst hc
        rcases z with z | z
        · simp only [tkL, decide_eq_true_eq] at z; omega
        · simp only [tkD, decide_eq_true_eq] at z; omega
      by_cases hB : tkB (t p) = true
      · have ih := fun u4 u6 => ih (p + 1) i τ u4 u6 (by omega) (by omega) (by omega) (by rw [← tkr_t hp hB]; exact h3) h4 h5
        have nL : ¬ tkL (t p) = true := fun z => hnum (Or.inl z) _ rfl (by simp only [tkB, decide_eq_true_eq] at hB; exact hB)
        have nD : ¬ tkD (t p) = true := fun z => hnum (Or.inr z) _ rfl (by simp only [tkB, decide_eq_true_eq] at hB; exact hB)
        have nB : t p = 32 ∨ t p = 10 := by simp only [tkB, decide_eq_true_eq] at hB; exact hB
        generalize t p = c at *
        refine r_il5 zi_101_23 rfl ?_
        refine r_il3 zi_101_25 rfl ?_
        refine n_ic3 (i := p) (j := b) zi_101_26 rfl (by omega) (by omega) (fun c => absurd c (by omega)) (fun _ => ?_)
        refine r_al1 zi_101_29 rfl ?_
        refine r_il5 zi_101_30 rfl ?_
        refine r_alde zi_101_32 rfl p ca_194 (by first | rfl | (simp only [zI_add, zI_mul] <;> rfl)) (by first | omega | decide) (u := nI c) (by first | exact ht | ((repeat (first | rw [zup_ne (by first | decide | omega)] | rw [zup_nj (by first | decide | omega)] | rw [fil_ne (by first | decide | omega)])) <;> exact ht) | (simp [up_rd, fil_rd]; exact ht)) ?_
        refine r_is6 zi_101_33 rfl ?_
        refine r_il5 zi_101_35 rfl ?_
        refine r_push zi_101_37 rfl ?_
        refine r_b0 zi_101_38 rfl ?_
        rw [show (nI p + 1 : Int32) = nI (p + 1) from nI_add _ _]
        refine r_is4 zi_101_39 rfl ?_
        refine r_il6 zi_101_41 rfl ?_
        refine r_cIS zi_101_43 rfl rfl rfl rfl rfl rfl (s_tkL ht2 (fun z => absurd z nL) (fun _ => ?_))
        show zk _ _ 46 _ _ _ _
        refine r_if1 zi_101_46 rfl (fun c => absurd (by decide) c) (fun _ => ?_)
        refine r_il6 zi_101_49 rfl ?_
        refine r_cIS zi_101_51 rfl rfl rfl rfl rfl rfl (s_tkD ht2 (fun z => absurd z nD) (fun _ => ?_))
        show zk _ _ 54 _ _ _ _
        refine r_if0 zi_101_54 rfl (fun _ => ?_) (fun c => absurd (by decide) c)
        refine r_il6 zi_101_136 rfl ?_
        refine r_push zi_101_138 rfl ?_
        refine n_ic0 (i := c) (j := 32) zi_101_140 rfl (by omega) (by omega) (fun c3 => ?_) (fun c3 => ?_)
        · refine r_il4 zi_101_176 rfl ?_
          refine r_is5 zi_101_178 rfl ?_
          refine r_goto zi_101_180 rfl ?_
          exact ih _ _ ⟨_, rfl⟩
        · refine r_il6 zi_101_143 rfl ?_
          refine r_push zi_101_145 rfl ?_
          refine n_ic0 (i := c) (j := 10) zi_101_147 rfl (by omega) (by omega) (fun c4 => ?_) (fun c4 => ?_)
          · refine r_il4 zi_101_176 rfl ?_
            refine r_is5 zi_101_178 rfl ?_
            refine r_goto zi_101_180 rfl ?_
            exact ih _ _ ⟨_, rfl⟩
          · exact absurd nB (by omega)
      · have hs : tks t b i = p := by rw [← h3]; exact tkr_f (fun z => hB z.2)
        have he := tke_b (t := t) hp
        have hsp : tkp t b (i + 1) = tke t b p := by rw [tkp_s (by rw [hs]; exact hp), hs]
        have h4' : ∀ j, j < i + 1 → tks t b j < b := fun j hj => by
          by_cases e : j = i
          · rw [e, hs]; exact hp
          · exact h4 j (by omega)
        have ih := fun k hk u4 u6 => ih (tke t b p) (i + 1) _ u4 u6 (by omega) (by omega) (by omega) (by unfold tks; rw [hsp]) h4' (tkI_s (k := k) (s := nI p) h5 hk (by rw [hs]))
        have hkk : tkk t b i = tkc t b p := by unfold tkk; rw [hs]
        rw [hkk] at ih
        have hnB : ¬ (t p = 32 ∨ t p = 10) := by simp only [tkB, decide_eq_true_eq] at hB; exact hB
        have hc2 := h5.2.1
        by_cases hL : tkL (t p) = true
        · rw [tkc_L hp hL] at ih
          have e1 : tke t b p = tkr tkL t b (p + 1) := by unfold tke; rw [if_pos hL]
          have key := fun u2 h => l_cutw (d := d) (q := p + 1) (p := p) (Q := fun r t => r = none ∧ Q t) hT2 hb ht2 hL u2 h (b - (p + 1)) (p + 1) (by omega) rfl
          rw [← e1] at key
          have hkey : ∀ (Q2 : Int32 → zS → Prop), Q2 (nI (tkw t p (tke t b p))) τ → zI1 (d + 4) 105 [.ref 194, .int (nI p), .int (nI (tke t b p))] τ Q2 := fun Q2 h2 => s_tkey hT2 (by omega) (by omega) h2
          generalize tkw t p (tke t b p) = kw at *
          generalize tke t b p = e at *
          generalize t p = c at *
          have k2 := key u2
          clear key
          have k3 : zk (d + 5) 101 100 [.ref 170, .ref 194, u2, .int (nI b), .int (nI e), .int (nI p), .int (nI c)] [] τ (fun r t => r = none ∧ Q t) := by
            refine r_al0 zi_101_100 rfl ?_
            refine r_il6 zi_101_101 rfl ?_
            refine r_cIS zi_101_103 rfl rfl rfl rfl rfl rfl (s_tkL ht2 (fun _ => ?_) (fun z => absurd hL z))
            show zk _ _ 106 _ _ _ _
            refine r_if0 zi_101_106 rfl (fun c => absurd c (by decide)) (fun _ => ?_)
            refine r_al1 zi_101_109 rfl ?_
            refine r_il5 zi_101_110 rfl ?_
            refine r_il4 zi_101_112 rfl ?_
            refine r_cIS zi_101_114 rfl rfl rfl rfl rfl rfl (hkey _ ?_)
            show zk _ _ 117 _ _ _ _
            refine r_goto zi_101_117 rfl ?_
            refine r_il5 zi_101_128 rfl ?_
            refine q_cVV zi_101_130 rfl rfl rfl rfl rfl rfl rfl cf_170_0.ob (s_tadd hc2 (by omega) ?_)
            show zk _ _ 133 _ _ _ _
            refine r_goto zi_101_133 rfl ?_
            refine r_il4 zi_101_176 rfl ?_
            refine r_is5 zi_101_178 rfl ?_
            refine r_goto zi_101_180 rfl ?_
            exact ih _ rfl _ _ ⟨_, rfl⟩
          refine r_il5 zi_101_23 rfl ?_
          refine r_il3 zi_101_25 rfl ?_
          refine n_ic3 (i := p) (j := b) zi_101_26 rfl (by omega) (by omega) (fun c => absurd c (by omega)) (fun _ => ?_)
          refine r_al1 zi_101_29 rfl ?_
          refine r_il5 zi_101_30 rfl ?_
          refine r_alde zi_101_32 rfl p ca_194 (by first | rfl | (simp only [zI_add, zI_mul] <;> rfl)) (by first | omega | decide) (u := nI c) (by first | exact ht | ((repeat (first | rw [zup_ne (by first | decide | omega)] | rw [zup_nj (by first | decide | omega)] | rw [fil_ne (by first | decide | omega)])) <;> exact ht) | (simp [up_rd, fil_rd]; exact ht)) ?_
          refine r_is6 zi_101_33 rfl ?_
          refine r_il5 zi_101_35 rfl ?_
          refine r_push zi_101_37 rfl ?_
          refine r_b0 zi_101_38 rfl ?_
          rw [show (nI p + 1 : Int32) = nI (p + 1) from nI_add _ _]
          refine r_is4 zi_101_39 rfl ?_
          refine r_il6 zi_101_41 rfl ?_
          refine r_cIS zi_101_43 rfl rfl rfl rfl rfl rfl (s_tkL ht2 (fun _ => ?_) (fun z => absurd hL z))
          show zk _ _ 46 _ _ _ _
          refine r_if1 zi_101_46 rfl (fun _ => ?_) (fun c => absurd c (by decide))
          exact k2 k3
        · by_cases hD : tkD (t p) = true
          · rw [tkc_D hp hL hD] at ih
            have e1 : tke t b p = tkr tkD t b (p + 1) := by unfold tke; rw [if_neg hL, if_pos hD]
            have key := fun u2 h => l_cutd (d := d) (q := p + 1) (p := p) (Q := fun r t => r = none ∧ Q t) hT2 hb ht2 hL u2 h (b - (p + 1)) (p + 1) (by omega) rfl
            have hDs : ∀ i, p ≤ i → i < tke t b p → tkD (t i) = true := fun j h1 h2 => by
              by_cases e : j = p
              · rw [e]; exact hD
              · rw [e1] at h2; exact tkr_i (b - (p + 1)) (p + 1) (by omega) j (by omega) h2
            rw [← e1] at key
            have hkey : ∀ (Q2 : Int32 → zS → Prop), Q2 (nI (if 4 < tke t b p - p then 30000 else tkn t p (tke t b p - p))) τ → zI1 (d + 4) 106 [.ref 194, .int (nI p), .int (nI (tke t b p))] τ Q2 := fun Q2 h2 => s_tnum hT2 hDs (by omega) (by omega) h2
            generalize (if 4 < tke t b p - p then 30000 else tkn t p (tke t b p - p)) = kw at *
            clear hDs
            generalize tke t b p = e at *
            generalize t p = c at *
            have k2 := key u2
            clear key
            have k3 : zk (d + 5) 101 100 [.ref 170, .ref 194, u2, .int (nI b), .int (nI e), .int (nI p), .int (nI c)] [] τ (fun r t => r = none ∧ Q t) := by
              refine r_al0 zi_101_100 rfl ?_
              refine r_il6 zi_101_101 rfl ?_
              refine r_cIS zi_101_103 rfl rfl rfl rfl rfl rfl (s_tkL ht2 (fun z => absurd z hL) (fun _ => ?_))
              show zk _ _ 106 _ _ _ _
              refine r_if0 zi_101_106 rfl (fun _ => ?_) (fun c => absurd (by decide) c)
              refine r_al1 zi_101_120 rfl ?_
              refine r_il5 zi_101_121 rfl ?_
              refine r_il4 zi_101_123 rfl ?_
              refine r_cIS zi_101_125 rfl rfl rfl rfl rfl rfl (hkey _ ?_)
              show zk _ _ 128 _ _ _ _
              refine r_il5 zi_101_128 rfl ?_
              refine q_cVV zi_101_130 rfl rfl rfl rfl rfl rfl rfl cf_170_0.ob (s_tadd hc2 (by omega) ?_)
              show zk _ _ 133 _ _ _ _
              refine r_goto zi_101_133 rfl ?_
              refine r_il4 zi_101_176 rfl ?_
              refine r_is5 zi_101_178 rfl ?_
              refine r_goto zi_101_180 rfl ?_
              exact ih _ rfl _ _ ⟨_, rfl⟩
            refine r_il5 zi_101_23 rfl ?_
            refine r_il3 zi_101_25 rfl ?_
            refine n_ic3 (i := p) (j := b) zi_101_26 rfl (by omega) (by omega) (fun c => absurd c (by omega)) (fun _ => ?_)
            refine r_al1 zi_101_29 rfl ?_
            refine r_il5 zi_101_30 rfl ?_
            refine r_alde zi_101_32 rfl p ca_194 (by first | rfl | (simp only [zI_add, zI_mul] <;> rfl)) (by first | omega | decide) (u := nI c) (by first | exact ht | ((repeat (first | rw [zup_ne (by first | decide | omega)] | rw [zup_nj (by first | decide | omega)] | rw [fil_ne (by first | decide | omega)])) <;> exact ht) | (simp [up_rd, fil_rd]; exact ht)) ?_
            refine r_is6 zi_101_33 rfl ?_
            refine r_il5 zi_101_35 rfl ?_
            refine r_push zi_101_37 rfl ?_
            refine r_b0 zi_101_38 rfl ?_
            rw [show (nI p + 1 : Int32) = nI (p + 1) from nI_add _ _]
            refine r_is4 zi_101_39 rfl ?_
            refine r_il6 zi_101_41 rfl ?_
            refine r_cIS zi_101_43 rfl rfl rfl rfl rfl rfl (s_tkL ht2 (fun z => absurd z hL) (fun _ => ?_))
            show zk _ _ 46 _ _ _ _
            refine r_if1 zi_101_46 rfl (fun c => absurd (by decide) c) (fun _ => ?_)
            refine r_il6 zi_101_49 rfl ?_
            refine r_cIS zi_101_51 rfl rfl rfl rfl rfl rfl (s_tkD ht2 (fun _ => ?_) (fun z => absurd hD z))
            show zk _ _ 54 _ _ _ _
            refine r_if0 zi_101_54 rfl (fun c => absurd c (by decide)) (fun _ => ?_)
            exact k2 k3
          · rw [tkc_S hp hL hD] at ih
            have e1 : tke t b p = p + 1 := by unfold tke; rw [if_neg hL, if_neg hD]
            rw [e1] at ih
            clear hnum hkk
            generalize t p = c at *
            by_cases hS : tkS c = true
            · rw [if_pos hS] at ih
              refine r_il5 zi_101_23 rfl ?_
              refine r_il3 zi_101_25 rfl ?_
              refine n_ic3 (i := p) (j := b) zi_101_26 rfl (by omega) (by omega) (fun c => absurd c (by omega)) (fun _ => ?_)
              refine r_al1 zi_101_29 rfl ?_
              refine r_il5 zi_101_30 rfl ?_
              refine r_alde zi_101_32 rfl p ca_194 (by first | rfl | (simp only [zI_add, zI_mul] <;> rfl)) (by first | omega | decide) (u := nI c) (by first | exact ht | ((repeat (first | rw [zup_ne (by first | decide | omega)] | rw [zup_nj (by first | decide | omega)] | rw [fil_ne (by first | decide | omega)])) <;> exact ht) | (simp [up_rd, fil_rd]; exact ht)) ?_
              refine r_is6 zi_101_33 rfl ?_
              refine r_il5 zi_101_35 rfl ?_
              refine r_push zi_101_37 rfl ?_
              refine r_b0 zi_101_38 rfl ?_
              rw [show (nI p + 1 : Int32) = nI (p + 1) from nI_add _ _]
              refine r_is4 zi_101_39 rfl ?_
              refine r_il6 zi_101_41 rfl ?_
              refine r_cIS zi_101_43 rfl rfl rfl rfl rfl rfl (s_tkL ht2 (fun z => absurd z hL) (fun _ => ?_))
              show zk _ _ 46 _ _ _ _
              refine r_if1 zi_101_46 rfl (fun c => absurd (by decide) c) (fun _ => ?_)
              refine r_il6 zi_101_49 rfl ?_
              refine r_cIS zi_101_51 rfl rfl rfl rfl rfl rfl (s_tkD ht2 (fun z => absurd z hD) (fun _ => ?_))
              show zk _ _ 54 _ _ _ _
              refine r_if0 zi_101_54 rfl (fun _ => ?_) (fun c => absurd (by decide) c)
              refine r_il6 zi_101_136 rfl ?_
              refine r_push zi_101_138 rfl ?_
              refine n_ic0 (i := c) (j := 32) zi_101_140 rfl (by omega) (by omega) (fun c => absurd c (by omega)) (fun _ => ?_)
              refine r_il6 zi_101_143 rfl ?_
              refine r_push zi_101_145 rfl ?_
              refine n_ic0 (i := c) (j := 10) zi_101_147 rfl (by omega) (by omega) (fun c => absurd c (by omega)) (fun _ => ?_)
              refine r_al0 zi_101_150 rfl ?_
              refine r_il6 zi_101_151 rfl ?_
              refine r_cIS zi_101_153 rfl rfl rfl rfl rfl rfl (s_tkS ht2 (fun _ => ?_) (fun z => absurd hS z))
              show zk _ _ 156 _ _ _ _
              refine r_if0 zi_101_156 rfl (fun c => absurd c (by decide)) (fun _ => ?_)
              refine r_push zi_101_159 rfl ?_
              refine r_il6 zi_101_162 rfl ?_
              refine r_b0 zi_101_164 rfl ?_
              rw [show (20000 + nI c : Int32) = nI (20000 + c) from nI_add _ _]
              refine r_goto zi_101_165 rfl ?_
              refine r_il5 zi_101_171 rfl ?_
              refine q_cVV zi_101_173 rfl rfl rfl rfl rfl rfl rfl cf_170_0.ob (s_tadd hc2 (by omega) ?_)
              show zk _ _ 176 _ _ _ _
              refine r_il4 zi_101_176 rfl ?_
              refine r_is5 zi_101_178 rfl ?_
              refine r_goto zi_101_180 rfl ?_
              exact ih _ rfl _ _ ⟨_, rfl⟩
            · rw [if_neg hS] at ih
              refine r_il5 zi_101_23 rfl ?_
              refine r_il3 zi_101_25 rfl ?_
              refine n_ic3 (i := p) (j := b) zi_101_26 rfl (by omega) (by omega) (fun c => absurd c (by omega)) (fun _ => ?_)
              refine r_al1 zi_101_29 rfl ?_
              refine r_il5 zi_101_30 rfl ?_
              refine r_alde zi_101_32 rfl p ca_194 (by first | rfl | (simp only [zI_add, zI_mul] <;> rfl)) (by first | omega | decide) (u := nI c) (by first | exact ht | ((repeat (first | rw [zup_ne (by first | decide | omega)] | rw [zup_nj (by first | decide | omega)] | rw [fil_ne (by first | decide | omega)])) <;> exact ht) | (simp [up_rd, fil_rd]; exact ht)) ?_
              refine r_is6 zi_101_33 rfl ?_
              refine r_il5 zi_101_35 rfl ?_
              refine r_push zi_101_37 rfl ?_
              refine r_b0 zi_101_38 rfl ?_
              rw [show (nI p + 1 : Int32) = nI (p + 1) from nI_add _ _]
              refine r_is4 zi_101_39 rfl ?_
              refine r_il6 zi_101_41 rfl ?_
              refine r_cIS zi_101_43 rfl rfl rfl rfl rfl rfl (s_tkL ht2 (fun z => absurd z hL) (fun _ => ?_))
              show zk _ _ 46 _ _ _ _
              refine r_if1 zi_101_46 rfl (fun c => absurd (by decide) c) (fun _ => ?_)
              refine r_il6 zi_101_49 rfl ?_
              refine r_cIS zi_101_51 rfl rfl rfl rfl rfl rfl (s_tkD ht2 (fun z => absurd z hD) (fun _ => ?_))
              show zk _ _ 54 _ _ _ _
              refine r_if0 zi_101_54 rfl (fun _ => ?_) (fun c => absurd (by decide) c)
              refine r_il6 zi_101_136 rfl ?_
              refine r_push zi_101_138 rfl ?_
              refine n_ic0 (i := c) (j := 32) zi_101_140 rfl (by omega) (by omega) (fun c => absurd c (by omega)) (fun _ => ?_)
              refine r_il6 zi_101_143 rfl ?_
              refine r_push zi_101_145 rfl ?_
              refine n_ic0 (i := c) (j := 10) zi_101_147 rfl (by omega) (by omega) (fun c => absurd c (by omega)) (fun _ => ?_)
              refine r_al0 zi_101_150 rfl ?_
              refine r_il6 zi_101_151 rfl ?_
              refine r_cIS zi_101_153 rfl rfl rfl rfl rfl rfl (s_tkS ht2 (fun z => absurd z hS) (fun _ => ?_))
              show zk _ _ 156 _ _ _ _
              refine r_if0 zi_101_156 rfl (fun _ => ?_) (fun c => absurd (by decide) c)
              refine r_push zi_101_168 rfl ?_
              refine r_il5 zi_101_171 rfl ?_
              refine q_cVV zi_101_173 rfl rfl rfl rfl rfl rfl rfl cf_170_0.ob (s_tadd hc2 (by omega) ?_)
              show zk _ _ 176 _ _ _ _
              refine r_il4 zi_101_176 rfl ?_
              refine r_is5 zi_101_178 rfl ?_
              refine r_goto zi_101_180 rfl ?_
              exact ih _ rfl _ _ ⟨_, rfl⟩
    · exact hend p i τ _ u6 hp h1 h2 h3 h4 h5
theorem s_cut {d b : Nat} {t : Nat → Nat} {σ : zS} {Q : zS → Prop} (hT : ∀ i, i < 400 → σ 194 i = nI (t i) ∧ t i ≤ 255) (hb : b ≤ 400) (hq : ∀ τ N, N ≤ 400 → tks t b N = b → (∀ i, i < N → tks t b i < b) → tkI σ t b (N + 1) τ → Q τ) : zV1 (d + 5) 101 [.ref 170, .ref 194, .int (nI b)] σ Q := by
  have e1 : (if nI b < nI 400 then nI b else nI 400) = nI b := by
    by_cases z : b < 400
    · rw [if_pos (nI_lt z (by decide))]
    · rw [if_neg (nI_nlt (by omega) (by omega)), show b = 400 by omega]
  have h0 : tkI σ t b 0 (up (up σ 170 2 0) 170 3 0) := ⟨(Fx.rf.pf (by decide)).pf (by decide), (zup_nj (by decide)).trans zup_eq, zup_eq, fun j hj => absurd hj (Nat.not_lt_zero j)⟩
  show zk _ _ 0 [.ref 170, .ref 194, .int (nI b), zun, zun, zun, zun] [] _ _
  refine r_il2 zi_101_0 rfl ?_
  refine r_al1 zi_101_1 rfl ?_
  refine r_alen zi_101_2 rfl ca_194 ?_
  refine r_min zi_101_3 rfl ?_
  rw [e1]
  refine r_is3 zi_101_6 rfl ?_
  refine r_al0 zi_101_7 rfl ?_
  refine r_push zi_101_8 rfl ?_
  refine q_put zi_101_9 rfl cf_170_2 rfl ?_
  refine r_al0 zi_101_12 rfl ?_
  refine r_push zi_101_13 rfl ?_
  refine q_put zi_101_14 rfl cf_170_3 rfl ?_
  refine r_push zi_101_17 rfl ?_
  refine r_is4 zi_101_18 rfl ?_
  refine r_push zi_101_20 rfl ?_
  refine r_is5 zi_101_21 rfl ?_
  exact l_cut hT hb _ hq b 0 0 _ _ _ (by omega) (Nat.zero_le _) (Nat.le_refl _) rfl (fun j hj => absurd hj (Nat.not_lt_zero j)) h0 ⟨_, rfl⟩

