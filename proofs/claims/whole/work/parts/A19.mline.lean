/-! LINES in the model: leaves -/
def mX (a b : Nat) : Prop := (a = 195 ∧ ((12 ≤ b ∧ b ≤ 15) ∨ b = 25 ∨ b = 26 ∨ b = 28 ∨ b = 29 ∨ b = 30)) ∨ (205 ≤ a ∧ a ≤ 208 ∧ 32 ≤ b) ∨ ((a = 209 ∨ a = 210) ∧ 800 ≤ b) ∨ a = 211 ∨ (a = 212 ∧ 32 ≤ b) ∨ (a = 213 ∧ 48 ≤ b) ∨ (a = 214 ∧ 12 ≤ b)
theorem mA_X {a b : Nat} (h : mA a b) : mX a b := by unfold mA at h; unfold mX; omega
theorem mC_X {a b : Nat} (h : mC a b) : mX a b := by unfold mC at h; unfold mX; omega
theorem mR_X {a b : Nat} (h : mR a b) : mX a b := by unfold mR at h; unfold mX; omega
theorem mEn_lt {t : Nat → Nat} {b N j : Nat} (hE : mEn t b N) (hj : j ≤ N) (h : tkk t b j ≠ 30001) : j + 1 ≤ N := by
  by_cases e : j = N
  · rw [e, hE.1] at h; exact absurd rfl h
  · omega
theorem s_mnum {d N j m : Nat} {t : Nat → Nat} {b : Nat} {σ τ : zS} {Q Q2 : Int32 → zS → Prop} {r : (Nat × Nat) ⊕ (Nat × List Nat × pRw)} {k : Nat → pLn} {mo : Int32} (h0 : ∀ q i υ, r = .inl (q, i) → Fg mX σ υ → υ 195 29 = nI q → υ 195 30 = nI (tks t b i) → Q (-1) υ) (hE : mEn t b N) (hm : ∀ q, q ≤ 30001 → (nI q ≤ mo ↔ q < m)) (hr : pnum (tkk t b) j m k = some r) (hF : Fg mX σ τ) (hk : mTk τ t b j) (hj : j ≤ N) (k1 : ∀ υ, k (tkk t b j) = some r → tkk t b j < 10000 → tkk t b j < m → Fg mR τ υ → mTk υ t b (j + 1) → j + 1 ≤ N → Q2 (nI (tkk t b j)) υ) (k0 : ∀ υ, Q (-1) υ → Q2 (-1) υ) : zI1 (d + 3) 209 [.ref 195, .int 0, .int mo] τ Q2 := by
  have herr : ∀ (q : Nat), r = .inl (q, j) → ∀ (Q3 : Int32 → zS → Prop), (∀ υ, Q2 (-1) υ → Q3 (-1) υ) → zI1 (d + 2) 194 [.ref 195, .int (nI q)] τ Q3 := fun q e Q3 h2 => s_err (n := q) hk (fun υ x y w => h2 υ (k0 υ (h0 q j υ e (hF.tr (x.sub (fun a b => mA_X))) y w)))
  have hkd := hk.2.2.2
  have hb := tko_b (tkc_o (t := t) (b := b) (s := tks t b j))
  change tkk t b j ≤ 30001 at hb
  have hm := hm (tkk t b j) hb
  unfold pnum at hr
  show zk _ _ 0 [.ref 195, .int 0, .int mo, zun] [] _ _
  by_cases c : 10000 ≤ tkk t b j
  · rw [if_pos c] at hr
    have herr := herr 1 (Option.some.inj hr).symm
    have hn3 : ¬ τ 195 14 = 3 := fun z => by
      rcases hkd with ⟨h, e1, e2⟩ | ⟨q, hq, h, e1, e2⟩ | ⟨q, hq, h, e1, e2⟩ | ⟨h, e1⟩ | ⟨h, e1⟩
      · omega
      · rw [e1] at z; exact absurd z (by decide)
      · rw [e1] at z; exact absurd z (by decide)
      · rw [e1] at z; exact absurd z (by decide)
      · rw [e1] at z; exact absurd z (by decide)
    refine r_al0 zi_209_0 rfl ?_
    refine q_getI zi_209_1 rfl cf_195_14 ?_
    refine r_push zi_209_4 rfl ?_
    refine r_ic0 zi_209_5 rfl (fun c => absurd c hn3) (fun _ => ?_)
    refine r_al0 zi_209_8 rfl ?_
    refine r_push zi_209_9 rfl ?_
    refine q_cIV zi_209_10 rfl rfl rfl rfl rfl rfl rfl cf_195_0.ob (herr _ (fun υ y => ?_))
    show zk _ _ 13 _ _ _ _
    refine r_retI zi_209_13 rfl ?_
    exact ⟨_, rfl, y⟩
  · rw [if_neg c] at hr
    have e14 : τ 195 14 = 3 ∧ τ 195 15 = nI (tkk t b j) := by
      rcases hkd with ⟨h, e1, e2⟩ | ⟨q, hq, h, e1, e2⟩ | ⟨q, hq, h, e1, e2⟩ | ⟨h, e1⟩ | ⟨h, e1⟩
      · exact ⟨e1, e2⟩
      · omega
      · omega
      · omega
      · omega
    by_cases c2 : m ≤ tkk t b j
    · rw [if_pos c2] at hr
      have herr := herr 2 (Option.some.inj hr).symm
      refine r_al0 zi_209_0 rfl ?_
      refine q_getIe zi_209_1 rfl cf_195_14 (v := 3) (by first | exact e14.1 | ((repeat (first | rw [zup_ne (by first | decide | omega)] | rw [zup_nj (by first | decide | omega)] | rw [fil_ne (by first | decide | omega)])) <;> exact e14.1) | (simp [up_rd, fil_rd]; exact e14.1)) ?_
      refine r_push zi_209_4 rfl ?_
      refine r_ic0 zi_209_5 rfl (fun _ => ?_) (fun c => absurd (by decide) c)
      refine r_al0 zi_209_14 rfl ?_
      refine r_al0 zi_209_15 rfl ?_
      refine q_getIe zi_209_16 rfl cf_195_15 (v := nI (tkk t b j)) (by first | exact e14.2 | ((repeat (first | rw [zup_ne (by first | decide | omega)] | rw [zup_nj (by first | decide | omega)] | rw [fil_ne (by first | decide | omega)])) <;> exact e14.2) | (simp [up_rd, fil_rd]; exact e14.2)) ?_
      refine r_il1 zi_209_19 rfl ?_
      refine r_il2 zi_209_20 rfl ?_
      refine q_cIV zi_209_21 rfl rfl rfl rfl rfl rfl rfl cf_195_0.ob (s_isIn (fun _ z => absurd (hm.mp z) (by omega)) (fun _ => ?_))
      show zk _ _ 24 _ _ _ _
      refine r_if1 zi_209_24 rfl (fun c => absurd (by decide) c) (fun _ => ?_)
      refine r_al0 zi_209_27 rfl ?_
      refine r_push zi_209_28 rfl ?_
      refine q_cIV zi_209_29 rfl rfl rfl rfl rfl rfl rfl cf_195_0.ob (herr _ (fun υ y => ?_))
      show zk _ _ 32 _ _ _ _
      refine r_retI zi_209_32 rfl ?_
      exact ⟨_, rfl, y⟩
    · rw [if_neg c2] at hr
      have hjn := mEn_lt hE hj (by omega)
      refine r_al0 zi_209_0 rfl ?_
      refine q_getIe zi_209_1 rfl cf_195_14 (v := 3) (by first | exact e14.1 | ((repeat (first | rw [zup_ne (by first | decide | omega)] | rw [zup_nj (by first | decide | omega)] | rw [fil_ne (by first | decide | omega)])) <;> exact e14.1) | (simp [up_rd, fil_rd]; exact e14.1)) ?_
      refine r_push zi_209_4 rfl ?_
      refine r_ic0 zi_209_5 rfl (fun _ => ?_) (fun c => absurd (by decide) c)
      refine r_al0 zi_209_14 rfl ?_
      refine r_al0 zi_209_15 rfl ?_
      refine q_getIe zi_209_16 rfl cf_195_15 (v := nI (tkk t b j)) (by first | exact e14.2 | ((repeat (first | rw [zup_ne (by first | decide | omega)] | rw [zup_nj (by first | decide | omega)] | rw [fil_ne (by first | decide | omega)])) <;> exact e14.2) | (simp [up_rd, fil_rd]; exact e14.2)) ?_
      refine r_il1 zi_209_19 rfl ?_
      refine r_il2 zi_209_20 rfl ?_
      refine q_cIV zi_209_21 rfl rfl rfl rfl rfl rfl rfl cf_195_0.ob (s_isIn (fun _ _ => ?_) (fun z => absurd ⟨nI_pos' (by omega), hm.mpr (by omega)⟩ z))
      show zk _ _ 24 _ _ _ _
      refine r_if1 zi_209_24 rfl (fun _ => ?_) (fun c => absurd c (by decide))
      refine r_al0 zi_209_33 rfl ?_
      refine q_getIe zi_209_34 rfl cf_195_15 (v := nI (tkk t b j)) (by first | exact e14.2 | ((repeat (first | rw [zup_ne (by first | decide | omega)] | rw [zup_nj (by first | decide | omega)] | rw [fil_ne (by first | decide | omega)])) <;> exact e14.2) | (simp [up_rd, fil_rd]; exact e14.2)) ?_
      refine r_is3 zi_209_37 rfl ?_
      refine r_al0 zi_209_38 rfl ?_
      refine q_cVV zi_209_39 rfl rfl rfl rfl rfl rfl rfl cf_195_0.ob (s_readn hk (fun υ x y => ?_))
      show zk _ _ 42 _ _ _ _
      refine r_il3 zi_209_42 rfl ?_
      refine r_retI zi_209_43 rfl ?_
      exact ⟨_, rfl, k1 υ hr (by omega) (by omega) x y hjn⟩
theorem s_mmark {d N j c : Nat} {t : Nat → Nat} {b : Nat} {σ τ : zS} {Q Q2 : Int32 → zS → Prop} {r : (Nat × Nat) ⊕ (Nat × List Nat × pRw)} {k : pLn} {cv : Int32} (h0 : ∀ q i υ, r = .inl (q, i) → Fg mX σ υ → υ 195 29 = nI q → υ 195 30 = nI (tks t b i) → Q (-1) υ) (hE : mEn t b N) (hcv : cv = nI c) (hc : c < 256) (hr : pkw (tkk t b) j (20000 + c) k = some r) (hF : Fg mX σ τ) (hk : mTk τ t b j) (hj : j ≤ N) (k1 : ∀ υ, k = some r → Fg mR τ υ → mTk υ t b (j + 1) → j + 1 ≤ N → Q2 0 υ) (k0 : ∀ υ, Q (-1) υ → Q2 (-1) υ) : zI1 (d + 3) 210 [.ref 195, .int cv] τ Q2 := by
  subst hcv
  unfold pkw at hr
  show zk _ _ 0 [.ref 195, .int (nI c)] [] _ _
  by_cases g : tkk t b j = 20000 + c
  · rw [if_pos g] at hr
    have hjn := mEn_lt hE hj (by omega)
    refine r_al0 zi_210_0 rfl ?_
    refine r_il1 zi_210_1 rfl ?_
    refine q_cIV zi_210_2 rfl rfl rfl rfl rfl rfl rfl cf_195_0.ob (s_msign hk.2.2.2 hc (fun _ => ?_) (fun z => absurd g z))
    show zk _ _ 5 _ _ _ _
    refine r_if1 zi_210_5 rfl (fun _ => ?_) (fun c => absurd c (by decide))
    refine r_al0 zi_210_14 rfl ?_
    refine q_cVV zi_210_15 rfl rfl rfl rfl rfl rfl rfl cf_195_0.ob (s_readn hk (fun υ x y => ?_))
    show zk _ _ 18 _ _ _ _
    refine r_push zi_210_18 rfl ?_
    refine r_retI zi_210_19 rfl ?_
    exact ⟨_, rfl, k1 υ hr x y hjn⟩
  · rw [if_neg g] at hr
    have herr : ∀ (Q3 : Int32 → zS → Prop), (∀ υ, Q2 (-1) υ → Q3 (-1) υ) → zI1 (d + 2) 194 [.ref 195, .int 1] τ Q3 := fun Q3 h2 => s_err (n := 1) hk (fun υ x y w => h2 υ (k0 υ (h0 1 j υ (Option.some.inj hr).symm (hF.tr (x.sub (fun a b => mA_X))) y w)))
    refine r_al0 zi_210_0 rfl ?_
    refine r_il1 zi_210_1 rfl ?_
    refine q_cIV zi_210_2 rfl rfl rfl rfl rfl rfl rfl cf_195_0.ob (s_msign hk.2.2.2 hc (fun z => absurd z g) (fun _ => ?_))
    show zk _ _ 5 _ _ _ _
    refine r_if1 zi_210_5 rfl (fun c => absurd (by decide) c) (fun _ => ?_)
    refine r_al0 zi_210_8 rfl ?_
    refine r_push zi_210_9 rfl ?_
    refine q_cIV zi_210_10 rfl rfl rfl rfl rfl rfl rfl cf_195_0.ob (herr _ (fun υ y => ?_))
    show zk _ _ 13 _ _ _ _
    refine r_retI zi_210_13 rfl ?_
    exact ⟨_, rfl, y⟩
theorem s_mtold {d N j m w : Nat} {t : Nat → Nat} {b : Nat} {σ τ : zS} {Q Q2 : Int32 → zS → Prop} {r : (Nat × Nat) ⊕ (Nat × List Nat × pRw)} {k : Nat → pLn} {mo wv : Int32} (h0 : ∀ q i υ, r = .inl (q, i) → Fg mX σ υ → υ 195 29 = nI q → υ 195 30 = nI (tks t b i) → Q (-1) υ) (hE : mEn t b N) (hwv : wv = nI (tkm w)) (hw : w < 28) (hm : ∀ q, q ≤ 30001 → (nI q ≤ mo ↔ q < m)) (hr : pkw (tkk t b) j (10000 + w) (pnum (tkk t b) (j + 1) m k) = some r) (hF : Fg mX σ τ) (hk : mTk τ t b j) (hj : j ≤ N) (k1 : ∀ υ, k (tkk t b (j + 1)) = some r → tkk t b (j + 1) < 10000 → tkk t b (j + 1) < m → Fg mR τ υ → mTk υ t b (j + 2) → j + 2 ≤ N → Q2 (nI (tkk t b (j + 1))) υ) (k0 : ∀ υ, Q (-1) υ → Q2 (-1) υ) : zI1 (d + 4) 211 [.ref 195, .int wv, .int 0, .int mo] τ Q2 := by
  subst hwv
  have hbm := tkm_b hw
  unfold pkw at hr
  show zk _ _ 0 [.ref 195, .int (nI (tkm w)), .int 0, .int mo] [] _ _
  by_cases g : tkk t b j = 10000 + w
  · rw [if_pos g] at hr
    have hjn := mEn_lt hE hj (by omega)
    refine r_al0 zi_211_0 rfl ?_
    refine r_il1 zi_211_1 rfl ?_
    refine q_cIV zi_211_2 rfl rfl rfl rfl rfl rfl rfl cf_195_0.ob (s_mwrd hk.2.2.2 hw (fun _ => ?_) (fun z => absurd g z))
    show zk _ _ 5 _ _ _ _
    refine r_if1 zi_211_5 rfl (fun _ => ?_) (fun c => absurd c (by decide))
    refine r_al0 zi_211_14 rfl ?_
    refine q_cVV zi_211_15 rfl rfl rfl rfl rfl rfl rfl cf_195_0.ob (s_readn (d := d + 1) hk (fun υ x y => ?_))
    show zk _ _ 18 _ _ _ _
    refine r_al0 zi_211_18 rfl ?_
    refine r_il2 zi_211_19 rfl ?_
    refine r_il3 zi_211_20 rfl ?_
    refine q_cIV zi_211_21 rfl rfl rfl rfl rfl rfl rfl cf_195_0.ob (s_mnum h0 hE hm hr (hF.tr (x.sub (fun a b => mR_X))) y hjn (fun ρ e a1 a2 z1 z2 z3 => ?_) (fun ρ fin => ?_))
    · show zk _ _ 24 _ _ _ _
      refine r_retI zi_211_24 rfl ?_
      exact ⟨_, rfl, k1 ρ e a1 a2 (x.tr z1) z2 z3⟩
    · show zk _ _ 24 _ _ _ _
      refine r_retI zi_211_24 rfl ?_
      exact ⟨_, rfl, k0 ρ fin⟩
  · rw [if_neg g] at hr
    have herr : ∀ (Q3 : Int32 → zS → Prop), (∀ υ, Q2 (-1) υ → Q3 (-1) υ) → zI1 (d + 3) 194 [.ref 195, .int 1] τ Q3 := fun Q3 h2 => s_err (n := 1) hk (fun υ x y w => h2 υ (k0 υ (h0 1 j υ (Option.some.inj hr).symm (hF.tr (x.sub (fun a b => mA_X))) y w)))
    refine r_al0 zi_211_0 rfl ?_
    refine r_il1 zi_211_1 rfl ?_
    refine q_cIV zi_211_2 rfl rfl rfl rfl rfl rfl rfl cf_195_0.ob (s_mwrd hk.2.2.2 hw (fun z => absurd z g) (fun _ => ?_))
    show zk _ _ 5 _ _ _ _
    refine r_if1 zi_211_5 rfl (fun c => absurd (by decide) c) (fun _ => ?_)
    refine r_al0 zi_211_8 rfl ?_
    refine r_push zi_211_9 rfl ?_
    refine q_cIV zi_211_10 rfl rfl rfl rfl rfl rfl rfl cf_195_0.ob (herr _ (fun υ y => ?_))
    show zk _ _ 13 _ _ _ _
    refine r_retI zi_211_13 rfl ?_
    exact ⟨_, rfl, y⟩
theorem s_orderOf {d w a s g : Nat} {σ : zS} {Q : Int32 → zS → Prop} (hq : Q (nI (w + 10 * a + 200 * s + 4000 * g)) σ) : zI1 d 212 [.ref 195, .int (nI w), .int (nI a), .int (nI s), .int (nI g)] σ Q := by
  show zk _ _ 0 [.ref 195, .int (nI w), .int (nI a), .int (nI s), .int (nI g)] [] _ _
  refine r_il1 zi_212_0 rfl ?_
  refine r_push zi_212_1 rfl ?_
  refine r_il2 zi_212_3 rfl ?_
  refine r_b2 zi_212_4 rfl ?_
  rw [show (10 * nI a : Int32) = nI (10 * a) from pk_mul _ _]
  refine r_b0 zi_212_5 rfl ?_
  rw [show (nI w + nI (10 * a) : Int32) = nI (w + (10 * a)) from nI_add _ _]
  refine r_push zi_212_6 rfl ?_
  refine r_il3 zi_212_9 rfl ?_
  refine r_b2 zi_212_10 rfl ?_
  rw [show (200 * nI s : Int32) = nI (200 * s) from pk_mul _ _]
  refine r_b0 zi_212_11 rfl ?_
  rw [show (nI (w + (10 * a)) + nI (200 * s) : Int32) = nI ((w + (10 * a)) + (200 * s)) from nI_add _ _]
  refine r_push zi_212_12 rfl ?_
  refine r_il4 zi_212_15 rfl ?_
  refine r_b2 zi_212_17 rfl ?_
  rw [show (4000 * nI g : Int32) = nI (4000 * g) from pk_mul _ _]
  refine r_b0 zi_212_18 rfl ?_
  rw [show (nI ((w + (10 * a)) + (200 * s)) + nI (4000 * g) : Int32) = nI (((w + (10 * a)) + (200 * s)) + (4000 * g)) from nI_add _ _]
  refine r_retI zi_212_19 rfl ?_
  exact ⟨_, rfl, hq⟩
/-- an order as the model packs it, in the draft -/
def mRe (τ : zS) (n at0 : Nat) (rows : List pRw) : Prop := ∀ l, l < rows.length → τ 212 (at0 + 2 * l) = (rows.getD l (0, 0, 0, 0)).1 ∧ zOm n (rows.getD l (0, 0, 0, 0)).2.1 (τ 212 (at0 + 2 * l + 1))
def mRd (τ : zS) (at0 : Nat) (rows : List pRw) : Prop := ∀ l, l < rows.length → τ 213 (at0 + 3 * l) = (rows.getD l (0, 0, 0, 0)).1 ∧ τ 213 (at0 + 3 * l + 2) = (rows.getD l (0, 0, 0, 0)).2.2.1 ∧ ∃ p, p ≤ 12 ∧ τ 213 (at0 + 3 * l + 1) = nI p ∧ (rows.getD l (0, 0, 0, 0)).2.1 = (if p < 12 then nI p else -1)
theorem getD_sn {α : Type} {rows : List α} {row z : α} {l : Nat} (hl : l < (rows ++ [row]).length) : (l = rows.length ∧ (rows ++ [row]).getD l z = row) ∨ (l < rows.length ∧ (rows ++ [row]).getD l z = rows.getD l z) := by
  rw [List.length_append, List.length_singleton] at hl
  rw [List.getD_eq_getElem?_getD]
  by_cases q : l = rows.length
  · subst q
    rw [List.getElem?_append_right (Nat.le_refl _), Nat.sub_self]
    exact Or.inl ⟨rfl, rfl⟩
  · rw [List.getElem?_append_left (by omega), ← List.getD_eq_getElem?_getD]
    exact Or.inr ⟨by omega, rfl⟩

