/-! LINES in the model: the law -/
def mRl (τ : zS) (at0 : Nat) (rows : List pRw) : Prop := ∀ l, l < rows.length → (∃ w, w ≤ 2 ∧ τ 205 (at0 + l) = nI w ∧ (rows.getD l (0, 0, 0, 0)).1 = nI (10000 + w)) ∧ τ 206 (at0 + l) = (rows.getD l (0, 0, 0, 0)).2.1 ∧ τ 207 (at0 + l) = (rows.getD l (0, 0, 0, 0)).2.2.1 ∧ τ 208 (at0 + l) = (rows.getD l (0, 0, 0, 0)).2.2.2
theorem mRl_o {τ υ : zS} {at0 : Nat} {rows : List pRw} (h : mRl τ at0 rows) (hF : ∀ a q, 205 ≤ a → a ≤ 208 → q < at0 + rows.length → υ a q = τ a q) : mRl υ at0 rows := fun l hl => by
  obtain ⟨h1, h2, h3, h4⟩ := h l hl
  refine ⟨?_, (hF 206 _ (by decide) (by decide) (by omega)).trans h2, (hF 207 _ (by decide) (by decide) (by omega)).trans h3, (hF 208 _ (by decide) (by decide) (by omega)).trans h4⟩
  obtain ⟨w, g1, g2, g3⟩ := h1
  exact ⟨w, g1, (hF 205 _ (by decide) (by decide) (by omega)).trans g2, g3⟩
theorem s_mlword {d v : Nat} {σ : zS} {Q : Int32 → zS → Prop} (hk : mkd v (σ 195 14) (σ 195 15)) (h1 : 10000 ≤ v ∧ v ≤ 10002 → σ 195 15 = nI (v - 10000) → Q 1 σ) (h0 : ¬ (10000 ≤ v ∧ v ≤ 10002) → Q 0 σ) : zI1 (d + 1) 206 [.ref 195] σ Q := by
  show zk _ _ 0 [.ref 195] [] _ _
  rcases hk with ⟨h, e1, e2⟩ | ⟨q, hq, h, e1, e2⟩ | ⟨q, hq, h, e1, e2⟩ | ⟨h, e1⟩ | ⟨h, e1⟩
  · have h0 := h0 (by omega)
    refine r_al0 zi_206_0 rfl ?_
    refine q_getIe zi_206_1 rfl cf_195_14 (v := 3) (by first | exact e1 | ((repeat (first | rw [zup_ne (by first | decide | omega)] | rw [zup_nj (by first | decide | omega)] | rw [fil_ne (by first | decide | omega)])) <;> exact e1) | (simp [up_rd, fil_rd]; exact e1)) ?_
    refine r_push zi_206_4 rfl ?_
    refine r_ic1 zi_206_5 rfl (fun _ => ?_) (fun c => absurd c (by decide))
    refine r_push zi_206_25 rfl ?_
    refine r_retZ zi_206_26 rfl (by decide) ?_
    exact ⟨_, rfl, h0⟩
  · have hbq := tkm_b hq
    by_cases c : q ≤ 2
    · have em : tkm q = q := by unfold tkm; rw [if_pos (by omega)]
      have h1 := h1 (by omega) (by rw [e2, em]; exact congrArg nI (by omega))
      rw [em] at e2
      refine r_al0 zi_206_0 rfl ?_
      refine q_getIe zi_206_1 rfl cf_195_14 (v := 2) (by first | exact e1 | ((repeat (first | rw [zup_ne (by first | decide | omega)] | rw [zup_nj (by first | decide | omega)] | rw [fil_ne (by first | decide | omega)])) <;> exact e1) | (simp [up_rd, fil_rd]; exact e1)) ?_
      refine r_push zi_206_4 rfl ?_
      refine r_ic1 zi_206_5 rfl (fun c => absurd (by decide) c) (fun _ => ?_)
      refine r_al0 zi_206_8 rfl ?_
      refine r_al0 zi_206_9 rfl ?_
      refine q_getIe zi_206_10 rfl cf_195_15 (v := nI q) (by first | exact e2 | ((repeat (first | rw [zup_ne (by first | decide | omega)] | rw [zup_nj (by first | decide | omega)] | rw [fil_ne (by first | decide | omega)])) <;> exact e2) | (simp [up_rd, fil_rd]; exact e2)) ?_
      refine r_push zi_206_13 rfl ?_
      refine r_push zi_206_14 rfl ?_
      refine q_cIV zi_206_15 rfl rfl rfl rfl rfl rfl rfl cf_195_0.ob (s_isIn (fun _ _ => ?_) (fun z => absurd ⟨nI_pos' (by omega), nI_le (b := 2) c (by omega)⟩ z))
      show zk _ _ 18 _ _ _ _
      refine r_if0 zi_206_18 rfl (fun c => absurd c (by decide)) (fun _ => ?_)
      refine r_push zi_206_21 rfl ?_
      refine r_goto zi_206_22 rfl ?_
      refine r_retZ zi_206_26 rfl (by decide) ?_
      exact ⟨_, rfl, h1⟩
    · have em : 2 < tkm q := by unfold tkm; (repeat' split) <;> omega
      have h0 := h0 (by omega)
      generalize tkm q = w at *
      refine r_al0 zi_206_0 rfl ?_
      refine q_getIe zi_206_1 rfl cf_195_14 (v := 2) (by first | exact e1 | ((repeat (first | rw [zup_ne (by first | decide | omega)] | rw [zup_nj (by first | decide | omega)] | rw [fil_ne (by first | decide | omega)])) <;> exact e1) | (simp [up_rd, fil_rd]; exact e1)) ?_
      refine r_push zi_206_4 rfl ?_
      refine r_ic1 zi_206_5 rfl (fun c => absurd (by decide) c) (fun _ => ?_)
      refine r_al0 zi_206_8 rfl ?_
      refine r_al0 zi_206_9 rfl ?_
      refine q_getIe zi_206_10 rfl cf_195_15 (v := nI w) (by first | exact e2 | ((repeat (first | rw [zup_ne (by first | decide | omega)] | rw [zup_nj (by first | decide | omega)] | rw [fil_ne (by first | decide | omega)])) <;> exact e2) | (simp [up_rd, fil_rd]; exact e2)) ?_
      refine r_push zi_206_13 rfl ?_
      refine r_push zi_206_14 rfl ?_
      refine q_cIV zi_206_15 rfl rfl rfl rfl rfl rfl rfl cf_195_0.ob (s_isIn (fun _ z => absurd ((nI_leI (b := 2) (by omega) (by omega)).mp z) (by omega)) (fun _ => ?_))
      show zk _ _ 18 _ _ _ _
      refine r_if0 zi_206_18 rfl (fun _ => ?_) (fun c => absurd (by decide) c)
      refine r_push zi_206_25 rfl ?_
      refine r_retZ zi_206_26 rfl (by decide) ?_
      exact ⟨_, rfl, h0⟩
  · have h0 := h0 (by simp only [tkS, decide_eq_true_eq] at hq; omega)
    refine r_al0 zi_206_0 rfl ?_
    refine q_getIe zi_206_1 rfl cf_195_14 (v := 4) (by first | exact e1 | ((repeat (first | rw [zup_ne (by first | decide | omega)] | rw [zup_nj (by first | decide | omega)] | rw [fil_ne (by first | decide | omega)])) <;> exact e1) | (simp [up_rd, fil_rd]; exact e1)) ?_
    refine r_push zi_206_4 rfl ?_
    refine r_ic1 zi_206_5 rfl (fun _ => ?_) (fun c => absurd c (by decide))
    refine r_push zi_206_25 rfl ?_
    refine r_retZ zi_206_26 rfl (by decide) ?_
    exact ⟨_, rfl, h0⟩
  · have h0 := h0 (by omega)
    refine r_al0 zi_206_0 rfl ?_
    refine q_getIe zi_206_1 rfl cf_195_14 (v := 1) (by first | exact e1 | ((repeat (first | rw [zup_ne (by first | decide | omega)] | rw [zup_nj (by first | decide | omega)] | rw [fil_ne (by first | decide | omega)])) <;> exact e1) | (simp [up_rd, fil_rd]; exact e1)) ?_
    refine r_push zi_206_4 rfl ?_
    refine r_ic1 zi_206_5 rfl (fun _ => ?_) (fun c => absurd c (by decide))
    refine r_push zi_206_25 rfl ?_
    refine r_retZ zi_206_26 rfl (by decide) ?_
    exact ⟨_, rfl, h0⟩
  · have h0 := h0 (by omega)
    refine r_al0 zi_206_0 rfl ?_
    refine q_getIe zi_206_1 rfl cf_195_14 (v := 0) (by first | exact e1 | ((repeat (first | rw [zup_ne (by first | decide | omega)] | rw [zup_nj (by first | decide | omega)] | rw [fil_ne (by first | decide | omega)])) <;> exact e1) | (simp [up_rd, fil_rd]; exact e1)) ?_
    refine r_push zi_206_4 rfl ?_
    refine r_ic1 zi_206_5 rfl (fun _ => ?_) (fun c => absurd c (by decide))
    refine r_push zi_206_25 rfl ?_
    refine r_retZ zi_206_26 rfl (by decide) ?_
    exact ⟨_, rfl, h0⟩
theorem mSt_x {τ υ : zS} {t : Nat → Nat} {b N j l : Nat} {cs : List Nat} (h : mSt τ t b N j cs l) (h1 : ∀ q, υ 195 q = τ 195 q) (h2 : ∀ a q, a = 202 ∨ a = 203 ∨ a = 209 ∨ a = 210 → υ a q = τ a q) : mSt υ t b N j cs l := by
  obtain ⟨g1, g2, g3, g4⟩ := h
  exact ⟨mTk_f g1 (fun q _ _ => h1 q) (fun q => h2 202 q (by omega)) (fun q => h2 203 q (by omega)), mDc_f g2 (h1 25) (fun q => h2 209 q (by omega)) (fun q => h2 210 q (by omega)), g3, g4⟩
theorem l_mlaw1 {d N j : Nat} {t : Nat → Nat} {b : Nat} {σ τ : zS} {Q : Int32 → zS → Prop} {y : (Nat × Nat) ⊕ (Nat × List Nat × pRw)} {cs : List Nat} {rows : List pRw} {u2 : Value} (hE : mEn t b N) (hb : 10000 ≤ tkk t b j ∧ tkk t b j ≤ 10002) (hv : τ 195 15 = nI (tkk t b j - 10000)) (hl : rows.length < 16) (hs : mSt τ t b N j cs 0) (h26 : τ 195 26 = 0) (hR : mRl τ 32 rows) (hF : Fg mX σ τ) (hp : plw (tkk t b) j cs = some y) (h0 : ∀ υ, mFa σ t b y υ → Q (-1) υ) (hback : ∀ i ds row υ u2, y = .inr (i, ds, row) → Fg mX σ υ → mSt υ t b N i ds 0 → υ 195 26 = 0 → mRl υ 32 (rows ++ [row]) → zk (d + 8) 207 2 [.ref 195, .int (nI (rows.length + 1)), u2] [] υ (fun r t => ∃ v, r = some v ∧ Q v t)) : zk (d + 8) 207 21 [.ref 195, .int (nI rows.length), u2] [] τ (fun r t => ∃ v, r = some v ∧ Q v t) := by
  have hX : ∀ a, 205 ≤ a → a ≤ 208 → mX a (32 + rows.length) := fun a h1 h2 => by unfold mX; omega
  have hsp : ∀ υ i ds (a : Nat) (v : Int32), 205 ≤ a → a ≤ 208 → mSt υ t b N i ds 0 → mSt (up υ a (32 + rows.length) v) t b N i ds 0 := fun υ i ds a v h1 h2 y => mSt_x y (fun q => zup_ne (by omega)) (fun a q h => zup_ne (by omega))
  -- behind the amount and the condition
  have kend : ∀ υ i ds f wh, pkw (tkk t b) i 20059 (some (.inr (i + 1, ds, nI (tkk t b j), nI f, nI wh, nI ds.length))) = some y → Fg mX σ υ → mSt υ t b N i ds 0 → υ 195 26 = 0 → mRl υ 32 rows → υ 205 (32 + rows.length) = nI (tkk t b j - 10000) → υ 206 (32 + rows.length) = nI f → υ 207 (32 + rows.length) = nI wh → zk (d + 8) 207 92 [.ref 195, .int (nI rows.length), .int (nI (32 + rows.length))] [] υ (fun r t => ∃ v, r = some v ∧ Q v t) := by
    intro υ i ds f wh hr x z w hR e5 e6 e7
    have hc := z.2.1.1
    have hz2 := hsp υ i ds 208 (nI ds.length) (by decide) (by decide) z
    have hx2 : Fg mX σ (up υ 208 (32 + rows.length) (nI ds.length)) := x.put (hX 208 (by decide) (by decide))
    have hw2 : up υ 208 (32 + rows.length) (nI ds.length) 195 26 = 0 := (zup_ne (by decide)).trans w
    have hRn : ∀ ρ, Fg mR (up υ 208 (32 + rows.length) (nI ds.length)) ρ → mRl ρ 32 (rows ++ [(nI (tkk t b j), nI f, nI wh, nI ds.length)]) := fun ρ g => by
      intro l hl
      rcases getD_sn (z := ((0, 0, 0, 0) : pRw)) hl with ⟨h, e⟩ | ⟨h, e⟩
      · rw [e, h]
        refine ⟨⟨tkk t b j - 10000, by omega, ?_, congrArg nI (by omega)⟩, ?_, ?_, ?_⟩
        · rw [g 205 _ (by unfold mR; omega), zup_ne (by decide)]; exact e5
        · rw [g 206 _ (by unfold mR; omega), zup_ne (by decide)]; exact e6
        · rw [g 207 _ (by unfold mR; omega), zup_ne (by decide)]; exact e7
        · rw [g 208 _ (by unfold mR; omega), zup_eq]
      · rw [e]
        exact mRl_o hR (fun a q h1 h2 h3 => (g a q (by unfold mR; omega)).trans (zup_n2 (by omega))) l h
    generalize hu2 : up υ 208 (32 + rows.length) (nI ds.length) = υ2 at *
    have hrl : rows.length < 16 := hl
    unfold pkw at hr
    by_cases c : tkk t b i = 20059
    · rw [if_pos c] at hr
      have hin := mEn_lt hE z.2.2.1 (by omega)
      have hback := fun ρ u2 g1 g2 => hback _ _ _ ρ u2 (Option.some.inj hr).symm (hx2.tr (Fg.sub (P := mR) g1 (fun a b => mR_X))) g2 ((g1 195 26 (by unfold mR; omega)).trans hw2) (hRn ρ g1)
      have hsr : ∀ ρ, Fg mR υ2 ρ → mTk ρ t b (i + 1) → mSt ρ t b N (i + 1) ds 0 := fun ρ g1 g2 => ⟨g2, mDc_f hz2.2.1 (g1 195 25 (by unfold mR; omega)) (fun b => g1 209 b (by unfold mR; omega)) (fun b => g1 210 b (by unfold mR; omega)), hin, by have := hz2.2.2.2; omega⟩
      generalize rows.length = rl at *
      refine r_al0 zi_207_92 rfl ?_
      refine q_getR zi_207_93 rfl cf_195_21 ?_
      refine r_il2 zi_207_96 rfl ?_
      refine r_al0 zi_207_97 rfl ?_
      refine q_getIe zi_207_98 rfl cf_195_25 (v := nI ds.length) (by first | exact hc | ((repeat (first | rw [zup_ne (by first | decide | omega)] | rw [zup_nj (by first | decide | omega)] | rw [fil_ne (by first | decide | omega)])) <;> exact hc) | (simp [up_rd, fil_rd]; exact hc)) ?_
      refine r_ast zi_207_101 rfl (32+rl) ca_208 (by first | rfl | (simp only [zI_add, zI_mul] <;> rfl)) (by first | omega | decide) ?_
      rw [hu2]
      refine r_al0 zi_207_102 rfl ?_
      refine r_push zi_207_103 rfl ?_
      refine q_cIV zi_207_105 rfl rfl rfl rfl rfl rfl rfl cf_195_0.ob (s_msign (c := 59) hz2.1.2.2.2 (by decide) (fun _ => ?_) (fun z => absurd c z))
      show zk _ _ 108 _ _ _ _
      refine r_if1 zi_207_108 rfl (fun _ => ?_) (fun c => absurd c (by decide))
      refine r_al0 zi_207_117 rfl ?_
      refine q_cVV zi_207_118 rfl rfl rfl rfl rfl rfl rfl cf_195_0.ob (s_readn (d := d + 5) hz2.1 (fun ρ g1 g2 => ?_))
      show zk _ _ 121 _ _ _ _
      refine r_il1 zi_207_121 rfl ?_
      refine r_push zi_207_122 rfl ?_
      refine r_b0 zi_207_123 rfl ?_
      rw [show (nI rl + 1 : Int32) = nI (rl + 1) from nI_add _ _]
      refine r_is1 zi_207_124 rfl ?_
      refine r_goto zi_207_125 rfl ?_
      exact hback ρ _ g1 (hsr ρ g1 g2)
    · rw [if_neg c] at hr
      have herr : ∀ (Q3 : Int32 → zS → Prop), (∀ ω, Q (-1) ω → Q3 (-1) ω) → zI1 (d + 7) 194 [.ref 195, .int 1] υ2 Q3 := fun Q3 h2 => s_err (n := 1) hz2.1 (fun ω z1 z2 z3 => h2 ω (h0 ω ⟨1, i, (Option.some.inj hr).symm, hx2.tr (z1.sub (fun a b => mA_X)), z2, z3⟩))
      generalize rows.length = rl at *
      refine r_al0 zi_207_92 rfl ?_
      refine q_getR zi_207_93 rfl cf_195_21 ?_
      refine r_il2 zi_207_96 rfl ?_
      refine r_al0 zi_207_97 rfl ?_
      refine q_getIe zi_207_98 rfl cf_195_25 (v := nI ds.length) (by first | exact hc | ((repeat (first | rw [zup_ne (by first | decide | omega)] | rw [zup_nj (by first | decide | omega)] | rw [fil_ne (by first | decide | omega)])) <;> exact hc) | (simp [up_rd, fil_rd]; exact hc)) ?_
      refine r_ast zi_207_101 rfl (32+rl) ca_208 (by first | rfl | (simp only [zI_add, zI_mul] <;> rfl)) (by first | omega | decide) ?_
      rw [hu2]
      refine r_al0 zi_207_102 rfl ?_
      refine r_push zi_207_103 rfl ?_
      refine q_cIV zi_207_105 rfl rfl rfl rfl rfl rfl rfl cf_195_0.ob (s_msign (c := 59) hz2.1.2.2.2 (by decide) (fun z => absurd z c) (fun _ => ?_))
      show zk _ _ 108 _ _ _ _
      refine r_if1 zi_207_108 rfl (fun c => absurd (by decide) c) (fun _ => ?_)
      refine r_al0 zi_207_111 rfl ?_
      refine r_push zi_207_112 rfl ?_
      refine q_cIV zi_207_113 rfl rfl rfl rfl rfl rfl rfl cf_195_0.ob (herr _ (fun ω fin => ?_))
      show zk _ _ 116 _ _ _ _
      refine r_retI zi_207_116 rfl ?_
      exact ⟨_, rfl, fin⟩
  have hj1 := mEn_lt hE hs.2.2.1 (by omega)
  have hs1 := hsp τ j cs 205 (nI (tkk t b j - 10000)) (by decide) (by decide) hs
  have hx1 : Fg mX σ (up τ 205 (32 + rows.length) (nI (tkk t b j - 10000))) := hF.put (hX 205 (by decide) (by decide))
  have hR1 : mRl (up τ 205 (32 + rows.length) (nI (tkk t b j - 10000))) 32 rows := mRl_o hR (fun a q h1 h2 h3 => zup_n2 (by omega))
  have h261 : up τ 205 (32 + rows.length) (nI (tkk t b j - 10000)) 195 26 = 0 := (zup_ne (by decide)).trans h26
  have he1 : up τ 205 (32 + rows.length) (nI (tkk t b j - 10000)) 205 (32 + rows.length) = nI (tkk t b j - 10000) := zup_eq
  generalize hu1 : up τ 205 (32 + rows.length) (nI (tkk t b j - 10000)) = τ1 at *
  have hrd : ∀ (Q2 : zS → Prop), (∀ υ, Fg mX σ υ → mSt υ t b N (j + 1) cs 0 → υ 195 26 = 0 → mRl υ 32 rows → υ 205 (32 + rows.length) = nI (tkk t b j - 10000) → Q2 υ) → zV1 (d + 7) 193 [.ref 195] τ1 Q2 := fun Q2 h2 => s_readn (d := d + 5) hs1.1 (fun υ g1 g2 => h2 υ (hx1.tr (g1.sub (fun a b => mR_X))) ⟨g2, mDc_f hs1.2.1 (g1 195 25 (by unfold mR; omega)) (fun b => g1 209 b (by unfold mR; omega)) (fun b => g1 210 b (by unfold mR; omega)), hj1, by have := hs1.2.2.2; omega⟩ ((g1 195 26 (by unfold mR; omega)).trans h261) (mRl_o hR1 (fun a q h1 h2 h3 => g1 a q (by unfold mR; omega))) ((g1 205 _ (by unfold mR; omega)).trans he1))
  unfold plw at hp
  have k40 : ∀ υ, Fg mX σ υ → mSt υ t b N (j + 1) cs 0 → υ 195 26 = 0 → mRl υ 32 rows → υ 205 (32 + rows.length) = nI (tkk t b j - 10000) → zk (d + 8) 207 40 [.ref 195, .int (nI rows.length), .int (nI (32 + rows.length))] [] υ (fun r t => ∃ v, r = some v ∧ Q v t) := by
    intro υ x z w hR e5
    have hc := z.2.1.1
    have hz2 := hsp υ (j + 1) cs 206 (nI cs.length) (by decide) (by decide) z
    have hx2 : Fg mX σ (up υ 206 (32 + rows.length) (nI cs.length)) := x.put (hX 206 (by decide) (by decide))
    have hw2 : up υ 206 (32 + rows.length) (nI cs.length) 195 26 = 0 := (zup_ne (by decide)).trans w
    have hR2 : mRl (up υ 206 (32 + rows.length) (nI cs.length)) 32 rows := mRl_o hR (fun a q h1 h2 h3 => zup_n2 (by omega))
    have e52 : up υ 206 (32 + rows.length) (nI cs.length) 205 (32 + rows.length) = nI (tkk t b j - 10000) := (zup_ne (by decide)).trans e5
    have e62 : up υ 206 (32 + rows.length) (nI cs.length) 206 (32 + rows.length) = nI cs.length := zup_eq
    generalize hu2 : up υ 206 (32 + rows.length) (nI cs.length) = υ2 at *
    have hrl : rows.length < 16 := hl
    cases hp1 : pe (tkk t b) 401 (j + 1) cs with
    | none => rw [hp1] at hp; cases hp
    | some x1 =>
      rw [hp1] at hp
      have hsm := fun (Q2 : Int32 → zS → Prop) k1 k0 => s_msum (d := d + 2) (l := 0) (Q := Q2) hE hp1 hz2 k1 k0
      cases x1 with
      | inl y1 =>
        have er := Option.some.inj hp
        obtain ⟨q, i⟩ := y1
        have h0 := fun ρ g1 g2 g3 => h0 ρ ⟨q, i, er.symm, hx2.tr (Fg.sub (P := mA) g1 (fun a b => mA_X)), g2, g3⟩
        generalize rows.length = rl at *
        refine r_al0 zi_207_40 rfl ?_
        refine q_getR zi_207_41 rfl cf_195_19 ?_
        refine r_il2 zi_207_44 rfl ?_
        refine r_al0 zi_207_45 rfl ?_
        refine q_getIe zi_207_46 rfl cf_195_25 (v := nI cs.length) (by first | exact hc | ((repeat (first | rw [zup_ne (by first | decide | omega)] | rw [zup_nj (by first | decide | omega)] | rw [fil_ne (by first | decide | omega)])) <;> exact hc) | (simp [up_rd, fil_rd]; exact hc)) ?_
        refine r_ast zi_207_49 rfl (32+rl) ca_206 (by first | rfl | (simp only [zI_add, zI_mul] <;> rfl)) (by first | omega | decide) ?_
        rw [hu2]
        refine r_al0 zi_207_50 rfl ?_
        refine q_cIV zi_207_51 rfl rfl rfl rfl rfl rfl rfl cf_195_0.ob (hsm _ (fun _ _ _ z => by cases z) (fun n2 q2 ρ e g1 g2 g3 => ?_))
        show zk _ _ 54 _ _ _ _
        refine r_push zi_207_54 rfl ?_
        refine r_ic1 zi_207_55 rfl (fun c => absurd (by decide) c) (fun _ => ?_)
        refine r_push zi_207_58 rfl ?_
        refine r_retI zi_207_59 rfl ?_
        cases e; exact ⟨_, rfl, h0 ρ g1 g2 g3⟩
      | inr y1 =>
        obtain ⟨j1, cs1⟩ := y1
        replace hp : (if tkk t b j1 = 10013 then (match pcd (tkk t b) 500 true (j1 + 1) cs1 [] with | none => none | some (.inl x) => some (.inl x) | some (.inr (j2, cs2)) => pkw (tkk t b) j2 20059 (some (.inr (j2 + 1, cs2, nI (tkk t b j), nI cs.length, nI cs1.length, nI cs2.length)))) else pkw (tkk t b) j1 20059 (some (.inr (j1 + 1, cs1, nI (tkk t b j), nI cs.length, nI cs1.length, nI cs1.length)))) = some y := hp
        have k60 : ∀ ρ, Fg mA υ2 ρ → mSt ρ t b N j1 cs1 0 → zk (d + 8) 207 60 [.ref 195, .int (nI rows.length), .int (nI (32 + rows.length))] [] ρ (fun r t => ∃ v, r = some v ∧ Q v t) := by
          intro ρ g1 g2
          have hc := g2.2.1.1
          have hg2 := hsp ρ j1 cs1 207 (nI cs1.length) (by decide) (by decide) g2
          have hx3 : Fg mX σ (up ρ 207 (32 + rows.length) (nI cs1.length)) := (hx2.tr (g1.sub (fun a b => mA_X))).put (hX 207 (by decide) (by decide))
          have hw3 : up ρ 207 (32 + rows.length) (nI cs1.length) 195 26 = 0 := (zup_ne (by decide)).trans ((g1 195 26 (by unfold mA; omega)).trans hw2)
          have hR3 : mRl (up ρ 207 (32 + rows.length) (nI cs1.length)) 32 rows := mRl_o hR2 (fun a q h1 h2 h3 => (zup_n2 (by omega)).trans (g1 a q (by unfold mA; omega)))
          have e53 : up ρ 207 (32 + rows.length) (nI cs1.length) 205 (32 + rows.length) = nI (tkk t b j - 10000) := (zup_ne (by decide)).trans ((g1 205 _ (by unfold mA; omega)).trans e52)
          have e63 : up ρ 207 (32 + rows.length) (nI cs1.length) 206 (32 + rows.length) = nI cs.length := (zup_ne (by decide)).trans ((g1 206 _ (by unfold mA; omega)).trans e62)
          have e73 : up ρ 207 (32 + rows.length) (nI cs1.length) 207 (32 + rows.length) = nI cs1.length := zup_eq
          generalize hu3 : up ρ 207 (32 + rows.length) (nI cs1.length) = ρ3 at *
          have hwd : ∀ (Q2 : Int32 → zS → Prop), (tkk t b j1 = 10013 → Q2 1 ρ3) → (¬ tkk t b j1 = 10013 → Q2 0 ρ3) → zI1 (d + 7) 195 [.ref 195, .int 3] ρ3 Q2 := fun Q2 k1 k0 => s_mword1 (w := 0) (c := 13) rfl hg2.1.2.2.2 (by decide) k1 k0
          by_cases c : tkk t b j1 = 10013
          · rw [if_pos c] at hp
            have hj2 := mEn_lt hE hg2.2.2.1 (by omega)
            have hrd2 : ∀ (Q2 : zS → Prop), (∀ ω, Fg mR ρ3 ω → mSt ω t b N (j1 + 1) cs1 0 → ω 195 26 = 0 → Q2 ω) → zV1 (d + 7) 193 [.ref 195] ρ3 Q2 := fun Q2 h2 => s_readn (d := d + 5) hg2.1 (fun ω v1 v2 => h2 ω v1 ⟨v2, mDc_f hg2.2.1 (v1 195 25 (by unfold mR; omega)) (fun b => v1 209 b (by unfold mR; omega)) (fun b => v1 210 b (by unfold mR; omega)), hj2, by have := hg2.2.2.2; omega⟩ ((v1 195 26 (by unfold mR; omega)).trans hw3))
            cases hp2 : pcd (tkk t b) 500 true (j1 + 1) cs1 [] with
            | none => rw [hp2] at hp; cases hp
            | some x2 =>
              rw [hp2] at hp
              have hma := fun ω v2 v3 (Q2 : Int32 → zS → Prop) k1 k0 => s_many (d := d) (σ := ω) (Q := Q2) hE hp2 v2 v3 k1 k0
              cases x2 with
              | inl y2 =>
                have er := Option.some.inj hp
                obtain ⟨q, i⟩ := y2
                have h0 := fun ω ξ v1 g1 g2 g3 => h0 ξ ⟨q, i, er.symm, (hx3.tr (Fg.sub (P := mR) (τ := ω) v1 (fun a b => mR_X))).tr (Fg.sub (P := mC) g1 (fun a b => mC_X)), g2, g3⟩
                generalize rows.length = rl at *
                refine r_al0 zi_207_60 rfl ?_
                refine q_getR zi_207_61 rfl cf_195_20 ?_
                refine r_il2 zi_207_64 rfl ?_
                refine r_al0 zi_207_65 rfl ?_
                refine q_getIe zi_207_66 rfl cf_195_25 (v := nI cs1.length) (by first | exact hc | ((repeat (first | rw [zup_ne (by first | decide | omega)] | rw [zup_nj (by first | decide | omega)] | rw [fil_ne (by first | decide | omega)])) <;> exact hc) | (simp [up_rd, fil_rd]; exact hc)) ?_
                refine r_ast zi_207_69 rfl (32+rl) ca_207 (by first | rfl | (simp only [zI_add, zI_mul] <;> rfl)) (by first | omega | decide) ?_
                rw [hu3]
                refine r_al0 zi_207_70 rfl ?_
                refine r_push zi_207_71 rfl ?_
                refine q_cIV zi_207_72 rfl rfl rfl rfl rfl rfl rfl cf_195_0.ob (hwd _ (fun _ => ?_) (fun z => absurd c z))
                show zk _ _ 75 _ _ _ _
                refine r_if0 zi_207_75 rfl (fun c => absurd c (by decide)) (fun _ => ?_)
                refine r_al0 zi_207_78 rfl ?_
                refine q_cVV zi_207_79 rfl rfl rfl rfl rfl rfl rfl cf_195_0.ob (hrd2 _ (fun ω v1 v2 v3 => ?_))
                show zk _ _ 82 _ _ _ _
                refine r_al0 zi_207_82 rfl ?_
                refine q_cIV zi_207_83 rfl rfl rfl rfl rfl rfl rfl cf_195_0.ob (hma ω v2 v3 _ (fun _ _ _ z => by cases z) (fun n2 q2 ξ e g1 g2 g3 => ?_))
                show zk _ _ 86 _ _ _ _
                refine r_push zi_207_86 rfl ?_
                refine r_ic1 zi_207_87 rfl (fun c => absurd (by decide) c) (fun _ => ?_)
                refine r_push zi_207_90 rfl ?_
                refine r_retI zi_207_91 rfl ?_
                cases e; exact ⟨_, rfl, h0 ω ξ v1 g1 g2 g3⟩
              | inr y2 =>
                obtain ⟨j2, cs2⟩ := y2
                replace hp : pkw (tkk t b) j2 20059 (some (.inr (j2 + 1, cs2, nI (tkk t b j), nI cs.length, nI cs1.length, nI cs2.length))) = some y := hp
                have kend := fun ω ξ (v1 : Fg mR ρ3 ω) (g1 : Fg mC ω ξ) g2 g3 => kend ξ j2 cs2 _ _ hp ((hx3.tr (v1.sub (fun a b => mR_X))).tr (g1.sub (fun a b => mC_X))) g2 g3 (mRl_o hR3 (fun a q h1 h2 h3 => (g1 a q (by unfold mC; omega)).trans (v1 a q (by unfold mR; omega)))) ((g1 205 _ (by unfold mC; omega)).trans ((v1 205 _ (by unfold mR; omega)).trans e53)) ((g1 206 _ (by unfold mC; omega)).trans ((v1 206 _ (by unfold mR; omega)).trans e63)) ((g1 207 _ (by unfold mC; omega)).trans ((v1 207 _ (by unfold mR; omega)).trans e73))
                generalize rows.length = rl at *
                refine r_al0 zi_207_60 rfl ?_
                refine q_getR zi_207_61 rfl cf_195_20 ?_
                refine r_il2 zi_207_64 rfl ?_
                refine r_al0 zi_207_65 rfl ?_
                refine q_getIe zi_207_66 rfl cf_195_25 (v := nI cs1.length) (by first | exact hc | ((repeat (first | rw [zup_ne (by first | decide | omega)] | rw [zup_nj (by first | decide | omega)] | rw [fil_ne (by first | decide | omega)])) <;> exact hc) | (simp [up_rd, fil_rd]; exact hc)) ?_
                refine r_ast zi_207_69 rfl (32+rl) ca_207 (by first | rfl | (simp only [zI_add, zI_mul] <;> rfl)) (by first | omega | decide) ?_
                rw [hu3]
                refine r_al0 zi_207_70 rfl ?_
                refine r_push zi_207_71 rfl ?_
                refine q_cIV zi_207_72 rfl rfl rfl rfl rfl rfl rfl cf_195_0.ob (hwd _ (fun _ => ?_) (fun z => absurd c z))
                show zk _ _ 75 _ _ _ _
                refine r_if0 zi_207_75 rfl (fun c => absurd c (by decide)) (fun _ => ?_)
                refine r_al0 zi_207_78 rfl ?_
                refine q_cVV zi_207_79 rfl rfl rfl rfl rfl rfl rfl cf_195_0.ob (hrd2 _ (fun ω v1 v2 v3 => ?_))
                show zk _ _ 82 _ _ _ _
                refine r_al0 zi_207_82 rfl ?_
                refine q_cIV zi_207_83 rfl rfl rfl rfl rfl rfl rfl cf_195_0.ob (hma ω v2 v3 _ (fun j3 cs3 ξ e g1 g2 g3 => ?_) (fun _ _ _ z => by cases z))
                show zk _ _ 86 _ _ _ _
                refine r_push zi_207_86 rfl ?_
                refine r_ic1 zi_207_87 rfl (fun _ => ?_) (fun c => absurd c (by decide))
                cases e; exact kend ω ξ v1 g1 g2 g3
          · rw [if_neg c] at hp
            have kend := kend ρ3 j1 cs1 _ _ hp hx3 hg2 hw3 hR3 e53 e63 e73
            generalize rows.length = rl at *
            refine r_al0 zi_207_60 rfl ?_
            refine q_getR zi_207_61 rfl cf_195_20 ?_
            refine r_il2 zi_207_64 rfl ?_
            refine r_al0 zi_207_65 rfl ?_
            refine q_getIe zi_207_66 rfl cf_195_25 (v := nI cs1.length) (by first | exact hc | ((repeat (first | rw [zup_ne (by first | decide | omega)] | rw [zup_nj (by first | decide | omega)] | rw [fil_ne (by first | decide | omega)])) <;> exact hc) | (simp [up_rd, fil_rd]; exact hc)) ?_
            refine r_ast zi_207_69 rfl (32+rl) ca_207 (by first | rfl | (simp only [zI_add, zI_mul] <;> rfl)) (by first | omega | decide) ?_
            rw [hu3]
            refine r_al0 zi_207_70 rfl ?_
            refine r_push zi_207_71 rfl ?_
            refine q_cIV zi_207_72 rfl rfl rfl rfl rfl rfl rfl cf_195_0.ob (hwd _ (fun z => absurd z c) (fun _ => ?_))
            show zk _ _ 75 _ _ _ _
            refine r_if0 zi_207_75 rfl (fun _ => ?_) (fun c => absurd (by decide) c)
            exact kend
        generalize rows.length = rl at *
        refine r_al0 zi_207_40 rfl ?_
        refine q_getR zi_207_41 rfl cf_195_19 ?_
        refine r_il2 zi_207_44 rfl ?_
        refine r_al0 zi_207_45 rfl ?_
        refine q_getIe zi_207_46 rfl cf_195_25 (v := nI cs.length) (by first | exact hc | ((repeat (first | rw [zup_ne (by first | decide | omega)] | rw [zup_nj (by first | decide | omega)] | rw [fil_ne (by first | decide | omega)])) <;> exact hc) | (simp [up_rd, fil_rd]; exact hc)) ?_
        refine r_ast zi_207_49 rfl (32+rl) ca_206 (by first | rfl | (simp only [zI_add, zI_mul] <;> rfl)) (by first | omega | decide) ?_
        rw [hu2]
        refine r_al0 zi_207_50 rfl ?_
        refine q_cIV zi_207_51 rfl rfl rfl rfl rfl rfl rfl cf_195_0.ob (hsm _ (fun j3 cs3 ρ e g1 g2 => ?_) (fun _ _ _ z => by cases z))
        show zk _ _ 54 _ _ _ _
        refine r_push zi_207_54 rfl ?_
        refine r_ic1 zi_207_55 rfl (fun _ => ?_) (fun c => absurd c (by decide))
        cases e; exact k60 ρ g1 g2
  generalize rows.length = rl at *
  generalize hvv : tkk t b j - 10000 = vv at *
  refine r_push zi_207_21 rfl ?_
  refine r_il1 zi_207_23 rfl ?_
  refine r_b0 zi_207_24 rfl ?_
  rw [show (32 + nI rl : Int32) = nI (32 + rl) from nI_add _ _]
  refine r_is2 zi_207_25 rfl ?_
  refine r_al0 zi_207_26 rfl ?_
  refine q_getR zi_207_27 rfl cf_195_18 ?_
  refine r_il2 zi_207_30 rfl ?_
  refine r_al0 zi_207_31 rfl ?_
  refine q_getIe zi_207_32 rfl cf_195_15 (v := nI vv) (by first | exact hv | ((repeat (first | rw [zup_ne (by first | decide | omega)] | rw [zup_nj (by first | decide | omega)] | rw [fil_ne (by first | decide | omega)])) <;> exact hv) | (simp [up_rd, fil_rd]; exact hv)) ?_
  refine r_ast zi_207_35 rfl (32 + rl) ca_205 (by first | rfl | (simp only [zI_add, zI_mul] <;> rfl)) (by first | omega | decide) ?_
  rw [hu1]
  refine r_al0 zi_207_36 rfl ?_
  refine q_cVV zi_207_37 rfl rfl rfl rfl rfl rfl rfl cf_195_0.ob (hrd _ (fun υ x1 x2 x3 x4 x5 => ?_))
  show zk _ _ 40 _ _ _ _
  exact k40 υ x1 x2 x3 x4 x5

