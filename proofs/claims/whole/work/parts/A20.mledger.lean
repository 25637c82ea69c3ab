/-! LINES in the model: the ledger -/
def mFa (σ : zS) (t : Nat → Nat) (b : Nat) (r : (Nat × Nat) ⊕ (Nat × List Nat × pRw)) (υ : zS) : Prop := ∃ q i, r = .inl (q, i) ∧ Fg mX σ υ ∧ υ 195 29 = nI q ∧ υ 195 30 = nI (tks t b i)
theorem mFa_put {σ υ : zS} {t : Nat → Nat} {b p q : Nat} {r : (Nat × Nat) ⊕ (Nat × List Nat × pRw)} {v : Int32} (h : mFa σ t b r υ) (hx : mX p q) (h5 : p ≠ 195) : mFa σ t b r (up υ p q v) := by
  obtain ⟨n, i, a, c, e, f⟩ := h
  exact ⟨n, i, a, c.put hx, (zup_ne (Ne.symm h5)).trans e, (zup_ne (Ne.symm h5)).trans f⟩
/-- what a line of the ledger changes -/
def mL2 (at0 a b : Nat) : Prop := mR a b ∨ (a = 212 ∧ (b = at0 ∨ b = at0 + 1))
theorem l_mtl {d N i n w who day a at0 : Nat} {t : Nat → Nat} {b : Nat} {σ τ0 τ : zS} {Q : Int32 → zS → Prop} {cs : List Nat} {r : (Nat × Nat) ⊕ (Nat × List Nat × pRw)} {u5 : Value} (hE : mEn t b N) (hat : 32 ≤ at0) (hat2 : at0 + 1 < 64) (h1 : ∀ i row υ, r = .inr (i, cs, row) → Fg (mL2 at0) τ0 υ → mTk υ t b i → i ≤ N → υ 212 at0 = row.1 → zOm n row.2.1 (υ 212 (at0 + 1)) → Q 0 υ) (h0 : ∀ υ, mFa σ t b r υ → Q (-1) υ) (hr : ptl (tkk t b) cs day w who a i = some r) (hF0 : Fg mX σ τ0) (hF : Fg (mL2 at0) τ0 τ) (hk : mTk τ t b i) (hi : i ≤ N) (hday : τ 212 at0 = nI day) (hw : w ≤ 5) (ha : a < 12) (hs : who < n) (hn : n ≤ 18) : zk (d + 5) 213 115 [.ref 195, .int (nI at0), .int (nI who), .int (nI w), .int (nI a), u5] [] τ (fun r t => ∃ v, r = some v ∧ Q v t) := by
  have hFX : ∀ υ, Fg (mL2 at0) τ0 υ → Fg mX σ υ := fun υ x => hF0.tr (x.sub (fun a b z => z.elim mR_X (fun y => by unfold mX; omega)))
  have hwd : ∀ (Q2 : Int32 → zS → Prop), (tkk t b i = 10025 → Q2 1 τ) → (¬ tkk t b i = 10025 → Q2 0 τ) → zI1 (d + 4) 195 [.ref 195, .int 25] τ Q2 := fun Q2 g1 g0 => s_mword1 (w := 0) (c := 25) rfl hk.2.2.2 (by decide) g1 g0
  have hput : ∀ υ g (row : pRw), Fg (mL2 at0) τ0 υ → row.1 = nI day → υ 212 at0 = nI day → Fg (mL2 at0) τ0 (up υ 212 (at0 + 1) (nI (w + 10 * a + 200 * who + 4000 * g))) ∧ up υ 212 (at0 + 1) (nI (w + 10 * a + 200 * who + 4000 * g)) 212 at0 = row.1 := fun υ g row x e1 e2 => ⟨x.put (Or.inr ⟨rfl, Or.inr rfl⟩), by rw [zup_nj (by omega), e2, e1]⟩
  have hmk : ∀ υ g i2, g ≤ 1 → (w = 5 → g = 0) → mTk υ t b i2 → i2 ≤ N → Fg (mL2 at0) τ0 υ → υ 212 at0 = nI day → pkw (tkk t b) i2 20059 (some (.inr (i2 + 1, cs, nI day, pok1 w who a g, 0, 0))) = some r → ∀ (Q2 : Int32 → zS → Prop), (∀ ρ, Q 0 ρ → Q2 0 ρ) → (∀ ρ, Q (-1) ρ → Q2 (-1) ρ) → zI1 (d + 4) 210 [.ref 195, .int 59] (up υ 212 (at0 + 1) (nI (w + 10 * a + 200 * who + 4000 * g))) Q2 := fun υ g i2 hg hg5 y1 y2 x e hr2 Q2 k1 k0 => by
    have hp := hput υ g (nI day, pok1 w who a g, 0, 0) x rfl e
    refine s_mmark (d := d + 1) (c := 59) (σ := σ) (Q := fun _ υ => mFa σ t b r υ) (fun q i υ e1 e2 e3 e4 => ⟨q, i, e1, e2, e3, e4⟩) hE rfl (by decide) hr2 (hFX _ hp.1) (mTk_f y1 (fun q _ _ => zup_ne (by decide)) (fun q => zup_ne (by decide)) (fun q => zup_ne (by decide))) y2 (fun ρ e1 z1 z2 z3 => k1 ρ ?_) (fun ρ z => k0 ρ (h0 ρ z))
    refine h1 _ _ ρ (Option.some.inj e1).symm (hp.1.tr (z1.sub (fun a b => Or.inl))) z2 z3 ((z1 212 at0 (by unfold mR; omega)).trans hp.2) ?_
    rw [z1 212 (at0 + 1) (by unfold mR; omega), zup_eq]
    exact ⟨w, a, who, g, hw, ha, hs, hg, hg5, rfl, rfl⟩
  unfold ptl at hr
  by_cases g : w ≠ 5 ∧ tkk t b i = 10025
  · rw [if_pos g] at hr
    have hin := mEn_lt hE hi (by omega)
    have hr2 : pkw (tkk t b) (i + 1) 20059 (some (.inr (i + 1 + 1, cs, nI day, pok1 w who a 1, 0, 0))) = some r := hr
    have hrd : ∀ (Q2 : zS → Prop), (∀ υ, Fg (mL2 at0) τ0 υ → mTk υ t b (i + 1) → υ 212 at0 = nI day → Q2 υ) → zV1 (d + 4) 193 [.ref 195] τ Q2 := fun Q2 h2 => s_readn (d := d + 2) hk (fun υ x y => h2 υ (hF.tr (x.sub (fun a b => Or.inl))) y ((x 212 at0 (by unfold mR; omega)).trans hday))
    have hmk := fun υ x y z (Q2 : Int32 → zS → Prop) k1 k0 => hmk υ 1 (i + 1) (by decide) (fun z => absurd z g.1) y hin x z hr2 Q2 k1 k0
    have g1 := g.1
    have g2 := g.2
    refine r_il3 zi_213_115 rfl ?_
    refine r_push zi_213_116 rfl ?_
    refine n_ic0 (i := w) (j := 5) zi_213_117 rfl (by omega) (by omega) (fun c => absurd c (by omega)) (fun _ => ?_)
    refine r_al0 zi_213_120 rfl ?_
    refine r_push zi_213_121 rfl ?_
    refine q_cIV zi_213_123 rfl rfl rfl rfl rfl rfl rfl cf_195_0.ob (hwd _ (fun _ => ?_) (fun z => absurd g2 z))
    show zk _ _ 126 _ _ _ _
    refine r_if0 zi_213_126 rfl (fun c => absurd c (by decide)) (fun _ => ?_)
    refine r_push zi_213_129 rfl ?_
    refine r_goto zi_213_130 rfl ?_
    refine r_is5 zi_213_134 rfl ?_
    refine r_il5 zi_213_136 rfl ?_
    refine r_if0 zi_213_138 rfl (fun c => absurd c (by decide)) (fun _ => ?_)
    refine r_al0 zi_213_141 rfl ?_
    refine q_cVV zi_213_142 rfl rfl rfl rfl rfl rfl rfl cf_195_0.ob (hrd _ (fun υ x y z => ?_))
    show zk _ _ 145 _ _ _ _
    refine r_al0 zi_213_145 rfl ?_
    refine q_getR zi_213_146 rfl cf_195_34 ?_
    refine r_il1 zi_213_149 rfl ?_
    refine r_push zi_213_150 rfl ?_
    refine r_b0 zi_213_151 rfl ?_
    rw [show (nI at0 + 1 : Int32) = nI (at0 + 1) from nI_add _ _]
    refine r_al0 zi_213_152 rfl ?_
    refine r_il3 zi_213_153 rfl ?_
    refine r_il4 zi_213_154 rfl ?_
    refine r_il2 zi_213_156 rfl ?_
    refine r_il5 zi_213_157 rfl ?_
    refine r_if0 zi_213_159 rfl (fun c => absurd c (by decide)) (fun _ => ?_)
    refine r_push zi_213_162 rfl ?_
    refine r_goto zi_213_163 rfl ?_
    refine q_cIV zi_213_167 rfl rfl rfl rfl rfl rfl rfl cf_195_0.ob (s_orderOf (g := 1) ?_)
    show zk _ _ 170 _ _ _ _
    refine r_ast zi_213_170 rfl (at0 + 1) ca_212 (by first | rfl | (simp only [zI_add, zI_mul] <;> rfl)) (by first | omega | decide) ?_
    refine r_al0 zi_213_171 rfl ?_
    refine r_push zi_213_172 rfl ?_
    refine q_cIV zi_213_174 rfl rfl rfl rfl rfl rfl rfl cf_195_0.ob (hmk υ x y z _ (fun ρ fin => ?_) (fun ρ fin => ?_))
    · show zk _ _ 177 _ _ _ _
      refine r_retI zi_213_177 rfl ?_
      exact ⟨_, rfl, fin⟩
    · show zk _ _ 177 _ _ _ _
      refine r_retI zi_213_177 rfl ?_
      exact ⟨_, rfl, fin⟩
  · rw [if_neg g] at hr
    have hmk := hmk τ 0 i (by decide) (fun _ => rfl) hk hi hF hday hr
    by_cases w5 : w = 5
    · refine r_il3 zi_213_115 rfl ?_
      refine r_push zi_213_116 rfl ?_
      refine n_ic0 (i := w) (j := 5) zi_213_117 rfl (by omega) (by omega) (fun _ => ?_) (fun c => absurd c (by omega))
      refine r_push zi_213_133 rfl ?_
      refine r_is5 zi_213_134 rfl ?_
      refine r_il5 zi_213_136 rfl ?_
      refine r_if0 zi_213_138 rfl (fun _ => ?_) (fun c => absurd (by decide) c)
      refine r_al0 zi_213_145 rfl ?_
      refine q_getR zi_213_146 rfl cf_195_34 ?_
      refine r_il1 zi_213_149 rfl ?_
      refine r_push zi_213_150 rfl ?_
      refine r_b0 zi_213_151 rfl ?_
      rw [show (nI at0 + 1 : Int32) = nI (at0 + 1) from nI_add _ _]
      refine r_al0 zi_213_152 rfl ?_
      refine r_il3 zi_213_153 rfl ?_
      refine r_il4 zi_213_154 rfl ?_
      refine r_il2 zi_213_156 rfl ?_
      refine r_il5 zi_213_157 rfl ?_
      refine r_if0 zi_213_159 rfl (fun _ => ?_) (fun c => absurd (by decide) c)
      refine r_push zi_213_166 rfl ?_
      refine q_cIV zi_213_167 rfl rfl rfl rfl rfl rfl rfl cf_195_0.ob (s_orderOf (g := 0) ?_)
      show zk _ _ 170 _ _ _ _
      refine r_ast zi_213_170 rfl (at0 + 1) ca_212 (by first | rfl | (simp only [zI_add, zI_mul] <;> rfl)) (by first | omega | decide) ?_
      refine r_al0 zi_213_171 rfl ?_
      refine r_push zi_213_172 rfl ?_
      refine q_cIV zi_213_174 rfl rfl rfl rfl rfl rfl rfl cf_195_0.ob (hmk _ (fun ρ fin => ?_) (fun ρ fin => ?_))
      · show zk _ _ 177 _ _ _ _
        refine r_retI zi_213_177 rfl ?_
        exact ⟨_, rfl, fin⟩
      · show zk _ _ 177 _ _ _ _
        refine r_retI zi_213_177 rfl ?_
        exact ⟨_, rfl, fin⟩
    · have g2 : ¬ tkk t b i = 10025 := fun z => g ⟨w5, z⟩
      refine r_il3 zi_213_115 rfl ?_
      refine r_push zi_213_116 rfl ?_
      refine n_ic0 (i := w) (j := 5) zi_213_117 rfl (by omega) (by omega) (fun c => absurd c (by omega)) (fun _ => ?_)
      refine r_al0 zi_213_120 rfl ?_
      refine r_push zi_213_121 rfl ?_
      refine q_cIV zi_213_123 rfl rfl rfl rfl rfl rfl rfl cf_195_0.ob (hwd _ (fun z => absurd z g2) (fun _ => ?_))
      show zk _ _ 126 _ _ _ _
      refine r_if0 zi_213_126 rfl (fun _ => ?_) (fun c => absurd (by decide) c)
      refine r_push zi_213_133 rfl ?_
      refine r_is5 zi_213_134 rfl ?_
      refine r_il5 zi_213_136 rfl ?_
      refine r_if0 zi_213_138 rfl (fun _ => ?_) (fun c => absurd (by decide) c)
      refine r_al0 zi_213_145 rfl ?_
      refine q_getR zi_213_146 rfl cf_195_34 ?_
      refine r_il1 zi_213_149 rfl ?_
      refine r_push zi_213_150 rfl ?_
      refine r_b0 zi_213_151 rfl ?_
      rw [show (nI at0 + 1 : Int32) = nI (at0 + 1) from nI_add _ _]
      refine r_al0 zi_213_152 rfl ?_
      refine r_il3 zi_213_153 rfl ?_
      refine r_il4 zi_213_154 rfl ?_
      refine r_il2 zi_213_156 rfl ?_
      refine r_il5 zi_213_157 rfl ?_
      refine r_if0 zi_213_159 rfl (fun _ => ?_) (fun c => absurd (by decide) c)
      refine r_push zi_213_166 rfl ?_
      refine q_cIV zi_213_167 rfl rfl rfl rfl rfl rfl rfl cf_195_0.ob (s_orderOf (g := 0) ?_)
      show zk _ _ 170 _ _ _ _
      refine r_ast zi_213_170 rfl (at0 + 1) ca_212 (by first | rfl | (simp only [zI_add, zI_mul] <;> rfl)) (by first | omega | decide) ?_
      refine r_al0 zi_213_171 rfl ?_
      refine r_push zi_213_172 rfl ?_
      refine q_cIV zi_213_174 rfl rfl rfl rfl rfl rfl rfl cf_195_0.ob (hmk _ (fun ρ fin => ?_) (fun ρ fin => ?_))
      · show zk _ _ 177 _ _ _ _
        refine r_retI zi_213_177 rfl ?_
        exact ⟨_, rfl, fin⟩
      · show zk _ _ 177 _ _ _ _
        refine r_retI zi_213_177 rfl ?_
        exact ⟨_, rfl, fin⟩
theorem s_mentry {d N j n at0 : Nat} {t : Nat → Nat} {b : Nat} {σ τ : zS} {Q : Int32 → zS → Prop} {cs : List Nat} {r : (Nat × Nat) ⊕ (Nat × List Nat × pRw)} (hE : mEn t b N) (hat : 32 ≤ at0) (hat2 : at0 + 1 < 64) (hn : n ≤ 18) (hsub : τ 195 6 = nI n) (h1 : ∀ i row υ, r = .inr (i, cs, row) → Fg (mL2 at0) τ υ → mTk υ t b i → i ≤ N → υ 212 at0 = row.1 → zOm n row.2.1 (υ 212 (at0 + 1)) → Q 0 υ) (h0 : ∀ υ, mFa σ t b r υ → Q (-1) υ) (hr : ple n (tkk t b) j cs = some r) (hb : tkk t b j = 10017) (hF : Fg mX σ τ) (hk : mTk τ t b j) (hj : j ≤ N) : zI1 (d + 5) 213 [.ref 195, .int (nI at0)] τ Q := by
  have hraw : ∀ q i υ, r = .inl (q, i) → Fg mX σ υ → υ 195 29 = nI q → υ 195 30 = nI (tks t b i) → mFa σ t b r υ := fun q i υ e1 e2 e3 e4 => ⟨q, i, e1, e2, e3, e4⟩
  have hFX : ∀ υ, Fg (mL2 at0) τ υ → Fg mX σ υ := fun υ x => hF.tr (x.sub (fun a b z => z.elim mR_X (fun y => by unfold mX; omega)))
  have hX212 : mX 212 at0 := by unfold mX; omega
  unfold ple at hr
  have key : ∀ υ, (if 10019 ≤ tkk t b (j + 4) ∧ tkk t b (j + 4) ≤ 10024 then (if tkk t b (j + 4) = 10019 then pnum (tkk t b) (j + 5) 12 (fun a => ptl (tkk t b) cs (tkk t b (j + 1)) 0 (tkk t b (j + 3)) a (j + 6)) else ptl (tkk t b) cs (tkk t b (j + 1)) (tkk t b (j + 4) - 10019) (tkk t b (j + 3)) 0 (j + 5)) else some (.inl (1, j + 4))) = some r → Fg (mL2 at0) τ υ → mTk υ t b (j + 4) → j + 4 ≤ N → υ 212 at0 = nI (tkk t b (j + 1)) → tkk t b (j + 3) < n → zk (d + 5) 213 49 [.ref 195, .int (nI at0), .int (nI (tkk t b (j + 3))), zun, zun, zun] [] υ (fun r t => ∃ v, r = some v ∧ Q v t) := by
    intro υ hr x y hj4 hday hs
    have hkd := y.2.2.2
    by_cases c : 10019 ≤ tkk t b (j + 4) ∧ tkk t b (j + 4) ≤ 10024
    · rw [if_pos c] at hr
      have hj5 := mEn_lt hE hj4 (by omega)
      have e14 : υ 195 14 = 2 ∧ υ 195 15 = nI (tkk t b (j + 4) - 10000) := by
        rcases hkd with ⟨h, e1, e2⟩ | ⟨q, hq, h, e1, e2⟩ | ⟨q, hq, h, e1, e2⟩ | ⟨h, e1⟩ | ⟨h, e1⟩
        · omega
        · refine ⟨e1, ?_⟩
          rw [e2, h, show tkm q = q by unfold tkm; rw [if_neg (by omega), if_neg (by omega), if_neg (by omega)]]
          exact congrArg nI (by omega)
        · omega
        · omega
        · omega
      have hin : ∀ (Q2 : Int32 → zS → Prop), Q2 1 υ → zI1 (d + 4) 164 [.ref 195, .int (nI (tkk t b (j + 4) - 10000)), .int 19, .int 24] υ Q2 := fun Q2 h2 => s_isIn (fun _ _ => h2) (fun z => absurd ⟨(nI_leI (a := 19) (by omega) (by omega)).mpr (by omega), (nI_leI (b := 24) (by omega) (by omega)).mpr (by omega)⟩ z)
      have hrd : ∀ (Q2 : zS → Prop), (∀ ρ, Fg (mL2 at0) τ ρ → mTk ρ t b (j + 5) → ρ 212 at0 = nI (tkk t b (j + 1)) → Q2 ρ) → zV1 (d + 4) 193 [.ref 195] υ Q2 := fun Q2 h2 => s_readn (d := d + 2) y (fun ρ z1 z2 => h2 ρ (x.tr (z1.sub (fun a b => Or.inl))) z2 ((z1 212 at0 (by unfold mR; omega)).trans hday))
      by_cases c2 : tkk t b (j + 4) = 10019
      · rw [if_pos c2] at hr
        rw [c2] at e14 hin
        have htl := fun ρ a u5 hr2 z1 z2 z3 z4 ha => l_mtl (d := d) (cs := cs) (w := 0) (day := tkk t b (j + 1)) (who := tkk t b (j + 3)) (a := a) (i := j + 6) (τ0 := τ) (τ := ρ) (u5 := u5) hE hat hat2 h1 h0 hr2 hF z1 z2 z3 z4 (by decide) ha hs hn
        refine r_al0 zi_213_49 rfl ?_
        refine q_getIe zi_213_50 rfl cf_195_14 (v := 2) (by first | exact e14.1 | ((repeat (first | rw [zup_ne (by first | decide | omega)] | rw [zup_nj (by first | decide | omega)] | rw [fil_ne (by first | decide | omega)])) <;> exact e14.1) | (simp [up_rd, fil_rd]; exact e14.1)) ?_
        refine r_push zi_213_53 rfl ?_
        refine r_ic1 zi_213_54 rfl (fun c => absurd (by decide) c) (fun _ => ?_)
        refine r_al0 zi_213_57 rfl ?_
        refine r_al0 zi_213_58 rfl ?_
        refine q_getIe zi_213_59 rfl cf_195_15 (v := nI (10019 - 10000)) (by first | exact e14.2 | ((repeat (first | rw [zup_ne (by first | decide | omega)] | rw [zup_nj (by first | decide | omega)] | rw [fil_ne (by first | decide | omega)])) <;> exact e14.2) | (simp [up_rd, fil_rd]; exact e14.2)) ?_
        refine r_push zi_213_62 rfl ?_
        refine r_push zi_213_64 rfl ?_
        refine q_cIV zi_213_66 rfl rfl rfl rfl rfl rfl rfl cf_195_0.ob (hin _ ?_)
        show zk _ _ 69 _ _ _ _
        refine r_if1 zi_213_69 rfl (fun _ => ?_) (fun c => absurd c (by decide))
        refine r_al0 zi_213_78 rfl ?_
        refine q_getIe zi_213_79 rfl cf_195_15 (v := nI (10019 - 10000)) (by first | exact e14.2 | ((repeat (first | rw [zup_ne (by first | decide | omega)] | rw [zup_nj (by first | decide | omega)] | rw [fil_ne (by first | decide | omega)])) <;> exact e14.2) | (simp [up_rd, fil_rd]; exact e14.2)) ?_
        refine r_push zi_213_82 rfl ?_
        refine r_b1 zi_213_84 rfl ?_
        rw [show (nI (10019 - 10000) - 19 : Int32) = nI (10019 - 10000 - 19) from pk_sub (a := 10019 - 10000) (b := 19) (by omega)]
        refine r_is3 zi_213_85 rfl ?_
        refine r_al0 zi_213_86 rfl ?_
        refine q_cVV zi_213_87 rfl rfl rfl rfl rfl rfl rfl cf_195_0.ob (hrd _ (fun ρ z1 z2 z3 => ?_))
        show zk _ _ 90 _ _ _ _
        refine r_il3 zi_213_90 rfl ?_
        refine n_if1 (i := (10019 - 10000 - 19)) zi_213_91 rfl (by omega) (fun c => absurd c (by omega)) (fun _ => ?_)
        refine r_al0 zi_213_94 rfl ?_
        refine r_push zi_213_95 rfl ?_
        refine r_push zi_213_96 rfl ?_
        refine q_cIV zi_213_98 rfl rfl rfl rfl rfl rfl rfl cf_195_0.ob (s_mnum (d := d + 1) (mo := 11) (m := 12) (Q := fun _ υ => mFa σ t b r υ) hraw hE (hm_c (m := 12) (by decide) (by decide)) hr (hFX ρ z1) z2 hj5 (fun ω e a1 a2 w1 w2 w3 => ?_) (fun ω bad => ?_))
        · show zk _ _ 101 _ _ _ _
          refine r_goto zi_213_101 rfl ?_
          refine r_is4 zi_213_105 rfl ?_
          refine r_il4 zi_213_107 rfl ?_
          refine r_push zi_213_109 rfl ?_
          refine r_ic1 zi_213_110 rfl (fun _ => ?_) (fun c => absurd c (nI_m1 (by omega)))
          exact htl ω (tkk t b (j + 5)) _ e (z1.tr (w1.sub (fun a b => Or.inl))) w2 w3 ((w1 212 at0 (by unfold mR; omega)).trans z3) a2
        · show zk _ _ 101 _ _ _ _
          refine r_goto zi_213_101 rfl ?_
          refine r_is4 zi_213_105 rfl ?_
          refine r_il4 zi_213_107 rfl ?_
          refine r_push zi_213_109 rfl ?_
          refine r_ic1 zi_213_110 rfl (fun c => absurd (by decide) c) (fun _ => ?_)
          refine r_push zi_213_113 rfl ?_
          refine r_retI zi_213_114 rfl ?_
          exact ⟨_, rfl, h0 ω bad⟩
      · rw [if_neg c2] at hr
        have htl := fun ρ u5 z1 z2 z4 => l_mtl (d := d) (cs := cs) (w := tkk t b (j + 4) - 10019) (day := tkk t b (j + 1)) (who := tkk t b (j + 3)) (a := 0) (i := j + 5) (τ0 := τ) (τ := ρ) (u5 := u5) hE hat hat2 h1 h0 hr hF z1 z2 hj5 z4 (by omega) (by decide) hs hn
        have e19 : tkk t b (j + 4) - 10000 - 19 = tkk t b (j + 4) - 10019 := by omega
        refine r_al0 zi_213_49 rfl ?_
        refine q_getIe zi_213_50 rfl cf_195_14 (v := 2) (by first | exact e14.1 | ((repeat (first | rw [zup_ne (by first | decide | omega)] | rw [zup_nj (by first | decide | omega)] | rw [fil_ne (by first | decide | omega)])) <;> exact e14.1) | (simp [up_rd, fil_rd]; exact e14.1)) ?_
        refine r_push zi_213_53 rfl ?_
        refine r_ic1 zi_213_54 rfl (fun c => absurd (by decide) c) (fun _ => ?_)
        refine r_al0 zi_213_57 rfl ?_
        refine r_al0 zi_213_58 rfl ?_
        refine q_getIe zi_213_59 rfl cf_195_15 (v := nI (tkk t b (j + 4) - 10000)) (by first | exact e14.2 | ((repeat (first | rw [zup_ne (by first | decide | omega)] | rw [zup_nj (by first | decide | omega)] | rw [fil_ne (by first | decide | omega)])) <;> exact e14.2) | (simp [up_rd, fil_rd]; exact e14.2)) ?_
        refine r_push zi_213_62 rfl ?_
        refine r_push zi_213_64 rfl ?_
        refine q_cIV zi_213_66 rfl rfl rfl rfl rfl rfl rfl cf_195_0.ob (hin _ ?_)
        show zk _ _ 69 _ _ _ _
        refine r_if1 zi_213_69 rfl (fun _ => ?_) (fun c => absurd c (by decide))
        refine r_al0 zi_213_78 rfl ?_
        refine q_getIe zi_213_79 rfl cf_195_15 (v := nI (tkk t b (j + 4) - 10000)) (by first | exact e14.2 | ((repeat (first | rw [zup_ne (by first | decide | omega)] | rw [zup_nj (by first | decide | omega)] | rw [fil_ne (by first | decide | omega)])) <;> exact e14.2) | (simp [up_rd, fil_rd]; exact e14.2)) ?_
        refine r_push zi_213_82 rfl ?_
        refine r_b1 zi_213_84 rfl ?_
        rw [show (nI (tkk t b (j + 4) - 10000) - 19 : Int32) = nI (tkk t b (j + 4) - 10000 - 19) from pk_sub (a := tkk t b (j + 4) - 10000) (b := 19) (by omega)]
        refine r_is3 zi_213_85 rfl ?_
        refine r_al0 zi_213_86 rfl ?_
        refine q_cVV zi_213_87 rfl rfl rfl rfl rfl rfl rfl cf_195_0.ob (hrd _ (fun ρ z1 z2 z3 => ?_))
        show zk _ _ 90 _ _ _ _
        refine r_il3 zi_213_90 rfl ?_
        refine n_if1 (i := (tkk t b (j + 4) - 10000 - 19)) zi_213_91 rfl (by omega) (fun _ => ?_) (fun c => absurd c (by omega))
        refine r_push zi_213_104 rfl ?_
        refine r_is4 zi_213_105 rfl ?_
        refine r_il4 zi_213_107 rfl ?_
        refine r_push zi_213_109 rfl ?_
        refine r_ic1 zi_213_110 rfl (fun _ => ?_) (fun c => absurd c (by decide))
        rw [e19]; exact htl ρ _ z1 z2 z3
    · rw [if_neg c] at hr
      have herr : ∀ (Q3 : Int32 → zS → Prop), (∀ ω, Q (-1) ω → Q3 (-1) ω) → zI1 (d + 4) 194 [.ref 195, .int 1] υ Q3 := fun Q3 h2 => s_err (n := 1) y (fun ω z1 z2 z3 => h2 ω (h0 ω ⟨1, j + 4, (Option.some.inj hr).symm, (hFX υ x).tr (z1.sub (fun a b => mA_X)), z2, z3⟩))
      by_cases c2 : υ 195 14 = 2
      · have hin : ∀ (Q2 : Int32 → zS → Prop), Q2 0 υ → zI1 (d + 4) 164 [.ref 195, .int (υ 195 15), .int 19, .int 24] υ Q2 := fun Q2 h2 => by
          rcases hkd with ⟨h, e1, e2⟩ | ⟨q, hq, h, e1, e2⟩ | ⟨q, hq, h, e1, e2⟩ | ⟨h, e1⟩ | ⟨h, e1⟩
          · rw [e1] at c2; exact absurd c2 (by decide)
          · have hbq := tkm_b hq
            have hno : ¬ (19 ≤ tkm q ∧ tkm q ≤ 24) := by unfold tkm; (repeat' split) <;> omega
            rw [e2]
            exact s_isIn (fun z1 z2 => absurd ⟨(nI_leI (a := 19) (by omega) (by omega)).mp z1, (nI_leI (b := 24) (by omega) (by omega)).mp z2⟩ hno) (fun _ => h2)
          · rw [e1] at c2; exact absurd c2 (by decide)
          · rw [e1] at c2; exact absurd c2 (by decide)
          · rw [e1] at c2; exact absurd c2 (by decide)
        refine r_al0 zi_213_49 rfl ?_
        refine q_getIe zi_213_50 rfl cf_195_14 (v := 2) (by first | exact c2 | ((repeat (first | rw [zup_ne (by first | decide | omega)] | rw [zup_nj (by first | decide | omega)] | rw [fil_ne (by first | decide | omega)])) <;> exact c2) | (simp [up_rd, fil_rd]; exact c2)) ?_
        refine r_push zi_213_53 rfl ?_
        refine r_ic1 zi_213_54 rfl (fun c => absurd (by decide) c) (fun _ => ?_)
        refine r_al0 zi_213_57 rfl ?_
        refine r_al0 zi_213_58 rfl ?_
        refine q_getI zi_213_59 rfl cf_195_15 ?_
        refine r_push zi_213_62 rfl ?_
        refine r_push zi_213_64 rfl ?_
        refine q_cIV zi_213_66 rfl rfl rfl rfl rfl rfl rfl cf_195_0.ob (hin _ ?_)
        show zk _ _ 69 _ _ _ _
        refine r_if1 zi_213_69 rfl (fun c => absurd (by decide) c) (fun _ => ?_)
        refine r_al0 zi_213_72 rfl ?_
        refine r_push zi_213_73 rfl ?_
        refine q_cIV zi_213_74 rfl rfl rfl rfl rfl rfl rfl cf_195_0.ob (herr _ (fun ω fin => ?_))
        show zk _ _ 77 _ _ _ _
        refine r_retI zi_213_77 rfl ?_
        exact ⟨_, rfl, fin⟩
      · refine r_al0 zi_213_49 rfl ?_
        refine q_getI zi_213_50 rfl cf_195_14 ?_
        refine r_push zi_213_53 rfl ?_
        refine r_ic1 zi_213_54 rfl (fun _ => ?_) (fun c => absurd c c2)
        refine r_al0 zi_213_72 rfl ?_
        refine r_push zi_213_73 rfl ?_
        refine q_cIV zi_213_74 rfl rfl rfl rfl rfl rfl rfl cf_195_0.ob (herr _ (fun ω fin => ?_))
        show zk _ _ 77 _ _ _ _
        refine r_retI zi_213_77 rfl ?_
        exact ⟨_, rfl, fin⟩
  have hsb : ∀ υ (v : Int32), Fg mR τ υ → up υ 212 at0 v 195 6 = nI n := fun υ v x => (zup_ne (by decide)).trans ((x 195 6 (by unfold mR; omega)).trans hsub)
  have hL2 : ∀ υ (v : Int32), Fg mR τ υ → Fg (mL2 at0) τ (up υ 212 at0 v) := fun υ v x => (x.sub (fun a b => Or.inl)).put (Or.inr ⟨rfl, Or.inl rfl⟩)
  have hmu : ∀ υ (v : Int32) i, mTk υ t b i → mTk (up υ 212 at0 v) t b i := fun υ v i y => mTk_f y (fun q _ _ => zup_ne (by decide)) (fun q => zup_ne (by decide)) (fun q => zup_ne (by decide))
  show zk _ _ 0 [.ref 195, .int (nI at0), zun, zun, zun, zun] [] _ _
  refine r_al0 zi_213_0 rfl ?_
  refine q_getR zi_213_1 rfl cf_195_34 ?_
  refine r_il1 zi_213_4 rfl ?_
  refine r_al0 zi_213_5 rfl ?_
  refine r_push zi_213_6 rfl ?_
  refine r_push zi_213_8 rfl ?_
  refine r_push zi_213_9 rfl ?_
  refine q_cIV zi_213_12 rfl rfl rfl rfl rfl rfl rfl cf_195_0.ob (s_mtold (d := d) (w := 17) (mo := 999) (m := 1000) (Q := fun _ υ => mFa σ t b r υ) hraw hE rfl (by decide) (hm_c (m := 1000) (by decide) (by decide)) ((pkw_i hb).trans hr) hF hk hj (fun υ hr2 a1 a2 x1 x2 x3 => ?_) (fun υ bad => ?_))
  · show zk _ _ 15 _ _ _ _
    refine r_ast zi_213_15 rfl at0 ca_212 (by first | rfl | (simp only [zI_add, zI_mul] <;> rfl)) (by first | omega | decide) ?_
    refine r_al0 zi_213_16 rfl ?_
    refine q_getR zi_213_17 rfl cf_195_34 ?_
    refine r_il1 zi_213_20 rfl ?_
    refine r_alde zi_213_21 rfl at0 ca_212 (by first | rfl | (simp only [zI_add, zI_mul] <;> rfl)) (by first | omega | decide) (u := nI (tkk t b (j + 1))) (by first | exact zup_eq | ((repeat (first | rw [zup_ne (by first | decide | omega)] | rw [zup_nj (by first | decide | omega)] | rw [fil_ne (by first | decide | omega)])) <;> exact zup_eq) | (simp [up_rd, fil_rd]; exact zup_eq)) ?_
    refine r_push zi_213_22 rfl ?_
    refine r_ic1 zi_213_23 rfl (fun _ => ?_) (fun c => absurd c (nI_m1 (by omega)))
    refine r_al0 zi_213_28 rfl ?_
    refine r_push zi_213_29 rfl ?_
    refine r_push zi_213_31 rfl ?_
    refine r_al0 zi_213_32 rfl ?_
    refine q_getIe zi_213_33 rfl cf_195_6 (v := nI n) (by first | exact hsb υ _ x1 | ((repeat (first | rw [zup_ne (by first | decide | omega)] | rw [zup_nj (by first | decide | omega)] | rw [fil_ne (by first | decide | omega)])) <;> exact hsb υ _ x1) | (simp [up_rd, fil_rd]; exact hsb υ _ x1)) ?_
    refine r_push zi_213_36 rfl ?_
    refine r_b1 zi_213_37 rfl ?_
    refine q_cIV zi_213_38 rfl rfl rfl rfl rfl rfl rfl cf_195_0.ob (s_mtold (d := d) (w := 18) (mo := nI n - 1) (m := n) (Q := fun _ υ => mFa σ t b r υ) hraw hE rfl (by decide) (hm_s hn) hr2 (hFX _ (hL2 υ _ x1)) (hmu υ _ _ x2) x3 (fun ρ hr4 b1 b2 y1 y2 y3 => ?_) (fun ρ bad => ?_))
    · show zk _ _ 41 _ _ _ _
      refine r_is2 zi_213_41 rfl ?_
      refine r_il2 zi_213_42 rfl ?_
      refine r_push zi_213_43 rfl ?_
      refine r_ic1 zi_213_44 rfl (fun _ => ?_) (fun c => absurd c (nI_m1 (by omega)))
      exact key ρ hr4 ((hL2 υ _ x1).tr (y1.sub (fun a b => Or.inl))) y2 y3 ((y1 212 at0 (by unfold mR; omega)).trans zup_eq) b2
    · show zk _ _ 41 _ _ _ _
      refine r_is2 zi_213_41 rfl ?_
      refine r_il2 zi_213_42 rfl ?_
      refine r_push zi_213_43 rfl ?_
      refine r_ic1 zi_213_44 rfl (fun c => absurd (by decide) c) (fun _ => ?_)
      refine r_push zi_213_47 rfl ?_
      refine r_retI zi_213_48 rfl ?_
      exact ⟨_, rfl, h0 ρ bad⟩
  · show zk _ _ 15 _ _ _ _
    refine r_ast zi_213_15 rfl at0 ca_212 (by first | rfl | (simp only [zI_add, zI_mul] <;> rfl)) (by first | omega | decide) ?_
    refine r_al0 zi_213_16 rfl ?_
    refine q_getR zi_213_17 rfl cf_195_34 ?_
    refine r_il1 zi_213_20 rfl ?_
    refine r_alde zi_213_21 rfl at0 ca_212 (by first | rfl | (simp only [zI_add, zI_mul] <;> rfl)) (by first | omega | decide) (u := -1) (by first | exact zup_eq | ((repeat (first | rw [zup_ne (by first | decide | omega)] | rw [zup_nj (by first | decide | omega)] | rw [fil_ne (by first | decide | omega)])) <;> exact zup_eq) | (simp [up_rd, fil_rd]; exact zup_eq)) ?_
    refine r_push zi_213_22 rfl ?_
    refine r_ic1 zi_213_23 rfl (fun c => absurd (by decide) c) (fun _ => ?_)
    refine r_push zi_213_26 rfl ?_
    refine r_retI zi_213_27 rfl ?_
    exact ⟨_, rfl, h0 _ (mFa_put bad hX212 (by decide))⟩

