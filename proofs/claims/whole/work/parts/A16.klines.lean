/-! LINES in the class: ledger, tide, roads -/
theorem nI_m1 {k : Nat} (h : k < 2 ^ 31) : ¬ nI k = -1 := fun z => absurd (nI_pos' h) (by rw [z]; decide)
theorem nI_in5 {k c hi : Nat} (hk : k < 2 ^ 30) (hc : c < 2 ^ 30) (hh : hi < 2 ^ 30) : (0 ≤ nI k - nI c ∧ nI k - nI c ≤ nI hi) ↔ (c ≤ k ∧ k ≤ c + hi) := by
  by_cases h : c ≤ k
  · rw [pk_sub h]
    have h1 := nI_pos' (n := k - c) (by omega)
    have h2 := nI_leI (a := k - c) (b := hi) (by omega) (by omega)
    constructor
    · intro z; have := h2.mp z.2; omega
    · intro z; exact ⟨h1, h2.mpr (by omega)⟩
  · have := pk_sneg (a := k) (b := c) hc (by omega)
    constructor
    · intro z; exact absurd z.1 (by grind)
    · intro z; omega
theorem hm_c {m : Nat} (hm : 0 < m) (hb : m < 2 ^ 30) : ∀ q, q ≤ 30001 → (nI q ≤ nI (m - 1) ↔ q < m) := fun q hq => by
  rw [nI_leI (by omega) (by omega)]; omega
theorem hm_s {n : Nat} (hn : n ≤ 18) : ∀ q, q ≤ 30001 → (nI q ≤ nI n - 1 ↔ q < n) := fun q hq => by
  by_cases h : n = 0
  · subst h
    have h1 := nI_pos' (n := q) (by omega)
    constructor
    · intro z
      have e : nI 0 - 1 = -1 := by decide
      rw [e] at z
      exact absurd z (by grind)
    · intro z; omega
  · rw [show (nI n - 1 : Int32) = nI (n - 1) from pk_sub (a := n) (b := 1) (by omega), nI_leI (by omega) (by omega)]; omega
theorem s_packed {d w s a g : Nat} {σ : zS} {Q : Int32 → zS → Prop} (hg : g ≤ 1) (hq : Q (pok1 w s a g) σ) : zI1 d 162 [.int (nI w), .int (nI s), .int (nI a), .int (nI g)] σ Q := by
  show zk _ _ 0 [.int (nI w), .int (nI s), .int (nI a), .int (nI g)] [] _ _
  unfold pok1 at hq
  by_cases h : g = 0
  · subst h
    refine r_il0 zi_162_0 rfl ?_
    refine r_push zi_162_1 rfl ?_
    refine r_il2 zi_162_3 rfl ?_
    refine r_b2 zi_162_4 rfl ?_
    rw [show (10 * nI a : Int32) = nI (10 * a) from pk_mul _ _]
    refine r_b0 zi_162_5 rfl ?_
    rw [show (nI w + nI (10 * a) : Int32) = nI (w + (10 * a)) from nI_add _ _]
    refine r_push zi_162_6 rfl ?_
    refine r_il1 zi_162_9 rfl ?_
    refine r_b2 zi_162_10 rfl ?_
    rw [show (1000 * nI s : Int32) = nI (1000 * s) from pk_mul _ _]
    refine r_b0 zi_162_11 rfl ?_
    rw [show (nI (w + (10 * a)) + nI (1000 * s) : Int32) = nI ((w + (10 * a)) + (1000 * s)) from nI_add _ _]
    refine r_il3 zi_162_12 rfl ?_
    refine n_if0 (i := 0) zi_162_13 rfl (by omega) (fun _ => ?_) (fun c => absurd c (by omega))
    refine r_push zi_162_22 rfl ?_
    refine r_b0 zi_162_23 rfl ?_
    rw [show (nI ((w + (10 * a)) + (1000 * s)) + 0 : Int32) = nI (((w + (10 * a)) + (1000 * s)) + 0) from nI_add _ _]
    refine r_retI zi_162_24 rfl ?_
    exact ⟨_, rfl, hq⟩
  · have e : g = 1 := by omega
    subst e
    refine r_il0 zi_162_0 rfl ?_
    refine r_push zi_162_1 rfl ?_
    refine r_il2 zi_162_3 rfl ?_
    refine r_b2 zi_162_4 rfl ?_
    rw [show (10 * nI a : Int32) = nI (10 * a) from pk_mul _ _]
    refine r_b0 zi_162_5 rfl ?_
    rw [show (nI w + nI (10 * a) : Int32) = nI (w + (10 * a)) from nI_add _ _]
    refine r_push zi_162_6 rfl ?_
    refine r_il1 zi_162_9 rfl ?_
    refine r_b2 zi_162_10 rfl ?_
    rw [show (1000 * nI s : Int32) = nI (1000 * s) from pk_mul _ _]
    refine r_b0 zi_162_11 rfl ?_
    rw [show (nI (w + (10 * a)) + nI (1000 * s) : Int32) = nI ((w + (10 * a)) + (1000 * s)) from nI_add _ _]
    refine r_il3 zi_162_12 rfl ?_
    refine n_if0 (i := 1) zi_162_13 rfl (by omega) (fun c => absurd c (by omega)) (fun _ => ?_)
    refine r_push zi_162_16 rfl ?_
    refine r_goto zi_162_19 rfl ?_
    refine r_b0 zi_162_23 rfl ?_
    rw [show (nI ((w + (10 * a)) + (1000 * s)) + 100000 : Int32) = nI (((w + (10 * a)) + (1000 * s)) + 100000) from nI_add _ _]
    refine r_retI zi_162_24 rfl ?_
    exact ⟨_, rfl, hq⟩
theorem s_taddx {d : Nat} {τ : zS} {Q : zS → Prop} {a b c e : Int32} (hq : ∀ υ, Fg (fun p q => p = 173 ∨ p = 174) τ υ → Q υ) : zV1 (d + 1) 96 [.ref 173, .int a, .int b, .int c, .int e] τ Q := by
  show zk _ _ 0 [.ref 173, .int a, .int b, .int c, .int e, zun] [] _ _
  have hfu : ∀ (Q2 : Int32 → zS → Prop), (16 ≤ τ 173 2 → Q2 1 τ) → (¬ 16 ≤ τ 173 2 → Q2 0 τ) → zI1 d 95 [.ref 173] τ Q2 := fun Q2 h1 h0 => by
    show zk _ _ 0 [.ref 173] [] _ _
    refine r_al0 zi_95_0 rfl ?_
    refine q_getI zi_95_1 rfl cf_173_2 ?_
    refine r_push zi_95_4 rfl ?_
    refine r_ic2 zi_95_6 rfl (fun c1 => ?_) (fun c1 => ?_)
    · refine r_push zi_95_13 rfl ?_
      refine r_retZ zi_95_14 rfl (by decide) ?_
      first | exact ⟨_, rfl, h1 (by grind)⟩ | exact ⟨_, rfl, h0 (by grind)⟩
    · refine r_push zi_95_9 rfl ?_
      refine r_goto zi_95_10 rfl ?_
      refine r_retZ zi_95_14 rfl (by decide) ?_
      first | exact ⟨_, rfl, h1 (by grind)⟩ | exact ⟨_, rfl, h0 (by grind)⟩
  rcases pk_ix (τ 173 2) (n := 16) (by decide) with h | h | ⟨q, hn, h⟩
  · refine r_al0 zi_96_0 rfl ?_
    refine q_getI zi_96_1 rfl cf_173_2 ?_
    refine r_if2 zi_96_4 rfl (fun _ => ?_) (fun c => absurd h c)
    refine r_ret zi_96_14 rfl ?_
    exact ⟨rfl, hq _ Fg.rf⟩
  · have hnn : ¬ τ 173 2 < 0 := fun z => by have : (16 : Int32) ≤ τ 173 2 := h; grind
    refine r_al0 zi_96_0 rfl ?_
    refine q_getI zi_96_1 rfl cf_173_2 ?_
    refine r_if2 zi_96_4 rfl (fun c => absurd c hnn) (fun _ => ?_)
    refine r_al0 zi_96_7 rfl ?_
    refine q_cIV zi_96_8 rfl rfl rfl rfl rfl rfl rfl cf_173_0.ob (hfu _ (fun _ => ?_) (fun z => absurd h z))
    show zk _ _ 11 _ _ _ _
    refine r_if0 zi_96_11 rfl (fun c => absurd c (by decide)) (fun _ => ?_)
    refine r_ret zi_96_14 rfl ?_
    exact ⟨rfl, hq _ Fg.rf⟩
  · have h16 : ¬ 16 ≤ τ 173 2 := fun z => by rw [h] at z; have := nI_lt (a := q) (b := 16) hn (by decide); change nI q < 16 at this; grind
    refine r_al0 zi_96_0 rfl ?_
    refine q_getIe zi_96_1 rfl cf_173_2 (v := nI q) (by first | exact h | ((repeat (first | rw [zup_ne (by first | decide | omega)] | rw [zup_nj (by first | decide | omega)] | rw [fil_ne (by first | decide | omega)])) <;> exact h) | (simp [up_rd, fil_rd]; exact h)) ?_
    refine n_if2 (i := q) zi_96_4 rfl (by omega) (fun c => absurd c (by omega)) (fun _ => ?_)
    refine r_al0 zi_96_7 rfl ?_
    refine q_cIV zi_96_8 rfl rfl rfl rfl rfl rfl rfl cf_173_0.ob (hfu _ (fun z => absurd z h16) (fun _ => ?_))
    show zk _ _ 11 _ _ _ _
    refine r_if0 zi_96_11 rfl (fun _ => ?_) (fun c => absurd (by decide) c)
    refine r_al0 zi_96_15 rfl ?_
    refine q_getIe zi_96_16 rfl cf_173_2 (v := nI q) (by first | exact h | ((repeat (first | rw [zup_ne (by first | decide | omega)] | rw [zup_nj (by first | decide | omega)] | rw [fil_ne (by first | decide | omega)])) <;> exact h) | (simp [up_rd, fil_rd]; exact h)) ?_
    refine r_push zi_96_19 rfl ?_
    refine r_b2 zi_96_20 rfl ?_
    rw [show (nI q * 4 : Int32) = nI (q * 4) from pk_mul _ _]
    refine r_is5 zi_96_21 rfl ?_
    refine r_al0 zi_96_23 rfl ?_
    refine q_getR zi_96_24 rfl cf_173_0 ?_
    refine r_il5 zi_96_27 rfl ?_
    refine r_il1 zi_96_29 rfl ?_
    refine r_ast zi_96_30 rfl (q * 4) ca_174 (by first | rfl | (simp only [zI_add, zI_mul] <;> rfl)) (by first | omega | decide) ?_
    refine r_al0 zi_96_31 rfl ?_
    refine q_getR zi_96_32 rfl cf_173_0 ?_
    refine r_il5 zi_96_35 rfl ?_
    refine r_push zi_96_37 rfl ?_
    refine r_b0 zi_96_38 rfl ?_
    rw [show (nI (q * 4) + 1 : Int32) = nI ((q * 4) + 1) from nI_add _ _]
    refine r_il2 zi_96_39 rfl ?_
    refine r_ast zi_96_40 rfl ((q * 4) + 1) ca_174 (by first | rfl | (simp only [zI_add, zI_mul] <;> rfl)) (by first | omega | decide) ?_
    refine r_al0 zi_96_41 rfl ?_
    refine q_getR zi_96_42 rfl cf_173_0 ?_
    refine r_il5 zi_96_45 rfl ?_
    refine r_push zi_96_47 rfl ?_
    refine r_b0 zi_96_48 rfl ?_
    rw [show (nI (q * 4) + 2 : Int32) = nI ((q * 4) + 2) from nI_add _ _]
    refine r_il3 zi_96_49 rfl ?_
    refine r_ast zi_96_50 rfl ((q * 4) + 2) ca_174 (by first | rfl | (simp only [zI_add, zI_mul] <;> rfl)) (by first | omega | decide) ?_
    refine r_al0 zi_96_51 rfl ?_
    refine q_getR zi_96_52 rfl cf_173_0 ?_
    refine r_il5 zi_96_55 rfl ?_
    refine r_push zi_96_57 rfl ?_
    refine r_b0 zi_96_58 rfl ?_
    rw [show (nI (q * 4) + 3 : Int32) = nI ((q * 4) + 3) from nI_add _ _]
    refine r_il4 zi_96_59 rfl ?_
    refine r_ast zi_96_61 rfl ((q * 4) + 3) ca_174 (by first | rfl | (simp only [zI_add, zI_mul] <;> rfl)) (by first | omega | decide) ?_
    refine r_al0 zi_96_62 rfl ?_
    refine r_dupR zi_96_63 rfl ?_
    refine q_getI zi_96_64 rfl cf_173_2 ?_
    refine r_push zi_96_67 rfl ?_
    refine r_b0 zi_96_68 rfl ?_
    refine q_put zi_96_69 rfl cf_173_2 rfl ?_
    refine r_ret zi_96_72 rfl ?_
    exact ⟨rfl, hq _ (((((Fg.rf.put (Or.inr rfl)).put (Or.inr rfl)).put (Or.inr rfl)).put (Or.inr rfl)).put (Or.inl rfl))⟩
theorem l_ktl {d N i n w who day a : Nat} {σ τ : zS} {Q : Int32 → zS → Prop} {K S : Nat → Nat} {cs : List Nat} {rows : List pRw} {r : (Nat × Nat) ⊕ (Nat × List Nat × pRw)} {u5 : Value} (h1 : ∀ i ds row υ, r = .inr (i, ds, row) → Fg pX σ υ → kLn υ K S N i ds (rows ++ [row]) n → Q 1 υ) (h0 : ∀ n i υ, r = .inl (n, i) → Fg (pF pX) σ υ → υ 170 4 = nI n → υ 170 5 = nI (S i) → Q 0 υ) (hr : ptl K cs day w who a i = some r) (hF : Fg pX σ τ) (hk : kLn τ K S N i cs rows n) (hl : rows.length < 16) (hw : w ≤ 5) (ha : a < 12) : zk (d + 2) 38 129 [.ref 169, .int (nI day), .int (nI who), .int (nI w), .int (nI a), u5] [] τ (fun r t => ∃ v, r = some v ∧ Q v t) := by
  have h5 := hk.1.2.2.2.2.1
  have hb := tko_b (hk.1.2.2.2.2.2.2 i)
  have htok : ∀ (Q2 : Int32 → zS → Prop), Q2 (nI (K i)) τ → zI1 (d + 1) 103 [.ref 170] τ Q2 := fun Q2 h2 => s_tok hk.1 h2
  have hzo : (0 : Int32) = 0 ∨ (0 : Int32) = 1 := Or.inl rfl
  unfold ptl at hr
  by_cases g : w ≠ 5 ∧ K i = 10025
  · rw [if_pos g] at hr
    have hin := kTk_ne hk.1 (by omega)
    have hkn : kLn (up τ 170 3 (nI (i + 1))) K S N (i + 1) cs rows n := kLn_n hk (fun a b hp => zup_n2 (by omega)) zup_eq (by omega) hin
    have hpk : ∀ (Q2 : Int32 → zS → Prop), Q2 (pok1 w who a 1) (up τ 170 3 (nI (i + 1))) → zI1 (d + 1) 162 [.int (nI w), .int (nI who), .int (nI a), .int 1] (up τ 170 3 (nI (i + 1))) Q2 := fun Q2 h2 => s_packed (g := 1) (by decide) h2
    have had := fun (Q2 : zS → Prop) k1 => s_kadd (d := d) (Q2 := Q2) (a := nI day) (b := pok1 w who a 1) (c := 0) (e := 0) (hF.put (by unfold pX; omega)) hkn hl k1
    have htk := fun υ (x1 : Fg pX σ υ) (x2 : kLn υ K S N (i + 1) cs (rows ++ [(nI day, pok1 w who a 1, 0, 0)]) n) (Q2 : Int32 → zS → Prop) k1 k0 => s_ktake (d := d) (Q2 := Q2) (vv := 20059) h0 rfl (by decide) hr x1 x2 k1 k0
    have hw5 := g.1
    rw [g.2] at htok
    generalize pok1 w who a 1 = pk at *
    refine r_il3 zi_38_129 rfl ?_
    refine r_push zi_38_130 rfl ?_
    refine n_ic0 (i := w) (j := 5) zi_38_131 rfl (by omega) (by omega) (fun c => absurd c (by omega)) (fun _ => ?_)
    refine r_al0 zi_38_134 rfl ?_
    refine q_getR zi_38_135 rfl cf_169_0 ?_
    refine q_cIV zi_38_138 rfl rfl rfl rfl rfl rfl rfl cf_170_0.ob (htok _ ?_)
    show zk _ _ 141 _ _ _ _
    refine r_push zi_38_141 rfl ?_
    refine r_ic1 zi_38_144 rfl (fun c => absurd (by decide) c) (fun _ => ?_)
    refine r_push zi_38_147 rfl ?_
    refine r_goto zi_38_148 rfl ?_
    refine r_is5 zi_38_152 rfl ?_
    refine r_il5 zi_38_154 rfl ?_
    refine r_if0 zi_38_156 rfl (fun c => absurd c (by decide)) (fun _ => ?_)
    refine r_al0 zi_38_159 rfl ?_
    refine q_getR zi_38_160 rfl cf_169_0 ?_
    refine r_dupR zi_38_163 rfl ?_
    refine q_getIe zi_38_164 rfl cf_170_3 (v := nI i) (by first | exact h5 | ((repeat (first | rw [zup_ne (by first | decide | omega)] | rw [zup_nj (by first | decide | omega)] | rw [fil_ne (by first | decide | omega)])) <;> exact h5) | (simp [up_rd, fil_rd]; exact h5)) ?_
    refine r_push zi_38_167 rfl ?_
    refine r_b0 zi_38_168 rfl ?_
    rw [show (nI i + 1 : Int32) = nI (i + 1) from nI_add _ _]
    refine q_put zi_38_169 rfl cf_170_3 rfl ?_
    refine r_al0 zi_38_172 rfl ?_
    refine q_getR zi_38_173 rfl cf_169_1 ?_
    refine r_il1 zi_38_176 rfl ?_
    refine r_il3 zi_38_177 rfl ?_
    refine r_il2 zi_38_178 rfl ?_
    refine r_il4 zi_38_179 rfl ?_
    refine r_il5 zi_38_181 rfl ?_
    refine r_cIS zi_38_183 rfl rfl rfl rfl rfl rfl (hpk _ ?_)
    show zk _ _ 186 _ _ _ _
    refine r_push zi_38_186 rfl ?_
    refine r_push zi_38_187 rfl ?_
    refine q_cVV zi_38_188 rfl rfl rfl rfl rfl rfl rfl cf_173_0.ob (had _ (fun υ x1 x2 => ?_))
    show zk _ _ 191 _ _ _ _
    refine r_al0 zi_38_191 rfl ?_
    refine r_push zi_38_192 rfl ?_
    refine q_cIV zi_38_195 rfl rfl rfl rfl rfl rfl rfl cf_169_0.ob (htk υ x1 x2 _ (fun ρ e y1 y2 => ?_) (fun ρ fin => ?_))
    · show zk _ _ 198 _ _ _ _
      refine r_retZ zi_38_198 rfl (by decide) ?_
      exact ⟨_, rfl, h1 _ _ _ ρ (Option.some.inj e).symm y1 y2⟩
    · show zk _ _ 198 _ _ _ _
      refine r_retZ zi_38_198 rfl (by decide) ?_
      exact ⟨_, rfl, fin⟩
  · rw [if_neg g] at hr
    have hpk : ∀ (Q2 : Int32 → zS → Prop), Q2 (pok1 w who a 0) τ → zI1 (d + 1) 162 [.int (nI w), .int (nI who), .int (nI a), .int 0] τ Q2 := fun Q2 h2 => s_packed (g := 0) (by decide) h2
    have had := fun (Q2 : zS → Prop) k1 => s_kadd (d := d) (Q2 := Q2) (a := nI day) (b := pok1 w who a 0) (c := 0) (e := 0) hF hk hl k1
    have htk := fun υ (x1 : Fg pX σ υ) (x2 : kLn υ K S N i cs (rows ++ [(nI day, pok1 w who a 0, 0, 0)]) n) (Q2 : Int32 → zS → Prop) k1 k0 => s_ktake (d := d) (Q2 := Q2) (vv := 20059) h0 rfl (by decide) hr x1 x2 k1 k0
    generalize pok1 w who a 0 = pk at *
    have g2 : w ≠ 5 → ¬ K i = 10025 := fun z y => g ⟨z, y⟩
    clear hr
    generalize K i = ki at *
    by_cases w5 : w = 5
    · refine r_il3 zi_38_129 rfl ?_
      refine r_push zi_38_130 rfl ?_
      refine n_ic0 (i := w) (j := 5) zi_38_131 rfl (by omega) (by omega) (fun _ => ?_) (fun c => absurd c (by omega))
      refine r_push zi_38_151 rfl ?_
      refine r_is5 zi_38_152 rfl ?_
      refine r_il5 zi_38_154 rfl ?_
      refine r_if0 zi_38_156 rfl (fun _ => ?_) (fun c => absurd (by decide) c)
      refine r_al0 zi_38_172 rfl ?_
      refine q_getR zi_38_173 rfl cf_169_1 ?_
      refine r_il1 zi_38_176 rfl ?_
      refine r_il3 zi_38_177 rfl ?_
      refine r_il2 zi_38_178 rfl ?_
      refine r_il4 zi_38_179 rfl ?_
      refine r_il5 zi_38_181 rfl ?_
      refine r_cIS zi_38_183 rfl rfl rfl rfl rfl rfl (hpk _ ?_)
      show zk _ _ 186 _ _ _ _
      refine r_push zi_38_186 rfl ?_
      refine r_push zi_38_187 rfl ?_
      refine q_cVV zi_38_188 rfl rfl rfl rfl rfl rfl rfl cf_173_0.ob (had _ (fun υ x1 x2 => ?_))
      show zk _ _ 191 _ _ _ _
      refine r_al0 zi_38_191 rfl ?_
      refine r_push zi_38_192 rfl ?_
      refine q_cIV zi_38_195 rfl rfl rfl rfl rfl rfl rfl cf_169_0.ob (htk υ x1 x2 _ (fun ρ e y1 y2 => ?_) (fun ρ fin => ?_))
      · show zk _ _ 198 _ _ _ _
        refine r_retZ zi_38_198 rfl (by decide) ?_
        exact ⟨_, rfl, h1 _ _ _ ρ (Option.some.inj e).symm y1 y2⟩
      · show zk _ _ 198 _ _ _ _
        refine r_retZ zi_38_198 rfl (by decide) ?_
        exact ⟨_, rfl, fin⟩
    · have g2 := g2 w5
      refine r_il3 zi_38_129 rfl ?_
      refine r_push zi_38_130 rfl ?_
      refine n_ic0 (i := w) (j := 5) zi_38_131 rfl (by omega) (by omega) (fun c => absurd c (by omega)) (fun _ => ?_)
      refine r_al0 zi_38_134 rfl ?_
      refine q_getR zi_38_135 rfl cf_169_0 ?_
      refine q_cIV zi_38_138 rfl rfl rfl rfl rfl rfl rfl cf_170_0.ob (htok _ ?_)
      show zk _ _ 141 _ _ _ _
      refine r_push zi_38_141 rfl ?_
      refine n_ic1 (i := ki) (j := 10025) zi_38_144 rfl (by omega) (by omega) (fun _ => ?_) (fun c => absurd c (by omega))
      refine r_push zi_38_151 rfl ?_
      refine r_is5 zi_38_152 rfl ?_
      refine r_il5 zi_38_154 rfl ?_
      refine r_if0 zi_38_156 rfl (fun _ => ?_) (fun c => absurd (by decide) c)
      refine r_al0 zi_38_172 rfl ?_
      refine q_getR zi_38_173 rfl cf_169_1 ?_
      refine r_il1 zi_38_176 rfl ?_
      refine r_il3 zi_38_177 rfl ?_
      refine r_il2 zi_38_178 rfl ?_
      refine r_il4 zi_38_179 rfl ?_
      refine r_il5 zi_38_181 rfl ?_
      refine r_cIS zi_38_183 rfl rfl rfl rfl rfl rfl (hpk _ ?_)
      show zk _ _ 186 _ _ _ _
      refine r_push zi_38_186 rfl ?_
      refine r_push zi_38_187 rfl ?_
      refine q_cVV zi_38_188 rfl rfl rfl rfl rfl rfl rfl cf_173_0.ob (had _ (fun υ x1 x2 => ?_))
      show zk _ _ 191 _ _ _ _
      refine r_al0 zi_38_191 rfl ?_
      refine r_push zi_38_192 rfl ?_
      refine q_cIV zi_38_195 rfl rfl rfl rfl rfl rfl rfl cf_169_0.ob (htk υ x1 x2 _ (fun ρ e y1 y2 => ?_) (fun ρ fin => ?_))
      · show zk _ _ 198 _ _ _ _
        refine r_retZ zi_38_198 rfl (by decide) ?_
        exact ⟨_, rfl, h1 _ _ _ ρ (Option.some.inj e).symm y1 y2⟩
      · show zk _ _ 198 _ _ _ _
        refine r_retZ zi_38_198 rfl (by decide) ?_
        exact ⟨_, rfl, fin⟩
theorem s_kord {d N j n : Nat} {σ τ : zS} {Q : Int32 → zS → Prop} {K S : Nat → Nat} {cs : List Nat} {rows : List pRw} {r : (Nat × Nat) ⊕ (Nat × List Nat × pRw)} (h1 : ∀ i ds row υ, r = .inr (i, ds, row) → Fg pX σ υ → kLn υ K S N i ds (rows ++ [row]) n → Q 1 υ) (h0 : ∀ n i υ, r = .inl (n, i) → Fg (pF pX) σ υ → υ 170 4 = nI n → υ 170 5 = nI (S i) → Q 0 υ) (hn : n ≤ 18) (hr : ple n K j cs = some r) (hF : Fg pX σ τ) (hk : kLn τ K S N j cs rows n) (hl : rows.length < 16) (hb : 10017 ≤ K j ∧ K j ≤ 10017) : zI1 (d + 2) 38 [.ref 169] τ Q := by
  have hbg : ∀ (Q2 : Int32 → zS → Prop), (∀ υ, Fg pX σ υ → kLn υ K S N (j + 1) cs rows n → Q2 1 υ) → zI1 (d + 1) 36 [.ref 169, .int 10017, .int 10017] τ Q2 := fun Q2 k1 => s_kbeg (lo := 10017) (hi := 10017) rfl rfl (by decide) (by decide) hF hk (fun υ _ _ _ x y => k1 υ x y) (fun q υ e _ _ _ => absurd e (by omega))
  have htk4 : ∀ υ, kLn υ K S N (j + 4) cs rows n → ∀ (Q2 : Int32 → zS → Prop), Q2 (nI (K (j + 4))) υ → zI1 (d + 1) 103 [.ref 170] υ Q2 := fun υ y Q2 h2 => s_tok y.1 h2
  have hnx : ∀ υ, 10019 ≤ K (j + 4) ∧ K (j + 4) ≤ 10024 → Fg pX σ υ → kLn υ K S N (j + 4) cs rows n → kLn (up υ 170 3 (nI (j + 5))) K S N (j + 5) cs rows n ∧ Fg pX σ (up υ 170 3 (nI (j + 5))) := fun υ z x y => ⟨kLn_n y (fun a b hp => zup_n2 (by omega)) zup_eq (by omega) (kTk_ne y.1 (by omega)), x.put (by unfold pX; omega)⟩
  have hfl : ∀ υ, Fg pX σ υ → kLn υ K S N (j + 4) cs rows n → r = .inl (1, j + 4) → ∀ (Q3 : Int32 → zS → Prop), (∀ υ, Q 0 υ → Q3 0 υ) → zI1 (d + 1) 104 [.ref 170, .int 1] υ Q3 := fun υ x y er Q3 h2 => s_fails y.1 (h2 _ (h0 1 (j + 4) _ er (kfl x) ((zup_nj (by decide)).trans zup_eq) zup_eq))
  have hb4 : ∀ υ, kLn υ K S N (j + 4) cs rows n → K (j + 4) ≤ 30001 := fun υ y => tko_b (y.1.2.2.2.2.2.2 (j + 4))
  have hwi : ∀ υ (Q2 : Int32 → zS → Prop), K (j + 4) ≤ 30001 → (10019 ≤ K (j + 4) ∧ K (j + 4) ≤ 10024 → Q2 1 υ) → (¬ (10019 ≤ K (j + 4) ∧ K (j + 4) ≤ 10024) → Q2 0 υ) → zI1 (d + 1) 157 [.int (nI (K (j + 4)) - 10019), .int 0, .int 5] υ Q2 := fun υ Q2 h30 g1 g0 => s_within (fun x y => g1 ((nI_in5 (c := 10019) (hi := 5) (by omega) (by decide) (by decide)).mp ⟨x, y⟩)) (fun x => g0 (fun y => x ((nI_in5 (c := 10019) (hi := 5) (by omega) (by decide) (by decide)).mpr y)))
  unfold ple at hr
  show zk _ _ 0 [.ref 169, zun, zun, zun, zun, zun] [] _ _
  have key : ∀ υ, (if 10019 ≤ K (j + 4) ∧ K (j + 4) ≤ 10024 then (if K (j + 4) = 10019 then pnum K (j + 5) 12 (fun a => ptl K cs (K (j + 1)) 0 (K (j + 3)) a (j + 6)) else ptl K cs (K (j + 1)) (K (j + 4) - 10019) (K (j + 3)) 0 (j + 5)) else some (.inl (1, j + 4))) = some r → Fg pX σ υ → kLn υ K S N (j + 4) cs rows n → zk (d + 2) 38 62 [.ref 169, .int (nI (K (j + 1))), .int (nI (K (j + 3))), zun, zun, zun] [] υ (fun r t => ∃ v, r = some v ∧ Q v t) := by
    intro υ hr x y
    have hb4 := hb4 υ y
    have hn5 := y.1.2.2.2.2.1
    have htk4 := htk4 υ y
    have hwi := hwi υ
    by_cases c : 10019 ≤ K (j + 4) ∧ K (j + 4) ≤ 10024
    · rw [if_pos c] at hr
      have hnx := hnx υ c x y
      have hwj : ∀ (Q2 : Int32 → zS → Prop), Q2 1 υ → zI1 (d + 1) 157 [.int (nI (K (j + 4) - 10019)), .int 0, .int 5] υ Q2 := fun Q2 h2 => s_within (fun _ _ => h2) (fun z => absurd ⟨nI_pos' (by omega), nI_le (b := 5) (by omega) (by omega)⟩ z)
      by_cases c2 : K (j + 4) = 10019
      · rw [if_pos c2] at hr
        have htl := fun ρ a u5 hr2 z1 z2 ha => l_ktl (d := d) (cs := cs) (w := 0) (day := K (j + 1)) (who := K (j + 3)) (a := a) (i := j + 6) (τ := ρ) (u5 := u5) h1 h0 hr2 z1 z2 hl (by decide) ha
        rw [c2] at htk4 hwj
        refine r_al0 zi_38_62 rfl ?_
        refine q_getR zi_38_63 rfl cf_169_0 ?_
        refine q_cIV zi_38_66 rfl rfl rfl rfl rfl rfl rfl cf_170_0.ob (htk4 _ ?_)
        show zk _ _ 69 _ _ _ _
        refine r_push zi_38_69 rfl ?_
        refine r_b1 zi_38_72 rfl ?_
        rw [show (nI 10019 - 10019 : Int32) = nI (10019 - 10019) from pk_sub (a := 10019) (b := 10019) (by omega)]
        refine r_is3 zi_38_73 rfl ?_
        refine r_il3 zi_38_74 rfl ?_
        refine r_push zi_38_75 rfl ?_
        refine r_push zi_38_76 rfl ?_
        refine r_cIS zi_38_77 rfl rfl rfl rfl rfl rfl (hwj _ ?_)
        show zk _ _ 80 _ _ _ _
        refine r_if1 zi_38_80 rfl (fun _ => ?_) (fun c => absurd c (by decide))
        refine r_al0 zi_38_92 rfl ?_
        refine q_getR zi_38_93 rfl cf_169_0 ?_
        refine r_dupR zi_38_96 rfl ?_
        refine q_getIe zi_38_97 rfl cf_170_3 (v := nI (j+4)) (by first | exact hn5 | ((repeat (first | rw [zup_ne (by first | decide | omega)] | rw [zup_nj (by first | decide | omega)] | rw [fil_ne (by first | decide | omega)])) <;> exact hn5) | (simp [up_rd, fil_rd]; exact hn5)) ?_
        refine r_push zi_38_100 rfl ?_
        refine r_b0 zi_38_101 rfl ?_
        rw [show (nI (j+4) + 1 : Int32) = nI (j+4 + 1) from nI_add _ _]
        refine q_put zi_38_102 rfl cf_170_3 rfl ?_
        refine r_il3 zi_38_105 rfl ?_
        refine n_if1 (i := (10019 - 10019)) zi_38_106 rfl (by omega) (fun c => absurd c (by omega)) (fun _ => ?_)
        refine r_al0 zi_38_109 rfl ?_
        refine r_push zi_38_110 rfl ?_
        refine q_cIV zi_38_112 rfl rfl rfl rfl rfl rfl rfl cf_169_0.ob (s_knum (mo := 11) (m := 12) h0 (hm_c (m := 12) (by decide) (by decide)) hr hnx.2 hnx.1 (fun ρ hr2 a1 a2 z1 z2 => ?_) (fun ρ fin => ?_))
        · show zk _ _ 115 _ _ _ _
          refine r_goto zi_38_115 rfl ?_
          refine r_is4 zi_38_119 rfl ?_
          refine r_il4 zi_38_121 rfl ?_
          refine r_push zi_38_123 rfl ?_
          refine r_ic1 zi_38_124 rfl (fun _ => ?_) (fun c => absurd c (nI_m1 (by omega)))
          exact htl ρ (K (j + 5)) _ hr2 z1 z2 a2
        · show zk _ _ 115 _ _ _ _
          refine r_goto zi_38_115 rfl ?_
          refine r_is4 zi_38_119 rfl ?_
          refine r_il4 zi_38_121 rfl ?_
          refine r_push zi_38_123 rfl ?_
          refine r_ic1 zi_38_124 rfl (fun c => absurd (by decide) c) (fun _ => ?_)
          refine r_push zi_38_127 rfl ?_
          refine r_retZ zi_38_128 rfl (by decide) ?_
          exact ⟨_, rfl, fin⟩
      · rw [if_neg c2] at hr
        have htl := fun u5 => l_ktl (d := d) (w := K (j + 4) - 10019) (day := K (j + 1)) (who := K (j + 3)) (a := 0) (i := j + 5) (u5 := u5) h1 h0 hr hnx.2 hnx.1 hl (by omega) (by decide)
        clear hr
        generalize K (j + 4) = k4 at *
        refine r_al0 zi_38_62 rfl ?_
        refine q_getR zi_38_63 rfl cf_169_0 ?_
        refine q_cIV zi_38_66 rfl rfl rfl rfl rfl rfl rfl cf_170_0.ob (htk4 _ ?_)
        show zk _ _ 69 _ _ _ _
        refine r_push zi_38_69 rfl ?_
        refine r_b1 zi_38_72 rfl ?_
        rw [show (nI k4 - 10019 : Int32) = nI (k4 - 10019) from pk_sub (a := k4) (b := 10019) (by omega)]
        refine r_is3 zi_38_73 rfl ?_
        refine r_il3 zi_38_74 rfl ?_
        refine r_push zi_38_75 rfl ?_
        refine r_push zi_38_76 rfl ?_
        refine r_cIS zi_38_77 rfl rfl rfl rfl rfl rfl (hwj _ ?_)
        show zk _ _ 80 _ _ _ _
        refine r_if1 zi_38_80 rfl (fun _ => ?_) (fun c => absurd c (by decide))
        refine r_al0 zi_38_92 rfl ?_
        refine q_getR zi_38_93 rfl cf_169_0 ?_
        refine r_dupR zi_38_96 rfl ?_
        refine q_getIe zi_38_97 rfl cf_170_3 (v := nI (j+4)) (by first | exact hn5 | ((repeat (first | rw [zup_ne (by first | decide | omega)] | rw [zup_nj (by first | decide | omega)] | rw [fil_ne (by first | decide | omega)])) <;> exact hn5) | (simp [up_rd, fil_rd]; exact hn5)) ?_
        refine r_push zi_38_100 rfl ?_
        refine r_b0 zi_38_101 rfl ?_
        rw [show (nI (j+4) + 1 : Int32) = nI (j+4 + 1) from nI_add _ _]
        refine q_put zi_38_102 rfl cf_170_3 rfl ?_
        refine r_il3 zi_38_105 rfl ?_
        refine n_if1 (i := (k4 - 10019)) zi_38_106 rfl (by omega) (fun _ => ?_) (fun c => absurd c (by omega))
        refine r_push zi_38_118 rfl ?_
        refine r_is4 zi_38_119 rfl ?_
        refine r_il4 zi_38_121 rfl ?_
        refine r_push zi_38_123 rfl ?_
        refine r_ic1 zi_38_124 rfl (fun _ => ?_) (fun c => absurd c (by decide))
        exact htl _
    · rw [if_neg c] at hr
      have hfl := hfl υ x y (Option.some.inj hr).symm
      generalize K (j + 4) = k4 at *
      refine r_al0 zi_38_62 rfl ?_
      refine q_getR zi_38_63 rfl cf_169_0 ?_
      refine q_cIV zi_38_66 rfl rfl rfl rfl rfl rfl rfl cf_170_0.ob (htk4 _ ?_)
      show zk _ _ 69 _ _ _ _
      refine r_push zi_38_69 rfl ?_
      refine r_b1 zi_38_72 rfl ?_
      refine r_is3 zi_38_73 rfl ?_
      refine r_il3 zi_38_74 rfl ?_
      refine r_push zi_38_75 rfl ?_
      refine r_push zi_38_76 rfl ?_
      refine r_cIS zi_38_77 rfl rfl rfl rfl rfl rfl (hwi _ hb4 (fun z => absurd z c) (fun _ => ?_))
      show zk _ _ 80 _ _ _ _
      refine r_if1 zi_38_80 rfl (fun c => absurd (by decide) c) (fun _ => ?_)
      refine r_al0 zi_38_83 rfl ?_
      refine q_getR zi_38_84 rfl cf_169_0 ?_
      refine r_push zi_38_87 rfl ?_
      refine q_cIV zi_38_88 rfl rfl rfl rfl rfl rfl rfl cf_170_0.ob (hfl _ (fun υ x => ?_))
      show zk _ _ 91 _ _ _ _
      refine r_retZ zi_38_91 rfl (by decide) ?_
      exact ⟨_, rfl, x⟩
  refine r_al0 zi_38_0 rfl ?_
  refine r_push zi_38_1 rfl ?_
  refine r_push zi_38_4 rfl ?_
  refine q_cIV zi_38_7 rfl rfl rfl rfl rfl rfl rfl cf_169_0.ob (hbg _ (fun υ x1 x2 => ?_))
  show zk _ _ 10 _ _ _ _
  refine r_if0 zi_38_10 rfl (fun c => absurd c (by decide)) (fun _ => ?_)
  refine r_al0 zi_38_13 rfl ?_
  refine r_push zi_38_14 rfl ?_
  refine q_cIV zi_38_17 rfl rfl rfl rfl rfl rfl rfl cf_169_0.ob (s_knum (mo := 999) (m := 1000) h0 (hm_c (m := 1000) (by decide) (by decide)) hr x1 x2 (fun ρ hr2 a1 a2 y1 y2 => ?_) (fun ρ fin => ?_))
  · show zk _ _ 20 _ _ _ _
    refine r_goto zi_38_20 rfl ?_
    refine r_is1 zi_38_24 rfl ?_
    refine r_il1 zi_38_25 rfl ?_
    refine r_push zi_38_26 rfl ?_
    refine r_ic0 zi_38_27 rfl (fun c => absurd c (nI_m1 (by omega))) (fun _ => ?_)
    refine r_al0 zi_38_30 rfl ?_
    refine r_push zi_38_31 rfl ?_
    refine q_cIV zi_38_34 rfl rfl rfl rfl rfl rfl rfl cf_169_0.ob (s_ktake h0 rfl (by decide) hr2 y1 y2 (fun ω hr3 z1 z2 => ?_) (fun ω fin => ?_))
    · show zk _ _ 37 _ _ _ _
      refine r_if0 zi_38_37 rfl (fun c => absurd c (by decide)) (fun _ => ?_)
      refine r_al0 zi_38_40 rfl ?_
      refine r_al0 zi_38_41 rfl ?_
      refine q_getIe zi_38_42 rfl cf_169_5 (v := nI n) (by first | exact z2.2.2.2.2.1 | ((repeat (first | rw [zup_ne (by first | decide | omega)] | rw [zup_nj (by first | decide | omega)] | rw [fil_ne (by first | decide | omega)])) <;> exact z2.2.2.2.2.1) | (simp [up_rd, fil_rd]; exact z2.2.2.2.2.1)) ?_
      refine r_push zi_38_45 rfl ?_
      refine r_b1 zi_38_46 rfl ?_
      refine q_cIV zi_38_47 rfl rfl rfl rfl rfl rfl rfl cf_169_0.ob (s_knum (mo := nI n - 1) (m := n) h0 (hm_s hn) hr3 z1 z2 (fun ξ hr4 b1 b2 w1 w2 => ?_) (fun ξ fin => ?_))
      · show zk _ _ 50 _ _ _ _
        refine r_goto zi_38_50 rfl ?_
        refine r_is2 zi_38_54 rfl ?_
        refine r_il2 zi_38_55 rfl ?_
        refine r_push zi_38_56 rfl ?_
        refine r_ic1 zi_38_57 rfl (fun _ => ?_) (fun c => absurd c (nI_m1 (by omega)))
        exact key ξ hr4 w1 w2
      · show zk _ _ 50 _ _ _ _
        refine r_goto zi_38_50 rfl ?_
        refine r_is2 zi_38_54 rfl ?_
        refine r_il2 zi_38_55 rfl ?_
        refine r_push zi_38_56 rfl ?_
        refine r_ic1 zi_38_57 rfl (fun c => absurd (by decide) c) (fun _ => ?_)
        refine r_push zi_38_60 rfl ?_
        refine r_retZ zi_38_61 rfl (by decide) ?_
        exact ⟨_, rfl, fin⟩
    · show zk _ _ 37 _ _ _ _
      refine r_if0 zi_38_37 rfl (fun _ => ?_) (fun c => absurd (by decide) c)
      refine r_push zi_38_53 rfl ?_
      refine r_is2 zi_38_54 rfl ?_
      refine r_il2 zi_38_55 rfl ?_
      refine r_push zi_38_56 rfl ?_
      refine r_ic1 zi_38_57 rfl (fun c => absurd (by decide) c) (fun _ => ?_)
      refine r_push zi_38_60 rfl ?_
      refine r_retZ zi_38_61 rfl (by decide) ?_
      exact ⟨_, rfl, fin⟩
  · show zk _ _ 20 _ _ _ _
    refine r_goto zi_38_20 rfl ?_
    refine r_is1 zi_38_24 rfl ?_
    refine r_il1 zi_38_25 rfl ?_
    refine r_push zi_38_26 rfl ?_
    refine r_ic0 zi_38_27 rfl (fun _ => ?_) (fun c => absurd (by decide) c)
    refine r_push zi_38_53 rfl ?_
    refine r_is2 zi_38_54 rfl ?_
    refine r_il2 zi_38_55 rfl ?_
    refine r_push zi_38_56 rfl ?_
    refine r_ic1 zi_38_57 rfl (fun c => absurd (by decide) c) (fun _ => ?_)
    refine r_push zi_38_60 rfl ?_
    refine r_retZ zi_38_61 rfl (by decide) ?_
    exact ⟨_, rfl, fin⟩

