/-! LINES in the model: roads; the loops -/
def pB1 (row : pRw) (B : Nat → Int32) (p : Nat) : Int32 := if p = un row.2.1 then (if un row.2.1 = un row.1 then B (un row.1) ||| 1 <<< (row.2.1 &&& 31) else B (un row.2.1)) ||| 1 <<< (row.1 &&& 31) else if p = un row.1 then B (un row.1) ||| 1 <<< (row.2.1 &&& 31) else B p
def pBs (rows : List pRw) : Nat → Int32 := rows.foldl (fun B row => pB1 row B) (fun _ => 0)
theorem pBs_s {rows : List pRw} {row : pRw} : pBs (rows ++ [row]) = pB1 row (pBs rows) := by unfold pBs; rw [List.foldl_append]; rfl
def pRv (row : pRw) : Prop := ∃ a b, a < 12 ∧ b < 12 ∧ a ≠ b ∧ row = (nI a, nI b, 0, 0)
theorem pB1_x {row : pRw} {B C : Nat → Int32} (hv : pRv row) (h : ∀ p, p < 12 → B p = C p) : ∀ p, p < 12 → pB1 row B p = pB1 row C p := fun p hp => by
  obtain ⟨a, b, ha, hb, _, rfl⟩ := hv
  unfold pB1
  simp only [un_nI (show a < 4294967296 by omega), un_nI (show b < 4294967296 by omega)]
  rw [h a ha, h b hb, h p hp]
def mL4 (a b : Nat) : Prop := mR a b ∨ (a = 214 ∧ 12 ≤ b)
theorem s_mroad {d N j : Nat} {t : Nat → Nat} {b : Nat} {σ τ : zS} {Q : Int32 → zS → Prop} {cs : List Nat} {r : (Nat × Nat) ⊕ (Nat × List Nat × pRw)} (hE : mEn t b N) (h1 : ∀ i row υ, r = .inr (i, cs, row) → Fg mL4 τ υ → mTk υ t b i → i ≤ N → pRv row → (∀ p, p < 12 → υ 214 (12 + p) = pB1 row (fun p => τ 214 (12 + p)) p) → Q 0 υ) (h0 : ∀ υ, mFa σ t b r υ → Q (-1) υ) (hr : pro (tkk t b) j cs = some r) (hb : tkk t b j = 10026) (hF : Fg mX σ τ) (hk : mTk τ t b j) (hj : j ≤ N) : zI1 (d + 5) 217 [.ref 195] τ Q := by
  have hraw : ∀ q i υ, r = .inl (q, i) → Fg mX σ υ → υ 195 29 = nI q → υ 195 30 = nI (tks t b i) → mFa σ t b r υ := fun q i υ e1 e2 e3 e4 => ⟨q, i, e1, e2, e3, e4⟩
  have hRX : ∀ υ, Fg mR τ υ → Fg mX σ υ := fun υ x => hF.tr (x.sub (fun a b => mR_X))
  unfold pro at hr
  have k58 : ∀ υ (a : Nat), a = tkk t b (j + 1) → a < 12 → Fg mR τ υ → mTk υ t b (j + 3) → j + 3 ≤ N → ¬ tkk t b (j + 3) = a → pnum (tkk t b) (j + 3) 12 (fun c => pkw (tkk t b) (j + 4) 20059 (some (.inr (j + 5, cs, nI a, nI c, 0, 0)))) = some r → zk (d + 5) 217 58 [.ref 195, .int (nI a), zun] [] υ (fun r t => ∃ v, r = some v ∧ Q v t) := by
    intro υ a hae ha x y hj3 hne hr
    have hnm := fun (Q2 : Int32 → zS → Prop) k1 k0 => s_mnum (d := d + 1) (mo := 11) (m := 12) (Q := fun _ υ => mFa σ t b r υ) (Q2 := Q2) hraw hE (hm_c (m := 12) (by decide) (by decide)) hr (hRX υ x) y hj3 k1 k0
    have hmk : ∀ ω c, c < 12 → a ≠ c → Fg mR τ ω → mTk ω t b (j + 4) → j + 4 ≤ N → pkw (tkk t b) (j + 4) 20059 (some (.inr (j + 5, cs, nI a, nI c, 0, 0))) = some r → ∀ (Q2 : Int32 → zS → Prop), (∀ ρ, Q 0 ρ → Q2 0 ρ) → (∀ ρ, Q (-1) ρ → Q2 (-1) ρ) → zI1 (d + 4) 210 [.ref 195, .int 59] (up (up ω 214 (12 + a) (ω 214 (12 + a) ||| 1 <<< (nI c &&& 31))) 214 (12 + c) (up ω 214 (12 + a) (ω 214 (12 + a) ||| 1 <<< (nI c &&& 31)) 214 (12 + c) ||| 1 <<< (nI a &&& 31))) Q2 := fun ω c hc hac z1 z2 z3 hr2 Q2 k1 k0 => by
      have hFu : Fg mL4 τ (up (up ω 214 (12 + a) (ω 214 (12 + a) ||| 1 <<< (nI c &&& 31))) 214 (12 + c) (up ω 214 (12 + a) (ω 214 (12 + a) ||| 1 <<< (nI c &&& 31)) 214 (12 + c) ||| 1 <<< (nI a &&& 31))) := ((z1.sub (fun a b => Or.inl)).put (Or.inr ⟨rfl, by omega⟩)).put (Or.inr ⟨rfl, by omega⟩)
      have hX : ∀ p q, mL4 p q → mX p q := fun p q h => h.elim mR_X (fun y => by unfold mX; omega)
      refine s_mmark (d := d + 1) (c := 59) (σ := σ) (Q := fun _ υ => mFa σ t b r υ) hraw hE rfl (by decide) hr2 (hF.tr (hFu.sub hX)) (mTk_f z2 (fun q _ _ => (zup_ne (by decide)).trans (zup_ne (by decide))) (fun q => (zup_ne (by decide)).trans (zup_ne (by decide))) (fun q => (zup_ne (by decide)).trans (zup_ne (by decide)))) z3 (fun ρ e5 w1 w2 w3 => k1 ρ ?_) (fun ρ z => k0 ρ (h0 ρ z))
      refine h1 _ _ ρ (Option.some.inj e5).symm (hFu.tr (w1.sub (fun a b => Or.inl))) w2 w3 ⟨a, c, ha, hc, hac, rfl⟩ (fun p hp => ?_)
      rw [w1 214 (12 + p) (by unfold mR; omega)]
      have ew : ∀ q, ω 214 q = τ 214 q := fun q => z1 214 q (by unfold mR; omega)
      unfold pB1
      simp only [un_nI (show a < 4294967296 by omega), un_nI (show c < 4294967296 by omega)]
      by_cases e1 : p = c
      · rw [if_pos e1, if_neg (fun z => hac z.symm), e1, zup_eq, zup_nj (by omega), ew]
      · rw [if_neg e1, zup_nj (by omega)]
        by_cases e2 : p = a
        · rw [if_pos e2, e2, zup_eq, ew]
        · rw [if_neg e2, zup_nj (by omega), ew]
    refine r_al0 zi_217_58 rfl ?_
    refine r_push zi_217_59 rfl ?_
    refine r_push zi_217_60 rfl ?_
    refine q_cIV zi_217_62 rfl rfl rfl rfl rfl rfl rfl cf_195_0.ob (hnm _ (fun ω hr2 a1 a2 w1 w2 w3 => ?_) (fun ω bad => ?_))
    · show zk _ _ 65 _ _ _ _
      refine r_is2 zi_217_65 rfl ?_
      refine r_il2 zi_217_66 rfl ?_
      refine r_push zi_217_67 rfl ?_
      refine r_ic1 zi_217_68 rfl (fun _ => ?_) (fun c => absurd c (nI_m1 (by omega)))
      refine r_al0 zi_217_73 rfl ?_
      refine q_getR zi_217_74 rfl cf_195_38 ?_
      refine r_push zi_217_77 rfl ?_
      refine r_il1 zi_217_79 rfl ?_
      refine r_b0 zi_217_80 rfl ?_
      rw [show (12 + nI a : Int32) = nI (12 + a) from nI_add _ _]
      refine r_al0 zi_217_81 rfl ?_
      refine q_getR zi_217_82 rfl cf_195_38 ?_
      refine r_push zi_217_85 rfl ?_
      refine r_il1 zi_217_87 rfl ?_
      refine r_b0 zi_217_88 rfl ?_
      rw [show (12 + nI a : Int32) = nI (12 + a) from nI_add _ _]
      refine r_ald zi_217_89 rfl (12 + a) ca_214 (by first | rfl | (simp only [zI_add, zI_mul] <;> rfl)) (by first | omega | decide) ?_
      refine r_push zi_217_90 rfl ?_
      refine r_il2 zi_217_91 rfl ?_
      refine r_b6 zi_217_92 rfl ?_
      refine r_b4 zi_217_93 rfl ?_
      refine r_ast zi_217_94 rfl (12 + a) ca_214 (by first | rfl | (simp only [zI_add, zI_mul] <;> rfl)) (by first | omega | decide) ?_
      refine r_al0 zi_217_95 rfl ?_
      refine q_getR zi_217_96 rfl cf_195_38 ?_
      refine r_push zi_217_99 rfl ?_
      refine r_il2 zi_217_101 rfl ?_
      refine r_b0 zi_217_102 rfl ?_
      rw [show (12 + nI (tkk t b (j + 3)) : Int32) = nI (12 + (tkk t b (j + 3))) from nI_add _ _]
      refine r_al0 zi_217_103 rfl ?_
      refine q_getR zi_217_104 rfl cf_195_38 ?_
      refine r_push zi_217_107 rfl ?_
      refine r_il2 zi_217_109 rfl ?_
      refine r_b0 zi_217_110 rfl ?_
      rw [show (12 + nI (tkk t b (j + 3)) : Int32) = nI (12 + (tkk t b (j + 3))) from nI_add _ _]
      refine r_ald zi_217_111 rfl (12 + (tkk t b (j + 3))) ca_214 (by first | rfl | (simp only [zI_add, zI_mul] <;> rfl)) (by first | omega | decide) ?_
      refine r_push zi_217_112 rfl ?_
      refine r_il1 zi_217_113 rfl ?_
      refine r_b6 zi_217_114 rfl ?_
      refine r_b4 zi_217_115 rfl ?_
      refine r_ast zi_217_116 rfl (12 + (tkk t b (j + 3))) ca_214 (by first | rfl | (simp only [zI_add, zI_mul] <;> rfl)) (by first | omega | decide) ?_
      refine r_al0 zi_217_117 rfl ?_
      refine r_push zi_217_118 rfl ?_
      refine q_cIV zi_217_120 rfl rfl rfl rfl rfl rfl rfl cf_195_0.ob (hmk ω (tkk t b (j + 3)) a2 (fun z => hne z.symm) (x.tr w1) w2 w3 hr2 _ (fun ξ fin => ?_) (fun ξ fin => ?_))
      · show zk _ _ 123 _ _ _ _
        refine r_retI zi_217_123 rfl ?_
        exact ⟨_, rfl, fin⟩
      · show zk _ _ 123 _ _ _ _
        refine r_retI zi_217_123 rfl ?_
        exact ⟨_, rfl, fin⟩
    · show zk _ _ 65 _ _ _ _
      refine r_is2 zi_217_65 rfl ?_
      refine r_il2 zi_217_66 rfl ?_
      refine r_push zi_217_67 rfl ?_
      refine r_ic1 zi_217_68 rfl (fun c => absurd (by decide) c) (fun _ => ?_)
      refine r_push zi_217_71 rfl ?_
      refine r_retI zi_217_72 rfl ?_
      exact ⟨_, rfl, h0 _ bad⟩
  have k17 : ∀ υ (a : Nat), a = tkk t b (j + 1) → a < 12 → Fg mR τ υ → mTk υ t b (j + 2) → j + 2 ≤ N → pkw (tkk t b) (j + 2) 10027 (if tkk t b (j + 3) = a then some (.inl (2, j + 3)) else pnum (tkk t b) (j + 3) 12 (fun c => pkw (tkk t b) (j + 4) 20059 (some (.inr (j + 5, cs, nI a, nI c, 0, 0))))) = some r → zk (d + 5) 217 17 [.ref 195, .int (nI a), zun] [] υ (fun r t => ∃ v, r = some v ∧ Q v t) := by
    intro υ a hae ha x y hj2 hr
    have herr : ∀ υ q i, r = .inl (q, i) → Fg mR τ υ → mTk υ t b i → ∀ (Q3 : Int32 → zS → Prop), (∀ ω, Q (-1) ω → Q3 (-1) ω) → zI1 (d + 4) 194 [.ref 195, .int (nI q)] υ Q3 := fun υ q i e x y Q3 h2 => s_err (n := q) y (fun ω z1 z2 z3 => h2 ω (h0 ω ⟨q, i, e, (hRX υ x).tr (z1.sub (fun a b => mA_X)), z2, z3⟩))
    unfold pkw at hr
    by_cases c : tkk t b (j + 2) = 10027
    · rw [if_pos c] at hr
      have hj3 := mEn_lt hE hj2 (by omega)
      have hrd : ∀ (Q2 : zS → Prop), (∀ ρ, Fg mR τ ρ → mTk ρ t b (j + 3) → Q2 ρ) → zV1 (d + 4) 193 [.ref 195] υ Q2 := fun Q2 h2 => s_readn (d := d + 2) y (fun ρ z1 z2 => h2 ρ (x.tr z1) z2)
      have hwd : ∀ (Q2 : Int32 → zS → Prop), Q2 1 υ → zI1 (d + 4) 195 [.ref 195, .int 27] υ Q2 := fun Q2 h2 => s_mword1 (w := 0) (c := 27) rfl y.2.2.2 (by decide) (fun _ => h2) (fun z => absurd c z)
      by_cases g : tkk t b (j + 3) = a
      · rw [if_pos g] at hr
        have herr := fun ρ => herr ρ 2 (j + 3) (Option.some.inj hr).symm
        have e14 : ∀ ρ, mTk ρ t b (j + 3) → ρ 195 14 = 3 ∧ ρ 195 15 = nI a := fun ρ y => by
          rcases y.2.2.2 with ⟨h, e1, e2⟩ | ⟨q, hq, h, e1, e2⟩ | ⟨q, hq, h, e1, e2⟩ | ⟨h, e1⟩ | ⟨h, e1⟩
          · exact ⟨e1, by rw [e2, g]⟩
          · omega
          · omega
          · omega
          · omega
        refine r_al0 zi_217_17 rfl ?_
        refine r_push zi_217_18 rfl ?_
        refine q_cIV zi_217_20 rfl rfl rfl rfl rfl rfl rfl cf_195_0.ob (hwd _ ?_)
        show zk _ _ 23 _ _ _ _
        refine r_if1 zi_217_23 rfl (fun _ => ?_) (fun c => absurd c (by decide))
        refine r_al0 zi_217_32 rfl ?_
        refine q_cVV zi_217_33 rfl rfl rfl rfl rfl rfl rfl cf_195_0.ob (hrd _ (fun ρ z1 z2 => ?_))
        show zk _ _ 36 _ _ _ _
        refine r_al0 zi_217_36 rfl ?_
        refine q_getIe zi_217_37 rfl cf_195_14 (v := 3) (by first | exact (e14 ρ z2).1 | ((repeat (first | rw [zup_ne (by first | decide | omega)] | rw [zup_nj (by first | decide | omega)] | rw [fil_ne (by first | decide | omega)])) <;> exact (e14 ρ z2).1) | (simp [up_rd, fil_rd]; exact (e14 ρ z2).1)) ?_
        refine r_push zi_217_40 rfl ?_
        refine r_ic1 zi_217_41 rfl (fun c => absurd (by decide) c) (fun _ => ?_)
        refine r_al0 zi_217_44 rfl ?_
        refine q_getIe zi_217_45 rfl cf_195_15 (v := nI a) (by first | exact (e14 ρ z2).2 | ((repeat (first | rw [zup_ne (by first | decide | omega)] | rw [zup_nj (by first | decide | omega)] | rw [fil_ne (by first | decide | omega)])) <;> exact (e14 ρ z2).2) | (simp [up_rd, fil_rd]; exact (e14 ρ z2).2)) ?_
        refine r_il1 zi_217_48 rfl ?_
        refine n_ic1 (i := a) (j := a) zi_217_49 rfl (by omega) (by omega) (fun c => absurd c (by omega)) (fun _ => ?_)
        refine r_al0 zi_217_52 rfl ?_
        refine r_push zi_217_53 rfl ?_
        refine q_cIV zi_217_54 rfl rfl rfl rfl rfl rfl rfl cf_195_0.ob (herr ρ z1 z2 _ (fun ω fin => ?_))
        show zk _ _ 57 _ _ _ _
        refine r_retI zi_217_57 rfl ?_
        exact ⟨_, rfl, fin⟩
      · rw [if_neg g] at hr
        have k58 := fun ρ z1 z2 => k58 ρ a hae ha z1 z2 hj3 g hr
        have key : ∀ ρ, Fg mR τ ρ → mTk ρ t b (j + 3) → zk (d + 5) 217 36 [.ref 195, .int (nI a), zun] [] ρ (fun r t => ∃ v, r = some v ∧ Q v t) := fun ρ z1 z2 => by
          by_cases c3 : ρ 195 14 = 3
          · have e15 : ρ 195 15 = nI (tkk t b (j + 3)) ∧ tkk t b (j + 3) < 10000 := by
              rcases z2.2.2.2 with ⟨h, e1, e2⟩ | ⟨q, hq, h, e1, e2⟩ | ⟨q, hq, h, e1, e2⟩ | ⟨h, e1⟩ | ⟨h, e1⟩
              · exact ⟨e2, h⟩
              · rw [e1] at c3; exact absurd c3 (by decide)
              · rw [e1] at c3; exact absurd c3 (by decide)
              · rw [e1] at c3; exact absurd c3 (by decide)
              · rw [e1] at c3; exact absurd c3 (by decide)
            have e15b := e15.2
            refine r_al0 zi_217_36 rfl ?_
            refine q_getIe zi_217_37 rfl cf_195_14 (v := 3) (by first | exact c3 | ((repeat (first | rw [zup_ne (by first | decide | omega)] | rw [zup_nj (by first | decide | omega)] | rw [fil_ne (by first | decide | omega)])) <;> exact c3) | (simp [up_rd, fil_rd]; exact c3)) ?_
            refine r_push zi_217_40 rfl ?_
            refine r_ic1 zi_217_41 rfl (fun c => absurd (by decide) c) (fun _ => ?_)
            refine r_al0 zi_217_44 rfl ?_
            refine q_getIe zi_217_45 rfl cf_195_15 (v := nI (tkk t b (j + 3))) (by first | exact e15.1 | ((repeat (first | rw [zup_ne (by first | decide | omega)] | rw [zup_nj (by first | decide | omega)] | rw [fil_ne (by first | decide | omega)])) <;> exact e15.1) | (simp [up_rd, fil_rd]; exact e15.1)) ?_
            refine r_il1 zi_217_48 rfl ?_
            refine n_ic1 (i := tkk t b (j + 3)) (j := a) zi_217_49 rfl (by omega) (by omega) (fun _ => ?_) (fun c => absurd c (by omega))
            exact k58 ρ z1 z2
          · refine r_al0 zi_217_36 rfl ?_
            refine q_getI zi_217_37 rfl cf_195_14 ?_
            refine r_push zi_217_40 rfl ?_
            refine r_ic1 zi_217_41 rfl (fun _ => ?_) (fun c => absurd c c3)
            exact k58 ρ z1 z2
        refine r_al0 zi_217_17 rfl ?_
        refine r_push zi_217_18 rfl ?_
        refine q_cIV zi_217_20 rfl rfl rfl rfl rfl rfl rfl cf_195_0.ob (hwd _ ?_)
        show zk _ _ 23 _ _ _ _
        refine r_if1 zi_217_23 rfl (fun _ => ?_) (fun c => absurd c (by decide))
        refine r_al0 zi_217_32 rfl ?_
        refine q_cVV zi_217_33 rfl rfl rfl rfl rfl rfl rfl cf_195_0.ob (hrd _ (fun ρ z1 z2 => ?_))
        show zk _ _ 36 _ _ _ _
        exact key ρ z1 z2
    · rw [if_neg c] at hr
      have herr := herr υ 1 (j + 2) (Option.some.inj hr).symm x y
      have hwd : ∀ (Q2 : Int32 → zS → Prop), Q2 0 υ → zI1 (d + 4) 195 [.ref 195, .int 27] υ Q2 := fun Q2 h2 => s_mword1 (w := 0) (c := 27) rfl y.2.2.2 (by decide) (fun z => absurd z c) (fun _ => h2)
      refine r_al0 zi_217_17 rfl ?_
      refine r_push zi_217_18 rfl ?_
      refine q_cIV zi_217_20 rfl rfl rfl rfl rfl rfl rfl cf_195_0.ob (hwd _ ?_)
      show zk _ _ 23 _ _ _ _
      refine r_if1 zi_217_23 rfl (fun c => absurd (by decide) c) (fun _ => ?_)
      refine r_al0 zi_217_26 rfl ?_
      refine r_push zi_217_27 rfl ?_
      refine q_cIV zi_217_28 rfl rfl rfl rfl rfl rfl rfl cf_195_0.ob (herr _ (fun ω fin => ?_))
      show zk _ _ 31 _ _ _ _
      refine r_retI zi_217_31 rfl ?_
      exact ⟨_, rfl, fin⟩
  show zk _ _ 0 [.ref 195, zun, zun] [] _ _
  refine r_al0 zi_217_0 rfl ?_
  refine r_push zi_217_1 rfl ?_
  refine r_push zi_217_3 rfl ?_
  refine r_push zi_217_4 rfl ?_
  refine q_cIV zi_217_6 rfl rfl rfl rfl rfl rfl rfl cf_195_0.ob (s_mtold (d := d) (w := 26) (mo := 11) (m := 12) (Q := fun _ υ => mFa σ t b r υ) hraw hE rfl (by decide) (hm_c (m := 12) (by decide) (by decide)) ((pkw_i hb).trans hr) hF hk hj (fun υ hr2 a1 a2 x1 x2 x3 => ?_) (fun υ bad => ?_))
  · show zk _ _ 9 _ _ _ _
    refine r_is1 zi_217_9 rfl ?_
    refine r_il1 zi_217_10 rfl ?_
    refine r_push zi_217_11 rfl ?_
    refine r_ic1 zi_217_12 rfl (fun _ => ?_) (fun c => absurd c (nI_m1 (by omega)))
    exact k17 υ _ rfl a2 x1 x2 x3 hr2
  · show zk _ _ 9 _ _ _ _
    refine r_is1 zi_217_9 rfl ?_
    refine r_il1 zi_217_10 rfl ?_
    refine r_push zi_217_11 rfl ?_
    refine r_ic1 zi_217_12 rfl (fun c => absurd (by decide) c) (fun _ => ?_)
    refine r_push zi_217_15 rfl ?_
    refine r_retI zi_217_16 rfl ?_
    exact ⟨_, rfl, h0 _ bad⟩
theorem l_mledg {d N n : Nat} {t : Nat → Nat} {b : Nat} {σ : zS} {Q : Int32 → zS → Prop} {r : (Nat × Nat) ⊕ (List Nat × List pRw)} (hE : mEn t b N) (hn : n ≤ 18) (hsub : σ 195 6 = nI n) (h1 : ∀ rows υ, r = .inr ([], rows) → Fg mX σ υ → mRe υ n 32 rows → rows.length ≤ 16 → Q (nI rows.length) υ) (h0 : ∀ q i υ, r = .inl (q, i) → Fg mX σ υ → υ 195 29 = nI q → υ 195 30 = nI (tks t b i) → Q (-1) υ) : ∀ (f j : Nat) (rows : List pRw) (τ : zS), ptx 10017 10017 (ple n (tkk t b)) (tkk t b) f j [] rows = some r → mTk τ t b j → j ≤ N → mRe τ n 32 rows → rows.length ≤ 16 → Fg mX σ τ → zk (d + 6) 214 2 [.ref 195, .int (nI rows.length)] [] τ (fun r t => ∃ v, r = some v ∧ Q v t) := by
  intro f
  induction f with
  | zero => intro j rows τ hr; cases hr
  | succ f ih =>
    intro j rows τ hr hk hj hR h16 hF
    have hr2 : (if tkk t b j = 30001 then some (.inr ([], rows)) else if ¬ (10017 ≤ tkk t b j ∧ tkk t b j ≤ 10017) then some (.inl (1, j)) else if rows.length = 16 then some (.inl (3, j)) else match ple n (tkk t b) j [] with | none => none | some (.inl x) => some (.inl x) | some (.inr (i, ds, row)) => ptx 10017 10017 (ple n (tkk t b)) (tkk t b) f i ds (rows ++ [row])) = some r := hr
    have hwd : ∀ (Q2 : Int32 → zS → Prop), (tkk t b j = 10017 → Q2 1 τ) → (¬ tkk t b j = 10017 → Q2 0 τ) → zI1 (d + 5) 195 [.ref 195, .int 17] τ Q2 := fun Q2 g1 g0 => s_mword1 (w := 0) (c := 17) rfl hk.2.2.2 (by decide) g1 g0
    have herr : ∀ q, r = .inl (q, j) → ∀ (Q3 : Int32 → zS → Prop), (∀ ω, Q (-1) ω → Q3 (-1) ω) → zI1 (d + 5) 194 [.ref 195, .int (nI q)] τ Q3 := fun q e Q3 h2 => s_err (n := q) hk (fun ω z1 z2 z3 => h2 ω (h0 q j ω e (hF.tr (z1.sub (fun a b => mA_X))) z2 z3))
    by_cases c0 : tkk t b j = 30001
    · rw [if_pos c0] at hr2
      have h1 := h1 rows τ (Option.some.inj hr2).symm hF hR h16
      have e14 : τ 195 14 = 0 := by
        rcases hk.2.2.2 with ⟨h, e1, e2⟩ | ⟨q, hq, h, e1, e2⟩ | ⟨q, hq, h, e1, e2⟩ | ⟨h, e1⟩ | ⟨h, e1⟩
        · omega
        · omega
        · simp only [tkS, decide_eq_true_eq] at hq; omega
        · omega
        · exact e1
      refine r_al0 zi_214_2 rfl ?_
      refine r_push zi_214_3 rfl ?_
      refine q_cIV zi_214_5 rfl rfl rfl rfl rfl rfl rfl cf_195_0.ob (hwd _ (fun z => absurd z (by omega)) (fun _ => ?_))
      show zk _ _ 8 _ _ _ _
      refine r_if0 zi_214_8 rfl (fun _ => ?_) (fun c => absurd (by decide) c)
      refine r_al0 zi_214_46 rfl ?_
      refine q_getIe zi_214_47 rfl cf_195_14 (v := 0) (by first | exact e14 | ((repeat (first | rw [zup_ne (by first | decide | omega)] | rw [zup_nj (by first | decide | omega)] | rw [fil_ne (by first | decide | omega)])) <;> exact e14) | (simp [up_rd, fil_rd]; exact e14)) ?_
      refine r_if1 zi_214_50 rfl (fun c => absurd (by decide) c) (fun _ => ?_)
      refine r_il1 zi_214_53 rfl ?_
      refine r_goto zi_214_54 rfl ?_
      refine r_retI zi_214_62 rfl ?_
      exact ⟨_, rfl, h1⟩
    · rw [if_neg c0] at hr2
      have e14 : ¬ τ 195 14 = 0 := fun z => by
        rcases hk.2.2.2 with ⟨h, e1, e2⟩ | ⟨q, hq, h, e1, e2⟩ | ⟨q, hq, h, e1, e2⟩ | ⟨h, e1⟩ | ⟨h, e1⟩
        · rw [e1] at z; exact absurd z (by decide)
        · rw [e1] at z; exact absurd z (by decide)
        · rw [e1] at z; exact absurd z (by decide)
        · rw [e1] at z; exact absurd z (by decide)
        · exact c0 h
      by_cases c : 10017 ≤ tkk t b j ∧ tkk t b j ≤ 10017
      · rw [if_neg (fun z => z c)] at hr2
        have hb : tkk t b j = 10017 := by omega
        by_cases c16 : rows.length = 16
        · rw [if_pos c16] at hr2
          have herr := herr 3 (Option.some.inj hr2).symm
          refine r_al0 zi_214_2 rfl ?_
          refine r_push zi_214_3 rfl ?_
          refine q_cIV zi_214_5 rfl rfl rfl rfl rfl rfl rfl cf_195_0.ob (hwd _ (fun _ => ?_) (fun z => absurd hb z))
          show zk _ _ 8 _ _ _ _
          refine r_if0 zi_214_8 rfl (fun c => absurd c (by decide)) (fun _ => ?_)
          refine r_il1 zi_214_11 rfl ?_
          refine r_push zi_214_12 rfl ?_
          refine n_ic1 (i := rows.length) (j := 16) zi_214_14 rfl (by omega) (by omega) (fun c => absurd c (by omega)) (fun _ => ?_)
          refine r_al0 zi_214_17 rfl ?_
          refine r_push zi_214_18 rfl ?_
          refine q_cIV zi_214_19 rfl rfl rfl rfl rfl rfl rfl cf_195_0.ob (herr _ (fun ω fin => ?_))
          show zk _ _ 22 _ _ _ _
          refine r_retI zi_214_22 rfl ?_
          exact ⟨_, rfl, fin⟩
        · rw [if_neg c16] at hr2
          cases hp : ple n (tkk t b) j [] with
          | none => rw [hp] at hr2; cases hr2
          | some y =>
            rw [hp] at hr2
            have hbad : ∀ υ, mFa σ t b y υ → Q (-1) υ := fun υ ⟨q, i, e1, e2, e3, e4⟩ => h0 q i υ (by rw [e1] at hr2; exact (Option.some.inj hr2).symm) e2 e3 e4
            have hgo : ∀ i row, y = .inr (i, [], row) → ptx 10017 10017 (ple n (tkk t b)) (tkk t b) f i [] (rows ++ [row]) = some r := fun i row e => by rw [e] at hr2; exact hr2
            have ih : ∀ i row υ, y = .inr (i, [], row) → mTk υ t b i → i ≤ N → mRe υ n 32 (rows ++ [row]) → Fg mX σ υ → zk (d + 6) 214 2 [.ref 195, .int (nI (rows.length + 1))] [] υ (fun r t => ∃ v, r = some v ∧ Q v t) := fun i row υ e x z w v => by
              have := ih i (rows ++ [row]) υ (hgo i row e) x z w (by rw [List.length_append, List.length_singleton]; omega) v
              rw [List.length_append, List.length_singleton] at this
              exact this
            have hsub2 : τ 195 6 = nI n := (hF 195 6 (by unfold mX; omega)).trans hsub
            have hen := fun (Q2 : Int32 → zS → Prop) k1 k0 => s_mentry (d := d) (at0 := 32 + 2 * rows.length) (Q := Q2) hE (by omega) (by omega) hn hsub2 k1 k0 hp hb hF hk hj
            have hst : ∀ i row υ, y = .inr (i, [], row) → Fg (mL2 (32 + 2 * rows.length)) τ υ → υ 212 (32 + 2 * rows.length) = row.1 → zOm n row.2.1 (υ 212 (32 + 2 * rows.length + 1)) → mRe υ n 32 (rows ++ [row]) ∧ Fg mX σ υ := fun i row υ e x e1 e2 => by
              refine ⟨fun l hl => ?_, hF.tr (x.sub (fun a b z => z.elim mR_X (fun y => by unfold mX; omega)))⟩
              rcases getD_sn (z := ((0, 0, 0, 0) : pRw)) hl with ⟨h, e⟩ | ⟨h, e⟩
              · rw [e, h]; exact ⟨e1, e2⟩
              · rw [e, x 212 (32 + 2 * l) (by unfold mL2 mR; omega), x 212 (32 + 2 * l + 1) (by unfold mL2 mR; omega)]; exact hR l h
            refine r_al0 zi_214_2 rfl ?_
            refine r_push zi_214_3 rfl ?_
            refine q_cIV zi_214_5 rfl rfl rfl rfl rfl rfl rfl cf_195_0.ob (hwd _ (fun _ => ?_) (fun z => absurd hb z))
            show zk _ _ 8 _ _ _ _
            refine r_if0 zi_214_8 rfl (fun c => absurd c (by decide)) (fun _ => ?_)
            refine r_il1 zi_214_11 rfl ?_
            refine r_push zi_214_12 rfl ?_
            refine n_ic1 (i := rows.length) (j := 16) zi_214_14 rfl (by omega) (by omega) (fun _ => ?_) (fun c => absurd c (by omega))
            refine r_al0 zi_214_23 rfl ?_
            refine r_push zi_214_24 rfl ?_
            refine r_push zi_214_26 rfl ?_
            refine r_il1 zi_214_27 rfl ?_
            refine r_b2 zi_214_28 rfl ?_
            rw [show (2 * nI rows.length : Int32) = nI (2 * rows.length) from pk_mul _ _]
            refine r_b0 zi_214_29 rfl ?_
            rw [show (32 + nI (2 * rows.length) : Int32) = nI (32 + (2 * rows.length)) from nI_add _ _]
            refine q_cIV zi_214_30 rfl rfl rfl rfl rfl rfl rfl cf_195_0.ob (hen _ (fun i row υ e x z w e1 e2 => ?_) (fun υ bad => ?_))
            · show zk _ _ 33 _ _ _ _
              refine r_push zi_214_33 rfl ?_
              refine r_ic1 zi_214_34 rfl (fun _ => ?_) (fun c => absurd c (by decide))
              refine r_il1 zi_214_39 rfl ?_
              refine r_push zi_214_40 rfl ?_
              refine r_b0 zi_214_41 rfl ?_
              rw [show (nI rows.length + 1 : Int32) = nI (rows.length + 1) from nI_add _ _]
              refine r_is1 zi_214_42 rfl ?_
              refine r_goto zi_214_43 rfl ?_
              exact ih i row υ e z w (hst i row υ e x e1 e2).1 (hst i row υ e x e1 e2).2
            · show zk _ _ 33 _ _ _ _
              refine r_push zi_214_33 rfl ?_
              refine r_ic1 zi_214_34 rfl (fun c => absurd (by decide) c) (fun _ => ?_)
              refine r_push zi_214_37 rfl ?_
              refine r_retI zi_214_38 rfl ?_
              exact ⟨_, rfl, hbad υ bad⟩
      · rw [if_pos c] at hr2
        have herr := herr 1 (Option.some.inj hr2).symm
        refine r_al0 zi_214_2 rfl ?_
        refine r_push zi_214_3 rfl ?_
        refine q_cIV zi_214_5 rfl rfl rfl rfl rfl rfl rfl cf_195_0.ob (hwd _ (fun z => absurd ⟨by omega, by omega⟩ c) (fun _ => ?_))
        show zk _ _ 8 _ _ _ _
        refine r_if0 zi_214_8 rfl (fun _ => ?_) (fun c => absurd (by decide) c)
        refine r_al0 zi_214_46 rfl ?_
        refine q_getI zi_214_47 rfl cf_195_14 ?_
        refine r_if1 zi_214_50 rfl (fun _ => ?_) (fun c => absurd c e14)
        refine r_al0 zi_214_57 rfl ?_
        refine r_push zi_214_58 rfl ?_
        refine q_cIV zi_214_59 rfl rfl rfl rfl rfl rfl rfl cf_195_0.ob (herr _ (fun ω fin => ?_))
        show zk _ _ 62 _ _ _ _
        refine r_retI zi_214_62 rfl ?_
        exact ⟨_, rfl, fin⟩
theorem l_mtid {d N : Nat} {t : Nat → Nat} {b : Nat} {σ : zS} {Q : Int32 → zS → Prop} {r : (Nat × Nat) ⊕ (List Nat × List pRw)} (hE : mEn t b N) (h1 : ∀ rows υ, r = .inr ([], rows) → Fg mX σ υ → mRd υ 48 rows → rows.length ≤ 16 → Q (nI rows.length) υ) (h0 : ∀ q i υ, r = .inl (q, i) → Fg mX σ υ → υ 195 29 = nI q → υ 195 30 = nI (tks t b i) → Q (-1) υ) : ∀ (f j : Nat) (rows : List pRw) (τ : zS), ptx 10017 10017 (pti (tkk t b)) (tkk t b) f j [] rows = some r → mTk τ t b j → j ≤ N → mRd τ 48 rows → rows.length ≤ 16 → Fg mX σ τ → zk (d + 6) 216 2 [.ref 195, .int (nI rows.length)] [] τ (fun r t => ∃ v, r = some v ∧ Q v t) := by
  intro f
  induction f with
  | zero => intro j rows τ hr; cases hr
  | succ f ih =>
    intro j rows τ hr hk hj hR h16 hF
    have hr2 : (if tkk t b j = 30001 then some (.inr ([], rows)) else if ¬ (10017 ≤ tkk t b j ∧ tkk t b j ≤ 10017) then some (.inl (1, j)) else if rows.length = 16 then some (.inl (3, j)) else match pti (tkk t b) j [] with | none => none | some (.inl x) => some (.inl x) | some (.inr (i, ds, row)) => ptx 10017 10017 (pti (tkk t b)) (tkk t b) f i ds (rows ++ [row])) = some r := hr
    have hwd : ∀ (Q2 : Int32 → zS → Prop), (tkk t b j = 10017 → Q2 1 τ) → (¬ tkk t b j = 10017 → Q2 0 τ) → zI1 (d + 5) 195 [.ref 195, .int 17] τ Q2 := fun Q2 g1 g0 => s_mword1 (w := 0) (c := 17) rfl hk.2.2.2 (by decide) g1 g0
    have herr : ∀ q, r = .inl (q, j) → ∀ (Q3 : Int32 → zS → Prop), (∀ ω, Q (-1) ω → Q3 (-1) ω) → zI1 (d + 5) 194 [.ref 195, .int (nI q)] τ Q3 := fun q e Q3 h2 => s_err (n := q) hk (fun ω z1 z2 z3 => h2 ω (h0 q j ω e (hF.tr (z1.sub (fun a b => mA_X))) z2 z3))
    by_cases c0 : tkk t b j = 30001
    · rw [if_pos c0] at hr2
      have h1 := h1 rows τ (Option.some.inj hr2).symm hF hR h16
      have e14 : τ 195 14 = 0 := by
        rcases hk.2.2.2 with ⟨h, e1, e2⟩ | ⟨q, hq, h, e1, e2⟩ | ⟨q, hq, h, e1, e2⟩ | ⟨h, e1⟩ | ⟨h, e1⟩
        · omega
        · omega
        · simp only [tkS, decide_eq_true_eq] at hq; omega
        · omega
        · exact e1
      refine r_al0 zi_216_2 rfl ?_
      refine r_push zi_216_3 rfl ?_
      refine q_cIV zi_216_5 rfl rfl rfl rfl rfl rfl rfl cf_195_0.ob (hwd _ (fun z => absurd z (by omega)) (fun _ => ?_))
      show zk _ _ 8 _ _ _ _
      refine r_if0 zi_216_8 rfl (fun _ => ?_) (fun c => absurd (by decide) c)
      refine r_al0 zi_216_46 rfl ?_
      refine q_getIe zi_216_47 rfl cf_195_14 (v := 0) (by first | exact e14 | ((repeat (first | rw [zup_ne (by first | decide | omega)] | rw [zup_nj (by first | decide | omega)] | rw [fil_ne (by first | decide | omega)])) <;> exact e14) | (simp [up_rd, fil_rd]; exact e14)) ?_
      refine r_if1 zi_216_50 rfl (fun c => absurd (by decide) c) (fun _ => ?_)
      refine r_il1 zi_216_53 rfl ?_
      refine r_goto zi_216_54 rfl ?_
      refine r_retI zi_216_62 rfl ?_
      exact ⟨_, rfl, h1⟩
    · rw [if_neg c0] at hr2
      have e14 : ¬ τ 195 14 = 0 := fun z => by
        rcases hk.2.2.2 with ⟨h, e1, e2⟩ | ⟨q, hq, h, e1, e2⟩ | ⟨q, hq, h, e1, e2⟩ | ⟨h, e1⟩ | ⟨h, e1⟩
        · rw [e1] at z; exact absurd z (by decide)
        · rw [e1] at z; exact absurd z (by decide)
        · rw [e1] at z; exact absurd z (by decide)
        · rw [e1] at z; exact absurd z (by decide)
        · exact c0 h
      by_cases c : 10017 ≤ tkk t b j ∧ tkk t b j ≤ 10017
      · rw [if_neg (fun z => z c)] at hr2
        have hb : tkk t b j = 10017 := by omega
        by_cases c16 : rows.length = 16
        · rw [if_pos c16] at hr2
          have herr := herr 3 (Option.some.inj hr2).symm
          refine r_al0 zi_216_2 rfl ?_
          refine r_push zi_216_3 rfl ?_
          refine q_cIV zi_216_5 rfl rfl rfl rfl rfl rfl rfl cf_195_0.ob (hwd _ (fun _ => ?_) (fun z => absurd hb z))
          show zk _ _ 8 _ _ _ _
          refine r_if0 zi_216_8 rfl (fun c => absurd c (by decide)) (fun _ => ?_)
          refine r_il1 zi_216_11 rfl ?_
          refine r_push zi_216_12 rfl ?_
          refine n_ic1 (i := rows.length) (j := 16) zi_216_14 rfl (by omega) (by omega) (fun c => absurd c (by omega)) (fun _ => ?_)
          refine r_al0 zi_216_17 rfl ?_
          refine r_push zi_216_18 rfl ?_
          refine q_cIV zi_216_19 rfl rfl rfl rfl rfl rfl rfl cf_195_0.ob (herr _ (fun ω fin => ?_))
          show zk _ _ 22 _ _ _ _
          refine r_retI zi_216_22 rfl ?_
          exact ⟨_, rfl, fin⟩
        · rw [if_neg c16] at hr2
          cases hp : pti (tkk t b) j [] with
          | none => rw [hp] at hr2; cases hr2
          | some y =>
            rw [hp] at hr2
            have hbad : ∀ υ, mFa σ t b y υ → Q (-1) υ := fun υ ⟨q, i, e1, e2, e3, e4⟩ => h0 q i υ (by rw [e1] at hr2; exact (Option.some.inj hr2).symm) e2 e3 e4
            have hgo : ∀ i row, y = .inr (i, [], row) → ptx 10017 10017 (pti (tkk t b)) (tkk t b) f i [] (rows ++ [row]) = some r := fun i row e => by rw [e] at hr2; exact hr2
            have ih : ∀ i row υ, y = .inr (i, [], row) → mTk υ t b i → i ≤ N → mRd υ 48 (rows ++ [row]) → Fg mX σ υ → zk (d + 6) 216 2 [.ref 195, .int (nI (rows.length + 1))] [] υ (fun r t => ∃ v, r = some v ∧ Q v t) := fun i row υ e x z w v => by
              have := ih i (rows ++ [row]) υ (hgo i row e) x z w (by rw [List.length_append, List.length_singleton]; omega) v
              rw [List.length_append, List.length_singleton] at this
              exact this
            have hen := fun (Q2 : Int32 → zS → Prop) k1 k0 => s_mdeed (d := d) (at0 := 48 + 3 * rows.length) (Q := Q2) hE (by omega) (by omega) k1 k0 hp hb hF hk hj
            have hst : ∀ i row υ, y = .inr (i, [], row) → Fg (mL3 (48 + 3 * rows.length)) τ υ → υ 213 (48 + 3 * rows.length) = row.1 → υ 213 (48 + 3 * rows.length + 2) = row.2.2.1 → (∃ p, p ≤ 12 ∧ υ 213 (48 + 3 * rows.length + 1) = nI p ∧ row.2.1 = (if p < 12 then nI p else -1)) → mRd υ 48 (rows ++ [row]) ∧ Fg mX σ υ := fun i row υ e x e1 e2 e3 => by
              refine ⟨fun l hl => ?_, hF.tr (x.sub (fun a b z => z.elim mR_X (fun y => by unfold mX; omega)))⟩
              rcases getD_sn (z := ((0, 0, 0, 0) : pRw)) hl with ⟨h, e⟩ | ⟨h, e⟩
              · rw [e, h]; exact ⟨e1, e2, e3⟩
              · rw [e, x 213 (48 + 3 * l) (by unfold mL3 mR; omega), x 213 (48 + 3 * l + 1) (by unfold mL3 mR; omega), x 213 (48 + 3 * l + 2) (by unfold mL3 mR; omega)]; exact hR l h
            refine r_al0 zi_216_2 rfl ?_
            refine r_push zi_216_3 rfl ?_
            refine q_cIV zi_216_5 rfl rfl rfl rfl rfl rfl rfl cf_195_0.ob (hwd _ (fun _ => ?_) (fun z => absurd hb z))
            show zk _ _ 8 _ _ _ _
            refine r_if0 zi_216_8 rfl (fun c => absurd c (by decide)) (fun _ => ?_)
            refine r_il1 zi_216_11 rfl ?_
            refine r_push zi_216_12 rfl ?_
            refine n_ic1 (i := rows.length) (j := 16) zi_216_14 rfl (by omega) (by omega) (fun _ => ?_) (fun c => absurd c (by omega))
            refine r_al0 zi_216_23 rfl ?_
            refine r_push zi_216_24 rfl ?_
            refine r_push zi_216_26 rfl ?_
            refine r_il1 zi_216_27 rfl ?_
            refine r_b2 zi_216_28 rfl ?_
            rw [show (3 * nI rows.length : Int32) = nI (3 * rows.length) from pk_mul _ _]
            refine r_b0 zi_216_29 rfl ?_
            rw [show (48 + nI (3 * rows.length) : Int32) = nI (48 + (3 * rows.length)) from nI_add _ _]
            refine q_cIV zi_216_30 rfl rfl rfl rfl rfl rfl rfl cf_195_0.ob (hen _ (fun i row υ e x z w e1 e2 e3 => ?_) (fun υ bad => ?_))
            · show zk _ _ 33 _ _ _ _
              refine r_push zi_216_33 rfl ?_
              refine r_ic1 zi_216_34 rfl (fun _ => ?_) (fun c => absurd c (by decide))
              refine r_il1 zi_216_39 rfl ?_
              refine r_push zi_216_40 rfl ?_
              refine r_b0 zi_216_41 rfl ?_
              rw [show (nI rows.length + 1 : Int32) = nI (rows.length + 1) from nI_add _ _]
              refine r_is1 zi_216_42 rfl ?_
              refine r_goto zi_216_43 rfl ?_
              exact ih i row υ e z w (hst i row υ e x e1 e2 e3).1 (hst i row υ e x e1 e2 e3).2
            · show zk _ _ 33 _ _ _ _
              refine r_push zi_216_33 rfl ?_
              refine r_ic1 zi_216_34 rfl (fun c => absurd (by decide) c) (fun _ => ?_)
              refine r_push zi_216_37 rfl ?_
              refine r_retI zi_216_38 rfl ?_
              exact ⟨_, rfl, hbad υ bad⟩
      · rw [if_pos c] at hr2
        have herr := herr 1 (Option.some.inj hr2).symm
        refine r_al0 zi_216_2 rfl ?_
        refine r_push zi_216_3 rfl ?_
        refine q_cIV zi_216_5 rfl rfl rfl rfl rfl rfl rfl cf_195_0.ob (hwd _ (fun z => absurd ⟨by omega, by omega⟩ c) (fun _ => ?_))
        show zk _ _ 8 _ _ _ _
        refine r_if0 zi_216_8 rfl (fun _ => ?_) (fun c => absurd (by decide) c)
        refine r_al0 zi_216_46 rfl ?_
        refine q_getI zi_216_47 rfl cf_195_14 ?_
        refine r_if1 zi_216_50 rfl (fun _ => ?_) (fun c => absurd c e14)
        refine r_al0 zi_216_57 rfl ?_
        refine r_push zi_216_58 rfl ?_
        refine q_cIV zi_216_59 rfl rfl rfl rfl rfl rfl rfl cf_195_0.ob (herr _ (fun ω fin => ?_))
        show zk _ _ 62 _ _ _ _
        refine r_retI zi_216_62 rfl ?_
        exact ⟨_, rfl, fin⟩
theorem l_mroads2 {d N : Nat} {t : Nat → Nat} {b : Nat} {σ : zS} {Q : Int32 → zS → Prop} {r : (Nat × Nat) ⊕ (List Nat × List pRw)} (hE : mEn t b N) (h1 : ∀ rows υ, r = .inr ([], rows) → Fg mX σ υ → ((∀ p, p < 12 → υ 214 (12 + p) = pBs rows p) ∧ ∀ x, x ∈ rows → pRv x) → rows.length ≤ 16 → Q (nI rows.length) υ) (h0 : ∀ q i υ, r = .inl (q, i) → Fg mX σ υ → υ 195 29 = nI q → υ 195 30 = nI (tks t b i) → Q (-1) υ) : ∀ (f j : Nat) (rows : List pRw) (τ : zS), ptx 10026 10026 (pro (tkk t b)) (tkk t b) f j [] rows = some r → mTk τ t b j → j ≤ N → ((∀ p, p < 12 → τ 214 (12 + p) = pBs rows p) ∧ ∀ x, x ∈ rows → pRv x) → rows.length ≤ 16 → Fg mX σ τ → zk (d + 6) 218 26 [.ref 195, .int (nI rows.length)] [] τ (fun r t => ∃ v, r = some v ∧ Q v t) := by
  intro f
  induction f with
  | zero => intro j rows τ hr; cases hr
  | succ f ih =>
    intro j rows τ hr hk hj hR h16 hF
    have hr2 : (if tkk t b j = 30001 then some (.inr ([], rows)) else if ¬ (10026 ≤ tkk t b j ∧ tkk t b j ≤ 10026) then some (.inl (1, j)) else if rows.length = 16 then some (.inl (3, j)) else match pro (tkk t b) j [] with | none => none | some (.inl x) => some (.inl x) | some (.inr (i, ds, row)) => ptx 10026 10026 (pro (tkk t b)) (tkk t b) f i ds (rows ++ [row])) = some r := hr
    have hwd : ∀ (Q2 : Int32 → zS → Prop), (tkk t b j = 10026 → Q2 1 τ) → (¬ tkk t b j = 10026 → Q2 0 τ) → zI1 (d + 5) 195 [.ref 195, .int 26] τ Q2 := fun Q2 g1 g0 => s_mword1 (w := 0) (c := 26) rfl hk.2.2.2 (by decide) g1 g0
    have herr : ∀ q, r = .inl (q, j) → ∀ (Q3 : Int32 → zS → Prop), (∀ ω, Q (-1) ω → Q3 (-1) ω) → zI1 (d + 5) 194 [.ref 195, .int (nI q)] τ Q3 := fun q e Q3 h2 => s_err (n := q) hk (fun ω z1 z2 z3 => h2 ω (h0 q j ω e (hF.tr (z1.sub (fun a b => mA_X))) z2 z3))
    by_cases c0 : tkk t b j = 30001
    · rw [if_pos c0] at hr2
      have h1 := h1 rows τ (Option.some.inj hr2).symm hF hR h16
      have e14 : τ 195 14 = 0 := by
        rcases hk.2.2.2 with ⟨h, e1, e2⟩ | ⟨q, hq, h, e1, e2⟩ | ⟨q, hq, h, e1, e2⟩ | ⟨h, e1⟩ | ⟨h, e1⟩
        · omega
        · omega
        · simp only [tkS, decide_eq_true_eq] at hq; omega
        · omega
        · exact e1
      refine r_al0 zi_218_26 rfl ?_
      refine r_push zi_218_27 rfl ?_
      refine q_cIV zi_218_29 rfl rfl rfl rfl rfl rfl rfl cf_195_0.ob (hwd _ (fun z => absurd z (by omega)) (fun _ => ?_))
      show zk _ _ 32 _ _ _ _
      refine r_if0 zi_218_32 rfl (fun _ => ?_) (fun c => absurd (by decide) c)
      refine r_al0 zi_218_64 rfl ?_
      refine q_getIe zi_218_65 rfl cf_195_14 (v := 0) (by first | exact e14 | ((repeat (first | rw [zup_ne (by first | decide | omega)] | rw [zup_nj (by first | decide | omega)] | rw [fil_ne (by first | decide | omega)])) <;> exact e14) | (simp [up_rd, fil_rd]; exact e14)) ?_
      refine r_if1 zi_218_68 rfl (fun c => absurd (by decide) c) (fun _ => ?_)
      refine r_il1 zi_218_71 rfl ?_
      refine r_goto zi_218_72 rfl ?_
      refine r_retI zi_218_80 rfl ?_
      exact ⟨_, rfl, h1⟩
    · rw [if_neg c0] at hr2
      have e14 : ¬ τ 195 14 = 0 := fun z => by
        rcases hk.2.2.2 with ⟨h, e1, e2⟩ | ⟨q, hq, h, e1, e2⟩ | ⟨q, hq, h, e1, e2⟩ | ⟨h, e1⟩ | ⟨h, e1⟩
        · rw [e1] at z; exact absurd z (by decide)
        · rw [e1] at z; exact absurd z (by decide)
        · rw [e1] at z; exact absurd z (by decide)
        · rw [e1] at z; exact absurd z (by decide)
        · exact c0 h
      by_cases c : 10026 ≤ tkk t b j ∧ tkk t b j ≤ 10026
      · rw [if_neg (fun z => z c)] at hr2
        have hb : tkk t b j = 10026 := by omega
        by_cases c16 : rows.length = 16
        · rw [if_pos c16] at hr2
          have herr := herr 3 (Option.some.inj hr2).symm
          refine r_al0 zi_218_26 rfl ?_
          refine r_push zi_218_27 rfl ?_
          refine q_cIV zi_218_29 rfl rfl rfl rfl rfl rfl rfl cf_195_0.ob (hwd _ (fun _ => ?_) (fun z => absurd hb z))
          show zk _ _ 32 _ _ _ _
          refine r_if0 zi_218_32 rfl (fun c => absurd c (by decide)) (fun _ => ?_)
          refine r_il1 zi_218_35 rfl ?_
          refine r_push zi_218_36 rfl ?_
          refine n_ic1 (i := rows.length) (j := 16) zi_218_38 rfl (by omega) (by omega) (fun c => absurd c (by omega)) (fun _ => ?_)
          refine r_al0 zi_218_41 rfl ?_
          refine r_push zi_218_42 rfl ?_
          refine q_cIV zi_218_43 rfl rfl rfl rfl rfl rfl rfl cf_195_0.ob (herr _ (fun ω fin => ?_))
          show zk _ _ 46 _ _ _ _
          refine r_retI zi_218_46 rfl ?_
          exact ⟨_, rfl, fin⟩
        · rw [if_neg c16] at hr2
          cases hp : pro (tkk t b) j [] with
          | none => rw [hp] at hr2; cases hr2
          | some y =>
            rw [hp] at hr2
            have hbad : ∀ υ, mFa σ t b y υ → Q (-1) υ := fun υ ⟨q, i, e1, e2, e3, e4⟩ => h0 q i υ (by rw [e1] at hr2; exact (Option.some.inj hr2).symm) e2 e3 e4
            have hgo : ∀ i row, y = .inr (i, [], row) → ptx 10026 10026 (pro (tkk t b)) (tkk t b) f i [] (rows ++ [row]) = some r := fun i row e => by rw [e] at hr2; exact hr2
            have ih : ∀ i row υ, y = .inr (i, [], row) → mTk υ t b i → i ≤ N → ((∀ p, p < 12 → υ 214 (12 + p) = pBs (rows ++ [row]) p) ∧ ∀ x, x ∈ (rows ++ [row]) → pRv x) → Fg mX σ υ → zk (d + 6) 218 26 [.ref 195, .int (nI (rows.length + 1))] [] υ (fun r t => ∃ v, r = some v ∧ Q v t) := fun i row υ e x z w v => by
              have := ih i (rows ++ [row]) υ (hgo i row e) x z w (by rw [List.length_append, List.length_singleton]; omega) v
              rw [List.length_append, List.length_singleton] at this
              exact this
            have hen := fun (Q2 : Int32 → zS → Prop) k1 k0 => s_mroad (d := d) (Q := Q2) hE k1 k0 hp hb hF hk hj
            have hst : ∀ i row υ, y = .inr (i, [], row) → Fg mL4 τ υ → pRv row → (∀ p, p < 12 → υ 214 (12 + p) = pB1 row (fun p => τ 214 (12 + p)) p) → ((∀ p, p < 12 → υ 214 (12 + p) = pBs (rows ++ [row]) p) ∧ ∀ x, x ∈ rows ++ [row] → pRv x) ∧ Fg mX σ υ := fun i row υ e x e1 e2 => by
              refine ⟨⟨fun p hp => ?_, fun x hx => ?_⟩, hF.tr (x.sub (fun a b z => z.elim mR_X (fun y => by unfold mX; omega)))⟩
              · rw [e2 p hp, pBs_s]; exact pB1_x e1 hR.1 p hp
              · rcases List.mem_append.mp hx with h | h
                · exact hR.2 x h
                · rw [List.mem_singleton.mp h]; exact e1
            refine r_al0 zi_218_26 rfl ?_
            refine r_push zi_218_27 rfl ?_
            refine q_cIV zi_218_29 rfl rfl rfl rfl rfl rfl rfl cf_195_0.ob (hwd _ (fun _ => ?_) (fun z => absurd hb z))
            show zk _ _ 32 _ _ _ _
            refine r_if0 zi_218_32 rfl (fun c => absurd c (by decide)) (fun _ => ?_)
            refine r_il1 zi_218_35 rfl ?_
            refine r_push zi_218_36 rfl ?_
            refine n_ic1 (i := rows.length) (j := 16) zi_218_38 rfl (by omega) (by omega) (fun _ => ?_) (fun c => absurd c (by omega))
            refine r_al0 zi_218_47 rfl ?_
            refine q_cIV zi_218_48 rfl rfl rfl rfl rfl rfl rfl cf_195_0.ob (hen _ (fun i row υ e x z w e1 e2 => ?_) (fun υ bad => ?_))
            · show zk _ _ 51 _ _ _ _
              refine r_push zi_218_51 rfl ?_
              refine r_ic1 zi_218_52 rfl (fun _ => ?_) (fun c => absurd c (by decide))
              refine r_il1 zi_218_57 rfl ?_
              refine r_push zi_218_58 rfl ?_
              refine r_b0 zi_218_59 rfl ?_
              rw [show (nI rows.length + 1 : Int32) = nI (rows.length + 1) from nI_add _ _]
              refine r_is1 zi_218_60 rfl ?_
              refine r_goto zi_218_61 rfl ?_
              exact ih i row υ e z w (hst i row υ e x e1 e2).1 (hst i row υ e x e1 e2).2
            · show zk _ _ 51 _ _ _ _
              refine r_push zi_218_51 rfl ?_
              refine r_ic1 zi_218_52 rfl (fun c => absurd (by decide) c) (fun _ => ?_)
              refine r_push zi_218_55 rfl ?_
              refine r_retI zi_218_56 rfl ?_
              exact ⟨_, rfl, hbad υ bad⟩
      · rw [if_pos c] at hr2
        have herr := herr 1 (Option.some.inj hr2).symm
        refine r_al0 zi_218_26 rfl ?_
        refine r_push zi_218_27 rfl ?_
        refine q_cIV zi_218_29 rfl rfl rfl rfl rfl rfl rfl cf_195_0.ob (hwd _ (fun z => absurd ⟨by omega, by omega⟩ c) (fun _ => ?_))
        show zk _ _ 32 _ _ _ _
        refine r_if0 zi_218_32 rfl (fun _ => ?_) (fun c => absurd (by decide) c)
        refine r_al0 zi_218_64 rfl ?_
        refine q_getI zi_218_65 rfl cf_195_14 ?_
        refine r_if1 zi_218_68 rfl (fun _ => ?_) (fun c => absurd c e14)
        refine r_al0 zi_218_75 rfl ?_
        refine r_push zi_218_76 rfl ?_
        refine q_cIV zi_218_77 rfl rfl rfl rfl rfl rfl rfl cf_195_0.ob (herr _ (fun ω fin => ?_))
        show zk _ _ 80 _ _ _ _
        refine r_retI zi_218_80 rfl ?_
        exact ⟨_, rfl, fin⟩

