/-! A REALM BECOMES ANOTHER -/
def rBp (T U m : Nat) (σ τ : zS) : Prop := (∀ a b, a ≤ T ∨ T + m ≤ a → τ a b = σ a b) ∧ ∀ a b, vRg a b → a < m + 1 → τ (a + T - 1) b = σ (a + U - 1) b
theorem rBp_s {T U m m' : Nat} {σ τ υ : zS} (hd : T + 36 < U ∨ U + 36 < T) (hT : 1 ≤ T) (hm1 : 1 ≤ m) (hm : m ≤ m') (hm2 : m' ≤ 37) (h : rBp T U m σ τ) (h1 : ∀ a b, a < T + m ∨ T + m' ≤ a → υ a b = τ a b) (h2 : ∀ a b, vRg a b → m + 1 ≤ a → a < m' + 1 → υ (a + T - 1) b = τ (a + U - 1) b) : rBp T U m' σ υ := ⟨fun a b h' => (h1 a b (by omega)).trans (h.1 a b (by omega)), fun a b hv ha => by
  by_cases e : a < m + 1
  · exact (h1 _ b (by omega)).trans (h.2 a b hv e)
  · exact (h2 a b hv (by omega) ha).trans (h.1 _ b (by omega))⟩
theorem rB_d {T U : Nat} {σ υ : zS} (hd : T + 36 < U ∨ U + 36 < T) (hT : 1 ≤ T) (h : dBe (T + 1) (U + 1) σ υ) : rBp T U 13 σ υ := by
  refine rBp_s (m := 1) (τ := σ) hd hT (by omega) (by omega) (by omega) ⟨fun _ _ _ => rfl, fun a b hv ha => ?_⟩ (fun a b h' => h.1 a b (by omega)) (fun a b hv h1 h2 => ?_)
  · unfold vRg at hv; omega
  · unfold vRg at hv
    by_cases e : a = 2
    · subst e
      rw [show 2 + T - 1 = T + 1 by omega, show 2 + U - 1 = U + 1 by omega]
      exact h.2.2 b (by omega) (by omega)
    · have q := h.2.1 (a - 3) b (by omega) (by unfold dRa; omega)
      rw [show T + 1 + 1 + (a - 3) = a + T - 1 by omega, show U + 1 + 1 + (a - 3) = a + U - 1 by omega] at q
      exact q
theorem rB_b {T U x y : Nat} {σ τ : zS} (hd : T + 36 < U ∨ U + 36 < T) (hT : 1 ≤ T) (hx : x = T + 13) (hy : y = U + 13) (h : rBp T U 13 σ τ) : rBp T U 14 σ (fil τ x 600 (τ y)) := by
  subst hx hy
  refine rBp_s hd hT (by omega) (by omega) (by omega) h (fun a b h' => if_neg (by omega)) (fun a b hv h1 h2 => ?_)
  have e : a = 14 := by omega
  subst e
  unfold vRg at hv
  rw [show 14 + T - 1 = T + 13 by omega, show 14 + U - 1 = U + 13 by omega]
  exact if_pos ⟨rfl, by omega⟩
theorem rB_t {T U m x y N : Nat} {σ τ υ : zS} (hd : T + 36 < U ∨ U + 36 < T) (hT : 1 ≤ T) (hm : m = 14 ∧ N = 400 ∨ m = 17 ∨ m = 20 ∨ m = 23) (hx : x = T + m) (hy : y = U + m) (h : rBp T U m σ τ) (ht : tBe x y N N τ υ) : rBp T U (m + 3) σ υ := by
  subst hx hy
  refine rBp_s hd hT (by omega) (by omega) (by omega) h (fun a b h' => ht.1 a b (by omega) (by omega) (by omega)) (fun a b hv h1 h2 => ?_)
  unfold vRg at hv
  by_cases e : a = m + 1
  · subst e
    rw [show m + 1 + T - 1 = T + m by omega, show m + 1 + U - 1 = U + m by omega, show b = 2 by omega]
    exact ht.2.2.2.1
  · by_cases e2 : a = m + 2
    · subst e2
      rw [show m + 2 + T - 1 = T + m + 1 by omega, show m + 2 + U - 1 = U + m + 1 by omega]
      exact ht.2.1 b (by omega)
    · have e3 : a = m + 3 := by omega
      subst e3
      rw [show m + 3 + T - 1 = T + m + 2 by omega, show m + 3 + U - 1 = U + m + 2 by omega]
      exact ht.2.2.1 b (by rw [Nat.min_self]; omega)
theorem rB_w {T U x : Nat} {σ τ υ : zS} (hd : T + 36 < U ∨ U + 36 < T) (hT : 1 ≤ T) (hx : x = T + 26) (h : rBp T U 26 σ τ) (hf : Fr [x + 1, x + 2] τ υ) : rBp T U 29 σ υ := by
  subst hx
  refine rBp_s hd hT (by omega) (by omega) (by omega) h (fun a b h' => hf a (by simp; omega) b) (fun a b hv h1 h2 => ?_)
  unfold vRg at hv; omega
theorem zk_bk {d y pc : Nat} {L S : List Value} {P : zS → Prop} {τ : zS} {Q : Option Int32 → zS → Prop} (h : P τ) (k : ∀ υ, P υ → zk d y pc L S υ Q) : zk d y pc L S τ Q := k τ h
/-- what is told becomes another's -/
def oBe (T U N : Nat) (τ υ : zS) : Prop := (∀ a b, a ≠ T + 1 → ¬ (a = T ∧ b = 1) → υ a b = τ a b) ∧ (∀ b, b < N → υ (T + 1) b = τ (U + 1) b) ∧ υ T 1 = τ U 1
theorem s_obec {d T U N : Nat} {τ : zS} {Q : zS → Prop} (hT : zTo T N) (hU : zTo U N) (hN : N ≤ 100) (hd : T + 1 < U ∨ U + 1 < T) (hq : ∀ υ, oBe T U N τ υ → Q υ) : zV1 d 113 [.ref T, .ref U] τ Q := by
  have hmin : (if nI N < nI N then nI N else nI N) = nI N := by split <;> rfl
  have e1 : fil τ (T + 1) N (τ (U + 1)) U 1 = τ U 1 := if_neg (fun z => by omega)
  have hfin : ∀ x, x = τ U 1 → Q (up (fil τ (T + 1) N (τ (U + 1))) T 1 x) := fun x hx => hq _ ⟨fun a b h1 h2 => (zup_n2 h2).trans (if_neg (fun z => h1 z.1)), fun b hb => (zup_ne (by omega)).trans (if_pos ⟨rfl, hb⟩), zup_eq.trans hx⟩
  show zk _ _ 0 [.ref T, .ref U] [] _ _
  refine r_al1 zi_113_0 rfl ?_
  refine q_getR zi_113_1 rfl hU.1 ?_
  refine r_push zi_113_4 rfl ?_
  refine r_al0 zi_113_5 rfl ?_
  refine q_getR zi_113_6 rfl hT.1 ?_
  refine r_push zi_113_9 rfl ?_
  refine r_al0 zi_113_10 rfl ?_
  refine q_getR zi_113_11 rfl hT.1 ?_
  refine r_alen zi_113_14 rfl hT.2.2 ?_
  refine r_al1 zi_113_15 rfl ?_
  refine q_getR zi_113_16 rfl hU.1 ?_
  refine r_alen zi_113_19 rfl hU.2.2 ?_
  refine r_min zi_113_20 rfl ?_
  rw [hmin]
  refine r_acpy (k := N) zi_113_23 rfl hU.2.2 hT.2.2 rfl (Nat.le_refl _) (Nat.le_refl _) ?_
  refine r_al0 zi_113_26 rfl ?_
  refine r_al1 zi_113_27 rfl ?_
  refine q_getI zi_113_28 rfl hU.2.1 ?_
  refine q_put zi_113_31 rfl hT.2.1 rfl ?_
  refine r_ret zi_113_34 rfl ?_
  exact ⟨rfl, hfin _ e1⟩
theorem rB_o {T U m x y N : Nat} {σ τ υ : zS} (hd : T + 36 < U ∨ U + 36 < T) (hT : 1 ≤ T) (hm : m = 29 ∧ N = 8 ∨ m = 31 ∧ N = 5 ∨ (m = 33 ∨ m = 35) ∧ N = 10) (hx : x = T + m) (hy : y = U + m) (h : rBp T U m σ τ) (ht : oBe x y N τ υ) : rBp T U (m + 2) σ υ := by
  subst hx hy
  refine rBp_s hd hT (by omega) (by omega) (by omega) h (fun a b h' => ht.1 a b (by omega) (by omega)) (fun a b hv h1 h2 => ?_)
  unfold vRg at hv
  by_cases e : a = m + 1
  · subst e
    rw [show m + 1 + T - 1 = T + m by omega, show m + 1 + U - 1 = U + m by omega, show b = 1 by omega]
    exact ht.2.2
  · have e2 : a = m + 2 := by omega
    subst e2
    rw [show m + 2 + T - 1 = T + m + 1 by omega, show m + 2 + U - 1 = U + m + 1 by omega]
    exact ht.2.1 b (by omega)
def rRo (σ : zS) (U : Nat) (rows : List pRw) : Prop := σ (U + 23) 2 = nI rows.length ∧ rows.length ≤ 16 ∧ kRw σ (U + 24) rows ∧ ∀ x, x ∈ rows → pRv x
theorem s_lrn1 {d : Nat} {σ τ : zS} {Q : zS → Prop} {rows : List pRw} (hr : rRo τ 38 rows) (h : rBp 1 38 23 σ τ) (hq : ∀ υ, rBp 1 38 29 σ υ → (∀ p, p < 12 → υ 28 p = pBs rows p) → zhd υ 27 → Q υ) : zV1 (d + 3) 54 [.ref 1, .int 3, .ref 61] τ Q := by
  have hTx : zTx 24 0 := ⟨cf_24_0, cf_24_1, cf_24_2, cf_24_3, ca_25, ca_26⟩
  have hUx : zTx 61 0 := ⟨cf_61_0, cf_61_1, cf_61_2, cf_61_3, ca_62, ca_63⟩
  have hWx : zWa 27 := ⟨cf_27_0, cf_27_1, ca_28, ca_29⟩
  have tb : ∀ (Q2 : zS → Prop), (∀ ω, tBe 24 61 0 0 τ ω → Q2 ω) → zV1 (d + 2) 94 [.ref 24, .ref 61] τ Q2 := fun Q2 h2 => s_tbec hTx hUx (by decide) (by decide) (by decide) h2
  have hms : ∀ ω, tBe 24 61 0 0 τ ω → ∀ (Q2 : zS → Prop), (∀ ξ, Q ξ → Q2 ξ) → zV1 (d + 2) 115 [.ref 27, .ref 24] ω Q2 := fun ω x Q2 h2 => s_meas hWx hTx (by decide) (x.2.2.2.1.trans hr.1) hr.2.1 (kRw_f hr.2.2.1 hr.2.1 (fun b hb => x.2.1 b hb)) hr.2.2.2 (fun ξ y1 y2 y3 => h2 ξ (hq ξ (rB_w (by decide) (by decide) rfl (rB_t (by decide) (by decide) (Or.inr (Or.inr (Or.inr rfl))) rfl rfl h x) y1) y2 y3))
  show zk _ _ 0 [.ref 1, .int 3, .ref 61] [] _ _
  refine r_il1 zi_54_0 rfl ?_
  refine r_sw zi_54_1 rfl ?_
  rw [show zsw [(0, 28), (1, 39), (2, 50)] 61 3 = 61 from by decide]
  refine r_al0 zi_54_61 rfl ?_
  refine q_getR zi_54_62 rfl cf_1_5 ?_
  refine r_al2 zi_54_65 rfl ?_
  refine q_cVV zi_54_66 rfl rfl rfl rfl rfl rfl rfl cf_24_0.ob (tb _ (fun ω x => ?_))
  show zk _ _ 69 _ _ _ _
  refine r_al0 zi_54_69 rfl ?_
  refine q_getR zi_54_70 rfl cf_1_6 ?_
  refine r_al0 zi_54_73 rfl ?_
  refine q_getR zi_54_74 rfl cf_1_5 ?_
  refine q_cVV zi_54_77 rfl rfl rfl rfl rfl rfl rfl cf_27_0.ob (hms ω x _ (fun ξ fin => ?_))
  show zk _ _ 80 _ _ _ _
  refine r_ret zi_54_80 rfl ?_
  exact ⟨rfl, fin⟩
theorem s_rbec1 {d : Nat} {σ : zS} {Q : zS → Prop} {rows : List pRw} (hr : rRo σ 38 rows) (hq : ∀ υ, rBp 1 38 37 σ υ → (∀ p, p < 12 → υ 28 p = pBs rows p) → zhd υ 27 → Q υ) : zV1 (d + 4) 53 [.ref 1, .ref 38] σ Q := by
  have hlr : ∀ τ, rBp 1 38 23 σ τ → ∀ (Q2 : zS → Prop), (∀ υ, rBp 1 38 29 σ υ → (∀ p, p < 12 → υ 28 p = pBs rows p) → zhd υ 27 → Q2 υ) → zV1 (d + 3) 54 [.ref 1, .int 3, .ref 61] τ Q2 := fun τ h Q2 h2 => s_lrn1 ⟨(h.1 61 2 (by decide)).trans hr.1, hr.2.1, kRw_f hr.2.2.1 hr.2.1 (fun b _ => h.1 62 b (by decide)), hr.2.2.2⟩ h h2
  have fin : ∀ υ ω, rBp 1 38 29 σ υ → (∀ p, p < 12 → υ 28 p = pBs rows p) → zhd υ 27 → rBp 1 38 37 σ ω → (∀ a b, a ≤ 29 → ω a b = υ a b) → Q ω := fun υ ω k1 k2 k3 k4 k5 => hq ω k4 (fun p hp => (k5 _ p (by decide)).trans (k2 p hp)) (fun a b ha hb => by
    show ω 29 _ = zdV (ω 28) a b
    rw [k5 29 _ (by decide), show ω 28 = υ 28 from funext (fun b => k5 28 b (by decide))]
    exact k3 a b ha hb)
  have hl : ∀ (T' U' N : Nat) (τ : zS), T' > 29 → ∀ ω, oBe T' U' N τ ω → ∀ a b, a ≤ 29 → ω a b = τ a b := fun T' U' N τ hT ω h a b ha => h.1 a b (by omega) (by omega)
  show zk _ _ 0 [.ref 1, .ref 38] [] _ _
  refine r_al0 zi_53_0 rfl ?_
  refine q_getR zi_53_1 rfl cf_1_0 ?_
  refine r_al1 zi_53_4 rfl ?_
  refine q_getR zi_53_5 rfl cf_38_0 ?_
  refine q_cVV zi_53_8 rfl rfl rfl rfl rfl rfl rfl cf_2_0.ob (s_dbec zDu_2 zDu_39 (by decide) (fun υ1 b1 => ?_))
  show zk _ _ 11 _ _ _ _
  refine r_al1 zi_53_11 rfl ?_
  refine q_getR zi_53_12 rfl cf_38_1 ?_
  refine r_push zi_53_15 rfl ?_
  refine r_al0 zi_53_16 rfl ?_
  refine q_getR zi_53_17 rfl cf_1_1 ?_
  refine r_push zi_53_20 rfl ?_
  refine r_al0 zi_53_21 rfl ?_
  refine q_getR zi_53_22 rfl cf_1_1 ?_
  refine r_alen zi_53_25 rfl ca_14 ?_
  refine r_acpy (k := 600) zi_53_26 rfl ca_51 ca_14 rfl (by decide) (by decide) ?_
  refine zk_bk (P := rBp 1 38 14 σ) (rB_b (x := 14) (y := 51) (by decide) (by decide) rfl rfl (rB_d (by decide) (by decide) b1)) (fun υ2 b2 => ?_)
  refine r_al0 zi_53_29 rfl ?_
  refine q_getR zi_53_30 rfl cf_1_2 ?_
  refine r_al1 zi_53_33 rfl ?_
  refine q_getR zi_53_34 rfl cf_38_2 ?_
  refine q_cVV zi_53_37 rfl rfl rfl rfl rfl rfl rfl cf_15_0.ob (s_tbec (N := 400) (M := 400) ⟨cf_15_0, cf_15_1, cf_15_2, cf_15_3, ca_16, ca_17⟩ ⟨cf_52_0, cf_52_1, cf_52_2, cf_52_3, ca_53, ca_54⟩ (by decide) (by decide) (by decide) (fun υ3 b3 => ?_))
  show zk _ _ 40 _ _ _ _
  refine r_al0 zi_53_40 rfl ?_
  refine q_getR zi_53_41 rfl cf_1_3 ?_
  refine r_al1 zi_53_44 rfl ?_
  refine q_getR zi_53_45 rfl cf_38_3 ?_
  refine q_cVV zi_53_48 rfl rfl rfl rfl rfl rfl rfl cf_18_0.ob (s_tbec (N := 0) (M := 0) ⟨cf_18_0, cf_18_1, cf_18_2, cf_18_3, ca_19, ca_20⟩ ⟨cf_55_0, cf_55_1, cf_55_2, cf_55_3, ca_56, ca_57⟩ (by decide) (by decide) (by decide) (fun υ4 b4 => ?_))
  show zk _ _ 51 _ _ _ _
  refine r_al0 zi_53_51 rfl ?_
  refine q_getR zi_53_52 rfl cf_1_4 ?_
  refine r_al1 zi_53_55 rfl ?_
  refine q_getR zi_53_56 rfl cf_38_4 ?_
  refine q_cVV zi_53_59 rfl rfl rfl rfl rfl rfl rfl cf_21_0.ob (s_tbec (N := 0) (M := 0) ⟨cf_21_0, cf_21_1, cf_21_2, cf_21_3, ca_22, ca_23⟩ ⟨cf_58_0, cf_58_1, cf_58_2, cf_58_3, ca_59, ca_60⟩ (by decide) (by decide) (by decide) (fun υ5 b5 => ?_))
  show zk _ _ 62 _ _ _ _
  refine r_al0 zi_53_62 rfl ?_
  refine r_push zi_53_63 rfl ?_
  refine r_al1 zi_53_64 rfl ?_
  refine q_getR zi_53_65 rfl cf_38_5 ?_
  refine q_cVV zi_53_68 rfl rfl rfl rfl rfl rfl rfl cf_1_0.ob (hlr υ5 (rB_t (by decide) (by decide) (Or.inr (Or.inr (Or.inl rfl))) rfl rfl (rB_t (by decide) (by decide) (Or.inr (Or.inl rfl)) rfl rfl (rB_t (by decide) (by decide) (Or.inl ⟨rfl, rfl⟩) rfl rfl b2 b3) b4) b5) _ (fun υ6 b6 c6 e6 => ?_))
  show zk _ _ 71 _ _ _ _
  refine r_al0 zi_53_71 rfl ?_
  refine q_getR zi_53_72 rfl cf_1_7 ?_
  refine r_al1 zi_53_75 rfl ?_
  refine q_getR zi_53_76 rfl cf_38_7 ?_
  refine q_cVV zi_53_79 rfl rfl rfl rfl rfl rfl rfl cf_30_0.ob (s_obec (N := 8) ⟨cf_30_0, cf_30_1, ca_31⟩ ⟨cf_67_0, cf_67_1, ca_68⟩ (by decide) (by decide) (fun υ7 b7 => ?_))
  show zk _ _ 82 _ _ _ _
  refine r_al0 zi_53_82 rfl ?_
  refine q_getR zi_53_83 rfl cf_1_8 ?_
  refine r_al1 zi_53_86 rfl ?_
  refine q_getR zi_53_87 rfl cf_38_8 ?_
  refine q_cVV zi_53_90 rfl rfl rfl rfl rfl rfl rfl cf_32_0.ob (s_obec (N := 5) ⟨cf_32_0, cf_32_1, ca_33⟩ ⟨cf_69_0, cf_69_1, ca_70⟩ (by decide) (by decide) (fun υ8 b8 => ?_))
  show zk _ _ 93 _ _ _ _
  refine r_al0 zi_53_93 rfl ?_
  refine q_getR zi_53_94 rfl cf_1_9 ?_
  refine r_al1 zi_53_97 rfl ?_
  refine q_getR zi_53_98 rfl cf_38_9 ?_
  refine q_cVV zi_53_101 rfl rfl rfl rfl rfl rfl rfl cf_34_0.ob (s_obec (N := 10) ⟨cf_34_0, cf_34_1, ca_35⟩ ⟨cf_71_0, cf_71_1, ca_72⟩ (by decide) (by decide) (fun υ9 b9 => ?_))
  show zk _ _ 104 _ _ _ _
  refine r_al0 zi_53_104 rfl ?_
  refine q_getR zi_53_105 rfl cf_1_10 ?_
  refine r_al1 zi_53_108 rfl ?_
  refine q_getR zi_53_109 rfl cf_38_10 ?_
  refine q_cVV zi_53_112 rfl rfl rfl rfl rfl rfl rfl cf_36_0.ob (s_obec (N := 10) ⟨cf_36_0, cf_36_1, ca_37⟩ ⟨cf_73_0, cf_73_1, ca_74⟩ (by decide) (by decide) (fun υ10 b10 => ?_))
  show zk _ _ 115 _ _ _ _
  refine r_ret zi_53_115 rfl ?_
  have r7 := rB_o (by decide) (by decide) (Or.inl ⟨rfl, rfl⟩) rfl rfl b6 b7
  have r8 := rB_o (by decide) (by decide) (Or.inr (Or.inl ⟨rfl, rfl⟩)) rfl rfl r7 b8
  have r9 := rB_o (by decide) (by decide) (Or.inr (Or.inr ⟨Or.inl rfl, rfl⟩)) rfl rfl r8 b9
  have r10 := rB_o (by decide) (by decide) (Or.inr (Or.inr ⟨Or.inr rfl, rfl⟩)) rfl rfl r9 b10
  exact ⟨rfl, fin υ6 υ10 b6 c6 e6 r10 (fun a b ha => (((hl _ _ _ _ (by decide) _ b10 a b ha).trans (hl _ _ _ _ (by decide) _ b9 a b ha)).trans (hl _ _ _ _ (by decide) _ b8 a b ha)).trans (hl _ _ _ _ (by decide) _ b7 a b ha))⟩
theorem s_lrn38 {d : Nat} {σ τ : zS} {Q : zS → Prop} {rows : List pRw} (hr : rRo τ 1 rows) (h : rBp 38 1 23 σ τ) (hq : ∀ υ, rBp 38 1 29 σ υ → (∀ p, p < 12 → υ 65 p = pBs rows p) → zhd υ 64 → Q υ) : zV1 (d + 3) 54 [.ref 38, .int 3, .ref 24] τ Q := by
  have hTx : zTx 61 0 := ⟨cf_61_0, cf_61_1, cf_61_2, cf_61_3, ca_62, ca_63⟩
  have hUx : zTx 24 0 := ⟨cf_24_0, cf_24_1, cf_24_2, cf_24_3, ca_25, ca_26⟩
  have hWx : zWa 64 := ⟨cf_64_0, cf_64_1, ca_65, ca_66⟩
  have tb : ∀ (Q2 : zS → Prop), (∀ ω, tBe 61 24 0 0 τ ω → Q2 ω) → zV1 (d + 2) 94 [.ref 61, .ref 24] τ Q2 := fun Q2 h2 => s_tbec hTx hUx (by decide) (by decide) (by decide) h2
  have hms : ∀ ω, tBe 61 24 0 0 τ ω → ∀ (Q2 : zS → Prop), (∀ ξ, Q ξ → Q2 ξ) → zV1 (d + 2) 115 [.ref 64, .ref 61] ω Q2 := fun ω x Q2 h2 => s_meas hWx hTx (by decide) (x.2.2.2.1.trans hr.1) hr.2.1 (kRw_f hr.2.2.1 hr.2.1 (fun b hb => x.2.1 b hb)) hr.2.2.2 (fun ξ y1 y2 y3 => h2 ξ (hq ξ (rB_w (by decide) (by decide) rfl (rB_t (by decide) (by decide) (Or.inr (Or.inr (Or.inr rfl))) rfl rfl h x) y1) y2 y3))
  show zk _ _ 0 [.ref 38, .int 3, .ref 24] [] _ _
  refine r_il1 zi_54_0 rfl ?_
  refine r_sw zi_54_1 rfl ?_
  rw [show zsw [(0, 28), (1, 39), (2, 50)] 61 3 = 61 from by decide]
  refine r_al0 zi_54_61 rfl ?_
  refine q_getR zi_54_62 rfl cf_38_5 ?_
  refine r_al2 zi_54_65 rfl ?_
  refine q_cVV zi_54_66 rfl rfl rfl rfl rfl rfl rfl cf_61_0.ob (tb _ (fun ω x => ?_))
  show zk _ _ 69 _ _ _ _
  refine r_al0 zi_54_69 rfl ?_
  refine q_getR zi_54_70 rfl cf_38_6 ?_
  refine r_al0 zi_54_73 rfl ?_
  refine q_getR zi_54_74 rfl cf_38_5 ?_
  refine q_cVV zi_54_77 rfl rfl rfl rfl rfl rfl rfl cf_64_0.ob (hms ω x _ (fun ξ fin => ?_))
  show zk _ _ 80 _ _ _ _
  refine r_ret zi_54_80 rfl ?_
  exact ⟨rfl, fin⟩
theorem s_rbec38 {d : Nat} {σ : zS} {Q : zS → Prop} {rows : List pRw} (hr : rRo σ 1 rows) (hq : ∀ υ, rBp 38 1 37 σ υ → (∀ p, p < 12 → υ 65 p = pBs rows p) → zhd υ 64 → Q υ) : zV1 (d + 4) 53 [.ref 38, .ref 1] σ Q := by
  have hlr : ∀ τ, rBp 38 1 23 σ τ → ∀ (Q2 : zS → Prop), (∀ υ, rBp 38 1 29 σ υ → (∀ p, p < 12 → υ 65 p = pBs rows p) → zhd υ 64 → Q2 υ) → zV1 (d + 3) 54 [.ref 38, .int 3, .ref 24] τ Q2 := fun τ h Q2 h2 => s_lrn38 ⟨(h.1 24 2 (by decide)).trans hr.1, hr.2.1, kRw_f hr.2.2.1 hr.2.1 (fun b _ => h.1 25 b (by decide)), hr.2.2.2⟩ h h2
  have fin : ∀ υ ω, rBp 38 1 29 σ υ → (∀ p, p < 12 → υ 65 p = pBs rows p) → zhd υ 64 → rBp 38 1 37 σ ω → (∀ a b, a ≤ 66 → ω a b = υ a b) → Q ω := fun υ ω k1 k2 k3 k4 k5 => hq ω k4 (fun p hp => (k5 _ p (by decide)).trans (k2 p hp)) (fun a b ha hb => by
    show ω 66 _ = zdV (ω 65) a b
    rw [k5 66 _ (by decide), show ω 65 = υ 65 from funext (fun b => k5 65 b (by decide))]
    exact k3 a b ha hb)
  have hl : ∀ (T' U' N : Nat) (τ : zS), T' > 66 → ∀ ω, oBe T' U' N τ ω → ∀ a b, a ≤ 66 → ω a b = τ a b := fun T' U' N τ hT ω h a b ha => h.1 a b (by omega) (by omega)
  show zk _ _ 0 [.ref 38, .ref 1] [] _ _
  refine r_al0 zi_53_0 rfl ?_
  refine q_getR zi_53_1 rfl cf_38_0 ?_
  refine r_al1 zi_53_4 rfl ?_
  refine q_getR zi_53_5 rfl cf_1_0 ?_
  refine q_cVV zi_53_8 rfl rfl rfl rfl rfl rfl rfl cf_39_0.ob (s_dbec zDu_39 zDu_2 (by decide) (fun υ1 b1 => ?_))
  show zk _ _ 11 _ _ _ _
  refine r_al1 zi_53_11 rfl ?_
  refine q_getR zi_53_12 rfl cf_1_1 ?_
  refine r_push zi_53_15 rfl ?_
  refine r_al0 zi_53_16 rfl ?_
  refine q_getR zi_53_17 rfl cf_38_1 ?_
  refine r_push zi_53_20 rfl ?_
  refine r_al0 zi_53_21 rfl ?_
  refine q_getR zi_53_22 rfl cf_38_1 ?_
  refine r_alen zi_53_25 rfl ca_51 ?_
  refine r_acpy (k := 600) zi_53_26 rfl ca_14 ca_51 rfl (by decide) (by decide) ?_
  refine zk_bk (P := rBp 38 1 14 σ) (rB_b (x := 51) (y := 14) (by decide) (by decide) rfl rfl (rB_d (by decide) (by decide) b1)) (fun υ2 b2 => ?_)
  refine r_al0 zi_53_29 rfl ?_
  refine q_getR zi_53_30 rfl cf_38_2 ?_
  refine r_al1 zi_53_33 rfl ?_
  refine q_getR zi_53_34 rfl cf_1_2 ?_
  refine q_cVV zi_53_37 rfl rfl rfl rfl rfl rfl rfl cf_52_0.ob (s_tbec (N := 400) (M := 400) ⟨cf_52_0, cf_52_1, cf_52_2, cf_52_3, ca_53, ca_54⟩ ⟨cf_15_0, cf_15_1, cf_15_2, cf_15_3, ca_16, ca_17⟩ (by decide) (by decide) (by decide) (fun υ3 b3 => ?_))
  show zk _ _ 40 _ _ _ _
  refine r_al0 zi_53_40 rfl ?_
  refine q_getR zi_53_41 rfl cf_38_3 ?_
  refine r_al1 zi_53_44 rfl ?_
  refine q_getR zi_53_45 rfl cf_1_3 ?_
  refine q_cVV zi_53_48 rfl rfl rfl rfl rfl rfl rfl cf_55_0.ob (s_tbec (N := 0) (M := 0) ⟨cf_55_0, cf_55_1, cf_55_2, cf_55_3, ca_56, ca_57⟩ ⟨cf_18_0, cf_18_1, cf_18_2, cf_18_3, ca_19, ca_20⟩ (by decide) (by decide) (by decide) (fun υ4 b4 => ?_))
  show zk _ _ 51 _ _ _ _
  refine r_al0 zi_53_51 rfl ?_
  refine q_getR zi_53_52 rfl cf_38_4 ?_
  refine r_al1 zi_53_55 rfl ?_
  refine q_getR zi_53_56 rfl cf_1_4 ?_
  refine q_cVV zi_53_59 rfl rfl rfl rfl rfl rfl rfl cf_58_0.ob (s_tbec (N := 0) (M := 0) ⟨cf_58_0, cf_58_1, cf_58_2, cf_58_3, ca_59, ca_60⟩ ⟨cf_21_0, cf_21_1, cf_21_2, cf_21_3, ca_22, ca_23⟩ (by decide) (by decide) (by decide) (fun υ5 b5 => ?_))
  show zk _ _ 62 _ _ _ _
  refine r_al0 zi_53_62 rfl ?_
  refine r_push zi_53_63 rfl ?_
  refine r_al1 zi_53_64 rfl ?_
  refine q_getR zi_53_65 rfl cf_1_5 ?_
  refine q_cVV zi_53_68 rfl rfl rfl rfl rfl rfl rfl cf_38_0.ob (hlr υ5 (rB_t (by decide) (by decide) (Or.inr (Or.inr (Or.inl rfl))) rfl rfl (rB_t (by decide) (by decide) (Or.inr (Or.inl rfl)) rfl rfl (rB_t (by decide) (by decide) (Or.inl ⟨rfl, rfl⟩) rfl rfl b2 b3) b4) b5) _ (fun υ6 b6 c6 e6 => ?_))
  show zk _ _ 71 _ _ _ _
  refine r_al0 zi_53_71 rfl ?_
  refine q_getR zi_53_72 rfl cf_38_7 ?_
  refine r_al1 zi_53_75 rfl ?_
  refine q_getR zi_53_76 rfl cf_1_7 ?_
  refine q_cVV zi_53_79 rfl rfl rfl rfl rfl rfl rfl cf_67_0.ob (s_obec (N := 8) ⟨cf_67_0, cf_67_1, ca_68⟩ ⟨cf_30_0, cf_30_1, ca_31⟩ (by decide) (by decide) (fun υ7 b7 => ?_))
  show zk _ _ 82 _ _ _ _
  refine r_al0 zi_53_82 rfl ?_
  refine q_getR zi_53_83 rfl cf_38_8 ?_
  refine r_al1 zi_53_86 rfl ?_
  refine q_getR zi_53_87 rfl cf_1_8 ?_
  refine q_cVV zi_53_90 rfl rfl rfl rfl rfl rfl rfl cf_69_0.ob (s_obec (N := 5) ⟨cf_69_0, cf_69_1, ca_70⟩ ⟨cf_32_0, cf_32_1, ca_33⟩ (by decide) (by decide) (fun υ8 b8 => ?_))
  show zk _ _ 93 _ _ _ _
  refine r_al0 zi_53_93 rfl ?_
  refine q_getR zi_53_94 rfl cf_38_9 ?_
  refine r_al1 zi_53_97 rfl ?_
  refine q_getR zi_53_98 rfl cf_1_9 ?_
  refine q_cVV zi_53_101 rfl rfl rfl rfl rfl rfl rfl cf_71_0.ob (s_obec (N := 10) ⟨cf_71_0, cf_71_1, ca_72⟩ ⟨cf_34_0, cf_34_1, ca_35⟩ (by decide) (by decide) (fun υ9 b9 => ?_))
  show zk _ _ 104 _ _ _ _
  refine r_al0 zi_53_104 rfl ?_
  refine q_getR zi_53_105 rfl cf_38_10 ?_
  refine r_al1 zi_53_108 rfl ?_
  refine q_getR zi_53_109 rfl cf_1_10 ?_
  refine q_cVV zi_53_112 rfl rfl rfl rfl rfl rfl rfl cf_73_0.ob (s_obec (N := 10) ⟨cf_73_0, cf_73_1, ca_74⟩ ⟨cf_36_0, cf_36_1, ca_37⟩ (by decide) (by decide) (fun υ10 b10 => ?_))
  show zk _ _ 115 _ _ _ _
  refine r_ret zi_53_115 rfl ?_
  have r7 := rB_o (by decide) (by decide) (Or.inl ⟨rfl, rfl⟩) rfl rfl b6 b7
  have r8 := rB_o (by decide) (by decide) (Or.inr (Or.inl ⟨rfl, rfl⟩)) rfl rfl r7 b8
  have r9 := rB_o (by decide) (by decide) (Or.inr (Or.inr ⟨Or.inl rfl, rfl⟩)) rfl rfl r8 b9
  have r10 := rB_o (by decide) (by decide) (Or.inr (Or.inr ⟨Or.inr rfl, rfl⟩)) rfl rfl r9 b10
  exact ⟨rfl, fin υ6 υ10 b6 c6 e6 r10 (fun a b ha => (((hl _ _ _ _ (by decide) _ b10 a b ha).trans (hl _ _ _ _ (by decide) _ b9 a b ha)).trans (hl _ _ _ _ (by decide) _ b8 a b ha)).trans (hl _ _ _ _ (by decide) _ b7 a b ha))⟩

