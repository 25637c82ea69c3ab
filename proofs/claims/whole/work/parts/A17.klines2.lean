/-! LINES in the class: tide, roads, the law -/
theorem pkw_i {K : Nat → Nat} {j v : Nat} {k : pLn} (h : K j = v) : pkw K j v k = k := if_pos h
def kFa (σ : zS) (S : Nat → Nat) (r : (Nat × Nat) ⊕ (Nat × List Nat × pRw)) (υ : zS) : Prop := ∃ n i, r = .inl (n, i) ∧ Fg (pF pX) σ υ ∧ υ 170 4 = nI n ∧ υ 170 5 = nI (S i)
theorem s_ktid {d N j n : Nat} {σ τ : zS} {Q : Int32 → zS → Prop} {K S : Nat → Nat} {cs : List Nat} {rows : List pRw} {r : (Nat × Nat) ⊕ (Nat × List Nat × pRw)} (h1 : ∀ i ds row υ, r = .inr (i, ds, row) → Fg pX σ υ → kLn υ K S N i ds (rows ++ [row]) n → Q 1 υ) (h0 : ∀ n i υ, r = .inl (n, i) → Fg (pF pX) σ υ → υ 170 4 = nI n → υ 170 5 = nI (S i) → Q 0 υ) (hr : pti K j cs = some r) (hF : Fg pX σ τ) (hk : kLn τ K S N j cs rows n) (hl : rows.length < 16) (hb : 10017 ≤ K j ∧ K j ≤ 10017) : zI1 (d + 2) 39 [.ref 169] τ Q := by
  have hbg : ∀ (Q2 : Int32 → zS → Prop), (∀ υ, Fg pX σ υ → kLn υ K S N (j + 1) cs rows n → Q2 1 υ) → zI1 (d + 1) 36 [.ref 169, .int 10017, .int 10017] τ Q2 := fun Q2 k1 => s_kbeg (lo := 10017) (hi := 10017) rfl rfl (by decide) (by decide) hF hk (fun υ _ _ _ x y => k1 υ x y) (fun q υ e _ _ _ => absurd e (by omega))
  have hraw : ∀ n i υ, r = .inl (n, i) → Fg (pF pX) σ υ → υ 170 4 = nI n → υ 170 5 = nI (S i) → kFa σ S r υ := fun n i υ a b c e => ⟨n, i, a, b, c, e⟩
  have hfx : ∀ υ ρ, kFa σ S r υ → Fg (fun p q => p = 173 ∨ p = 174) υ ρ → Q 0 ρ := fun υ ρ h x => by
    obtain ⟨n, i, a, b, c, e⟩ := h
    exact h0 n i ρ a (b.tr (x.sub (fun a b z => Or.inl (by unfold pX; omega)))) ((x 170 4 (by omega)).trans c) ((x 170 5 (by omega)).trans e)
  have hb2 : ∀ υ i, kLn υ K S N i cs rows n → K (j + 2) ≤ 30001 := fun υ i y => tko_b (y.1.2.2.2.2.2.2 (j + 2))
  have hb3 : ∀ υ i, kLn υ K S N i cs rows n → K (j + 3) ≤ 30001 := fun υ i y => tko_b (y.1.2.2.2.2.2.2 (j + 3))
  have hb2 := hb2 τ j hk
  unfold pti at hr
  show zk _ _ 0 [.ref 169, zun, zun, zun, zun] [] _ _
  by_cases c : K (j + 2) = 10009
  · refine r_al0 zi_39_0 rfl ?_
    refine r_push zi_39_1 rfl ?_
    refine r_push zi_39_4 rfl ?_
    refine q_cIV zi_39_7 rfl rfl rfl rfl rfl rfl rfl cf_169_0.ob (hbg _ (fun υ x1 x2 => ?_))
    show zk _ _ 10 _ _ _ _
    refine r_if0 zi_39_10 rfl (fun c => absurd c (by decide)) (fun _ => ?_)
    refine r_al0 zi_39_13 rfl ?_
    refine r_push zi_39_14 rfl ?_
    refine q_cIV zi_39_17 rfl rfl rfl rfl rfl rfl rfl cf_169_0.ob (s_knum (mo := 999) (m := 1000) h0 (hm_c (m := 1000) (by decide) (by decide)) hr x1 x2 (fun ρ hr2 a1 a2 y1 y2 => ?_) (fun ρ fin => ?_))
    · show zk _ _ 20 _ _ _ _
      refine r_goto zi_39_20 rfl ?_
      refine r_is1 zi_39_24 rfl ?_
      refine r_il1 zi_39_25 rfl ?_
      refine r_push zi_39_26 rfl ?_
      refine r_ic1 zi_39_27 rfl (fun _ => ?_) (fun c => absurd c (nI_m1 (by omega)))
      rw [if_pos c] at hr2
      refine r_al0 zi_39_32 rfl ?_
      refine q_getR zi_39_33 rfl cf_169_0 ?_
      refine q_cIV zi_39_36 rfl rfl rfl rfl rfl rfl rfl cf_170_0.ob (s_tok y2.1 ?_)
      show zk _ _ 39 _ _ _ _
      refine r_push zi_39_39 rfl ?_
      refine n_ic1 (i := (K (j + 2))) (j := 10009) zi_39_42 rfl (by omega) (by omega) (fun c => absurd c (by omega)) (fun _ => ?_)
      refine r_push zi_39_45 rfl ?_
      refine r_goto zi_39_46 rfl ?_
      refine r_is2 zi_39_50 rfl ?_
      refine r_al0 zi_39_51 rfl ?_
      refine r_il2 zi_39_52 rfl ?_
      refine r_if0 zi_39_53 rfl (fun c => absurd c (by decide)) (fun _ => ?_)
      refine r_push zi_39_56 rfl ?_
      refine r_goto zi_39_59 rfl ?_
      refine q_cIV zi_39_65 rfl rfl rfl rfl rfl rfl rfl cf_169_0.ob (s_ktake h0 rfl (by decide) ((pkw_i c).trans hr2) y1 y2 (fun ω hr3 z1 z2 => ?_) (fun ω fin => ?_))
      · show zk _ _ 68 _ _ _ _
        refine r_if1 zi_39_68 rfl (fun _ => ?_) (fun c => absurd c (by decide))
        refine r_il2 zi_39_73 rfl ?_
        refine r_if0 zi_39_74 rfl (fun c => absurd c (by decide)) (fun _ => ?_)
        refine r_push zi_39_77 rfl ?_
        refine r_goto zi_39_78 rfl ?_
        refine r_is3 zi_39_87 rfl ?_
        refine r_il2 zi_39_88 rfl ?_
        refine r_if1 zi_39_89 rfl (fun _ => ?_) (fun c => absurd c (by decide))
        refine r_al0 zi_39_99 rfl ?_
        refine r_il2 zi_39_100 rfl ?_
        refine r_if0 zi_39_101 rfl (fun c => absurd c (by decide)) (fun _ => ?_)
        refine r_push zi_39_104 rfl ?_
        refine r_goto zi_39_106 rfl ?_
        refine q_cIV zi_39_111 rfl rfl rfl rfl rfl rfl rfl cf_169_0.ob (s_knum (mo := 9) (m := 10) (Q := fun _ υ => kFa σ S r υ) hraw (hm_c (m := 10) (by decide) (by decide)) hr3 z1 z2 (fun ξ hr4 b1 b2 w1 w2 => ?_) (fun ξ bad => ?_))
        · show zk _ _ 114 _ _ _ _
          refine r_is4 zi_39_114 rfl ?_
          refine r_al0 zi_39_116 rfl ?_
          refine q_getR zi_39_117 rfl cf_169_1 ?_
          refine r_il1 zi_39_120 rfl ?_
          refine r_il3 zi_39_121 rfl ?_
          refine r_il4 zi_39_122 rfl ?_
          refine r_push zi_39_124 rfl ?_
          refine q_cVV zi_39_125 rfl rfl rfl rfl rfl rfl rfl cf_173_0.ob (s_kadd w1 w2 hl (fun ζ v1 v2 => ?_))
          show zk _ _ 128 _ _ _ _
          refine r_il4 zi_39_128 rfl ?_
          refine r_push zi_39_130 rfl ?_
          refine r_ic0 zi_39_131 rfl (fun c => absurd c (nI_m1 (by omega))) (fun _ => ?_)
          refine r_al0 zi_39_134 rfl ?_
          refine r_push zi_39_135 rfl ?_
          refine q_cIV zi_39_138 rfl rfl rfl rfl rfl rfl rfl cf_169_0.ob (s_ktake h0 rfl (by decide) hr4 v1 v2 (fun κ e k1 k2 => ?_) (fun κ fin => ?_))
          · show zk _ _ 141 _ _ _ _
            refine r_if0 zi_39_141 rfl (fun c => absurd c (by decide)) (fun _ => ?_)
            refine r_push zi_39_144 rfl ?_
            refine r_goto zi_39_145 rfl ?_
            refine r_retZ zi_39_149 rfl (by decide) ?_
            exact ⟨_, rfl, h1 _ _ _ κ (Option.some.inj e).symm k1 k2⟩
          · show zk _ _ 141 _ _ _ _
            refine r_if0 zi_39_141 rfl (fun _ => ?_) (fun c => absurd (by decide) c)
            refine r_push zi_39_148 rfl ?_
            refine r_retZ zi_39_149 rfl (by decide) ?_
            exact ⟨_, rfl, fin⟩
        · show zk _ _ 114 _ _ _ _
          refine r_is4 zi_39_114 rfl ?_
          refine r_al0 zi_39_116 rfl ?_
          refine q_getR zi_39_117 rfl cf_169_1 ?_
          refine r_il1 zi_39_120 rfl ?_
          refine r_il3 zi_39_121 rfl ?_
          refine r_il4 zi_39_122 rfl ?_
          refine r_push zi_39_124 rfl ?_
          refine q_cVV zi_39_125 rfl rfl rfl rfl rfl rfl rfl cf_173_0.ob (s_taddx (fun ζ v1 => ?_))
          show zk _ _ 128 _ _ _ _
          refine r_il4 zi_39_128 rfl ?_
          refine r_push zi_39_130 rfl ?_
          refine r_ic0 zi_39_131 rfl (fun _ => ?_) (fun c => absurd (by decide) c)
          refine r_push zi_39_148 rfl ?_
          refine r_retZ zi_39_149 rfl (by decide) ?_
          exact ⟨_, rfl, hfx ξ ζ bad v1⟩
      · show zk _ _ 68 _ _ _ _
        refine r_if1 zi_39_68 rfl (fun c => absurd (by decide) c) (fun _ => ?_)
        refine r_push zi_39_71 rfl ?_
        refine r_retZ zi_39_72 rfl (by decide) ?_
        exact ⟨_, rfl, fin⟩
    · show zk _ _ 20 _ _ _ _
      refine r_goto zi_39_20 rfl ?_
      refine r_is1 zi_39_24 rfl ?_
      refine r_il1 zi_39_25 rfl ?_
      refine r_push zi_39_26 rfl ?_
      refine r_ic1 zi_39_27 rfl (fun c => absurd (by decide) c) (fun _ => ?_)
      refine r_push zi_39_30 rfl ?_
      refine r_retZ zi_39_31 rfl (by decide) ?_
      exact ⟨_, rfl, fin⟩
  · refine r_al0 zi_39_0 rfl ?_
    refine r_push zi_39_1 rfl ?_
    refine r_push zi_39_4 rfl ?_
    refine q_cIV zi_39_7 rfl rfl rfl rfl rfl rfl rfl cf_169_0.ob (hbg _ (fun υ x1 x2 => ?_))
    show zk _ _ 10 _ _ _ _
    refine r_if0 zi_39_10 rfl (fun c => absurd c (by decide)) (fun _ => ?_)
    refine r_al0 zi_39_13 rfl ?_
    refine r_push zi_39_14 rfl ?_
    refine q_cIV zi_39_17 rfl rfl rfl rfl rfl rfl rfl cf_169_0.ob (s_knum (mo := 999) (m := 1000) h0 (hm_c (m := 1000) (by decide) (by decide)) hr x1 x2 (fun ρ hr2 a1 a2 y1 y2 => ?_) (fun ρ fin => ?_))
    · show zk _ _ 20 _ _ _ _
      refine r_goto zi_39_20 rfl ?_
      refine r_is1 zi_39_24 rfl ?_
      refine r_il1 zi_39_25 rfl ?_
      refine r_push zi_39_26 rfl ?_
      refine r_ic1 zi_39_27 rfl (fun _ => ?_) (fun c => absurd c (nI_m1 (by omega)))
      rw [if_neg c] at hr2
      refine r_al0 zi_39_32 rfl ?_
      refine q_getR zi_39_33 rfl cf_169_0 ?_
      refine q_cIV zi_39_36 rfl rfl rfl rfl rfl rfl rfl cf_170_0.ob (s_tok y2.1 ?_)
      show zk _ _ 39 _ _ _ _
      refine r_push zi_39_39 rfl ?_
      refine n_ic1 (i := (K (j + 2))) (j := 10009) zi_39_42 rfl (by omega) (by omega) (fun _ => ?_) (fun c => absurd c (by omega))
      refine r_push zi_39_49 rfl ?_
      refine r_is2 zi_39_50 rfl ?_
      refine r_al0 zi_39_51 rfl ?_
      refine r_il2 zi_39_52 rfl ?_
      refine r_if0 zi_39_53 rfl (fun _ => ?_) (fun c => absurd (by decide) c)
      refine r_push zi_39_62 rfl ?_
      refine q_cIV zi_39_65 rfl rfl rfl rfl rfl rfl rfl cf_169_0.ob (s_ktake h0 rfl (by decide) hr2 y1 y2 (fun ω hr3 z1 z2 => ?_) (fun ω fin => ?_))
      · show zk _ _ 68 _ _ _ _
        refine r_if1 zi_39_68 rfl (fun _ => ?_) (fun c => absurd c (by decide))
        refine r_il2 zi_39_73 rfl ?_
        refine r_if0 zi_39_74 rfl (fun _ => ?_) (fun c => absurd (by decide) c)
        refine r_al0 zi_39_81 rfl ?_
        refine r_push zi_39_82 rfl ?_
        refine q_cIV zi_39_84 rfl rfl rfl rfl rfl rfl rfl cf_169_0.ob (s_knum (mo := 11) (m := 12) h0 (hm_c (m := 12) (by decide) (by decide)) hr3 z1 z2 (fun α hr4 b1 b2 w1 w2 => ?_) (fun α fin => ?_))
        · show zk _ _ 87 _ _ _ _
          refine r_is3 zi_39_87 rfl ?_
          refine r_il2 zi_39_88 rfl ?_
          refine r_if1 zi_39_89 rfl (fun c => absurd (by decide) c) (fun _ => ?_)
          refine r_il3 zi_39_92 rfl ?_
          refine r_push zi_39_93 rfl ?_
          refine r_ic1 zi_39_94 rfl (fun _ => ?_) (fun c => absurd c (nI_m1 (by omega)))
          refine r_al0 zi_39_99 rfl ?_
          refine r_il2 zi_39_100 rfl ?_
          refine r_if0 zi_39_101 rfl (fun _ => ?_) (fun c => absurd (by decide) c)
          refine r_push zi_39_109 rfl ?_
          refine q_cIV zi_39_111 rfl rfl rfl rfl rfl rfl rfl cf_169_0.ob (s_knum (mo := 99) (m := 100) (Q := fun _ υ => kFa σ S r υ) hraw (hm_c (m := 100) (by decide) (by decide)) hr4 w1 w2 (fun ξ hr5 d1 d2 u1 u2 => ?_) (fun ξ bad => ?_))
          · show zk _ _ 114 _ _ _ _
            refine r_is4 zi_39_114 rfl ?_
            refine r_al0 zi_39_116 rfl ?_
            refine q_getR zi_39_117 rfl cf_169_1 ?_
            refine r_il1 zi_39_120 rfl ?_
            refine r_il3 zi_39_121 rfl ?_
            refine r_il4 zi_39_122 rfl ?_
            refine r_push zi_39_124 rfl ?_
            refine q_cVV zi_39_125 rfl rfl rfl rfl rfl rfl rfl cf_173_0.ob (s_kadd u1 u2 hl (fun ζ v1 v2 => ?_))
            show zk _ _ 128 _ _ _ _
            refine r_il4 zi_39_128 rfl ?_
            refine r_push zi_39_130 rfl ?_
            refine r_ic0 zi_39_131 rfl (fun c => absurd c (nI_m1 (by omega))) (fun _ => ?_)
            refine r_al0 zi_39_134 rfl ?_
            refine r_push zi_39_135 rfl ?_
            refine q_cIV zi_39_138 rfl rfl rfl rfl rfl rfl rfl cf_169_0.ob (s_ktake h0 rfl (by decide) hr5 v1 v2 (fun κ e k1 k2 => ?_) (fun κ fin => ?_))
            · show zk _ _ 141 _ _ _ _
              refine r_if0 zi_39_141 rfl (fun c => absurd c (by decide)) (fun _ => ?_)
              refine r_push zi_39_144 rfl ?_
              refine r_goto zi_39_145 rfl ?_
              refine r_retZ zi_39_149 rfl (by decide) ?_
              exact ⟨_, rfl, h1 _ _ _ κ (Option.some.inj e).symm k1 k2⟩
            · show zk _ _ 141 _ _ _ _
              refine r_if0 zi_39_141 rfl (fun _ => ?_) (fun c => absurd (by decide) c)
              refine r_push zi_39_148 rfl ?_
              refine r_retZ zi_39_149 rfl (by decide) ?_
              exact ⟨_, rfl, fin⟩
          · show zk _ _ 114 _ _ _ _
            refine r_is4 zi_39_114 rfl ?_
            refine r_al0 zi_39_116 rfl ?_
            refine q_getR zi_39_117 rfl cf_169_1 ?_
            refine r_il1 zi_39_120 rfl ?_
            refine r_il3 zi_39_121 rfl ?_
            refine r_il4 zi_39_122 rfl ?_
            refine r_push zi_39_124 rfl ?_
            refine q_cVV zi_39_125 rfl rfl rfl rfl rfl rfl rfl cf_173_0.ob (s_taddx (fun ζ v1 => ?_))
            show zk _ _ 128 _ _ _ _
            refine r_il4 zi_39_128 rfl ?_
            refine r_push zi_39_130 rfl ?_
            refine r_ic0 zi_39_131 rfl (fun _ => ?_) (fun c => absurd (by decide) c)
            refine r_push zi_39_148 rfl ?_
            refine r_retZ zi_39_149 rfl (by decide) ?_
            exact ⟨_, rfl, hfx ξ ζ bad v1⟩
        · show zk _ _ 87 _ _ _ _
          refine r_is3 zi_39_87 rfl ?_
          refine r_il2 zi_39_88 rfl ?_
          refine r_if1 zi_39_89 rfl (fun c => absurd (by decide) c) (fun _ => ?_)
          refine r_il3 zi_39_92 rfl ?_
          refine r_push zi_39_93 rfl ?_
          refine r_ic1 zi_39_94 rfl (fun c => absurd (by decide) c) (fun _ => ?_)
          refine r_push zi_39_97 rfl ?_
          refine r_retZ zi_39_98 rfl (by decide) ?_
          exact ⟨_, rfl, fin⟩
      · show zk _ _ 68 _ _ _ _
        refine r_if1 zi_39_68 rfl (fun c => absurd (by decide) c) (fun _ => ?_)
        refine r_push zi_39_71 rfl ?_
        refine r_retZ zi_39_72 rfl (by decide) ?_
        exact ⟨_, rfl, fin⟩
    · show zk _ _ 20 _ _ _ _
      refine r_goto zi_39_20 rfl ?_
      refine r_is1 zi_39_24 rfl ?_
      refine r_il1 zi_39_25 rfl ?_
      refine r_push zi_39_26 rfl ?_
      refine r_ic1 zi_39_27 rfl (fun c => absurd (by decide) c) (fun _ => ?_)
      refine r_push zi_39_30 rfl ?_
      refine r_retZ zi_39_31 rfl (by decide) ?_
      exact ⟨_, rfl, fin⟩
theorem s_kroad {d N j n : Nat} {σ τ : zS} {Q : Int32 → zS → Prop} {K S : Nat → Nat} {cs : List Nat} {rows : List pRw} {r : (Nat × Nat) ⊕ (Nat × List Nat × pRw)} (h1 : ∀ i ds row υ, r = .inr (i, ds, row) → Fg pX σ υ → kLn υ K S N i ds (rows ++ [row]) n → Q 1 υ) (h0 : ∀ n i υ, r = .inl (n, i) → Fg (pF pX) σ υ → υ 170 4 = nI n → υ 170 5 = nI (S i) → Q 0 υ) (hr : pro K j cs = some r) (hF : Fg pX σ τ) (hk : kLn τ K S N j cs rows n) (hl : rows.length < 16) (hb : 10026 ≤ K j ∧ K j ≤ 10026) : zI1 (d + 2) 40 [.ref 169] τ Q := by
  have hbg : ∀ (Q2 : Int32 → zS → Prop), (∀ υ, Fg pX σ υ → kLn υ K S N (j + 1) cs rows n → Q2 1 υ) → zI1 (d + 1) 36 [.ref 169, .int 10026, .int 10026] τ Q2 := fun Q2 k1 => s_kbeg (lo := 10026) (hi := 10026) rfl rfl (by decide) (by decide) hF hk (fun υ _ _ _ x y => k1 υ x y) (fun q υ e _ _ _ => absurd e (by omega))
  have hraw : ∀ n i υ, r = .inl (n, i) → Fg (pF pX) σ υ → υ 170 4 = nI n → υ 170 5 = nI (S i) → kFa σ S r υ := fun n i υ a b c e => ⟨n, i, a, b, c, e⟩
  have hfx : ∀ υ ρ, kFa σ S r υ → Fg (fun p q => p = 173 ∨ p = 174) υ ρ → Q 0 ρ := fun υ ρ h x => by
    obtain ⟨n, i, a, b, c, e⟩ := h
    exact h0 n i ρ a (b.tr (x.sub (fun a b z => Or.inl (by unfold pX; omega)))) ((x 170 4 (by omega)).trans c) ((x 170 5 (by omega)).trans e)
  have hb3 : K (j + 3) ≤ 30001 := tko_b (hk.1.2.2.2.2.2.2 (j + 3))
  have hfl : ∀ υ, r = .inl (2, j + 3) → Fg pX σ υ → kLn υ K S N (j + 3) cs rows n → ∀ (Q3 : Int32 → zS → Prop), (∀ υ, Q 0 υ → Q3 0 υ) → zI1 (d + 1) 104 [.ref 170, .int 2] υ Q3 := fun υ er x y Q3 h2 => s_fails y.1 (h2 _ (h0 2 (j + 3) _ er (kfl x) ((zup_nj (by decide)).trans zup_eq) zup_eq))
  unfold pro at hr
  show zk _ _ 0 [.ref 169, zun, zun] [] _ _
  by_cases c : K (j + 3) = K (j + 1)
  · refine r_al0 zi_40_0 rfl ?_
    refine r_push zi_40_1 rfl ?_
    refine r_push zi_40_4 rfl ?_
    refine q_cIV zi_40_7 rfl rfl rfl rfl rfl rfl rfl cf_169_0.ob (hbg _ (fun υ x1 x2 => ?_))
    show zk _ _ 10 _ _ _ _
    refine r_if0 zi_40_10 rfl (fun c => absurd c (by decide)) (fun _ => ?_)
    refine r_al0 zi_40_13 rfl ?_
    refine r_push zi_40_14 rfl ?_
    refine q_cIV zi_40_16 rfl rfl rfl rfl rfl rfl rfl cf_169_0.ob (s_knum (mo := 11) (m := 12) h0 (hm_c (m := 12) (by decide) (by decide)) hr x1 x2 (fun ρ hr2 a1 a2 y1 y2 => ?_) (fun ρ fin => ?_))
    · show zk _ _ 19 _ _ _ _
      refine r_goto zi_40_19 rfl ?_
      refine r_is1 zi_40_23 rfl ?_
      refine r_il1 zi_40_24 rfl ?_
      refine r_push zi_40_25 rfl ?_
      refine r_ic0 zi_40_26 rfl (fun c => absurd c (nI_m1 (by omega))) (fun _ => ?_)
      refine r_al0 zi_40_29 rfl ?_
      refine r_push zi_40_30 rfl ?_
      refine q_cIV zi_40_33 rfl rfl rfl rfl rfl rfl rfl cf_169_0.ob (s_ktake h0 rfl (by decide) hr2 y1 y2 (fun ω hr3 z1 z2 => ?_) (fun ω fin => ?_))
      · show zk _ _ 36 _ _ _ _
        refine r_if1 zi_40_36 rfl (fun _ => ?_) (fun c => absurd c (by decide))
        rw [if_pos c] at hr3
        refine r_al0 zi_40_41 rfl ?_
        refine q_getR zi_40_42 rfl cf_169_0 ?_
        refine q_cIV zi_40_45 rfl rfl rfl rfl rfl rfl rfl cf_170_0.ob (s_tok z2.1 ?_)
        show zk _ _ 48 _ _ _ _
        refine r_il1 zi_40_48 rfl ?_
        refine n_ic1 (i := (K (j + 3))) (j := (K (j + 1))) zi_40_49 rfl (by omega) (by omega) (fun c => absurd c (by omega)) (fun _ => ?_)
        refine r_al0 zi_40_52 rfl ?_
        refine q_getR zi_40_53 rfl cf_169_0 ?_
        refine r_push zi_40_56 rfl ?_
        refine q_cIV zi_40_57 rfl rfl rfl rfl rfl rfl rfl cf_170_0.ob (hfl ω (Option.some.inj hr3).symm z1 z2 _ (fun ξ fin => ?_))
        show zk _ _ 60 _ _ _ _
        refine r_retZ zi_40_60 rfl (by decide) ?_
        exact ⟨_, rfl, fin⟩
      · show zk _ _ 36 _ _ _ _
        refine r_if1 zi_40_36 rfl (fun c => absurd (by decide) c) (fun _ => ?_)
        refine r_push zi_40_39 rfl ?_
        refine r_retZ zi_40_40 rfl (by decide) ?_
        exact ⟨_, rfl, fin⟩
    · show zk _ _ 19 _ _ _ _
      refine r_goto zi_40_19 rfl ?_
      refine r_is1 zi_40_23 rfl ?_
      refine r_il1 zi_40_24 rfl ?_
      refine r_push zi_40_25 rfl ?_
      refine r_ic0 zi_40_26 rfl (fun _ => ?_) (fun c => absurd (by decide) c)
      refine r_push zi_40_39 rfl ?_
      refine r_retZ zi_40_40 rfl (by decide) ?_
      exact ⟨_, rfl, fin⟩
  · refine r_al0 zi_40_0 rfl ?_
    refine r_push zi_40_1 rfl ?_
    refine r_push zi_40_4 rfl ?_
    refine q_cIV zi_40_7 rfl rfl rfl rfl rfl rfl rfl cf_169_0.ob (hbg _ (fun υ x1 x2 => ?_))
    show zk _ _ 10 _ _ _ _
    refine r_if0 zi_40_10 rfl (fun c => absurd c (by decide)) (fun _ => ?_)
    refine r_al0 zi_40_13 rfl ?_
    refine r_push zi_40_14 rfl ?_
    refine q_cIV zi_40_16 rfl rfl rfl rfl rfl rfl rfl cf_169_0.ob (s_knum (mo := 11) (m := 12) h0 (hm_c (m := 12) (by decide) (by decide)) hr x1 x2 (fun ρ hr2 a1 a2 y1 y2 => ?_) (fun ρ fin => ?_))
    · show zk _ _ 19 _ _ _ _
      refine r_goto zi_40_19 rfl ?_
      refine r_is1 zi_40_23 rfl ?_
      refine r_il1 zi_40_24 rfl ?_
      refine r_push zi_40_25 rfl ?_
      refine r_ic0 zi_40_26 rfl (fun c => absurd c (nI_m1 (by omega))) (fun _ => ?_)
      refine r_al0 zi_40_29 rfl ?_
      refine r_push zi_40_30 rfl ?_
      refine q_cIV zi_40_33 rfl rfl rfl rfl rfl rfl rfl cf_169_0.ob (s_ktake h0 rfl (by decide) hr2 y1 y2 (fun ω hr3 z1 z2 => ?_) (fun ω fin => ?_))
      · show zk _ _ 36 _ _ _ _
        refine r_if1 zi_40_36 rfl (fun _ => ?_) (fun c => absurd c (by decide))
        rw [if_neg c] at hr3
        refine r_al0 zi_40_41 rfl ?_
        refine q_getR zi_40_42 rfl cf_169_0 ?_
        refine q_cIV zi_40_45 rfl rfl rfl rfl rfl rfl rfl cf_170_0.ob (s_tok z2.1 ?_)
        show zk _ _ 48 _ _ _ _
        refine r_il1 zi_40_48 rfl ?_
        refine n_ic1 (i := (K (j + 3))) (j := (K (j + 1))) zi_40_49 rfl (by omega) (by omega) (fun _ => ?_) (fun c => absurd c (by omega))
        refine r_al0 zi_40_61 rfl ?_
        refine r_push zi_40_62 rfl ?_
        refine q_cIV zi_40_64 rfl rfl rfl rfl rfl rfl rfl cf_169_0.ob (s_knum (mo := 11) (m := 12) (Q := fun _ υ => kFa σ S r υ) hraw (hm_c (m := 12) (by decide) (by decide)) hr3 z1 z2 (fun ξ hr4 b1 b2 w1 w2 => ?_) (fun ξ bad => ?_))
        · show zk _ _ 67 _ _ _ _
          refine r_is2 zi_40_67 rfl ?_
          refine r_al0 zi_40_68 rfl ?_
          refine q_getR zi_40_69 rfl cf_169_1 ?_
          refine r_il1 zi_40_72 rfl ?_
          refine r_il2 zi_40_73 rfl ?_
          refine r_push zi_40_74 rfl ?_
          refine r_push zi_40_75 rfl ?_
          refine q_cVV zi_40_76 rfl rfl rfl rfl rfl rfl rfl cf_173_0.ob (s_kadd w1 w2 hl (fun ζ v1 v2 => ?_))
          show zk _ _ 79 _ _ _ _
          refine r_il2 zi_40_79 rfl ?_
          refine r_push zi_40_80 rfl ?_
          refine r_ic0 zi_40_81 rfl (fun c => absurd c (nI_m1 (by omega))) (fun _ => ?_)
          refine r_al0 zi_40_84 rfl ?_
          refine r_push zi_40_85 rfl ?_
          refine q_cIV zi_40_88 rfl rfl rfl rfl rfl rfl rfl cf_169_0.ob (s_ktake h0 rfl (by decide) hr4 v1 v2 (fun κ e k1 k2 => ?_) (fun κ fin => ?_))
          · show zk _ _ 91 _ _ _ _
            refine r_if0 zi_40_91 rfl (fun c => absurd c (by decide)) (fun _ => ?_)
            refine r_push zi_40_94 rfl ?_
            refine r_goto zi_40_95 rfl ?_
            refine r_retZ zi_40_99 rfl (by decide) ?_
            exact ⟨_, rfl, h1 _ _ _ κ (Option.some.inj e).symm k1 k2⟩
          · show zk _ _ 91 _ _ _ _
            refine r_if0 zi_40_91 rfl (fun _ => ?_) (fun c => absurd (by decide) c)
            refine r_push zi_40_98 rfl ?_
            refine r_retZ zi_40_99 rfl (by decide) ?_
            exact ⟨_, rfl, fin⟩
        · show zk _ _ 67 _ _ _ _
          refine r_is2 zi_40_67 rfl ?_
          refine r_al0 zi_40_68 rfl ?_
          refine q_getR zi_40_69 rfl cf_169_1 ?_
          refine r_il1 zi_40_72 rfl ?_
          refine r_il2 zi_40_73 rfl ?_
          refine r_push zi_40_74 rfl ?_
          refine r_push zi_40_75 rfl ?_
          refine q_cVV zi_40_76 rfl rfl rfl rfl rfl rfl rfl cf_173_0.ob (s_taddx (fun ζ v1 => ?_))
          show zk _ _ 79 _ _ _ _
          refine r_il2 zi_40_79 rfl ?_
          refine r_push zi_40_80 rfl ?_
          refine r_ic0 zi_40_81 rfl (fun _ => ?_) (fun c => absurd (by decide) c)
          refine r_push zi_40_98 rfl ?_
          refine r_retZ zi_40_99 rfl (by decide) ?_
          exact ⟨_, rfl, hfx ξ ζ bad v1⟩
      · show zk _ _ 36 _ _ _ _
        refine r_if1 zi_40_36 rfl (fun c => absurd (by decide) c) (fun _ => ?_)
        refine r_push zi_40_39 rfl ?_
        refine r_retZ zi_40_40 rfl (by decide) ?_
        exact ⟨_, rfl, fin⟩
    · show zk _ _ 19 _ _ _ _
      refine r_goto zi_40_19 rfl ?_
      refine r_is1 zi_40_23 rfl ?_
      refine r_il1 zi_40_24 rfl ?_
      refine r_push zi_40_25 rfl ?_
      refine r_ic0 zi_40_26 rfl (fun _ => ?_) (fun c => absurd (by decide) c)
      refine r_push zi_40_39 rfl ?_
      refine r_retZ zi_40_40 rfl (by decide) ?_
      exact ⟨_, rfl, fin⟩
theorem kLn_c {τ υ : zS} {K S : Nat → Nat} {N j i n : Nat} {cs ds : List Nat} {rows : List pRw} (h : kLn τ K S N j cs rows n) (hF : Fg pC τ υ) (h1 : kTk υ K S N i) (h2 : kDc υ ds) (hl : ds.length ≤ i) : kLn υ K S N i ds rows n := by
  obtain ⟨t1, t2, t3, t4, t5, t6, t7⟩ := h
  refine ⟨h1, h2, (hF 173 2 (by unfold pC; omega)).trans t3, fun l hl => ?_, (hF 169 5 (by unfold pC; omega)).trans t5, hl, t7⟩
  obtain ⟨a1, a2, a3, a4⟩ := t4 l hl
  exact ⟨(hF 174 _ (by unfold pC; omega)).trans a1, (hF 174 _ (by unfold pC; omega)).trans a2, (hF 174 _ (by unfold pC; omega)).trans a3, (hF 174 _ (by unfold pC; omega)).trans a4⟩
theorem s_klaw {d N j n : Nat} {σ τ : zS} {Q : Int32 → zS → Prop} {K S : Nat → Nat} {cs : List Nat} {rows : List pRw} {r : (Nat × Nat) ⊕ (Nat × List Nat × pRw)} (h1 : ∀ i ds row υ, r = .inr (i, ds, row) → Fg pX σ υ → kLn υ K S N i ds (rows ++ [row]) n → Q 1 υ) (h0 : ∀ n i υ, r = .inl (n, i) → Fg (pF pX) σ υ → υ 170 4 = nI n → υ 170 5 = nI (S i) → Q 0 υ) (hr : plw K j cs = some r) (hF : Fg pX σ τ) (hk : kLn τ K S N j cs rows n) (hl : rows.length < 16) (hb : 10000 ≤ K j ∧ K j ≤ 10002) : zI1 (d + 5) 41 [.ref 169] τ Q := by
  have hbg : ∀ (Q2 : Int32 → zS → Prop), (∀ υ, Fg pX σ υ → kLn υ K S N (j + 1) cs rows n → Q2 1 υ) → zI1 (d + 4) 36 [.ref 169, .int 10000, .int 10002] τ Q2 := fun Q2 k1 => s_kbeg (d := d + 3) (lo := 10000) (hi := 10002) rfl rfl (by decide) (by decide) hF hk (fun υ _ _ _ x y => k1 υ x y) (fun q υ e _ _ _ => absurd e (by omega))
  have hc := hk.2.1.1
  unfold plw at hr
  have kend : ∀ (υ : zS) (i : Nat) (w1 w2 : Nat) (ds : List Nat), pkw K i 20059 (some (.inr (i + 1, ds, nI (K j), nI w1, nI w2, nI ds.length))) = some r → Fg pX σ υ → kLn υ K S N i ds rows n → zk (d + 5) 41 81 [.ref 169, .int (nI (K j)), .int (nI w1), .int (nI w2)] [] υ (fun r t => ∃ v, r = some v ∧ Q v t) := by
    intro υ i w1 w2 ds hr x y
    have hc2 := y.2.1.1
    refine r_al0 zi_41_81 rfl ?_
    refine q_getR zi_41_82 rfl cf_169_1 ?_
    refine r_il1 zi_41_85 rfl ?_
    refine r_il2 zi_41_86 rfl ?_
    refine r_il3 zi_41_87 rfl ?_
    refine r_al0 zi_41_88 rfl ?_
    refine q_getR zi_41_89 rfl cf_169_1 ?_
    refine q_getIe zi_41_92 rfl cf_173_3 (v := nI ds.length) (by first | exact hc2 | ((repeat (first | rw [zup_ne (by first | decide | omega)] | rw [zup_nj (by first | decide | omega)] | rw [fil_ne (by first | decide | omega)])) <;> exact hc2) | (simp [up_rd, fil_rd]; exact hc2)) ?_
    refine q_cVV zi_41_95 rfl rfl rfl rfl rfl rfl rfl cf_173_0.ob (s_kadd (d := d + 3) x y hl (fun ζ v1 v2 => ?_))
    show zk _ _ 98 _ _ _ _
    refine r_al0 zi_41_98 rfl ?_
    refine r_push zi_41_99 rfl ?_
    refine q_cIV zi_41_102 rfl rfl rfl rfl rfl rfl rfl cf_169_0.ob (s_ktake (d := d + 3) h0 rfl (by decide) hr v1 v2 (fun κ e k1 k2 => ?_) (fun κ fin => ?_))
    · show zk _ _ 105 _ _ _ _
      refine r_retZ zi_41_105 rfl (by first | exact Or.inl rfl | exact Or.inr rfl) ?_
      exact ⟨_, rfl, h1 _ _ _ κ (Option.some.inj e).symm k1 k2⟩
    · show zk _ _ 105 _ _ _ _
      refine r_retZ zi_41_105 rfl (by first | exact Or.inl rfl | exact Or.inr rfl) ?_
      exact ⟨_, rfl, fin⟩
  show zk _ _ 0 [.ref 169, zun, zun, zun] [] _ _
  cases hp : pe K 401 (j + 1) cs with
  | none => rw [hp] at hr; cases hr
  | some x =>
    rw [hp] at hr
    cases x with
    | inl y =>
      have er := Option.some.inj hr
      obtain ⟨q, i⟩ := y
      have h0 := fun υ => h0 q i υ er.symm
      refine r_al0 zi_41_0 rfl ?_
      refine q_getR zi_41_1 rfl cf_169_0 ?_
      refine q_cIV zi_41_4 rfl rfl rfl rfl rfl rfl rfl cf_170_0.ob (s_tok hk.1 ?_)
      show zk _ _ 7 _ _ _ _
      refine r_is1 zi_41_7 rfl ?_
      refine r_al0 zi_41_8 rfl ?_
      refine q_getR zi_41_9 rfl cf_169_1 ?_
      refine q_getIe zi_41_12 rfl cf_173_3 (v := nI cs.length) (by first | exact hc | ((repeat (first | rw [zup_ne (by first | decide | omega)] | rw [zup_nj (by first | decide | omega)] | rw [fil_ne (by first | decide | omega)])) <;> exact hc) | (simp [up_rd, fil_rd]; exact hc)) ?_
      refine r_is2 zi_41_15 rfl ?_
      refine r_al0 zi_41_16 rfl ?_
      refine r_push zi_41_17 rfl ?_
      refine r_push zi_41_20 rfl ?_
      refine q_cIV zi_41_23 rfl rfl rfl rfl rfl rfl rfl cf_169_0.ob (hbg _ (fun υ x1 x2 => ?_))
      show zk _ _ 26 _ _ _ _
      refine r_if0 zi_41_26 rfl (fun c => absurd c (by decide)) (fun _ => ?_)
      refine r_al0 zi_41_29 rfl ?_
      refine q_cIV zi_41_30 rfl rfl rfl rfl rfl rfl rfl cf_169_0.ob (s_kam (d := d + 2) hp x2.1 x2.2.1 x2.2.2.2.2.2.1 (fun _ _ _ z => by cases z) (fun n2 q2 ρ z y1 y2 y3 => ?_))
      show zk _ _ 33 _ _ _ _
      refine r_if1 zi_41_33 rfl (fun c => absurd (by decide) c) (fun _ => ?_)
      refine r_push zi_41_36 rfl ?_
      refine r_retZ zi_41_37 rfl (by decide) ?_
      cases z; exact ⟨_, rfl, h0 ρ (x1.ff.tr (y1.sub (pF_m (fun a b => pA_X)))) y2 y3⟩
    | inr y =>
      obtain ⟨j1, cs1⟩ := y
      have hl1 := pe_len hp
      replace hr : (if K j1 = 10013 then (match pcd K 500 true (j1 + 1) cs1 [] with | none => none | some (.inl x) => some (.inl x) | some (.inr (j2, cs2)) => pkw K j2 20059 (some (.inr (j2 + 1, cs2, nI (K j), nI cs.length, nI cs1.length, nI cs2.length)))) else pkw K j1 20059 (some (.inr (j1 + 1, cs1, nI (K j), nI cs.length, nI cs1.length, nI cs1.length)))) = some r := hr
      have hb1 : K j1 ≤ 30001 := tko_b (hk.1.2.2.2.2.2.2 j1)
      by_cases c : K j1 = 10013
      · rw [if_pos c] at hr
        have hnx : ∀ υ, Fg pX σ υ → kLn υ K S N j1 cs1 rows n → kLn (up υ 170 3 (nI (j1 + 1))) K S N (j1 + 1) cs1 rows n ∧ Fg pX σ (up υ 170 3 (nI (j1 + 1))) := fun υ x y => ⟨kLn_n y (fun a b hp => zup_n2 (by omega)) zup_eq (by omega) (kTk_ne y.1 (by omega)), x.put (by unfold pX; omega)⟩
        cases hp2 : pcd K 500 true (j1 + 1) cs1 [] with
        | none => rw [hp2] at hr; cases hr
        | some x =>
          rw [hp2] at hr
          cases x with
          | inl y =>
            have er := Option.some.inj hr
            obtain ⟨q, i⟩ := y
            have h0 := fun υ => h0 q i υ er.symm
            have key : ∀ υ, Fg pX σ υ → kLn υ K S N j1 cs1 rows n → zk (d + 5) 41 38 [.ref 169, .int (nI (K j)), .int (nI cs.length), zun] [] υ (fun r t => ∃ v, r = some v ∧ Q v t) := fun υ x y => by
              have hnx := hnx υ x y
              have hc1 := y.2.1.1
              have hn5 := y.1.2.2.2.2.1
              refine r_al0 zi_41_38 rfl ?_
              refine q_getR zi_41_39 rfl cf_169_1 ?_
              refine q_getIe zi_41_42 rfl cf_173_3 (v := nI cs1.length) (by first | exact hc1 | ((repeat (first | rw [zup_ne (by first | decide | omega)] | rw [zup_nj (by first | decide | omega)] | rw [fil_ne (by first | decide | omega)])) <;> exact hc1) | (simp [up_rd, fil_rd]; exact hc1)) ?_
              refine r_is3 zi_41_45 rfl ?_
              refine r_al0 zi_41_46 rfl ?_
              refine q_getR zi_41_47 rfl cf_169_0 ?_
              refine q_cIV zi_41_50 rfl rfl rfl rfl rfl rfl rfl cf_170_0.ob (s_tok y.1 ?_)
              show zk _ _ 53 _ _ _ _
              refine r_push zi_41_53 rfl ?_
              refine n_ic1 (i := (K j1)) (j := 10013) zi_41_56 rfl (by omega) (by omega) (fun c => absurd c (by omega)) (fun _ => ?_)
              refine r_al0 zi_41_59 rfl ?_
              refine q_getR zi_41_60 rfl cf_169_0 ?_
              refine r_dupR zi_41_63 rfl ?_
              refine q_getIe zi_41_64 rfl cf_170_3 (v := nI j1) (by first | exact hn5 | ((repeat (first | rw [zup_ne (by first | decide | omega)] | rw [zup_nj (by first | decide | omega)] | rw [fil_ne (by first | decide | omega)])) <;> exact hn5) | (simp [up_rd, fil_rd]; exact hn5)) ?_
              refine r_push zi_41_67 rfl ?_
              refine r_b0 zi_41_68 rfl ?_
              rw [show (nI j1 + 1 : Int32) = nI (j1 + 1) from nI_add _ _]
              refine q_put zi_41_69 rfl cf_170_3 rfl ?_
              refine r_al0 zi_41_72 rfl ?_
              refine q_cIV zi_41_73 rfl rfl rfl rfl rfl rfl rfl cf_169_0.ob (s_kcd (d := d) hp2 hnx.1.1 hnx.1.2.1 hnx.1.2.2.2.2.2.1 (fun _ _ _ z => by cases z) (fun n2 q2 ρ z y1 y2 y3 => ?_))
              show zk _ _ 76 _ _ _ _
              refine r_if1 zi_41_76 rfl (fun c => absurd (by decide) c) (fun _ => ?_)
              refine r_push zi_41_79 rfl ?_
              refine r_retZ zi_41_80 rfl (by decide) ?_
              cases z; exact ⟨_, rfl, h0 ρ (hnx.2.ff.tr (y1.sub (pF_m (fun a b => pC_X)))) y2 y3⟩
            refine r_al0 zi_41_0 rfl ?_
            refine q_getR zi_41_1 rfl cf_169_0 ?_
            refine q_cIV zi_41_4 rfl rfl rfl rfl rfl rfl rfl cf_170_0.ob (s_tok hk.1 ?_)
            show zk _ _ 7 _ _ _ _
            refine r_is1 zi_41_7 rfl ?_
            refine r_al0 zi_41_8 rfl ?_
            refine q_getR zi_41_9 rfl cf_169_1 ?_
            refine q_getIe zi_41_12 rfl cf_173_3 (v := nI cs.length) (by first | exact hc | ((repeat (first | rw [zup_ne (by first | decide | omega)] | rw [zup_nj (by first | decide | omega)] | rw [fil_ne (by first | decide | omega)])) <;> exact hc) | (simp [up_rd, fil_rd]; exact hc)) ?_
            refine r_is2 zi_41_15 rfl ?_
            refine r_al0 zi_41_16 rfl ?_
            refine r_push zi_41_17 rfl ?_
            refine r_push zi_41_20 rfl ?_
            refine q_cIV zi_41_23 rfl rfl rfl rfl rfl rfl rfl cf_169_0.ob (hbg _ (fun υ x1 x2 => ?_))
            show zk _ _ 26 _ _ _ _
            refine r_if0 zi_41_26 rfl (fun c => absurd c (by decide)) (fun _ => ?_)
            refine r_al0 zi_41_29 rfl ?_
            refine q_cIV zi_41_30 rfl rfl rfl rfl rfl rfl rfl cf_169_0.ob (s_kam (d := d + 2) hp x2.1 x2.2.1 x2.2.2.2.2.2.1 (fun i2 ds ρ z y1 y2 y3 y4 => ?_) (fun _ _ _ z => by cases z))
            show zk _ _ 33 _ _ _ _
            refine r_if1 zi_41_33 rfl (fun _ => ?_) (fun c => absurd c (by decide))
            cases z; exact key ρ (x1.tr (y1.sub (fun a b => pA_X))) (kLn_c x2 (y1.sub (fun a b => pA_C)) y2 y3 y4)
          | inr y =>
            obtain ⟨j2, cs2⟩ := y
            replace hr : pkw K j2 20059 (some (.inr (j2 + 1, cs2, nI (K j), nI cs.length, nI cs1.length, nI cs2.length))) = some r := hr
            have key : ∀ υ, Fg pX σ υ → kLn υ K S N j1 cs1 rows n → zk (d + 5) 41 38 [.ref 169, .int (nI (K j)), .int (nI cs.length), zun] [] υ (fun r t => ∃ v, r = some v ∧ Q v t) := fun υ x y => by
              have hnx := hnx υ x y
              have hc1 := y.2.1.1
              have hn5 := y.1.2.2.2.2.1
              refine r_al0 zi_41_38 rfl ?_
              refine q_getR zi_41_39 rfl cf_169_1 ?_
              refine q_getIe zi_41_42 rfl cf_173_3 (v := nI cs1.length) (by first | exact hc1 | ((repeat (first | rw [zup_ne (by first | decide | omega)] | rw [zup_nj (by first | decide | omega)] | rw [fil_ne (by first | decide | omega)])) <;> exact hc1) | (simp [up_rd, fil_rd]; exact hc1)) ?_
              refine r_is3 zi_41_45 rfl ?_
              refine r_al0 zi_41_46 rfl ?_
              refine q_getR zi_41_47 rfl cf_169_0 ?_
              refine q_cIV zi_41_50 rfl rfl rfl rfl rfl rfl rfl cf_170_0.ob (s_tok y.1 ?_)
              show zk _ _ 53 _ _ _ _
              refine r_push zi_41_53 rfl ?_
              refine n_ic1 (i := (K j1)) (j := 10013) zi_41_56 rfl (by omega) (by omega) (fun c => absurd c (by omega)) (fun _ => ?_)
              refine r_al0 zi_41_59 rfl ?_
              refine q_getR zi_41_60 rfl cf_169_0 ?_
              refine r_dupR zi_41_63 rfl ?_
              refine q_getIe zi_41_64 rfl cf_170_3 (v := nI j1) (by first | exact hn5 | ((repeat (first | rw [zup_ne (by first | decide | omega)] | rw [zup_nj (by first | decide | omega)] | rw [fil_ne (by first | decide | omega)])) <;> exact hn5) | (simp [up_rd, fil_rd]; exact hn5)) ?_
              refine r_push zi_41_67 rfl ?_
              refine r_b0 zi_41_68 rfl ?_
              rw [show (nI j1 + 1 : Int32) = nI (j1 + 1) from nI_add _ _]
              refine q_put zi_41_69 rfl cf_170_3 rfl ?_
              refine r_al0 zi_41_72 rfl ?_
              refine q_cIV zi_41_73 rfl rfl rfl rfl rfl rfl rfl cf_169_0.ob (s_kcd (d := d) hp2 hnx.1.1 hnx.1.2.1 hnx.1.2.2.2.2.2.1 (fun i2 ds ρ z y1 y2 y3 y4 => ?_) (fun _ _ _ z => by cases z))
              show zk _ _ 76 _ _ _ _
              refine r_if1 zi_41_76 rfl (fun _ => ?_) (fun c => absurd c (by decide))
              cases z; exact kend ρ j2 _ _ cs2 hr (hnx.2.tr (y1.sub (fun a b => pC_X))) (kLn_c hnx.1 y1 y2 y3 y4)
            refine r_al0 zi_41_0 rfl ?_
            refine q_getR zi_41_1 rfl cf_169_0 ?_
            refine q_cIV zi_41_4 rfl rfl rfl rfl rfl rfl rfl cf_170_0.ob (s_tok hk.1 ?_)
            show zk _ _ 7 _ _ _ _
            refine r_is1 zi_41_7 rfl ?_
            refine r_al0 zi_41_8 rfl ?_
            refine q_getR zi_41_9 rfl cf_169_1 ?_
            refine q_getIe zi_41_12 rfl cf_173_3 (v := nI cs.length) (by first | exact hc | ((repeat (first | rw [zup_ne (by first | decide | omega)] | rw [zup_nj (by first | decide | omega)] | rw [fil_ne (by first | decide | omega)])) <;> exact hc) | (simp [up_rd, fil_rd]; exact hc)) ?_
            refine r_is2 zi_41_15 rfl ?_
            refine r_al0 zi_41_16 rfl ?_
            refine r_push zi_41_17 rfl ?_
            refine r_push zi_41_20 rfl ?_
            refine q_cIV zi_41_23 rfl rfl rfl rfl rfl rfl rfl cf_169_0.ob (hbg _ (fun υ x1 x2 => ?_))
            show zk _ _ 26 _ _ _ _
            refine r_if0 zi_41_26 rfl (fun c => absurd c (by decide)) (fun _ => ?_)
            refine r_al0 zi_41_29 rfl ?_
            refine q_cIV zi_41_30 rfl rfl rfl rfl rfl rfl rfl cf_169_0.ob (s_kam (d := d + 2) hp x2.1 x2.2.1 x2.2.2.2.2.2.1 (fun i2 ds ρ z y1 y2 y3 y4 => ?_) (fun _ _ _ z => by cases z))
            show zk _ _ 33 _ _ _ _
            refine r_if1 zi_41_33 rfl (fun _ => ?_) (fun c => absurd c (by decide))
            cases z; exact key ρ (x1.tr (y1.sub (fun a b => pA_X))) (kLn_c x2 (y1.sub (fun a b => pA_C)) y2 y3 y4)
      · rw [if_neg c] at hr
        have key : ∀ υ, Fg pX σ υ → kLn υ K S N j1 cs1 rows n → zk (d + 5) 41 38 [.ref 169, .int (nI (K j)), .int (nI cs.length), zun] [] υ (fun r t => ∃ v, r = some v ∧ Q v t) := fun υ x y => by
          have hc1 := y.2.1.1
          refine r_al0 zi_41_38 rfl ?_
          refine q_getR zi_41_39 rfl cf_169_1 ?_
          refine q_getIe zi_41_42 rfl cf_173_3 (v := nI cs1.length) (by first | exact hc1 | ((repeat (first | rw [zup_ne (by first | decide | omega)] | rw [zup_nj (by first | decide | omega)] | rw [fil_ne (by first | decide | omega)])) <;> exact hc1) | (simp [up_rd, fil_rd]; exact hc1)) ?_
          refine r_is3 zi_41_45 rfl ?_
          refine r_al0 zi_41_46 rfl ?_
          refine q_getR zi_41_47 rfl cf_169_0 ?_
          refine q_cIV zi_41_50 rfl rfl rfl rfl rfl rfl rfl cf_170_0.ob (s_tok y.1 ?_)
          show zk _ _ 53 _ _ _ _
          refine r_push zi_41_53 rfl ?_
          refine n_ic1 (i := (K j1)) (j := 10013) zi_41_56 rfl (by omega) (by omega) (fun _ => ?_) (fun c => absurd c (by omega))
          exact kend υ j1 _ _ cs1 hr x y
        refine r_al0 zi_41_0 rfl ?_
        refine q_getR zi_41_1 rfl cf_169_0 ?_
        refine q_cIV zi_41_4 rfl rfl rfl rfl rfl rfl rfl cf_170_0.ob (s_tok hk.1 ?_)
        show zk _ _ 7 _ _ _ _
        refine r_is1 zi_41_7 rfl ?_
        refine r_al0 zi_41_8 rfl ?_
        refine q_getR zi_41_9 rfl cf_169_1 ?_
        refine q_getIe zi_41_12 rfl cf_173_3 (v := nI cs.length) (by first | exact hc | ((repeat (first | rw [zup_ne (by first | decide | omega)] | rw [zup_nj (by first | decide | omega)] | rw [fil_ne (by first | decide | omega)])) <;> exact hc) | (simp [up_rd, fil_rd]; exact hc)) ?_
        refine r_is2 zi_41_15 rfl ?_
        refine r_al0 zi_41_16 rfl ?_
        refine r_push zi_41_17 rfl ?_
        refine r_push zi_41_20 rfl ?_
        refine q_cIV zi_41_23 rfl rfl rfl rfl rfl rfl rfl cf_169_0.ob (hbg _ (fun υ x1 x2 => ?_))
        show zk _ _ 26 _ _ _ _
        refine r_if0 zi_41_26 rfl (fun c => absurd c (by decide)) (fun _ => ?_)
        refine r_al0 zi_41_29 rfl ?_
        refine q_cIV zi_41_30 rfl rfl rfl rfl rfl rfl rfl cf_169_0.ob (s_kam (d := d + 2) hp x2.1 x2.2.1 x2.2.2.2.2.2.1 (fun i2 ds ρ z y1 y2 y3 y4 => ?_) (fun _ _ _ z => by cases z))
        show zk _ _ 33 _ _ _ _
        refine r_if1 zi_41_33 rfl (fun _ => ?_) (fun c => absurd c (by decide))
        cases z; exact key ρ (x1.tr (y1.sub (fun a b => pA_X))) (kLn_c x2 (y1.sub (fun a b => pA_C)) y2 y3 y4)

