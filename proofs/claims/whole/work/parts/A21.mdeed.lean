/-! LINES in the model: the tide -/
def mL3 (at0 a b : Nat) : Prop := mR a b ∨ (a = 213 ∧ (b = at0 ∨ b = at0 + 1 ∨ b = at0 + 2))
theorem s_mdeed {d N j at0 : Nat} {t : Nat → Nat} {b : Nat} {σ τ : zS} {Q : Int32 → zS → Prop} {cs : List Nat} {r : (Nat × Nat) ⊕ (Nat × List Nat × pRw)} (hE : mEn t b N) (hat : 48 ≤ at0) (hat2 : at0 + 2 < 96) (h1 : ∀ i row υ, r = .inr (i, cs, row) → Fg (mL3 at0) τ υ → mTk υ t b i → i ≤ N → υ 213 at0 = row.1 → υ 213 (at0 + 2) = row.2.2.1 → (∃ p, p ≤ 12 ∧ υ 213 (at0 + 1) = nI p ∧ row.2.1 = (if p < 12 then nI p else -1)) → Q 0 υ) (h0 : ∀ υ, mFa σ t b r υ → Q (-1) υ) (hr : pti (tkk t b) j cs = some r) (hb : tkk t b j = 10017) (hF : Fg mX σ τ) (hk : mTk τ t b j) (hj : j ≤ N) : zI1 (d + 5) 215 [.ref 195, .int (nI at0)] τ Q := by
  have hraw : ∀ q i υ, r = .inl (q, i) → Fg mX σ υ → υ 195 29 = nI q → υ 195 30 = nI (tks t b i) → mFa σ t b r υ := fun q i υ e1 e2 e3 e4 => ⟨q, i, e1, e2, e3, e4⟩
  have hFX : ∀ υ, Fg (mL3 at0) τ υ → Fg mX σ υ := fun υ x => hF.tr (x.sub (fun a b z => z.elim mR_X (fun y => by unfold mX; omega)))
  have hX0 : mX 213 at0 := by unfold mX; omega
  have hX1 : mX 213 (at0 + 1) := by unfold mX; omega
  have hX2 : mX 213 (at0 + 2) := by unfold mX; omega
  have hmu : ∀ υ (q : Nat) (v : Int32) i, mTk υ t b i → mTk (up υ 213 q v) t b i := fun υ q v i y => mTk_f y (fun q _ _ => zup_ne (by decide)) (fun q => zup_ne (by decide)) (fun q => zup_ne (by decide))
  have hst : ∀ υ, Fg mR τ υ → Fg (mL3 at0) τ υ := fun υ x => x.sub (fun a b => Or.inl)
  have hp0 : ∀ υ (v : Int32), Fg (mL3 at0) τ υ → Fg (mL3 at0) τ (up υ 213 at0 v) := fun υ v x => x.put (Or.inr ⟨rfl, Or.inl rfl⟩)
  have hp1 : ∀ υ (v : Int32), Fg (mL3 at0) τ υ → Fg (mL3 at0) τ (up υ 213 (at0 + 1) v) := fun υ v x => x.put (Or.inr ⟨rfl, Or.inr (Or.inl rfl)⟩)
  have hp2 : ∀ υ (v : Int32), Fg (mL3 at0) τ υ → Fg (mL3 at0) τ (up υ 213 (at0 + 2) v) := fun υ v x => x.put (Or.inr ⟨rfl, Or.inr (Or.inr rfl)⟩)
  have hrR : ∀ υ ρ, Fg (mL3 at0) τ υ → Fg mR υ ρ → Fg (mL3 at0) τ ρ := fun υ ρ x y => x.tr (y.sub (fun a b => Or.inl))
  have hmk : ∀ υ i2 p v, mTk υ t b i2 → i2 ≤ N → Fg (mL3 at0) τ υ → υ 213 at0 = nI (tkk t b (j + 1)) → υ 213 (at0 + 1) = nI p → p ≤ 12 → pkw (tkk t b) i2 20059 (some (.inr (i2 + 1, cs, nI (tkk t b (j + 1)), (if p < 12 then nI p else -1), nI v, 0))) = some r → ∀ (Q2 : Int32 → zS → Prop), (∀ ρ, Q 0 ρ → Q2 0 ρ) → (∀ ρ, Q (-1) ρ → Q2 (-1) ρ) → zI1 (d + 4) 210 [.ref 195, .int 59] (up υ 213 (at0 + 2) (nI v)) Q2 := fun υ i2 p v y1 y2 x e1 e2 hp hr2 Q2 k1 k0 => by
    refine s_mmark (d := d + 1) (c := 59) (σ := σ) (Q := fun _ υ => mFa σ t b r υ) (fun q i υ e1 e2 e3 e4 => ⟨q, i, e1, e2, e3, e4⟩) hE rfl (by decide) hr2 (hFX _ (hp2 υ _ x)) (hmu υ _ _ _ y1) y2 (fun ρ e5 z1 z2 z3 => k1 ρ ?_) (fun ρ z => k0 ρ (h0 ρ z))
    exact h1 _ _ ρ (Option.some.inj e5).symm (hrR _ ρ (hp2 υ _ x) z1) z2 z3 ((z1 213 at0 (by unfold mR; omega)).trans ((zup_nj (by omega)).trans e1)) ((z1 213 (at0 + 2) (by unfold mR; omega)).trans zup_eq) ⟨p, hp, (z1 213 (at0 + 1) (by unfold mR; omega)).trans ((zup_nj (by omega)).trans e2), rfl⟩
  have hwd : ∀ (c : Nat) (wv : Int32) υ (Q2 : Int32 → zS → Prop), wv = nI (tkm c) → c < 28 → mTk υ t b (j + 2) → (tkk t b (j + 2) = 10000 + c → Q2 1 υ) → (¬ tkk t b (j + 2) = 10000 + c → Q2 0 υ) → zI1 (d + 4) 195 [.ref 195, .int wv] υ Q2 := fun c wv υ Q2 e hc y g1 g0 => s_mword1 (w := 0) e y.2.2.2 hc g1 g0
  have hrd : ∀ υ, tkk t b (j + 2) ≠ 30001 → j + 2 ≤ N → Fg (mL3 at0) τ υ → mTk υ t b (j + 2) → ∀ (Q2 : zS → Prop), (∀ ρ, Fg (mL3 at0) τ ρ → mTk ρ t b (j + 3) → j + 3 ≤ N → Fg mR υ ρ → Q2 ρ) → zV1 (d + 4) 193 [.ref 195] υ Q2 := fun υ h hj2 x y Q2 h2 => s_readn (d := d + 2) y (fun ρ z1 z2 => h2 ρ (hrR υ ρ x z1) z2 (mEn_lt hE hj2 h) z1)
  unfold pti at hr
  have key : ∀ υ, (if tkk t b (j + 2) = 10009 then pnum (tkk t b) (j + 3) 10 (fun v => pkw (tkk t b) (j + 4) 20059 (some (.inr (j + 5, cs, nI (tkk t b (j + 1)), -1, nI v, 0)))) else pkw (tkk t b) (j + 2) 10006 (pnum (tkk t b) (j + 3) 12 (fun p => pnum (tkk t b) (j + 4) 100 (fun v => pkw (tkk t b) (j + 5) 20059 (some (.inr (j + 6, cs, nI (tkk t b (j + 1)), nI p, nI v, 0))))))) = some r → Fg (mL3 at0) τ υ → mTk υ t b (j + 2) → j + 2 ≤ N → υ 213 at0 = nI (tkk t b (j + 1)) → zk (d + 5) 215 28 [.ref 195, .int (nI at0), zun] [] υ (fun r t => ∃ v, r = some v ∧ Q v t) := by
    intro υ hr x y hj2 hday
    by_cases c : tkk t b (j + 2) = 10009
    · rw [if_pos c] at hr
      have hrd := hrd υ (by omega) hj2 x y
      have e0 : ∀ ρ (v w : Int32), Fg mR υ ρ → up (up ρ 213 (at0 + 1) v) 213 (at0 + 2) w 213 (at0 + 2) = w := fun ρ v w _ => zup_eq
      have hnm := fun ρ (z : Fg (mL3 at0) τ ρ) (w : mTk ρ t b (j + 3)) (hj3 : j + 3 ≤ N) (Q2 : Int32 → zS → Prop) k1 k0 => s_mnum (d := d + 1) (mo := 9) (m := 10) (Q := fun _ υ => mFa σ t b r υ) (Q2 := Q2) hraw hE (hm_c (m := 10) (by decide) (by decide)) hr (hFX _ (hp1 ρ 12 z)) (hmu ρ (at0 + 1) 12 _ w) hj3 k1 k0
      have hmk2 : ∀ ρ ω, Fg (mL3 at0) τ ρ → Fg mR υ ρ → Fg mR (up ρ 213 (at0 + 1) 12) ω → mTk ω t b (j + 4) → j + 4 ≤ N → pkw (tkk t b) (j + 4) 20059 (some (.inr (j + 5, cs, nI (tkk t b (j + 1)), -1, nI (tkk t b (j + 3)), 0))) = some r → ∀ (Q2 : Int32 → zS → Prop), (∀ ρ, Q 0 ρ → Q2 0 ρ) → (∀ ρ, Q (-1) ρ → Q2 (-1) ρ) → zI1 (d + 4) 210 [.ref 195, .int 59] (up ω 213 (at0 + 2) (nI (tkk t b (j + 3)))) Q2 := fun ρ ω z1 z2 z3 z4 z5 hr2 Q2 k1 k0 => hmk ω (j + 4) 12 (tkk t b (j + 3)) z4 z5 (hrR _ ω (hp1 ρ 12 z1) z3) ((z3 213 at0 (by unfold mR; omega)).trans ((zup_nj (by omega)).trans ((z2 213 at0 (by unfold mR; omega)).trans hday))) ((z3 213 (at0 + 1) (by unfold mR; omega)).trans zup_eq) (by decide) (by rw [if_neg (by decide)]; exact hr2) Q2 k1 k0
      refine r_al0 zi_215_28 rfl ?_
      refine r_push zi_215_29 rfl ?_
      refine q_cIV zi_215_31 rfl rfl rfl rfl rfl rfl rfl cf_195_0.ob (hwd 9 13 υ _ rfl (by decide) y (fun _ => ?_) (fun z => absurd c z))
      show zk _ _ 34 _ _ _ _
      refine r_is2 zi_215_34 rfl ?_
      refine r_il2 zi_215_35 rfl ?_
      refine r_if1 zi_215_36 rfl (fun _ => ?_) (fun c => absurd c (by decide))
      refine r_al0 zi_215_54 rfl ?_
      refine q_cVV zi_215_55 rfl rfl rfl rfl rfl rfl rfl cf_195_0.ob (hrd _ (fun ρ z1 z2 z3 z4 => ?_))
      show zk _ _ 58 _ _ _ _
      refine r_al0 zi_215_58 rfl ?_
      refine q_getR zi_215_59 rfl cf_195_36 ?_
      refine r_il1 zi_215_62 rfl ?_
      refine r_push zi_215_63 rfl ?_
      refine r_b0 zi_215_64 rfl ?_
      rw [show (nI at0 + 1 : Int32) = nI (at0 + 1) from nI_add _ _]
      refine r_il2 zi_215_65 rfl ?_
      refine r_if0 zi_215_66 rfl (fun c => absurd c (by decide)) (fun _ => ?_)
      refine r_push zi_215_69 rfl ?_
      refine r_goto zi_215_71 rfl ?_
      refine r_ast zi_215_81 rfl (at0 + 1) ca_213 (by first | rfl | (simp only [zI_add, zI_mul] <;> rfl)) (by first | omega | decide) ?_
      refine r_al0 zi_215_82 rfl ?_
      refine q_getR zi_215_83 rfl cf_195_36 ?_
      refine r_il1 zi_215_86 rfl ?_
      refine r_push zi_215_87 rfl ?_
      refine r_b0 zi_215_88 rfl ?_
      rw [show (nI at0 + 1 : Int32) = nI (at0 + 1) from nI_add _ _]
      refine r_alde zi_215_89 rfl (at0 + 1) ca_213 (by first | rfl | (simp only [zI_add, zI_mul] <;> rfl)) (by first | omega | decide) (u := 12) (by first | exact zup_eq | ((repeat (first | rw [zup_ne (by first | decide | omega)] | rw [zup_nj (by first | decide | omega)] | rw [fil_ne (by first | decide | omega)])) <;> exact zup_eq) | (simp [up_rd, fil_rd]; exact zup_eq)) ?_
      refine r_push zi_215_90 rfl ?_
      refine r_ic1 zi_215_91 rfl (fun _ => ?_) (fun c => absurd c (by decide))
      refine r_al0 zi_215_96 rfl ?_
      refine q_getR zi_215_97 rfl cf_195_36 ?_
      refine r_il1 zi_215_100 rfl ?_
      refine r_push zi_215_101 rfl ?_
      refine r_b0 zi_215_102 rfl ?_
      rw [show (nI at0 + 2 : Int32) = nI (at0 + 2) from nI_add _ _]
      refine r_al0 zi_215_103 rfl ?_
      refine r_push zi_215_104 rfl ?_
      refine r_il2 zi_215_105 rfl ?_
      refine r_if0 zi_215_106 rfl (fun c => absurd c (by decide)) (fun _ => ?_)
      refine r_push zi_215_109 rfl ?_
      refine r_goto zi_215_111 rfl ?_
      refine q_cIV zi_215_116 rfl rfl rfl rfl rfl rfl rfl cf_195_0.ob (hnm ρ z1 z2 z3 _ (fun ω hr2 a1 a2 w1 w2 w3 => ?_) (fun ω bad => ?_))
      · show zk _ _ 119 _ _ _ _
        refine r_ast zi_215_119 rfl (at0 + 2) ca_213 (by first | rfl | (simp only [zI_add, zI_mul] <;> rfl)) (by first | omega | decide) ?_
        refine r_al0 zi_215_120 rfl ?_
        refine q_getR zi_215_121 rfl cf_195_36 ?_
        refine r_il1 zi_215_124 rfl ?_
        refine r_push zi_215_125 rfl ?_
        refine r_b0 zi_215_126 rfl ?_
        rw [show (nI at0 + 2 : Int32) = nI (at0 + 2) from nI_add _ _]
        refine r_alde zi_215_127 rfl (at0 + 2) ca_213 (by first | rfl | (simp only [zI_add, zI_mul] <;> rfl)) (by first | omega | decide) (u := nI (tkk t b (j + 3))) (by first | exact zup_eq | ((repeat (first | rw [zup_ne (by first | decide | omega)] | rw [zup_nj (by first | decide | omega)] | rw [fil_ne (by first | decide | omega)])) <;> exact zup_eq) | (simp [up_rd, fil_rd]; exact zup_eq)) ?_
        refine r_push zi_215_128 rfl ?_
        refine r_ic1 zi_215_129 rfl (fun _ => ?_) (fun c => absurd c (nI_m1 (by omega)))
        refine r_al0 zi_215_136 rfl ?_
        refine r_push zi_215_137 rfl ?_
        refine q_cIV zi_215_139 rfl rfl rfl rfl rfl rfl rfl cf_195_0.ob (hmk2 ρ ω z1 z4 w1 w2 w3 hr2 _ (fun ξ fin => ?_) (fun ξ fin => ?_))
        · show zk _ _ 142 _ _ _ _
          refine r_retI zi_215_142 rfl ?_
          exact ⟨_, rfl, fin⟩
        · show zk _ _ 142 _ _ _ _
          refine r_retI zi_215_142 rfl ?_
          exact ⟨_, rfl, fin⟩
      · show zk _ _ 119 _ _ _ _
        refine r_ast zi_215_119 rfl (at0 + 2) ca_213 (by first | rfl | (simp only [zI_add, zI_mul] <;> rfl)) (by first | omega | decide) ?_
        refine r_al0 zi_215_120 rfl ?_
        refine q_getR zi_215_121 rfl cf_195_36 ?_
        refine r_il1 zi_215_124 rfl ?_
        refine r_push zi_215_125 rfl ?_
        refine r_b0 zi_215_126 rfl ?_
        rw [show (nI at0 + 2 : Int32) = nI (at0 + 2) from nI_add _ _]
        refine r_alde zi_215_127 rfl (at0 + 2) ca_213 (by first | rfl | (simp only [zI_add, zI_mul] <;> rfl)) (by first | omega | decide) (u := -1) (by first | exact zup_eq | ((repeat (first | rw [zup_ne (by first | decide | omega)] | rw [zup_nj (by first | decide | omega)] | rw [fil_ne (by first | decide | omega)])) <;> exact zup_eq) | (simp [up_rd, fil_rd]; exact zup_eq)) ?_
        refine r_push zi_215_128 rfl ?_
        refine r_ic1 zi_215_129 rfl (fun c => absurd (by decide) c) (fun _ => ?_)
        refine r_push zi_215_132 rfl ?_
        refine r_goto zi_215_133 rfl ?_
        refine r_retI zi_215_142 rfl ?_
        exact ⟨_, rfl, h0 _ (mFa_put bad hX2 (by decide))⟩
    · rw [if_neg c] at hr
      unfold pkw at hr
      by_cases c2 : tkk t b (j + 2) = 10006
      · rw [if_pos c2] at hr
        have hrd := hrd υ (by omega) hj2 x y
        have hmk2 : ∀ ρ ω ξ, Fg (mL3 at0) τ ρ → Fg mR υ ρ → Fg mR ρ ω → Fg mR (up ω 213 (at0 + 1) (nI (tkk t b (j + 3)))) ξ → mTk ξ t b (j + 5) → j + 5 ≤ N → tkk t b (j + 3) < 12 → pkw (tkk t b) (j + 5) 20059 (some (.inr (j + 6, cs, nI (tkk t b (j + 1)), nI (tkk t b (j + 3)), nI (tkk t b (j + 4)), 0))) = some r → ∀ (Q2 : Int32 → zS → Prop), (∀ ρ, Q 0 ρ → Q2 0 ρ) → (∀ ρ, Q (-1) ρ → Q2 (-1) ρ) → zI1 (d + 4) 210 [.ref 195, .int 59] (up ξ 213 (at0 + 2) (nI (tkk t b (j + 4)))) Q2 := fun ρ ω ξ z1 z2 z25 z3 z4 z5 hp hr2 Q2 k1 k0 => hmk ξ (j + 5) (tkk t b (j + 3)) (tkk t b (j + 4)) z4 z5 (hrR _ ξ (hp1 ω _ (hrR ρ ω z1 z25)) z3) ((z3 213 at0 (by unfold mR; omega)).trans ((zup_nj (by omega)).trans ((z25 213 at0 (by unfold mR; omega)).trans ((z2 213 at0 (by unfold mR; omega)).trans hday)))) ((z3 213 (at0 + 1) (by unfold mR; omega)).trans zup_eq) (by omega) (by rw [if_pos hp]; exact hr2) Q2 k1 k0
        refine r_al0 zi_215_28 rfl ?_
        refine r_push zi_215_29 rfl ?_
        refine q_cIV zi_215_31 rfl rfl rfl rfl rfl rfl rfl cf_195_0.ob (hwd 9 13 υ _ rfl (by decide) y (fun z => absurd z c) (fun _ => ?_))
        show zk _ _ 34 _ _ _ _
        refine r_is2 zi_215_34 rfl ?_
        refine r_il2 zi_215_35 rfl ?_
        refine r_if1 zi_215_36 rfl (fun c => absurd (by decide) c) (fun _ => ?_)
        refine r_al0 zi_215_39 rfl ?_
        refine r_push zi_215_40 rfl ?_
        refine q_cIV zi_215_42 rfl rfl rfl rfl rfl rfl rfl cf_195_0.ob (hwd 6 10 υ _ rfl (by decide) y (fun _ => ?_) (fun z => absurd c2 z))
        show zk _ _ 45 _ _ _ _
        refine r_if1 zi_215_45 rfl (fun _ => ?_) (fun c => absurd c (by decide))
        refine r_al0 zi_215_54 rfl ?_
        refine q_cVV zi_215_55 rfl rfl rfl rfl rfl rfl rfl cf_195_0.ob (hrd _ (fun ρ z1 z2 z3 z4 => ?_))
        show zk _ _ 58 _ _ _ _
        refine r_al0 zi_215_58 rfl ?_
        refine q_getR zi_215_59 rfl cf_195_36 ?_
        refine r_il1 zi_215_62 rfl ?_
        refine r_push zi_215_63 rfl ?_
        refine r_b0 zi_215_64 rfl ?_
        rw [show (nI at0 + 1 : Int32) = nI (at0 + 1) from nI_add _ _]
        refine r_il2 zi_215_65 rfl ?_
        refine r_if0 zi_215_66 rfl (fun _ => ?_) (fun c => absurd (by decide) c)
        refine r_al0 zi_215_74 rfl ?_
        refine r_push zi_215_75 rfl ?_
        refine r_push zi_215_76 rfl ?_
        refine q_cIV zi_215_78 rfl rfl rfl rfl rfl rfl rfl cf_195_0.ob (s_mnum (d := d + 1) (mo := 11) (m := 12) (Q := fun _ υ => mFa σ t b r υ) hraw hE (hm_c (m := 12) (by decide) (by decide)) hr (hFX ρ z1) z2 z3 (fun ω hr2 a1 a2 w1 w2 w3 => ?_) (fun ω bad => ?_))
        · show zk _ _ 81 _ _ _ _
          refine r_ast zi_215_81 rfl (at0 + 1) ca_213 (by first | rfl | (simp only [zI_add, zI_mul] <;> rfl)) (by first | omega | decide) ?_
          refine r_al0 zi_215_82 rfl ?_
          refine q_getR zi_215_83 rfl cf_195_36 ?_
          refine r_il1 zi_215_86 rfl ?_
          refine r_push zi_215_87 rfl ?_
          refine r_b0 zi_215_88 rfl ?_
          rw [show (nI at0 + 1 : Int32) = nI (at0 + 1) from nI_add _ _]
          refine r_alde zi_215_89 rfl (at0 + 1) ca_213 (by first | rfl | (simp only [zI_add, zI_mul] <;> rfl)) (by first | omega | decide) (u := nI (tkk t b (j + 3))) (by first | exact zup_eq | ((repeat (first | rw [zup_ne (by first | decide | omega)] | rw [zup_nj (by first | decide | omega)] | rw [fil_ne (by first | decide | omega)])) <;> exact zup_eq) | (simp [up_rd, fil_rd]; exact zup_eq)) ?_
          refine r_push zi_215_90 rfl ?_
          refine r_ic1 zi_215_91 rfl (fun _ => ?_) (fun c => absurd c (nI_m1 (by omega)))
          refine r_al0 zi_215_96 rfl ?_
          refine q_getR zi_215_97 rfl cf_195_36 ?_
          refine r_il1 zi_215_100 rfl ?_
          refine r_push zi_215_101 rfl ?_
          refine r_b0 zi_215_102 rfl ?_
          rw [show (nI at0 + 2 : Int32) = nI (at0 + 2) from nI_add _ _]
          refine r_al0 zi_215_103 rfl ?_
          refine r_push zi_215_104 rfl ?_
          refine r_il2 zi_215_105 rfl ?_
          refine r_if0 zi_215_106 rfl (fun _ => ?_) (fun c => absurd (by decide) c)
          refine r_push zi_215_114 rfl ?_
          refine q_cIV zi_215_116 rfl rfl rfl rfl rfl rfl rfl cf_195_0.ob (s_mnum (d := d + 1) (mo := 99) (m := 100) (Q := fun _ υ => mFa σ t b r υ) hraw hE (hm_c (m := 100) (by decide) (by decide)) hr2 (hFX _ (hp1 ω _ (hrR ρ ω z1 w1))) (hmu ω _ _ _ w2) w3 (fun ξ hr3 b1 b2 v1 v2 v3 => ?_) (fun ξ bad => ?_))
          · show zk _ _ 119 _ _ _ _
            refine r_ast zi_215_119 rfl (at0 + 2) ca_213 (by first | rfl | (simp only [zI_add, zI_mul] <;> rfl)) (by first | omega | decide) ?_
            refine r_al0 zi_215_120 rfl ?_
            refine q_getR zi_215_121 rfl cf_195_36 ?_
            refine r_il1 zi_215_124 rfl ?_
            refine r_push zi_215_125 rfl ?_
            refine r_b0 zi_215_126 rfl ?_
            rw [show (nI at0 + 2 : Int32) = nI (at0 + 2) from nI_add _ _]
            refine r_alde zi_215_127 rfl (at0 + 2) ca_213 (by first | rfl | (simp only [zI_add, zI_mul] <;> rfl)) (by first | omega | decide) (u := nI (tkk t b (j + 4))) (by first | exact zup_eq | ((repeat (first | rw [zup_ne (by first | decide | omega)] | rw [zup_nj (by first | decide | omega)] | rw [fil_ne (by first | decide | omega)])) <;> exact zup_eq) | (simp [up_rd, fil_rd]; exact zup_eq)) ?_
            refine r_push zi_215_128 rfl ?_
            refine r_ic1 zi_215_129 rfl (fun _ => ?_) (fun c => absurd c (nI_m1 (by omega)))
            refine r_al0 zi_215_136 rfl ?_
            refine r_push zi_215_137 rfl ?_
            refine q_cIV zi_215_139 rfl rfl rfl rfl rfl rfl rfl cf_195_0.ob (hmk2 ρ ω ξ z1 z4 w1 v1 v2 v3 a2 hr3 _ (fun κ fin => ?_) (fun κ fin => ?_))
            · show zk _ _ 142 _ _ _ _
              refine r_retI zi_215_142 rfl ?_
              exact ⟨_, rfl, fin⟩
            · show zk _ _ 142 _ _ _ _
              refine r_retI zi_215_142 rfl ?_
              exact ⟨_, rfl, fin⟩
          · show zk _ _ 119 _ _ _ _
            refine r_ast zi_215_119 rfl (at0 + 2) ca_213 (by first | rfl | (simp only [zI_add, zI_mul] <;> rfl)) (by first | omega | decide) ?_
            refine r_al0 zi_215_120 rfl ?_
            refine q_getR zi_215_121 rfl cf_195_36 ?_
            refine r_il1 zi_215_124 rfl ?_
            refine r_push zi_215_125 rfl ?_
            refine r_b0 zi_215_126 rfl ?_
            rw [show (nI at0 + 2 : Int32) = nI (at0 + 2) from nI_add _ _]
            refine r_alde zi_215_127 rfl (at0 + 2) ca_213 (by first | rfl | (simp only [zI_add, zI_mul] <;> rfl)) (by first | omega | decide) (u := -1) (by first | exact zup_eq | ((repeat (first | rw [zup_ne (by first | decide | omega)] | rw [zup_nj (by first | decide | omega)] | rw [fil_ne (by first | decide | omega)])) <;> exact zup_eq) | (simp [up_rd, fil_rd]; exact zup_eq)) ?_
            refine r_push zi_215_128 rfl ?_
            refine r_ic1 zi_215_129 rfl (fun c => absurd (by decide) c) (fun _ => ?_)
            refine r_push zi_215_132 rfl ?_
            refine r_goto zi_215_133 rfl ?_
            refine r_retI zi_215_142 rfl ?_
            exact ⟨_, rfl, h0 _ (mFa_put bad hX2 (by decide))⟩
        · show zk _ _ 81 _ _ _ _
          refine r_ast zi_215_81 rfl (at0 + 1) ca_213 (by first | rfl | (simp only [zI_add, zI_mul] <;> rfl)) (by first | omega | decide) ?_
          refine r_al0 zi_215_82 rfl ?_
          refine q_getR zi_215_83 rfl cf_195_36 ?_
          refine r_il1 zi_215_86 rfl ?_
          refine r_push zi_215_87 rfl ?_
          refine r_b0 zi_215_88 rfl ?_
          rw [show (nI at0 + 1 : Int32) = nI (at0 + 1) from nI_add _ _]
          refine r_alde zi_215_89 rfl (at0 + 1) ca_213 (by first | rfl | (simp only [zI_add, zI_mul] <;> rfl)) (by first | omega | decide) (u := -1) (by first | exact zup_eq | ((repeat (first | rw [zup_ne (by first | decide | omega)] | rw [zup_nj (by first | decide | omega)] | rw [fil_ne (by first | decide | omega)])) <;> exact zup_eq) | (simp [up_rd, fil_rd]; exact zup_eq)) ?_
          refine r_push zi_215_90 rfl ?_
          refine r_ic1 zi_215_91 rfl (fun c => absurd (by decide) c) (fun _ => ?_)
          refine r_push zi_215_94 rfl ?_
          refine r_retI zi_215_95 rfl ?_
          exact ⟨_, rfl, h0 _ (mFa_put bad hX1 (by decide))⟩
      · rw [if_neg c2] at hr
        have herr : ∀ (Q3 : Int32 → zS → Prop), (∀ ω, Q (-1) ω → Q3 (-1) ω) → zI1 (d + 4) 194 [.ref 195, .int 1] υ Q3 := fun Q3 h2 => s_err (n := 1) y (fun ω z1 z2 z3 => h2 ω (h0 ω ⟨1, j + 2, (Option.some.inj hr).symm, (hFX υ x).tr (z1.sub (fun a b => mA_X)), z2, z3⟩))
        refine r_al0 zi_215_28 rfl ?_
        refine r_push zi_215_29 rfl ?_
        refine q_cIV zi_215_31 rfl rfl rfl rfl rfl rfl rfl cf_195_0.ob (hwd 9 13 υ _ rfl (by decide) y (fun z => absurd z c) (fun _ => ?_))
        show zk _ _ 34 _ _ _ _
        refine r_is2 zi_215_34 rfl ?_
        refine r_il2 zi_215_35 rfl ?_
        refine r_if1 zi_215_36 rfl (fun c => absurd (by decide) c) (fun _ => ?_)
        refine r_al0 zi_215_39 rfl ?_
        refine r_push zi_215_40 rfl ?_
        refine q_cIV zi_215_42 rfl rfl rfl rfl rfl rfl rfl cf_195_0.ob (hwd 6 10 υ _ rfl (by decide) y (fun z => absurd z c2) (fun _ => ?_))
        show zk _ _ 45 _ _ _ _
        refine r_if1 zi_215_45 rfl (fun c => absurd (by decide) c) (fun _ => ?_)
        refine r_al0 zi_215_48 rfl ?_
        refine r_push zi_215_49 rfl ?_
        refine q_cIV zi_215_50 rfl rfl rfl rfl rfl rfl rfl cf_195_0.ob (herr _ (fun ω fin => ?_))
        show zk _ _ 53 _ _ _ _
        refine r_retI zi_215_53 rfl ?_
        exact ⟨_, rfl, fin⟩
  show zk _ _ 0 [.ref 195, .int (nI at0), zun] [] _ _
  refine r_al0 zi_215_0 rfl ?_
  refine q_getR zi_215_1 rfl cf_195_36 ?_
  refine r_il1 zi_215_4 rfl ?_
  refine r_al0 zi_215_5 rfl ?_
  refine r_push zi_215_6 rfl ?_
  refine r_push zi_215_8 rfl ?_
  refine r_push zi_215_9 rfl ?_
  refine q_cIV zi_215_12 rfl rfl rfl rfl rfl rfl rfl cf_195_0.ob (s_mtold (d := d) (w := 17) (mo := 999) (m := 1000) (Q := fun _ υ => mFa σ t b r υ) hraw hE rfl (by decide) (hm_c (m := 1000) (by decide) (by decide)) ((pkw_i hb).trans hr) hF hk hj (fun υ hr2 a1 a2 x1 x2 x3 => ?_) (fun υ bad => ?_))
  · show zk _ _ 15 _ _ _ _
    refine r_ast zi_215_15 rfl at0 ca_213 (by first | rfl | (simp only [zI_add, zI_mul] <;> rfl)) (by first | omega | decide) ?_
    refine r_al0 zi_215_16 rfl ?_
    refine q_getR zi_215_17 rfl cf_195_36 ?_
    refine r_il1 zi_215_20 rfl ?_
    refine r_alde zi_215_21 rfl at0 ca_213 (by first | rfl | (simp only [zI_add, zI_mul] <;> rfl)) (by first | omega | decide) (u := nI (tkk t b (j + 1))) (by first | exact zup_eq | ((repeat (first | rw [zup_ne (by first | decide | omega)] | rw [zup_nj (by first | decide | omega)] | rw [fil_ne (by first | decide | omega)])) <;> exact zup_eq) | (simp [up_rd, fil_rd]; exact zup_eq)) ?_
    refine r_push zi_215_22 rfl ?_
    refine r_ic1 zi_215_23 rfl (fun _ => ?_) (fun c => absurd c (nI_m1 (by omega)))
    exact key _ hr2 (hp0 υ _ (hst υ x1)) (hmu υ _ _ _ x2) x3 zup_eq
  · show zk _ _ 15 _ _ _ _
    refine r_ast zi_215_15 rfl at0 ca_213 (by first | rfl | (simp only [zI_add, zI_mul] <;> rfl)) (by first | omega | decide) ?_
    refine r_al0 zi_215_16 rfl ?_
    refine q_getR zi_215_17 rfl cf_195_36 ?_
    refine r_il1 zi_215_20 rfl ?_
    refine r_alde zi_215_21 rfl at0 ca_213 (by first | rfl | (simp only [zI_add, zI_mul] <;> rfl)) (by first | omega | decide) (u := -1) (by first | exact zup_eq | ((repeat (first | rw [zup_ne (by first | decide | omega)] | rw [zup_nj (by first | decide | omega)] | rw [fil_ne (by first | decide | omega)])) <;> exact zup_eq) | (simp [up_rd, fil_rd]; exact zup_eq)) ?_
    refine r_push zi_215_22 rfl ?_
    refine r_ic1 zi_215_23 rfl (fun c => absurd (by decide) c) (fun _ => ?_)
    refine r_push zi_215_26 rfl ?_
    refine r_retI zi_215_27 rfl ?_
    exact ⟨_, rfl, h0 _ (mFa_put bad hX0 (by decide))⟩

