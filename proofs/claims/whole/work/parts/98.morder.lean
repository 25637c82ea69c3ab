/-! MODEL: orders go -/
theorem s_mwho {d q s : Nat} {σ : zS} {Q : Int32 → zS → Prop} (hq : q < 100000) (hs : q / 200 % 20 = s) (h : Q (nI s) σ) : zI1 d 234 [.ref 195, .int (nI q)] σ Q := by
  subst hs
  show zk _ _ 0 [.ref 195, .int (nI q)] [] _ _
  refine r_il1 zi_234_0 rfl ?_
  refine r_push zi_234_1 rfl ?_
  refine r_div zi_234_4 rfl (by decide) ?_
  rw [show (nI q / 200 : Int32) = nI (q / 200) from pk_div (d := 200) (by omega) (by omega) (by omega)]
  refine r_push zi_234_5 rfl ?_
  refine r_rem zi_234_7 rfl (by decide) ?_
  rw [show (nI (q / 200) % 20 : Int32) = nI ((q / 200) % 20) from zI_rem (d := 20) (by omega) (by omega) (by omega)]
  refine r_retI zi_234_8 rfl ?_
  exact ⟨_, rfl, h⟩
theorem s_mIsOb {d n s w a g N : Nat} {σ : zS} {Q : Int32 → zS → Prop} {V : zS} {th : Bool} {Wd Fr' Wh To O A : Nat → Nat} {B : Nat → Int32} (hM : zMd σ n th N Wd Fr' Wh To O A B) (hV : zVm σ V n th) (hg : zVg V n) (hs : s < n) (hw : w ≤ 5) (ha : a < 12) (hg1 : g ≤ 1) (hw5 : w = 5 → g = 0) (h : ∀ τ, zFm th σ τ → zVm τ (dOr (zTl N Wd Fr' Wh To O A) B n th V s (w + 10 * a) (decide (g = 1))) n th → Q (nI (dOc (zTl N Wd Fr' Wh To O A) n th V s (w + 10 * a))) τ) : zI1 (d + 7) 239 [.ref 195, .int (nI (w + 10 * a + 200 * s + 4000 * g))] σ Q := by
  have hn18 := hM.2.1
  obtain ⟨q, hq⟩ : ∃ q, q = w + 10 * a + 200 * s + 4000 * g := ⟨_, rfl⟩
  rw [← hq]
  have e10 : q % 10 = w := by omega
  have e20 : q / 10 % 20 = a := by omega
  have e200 : q / 200 % 20 = s := by omega
  have hq4 : q < 100000 := by omega
  have hqg : g = 1 ↔ 4000 ≤ q := by omega
  have d10 : (w + 10 * a) % 10 = w := by omega
  have d1 : (w + 10 * a) / 10 = a := by omega
  clear hq
  obtain ⟨m30, m66, _⟩ := hV.2.2.1 s hs
  obtain ⟨m48, m84, m102⟩ := hV.2.2.2.1 s (by omega)
  have z1 : nI 1 = 0 ∨ nI 1 = 1 := Or.inr rfl
  have z0 : nI 0 = 0 ∨ nI 0 = 1 := Or.inl rfl
  have k8 : ∀ {τ U : zS} {u v : Int32}, zVm τ U n th → u = v + 1 → zVm (up τ 196 (102 + s) u) (up U 8 s v) n th := fun x e => zVm_u hn18 x ⟨zCn8 (by omega), fun _ z => absurd rfl z, fun z => absurd z (by decide), fun _ => e⟩
  have main : zk (d + 7) 239 20 [.ref 195, .int (nI q), .int (nI s), .int (nI w), .int (nI a), zun] [] σ (fun r t => ∃ v, r = some v ∧ Q v t) := by
    unfold dOr dOc at h
    rw [d10, d1] at h
    by_cases hal : V 6 s = 1
    · rw [if_pos hal] at m66
      have hlv : ∀ (Q2 : Int32 → zS → Prop), Q2 (nI 1) σ → zI1 (d + 6) 179 [.ref 195, .int (nI s)] σ Q2 := fun Q2 hq => s_malive (by omega) (fun _ => hq) (fun z => absurd m66 z)
      by_cases h5 : w = 5
      · rw [if_neg (fun z => z hal), if_pos h5, if_neg (fun z => z.2.1 h5)] at h
        obtain ⟨wr, gw, gw2⟩ := hg.2.2.2.2.2.2.2
        unfold dSp at h
        have hnt : ∀ (mu : Int32) (Q2 : zS → Prop), (∀ υ, zFm th σ υ → zVm υ (dW th 2 (nI s) mu V) n th → Q2 υ) → zV1 (d + 6) 233 [.ref 195, .int 2, .int (nI s), .int mu] σ Q2 := fun mu Q2 hq => s_mnotes hM hV gw2 gw hq
        rcases hg.2.2.2.2.1 s (by omega) with e | ⟨_, w2, a2, hw2, ha2, e⟩
        · rw [if_pos e] at h
          have m0 : σ 196 (102 + s) = nI 0 := by rw [m102, e]; rfl
          refine r_al0 zi_239_20 rfl ?_
          refine r_il2 zi_239_21 rfl ?_
          refine q_cIV zi_239_22 rfl rfl rfl rfl rfl rfl rfl cf_195_0.ob (hlv _ ?_)
          show zk _ _ 25 _ _ _ _
          refine r_if1 zi_239_25 rfl (fun _ => ?_) (fun c => absurd c (by decide))
          refine r_il3 zi_239_30 rfl ?_
          refine r_push zi_239_31 rfl ?_
          refine n_ic1 (i := w) (j := 5) zi_239_32 rfl (by omega) (by omega) (fun c => absurd c (by omega)) (fun _ => ?_)
          refine r_al0 zi_239_35 rfl ?_
          refine r_push zi_239_36 rfl ?_
          refine r_il2 zi_239_37 rfl ?_
          refine r_al0 zi_239_38 rfl ?_
          refine q_getR zi_239_39 rfl cf_195_1 ?_
          refine r_push zi_239_42 rfl ?_
          refine r_il2 zi_239_44 rfl ?_
          refine r_b0 zi_239_45 rfl ?_
          rw [show (102 + nI s : Int32) = nI (102 + s) from nI_add _ _]
          refine r_alde zi_239_46 rfl (102 + s) ca_196 (by first | rfl | (simp only [zI_add, zI_mul] <;> rfl)) (by first | omega | decide) (u := nI 0) (by first | exact m0 | ((repeat (first | rw [zup_ne (by first | decide | omega)] | rw [zup_nj (by first | decide | omega)] | rw [fil_ne (by first | decide | omega)])) <;> exact m0) | (simp [up_rd, fil_rd]; exact m0)) ?_
          refine n_if1 (i := 0) zi_239_47 rfl (by omega) (fun c => absurd c (by omega)) (fun _ => ?_)
          refine r_push zi_239_50 rfl ?_
          refine r_goto zi_239_51 rfl ?_
          refine q_cVV zi_239_68 rfl rfl rfl rfl rfl rfl rfl cf_195_0.ob (hnt (-1) _ (fun υ x1 x2 => ?_))
          show zk _ _ 71 _ _ _ _
          refine r_al0 zi_239_71 rfl ?_
          refine q_getR zi_239_72 rfl cf_195_1 ?_
          refine r_push zi_239_75 rfl ?_
          refine r_il2 zi_239_77 rfl ?_
          refine r_b0 zi_239_78 rfl ?_
          rw [show (102 + nI s : Int32) = nI (102 + s) from nI_add _ _]
          refine r_push zi_239_79 rfl ?_
          refine r_ast zi_239_80 rfl (102 + s) ca_196 (by first | rfl | (simp only [zI_add, zI_mul] <;> rfl)) (by first | omega | decide) ?_
          refine r_push zi_239_81 rfl ?_
          refine r_retZ zi_239_82 rfl (by decide) ?_
          exact ⟨_, rfl, h _ x1.put (k8 x2 rfl)⟩
        · have e8 : ¬ V 8 s = -1 := fun z => by
            have h9 := nI_pos' (n := w2 + 10 * a2) (by omega)
            rw [← e, z] at h9
            exact absurd h9 (by decide)
          rw [if_neg e8] at h
          have em : V 8 s % 10 = nI ((w2 + 10 * a2) % 10) := by rw [e]; exact zI_rem (d := 10) (by omega) (by omega) (by omega)
          rw [em] at h
          have m0 : σ 196 (102 + s) = nI (w2 + 10 * a2 + 1) := by rw [m102, e]; exact nI_1 _
          have ex : w2 + 10 * a2 + 1 - 1 = w2 + 10 * a2 := by omega
          have m0' : σ 196 (102 + s) - 1 = nI (w2 + 10 * a2) := by rw [m102, e]; grind
          refine r_al0 zi_239_20 rfl ?_
          refine r_il2 zi_239_21 rfl ?_
          refine q_cIV zi_239_22 rfl rfl rfl rfl rfl rfl rfl cf_195_0.ob (hlv _ ?_)
          show zk _ _ 25 _ _ _ _
          refine r_if1 zi_239_25 rfl (fun _ => ?_) (fun c => absurd c (by decide))
          refine r_il3 zi_239_30 rfl ?_
          refine r_push zi_239_31 rfl ?_
          refine n_ic1 (i := w) (j := 5) zi_239_32 rfl (by omega) (by omega) (fun c => absurd c (by omega)) (fun _ => ?_)
          refine r_al0 zi_239_35 rfl ?_
          refine r_push zi_239_36 rfl ?_
          refine r_il2 zi_239_37 rfl ?_
          refine r_al0 zi_239_38 rfl ?_
          refine q_getR zi_239_39 rfl cf_195_1 ?_
          refine r_push zi_239_42 rfl ?_
          refine r_il2 zi_239_44 rfl ?_
          refine r_b0 zi_239_45 rfl ?_
          rw [show (102 + nI s : Int32) = nI (102 + s) from nI_add _ _]
          refine r_alde zi_239_46 rfl (102 + s) ca_196 (by first | rfl | (simp only [zI_add, zI_mul] <;> rfl)) (by first | omega | decide) (u := nI (w2+10*a2+1)) (by first | exact m0 | ((repeat (first | rw [zup_ne (by first | decide | omega)] | rw [zup_nj (by first | decide | omega)] | rw [fil_ne (by first | decide | omega)])) <;> exact m0) | (simp [up_rd, fil_rd]; exact m0)) ?_
          refine n_if1 (i := (w2+10*a2+1)) zi_239_47 rfl (by omega) (fun _ => ?_) (fun c => absurd c (by omega))
          refine r_al0 zi_239_54 rfl ?_
          refine q_getR zi_239_55 rfl cf_195_1 ?_
          refine r_push zi_239_58 rfl ?_
          refine r_il2 zi_239_60 rfl ?_
          refine r_b0 zi_239_61 rfl ?_
          rw [show (102 + nI s : Int32) = nI (102 + s) from nI_add _ _]
          refine r_alde zi_239_62 rfl (102 + s) ca_196 (by first | rfl | (simp only [zI_add, zI_mul] <;> rfl)) (by first | omega | decide) (u := nI (w2+10*a2+1)) (by first | exact m0 | ((repeat (first | rw [zup_ne (by first | decide | omega)] | rw [zup_nj (by first | decide | omega)] | rw [fil_ne (by first | decide | omega)])) <;> exact m0) | (simp [up_rd, fil_rd]; exact m0)) ?_
          refine r_push zi_239_63 rfl ?_
          refine r_b1 zi_239_64 rfl ?_
          rw [show (nI (w2+10*a2+1) - 1 : Int32) = nI ((w2+10*a2+1) - 1) from pk_sub (a := (w2+10*a2+1)) (b := 1) (by omega)]
          refine r_push zi_239_65 rfl ?_
          refine r_rem zi_239_67 rfl (by decide) ?_
          rw [show (nI ((w2+10*a2+1) - 1) % 10 : Int32) = nI (((w2+10*a2+1) - 1) % 10) from zI_rem (d := 10) (by omega) (by omega) (by omega)]
          refine q_cVV zi_239_68 rfl rfl rfl rfl rfl rfl rfl cf_195_0.ob (hnt _ _ (fun υ x1 x2 => ?_))
          show zk _ _ 71 _ _ _ _
          refine r_al0 zi_239_71 rfl ?_
          refine q_getR zi_239_72 rfl cf_195_1 ?_
          refine r_push zi_239_75 rfl ?_
          refine r_il2 zi_239_77 rfl ?_
          refine r_b0 zi_239_78 rfl ?_
          rw [show (102 + nI s : Int32) = nI (102 + s) from nI_add _ _]
          refine r_push zi_239_79 rfl ?_
          refine r_ast zi_239_80 rfl (102 + s) ca_196 (by first | rfl | (simp only [zI_add, zI_mul] <;> rfl)) (by first | omega | decide) ?_
          refine r_push zi_239_81 rfl ?_
          refine r_retZ zi_239_82 rfl (by decide) ?_
          exact ⟨_, rfl, h _ x1.put (k8 (by rw [ex] at x2; exact x2) rfl)⟩
      · rw [if_neg (fun z => z hal), if_neg h5] at h
        have hob : ∀ (Q2 : Int32 → zS → Prop), (∀ υ, zFm th σ υ → zVm υ (dOb (zTl N Wd Fr' Wh To O A) B n th V s w a) n th → ∀ oc, oc ≤ 1 → oc = (if V 6 s = 1 ∧ ¬ w = 5 ∧ dIs (zTl N Wd Fr' Wh To O A) n th V s w = true then 1 else 0) → (nI oc = 0 ∨ nI oc = 1) → Q2 (nI oc) υ) → zI1 (d + 6) 238 [.ref 195, .int (nI s), .int (nI w), .int (nI a)] σ Q2 := fun Q2 hq => s_mobeys hM hV hg hs (by omega) ha (fun z τ x y => hq τ x y 1 (by decide) (by rw [if_pos ⟨hal, h5, z⟩]) z1) (fun z τ x y => hq τ x y 0 (by decide) (by rw [if_neg (fun z2 => z z2.2.2)]) z0)
        by_cases hgg : g = 1
        · rw [decide_eq_true hgg, if_pos rfl] at h
          refine r_al0 zi_239_20 rfl ?_
          refine r_il2 zi_239_21 rfl ?_
          refine q_cIV zi_239_22 rfl rfl rfl rfl rfl rfl rfl cf_195_0.ob (hlv _ ?_)
          show zk _ _ 25 _ _ _ _
          refine r_if1 zi_239_25 rfl (fun _ => ?_) (fun c => absurd c (by decide))
          refine r_il3 zi_239_30 rfl ?_
          refine r_push zi_239_31 rfl ?_
          refine n_ic1 (i := w) (j := 5) zi_239_32 rfl (by omega) (by omega) (fun _ => ?_) (fun c => absurd c (by omega))
          refine r_al0 zi_239_83 rfl ?_
          refine r_il2 zi_239_84 rfl ?_
          refine r_il3 zi_239_85 rfl ?_
          refine r_il4 zi_239_86 rfl ?_
          refine q_cIV zi_239_88 rfl rfl rfl rfl rfl rfl rfl cf_195_0.ob (hob _ (fun υ x1 x2 oc ho1 ho2 z9 => ?_))
          show zk _ _ 91 _ _ _ _
          refine r_is5 zi_239_91 rfl ?_
          refine r_il1 zi_239_93 rfl ?_
          refine r_push zi_239_94 rfl ?_
          refine n_ic2 (i := q) (j := 4000) zi_239_97 rfl (by omega) (by omega) (fun c => absurd c (by omega)) (fun _ => ?_)
          refine r_al0 zi_239_100 rfl ?_
          refine q_getR zi_239_101 rfl cf_195_1 ?_
          refine r_push zi_239_104 rfl ?_
          refine r_il2 zi_239_106 rfl ?_
          refine r_b0 zi_239_107 rfl ?_
          rw [show (102 + nI s : Int32) = nI (102 + s) from nI_add _ _]
          refine r_il3 zi_239_108 rfl ?_
          refine r_push zi_239_109 rfl ?_
          refine r_il4 zi_239_111 rfl ?_
          refine r_b2 zi_239_113 rfl ?_
          rw [show (10 * nI a : Int32) = nI (10 * a) from pk_mul _ _]
          refine r_b0 zi_239_114 rfl ?_
          rw [show (nI w + nI (10 * a) : Int32) = nI (w + (10 * a)) from nI_add _ _]
          refine r_push zi_239_115 rfl ?_
          refine r_b0 zi_239_116 rfl ?_
          rw [show (nI (w + (10 * a)) + 1 : Int32) = nI ((w + (10 * a)) + 1) from nI_add _ _]
          refine r_ast zi_239_117 rfl (102 + s) ca_196 (by first | rfl | (simp only [zI_add, zI_mul] <;> rfl)) (by first | omega | decide) ?_
          refine r_il5 zi_239_118 rfl ?_
          refine r_retZ zi_239_120 rfl (by assumption) ?_
          exact ⟨_, rfl, by rw [ho2]; exact h _ x1.put (k8 x2 (nI_1 _).symm)⟩
        · rw [decide_eq_false hgg, if_neg (by decide)] at h
          refine r_al0 zi_239_20 rfl ?_
          refine r_il2 zi_239_21 rfl ?_
          refine q_cIV zi_239_22 rfl rfl rfl rfl rfl rfl rfl cf_195_0.ob (hlv _ ?_)
          show zk _ _ 25 _ _ _ _
          refine r_if1 zi_239_25 rfl (fun _ => ?_) (fun c => absurd c (by decide))
          refine r_il3 zi_239_30 rfl ?_
          refine r_push zi_239_31 rfl ?_
          refine n_ic1 (i := w) (j := 5) zi_239_32 rfl (by omega) (by omega) (fun _ => ?_) (fun c => absurd c (by omega))
          refine r_al0 zi_239_83 rfl ?_
          refine r_il2 zi_239_84 rfl ?_
          refine r_il3 zi_239_85 rfl ?_
          refine r_il4 zi_239_86 rfl ?_
          refine q_cIV zi_239_88 rfl rfl rfl rfl rfl rfl rfl cf_195_0.ob (hob _ (fun υ x1 x2 oc ho1 ho2 z9 => ?_))
          show zk _ _ 91 _ _ _ _
          refine r_is5 zi_239_91 rfl ?_
          refine r_il1 zi_239_93 rfl ?_
          refine r_push zi_239_94 rfl ?_
          refine n_ic2 (i := q) (j := 4000) zi_239_97 rfl (by omega) (by omega) (fun _ => ?_) (fun c => absurd c (by omega))
          refine r_il5 zi_239_118 rfl ?_
          refine r_retZ zi_239_120 rfl (by assumption) ?_
          exact ⟨_, rfl, by rw [ho2]; exact h _ x1 x2⟩
    · rw [if_pos hal, if_neg (fun z => hal z.1)] at h
      rw [if_neg hal] at m66
      have hlv : ∀ (Q2 : Int32 → zS → Prop), Q2 (nI 0) σ → zI1 (d + 6) 179 [.ref 195, .int (nI s)] σ Q2 := fun Q2 hq => s_malive (by omega) (fun z => absurd (m66.symm.trans z) (by decide)) (fun _ => hq)
      refine r_al0 zi_239_20 rfl ?_
      refine r_il2 zi_239_21 rfl ?_
      refine q_cIV zi_239_22 rfl rfl rfl rfl rfl rfl rfl cf_195_0.ob (hlv _ ?_)
      show zk _ _ 25 _ _ _ _
      refine r_if1 zi_239_25 rfl (fun c => absurd (by decide) c) (fun _ => ?_)
      refine r_push zi_239_28 rfl ?_
      refine r_retZ zi_239_29 rfl (by decide) ?_
      exact ⟨_, rfl, h σ zFm.rf hV⟩
  show zk _ _ 0 [.ref 195, .int (nI q), zun, zun, zun, zun] [] _ _
  refine r_al0 zi_239_0 rfl ?_
  refine r_il1 zi_239_1 rfl ?_
  refine q_cIV zi_239_2 rfl rfl rfl rfl rfl rfl rfl cf_195_0.ob (s_mwho hq4 e200 ?_)
  show zk _ _ 5 _ _ _ _
  refine r_is2 zi_239_5 rfl ?_
  refine r_il1 zi_239_6 rfl ?_
  refine r_push zi_239_7 rfl ?_
  refine r_rem zi_239_9 rfl (by decide) ?_
  rw [show (nI q % 10 : Int32) = nI (q % 10) from zI_rem (d := 10) (by omega) (by omega) (by omega)]
  refine r_is3 zi_239_10 rfl ?_
  refine r_il1 zi_239_11 rfl ?_
  refine r_push zi_239_12 rfl ?_
  refine r_div zi_239_14 rfl (by decide) ?_
  rw [show (nI q / 10 : Int32) = nI (q / 10) from pk_div (d := 10) (by omega) (by omega) (by omega)]
  refine r_push zi_239_15 rfl ?_
  refine r_rem zi_239_17 rfl (by decide) ?_
  rw [show (nI (q / 10) % 20 : Int32) = nI ((q / 10) % 20) from zI_rem (d := 20) (by omega) (by omega) (by omega)]
  refine r_is4 zi_239_18 rfl ?_
  rw [e10, e20]; exact main

