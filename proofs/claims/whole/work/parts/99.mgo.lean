/-! MODEL: yesterday's orders, then the standing ones -/
theorem dSt_end {T : zTe} {B : Nat → Int32} {n : Nat} {th : Bool} {acc : Int32} {V : zS} {c : Nat} (hg : zVg V n) : ∀ (m s : Nat), n ≤ s → s + m = 18 → dSt T B n th acc m s V c = (V, c)
  | 0, _, _, _ => rfl
  | m + 1, s, hs, hm => by
    rcases hg.2.2.2.2.1 s (by omega) with e | ⟨h1, _⟩
    · unfold dSt
      rw [if_pos (Or.inr e)]
      exact dSt_end hg m (s + 1) (by omega) (by omega)
    · exact absurd h1 (by omega)
theorem dOb_8 {T : zTe} {B : Nat → Int32} {n s w a : Nat} {th : Bool} {V : zS} {i : Nat} : dOb T B n th V s w a 8 i = V 8 i := by
  have hD : ∀ (U : zS), dDn T B n U s w a 8 i = U 8 i := fun U => by
    unfold dDn
    split
    · simp [up_rd]
    · split
      · simp [up_rd]
      · split
        · simp [up_rd]
        · split
          · simp [up_rd]
          · simp [up_rd]
  have hR : dDr T n th V s w 8 i = V 8 i := by
    unfold dDr
    split
    · exact zup_ne (by decide)
    · rfl
  unfold dOb
  split
  · rw [dW_r (by decide) (fun z => absurd z.1 (by decide)), hD, hR]
  · rw [dW_r (by decide) (fun z => absurd z.1 (by decide)), zup_ne (by decide), hR]
theorem up_sm {V : zS} {r i : Nat} {v : Int32} (h : V r i = v) : up V r i v = V := by
  funext a b
  rw [up_rd]
  by_cases e : a = r ∧ b = i
  · rw [if_pos e, e.1, e.2, h]
  · rw [if_neg e]
theorem l_go1 {d n N b : Nat} {σ : zS} {Q : Option Int32 → zS → Prop} {th : Bool} {Wd Fr' Wh To O A : Nat → Nat} {B : Nat → Int32} (hM : zMd σ n th N Wd Fr' Wh To O A B) (hb : b ≤ 24) : ∀ (m i c : Nat) (acc : Int32) (τ V : zS) (u4 : Value), i + m = b → zFm th σ τ → zVm τ V n th → zVg V n → V 11 13 = nI b → (∀ υ, zFm th σ υ → zVm υ (dOs (zTl N Wd Fr' Wh To O A) B n th m i V acc c).1 n th → zk (d + 8) 240 64 [.ref 195, .int (nI (dOs (zTl N Wd Fr' Wh To O A) B n th m i V acc c).2.2), .int (dOs (zTl N Wd Fr' Wh To O A) B n th m i V acc c).2.1, .int (nI b), u4] [] υ Q) → zk (d + 8) 240 6 [.ref 195, .int (nI c), .int acc, .int (nI i), u4] [] τ Q := by
  intro m
  induction m with
  | zero =>
    intro i c acc τ V u4 hi hF hV hg hv hq
    have e : i = b := by omega
    subst e
    have hn : τ 196 145 = nI i := hV.2.2.2.2.1.2.trans hv
    refine r_il3 zi_240_6 rfl ?_
    refine r_al0 zi_240_7 rfl ?_
    refine q_getR zi_240_8 rfl cf_195_1 ?_
    refine r_push zi_240_11 rfl ?_
    refine r_alde zi_240_14 rfl 145 ca_196 rfl (by decide) (u := nI i) (by first | exact hn | ((repeat (first | rw [zup_ne (by first | decide | omega)] | rw [zup_nj (by first | decide | omega)] | rw [fil_ne (by first | decide | omega)])) <;> exact hn) | (simp [up_rd, fil_rd]; exact hn)) ?_
    refine n_ic3 (i := i) (j := i) zi_240_15 rfl (by omega) (by omega) (fun _ => ?_) (fun c => absurd c (by omega))
    exact hq τ hF hV
  | succ m ih =>
    intro i c acc τ V u4 hi hF hV hg hv hq
    have hn : τ 196 145 = nI b := hV.2.2.2.2.1.2.trans hv
    have hub : un (V 11 13) = b := by rw [hv]; exact un_nI (by omega)
    have hMt := zMd_fr hF.1 hM
    have hn18 := hM.2.1
    obtain ⟨w, a, s, g, hw, ha, hs, hg1, hw5, eo, em⟩ := hV.2.2.2.2.2.2.1 i (by omega) (by omega)
    have hu : un (V 10 i) = w + 10 * a + 1000 * s + 100000 * g := by rw [eo]; exact un_nI (by omega)
    have e1 : un (V 10 i) / 1000 % 100 = s := by rw [hu]; omega
    have e2 : un (V 10 i) % 1000 = w + 10 * a := by rw [hu]; omega
    have e3 : decide (100000 ≤ un (V 10 i)) = decide (g = 1) := by rw [hu]; exact decide_eq_decide.mpr (by omega)
    have hgr : zVg (dOr (zTl N Wd Fr' Wh To O A) B n th V s (w + 10 * a) (decide (g = 1))) n := dOr_g hM.2.2.2.2.2.2 hg hs (by omega) (by omega)
    have hvr : dOr (zTl N Wd Fr' Wh To O A) B n th V s (w + 10 * a) (decide (g = 1)) 11 13 = nI b := dOr_rw.2.trans hv
    unfold dOs at hq
    rw [e1, e2, e3] at hq
    have hoc : dOc (zTl N Wd Fr' Wh To O A) n th V s (w + 10 * a) ≤ 1 := by unfold dOc; split <;> decide
    have hio : ∀ (Q2 : Int32 → zS → Prop), (∀ υ, zFm th σ υ → zVm υ (dOr (zTl N Wd Fr' Wh To O A) B n th V s (w + 10 * a) (decide (g = 1))) n th → Q2 (nI (dOc (zTl N Wd Fr' Wh To O A) n th V s (w + 10 * a))) υ) → zI1 (d + 7) 239 [.ref 195, .int (nI (w + 10 * a + 200 * s + 4000 * g))] τ Q2 := fun Q2 h2 => s_mIsOb hMt hV hg hs hw ha hg1 hw5 (fun υ x y => h2 υ (hF.tr x) y)
    generalize dOr (zTl N Wd Fr' Wh To O A) B n th V s (w + 10 * a) (decide (g = 1)) = U at *
    generalize dOc (zTl N Wd Fr' Wh To O A) n th V s (w + 10 * a) = oc at *
    refine r_il3 zi_240_6 rfl ?_
    refine r_al0 zi_240_7 rfl ?_
    refine q_getR zi_240_8 rfl cf_195_1 ?_
    refine r_push zi_240_11 rfl ?_
    refine r_alde zi_240_14 rfl 145 ca_196 rfl (by decide) (u := nI b) (by first | exact hn | ((repeat (first | rw [zup_ne (by first | decide | omega)] | rw [zup_nj (by first | decide | omega)] | rw [fil_ne (by first | decide | omega)])) <;> exact hn) | (simp [up_rd, fil_rd]; exact hn)) ?_
    refine n_ic3 (i := i) (j := b) zi_240_15 rfl (by omega) (by omega) (fun c => absurd c (by omega)) (fun _ => ?_)
    refine r_il2 zi_240_18 rfl ?_
    refine r_push zi_240_19 rfl ?_
    refine r_al0 zi_240_20 rfl ?_
    refine r_al0 zi_240_21 rfl ?_
    refine q_getR zi_240_22 rfl cf_195_1 ?_
    refine r_push zi_240_25 rfl ?_
    refine r_il3 zi_240_28 rfl ?_
    refine r_b0 zi_240_29 rfl ?_
    rw [show (146 + nI i : Int32) = nI (146 + i) from nI_add _ _]
    refine r_alde zi_240_30 rfl (146 + i) ca_196 (by first | rfl | (simp only [zI_add, zI_mul] <;> rfl)) (by first | omega | decide) (u := nI (w + 10 * a + 200 * s + 4000 * g)) (by first | exact em | ((repeat (first | rw [zup_ne (by first | decide | omega)] | rw [zup_nj (by first | decide | omega)] | rw [fil_ne (by first | decide | omega)])) <;> exact em) | (simp [up_rd, fil_rd]; exact em)) ?_
    refine q_cIV zi_240_31 rfl rfl rfl rfl rfl rfl rfl cf_195_0.ob (s_mwho (s := s) (by omega) (by omega) ?_)
    show zk _ _ 34 _ _ _ _
    refine r_b6 zi_240_34 rfl ?_
    refine r_b4 zi_240_35 rfl ?_
    refine r_is2 zi_240_36 rfl ?_
    refine r_al0 zi_240_37 rfl ?_
    refine r_al0 zi_240_38 rfl ?_
    refine q_getR zi_240_39 rfl cf_195_1 ?_
    refine r_push zi_240_42 rfl ?_
    refine r_il3 zi_240_45 rfl ?_
    refine r_b0 zi_240_46 rfl ?_
    rw [show (146 + nI i : Int32) = nI (146 + i) from nI_add _ _]
    refine r_alde zi_240_47 rfl (146 + i) ca_196 (by first | rfl | (simp only [zI_add, zI_mul] <;> rfl)) (by first | omega | decide) (u := nI (w + 10 * a + 200 * s + 4000 * g)) (by first | exact em | ((repeat (first | rw [zup_ne (by first | decide | omega)] | rw [zup_nj (by first | decide | omega)] | rw [fil_ne (by first | decide | omega)])) <;> exact em) | (simp [up_rd, fil_rd]; exact em)) ?_
    refine q_cIV zi_240_48 rfl rfl rfl rfl rfl rfl rfl cf_195_0.ob (hio _ (fun υ x1 x2 => ?_))
    show zk _ _ 51 _ _ _ _
    refine n_if0 (i := oc) zi_240_51 rfl (by omega) (fun c3 => ?_) (fun c3 => ?_)
    · refine r_in3 zi_240_58 rfl ?_
      rw [show (nI i + 1 : Int32) = nI (i + 1) from nI_add _ _]
      refine r_goto zi_240_61 rfl ?_
      first
      | (have e9 : oc = 1 := by omega
         rw [e9] at hq
         exact ih (i + 1) (c + 1) _ υ U _ (by omega) x1 x2 hgr hvr hq)
      | (have e9 : oc = 0 := by omega
         rw [e9] at hq
         exact ih (i + 1) c _ υ U _ (by omega) x1 x2 hgr hvr hq)
    · refine r_il1 zi_240_54 rfl ?_
      refine r_push zi_240_55 rfl ?_
      refine r_b0 zi_240_56 rfl ?_
      rw [show (nI c + 1 : Int32) = nI (c + 1) from nI_add _ _]
      refine r_is1 zi_240_57 rfl ?_
      refine r_in3 zi_240_58 rfl ?_
      rw [show (nI i + 1 : Int32) = nI (i + 1) from nI_add _ _]
      refine r_goto zi_240_61 rfl ?_
      first
      | (have e9 : oc = 1 := by omega
         rw [e9] at hq
         exact ih (i + 1) (c + 1) _ υ U _ (by omega) x1 x2 hgr hvr hq)
      | (have e9 : oc = 0 := by omega
         rw [e9] at hq
         exact ih (i + 1) c _ υ U _ (by omega) x1 x2 hgr hvr hq)
theorem l_go2 {d n N : Nat} {acc : Int32} {σ : zS} {Q : Int32 → zS → Prop} {th : Bool} {Wd Fr' Wh To O A : Nat → Nat} {B : Nat → Int32} (hM : zMd σ n th N Wd Fr' Wh To O A B) : ∀ (m s c : Nat) (τ V : zS) (u4 : Value), s + m = n → zFm th σ τ → zVm τ V n th → zVg V n → (∀ υ, zFm th σ υ → zVm υ (dSt (zTl N Wd Fr' Wh To O A) B n th acc (m + (18 - n)) s V c).1 n th → Q (nI (dSt (zTl N Wd Fr' Wh To O A) B n th acc (m + (18 - n)) s V c).2) υ) → zk (d + 8) 240 66 [.ref 195, .int (nI c), .int acc, .int (nI s), u4] [] τ (fun r t => ∃ v, r = some v ∧ Q v t) := by
  have hn18 := hM.2.1
  intro m
  induction m with
  | zero =>
    intro s c τ V u4 hs hF hV hg hq
    have e : s = n := by omega
    subst e
    have hn : τ 195 6 = nI s := (hF.1 195 (by decide) 6).trans hM.1
    rw [dSt_end hg (0 + (18 - s)) s (by omega) (by omega)] at hq
    refine r_il3 zi_240_66 rfl ?_
    refine r_al0 zi_240_67 rfl ?_
    refine q_getIe zi_240_68 rfl cf_195_6 (v := nI s) (by first | exact hn | ((repeat (first | rw [zup_ne (by first | decide | omega)] | rw [zup_nj (by first | decide | omega)] | rw [fil_ne (by first | decide | omega)])) <;> exact hn) | (simp [up_rd, fil_rd]; exact hn)) ?_
    refine n_ic3 (i := s) (j := s) zi_240_71 rfl (by omega) (by omega) (fun _ => ?_) (fun c => absurd c (by omega))
    refine r_il1 zi_240_141 rfl ?_
    refine r_retI zi_240_142 rfl ?_
    exact ⟨_, rfl, hq τ hF hV⟩
  | succ m ih =>
    intro s c τ V u4 hs hF hV hg hq
    have hn : τ 195 6 = nI n := (hF.1 195 (by decide) 6).trans hM.1
    have hMt := zMd_fr hF.1 hM
    obtain ⟨m48, m84, m102⟩ := hV.2.2.2.1 s (by omega)
    obtain ⟨m30, m66, _⟩ := hV.2.2.1 s (by omega)
    rw [show m + 1 + (18 - n) = (m + (18 - n)) + 1 by omega] at hq
    unfold dSt at hq
    have e87 : V 8 s + 1 - 1 = V 8 s := by grind
    have skip : (∀ υ, zFm th σ υ → zVm υ (dSt (zTl N Wd Fr' Wh To O A) B n th acc (m + (18 - n)) (s + 1) V c).1 n th → Q (nI (dSt (zTl N Wd Fr' Wh To O A) B n th acc (m + (18 - n)) (s + 1) V c).2) υ) → ∀ u, zk (d + 8) 240 66 [.ref 195, .int (nI c), .int acc, .int (nI (s + 1)), u] [] τ (fun r t => ∃ v, r = some v ∧ Q v t) := fun h u => ih (s + 1) c τ V u (by omega) hF hV hg h
    have main : zk (d + 8) 240 87 [.ref 195, .int (nI c), .int acc, .int (nI s), .int (V 8 s)] [] τ (fun r t => ∃ v, r = some v ∧ Q v t) := by
      by_cases h1 : zbt acc s = true
      · rw [if_pos (Or.inl h1)] at hq
        have hh : ∀ (Q2 : Int32 → zS → Prop), Q2 (nI 1) τ → zI1 (d + 7) 170 [.ref 195, .int acc, .int (nI s)] τ Q2 := fun Q2 h2 => s_has (fun _ => h2) (fun z => absurd (of_decide_eq_true h1) z)
        refine r_al0 zi_240_87 rfl ?_
        refine r_il2 zi_240_88 rfl ?_
        refine r_il3 zi_240_89 rfl ?_
        refine q_cIV zi_240_90 rfl rfl rfl rfl rfl rfl rfl cf_195_0.ob (hh _ ?_)
        show zk _ _ 93 _ _ _ _
        refine r_if1 zi_240_93 rfl (fun _ => ?_) (fun c => absurd c (by decide))
        refine r_in3 zi_240_135 rfl ?_
        rw [show (nI s + 1 : Int32) = nI (s + 1) from nI_add _ _]
        refine r_goto zi_240_138 rfl ?_
        exact skip hq _
      · have hh : ∀ (Q2 : Int32 → zS → Prop), Q2 (nI 0) τ → zI1 (d + 7) 170 [.ref 195, .int acc, .int (nI s)] τ Q2 := fun Q2 h2 => s_has (fun z => absurd (decide_eq_true z) h1) (fun _ => h2)
        by_cases hal : V 6 s = 1
        · rw [if_pos hal] at m66
          have hlv : ∀ (Q2 : Int32 → zS → Prop), Q2 (nI 1) τ → zI1 (d + 7) 179 [.ref 195, .int (nI s)] τ Q2 := fun Q2 hq => s_malive (by omega) (fun _ => hq) (fun z => absurd m66 z)
          rcases hg.2.2.2.2.1 s (by omega) with e | ⟨h3, w, a, hw, ha, e⟩
          · rw [if_pos (Or.inr e)] at hq
            rw [e]
            refine r_al0 zi_240_87 rfl ?_
            refine r_il2 zi_240_88 rfl ?_
            refine r_il3 zi_240_89 rfl ?_
            refine q_cIV zi_240_90 rfl rfl rfl rfl rfl rfl rfl cf_195_0.ob (hh _ ?_)
            show zk _ _ 93 _ _ _ _
            refine r_if1 zi_240_93 rfl (fun c => absurd (by decide) c) (fun _ => ?_)
            refine r_al0 zi_240_96 rfl ?_
            refine r_il3 zi_240_97 rfl ?_
            refine q_cIV zi_240_98 rfl rfl rfl rfl rfl rfl rfl cf_195_0.ob (hlv _ ?_)
            show zk _ _ 101 _ _ _ _
            refine r_if0 zi_240_101 rfl (fun c => absurd c (by decide)) (fun _ => ?_)
            refine r_il4 zi_240_104 rfl ?_
            refine r_push zi_240_106 rfl ?_
            refine r_ic1 zi_240_107 rfl (fun c => absurd rfl c) (fun _ => ?_)
            refine r_goto zi_240_110 rfl ?_
            refine r_in3 zi_240_135 rfl ?_
            rw [show (nI s + 1 : Int32) = nI (s + 1) from nI_add _ _]
            refine r_goto zi_240_138 rfl ?_
            exact skip hq _
          · have e8 : ¬ V 8 s = -1 := fun z => by
              have h9 := nI_pos' (n := w + 10 * a) (by omega)
              rw [← e, z] at h9
              exact absurd h9 (by decide)
            rw [if_neg (fun z => z.elim h1 e8)] at hq
            have hu : un (V 8 s) = w + 10 * a := by rw [e]; exact un_nI (by omega)
            rw [hu] at hq
            rw [e] at e8
            have d10 : (w + 10 * a) % 10 = w := by omega
            have d1 : (w + 10 * a) / 10 = a := by omega
            have hor : dOr (zTl N Wd Fr' Wh To O A) B n th V s (w + 10 * a) true = dOb (zTl N Wd Fr' Wh To O A) B n th V s w a := by
              unfold dOr
              rw [d10, d1, if_neg (fun z => z hal), if_neg (by omega), if_pos rfl]
              exact up_sm (dOb_8.trans e)
            have hgr : zVg (dOb (zTl N Wd Fr' Wh To O A) B n th V s w a) n := dOb_g hM.2.2.2.2.2.2 hg h3 ha
            have hoc : dOc (zTl N Wd Fr' Wh To O A) n th V s (w + 10 * a) = if dIs (zTl N Wd Fr' Wh To O A) n th V s w = true then 1 else 0 := by
              unfold dOc
              rw [d10]
              by_cases z : dIs (zTl N Wd Fr' Wh To O A) n th V s w = true
              · rw [if_pos z, if_pos ⟨hal, by omega, z⟩]
              · rw [if_neg z, if_neg (fun y => z y.2.2)]
            rw [hor, hoc] at hq
            have hob : ∀ (Q2 : Int32 → zS → Prop), (∀ υ, zFm th σ υ → zVm υ (dOb (zTl N Wd Fr' Wh To O A) B n th V s w a) n th → ∀ oc, oc ≤ 1 → oc = (if dIs (zTl N Wd Fr' Wh To O A) n th V s w = true then 1 else 0) → Q2 (nI oc) υ) → zI1 (d + 7) 238 [.ref 195, .int (nI s), .int (nI ((w + 10 * a) % 10)), .int (nI ((w + 10 * a) / 10))] τ Q2 := fun Q2 hq => by
              rw [d10, d1]
              exact s_mobeys (d := d + 1) hMt hV hg h3 hw ha (fun z τ x y => hq τ (hF.tr x) y 1 (by decide) (by rw [if_pos z])) (fun z τ x y => hq τ (hF.tr x) y 0 (by decide) (by rw [if_neg z]))
            rw [e]
            generalize dOb (zTl N Wd Fr' Wh To O A) B n th V s w a = U at *
            refine r_al0 zi_240_87 rfl ?_
            refine r_il2 zi_240_88 rfl ?_
            refine r_il3 zi_240_89 rfl ?_
            refine q_cIV zi_240_90 rfl rfl rfl rfl rfl rfl rfl cf_195_0.ob (hh _ ?_)
            show zk _ _ 93 _ _ _ _
            refine r_if1 zi_240_93 rfl (fun c => absurd (by decide) c) (fun _ => ?_)
            refine r_al0 zi_240_96 rfl ?_
            refine r_il3 zi_240_97 rfl ?_
            refine q_cIV zi_240_98 rfl rfl rfl rfl rfl rfl rfl cf_195_0.ob (hlv _ ?_)
            show zk _ _ 101 _ _ _ _
            refine r_if0 zi_240_101 rfl (fun c => absurd c (by decide)) (fun _ => ?_)
            refine r_il4 zi_240_104 rfl ?_
            refine r_push zi_240_106 rfl ?_
            refine r_ic1 zi_240_107 rfl (fun _ => ?_) (fun c => absurd c e8)
            refine r_al0 zi_240_113 rfl ?_
            refine r_il3 zi_240_114 rfl ?_
            refine r_il4 zi_240_115 rfl ?_
            refine r_push zi_240_117 rfl ?_
            refine r_rem zi_240_119 rfl (by decide) ?_
            rw [show (nI (w+10*a) % 10 : Int32) = nI ((w+10*a) % 10) from zI_rem (d := 10) (by omega) (by omega) (by omega)]
            refine r_il4 zi_240_120 rfl ?_
            refine r_push zi_240_122 rfl ?_
            refine r_div zi_240_124 rfl (by decide) ?_
            rw [show (nI (w+10*a) / 10 : Int32) = nI ((w+10*a) / 10) from pk_div (d := 10) (by omega) (by omega) (by omega)]
            refine q_cIV zi_240_125 rfl rfl rfl rfl rfl rfl rfl cf_195_0.ob (hob _ (fun υ x1 x2 oc ho1 ho2 => ?_))
            show zk _ _ 128 _ _ _ _
            refine n_if0 (i := oc) zi_240_128 rfl (by omega) (fun c4 => ?_) (fun c4 => ?_)
            · refine r_in3 zi_240_135 rfl ?_
              rw [show (nI s + 1 : Int32) = nI (s + 1) from nI_add _ _]
              refine r_goto zi_240_138 rfl ?_
              first
              | (have e9 : oc = 1 := by omega
                 rw [← ho2, e9] at hq
                 exact ih (s + 1) (c + 1) υ U _ (by omega) x1 x2 hgr hq)
              | (have e9 : oc = 0 := by omega
                 rw [← ho2, e9] at hq
                 exact ih (s + 1) c υ U _ (by omega) x1 x2 hgr hq)
            · refine r_il1 zi_240_131 rfl ?_
              refine r_push zi_240_132 rfl ?_
              refine r_b0 zi_240_133 rfl ?_
              rw [show (nI c + 1 : Int32) = nI (c + 1) from nI_add _ _]
              refine r_is1 zi_240_134 rfl ?_
              refine r_in3 zi_240_135 rfl ?_
              rw [show (nI s + 1 : Int32) = nI (s + 1) from nI_add _ _]
              refine r_goto zi_240_138 rfl ?_
              first
              | (have e9 : oc = 1 := by omega
                 rw [← ho2, e9] at hq
                 exact ih (s + 1) (c + 1) υ U _ (by omega) x1 x2 hgr hq)
              | (have e9 : oc = 0 := by omega
                 rw [← ho2, e9] at hq
                 exact ih (s + 1) c υ U _ (by omega) x1 x2 hgr hq)
        · rw [if_neg hal] at m66
          have hlv : ∀ (Q2 : Int32 → zS → Prop), Q2 (nI 0) τ → zI1 (d + 7) 179 [.ref 195, .int (nI s)] τ Q2 := fun Q2 hq => s_malive (by omega) (fun z => absurd (m66.symm.trans z) (by decide)) (fun _ => hq)
          have hq2 : (∀ υ, zFm th σ υ → zVm υ (dSt (zTl N Wd Fr' Wh To O A) B n th acc (m + (18 - n)) (s + 1) V c).1 n th → Q (nI (dSt (zTl N Wd Fr' Wh To O A) B n th acc (m + (18 - n)) (s + 1) V c).2) υ) := by
            by_cases e : V 8 s = -1
            · rw [if_pos (Or.inr e)] at hq; exact hq
            · rw [if_neg (fun z => z.elim h1 e)] at hq
              have hor : dOr (zTl N Wd Fr' Wh To O A) B n th V s (un (V 8 s)) true = V := by unfold dOr; rw [if_pos hal]
              have hoc : dOc (zTl N Wd Fr' Wh To O A) n th V s (un (V 8 s)) = 0 := by unfold dOc; rw [if_neg (fun z => hal z.1)]
              rw [hor, hoc] at hq; exact hq
          refine r_al0 zi_240_87 rfl ?_
          refine r_il2 zi_240_88 rfl ?_
          refine r_il3 zi_240_89 rfl ?_
          refine q_cIV zi_240_90 rfl rfl rfl rfl rfl rfl rfl cf_195_0.ob (hh _ ?_)
          show zk _ _ 93 _ _ _ _
          refine r_if1 zi_240_93 rfl (fun c => absurd (by decide) c) (fun _ => ?_)
          refine r_al0 zi_240_96 rfl ?_
          refine r_il3 zi_240_97 rfl ?_
          refine q_cIV zi_240_98 rfl rfl rfl rfl rfl rfl rfl cf_195_0.ob (hlv _ ?_)
          show zk _ _ 101 _ _ _ _
          refine r_if0 zi_240_101 rfl (fun _ => ?_) (fun c => absurd (by decide) c)
          refine r_in3 zi_240_135 rfl ?_
          rw [show (nI s + 1 : Int32) = nI (s + 1) from nI_add _ _]
          refine r_goto zi_240_138 rfl ?_
          exact skip hq2 _
    refine r_il3 zi_240_66 rfl ?_
    refine r_al0 zi_240_67 rfl ?_
    refine q_getIe zi_240_68 rfl cf_195_6 (v := nI n) (by first | exact hn | ((repeat (first | rw [zup_ne (by first | decide | omega)] | rw [zup_nj (by first | decide | omega)] | rw [fil_ne (by first | decide | omega)])) <;> exact hn) | (simp [up_rd, fil_rd]; exact hn)) ?_
    refine n_ic3 (i := s) (j := n) zi_240_71 rfl (by omega) (by omega) (fun c => absurd c (by omega)) (fun _ => ?_)
    refine r_al0 zi_240_74 rfl ?_
    refine q_getR zi_240_75 rfl cf_195_1 ?_
    refine r_push zi_240_78 rfl ?_
    refine r_il3 zi_240_80 rfl ?_
    refine r_b0 zi_240_81 rfl ?_
    rw [show (102 + nI s : Int32) = nI (102 + s) from nI_add _ _]
    refine r_alde zi_240_82 rfl (102 + s) ca_196 (by first | rfl | (simp only [zI_add, zI_mul] <;> rfl)) (by first | omega | decide) (u := V 8 s + 1) (by first | exact m102 | ((repeat (first | rw [zup_ne (by first | decide | omega)] | rw [zup_nj (by first | decide | omega)] | rw [fil_ne (by first | decide | omega)])) <;> exact m102) | (simp [up_rd, fil_rd]; exact m102)) ?_
    refine r_push zi_240_83 rfl ?_
    refine r_b1 zi_240_84 rfl ?_
    refine r_is4 zi_240_85 rfl ?_
    rw [e87]; exact main
theorem s_ordersGo {d n N b : Nat} {σ : zS} {Q : Int32 → zS → Prop} {th : Bool} {V : zS} {Wd Fr' Wh To O A : Nat → Nat} {B : Nat → Int32} (hM : zMd σ n th N Wd Fr' Wh To O A B) (hV : zVm σ V n th) (hg : zVg V n) (hb : b ≤ 24) (hv : V 11 13 = nI b) (h : ∀ τ, zFm th σ τ → zVm τ (dSt (zTl N Wd Fr' Wh To O A) B n th (dOs (zTl N Wd Fr' Wh To O A) B n th b 0 V 0 0).2.1 18 0 (dOs (zTl N Wd Fr' Wh To O A) B n th b 0 V 0 0).1 (dOs (zTl N Wd Fr' Wh To O A) B n th b 0 V 0 0).2.2).1 n th → Q (nI (dSt (zTl N Wd Fr' Wh To O A) B n th (dOs (zTl N Wd Fr' Wh To O A) B n th b 0 V 0 0).2.1 18 0 (dOs (zTl N Wd Fr' Wh To O A) B n th b 0 V 0 0).1 (dOs (zTl N Wd Fr' Wh To O A) B n th b 0 V 0 0).2.2).2) τ) : zI1 (d + 8) 240 [.ref 195] σ Q := by
  have hn18 := hM.2.1
  have g2 : zVg (dOs (zTl N Wd Fr' Wh To O A) B n th b 0 V 0 0).1 n := dOs_g hM.2.2.2.2.2.2 hb b 0 _ 0 0 (by omega) hv hg
  have k1 := l_go1 (d := d) (Q := fun r t => ∃ v, r = some v ∧ Q v t) hM hb b 0 0 0 σ V zun (by omega) zFm.rf hV hg hv
  generalize dOs (zTl N Wd Fr' Wh To O A) B n th b 0 V 0 0 = r at *
  obtain ⟨V2, acc, c2⟩ := r
  simp only at h k1
  show zk _ _ 0 [.ref 195, zun, zun, zun, zun] [] _ _
  refine r_push zi_240_0 rfl ?_
  refine r_is1 zi_240_1 rfl ?_
  refine r_push zi_240_2 rfl ?_
  refine r_is2 zi_240_3 rfl ?_
  refine r_push zi_240_4 rfl ?_
  refine r_is3 zi_240_5 rfl ?_
  refine k1 (fun υ x1 x2 => ?_)
  have e18 : n + (18 - n) = 18 := by omega
  exact r_push zi_240_64 rfl (r_is3 zi_240_65 rfl (l_go2 hM n 0 c2 υ V2 _ (by omega) x1 x2 g2 (by rw [e18]; exact h)))

