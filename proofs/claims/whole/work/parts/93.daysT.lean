/-! CLASS: Days (T): the day's parts -/

theorem l_tideT {d n nT : Nat} {td tp tv : Nat → Nat} {σ : zS} {Q : zS → Prop} (hT : zTk σ nT td tp tv) : ∀ (m l : Nat) (τ : zS) (V : zS) (u2 u3 : Value), l + m = nT → Fx 91 [75, 76, 77, 78, 79, 80, 81, 82, 83, 84, 85, 86, 93, 94] [4] σ τ → zVk τ 75 true V → zVg V n → (∀ υ, Fx 91 [75, 76, 77, 78, 79, 80, 81, 82, 83, 84, 85, 86, 93, 94] [4] σ υ → zVk υ 75 true (dTi td tp tv m l V) → υ 91 4 = τ 91 4 → Q υ) → zk (d + 3) 2 2 [.ref 91, .int (nI l), u2, u3] [] τ (fun r t => r = none ∧ Q t) := by
  obtain ⟨t1, t2, t3⟩ := hT
  intro m
  induction m with
  | zero =>
    intro l τ V u2 u3 hl hF hV hg hq
    have e : l = nT := by omega
    subst e
    have hn : τ 21 2 = nI l := (hF.at (by decide) (by decide) 2).trans t1
    refine r_il1 zi_2_2 rfl ?_
    refine r_al0 zi_2_3 rfl ?_
    refine q_getR zi_2_4 rfl cf_91_0 ?_
    refine q_getR zi_2_7 rfl cf_1_4 ?_
    refine q_getIe zi_2_10 rfl cf_21_2 (v := nI l) (by first | exact hn | ((repeat (first | rw [zup_ne (by first | decide | omega)] | rw [zup_nj (by first | decide | omega)] | rw [fil_ne (by first | decide | omega)])) <;> exact hn) | (simp [up_rd, fil_rd]; exact hn)) ?_
    refine n_ic3 (i := l) (j := l) zi_2_13 rfl (by omega) (by omega) (fun _ => ?_) (fun c => absurd c (by omega))
    refine r_ret zi_2_98 rfl ?_
    exact ⟨rfl, hq τ hF hV rfl⟩
  | succ m ih =>
    intro l τ V u2 u3 hl hF hV hg hq
    have hn : τ 21 2 = nI nT := (hF.at (by decide) (by decide) 2).trans t1
    have h17 : τ 75 17 = V 11 17 := hV.2.1 17 (by decide) (by decide)
    obtain ⟨c0, c1, c2⟩ := t3 l (by omega)
    have e22 : ∀ i, τ 22 i = σ 22 i := fun i => hF.at (by decide) (by decide) i
    have hc : ∀ (j : Nat) (v : Int32) (Q2 : Int32 → zS → Prop), j < 4 → σ 22 (l * 4 + j) = v → Q2 v τ → zI1 (d + 2) 97 [.ref 21, .int (nI l), .int (nI j)] τ Q2 := fun j v Q2 hj e hq2 => s_cell zTx21 (by omega) hj (by rw [show τ (21 + 1) (l * 4 + j) = v from (e22 _).trans e]; exact hq2)
    have hq : ∀ υ, Fx 91 [75, 76, 77, 78, 79, 80, 81, 82, 83, 84, 85, 86, 93, 94] [4] σ υ → zVk υ 75 true (dTi td tp tv m (l + 1) (if nI (td l) = V 11 17 then (if tp l < 12 then up V 1 (tp l) (nI (tv l)) else up V 11 14 (nI (tv l))) else V)) → υ 91 4 = τ 91 4 → Q υ := hq
    by_cases e1 : nI (td l) = V 11 17
    · rw [if_pos e1] at hq
      by_cases e2 : tp l < 12
      · rw [if_pos e2] at hq c1
        refine r_il1 zi_2_2 rfl ?_
        refine r_al0 zi_2_3 rfl ?_
        refine q_getR zi_2_4 rfl cf_91_0 ?_
        refine q_getR zi_2_7 rfl cf_1_4 ?_
        refine q_getIe zi_2_10 rfl cf_21_2 (v := nI nT) (by first | exact hn | ((repeat (first | rw [zup_ne (by first | decide | omega)] | rw [zup_nj (by first | decide | omega)] | rw [fil_ne (by first | decide | omega)])) <;> exact hn) | (simp [up_rd, fil_rd]; exact hn)) ?_
        refine n_ic3 (i := l) (j := nT) zi_2_13 rfl (by omega) (by omega) (fun c => absurd c (by omega)) (fun _ => ?_)
        refine r_al0 zi_2_16 rfl ?_
        refine q_getR zi_2_17 rfl cf_91_0 ?_
        refine q_getR zi_2_20 rfl cf_1_4 ?_
        refine r_il1 zi_2_23 rfl ?_
        refine r_push zi_2_24 rfl ?_
        refine q_cIV zi_2_25 rfl rfl rfl rfl rfl rfl rfl cf_21_0.ob (hc 0 _ _ (by decide) c0 ?_)
        show zk _ _ 28 _ _ _ _
        refine r_al0 zi_2_28 rfl ?_
        refine q_getR zi_2_29 rfl cf_91_1 ?_
        refine q_getIe zi_2_32 rfl cf_75_17 (v := V 11 17) (by first | exact h17 | ((repeat (first | rw [zup_ne (by first | decide | omega)] | rw [zup_nj (by first | decide | omega)] | rw [fil_ne (by first | decide | omega)])) <;> exact h17) | (simp [up_rd, fil_rd]; exact h17)) ?_
        refine r_ic1 zi_2_35 rfl (fun c => absurd e1 c) (fun _ => ?_)
        refine r_al0 zi_2_38 rfl ?_
        refine q_getR zi_2_39 rfl cf_91_0 ?_
        refine q_getR zi_2_42 rfl cf_1_4 ?_
        refine r_il1 zi_2_45 rfl ?_
        refine r_push zi_2_46 rfl ?_
        refine q_cIV zi_2_47 rfl rfl rfl rfl rfl rfl rfl cf_21_0.ob (hc 1 _ _ (by decide) c1 ?_)
        show zk _ _ 50 _ _ _ _
        refine r_is2 zi_2_50 rfl ?_
        refine r_al0 zi_2_51 rfl ?_
        refine q_getR zi_2_52 rfl cf_91_0 ?_
        refine q_getR zi_2_55 rfl cf_1_4 ?_
        refine r_il1 zi_2_58 rfl ?_
        refine r_push zi_2_59 rfl ?_
        refine q_cIV zi_2_60 rfl rfl rfl rfl rfl rfl rfl cf_21_0.ob (hc 2 _ _ (by decide) c2 ?_)
        show zk _ _ 63 _ _ _ _
        refine r_is3 zi_2_63 rfl ?_
        refine r_il2 zi_2_64 rfl ?_
        refine r_cIS zi_2_65 rfl rfl rfl rfl rfl rfl (s_kplace (fun _ _ => ?_) (fun z => absurd ⟨nI_pos' (by omega), nI_lt e2 (by decide)⟩ z))
        show zk _ _ 68 _ _ _ _
        refine r_if0 zi_2_68 rfl (fun c => absurd c (by decide)) (fun _ => ?_)
        refine r_al0 zi_2_71 rfl ?_
        refine q_getR zi_2_72 rfl cf_91_1 ?_
        refine q_getR zi_2_75 rfl cf_75_1 ?_
        refine r_il2 zi_2_78 rfl ?_
        refine r_il3 zi_2_79 rfl ?_
        refine r_ast zi_2_80 rfl (tp l) ca_77 (by first | rfl | (simp only [zI_add, zI_mul] <;> rfl)) (by first | omega | decide) ?_
        refine r_goto zi_2_81 rfl ?_
        refine r_in1 zi_2_92 rfl ?_
        rw [show (nI l + 1 : Int32) = nI (l + 1) from nI_add _ _]
        refine r_goto zi_2_95 rfl ?_
        exact ih (l + 1) _ _ _ _ (by omega) (hF.put (by decide)) (zVk_a (j := 1) (Or.inr rfl) hV (by decide)) (zVg_u hg (by omega)) (fun υ g1 g2 g3 => hq υ g1 g2 (g3.trans (zup_ne (by decide))))
      · rw [if_neg e2] at hq c1
        refine r_il1 zi_2_2 rfl ?_
        refine r_al0 zi_2_3 rfl ?_
        refine q_getR zi_2_4 rfl cf_91_0 ?_
        refine q_getR zi_2_7 rfl cf_1_4 ?_
        refine q_getIe zi_2_10 rfl cf_21_2 (v := nI nT) (by first | exact hn | ((repeat (first | rw [zup_ne (by first | decide | omega)] | rw [zup_nj (by first | decide | omega)] | rw [fil_ne (by first | decide | omega)])) <;> exact hn) | (simp [up_rd, fil_rd]; exact hn)) ?_
        refine n_ic3 (i := l) (j := nT) zi_2_13 rfl (by omega) (by omega) (fun c => absurd c (by omega)) (fun _ => ?_)
        refine r_al0 zi_2_16 rfl ?_
        refine q_getR zi_2_17 rfl cf_91_0 ?_
        refine q_getR zi_2_20 rfl cf_1_4 ?_
        refine r_il1 zi_2_23 rfl ?_
        refine r_push zi_2_24 rfl ?_
        refine q_cIV zi_2_25 rfl rfl rfl rfl rfl rfl rfl cf_21_0.ob (hc 0 _ _ (by decide) c0 ?_)
        show zk _ _ 28 _ _ _ _
        refine r_al0 zi_2_28 rfl ?_
        refine q_getR zi_2_29 rfl cf_91_1 ?_
        refine q_getIe zi_2_32 rfl cf_75_17 (v := V 11 17) (by first | exact h17 | ((repeat (first | rw [zup_ne (by first | decide | omega)] | rw [zup_nj (by first | decide | omega)] | rw [fil_ne (by first | decide | omega)])) <;> exact h17) | (simp [up_rd, fil_rd]; exact h17)) ?_
        refine r_ic1 zi_2_35 rfl (fun c => absurd e1 c) (fun _ => ?_)
        refine r_al0 zi_2_38 rfl ?_
        refine q_getR zi_2_39 rfl cf_91_0 ?_
        refine q_getR zi_2_42 rfl cf_1_4 ?_
        refine r_il1 zi_2_45 rfl ?_
        refine r_push zi_2_46 rfl ?_
        refine q_cIV zi_2_47 rfl rfl rfl rfl rfl rfl rfl cf_21_0.ob (hc 1 _ _ (by decide) c1 ?_)
        show zk _ _ 50 _ _ _ _
        refine r_is2 zi_2_50 rfl ?_
        refine r_al0 zi_2_51 rfl ?_
        refine q_getR zi_2_52 rfl cf_91_0 ?_
        refine q_getR zi_2_55 rfl cf_1_4 ?_
        refine r_il1 zi_2_58 rfl ?_
        refine r_push zi_2_59 rfl ?_
        refine q_cIV zi_2_60 rfl rfl rfl rfl rfl rfl rfl cf_21_0.ob (hc 2 _ _ (by decide) c2 ?_)
        show zk _ _ 63 _ _ _ _
        refine r_is3 zi_2_63 rfl ?_
        refine r_il2 zi_2_64 rfl ?_
        refine r_cIS zi_2_65 rfl rfl rfl rfl rfl rfl (s_kplace (fun z _ => absurd z (by decide)) (fun _ => ?_))
        show zk _ _ 68 _ _ _ _
        refine r_if0 zi_2_68 rfl (fun _ => ?_) (fun c => absurd (by decide) c)
        refine r_al0 zi_2_84 rfl ?_
        refine q_getR zi_2_85 rfl cf_91_1 ?_
        refine r_il3 zi_2_88 rfl ?_
        refine q_put zi_2_89 rfl cf_75_14 rfl ?_
        refine r_in1 zi_2_92 rfl ?_
        rw [show (nI l + 1 : Int32) = nI (l + 1) from nI_add _ _]
        refine r_goto zi_2_95 rfl ?_
        exact ih (l + 1) _ _ _ _ (by omega) (hF.put (by decide)) (zVk_f (f := 14) (Or.inr rfl) hV (by decide) (by decide)) (zVg_u hg (by omega)) (fun υ g1 g2 g3 => hq υ g1 g2 (g3.trans (zup_ne (by decide))))
    · rw [if_neg e1] at hq
      refine r_il1 zi_2_2 rfl ?_
      refine r_al0 zi_2_3 rfl ?_
      refine q_getR zi_2_4 rfl cf_91_0 ?_
      refine q_getR zi_2_7 rfl cf_1_4 ?_
      refine q_getIe zi_2_10 rfl cf_21_2 (v := nI nT) (by first | exact hn | ((repeat (first | rw [zup_ne (by first | decide | omega)] | rw [zup_nj (by first | decide | omega)] | rw [fil_ne (by first | decide | omega)])) <;> exact hn) | (simp [up_rd, fil_rd]; exact hn)) ?_
      refine n_ic3 (i := l) (j := nT) zi_2_13 rfl (by omega) (by omega) (fun c => absurd c (by omega)) (fun _ => ?_)
      refine r_al0 zi_2_16 rfl ?_
      refine q_getR zi_2_17 rfl cf_91_0 ?_
      refine q_getR zi_2_20 rfl cf_1_4 ?_
      refine r_il1 zi_2_23 rfl ?_
      refine r_push zi_2_24 rfl ?_
      refine q_cIV zi_2_25 rfl rfl rfl rfl rfl rfl rfl cf_21_0.ob (hc 0 _ _ (by decide) c0 ?_)
      show zk _ _ 28 _ _ _ _
      refine r_al0 zi_2_28 rfl ?_
      refine q_getR zi_2_29 rfl cf_91_1 ?_
      refine q_getIe zi_2_32 rfl cf_75_17 (v := V 11 17) (by first | exact h17 | ((repeat (first | rw [zup_ne (by first | decide | omega)] | rw [zup_nj (by first | decide | omega)] | rw [fil_ne (by first | decide | omega)])) <;> exact h17) | (simp [up_rd, fil_rd]; exact h17)) ?_
      refine r_ic1 zi_2_35 rfl (fun _ => ?_) (fun c => absurd c e1)
      refine r_in1 zi_2_92 rfl ?_
      rw [show (nI l + 1 : Int32) = nI (l + 1) from nI_add _ _]
      refine r_goto zi_2_95 rfl ?_
      exact ih (l + 1) _ _ _ _ (by omega) hF hV hg hq
theorem l_ordersT {d n N b : Nat} {σ : zS} {Q : Int32 → zS → Prop} {Wd Fr' Wh To O A : Nat → Nat} {B : Nat → Int32} (hd : zKd σ N Wd Fr' Wh To O A B) (hth : σ 91 3 = 1) (hb : b ≤ 24) : ∀ (m i c : Nat) (acc : Int32) (τ : zS) (V : zS) (u3 u4 : Value), i + m = b → Fx 91 [75, 76, 77, 78, 79, 80, 81, 82, 83, 84, 85, 86, 93, 94] [4] σ τ → zVk τ 75 true V → zVg V n → V 11 13 = nI b → τ 91 4 = nI c → (∀ υ, Fx 91 [75, 76, 77, 78, 79, 80, 81, 82, 83, 84, 85, 86, 93, 94] [4] σ υ → zVk υ 75 true (dOs (zTl N Wd Fr' Wh To O A) B n true m i V acc c).1 → υ 91 4 = nI (dOs (zTl N Wd Fr' Wh To O A) B n true m i V acc c).2.2 → Q (dOs (zTl N Wd Fr' Wh To O A) B n true m i V acc c).2.1 υ) → zk (d + 5) 3 4 [.ref 91, .int acc, .int (nI i), u3, u4] [] τ (fun r t => ∃ v, r = some v ∧ Q v t) := by
  intro m
  induction m with
  | zero =>
    intro i c acc τ V u3 u4 hi hF hV hg hv hc hq
    have e : i = b := by omega
    subst e
    have hn : τ 75 13 = nI i := (hV.2.1 13 (by decide) (by decide)).trans hv
    refine r_il2 zi_3_4 rfl ?_
    refine r_al0 zi_3_5 rfl ?_
    refine q_getR zi_3_6 rfl cf_91_1 ?_
    refine q_getIe zi_3_9 rfl cf_75_13 (v := nI i) (by first | exact hn | ((repeat (first | rw [zup_ne (by first | decide | omega)] | rw [zup_nj (by first | decide | omega)] | rw [fil_ne (by first | decide | omega)])) <;> exact hn) | (simp [up_rd, fil_rd]; exact hn)) ?_
    refine n_ic3 (i := i) (j := i) zi_3_12 rfl (by omega) (by omega) (fun _ => ?_) (fun c => absurd c (by omega))
    refine r_il1 zi_3_76 rfl ?_
    refine r_retI zi_3_77 rfl ?_
    exact ⟨_, rfl, hq τ hF hV hc⟩
  | succ m ih =>
    intro i c acc τ V u3 u4 hi hF hV hg hv hc hq
    have hn : τ 75 13 = nI b := (hV.2.1 13 (by decide) (by decide)).trans hv
    obtain ⟨t, ht, ht2, ht3⟩ := id hg.2.2.2.2.2.2.1
    have et : t = b := (nI_eq (by omega) (by omega)).mp (ht2.symm.trans hv)
    obtain ⟨o1, o2, o3, o4, o5⟩ := zOg_d hg.2.1 (ht3 i (by omega))
    have hg18 := hg.2.1
    have ho : τ (75 + 1 + 10) i = nI (un (V 10 i)) := (hV.1 10 (by decide) i).trans o2
    have hq : ∀ υ, Fx 91 [75, 76, 77, 78, 79, 80, 81, 82, 83, 84, 85, 86, 93, 94] [4] σ υ → zVk υ 75 true (dOs (zTl N Wd Fr' Wh To O A) B n true m (i + 1) (dOr (zTl N Wd Fr' Wh To O A) B n true V (un (V 10 i) / 1000 % 100) (un (V 10 i) % 1000) (decide (100000 ≤ un (V 10 i)))) (acc ||| 1 <<< (nI (un (V 10 i) / 1000 % 100) &&& 31)) (c + dOc (zTl N Wd Fr' Wh To O A) n true V (un (V 10 i) / 1000 % 100) (un (V 10 i) % 1000))).1 → υ 91 4 = nI (dOs (zTl N Wd Fr' Wh To O A) B n true m (i + 1) (dOr (zTl N Wd Fr' Wh To O A) B n true V (un (V 10 i) / 1000 % 100) (un (V 10 i) % 1000) (decide (100000 ≤ un (V 10 i)))) (acc ||| 1 <<< (nI (un (V 10 i) / 1000 % 100) &&& 31)) (c + dOc (zTl N Wd Fr' Wh To O A) n true V (un (V 10 i) / 1000 % 100) (un (V 10 i) % 1000))).2.2 → Q (dOs (zTl N Wd Fr' Wh To O A) B n true m (i + 1) (dOr (zTl N Wd Fr' Wh To O A) B n true V (un (V 10 i) / 1000 % 100) (un (V 10 i) % 1000) (decide (100000 ≤ un (V 10 i)))) (acc ||| 1 <<< (nI (un (V 10 i) / 1000 % 100) &&& 31)) (c + dOc (zTl N Wd Fr' Wh To O A) n true V (un (V 10 i) / 1000 % 100) (un (V 10 i) % 1000))).2.1 υ := hq
    have hgs := fun g => dOr_g (T := zTl N Wd Fr' Wh To O A) (th := true) (g := g) hd.2.2.2.1 hg o3 o4 o5
    have hkd := zKd_fr hd hF (fun a h1 h2 => by simp; omega)
    have hth2 : τ 91 3 = 1 := (hF.fl (by decide) (by decide)).trans hth
    generalize un (V 10 i) = o at *
    have hob : ∀ (g : Nat) (Q2 : zS → Prop), g ≤ 1 → (∀ υ, Fx 91 [75, 76, 77, 78, 79, 80, 81, 82, 83, 84, 85, 86, 93, 94] [4] τ υ → zVk υ 75 true (dOr (zTl N Wd Fr' Wh To O A) B n true V (o / 1000 % 100) (o % 1000) (decide (g = 1))) → υ 91 4 = nI (c + dOc (zTl N Wd Fr' Wh To O A) n true V (o / 1000 % 100) (o % 1000)) → Q2 υ) → zV1 (d + 4) 5 [.ref 91, .int (nI (o / 1000 % 100)), .int (nI (o % 1000)), .int (nI g)] τ Q2 := fun g Q2 hgg h2 => s_obeyT hV hg hkd hth2 hc o3 o4 o5 hgg h2
    by_cases e1 : 100000 ≤ o
    · rw [decide_eq_true e1] at hq
      refine r_il2 zi_3_4 rfl ?_
      refine r_al0 zi_3_5 rfl ?_
      refine q_getR zi_3_6 rfl cf_91_1 ?_
      refine q_getIe zi_3_9 rfl cf_75_13 (v := nI b) (by first | exact hn | ((repeat (first | rw [zup_ne (by first | decide | omega)] | rw [zup_nj (by first | decide | omega)] | rw [fil_ne (by first | decide | omega)])) <;> exact hn) | (simp [up_rd, fil_rd]; exact hn)) ?_
      refine n_ic3 (i := i) (j := b) zi_3_12 rfl (by omega) (by omega) (fun c => absurd c (by omega)) (fun _ => ?_)
      refine r_il2 zi_3_15 rfl ?_
      refine r_push zi_3_16 rfl ?_
      refine n_ic3 (i := i) (j := 24) zi_3_18 rfl (by omega) (by omega) (fun c => absurd c (by omega)) (fun _ => ?_)
      refine r_al0 zi_3_21 rfl ?_
      refine q_getR zi_3_22 rfl cf_91_1 ?_
      refine q_getR zi_3_25 rfl cf_75_10 ?_
      refine r_il2 zi_3_28 rfl ?_
      refine r_alde zi_3_29 rfl i ca_86 (by first | rfl | (simp only [zI_add, zI_mul] <;> rfl)) (by first | omega | decide) (u := nI o) (by first | exact ho | ((repeat (first | rw [zup_ne (by first | decide | omega)] | rw [zup_nj (by first | decide | omega)] | rw [fil_ne (by first | decide | omega)])) <;> exact ho) | (simp [up_rd, fil_rd]; exact ho)) ?_
      refine r_is3 zi_3_30 rfl ?_
      refine r_il3 zi_3_31 rfl ?_
      refine r_push zi_3_32 rfl ?_
      refine r_div zi_3_35 rfl (by decide) ?_
      rw [show (nI o / 1000 : Int32) = nI (o / 1000) from pk_div (d := 1000) (by omega) (by omega) (by omega)]
      refine r_push zi_3_36 rfl ?_
      refine r_rem zi_3_38 rfl (by decide) ?_
      rw [show (nI (o / 1000) % 100 : Int32) = nI ((o / 1000) % 100) from zI_rem (d := 100) (by omega) (by omega) (by omega)]
      refine r_is4 zi_3_39 rfl ?_
      refine r_il1 zi_3_41 rfl ?_
      refine r_push zi_3_42 rfl ?_
      refine r_il4 zi_3_43 rfl ?_
      refine r_b6 zi_3_45 rfl ?_
      refine r_b4 zi_3_46 rfl ?_
      refine r_is1 zi_3_47 rfl ?_
      refine r_al0 zi_3_48 rfl ?_
      refine r_il4 zi_3_49 rfl ?_
      refine r_il3 zi_3_51 rfl ?_
      refine r_push zi_3_52 rfl ?_
      refine r_rem zi_3_55 rfl (by decide) ?_
      rw [show (nI o % 1000 : Int32) = nI (o % 1000) from zI_rem (d := 1000) (by omega) (by omega) (by omega)]
      refine r_il3 zi_3_56 rfl ?_
      refine r_push zi_3_57 rfl ?_
      refine n_ic2 (i := o) (j := 100000) zi_3_59 rfl (by omega) (by omega) (fun c => absurd c (by omega)) (fun _ => ?_)
      refine r_push zi_3_62 rfl ?_
      refine r_goto zi_3_63 rfl ?_
      refine q_cVV zi_3_67 rfl rfl rfl rfl rfl rfl rfl cf_91_0.ob (hob 1 _ (by decide) (fun υ hF2 hV2 h4 => ?_))
      show zk _ _ 70 _ _ _ _
      refine r_in2 zi_3_70 rfl ?_
      rw [show (nI i + 1 : Int32) = nI (i + 1) from nI_add _ _]
      refine r_goto zi_3_73 rfl ?_
      exact ih (i + 1) _ _ υ _ _ _ (by omega) (hF.tr hF2) hV2 (hgs true) (dOr_rw.2.trans hv) h4 hq
    · rw [decide_eq_false e1] at hq
      refine r_il2 zi_3_4 rfl ?_
      refine r_al0 zi_3_5 rfl ?_
      refine q_getR zi_3_6 rfl cf_91_1 ?_
      refine q_getIe zi_3_9 rfl cf_75_13 (v := nI b) (by first | exact hn | ((repeat (first | rw [zup_ne (by first | decide | omega)] | rw [zup_nj (by first | decide | omega)] | rw [fil_ne (by first | decide | omega)])) <;> exact hn) | (simp [up_rd, fil_rd]; exact hn)) ?_
      refine n_ic3 (i := i) (j := b) zi_3_12 rfl (by omega) (by omega) (fun c => absurd c (by omega)) (fun _ => ?_)
      refine r_il2 zi_3_15 rfl ?_
      refine r_push zi_3_16 rfl ?_
      refine n_ic3 (i := i) (j := 24) zi_3_18 rfl (by omega) (by omega) (fun c => absurd c (by omega)) (fun _ => ?_)
      refine r_al0 zi_3_21 rfl ?_
      refine q_getR zi_3_22 rfl cf_91_1 ?_
      refine q_getR zi_3_25 rfl cf_75_10 ?_
      refine r_il2 zi_3_28 rfl ?_
      refine r_alde zi_3_29 rfl i ca_86 (by first | rfl | (simp only [zI_add, zI_mul] <;> rfl)) (by first | omega | decide) (u := nI o) (by first | exact ho | ((repeat (first | rw [zup_ne (by first | decide | omega)] | rw [zup_nj (by first | decide | omega)] | rw [fil_ne (by first | decide | omega)])) <;> exact ho) | (simp [up_rd, fil_rd]; exact ho)) ?_
      refine r_is3 zi_3_30 rfl ?_
      refine r_il3 zi_3_31 rfl ?_
      refine r_push zi_3_32 rfl ?_
      refine r_div zi_3_35 rfl (by decide) ?_
      rw [show (nI o / 1000 : Int32) = nI (o / 1000) from pk_div (d := 1000) (by omega) (by omega) (by omega)]
      refine r_push zi_3_36 rfl ?_
      refine r_rem zi_3_38 rfl (by decide) ?_
      rw [show (nI (o / 1000) % 100 : Int32) = nI ((o / 1000) % 100) from zI_rem (d := 100) (by omega) (by omega) (by omega)]
      refine r_is4 zi_3_39 rfl ?_
      refine r_il1 zi_3_41 rfl ?_
      refine r_push zi_3_42 rfl ?_
      refine r_il4 zi_3_43 rfl ?_
      refine r_b6 zi_3_45 rfl ?_
      refine r_b4 zi_3_46 rfl ?_
      refine r_is1 zi_3_47 rfl ?_
      refine r_al0 zi_3_48 rfl ?_
      refine r_il4 zi_3_49 rfl ?_
      refine r_il3 zi_3_51 rfl ?_
      refine r_push zi_3_52 rfl ?_
      refine r_rem zi_3_55 rfl (by decide) ?_
      rw [show (nI o % 1000 : Int32) = nI (o % 1000) from zI_rem (d := 1000) (by omega) (by omega) (by omega)]
      refine r_il3 zi_3_56 rfl ?_
      refine r_push zi_3_57 rfl ?_
      refine n_ic2 (i := o) (j := 100000) zi_3_59 rfl (by omega) (by omega) (fun _ => ?_) (fun c => absurd c (by omega))
      refine r_push zi_3_66 rfl ?_
      refine q_cVV zi_3_67 rfl rfl rfl rfl rfl rfl rfl cf_91_0.ob (hob 0 _ (by decide) (fun υ hF2 hV2 h4 => ?_))
      show zk _ _ 70 _ _ _ _
      refine r_in2 zi_3_70 rfl ?_
      rw [show (nI i + 1 : Int32) = nI (i + 1) from nI_add _ _]
      refine r_goto zi_3_73 rfl ?_
      exact ih (i + 1) _ _ υ _ _ _ (by omega) (hF.tr hF2) hV2 (hgs false) (dOr_rw.2.trans hv) h4 hq
theorem l_standT {d n N : Nat} {σ : zS} {Q : zS → Prop} {acc : Int32} {Wd Fr' Wh To O A : Nat → Nat} {B : Nat → Int32} (hd : zKd σ N Wd Fr' Wh To O A B) (hth : σ 91 3 = 1) : ∀ (m s c : Nat) (τ : zS) (V : zS), s + m = 18 → Fx 91 [75, 76, 77, 78, 79, 80, 81, 82, 83, 84, 85, 86, 93, 94] [4] σ τ → zVk τ 75 true V → zVg V n → τ 91 4 = nI c → (∀ υ, Fx 91 [75, 76, 77, 78, 79, 80, 81, 82, 83, 84, 85, 86, 93, 94] [4] σ υ → zVk υ 75 true (dSt (zTl N Wd Fr' Wh To O A) B n true acc m s V c).1 → υ 91 4 = nI (dSt (zTl N Wd Fr' Wh To O A) B n true acc m s V c).2 → Q υ) → zk (d + 5) 4 2 [.ref 91, .int acc, .int (nI s)] [] τ (fun r t => r = none ∧ Q t) := by
  intro m
  induction m with
  | zero =>
    intro s c τ V hs hF hV hg hc hq
    have e : s = 18 := by omega
    subst e
    refine r_il2 zi_4_2 rfl ?_
    refine r_push zi_4_3 rfl ?_
    refine r_ic3 zi_4_5 rfl (fun _ => ?_) (fun c => absurd (by decide) c)
    refine r_ret zi_4_50 rfl ?_
    exact ⟨rfl, hq τ hF hV hc⟩
  | succ m ih =>
    intro s c τ V hs hF hV hg hc hq
    have hst : τ (75 + 1 + 8) s = V 8 s := hV.1 8 (by decide) s
    have hgs := id hg.2.2.2.2.1 s (by omega)
    have hg18 := hg.2.1
    have hkd := zKd_fr hd hF (fun a h1 h2 => by simp; omega)
    have hth2 : τ 91 3 = 1 := (hF.fl (by decide) (by decide)).trans hth
    unfold dSt at hq
    by_cases e1 : zbt acc s = true
    · rw [if_pos (Or.inl e1)] at hq
      refine r_il2 zi_4_2 rfl ?_
      refine r_push zi_4_3 rfl ?_
      refine n_ic3 (i := s) (j := 18) zi_4_5 rfl (by omega) (by omega) (fun c => absurd c (by omega)) (fun _ => ?_)
      refine r_il1 zi_4_8 rfl ?_
      refine r_il2 zi_4_9 rfl ?_
      refine r_b7 zi_4_10 rfl ?_
      refine r_push zi_4_11 rfl ?_
      refine r_b3 zi_4_12 rfl ?_
      refine r_if1 zi_4_13 rfl (fun _ => ?_) (fun c => absurd c (fun z => absurd ((of_decide_eq_true e1).symm.trans z) (by decide)))
      refine r_in2 zi_4_44 rfl ?_
      rw [show (nI s + 1 : Int32) = nI (s + 1) from nI_add _ _]
      refine r_goto zi_4_47 rfl ?_
      exact ih (s + 1) c τ V (by omega) hF hV hg hc hq
    · by_cases e2 : V 8 s = -1
      · rw [if_pos (Or.inr e2)] at hq
        refine r_il2 zi_4_2 rfl ?_
        refine r_push zi_4_3 rfl ?_
        refine n_ic3 (i := s) (j := 18) zi_4_5 rfl (by omega) (by omega) (fun c => absurd c (by omega)) (fun _ => ?_)
        refine r_il1 zi_4_8 rfl ?_
        refine r_il2 zi_4_9 rfl ?_
        refine r_b7 zi_4_10 rfl ?_
        refine r_push zi_4_11 rfl ?_
        refine r_b3 zi_4_12 rfl ?_
        refine r_if1 zi_4_13 rfl (fun c => absurd ((un_and1 _).resolve_right (fun z => e1 (decide_eq_true z))) c) (fun _ => ?_)
        refine r_al0 zi_4_16 rfl ?_
        refine q_getR zi_4_17 rfl cf_91_1 ?_
        refine q_getR zi_4_20 rfl cf_75_8 ?_
        refine r_il2 zi_4_23 rfl ?_
        refine r_alde zi_4_24 rfl s ca_84 (by first | rfl | (simp only [zI_add, zI_mul] <;> rfl)) (by first | omega | decide) (u := V 8 s) (by first | exact hst | ((repeat (first | rw [zup_ne (by first | decide | omega)] | rw [zup_nj (by first | decide | omega)] | rw [fil_ne (by first | decide | omega)])) <;> exact hst) | (simp [up_rd, fil_rd]; exact hst)) ?_
        refine r_push zi_4_25 rfl ?_
        refine r_ic0 zi_4_26 rfl (fun _ => ?_) (fun c => absurd e2 c)
        refine r_in2 zi_4_44 rfl ?_
        rw [show (nI s + 1 : Int32) = nI (s + 1) from nI_add _ _]
        refine r_goto zi_4_47 rfl ?_
        exact ih (s + 1) c τ V (by omega) hF hV hg hc hq
      · rw [if_neg (fun z => z.elim e1 e2)] at hq
        rcases hgs with e | ⟨h1, w, a, hw, ha, e⟩
        · exact absurd e e2
        · have hu : un (V 8 s) = w + 10 * a := by rw [e]; exact un_nI (by omega)
          rw [hu] at hq
          have hob : ∀ (Q2 : zS → Prop), (∀ υ, Fx 91 [75, 76, 77, 78, 79, 80, 81, 82, 83, 84, 85, 86, 93, 94] [4] τ υ → zVk υ 75 true (dOr (zTl N Wd Fr' Wh To O A) B n true V s (w + 10 * a) true) → υ 91 4 = nI (c + dOc (zTl N Wd Fr' Wh To O A) n true V s (w + 10 * a)) → Q2 υ) → zV1 (d + 4) 5 [.ref 91, .int (nI s), .int (nI (w + 10 * a)), .int (nI 1)] τ Q2 := fun Q2 h2 => s_obeyT (g := 1) hV hg hkd hth2 hc h1 (by omega) (by omega) (by decide) h2
          refine r_il2 zi_4_2 rfl ?_
          refine r_push zi_4_3 rfl ?_
          refine n_ic3 (i := s) (j := 18) zi_4_5 rfl (by omega) (by omega) (fun c => absurd c (by omega)) (fun _ => ?_)
          refine r_il1 zi_4_8 rfl ?_
          refine r_il2 zi_4_9 rfl ?_
          refine r_b7 zi_4_10 rfl ?_
          refine r_push zi_4_11 rfl ?_
          refine r_b3 zi_4_12 rfl ?_
          refine r_if1 zi_4_13 rfl (fun c => absurd ((un_and1 _).resolve_right (fun z => e1 (decide_eq_true z))) c) (fun _ => ?_)
          refine r_al0 zi_4_16 rfl ?_
          refine q_getR zi_4_17 rfl cf_91_1 ?_
          refine q_getR zi_4_20 rfl cf_75_8 ?_
          refine r_il2 zi_4_23 rfl ?_
          refine r_alde zi_4_24 rfl s ca_84 (by first | rfl | (simp only [zI_add, zI_mul] <;> rfl)) (by first | omega | decide) (u := V 8 s) (by first | exact hst | ((repeat (first | rw [zup_ne (by first | decide | omega)] | rw [zup_nj (by first | decide | omega)] | rw [fil_ne (by first | decide | omega)])) <;> exact hst) | (simp [up_rd, fil_rd]; exact hst)) ?_
          refine r_push zi_4_25 rfl ?_
          refine r_ic0 zi_4_26 rfl (fun c => absurd c e2) (fun _ => ?_)
          refine r_al0 zi_4_29 rfl ?_
          refine r_il2 zi_4_30 rfl ?_
          refine r_al0 zi_4_31 rfl ?_
          refine q_getR zi_4_32 rfl cf_91_1 ?_
          refine q_getR zi_4_35 rfl cf_75_8 ?_
          refine r_il2 zi_4_38 rfl ?_
          refine r_alde zi_4_39 rfl s ca_84 (by first | rfl | (simp only [zI_add, zI_mul] <;> rfl)) (by first | omega | decide) (u := nI (w+10*a)) (by first | exact (hst.trans e) | ((repeat (first | rw [zup_ne (by first | decide | omega)] | rw [zup_nj (by first | decide | omega)] | rw [fil_ne (by first | decide | omega)])) <;> exact (hst.trans e)) | (simp [up_rd, fil_rd]; exact (hst.trans e))) ?_
          refine r_push zi_4_40 rfl ?_
          refine q_cVV zi_4_41 rfl rfl rfl rfl rfl rfl rfl cf_91_0.ob (hob _ (fun υ hF2 hV2 h4 => ?_))
          show zk _ _ 44 _ _ _ _
          refine r_in2 zi_4_44 rfl ?_
          rw [show (nI s + 1 : Int32) = nI (s + 1) from nI_add _ _]
          refine r_goto zi_4_47 rfl ?_
          exact ih (s + 1) _ υ _ (by omega) (hF.tr hF2) hV2 (dOr_g hd.2.2.2.1 hg h1 (by omega) (by omega)) h4 hq

