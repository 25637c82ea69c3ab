/-! CLASS: Days (T): an order -/
theorem s_isObT {d n N s w : Nat} {σ : zS} {Q : Int32 → zS → Prop} {V : zS} {Wd Fr' Wh To O A : Nat → Nat} {B : Nat → Int32} (hV : zVk σ 75 true V) (hg : zVg V n) (hd : zKd σ N Wd Fr' Wh To O A B) (hth : σ 91 3 = 1) (hs : s < n) (hw : w ≤ 4) (h1 : dIs (zTl N Wd Fr' Wh To O A) n true V s w = true → ∀ τ, Fx 91 [75, 76, 77, 78, 79, 80, 81, 82, 83, 84, 85, 86, 93, 94] [4] σ τ → zVk τ 75 true (dDr (zTl N Wd Fr' Wh To O A) n true V s w) → τ 91 4 = σ 91 4 → Q 1 τ) (h0 : ¬ dIs (zTl N Wd Fr' Wh To O A) n true V s w = true → ∀ τ, Fx 91 [75, 76, 77, 78, 79, 80, 81, 82, 83, 84, 85, 86, 93, 94] [4] σ τ → zVk τ 75 true (dDr (zTl N Wd Fr' Wh To O A) n true V s w) → τ 91 4 = σ 91 4 → Q 0 τ) : zI1 (d + 3) 7 [.ref 91, .int (nI s), .int (nI w)] σ Q := by
  obtain ⟨gn, gn18, gat, gal, gst, gtd, gbf, gwr⟩ := hg
  obtain ⟨p, hp, hpV⟩ := gat s hs
  obtain ⟨d1, d2, d3, d4, d5⟩ := id hd
  have hup : un (V 3 s) = p := by rw [hpV]; exact un_nI (by omega)
  have hat : σ (75 + 1 + 3) s = nI p := (hV.1 3 (by decide) s).trans hpV
  have hsub : σ 75 11 = nI n := (hV.2.1 11 (by decide) (by decide)).trans gn
  have htell : ∀ (Q2 : Int32 → zS → Prop), (∀ τ, Fr [92 + 1, 92 + 2] σ τ → Q2 (zTl N Wd Fr' Wh To O A 0 (zFv V n true s p (nI w))) τ) → zI1 (d + 2) 24 [.ref 92, .int (nI 10000), .int (nI s), .int (nI p), .int (nI w)] σ Q2 := fun Q2 hq => by
    have h9 := s_tells (d := d) (σ := σ) (Q := Q2) (w := 0) (wh := nI w) (sb := true) zLa92 zDu_75 (by decide) hsub gn18 (Or.inl ⟨rfl, hs, rfl⟩) hp d1 d2 (by omega) (fun τ hF => by rw [zfk_v hV]; exact hq τ hF)
    rw [show (10000 + 0 : Nat) = 10000 from rfl] at h9
    exact h9
  have hVt : ∀ τ, Fr [92 + 1, 92 + 2] σ τ → zVk τ 75 true V := fun τ hF => zVk_o (Or.inr rfl) hV hF (by simp)
  have hFx : ∀ τ, Fr [92 + 1, 92 + 2] σ τ → Fx 91 [75, 76, 77, 78, 79, 80, 81, 82, 83, 84, 85, 86, 93, 94] [4] σ τ := fun τ hF => Fx.of hF (by simp)
  have hM : dOd (zTl N Wd Fr' Wh To O A) n V s w = zTl N Wd Fr' Wh To O A 0 (zFv V n true s p (nI w)) := by unfold dOd; rw [hup]
  unfold dIs dDr at h1 h0
  rw [hM] at h1 h0
  generalize zTl N Wd Fr' Wh To O A 0 (zFv V n true s p (nI w)) = M at *
  show zk _ _ 0 [.ref 91, .int (nI s), .int (nI w), zun] [] _ _
  rw [if_pos rfl] at h1 h0
  rw [if_neg (fun z => by cases z.1)] at h1 h0
  by_cases hm : 500 ≤ M
  · have h1 := h1 (decide_eq_true hm)
    refine r_al0 zi_7_0 rfl ?_
    refine q_getR zi_7_1 rfl cf_91_2 ?_
    refine r_push zi_7_4 rfl ?_
    refine r_il1 zi_7_7 rfl ?_
    refine r_al0 zi_7_8 rfl ?_
    refine q_getR zi_7_9 rfl cf_91_1 ?_
    refine q_getR zi_7_12 rfl cf_75_3 ?_
    refine r_il1 zi_7_15 rfl ?_
    refine r_alde zi_7_16 rfl s ca_79 (by first | rfl | (simp only [zI_add, zI_mul] <;> rfl)) (by first | omega | decide) (u := nI p) (by first | exact hat | ((repeat (first | rw [zup_ne (by first | decide | omega)] | rw [zup_nj (by first | decide | omega)] | rw [fil_ne (by first | decide | omega)])) <;> exact hat) | (simp [up_rd, fil_rd]; exact hat)) ?_
    refine r_il2 zi_7_17 rfl ?_
    refine q_cIV zi_7_18 rfl rfl rfl rfl rfl rfl rfl cf_92_0.ob (htell _ (fun τ hF => ?_))
    show zk _ _ 21 _ _ _ _
    refine r_is3 zi_7_21 rfl ?_
    refine r_al0 zi_7_22 rfl ?_
    refine q_getIe zi_7_23 rfl cf_91_3 (v := 1) (by first | exact ((hF 91 (by decide) 3).trans hth) | ((repeat (first | rw [zup_ne (by first | decide | omega)] | rw [zup_nj (by first | decide | omega)] | rw [fil_ne (by first | decide | omega)])) <;> exact ((hF 91 (by decide) 3).trans hth)) | (simp [up_rd, fil_rd]; exact ((hF 91 (by decide) 3).trans hth))) ?_
    refine r_if0 zi_7_26 rfl (fun c => absurd c (by decide)) (fun _ => ?_)
    refine r_il3 zi_7_29 rfl ?_
    refine r_push zi_7_30 rfl ?_
    refine r_ic2 zi_7_33 rfl (fun c => absurd c (by grind)) (fun _ => ?_)
    refine r_push zi_7_36 rfl ?_
    refine r_goto zi_7_37 rfl ?_
    refine r_retZ zi_7_41 rfl (by decide) ?_
    exact ⟨_, rfl, h1 _ (hFx τ hF) (hVt τ hF) (hF 91 (by decide) 4)⟩
  · have h0 := h0 (fun z => hm (of_decide_eq_true z))
    refine r_al0 zi_7_0 rfl ?_
    refine q_getR zi_7_1 rfl cf_91_2 ?_
    refine r_push zi_7_4 rfl ?_
    refine r_il1 zi_7_7 rfl ?_
    refine r_al0 zi_7_8 rfl ?_
    refine q_getR zi_7_9 rfl cf_91_1 ?_
    refine q_getR zi_7_12 rfl cf_75_3 ?_
    refine r_il1 zi_7_15 rfl ?_
    refine r_alde zi_7_16 rfl s ca_79 (by first | rfl | (simp only [zI_add, zI_mul] <;> rfl)) (by first | omega | decide) (u := nI p) (by first | exact hat | ((repeat (first | rw [zup_ne (by first | decide | omega)] | rw [zup_nj (by first | decide | omega)] | rw [fil_ne (by first | decide | omega)])) <;> exact hat) | (simp [up_rd, fil_rd]; exact hat)) ?_
    refine r_il2 zi_7_17 rfl ?_
    refine q_cIV zi_7_18 rfl rfl rfl rfl rfl rfl rfl cf_92_0.ob (htell _ (fun τ hF => ?_))
    show zk _ _ 21 _ _ _ _
    refine r_is3 zi_7_21 rfl ?_
    refine r_al0 zi_7_22 rfl ?_
    refine q_getIe zi_7_23 rfl cf_91_3 (v := 1) (by first | exact ((hF 91 (by decide) 3).trans hth) | ((repeat (first | rw [zup_ne (by first | decide | omega)] | rw [zup_nj (by first | decide | omega)] | rw [fil_ne (by first | decide | omega)])) <;> exact ((hF 91 (by decide) 3).trans hth)) | (simp [up_rd, fil_rd]; exact ((hF 91 (by decide) 3).trans hth))) ?_
    refine r_if0 zi_7_26 rfl (fun c => absurd c (by decide)) (fun _ => ?_)
    refine r_il3 zi_7_29 rfl ?_
    refine r_push zi_7_30 rfl ?_
    refine r_ic2 zi_7_33 rfl (fun _ => ?_) (fun c => absurd (by grind) c)
    refine r_push zi_7_40 rfl ?_
    refine r_retZ zi_7_41 rfl (by decide) ?_
    exact ⟨_, rfl, h0 _ (hFx τ hF) (hVt τ hF) (hF 91 (by decide) 4)⟩

theorem dDr_gT {T : zTe} {n s w : Nat} {V : zS} (hg : zVg V n) : zVg (dDr T n true V s w) n := by
  unfold dDr
  split
  · exact ⟨(zup_nj (by decide)).trans hg.1, hg.2.1, fun s hs => by rw [zup_ne (by decide)]; exact hg.2.2.1 s hs, fun s hs => by rw [zup_ne (by decide)]; exact hg.2.2.2.1 s hs, fun s hs => by rw [zup_ne (by decide)]; exact hg.2.2.2.2.1 s hs, by rw [zup_nj (by decide), show up V 11 18 (zdr (V 11 18)) 9 = V 9 from funext fun b => zup_ne (by decide)]; exact hg.2.2.2.2.2.1, by rw [zup_nj (by decide), show up V 11 18 (zdr (V 11 18)) 10 = V 10 from funext fun b => zup_ne (by decide)]; exact hg.2.2.2.2.2.2.1, by rw [zup_nj (by decide)]; exact hg.2.2.2.2.2.2.2⟩
  · exact hg
theorem s_stopT {d n s : Nat} {σ : zS} {Q : zS → Prop} {V : zS} (hV : zVk σ 75 true V) (hg : zVg V n) (hth : σ 91 3 = 1) (hs : s < n) (h : ∀ τ, Fx 91 [75, 76, 77, 78, 79, 80, 81, 82, 83, 84, 85, 86, 93, 94] [4] σ τ → zVk τ 75 true (dSp true V s) → τ 91 4 = σ 91 4 → Q τ) : zV1 (d + 2) 6 [.ref 91, .int (nI s)] σ Q := by
  obtain ⟨gn, gn18, gat, gal, gst, gtd, gbf, ⟨wr, gw, gw2⟩⟩ := hg
  have hst : σ (75 + 1 + 8) s = V 8 s := hV.1 8 (by decide) s
  unfold dSp at h
  show zk _ _ 0 [.ref 91, .int (nI s), zun] [] _ _
  by_cases e : V 8 s = -1
  · rw [if_pos e] at h
    refine r_al0 zi_6_0 rfl ?_
    refine q_getR zi_6_1 rfl cf_91_1 ?_
    refine q_getR zi_6_4 rfl cf_75_8 ?_
    refine r_il1 zi_6_7 rfl ?_
    refine r_alde zi_6_8 rfl s ca_84 (by first | rfl | (simp only [zI_add, zI_mul] <;> rfl)) (by first | omega | decide) (u := V 8 s) (by first | exact hst | ((repeat (first | rw [zup_ne (by first | decide | omega)] | rw [zup_nj (by first | decide | omega)] | rw [fil_ne (by first | decide | omega)])) <;> exact hst) | (simp [up_rd, fil_rd]; exact hst)) ?_
    refine r_is2 zi_6_9 rfl ?_
    refine r_al0 zi_6_10 rfl ?_
    refine r_push zi_6_11 rfl ?_
    refine r_il1 zi_6_12 rfl ?_
    refine r_il2 zi_6_13 rfl ?_
    refine r_push zi_6_14 rfl ?_
    refine r_ic1 zi_6_15 rfl (fun c => absurd e c) (fun _ => ?_)
    refine r_push zi_6_18 rfl ?_
    refine r_goto zi_6_19 rfl ?_
    refine q_cVV zi_6_26 rfl rfl rfl rfl rfl rfl rfl cf_91_0.ob (s_writeT hV hth gw2 gw (fun τ hF hV2 f4 => ?_))
    show zk _ _ 29 _ _ _ _
    refine r_al0 zi_6_29 rfl ?_
    refine q_getR zi_6_30 rfl cf_91_1 ?_
    refine q_getR zi_6_33 rfl cf_75_8 ?_
    refine r_il1 zi_6_36 rfl ?_
    refine r_push zi_6_37 rfl ?_
    refine r_ast zi_6_38 rfl s ca_84 (by first | rfl | (simp only [zI_add, zI_mul] <;> rfl)) (by first | omega | decide) ?_
    refine r_ret zi_6_39 rfl ?_
    exact ⟨rfl, h _ (hF.put (by decide)) (zVk_a (j := 8) (Or.inr rfl) hV2 (by decide)) ((zup_ne (by decide)).trans f4)⟩
  · rw [if_neg e] at h
    refine r_al0 zi_6_0 rfl ?_
    refine q_getR zi_6_1 rfl cf_91_1 ?_
    refine q_getR zi_6_4 rfl cf_75_8 ?_
    refine r_il1 zi_6_7 rfl ?_
    refine r_alde zi_6_8 rfl s ca_84 (by first | rfl | (simp only [zI_add, zI_mul] <;> rfl)) (by first | omega | decide) (u := V 8 s) (by first | exact hst | ((repeat (first | rw [zup_ne (by first | decide | omega)] | rw [zup_nj (by first | decide | omega)] | rw [fil_ne (by first | decide | omega)])) <;> exact hst) | (simp [up_rd, fil_rd]; exact hst)) ?_
    refine r_is2 zi_6_9 rfl ?_
    refine r_al0 zi_6_10 rfl ?_
    refine r_push zi_6_11 rfl ?_
    refine r_il1 zi_6_12 rfl ?_
    refine r_il2 zi_6_13 rfl ?_
    refine r_push zi_6_14 rfl ?_
    refine r_ic1 zi_6_15 rfl (fun _ => ?_) (fun c => absurd c e)
    refine r_il2 zi_6_22 rfl ?_
    refine r_push zi_6_23 rfl ?_
    refine r_rem zi_6_25 rfl (by decide) ?_
    refine q_cVV zi_6_26 rfl rfl rfl rfl rfl rfl rfl cf_91_0.ob (s_writeT hV hth gw2 gw (fun τ hF hV2 f4 => ?_))
    show zk _ _ 29 _ _ _ _
    refine r_al0 zi_6_29 rfl ?_
    refine q_getR zi_6_30 rfl cf_91_1 ?_
    refine q_getR zi_6_33 rfl cf_75_8 ?_
    refine r_il1 zi_6_36 rfl ?_
    refine r_push zi_6_37 rfl ?_
    refine r_ast zi_6_38 rfl s ca_84 (by first | rfl | (simp only [zI_add, zI_mul] <;> rfl)) (by first | omega | decide) ?_
    refine r_ret zi_6_39 rfl ?_
    exact ⟨rfl, h _ (hF.put (by decide)) (zVk_a (j := 8) (Or.inr rfl) hV2 (by decide)) ((zup_ne (by decide)).trans f4)⟩
theorem s_obeyT {d n N s dd c g : Nat} {σ : zS} {Q : zS → Prop} {V : zS} {Wd Fr' Wh To O A : Nat → Nat} {B : Nat → Int32} (hV : zVk σ 75 true V) (hg : zVg V n) (hd : zKd σ N Wd Fr' Wh To O A B) (hth : σ 91 3 = 1) (hc : σ 91 4 = nI c) (hs : s < n) (hdd : dd % 10 ≤ 5) (ha : dd / 10 < 12) (hgg : g ≤ 1) (h : ∀ τ, Fx 91 [75, 76, 77, 78, 79, 80, 81, 82, 83, 84, 85, 86, 93, 94] [4] σ τ → zVk τ 75 true (dOr (zTl N Wd Fr' Wh To O A) B n true V s dd (decide (g = 1))) → τ 91 4 = nI (c + dOc (zTl N Wd Fr' Wh To O A) n true V s dd) → Q τ) : zV1 (d + 4) 5 [.ref 91, .int (nI s), .int (nI dd), .int (nI g)] σ Q := by
  have hg0 := hg
  obtain ⟨gn, gn18, gat, gal, gst, gtd, gbf, ⟨wr, gw, gw2⟩⟩ := hg
  have hsub : σ 75 11 = nI n := (hV.2.1 11 (by decide) (by decide)).trans gn
  have hal : σ (75 + 1 + 6) s = V 6 s := hV.1 6 (by decide) s
  have ls : nI s < nI n := nI_lt hs (by omega)
  have l0 := nI_pos' (n := s) (by omega)
  have hinj : ∀ q, q < n → nI s = nI q → q = s := fun q hq e => ((nI_eq (by omega) (by omega)).mp e).symm
  unfold dOr dOc at h
  show zk _ _ 0 [.ref 91, .int (nI s), .int (nI dd), .int (nI g), zun] [] _ _
  by_cases ha1 : V 6 s = 1
  · rw [if_neg (fun z => z ha1)] at h
    have hlv : ∀ (d : Nat) (Q2 : Int32 → zS → Prop), Q2 1 σ → zI1 (d + 1) 19 [.ref 75, .int (nI s)] σ Q2 := fun d Q2 hq => s_dlives zDu_75 hsub gn18 (fun q hq1 e al => hq) (fun z => absurd ⟨l0, ls⟩ z) (fun q hq1 e al => absurd (hal.trans ha1) (by rw [← hinj q hq1 e]; exact al))
    by_cases h5 : dd % 10 = 5
    · rw [if_pos h5, if_neg (fun z => z.2.1 h5)] at h
      refine r_al0 zi_5_0 rfl ?_
      refine q_getR zi_5_1 rfl cf_91_1 ?_
      refine r_il1 zi_5_4 rfl ?_
      refine q_cIV zi_5_5 rfl rfl rfl rfl rfl rfl rfl cf_75_0.ob (hlv _ _ ?_)
      show zk _ _ 8 _ _ _ _
      refine r_if1 zi_5_8 rfl (fun _ => ?_) (fun c => absurd c (by decide))
      refine r_il2 zi_5_12 rfl ?_
      refine r_push zi_5_13 rfl ?_
      refine r_rem zi_5_15 rfl (by decide) ?_
      rw [show (nI dd % 10 : Int32) = nI (dd % 10) from zI_rem (d := 10) (by omega) (by omega) (by omega)]
      refine r_is4 zi_5_16 rfl ?_
      refine r_il4 zi_5_18 rfl ?_
      refine r_push zi_5_20 rfl ?_
      refine n_ic1 (i := (dd % 10)) (j := 5) zi_5_21 rfl (by omega) (by omega) (fun c => absurd c (by omega)) (fun _ => ?_)
      refine r_al0 zi_5_24 rfl ?_
      refine r_il1 zi_5_25 rfl ?_
      refine q_cVV zi_5_26 rfl rfl rfl rfl rfl rfl rfl cf_91_0.ob (s_stopT hV hg0 hth hs (fun τ hF hV2 f4 => ?_))
      show zk _ _ 29 _ _ _ _
      refine r_ret zi_5_29 rfl ?_
      exact ⟨rfl, h τ hF hV2 (f4.trans hc)⟩
    · rw [if_neg h5] at h
      have fin : ∀ (U : zS) (τ : zS) (cc : Nat), Fx 91 [75, 76, 77, 78, 79, 80, 81, 82, 83, 84, 85, 86, 93, 94] [4] σ τ → zVk τ 75 true U → τ 91 4 = nI cc → (∀ υ, Fx 91 [75, 76, 77, 78, 79, 80, 81, 82, 83, 84, 85, 86, 93, 94] [4] σ υ → zVk υ 75 true (if decide (g = 1) = true then up U 8 s (nI dd) else U) → υ 91 4 = nI cc → Q υ) → zk (d + 4) 5 75 [.ref 91, .int (nI s), .int (nI dd), .int (nI g), .int (nI (dd % 10))] [] τ (fun r t => r = none ∧ Q t) := by
        intro U τ cc hF hU h4 hq
        by_cases g1 : g = 1
        · rw [if_pos (decide_eq_true g1)] at hq
          refine r_il3 zi_5_75 rfl ?_
          refine n_if0 (i := g) zi_5_76 rfl (by omega) (fun c => absurd c (by omega)) (fun _ => ?_)
          refine r_al0 zi_5_79 rfl ?_
          refine q_getR zi_5_80 rfl cf_91_1 ?_
          refine q_getR zi_5_83 rfl cf_75_8 ?_
          refine r_il1 zi_5_86 rfl ?_
          refine r_il2 zi_5_87 rfl ?_
          refine r_ast zi_5_88 rfl s ca_84 (by first | rfl | (simp only [zI_add, zI_mul] <;> rfl)) (by first | omega | decide) ?_
          refine r_ret zi_5_89 rfl ?_
          exact ⟨rfl, hq _ (hF.put (by decide)) (zVk_a (j := 8) (Or.inr rfl) hU (by decide)) ((zup_ne (by decide)).trans h4)⟩
        · rw [if_neg (fun z => g1 (of_decide_eq_true z))] at hq
          refine r_il3 zi_5_75 rfl ?_
          refine n_if0 (i := g) zi_5_76 rfl (by omega) (fun _ => ?_) (fun c => absurd c (by omega))
          refine r_ret zi_5_89 rfl ?_
          exact ⟨rfl, hq _ hF hU h4⟩
      have hOb1 : dIs (zTl N Wd Fr' Wh To O A) n true V s (dd % 10) = true → dOb (zTl N Wd Fr' Wh To O A) B n true V s (dd % 10) (dd / 10) = dW true 0 (nI s) (nI (dd % 10)) (dDn (zTl N Wd Fr' Wh To O A) B n (dDr (zTl N Wd Fr' Wh To O A) n true V s (dd % 10)) s (dd % 10) (dd / 10)) := fun e => if_pos e
      have hOb0 : ¬ dIs (zTl N Wd Fr' Wh To O A) n true V s (dd % 10) = true → dOb (zTl N Wd Fr' Wh To O A) B n true V s (dd % 10) (dd / 10) = dW true 1 (nI s) (nI (dd % 10)) (up (dDr (zTl N Wd Fr' Wh To O A) n true V s (dd % 10)) 11 16 (V 11 16 + 1)) := fun e => if_neg e
      have h16 : dDr (zTl N Wd Fr' Wh To O A) n true V s (dd % 10) 11 16 = V 11 16 := by unfold dDr; split <;> first | rfl | exact zup_nj (by decide)
      have h19 : dDr (zTl N Wd Fr' Wh To O A) n true V s (dd % 10) 11 19 = V 11 19 := by unfold dDr; split <;> first | rfl | exact zup_nj (by decide)
      have hkd : ∀ τ, Fx 91 [75, 76, 77, 78, 79, 80, 81, 82, 83, 84, 85, 86, 93, 94] [4] σ τ → zKd τ N Wd Fr' Wh To O A B := fun τ hF => zKd_fr hd hF (fun a h1 h2 => by simp; omega)
      refine r_al0 zi_5_0 rfl ?_
      refine q_getR zi_5_1 rfl cf_91_1 ?_
      refine r_il1 zi_5_4 rfl ?_
      refine q_cIV zi_5_5 rfl rfl rfl rfl rfl rfl rfl cf_75_0.ob (hlv _ _ ?_)
      show zk _ _ 8 _ _ _ _
      refine r_if1 zi_5_8 rfl (fun _ => ?_) (fun c => absurd c (by decide))
      refine r_il2 zi_5_12 rfl ?_
      refine r_push zi_5_13 rfl ?_
      refine r_rem zi_5_15 rfl (by decide) ?_
      rw [show (nI dd % 10 : Int32) = nI (dd % 10) from zI_rem (d := 10) (by omega) (by omega) (by omega)]
      refine r_is4 zi_5_16 rfl ?_
      refine r_il4 zi_5_18 rfl ?_
      refine r_push zi_5_20 rfl ?_
      refine n_ic1 (i := (dd % 10)) (j := 5) zi_5_21 rfl (by omega) (by omega) (fun _ => ?_) (fun c => absurd c (by omega))
      refine r_al0 zi_5_30 rfl ?_
      refine r_il1 zi_5_31 rfl ?_
      refine r_il4 zi_5_32 rfl ?_
      refine q_cIV zi_5_34 rfl rfl rfl rfl rfl rfl rfl cf_91_0.ob (s_isObT hV hg0 hd hth hs (by omega) (fun hi τ hF hV2 f4 => ?_) (fun hi τ hF hV2 f4 => ?_))
      · show zk _ _ 37 _ _ _ _
        refine r_if0 zi_5_37 rfl (fun c => absurd c (by decide)) (fun _ => ?_)
        refine r_al0 zi_5_40 rfl ?_
        refine r_il1 zi_5_41 rfl ?_
        refine r_il4 zi_5_42 rfl ?_
        refine r_il2 zi_5_44 rfl ?_
        refine r_push zi_5_45 rfl ?_
        refine r_div zi_5_47 rfl (by decide) ?_
        rw [show (nI dd / 10 : Int32) = nI (dd / 10) from pk_div (d := 10) (by omega) (by omega) (by omega)]
        refine q_cVV zi_5_48 rfl rfl rfl rfl rfl rfl rfl cf_91_0.ob (s_carryT (c := c) hV2 (dDr_gT hg0) (hkd τ hF) ((hF.fl (by decide) (by decide)).trans hth) (f4.trans hc) hs (by omega) ha (fun τ3 hF3 hV3 f43 => ?_))
        show zk _ _ 51 _ _ _ _
        refine r_goto zi_5_51 rfl ?_
        first
        | (rw [if_pos (show V 6 s = 1 ∧ ¬ dd % 10 = 5 ∧ dIs (zTl N Wd Fr' Wh To O A) n true V s (dd % 10) = true from ⟨ha1, h5, hi⟩), hOb1 hi] at h; exact fin _ τ3 (c + 1) (hF.tr hF3) hV3 f43 h)
        | (rw [if_neg (show ¬ (V 6 s = 1 ∧ ¬ dd % 10 = 5 ∧ dIs (zTl N Wd Fr' Wh To O A) n true V s (dd % 10) = true) from fun z => hi z.2.2), hOb0 hi] at h; exact fin _ τ3 c ((hF.put (by decide)).tr hF3) hV3 (f43.trans ((zup_ne (by decide)).trans (f4.trans hc))) h)
      · show zk _ _ 37 _ _ _ _
        refine r_if0 zi_5_37 rfl (fun _ => ?_) (fun c => absurd (by decide) c)
        refine r_al0 zi_5_54 rfl ?_
        refine q_getR zi_5_55 rfl cf_91_1 ?_
        refine r_dupR zi_5_58 rfl ?_
        refine q_getIe zi_5_59 rfl cf_75_16 (v := V 11 16) (by first | exact ((hV2.2.1 16 (by decide) (by decide)).trans h16) | ((repeat (first | rw [zup_ne (by first | decide | omega)] | rw [zup_nj (by first | decide | omega)] | rw [fil_ne (by first | decide | omega)])) <;> exact ((hV2.2.1 16 (by decide) (by decide)).trans h16)) | (simp [up_rd, fil_rd]; exact ((hV2.2.1 16 (by decide) (by decide)).trans h16))) ?_
        refine r_push zi_5_62 rfl ?_
        refine r_b0 zi_5_63 rfl ?_
        refine q_put zi_5_64 rfl cf_75_16 rfl ?_
        refine r_al0 zi_5_67 rfl ?_
        refine r_push zi_5_68 rfl ?_
        refine r_il1 zi_5_69 rfl ?_
        refine r_il4 zi_5_70 rfl ?_
        refine q_cVV zi_5_72 rfl rfl rfl rfl rfl rfl rfl cf_91_0.ob (s_writeT (zVk_f (Or.inr rfl) (f := 16) hV2 (by decide) (by decide)) ((zup_ne (by decide)).trans ((hF.fl (by decide) (by decide)).trans hth)) ((zup_nj (by decide)).trans (h19.trans gw2)) gw (fun τ3 hF3 hV3 f43 => ?_))
        show zk _ _ 75 _ _ _ _
        first
        | (rw [if_pos (show V 6 s = 1 ∧ ¬ dd % 10 = 5 ∧ dIs (zTl N Wd Fr' Wh To O A) n true V s (dd % 10) = true from ⟨ha1, h5, hi⟩), hOb1 hi] at h; exact fin _ τ3 (c + 1) (hF.tr hF3) hV3 f43 h)
        | (rw [if_neg (show ¬ (V 6 s = 1 ∧ ¬ dd % 10 = 5 ∧ dIs (zTl N Wd Fr' Wh To O A) n true V s (dd % 10) = true) from fun z => hi z.2.2), hOb0 hi] at h; exact fin _ τ3 c ((hF.put (by decide)).tr hF3) hV3 (f43.trans ((zup_ne (by decide)).trans (f4.trans hc))) h)
  · rw [if_pos ha1, if_neg (fun z => ha1 z.1)] at h
    have hlv : ∀ (d : Nat) (Q2 : Int32 → zS → Prop), Q2 0 σ → zI1 (d + 1) 19 [.ref 75, .int (nI s)] σ Q2 := fun d Q2 hq => s_dlives zDu_75 hsub gn18 (fun q hq1 e al => absurd (hal.symm.trans (by rw [← hinj q hq1 e]; exact al)) ha1) (fun z => absurd ⟨l0, ls⟩ z) (fun q hq1 e al => hq)
    refine r_al0 zi_5_0 rfl ?_
    refine q_getR zi_5_1 rfl cf_91_1 ?_
    refine r_il1 zi_5_4 rfl ?_
    refine q_cIV zi_5_5 rfl rfl rfl rfl rfl rfl rfl cf_75_0.ob (hlv _ _ ?_)
    show zk _ _ 8 _ _ _ _
    refine r_if1 zi_5_8 rfl (fun c => absurd (by decide) c) (fun _ => ?_)
    refine r_ret zi_5_11 rfl ?_
    exact ⟨rfl, h σ Fx.rf hV hc⟩

