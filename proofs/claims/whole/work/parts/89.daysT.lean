/-! CLASS: Days (T) -/
theorem zDyT3 (σ : zS) : True := trivial
theorem s_writeT {d w : Nat} {σ : zS} {Q : zS → Prop} {V : zS} {wh who mu : Int32} (hV : zVk σ 75 true V) (hth : σ 91 3 = 1) (hw : V 11 19 = nI w) (hw150 : w ≤ 150) (h : ∀ τ, Fx 91 [75, 76, 77, 78, 79, 80, 81, 82, 83, 84, 85, 86, 93, 94] [4] σ τ → zVk τ 75 true (dW true wh who mu V) → τ 91 4 = σ 91 4 → Q τ) : zV1 (d + 1) 13 [.ref 91, .int wh, .int who, .int mu] σ Q := by
  have hW : dW true wh who mu V = V := by unfold dW; rw [if_pos (Or.inl rfl)]
  rw [hW] at h
  show zk _ _ 0 [.ref 91, .int wh, .int who, .int mu] [] _ _
  refine r_al0 zi_13_0 rfl ?_
  refine q_getIe zi_13_1 rfl cf_91_3 (v := 1) (by first | exact hth | ((repeat (first | rw [zup_ne (by first | decide | omega)] | rw [zup_nj (by first | decide | omega)] | rw [fil_ne (by first | decide | omega)])) <;> exact hth) | (simp [up_rd, fil_rd]; exact hth)) ?_
  refine r_if1 zi_13_4 rfl (fun _ => ?_) (fun c => absurd c (by decide))
  refine r_ret zi_13_17 rfl ?_
  exact ⟨rfl, h σ Fx.rf hV rfl⟩

theorem s_carryT {d n N s w a c : Nat} {σ : zS} {Q : zS → Prop} {V : zS} {Wd Fr' Wh To O A : Nat → Nat} {B : Nat → Int32} (hV : zVk σ 75 true V) (hg : zVg V n) (hd : zKd σ N Wd Fr' Wh To O A B) (hth : σ 91 3 = 1) (hc : σ 91 4 = nI c) (hs : s < n) (hw : w ≤ 4) (ha : a < 12) (h : ∀ τ, Fx 91 [75, 76, 77, 78, 79, 80, 81, 82, 83, 84, 85, 86, 93, 94] [4] σ τ → zVk τ 75 true (dW true 0 (nI s) (nI w) (dDn (zTl N Wd Fr' Wh To O A) B n V s w a)) → τ 91 4 = nI (c + 1) → Q τ) : zV1 (d + 3) 8 [.ref 91, .int (nI s), .int (nI w), .int (nI a)] σ Q := by
  obtain ⟨gn, gn18, gat, gal, gst, gtd, gbf, ⟨wr, gw, gw2⟩⟩ := hg
  obtain ⟨p, hp, hpV⟩ := gat s hs
  obtain ⟨d1, d2, d3, d4, d5⟩ := id hd
  have hup : un (V 3 s) = p := by rw [hpV]; exact un_nI (by omega)
  have hat : σ (75 + 1 + 3) s = nI p := (hV.1 3 (by decide) s).trans hpV
  have hsub : σ 75 11 = nI n := (hV.2.1 11 (by decide) (by decide)).trans gn
  have lp : nI p < 12 := nI_lt (b := 12) hp (by omega)
  have lp0 := nI_pos' (n := p) (by omega)
  have htell : ∀ (Q2 : Int32 → zS → Prop), (∀ τ, Fr [92 + 1, 92 + 2] σ τ → Q2 (zTl N Wd Fr' Wh To O A 1 (zFv V n true s p (nI w))) τ) → zI1 (d + 2) 24 [.ref 92, .int (nI (10000 + 1)), .int (nI s), .int (nI p), .int (nI w)] σ Q2 := fun Q2 hq => s_tells (sb := true) zLa92 zDu_75 (by decide) hsub gn18 (Or.inl ⟨rfl, hs, rfl⟩) hp d1 d2 (by omega) (fun τ hF => by rw [zfk_v hV]; exact hq τ hF)
  have hVt : ∀ τ, Fr [92 + 1, 92 + 2] σ τ → zVk τ 75 true V := fun τ hF => zVk_o (Or.inr rfl) hV hF (by simp)
  have h5 : w = 0 ∨ w = 1 ∨ w = 2 ∨ w = 3 ∨ w = 4 := by omega
  have hwr : ∀ (U : zS), U 11 19 = V 11 19 → U 11 19 = nI wr := fun U e => e.trans gw2
  have htow : ∀ (υ : zS) (Q2 : Int32 → zS → Prop), υ 28 = σ 28 → υ 29 = σ 29 → Q2 (nI (ztw B p a)) υ → zI1 (d + 2) 119 [.ref 27, .int (nI p), .int (nI a)] υ Q2 := fun υ Q2 e8 e9 hq => s_toward (k := 27) zWa27 (fun x y hx hy => by
    show υ 29 _ = zdV (υ 28) x y
    rw [e8, e9]; exact d5 x y hx hy) (by show zBok (υ 28); rw [e8, d3]; exact d4) hp ha (by show Q2 (nI (ztw (υ 28) p a)) υ; rw [e8, d3]; exact hq)
  show zk _ _ 0 [.ref 91, .int (nI s), .int (nI w), .int (nI a), zun, zun] [] _ _
  unfold dDn at h
  rw [hup] at h
  generalize zTl N Wd Fr' Wh To O A 1 (zFv V n true s p (nI w)) = M at htell h
  rcases h5 with e | e | e | e | e <;> subst e
  · rw [if_pos rfl] at h
    refine r_al0 zi_8_0 rfl ?_
    refine q_getR zi_8_1 rfl cf_91_1 ?_
    refine q_getR zi_8_4 rfl cf_75_3 ?_
    refine r_il1 zi_8_7 rfl ?_
    refine r_alde zi_8_8 rfl s ca_79 (by first | rfl | (simp only [zI_add, zI_mul] <;> rfl)) (by first | omega | decide) (u := nI p) (by first | exact hat | ((repeat (first | rw [zup_ne (by first | decide | omega)] | rw [zup_nj (by first | decide | omega)] | rw [fil_ne (by first | decide | omega)])) <;> exact hat) | (simp [up_rd, fil_rd]; exact hat)) ?_
    refine r_is4 zi_8_9 rfl ?_
    refine r_al0 zi_8_11 rfl ?_
    refine q_getR zi_8_12 rfl cf_91_2 ?_
    refine r_push zi_8_15 rfl ?_
    refine r_il1 zi_8_18 rfl ?_
    refine r_il4 zi_8_19 rfl ?_
    refine r_il2 zi_8_21 rfl ?_
    refine q_cIV zi_8_22 rfl rfl rfl rfl rfl rfl rfl cf_92_0.ob (htell _ (fun τ hF => ?_))
    show zk _ _ 25 _ _ _ _
    refine r_is5 zi_8_25 rfl ?_
    refine r_al0 zi_8_27 rfl ?_
    refine q_getR zi_8_28 rfl cf_91_1 ?_
    refine q_getR zi_8_31 rfl cf_75_7 ?_
    refine r_il1 zi_8_34 rfl ?_
    refine r_dup2 zi_8_35 rfl ?_
    refine r_alde zi_8_36 rfl s ca_83 (by first | rfl | (simp only [zI_add, zI_mul] <;> rfl)) (by first | omega | decide) (u := V 7 s) (by first | exact ((hVt τ hF).1 7 (by decide) s) | ((repeat (first | rw [zup_ne (by first | decide | omega)] | rw [zup_nj (by first | decide | omega)] | rw [fil_ne (by first | decide | omega)])) <;> exact ((hVt τ hF).1 7 (by decide) s)) | (simp [up_rd, fil_rd]; exact ((hVt τ hF).1 7 (by decide) s))) ?_
    refine r_push zi_8_37 rfl ?_
    refine r_b0 zi_8_38 rfl ?_
    refine r_ast zi_8_39 rfl s ca_83 (by first | rfl | (simp only [zI_add, zI_mul] <;> rfl)) (by first | omega | decide) ?_
    refine r_al0 zi_8_40 rfl ?_
    refine q_getR zi_8_41 rfl cf_91_1 ?_
    refine q_getR zi_8_44 rfl cf_75_5 ?_
    refine r_il1 zi_8_47 rfl ?_
    refine r_il2 zi_8_48 rfl ?_
    refine r_push zi_8_49 rfl ?_
    refine r_ic1 zi_8_50 rfl (fun _ => ?_) (fun c => absurd c (by decide))
    refine r_push zi_8_72 rfl ?_
    refine r_al0 zi_8_74 rfl ?_
    refine q_getR zi_8_75 rfl cf_91_1 ?_
    refine q_getR zi_8_78 rfl cf_75_5 ?_
    refine r_il1 zi_8_81 rfl ?_
    refine r_alde zi_8_82 rfl s ca_81 (by first | rfl | (simp only [zI_add, zI_mul] <;> rfl)) (by first | omega | decide) (u := V 5 s) (by first | exact ((hVt τ hF).1 5 (by decide) s) | ((repeat (first | rw [zup_ne (by first | decide | omega)] | rw [zup_nj (by first | decide | omega)] | rw [fil_ne (by first | decide | omega)])) <;> exact ((hVt τ hF).1 5 (by decide) s)) | (simp [up_rd, fil_rd]; exact ((hVt τ hF).1 5 (by decide) s))) ?_
    refine r_il5 zi_8_83 rfl ?_
    refine r_b0 zi_8_85 rfl ?_
    refine r_min zi_8_86 rfl ?_
    refine r_ast zi_8_89 rfl s ca_81 (by first | rfl | (simp only [zI_add, zI_mul] <;> rfl)) (by first | omega | decide) ?_
    refine r_il2 zi_8_90 rfl ?_
    refine r_if1 zi_8_91 rfl (fun c => absurd (by decide) c) (fun _ => ?_)
    refine r_al0 zi_8_94 rfl ?_
    refine q_getR zi_8_95 rfl cf_91_1 ?_
    refine q_getR zi_8_98 rfl cf_75_3 ?_
    refine r_il1 zi_8_101 rfl ?_
    refine r_al0 zi_8_102 rfl ?_
    refine q_getR zi_8_103 rfl cf_91_0 ?_
    refine q_getR zi_8_106 rfl cf_1_6 ?_
    refine r_il4 zi_8_109 rfl ?_
    refine r_il3 zi_8_111 rfl ?_
    refine q_cIV zi_8_112 rfl rfl rfl rfl rfl rfl rfl cf_27_0.ob (htow _ _ (by funext b; (repeat rw [zup_ne (by decide)]); exact hF 28 (by decide) b) (by funext b; (repeat rw [zup_ne (by decide)]); exact hF 29 (by decide) b) ?_)
    show zk _ _ 115 _ _ _ _
    refine r_ast zi_8_115 rfl s ca_79 (by first | rfl | (simp only [zI_add, zI_mul] <;> rfl)) (by first | omega | decide) ?_
    refine r_goto zi_8_116 rfl ?_
    refine r_al0 zi_8_201 rfl ?_
    refine r_push zi_8_202 rfl ?_
    refine r_il1 zi_8_203 rfl ?_
    refine r_il2 zi_8_204 rfl ?_
    refine q_cVV zi_8_205 rfl rfl rfl rfl rfl rfl rfl cf_91_0.ob (s_writeT (zVk_a (j := 3) (Or.inr rfl) (zVk_a (j := 5) (Or.inr rfl) (zVk_a (j := 7) (Or.inr rfl) (hVt τ hF) (by decide)) (by decide)) (by decide)) (by (repeat rw [zup_ne (by decide)]); exact (hF 91 (by decide) 3).trans hth) (hwr _ (by simp [up_rd])) gw (fun τ3 hF3 hV3 f4 => ?_))
    show zk _ _ 208 _ _ _ _
    refine r_al0 zi_8_208 rfl ?_
    refine r_dupR zi_8_209 rfl ?_
    refine q_getIe zi_8_210 rfl cf_91_4 (v := nI c) (by rw [f4]; (repeat rw [zup_ne (by decide)]); exact (hF 91 (by decide) 4).trans hc) ?_
    refine r_push zi_8_213 rfl ?_
    refine r_b0 zi_8_214 rfl ?_
    rw [show (nI c + 1 : Int32) = nI (c + 1) from nI_add _ _]
    refine q_put zi_8_215 rfl cf_91_4 rfl ?_
    refine r_ret zi_8_218 rfl ?_
    exact ⟨rfl, h _ ((((((Fx.of (c := 91) (l := [75, 76, 77, 78, 79, 80, 81, 82, 83, 84, 85, 86, 93, 94]) (fs := [4]) hF (by simp)).put (by decide)).put (by decide)).put (by decide)).tr hF3).pf (by decide)) (zVk_o (Or.inr rfl) hV3 ((Fr.rf (l := [91])).put (by simp)) (by simp)) zup_eq⟩
  · rw [if_neg (by decide), if_pos rfl] at h
    refine r_al0 zi_8_0 rfl ?_
    refine q_getR zi_8_1 rfl cf_91_1 ?_
    refine q_getR zi_8_4 rfl cf_75_3 ?_
    refine r_il1 zi_8_7 rfl ?_
    refine r_alde zi_8_8 rfl s ca_79 (by first | rfl | (simp only [zI_add, zI_mul] <;> rfl)) (by first | omega | decide) (u := nI p) (by first | exact hat | ((repeat (first | rw [zup_ne (by first | decide | omega)] | rw [zup_nj (by first | decide | omega)] | rw [fil_ne (by first | decide | omega)])) <;> exact hat) | (simp [up_rd, fil_rd]; exact hat)) ?_
    refine r_is4 zi_8_9 rfl ?_
    refine r_al0 zi_8_11 rfl ?_
    refine q_getR zi_8_12 rfl cf_91_2 ?_
    refine r_push zi_8_15 rfl ?_
    refine r_il1 zi_8_18 rfl ?_
    refine r_il4 zi_8_19 rfl ?_
    refine r_il2 zi_8_21 rfl ?_
    refine q_cIV zi_8_22 rfl rfl rfl rfl rfl rfl rfl cf_92_0.ob (htell _ (fun τ hF => ?_))
    show zk _ _ 25 _ _ _ _
    refine r_is5 zi_8_25 rfl ?_
    refine r_al0 zi_8_27 rfl ?_
    refine q_getR zi_8_28 rfl cf_91_1 ?_
    refine q_getR zi_8_31 rfl cf_75_7 ?_
    refine r_il1 zi_8_34 rfl ?_
    refine r_dup2 zi_8_35 rfl ?_
    refine r_alde zi_8_36 rfl s ca_83 (by first | rfl | (simp only [zI_add, zI_mul] <;> rfl)) (by first | omega | decide) (u := V 7 s) (by first | exact ((hVt τ hF).1 7 (by decide) s) | ((repeat (first | rw [zup_ne (by first | decide | omega)] | rw [zup_nj (by first | decide | omega)] | rw [fil_ne (by first | decide | omega)])) <;> exact ((hVt τ hF).1 7 (by decide) s)) | (simp [up_rd, fil_rd]; exact ((hVt τ hF).1 7 (by decide) s))) ?_
    refine r_push zi_8_37 rfl ?_
    refine r_b0 zi_8_38 rfl ?_
    refine r_ast zi_8_39 rfl s ca_83 (by first | rfl | (simp only [zI_add, zI_mul] <;> rfl)) (by first | omega | decide) ?_
    refine r_al0 zi_8_40 rfl ?_
    refine q_getR zi_8_41 rfl cf_91_1 ?_
    refine q_getR zi_8_44 rfl cf_75_5 ?_
    refine r_il1 zi_8_47 rfl ?_
    refine r_il2 zi_8_48 rfl ?_
    refine r_push zi_8_49 rfl ?_
    refine r_ic1 zi_8_50 rfl (fun c => absurd (by decide) c) (fun _ => ?_)
    refine r_push zi_8_53 rfl ?_
    refine r_al0 zi_8_54 rfl ?_
    refine q_getR zi_8_55 rfl cf_91_1 ?_
    refine q_getR zi_8_58 rfl cf_75_5 ?_
    refine r_il1 zi_8_61 rfl ?_
    refine r_alde zi_8_62 rfl s ca_81 (by first | rfl | (simp only [zI_add, zI_mul] <;> rfl)) (by first | omega | decide) (u := V 5 s) (by first | exact ((hVt τ hF).1 5 (by decide) s) | ((repeat (first | rw [zup_ne (by first | decide | omega)] | rw [zup_nj (by first | decide | omega)] | rw [fil_ne (by first | decide | omega)])) <;> exact ((hVt τ hF).1 5 (by decide) s)) | (simp [up_rd, fil_rd]; exact ((hVt τ hF).1 5 (by decide) s))) ?_
    refine r_push zi_8_63 rfl ?_
    refine r_b1 zi_8_65 rfl ?_
    refine r_max zi_8_66 rfl ?_
    rw [zmx0_k]
    refine r_goto zi_8_69 rfl ?_
    refine r_ast zi_8_89 rfl s ca_81 (by first | rfl | (simp only [zI_add, zI_mul] <;> rfl)) (by first | omega | decide) ?_
    refine r_il2 zi_8_90 rfl ?_
    refine r_if1 zi_8_91 rfl (fun _ => ?_) (fun c => absurd c (by decide))
    refine r_il2 zi_8_119 rfl ?_
    refine r_push zi_8_120 rfl ?_
    refine r_ic1 zi_8_121 rfl (fun _ => ?_) (fun c => absurd c (by decide))
    refine r_il2 zi_8_162 rfl ?_
    refine r_push zi_8_163 rfl ?_
    refine r_ic1 zi_8_164 rfl (fun _ => ?_) (fun c => absurd c (by decide))
    refine r_al0 zi_8_201 rfl ?_
    refine r_push zi_8_202 rfl ?_
    refine r_il1 zi_8_203 rfl ?_
    refine r_il2 zi_8_204 rfl ?_
    refine q_cVV zi_8_205 rfl rfl rfl rfl rfl rfl rfl cf_91_0.ob (s_writeT (zVk_a (j := 5) (Or.inr rfl) (zVk_a (j := 7) (Or.inr rfl) (hVt τ hF) (by decide)) (by decide)) (by (repeat rw [zup_ne (by decide)]); exact (hF 91 (by decide) 3).trans hth) (hwr _ (by simp [up_rd])) gw (fun τ3 hF3 hV3 f4 => ?_))
    show zk _ _ 208 _ _ _ _
    refine r_al0 zi_8_208 rfl ?_
    refine r_dupR zi_8_209 rfl ?_
    refine q_getIe zi_8_210 rfl cf_91_4 (v := nI c) (by rw [f4]; (repeat rw [zup_ne (by decide)]); exact (hF 91 (by decide) 4).trans hc) ?_
    refine r_push zi_8_213 rfl ?_
    refine r_b0 zi_8_214 rfl ?_
    rw [show (nI c + 1 : Int32) = nI (c + 1) from nI_add _ _]
    refine q_put zi_8_215 rfl cf_91_4 rfl ?_
    refine r_ret zi_8_218 rfl ?_
    exact ⟨rfl, h _ (((((Fx.of (c := 91) (l := [75, 76, 77, 78, 79, 80, 81, 82, 83, 84, 85, 86, 93, 94]) (fs := [4]) hF (by simp)).put (by decide)).put (by decide)).tr hF3).pf (by decide)) (zVk_o (Or.inr rfl) hV3 ((Fr.rf (l := [91])).put (by simp)) (by simp)) zup_eq⟩
  · rw [if_neg (by decide), if_neg (by decide), if_pos rfl] at h
    refine r_al0 zi_8_0 rfl ?_
    refine q_getR zi_8_1 rfl cf_91_1 ?_
    refine q_getR zi_8_4 rfl cf_75_3 ?_
    refine r_il1 zi_8_7 rfl ?_
    refine r_alde zi_8_8 rfl s ca_79 (by first | rfl | (simp only [zI_add, zI_mul] <;> rfl)) (by first | omega | decide) (u := nI p) (by first | exact hat | ((repeat (first | rw [zup_ne (by first | decide | omega)] | rw [zup_nj (by first | decide | omega)] | rw [fil_ne (by first | decide | omega)])) <;> exact hat) | (simp [up_rd, fil_rd]; exact hat)) ?_
    refine r_is4 zi_8_9 rfl ?_
    refine r_al0 zi_8_11 rfl ?_
    refine q_getR zi_8_12 rfl cf_91_2 ?_
    refine r_push zi_8_15 rfl ?_
    refine r_il1 zi_8_18 rfl ?_
    refine r_il4 zi_8_19 rfl ?_
    refine r_il2 zi_8_21 rfl ?_
    refine q_cIV zi_8_22 rfl rfl rfl rfl rfl rfl rfl cf_92_0.ob (htell _ (fun τ hF => ?_))
    show zk _ _ 25 _ _ _ _
    refine r_is5 zi_8_25 rfl ?_
    refine r_al0 zi_8_27 rfl ?_
    refine q_getR zi_8_28 rfl cf_91_1 ?_
    refine q_getR zi_8_31 rfl cf_75_7 ?_
    refine r_il1 zi_8_34 rfl ?_
    refine r_dup2 zi_8_35 rfl ?_
    refine r_alde zi_8_36 rfl s ca_83 (by first | rfl | (simp only [zI_add, zI_mul] <;> rfl)) (by first | omega | decide) (u := V 7 s) (by first | exact ((hVt τ hF).1 7 (by decide) s) | ((repeat (first | rw [zup_ne (by first | decide | omega)] | rw [zup_nj (by first | decide | omega)] | rw [fil_ne (by first | decide | omega)])) <;> exact ((hVt τ hF).1 7 (by decide) s)) | (simp [up_rd, fil_rd]; exact ((hVt τ hF).1 7 (by decide) s))) ?_
    refine r_push zi_8_37 rfl ?_
    refine r_b0 zi_8_38 rfl ?_
    refine r_ast zi_8_39 rfl s ca_83 (by first | rfl | (simp only [zI_add, zI_mul] <;> rfl)) (by first | omega | decide) ?_
    refine r_al0 zi_8_40 rfl ?_
    refine q_getR zi_8_41 rfl cf_91_1 ?_
    refine q_getR zi_8_44 rfl cf_75_5 ?_
    refine r_il1 zi_8_47 rfl ?_
    refine r_il2 zi_8_48 rfl ?_
    refine r_push zi_8_49 rfl ?_
    refine r_ic1 zi_8_50 rfl (fun _ => ?_) (fun c => absurd c (by decide))
    refine r_push zi_8_72 rfl ?_
    refine r_al0 zi_8_74 rfl ?_
    refine q_getR zi_8_75 rfl cf_91_1 ?_
    refine q_getR zi_8_78 rfl cf_75_5 ?_
    refine r_il1 zi_8_81 rfl ?_
    refine r_alde zi_8_82 rfl s ca_81 (by first | rfl | (simp only [zI_add, zI_mul] <;> rfl)) (by first | omega | decide) (u := V 5 s) (by first | exact ((hVt τ hF).1 5 (by decide) s) | ((repeat (first | rw [zup_ne (by first | decide | omega)] | rw [zup_nj (by first | decide | omega)] | rw [fil_ne (by first | decide | omega)])) <;> exact ((hVt τ hF).1 5 (by decide) s)) | (simp [up_rd, fil_rd]; exact ((hVt τ hF).1 5 (by decide) s))) ?_
    refine r_il5 zi_8_83 rfl ?_
    refine r_b0 zi_8_85 rfl ?_
    refine r_min zi_8_86 rfl ?_
    refine r_ast zi_8_89 rfl s ca_81 (by first | rfl | (simp only [zI_add, zI_mul] <;> rfl)) (by first | omega | decide) ?_
    refine r_il2 zi_8_90 rfl ?_
    refine r_if1 zi_8_91 rfl (fun _ => ?_) (fun c => absurd c (by decide))
    refine r_il2 zi_8_119 rfl ?_
    refine r_push zi_8_120 rfl ?_
    refine r_ic1 zi_8_121 rfl (fun c => absurd (by decide) c) (fun _ => ?_)
    refine r_il4 zi_8_124 rfl ?_
    refine r_cIS zi_8_126 rfl rfl rfl rfl rfl rfl (s_kplace (fun _ _ => ?_) (fun z => absurd ⟨lp0, lp⟩ z))
    show zk _ _ 129 _ _ _ _
    refine r_if0 zi_8_129 rfl (fun c => absurd c (by decide)) (fun _ => ?_)
    refine r_al0 zi_8_132 rfl ?_
    refine q_getR zi_8_133 rfl cf_91_1 ?_
    refine q_getR zi_8_136 rfl cf_75_2 ?_
    refine r_il4 zi_8_139 rfl ?_
    refine r_push zi_8_141 rfl ?_
    refine r_al0 zi_8_143 rfl ?_
    refine q_getR zi_8_144 rfl cf_91_1 ?_
    refine q_getR zi_8_147 rfl cf_75_2 ?_
    refine r_il4 zi_8_150 rfl ?_
    refine r_alde zi_8_152 rfl p ca_78 (by first | rfl | (simp only [zI_add, zI_mul] <;> rfl)) (by first | omega | decide) (u := V 2 p) (by first | exact ((hVt τ hF).1 2 (by decide) p) | ((repeat (first | rw [zup_ne (by first | decide | omega)] | rw [zup_nj (by first | decide | omega)] | rw [fil_ne (by first | decide | omega)])) <;> exact ((hVt τ hF).1 2 (by decide) p)) | (simp [up_rd, fil_rd]; exact ((hVt τ hF).1 2 (by decide) p))) ?_
    refine r_push zi_8_153 rfl ?_
    refine r_b0 zi_8_154 rfl ?_
    refine r_min zi_8_155 rfl ?_
    refine r_ast zi_8_158 rfl p ca_78 (by first | rfl | (simp only [zI_add, zI_mul] <;> rfl)) (by first | omega | decide) ?_
    refine r_goto zi_8_159 rfl ?_
    refine r_al0 zi_8_201 rfl ?_
    refine r_push zi_8_202 rfl ?_
    refine r_il1 zi_8_203 rfl ?_
    refine r_il2 zi_8_204 rfl ?_
    refine q_cVV zi_8_205 rfl rfl rfl rfl rfl rfl rfl cf_91_0.ob (s_writeT (zVk_a (j := 2) (Or.inr rfl) (zVk_a (j := 5) (Or.inr rfl) (zVk_a (j := 7) (Or.inr rfl) (hVt τ hF) (by decide)) (by decide)) (by decide)) (by (repeat rw [zup_ne (by decide)]); exact (hF 91 (by decide) 3).trans hth) (hwr _ (by simp [up_rd])) gw (fun τ3 hF3 hV3 f4 => ?_))
    show zk _ _ 208 _ _ _ _
    refine r_al0 zi_8_208 rfl ?_
    refine r_dupR zi_8_209 rfl ?_
    refine q_getIe zi_8_210 rfl cf_91_4 (v := nI c) (by rw [f4]; (repeat rw [zup_ne (by decide)]); exact (hF 91 (by decide) 4).trans hc) ?_
    refine r_push zi_8_213 rfl ?_
    refine r_b0 zi_8_214 rfl ?_
    rw [show (nI c + 1 : Int32) = nI (c + 1) from nI_add _ _]
    refine q_put zi_8_215 rfl cf_91_4 rfl ?_
    refine r_ret zi_8_218 rfl ?_
    exact ⟨rfl, h _ ((((((Fx.of (c := 91) (l := [75, 76, 77, 78, 79, 80, 81, 82, 83, 84, 85, 86, 93, 94]) (fs := [4]) hF (by simp)).put (by decide)).put (by decide)).put (by decide)).tr hF3).pf (by decide)) (zVk_o (Or.inr rfl) hV3 ((Fr.rf (l := [91])).put (by simp)) (by simp)) zup_eq⟩
  · rw [if_neg (by decide), if_neg (by decide), if_neg (by decide), if_pos rfl] at h
    refine r_al0 zi_8_0 rfl ?_
    refine q_getR zi_8_1 rfl cf_91_1 ?_
    refine q_getR zi_8_4 rfl cf_75_3 ?_
    refine r_il1 zi_8_7 rfl ?_
    refine r_alde zi_8_8 rfl s ca_79 (by first | rfl | (simp only [zI_add, zI_mul] <;> rfl)) (by first | omega | decide) (u := nI p) (by first | exact hat | ((repeat (first | rw [zup_ne (by first | decide | omega)] | rw [zup_nj (by first | decide | omega)] | rw [fil_ne (by first | decide | omega)])) <;> exact hat) | (simp [up_rd, fil_rd]; exact hat)) ?_
    refine r_is4 zi_8_9 rfl ?_
    refine r_al0 zi_8_11 rfl ?_
    refine q_getR zi_8_12 rfl cf_91_2 ?_
    refine r_push zi_8_15 rfl ?_
    refine r_il1 zi_8_18 rfl ?_
    refine r_il4 zi_8_19 rfl ?_
    refine r_il2 zi_8_21 rfl ?_
    refine q_cIV zi_8_22 rfl rfl rfl rfl rfl rfl rfl cf_92_0.ob (htell _ (fun τ hF => ?_))
    show zk _ _ 25 _ _ _ _
    refine r_is5 zi_8_25 rfl ?_
    refine r_al0 zi_8_27 rfl ?_
    refine q_getR zi_8_28 rfl cf_91_1 ?_
    refine q_getR zi_8_31 rfl cf_75_7 ?_
    refine r_il1 zi_8_34 rfl ?_
    refine r_dup2 zi_8_35 rfl ?_
    refine r_alde zi_8_36 rfl s ca_83 (by first | rfl | (simp only [zI_add, zI_mul] <;> rfl)) (by first | omega | decide) (u := V 7 s) (by first | exact ((hVt τ hF).1 7 (by decide) s) | ((repeat (first | rw [zup_ne (by first | decide | omega)] | rw [zup_nj (by first | decide | omega)] | rw [fil_ne (by first | decide | omega)])) <;> exact ((hVt τ hF).1 7 (by decide) s)) | (simp [up_rd, fil_rd]; exact ((hVt τ hF).1 7 (by decide) s))) ?_
    refine r_push zi_8_37 rfl ?_
    refine r_b0 zi_8_38 rfl ?_
    refine r_ast zi_8_39 rfl s ca_83 (by first | rfl | (simp only [zI_add, zI_mul] <;> rfl)) (by first | omega | decide) ?_
    refine r_al0 zi_8_40 rfl ?_
    refine q_getR zi_8_41 rfl cf_91_1 ?_
    refine q_getR zi_8_44 rfl cf_75_5 ?_
    refine r_il1 zi_8_47 rfl ?_
    refine r_il2 zi_8_48 rfl ?_
    refine r_push zi_8_49 rfl ?_
    refine r_ic1 zi_8_50 rfl (fun _ => ?_) (fun c => absurd c (by decide))
    refine r_push zi_8_72 rfl ?_
    refine r_al0 zi_8_74 rfl ?_
    refine q_getR zi_8_75 rfl cf_91_1 ?_
    refine q_getR zi_8_78 rfl cf_75_5 ?_
    refine r_il1 zi_8_81 rfl ?_
    refine r_alde zi_8_82 rfl s ca_81 (by first | rfl | (simp only [zI_add, zI_mul] <;> rfl)) (by first | omega | decide) (u := V 5 s) (by first | exact ((hVt τ hF).1 5 (by decide) s) | ((repeat (first | rw [zup_ne (by first | decide | omega)] | rw [zup_nj (by first | decide | omega)] | rw [fil_ne (by first | decide | omega)])) <;> exact ((hVt τ hF).1 5 (by decide) s)) | (simp [up_rd, fil_rd]; exact ((hVt τ hF).1 5 (by decide) s))) ?_
    refine r_il5 zi_8_83 rfl ?_
    refine r_b0 zi_8_85 rfl ?_
    refine r_min zi_8_86 rfl ?_
    refine r_ast zi_8_89 rfl s ca_81 (by first | rfl | (simp only [zI_add, zI_mul] <;> rfl)) (by first | omega | decide) ?_
    refine r_il2 zi_8_90 rfl ?_
    refine r_if1 zi_8_91 rfl (fun _ => ?_) (fun c => absurd c (by decide))
    refine r_il2 zi_8_119 rfl ?_
    refine r_push zi_8_120 rfl ?_
    refine r_ic1 zi_8_121 rfl (fun _ => ?_) (fun c => absurd c (by decide))
    refine r_il2 zi_8_162 rfl ?_
    refine r_push zi_8_163 rfl ?_
    refine r_ic1 zi_8_164 rfl (fun c => absurd (by decide) c) (fun _ => ?_)
    refine r_il4 zi_8_167 rfl ?_
    refine r_cIS zi_8_169 rfl rfl rfl rfl rfl rfl (s_kplace (fun _ _ => ?_) (fun z => absurd ⟨lp0, lp⟩ z))
    show zk _ _ 172 _ _ _ _
    refine r_if0 zi_8_172 rfl (fun c => absurd c (by decide)) (fun _ => ?_)
    refine r_al0 zi_8_175 rfl ?_
    refine q_getR zi_8_176 rfl cf_91_1 ?_
    refine q_getR zi_8_179 rfl cf_75_1 ?_
    refine r_il4 zi_8_182 rfl ?_
    refine r_push zi_8_184 rfl ?_
    refine r_al0 zi_8_185 rfl ?_
    refine q_getR zi_8_186 rfl cf_91_1 ?_
    refine q_getR zi_8_189 rfl cf_75_1 ?_
    refine r_il4 zi_8_192 rfl ?_
    refine r_alde zi_8_194 rfl p ca_77 (by first | rfl | (simp only [zI_add, zI_mul] <;> rfl)) (by first | omega | decide) (u := V 1 p) (by first | exact ((hVt τ hF).1 1 (by decide) p) | ((repeat (first | rw [zup_ne (by first | decide | omega)] | rw [zup_nj (by first | decide | omega)] | rw [fil_ne (by first | decide | omega)])) <;> exact ((hVt τ hF).1 1 (by decide) p)) | (simp [up_rd, fil_rd]; exact ((hVt τ hF).1 1 (by decide) p))) ?_
    refine r_push zi_8_195 rfl ?_
    refine r_b1 zi_8_196 rfl ?_
    refine r_max zi_8_197 rfl ?_
    rw [zmx0_k]
    refine r_ast zi_8_200 rfl p ca_77 (by first | rfl | (simp only [zI_add, zI_mul] <;> rfl)) (by first | omega | decide) ?_
    refine r_al0 zi_8_201 rfl ?_
    refine r_push zi_8_202 rfl ?_
    refine r_il1 zi_8_203 rfl ?_
    refine r_il2 zi_8_204 rfl ?_
    refine q_cVV zi_8_205 rfl rfl rfl rfl rfl rfl rfl cf_91_0.ob (s_writeT (zVk_a (j := 1) (Or.inr rfl) (zVk_a (j := 5) (Or.inr rfl) (zVk_a (j := 7) (Or.inr rfl) (hVt τ hF) (by decide)) (by decide)) (by decide)) (by (repeat rw [zup_ne (by decide)]); exact (hF 91 (by decide) 3).trans hth) (hwr _ (by simp [up_rd])) gw (fun τ3 hF3 hV3 f4 => ?_))
    show zk _ _ 208 _ _ _ _
    refine r_al0 zi_8_208 rfl ?_
    refine r_dupR zi_8_209 rfl ?_
    refine q_getIe zi_8_210 rfl cf_91_4 (v := nI c) (by rw [f4]; (repeat rw [zup_ne (by decide)]); exact (hF 91 (by decide) 4).trans hc) ?_
    refine r_push zi_8_213 rfl ?_
    refine r_b0 zi_8_214 rfl ?_
    rw [show (nI c + 1 : Int32) = nI (c + 1) from nI_add _ _]
    refine q_put zi_8_215 rfl cf_91_4 rfl ?_
    refine r_ret zi_8_218 rfl ?_
    exact ⟨rfl, h _ ((((((Fx.of (c := 91) (l := [75, 76, 77, 78, 79, 80, 81, 82, 83, 84, 85, 86, 93, 94]) (fs := [4]) hF (by simp)).put (by decide)).put (by decide)).put (by decide)).tr hF3).pf (by decide)) (zVk_o (Or.inr rfl) hV3 ((Fr.rf (l := [91])).put (by simp)) (by simp)) zup_eq⟩
  · rw [if_neg (by decide), if_neg (by decide), if_neg (by decide), if_neg (by decide)] at h
    refine r_al0 zi_8_0 rfl ?_
    refine q_getR zi_8_1 rfl cf_91_1 ?_
    refine q_getR zi_8_4 rfl cf_75_3 ?_
    refine r_il1 zi_8_7 rfl ?_
    refine r_alde zi_8_8 rfl s ca_79 (by first | rfl | (simp only [zI_add, zI_mul] <;> rfl)) (by first | omega | decide) (u := nI p) (by first | exact hat | ((repeat (first | rw [zup_ne (by first | decide | omega)] | rw [zup_nj (by first | decide | omega)] | rw [fil_ne (by first | decide | omega)])) <;> exact hat) | (simp [up_rd, fil_rd]; exact hat)) ?_
    refine r_is4 zi_8_9 rfl ?_
    refine r_al0 zi_8_11 rfl ?_
    refine q_getR zi_8_12 rfl cf_91_2 ?_
    refine r_push zi_8_15 rfl ?_
    refine r_il1 zi_8_18 rfl ?_
    refine r_il4 zi_8_19 rfl ?_
    refine r_il2 zi_8_21 rfl ?_
    refine q_cIV zi_8_22 rfl rfl rfl rfl rfl rfl rfl cf_92_0.ob (htell _ (fun τ hF => ?_))
    show zk _ _ 25 _ _ _ _
    refine r_is5 zi_8_25 rfl ?_
    refine r_al0 zi_8_27 rfl ?_
    refine q_getR zi_8_28 rfl cf_91_1 ?_
    refine q_getR zi_8_31 rfl cf_75_7 ?_
    refine r_il1 zi_8_34 rfl ?_
    refine r_dup2 zi_8_35 rfl ?_
    refine r_alde zi_8_36 rfl s ca_83 (by first | rfl | (simp only [zI_add, zI_mul] <;> rfl)) (by first | omega | decide) (u := V 7 s) (by first | exact ((hVt τ hF).1 7 (by decide) s) | ((repeat (first | rw [zup_ne (by first | decide | omega)] | rw [zup_nj (by first | decide | omega)] | rw [fil_ne (by first | decide | omega)])) <;> exact ((hVt τ hF).1 7 (by decide) s)) | (simp [up_rd, fil_rd]; exact ((hVt τ hF).1 7 (by decide) s))) ?_
    refine r_push zi_8_37 rfl ?_
    refine r_b0 zi_8_38 rfl ?_
    refine r_ast zi_8_39 rfl s ca_83 (by first | rfl | (simp only [zI_add, zI_mul] <;> rfl)) (by first | omega | decide) ?_
    refine r_al0 zi_8_40 rfl ?_
    refine q_getR zi_8_41 rfl cf_91_1 ?_
    refine q_getR zi_8_44 rfl cf_75_5 ?_
    refine r_il1 zi_8_47 rfl ?_
    refine r_il2 zi_8_48 rfl ?_
    refine r_push zi_8_49 rfl ?_
    refine r_ic1 zi_8_50 rfl (fun _ => ?_) (fun c => absurd c (by decide))
    refine r_push zi_8_72 rfl ?_
    refine r_al0 zi_8_74 rfl ?_
    refine q_getR zi_8_75 rfl cf_91_1 ?_
    refine q_getR zi_8_78 rfl cf_75_5 ?_
    refine r_il1 zi_8_81 rfl ?_
    refine r_alde zi_8_82 rfl s ca_81 (by first | rfl | (simp only [zI_add, zI_mul] <;> rfl)) (by first | omega | decide) (u := V 5 s) (by first | exact ((hVt τ hF).1 5 (by decide) s) | ((repeat (first | rw [zup_ne (by first | decide | omega)] | rw [zup_nj (by first | decide | omega)] | rw [fil_ne (by first | decide | omega)])) <;> exact ((hVt τ hF).1 5 (by decide) s)) | (simp [up_rd, fil_rd]; exact ((hVt τ hF).1 5 (by decide) s))) ?_
    refine r_il5 zi_8_83 rfl ?_
    refine r_b0 zi_8_85 rfl ?_
    refine r_min zi_8_86 rfl ?_
    refine r_ast zi_8_89 rfl s ca_81 (by first | rfl | (simp only [zI_add, zI_mul] <;> rfl)) (by first | omega | decide) ?_
    refine r_il2 zi_8_90 rfl ?_
    refine r_if1 zi_8_91 rfl (fun _ => ?_) (fun c => absurd c (by decide))
    refine r_il2 zi_8_119 rfl ?_
    refine r_push zi_8_120 rfl ?_
    refine r_ic1 zi_8_121 rfl (fun _ => ?_) (fun c => absurd c (by decide))
    refine r_il2 zi_8_162 rfl ?_
    refine r_push zi_8_163 rfl ?_
    refine r_ic1 zi_8_164 rfl (fun _ => ?_) (fun c => absurd c (by decide))
    refine r_al0 zi_8_201 rfl ?_
    refine r_push zi_8_202 rfl ?_
    refine r_il1 zi_8_203 rfl ?_
    refine r_il2 zi_8_204 rfl ?_
    refine q_cVV zi_8_205 rfl rfl rfl rfl rfl rfl rfl cf_91_0.ob (s_writeT (zVk_a (j := 5) (Or.inr rfl) (zVk_a (j := 7) (Or.inr rfl) (hVt τ hF) (by decide)) (by decide)) (by (repeat rw [zup_ne (by decide)]); exact (hF 91 (by decide) 3).trans hth) (hwr _ (by simp [up_rd])) gw (fun τ3 hF3 hV3 f4 => ?_))
    show zk _ _ 208 _ _ _ _
    refine r_al0 zi_8_208 rfl ?_
    refine r_dupR zi_8_209 rfl ?_
    refine q_getIe zi_8_210 rfl cf_91_4 (v := nI c) (by rw [f4]; (repeat rw [zup_ne (by decide)]); exact (hF 91 (by decide) 4).trans hc) ?_
    refine r_push zi_8_213 rfl ?_
    refine r_b0 zi_8_214 rfl ?_
    rw [show (nI c + 1 : Int32) = nI (c + 1) from nI_add _ _]
    refine q_put zi_8_215 rfl cf_91_4 rfl ?_
    refine r_ret zi_8_218 rfl ?_
    exact ⟨rfl, h _ (((((Fx.of (c := 91) (l := [75, 76, 77, 78, 79, 80, 81, 82, 83, 84, 85, 86, 93, 94]) (fs := [4]) hF (by simp)).put (by decide)).put (by decide)).tr hF3).pf (by decide)) (zVk_o (Or.inr rfl) hV3 ((Fr.rf (l := [91])).put (by simp)) (by simp)) zup_eq⟩

