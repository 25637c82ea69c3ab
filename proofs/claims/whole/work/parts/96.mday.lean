/-! MODEL: a day's leaves -/
theorem zCm_k {m r i : Nat} {v : Int32} (h : zCn m r i) (h6 : r ≠ 6) (h8 : r ≠ 8) : zCm m r i v v := ⟨h, fun _ _ => rfl, fun e => absurd e h6, fun e => absurd e h8⟩
theorem up_cm {σ : zS} {a b c d : Nat} {v w : Int32} (h : a ≠ c ∨ b ≠ d) : up (up σ a b v) c d w = up (up σ c d w) a b v := by
  funext x y
  rw [up_rd, up_rd, up_rd, up_rd]
  by_cases e1 : x = c ∧ y = d
  · rw [if_pos e1, if_neg (by omega), if_pos e1]
  · rw [if_neg e1, if_neg e1]
/-- the book's writing beside other cells -/
theorem dW_up {th : Bool} {wh who mu v : Int32} {V : zS} {r i : Nat} (h : r ≠ 12) (h2 : r = 11 → i ≠ 17 ∧ i ≠ 19) : dW th wh who mu (up V r i v) = up (dW th wh who mu V) r i v := by
  have e17 : up V r i v 11 17 = V 11 17 := by rw [up_rd, if_neg (by omega)]
  have e19 : up V r i v 11 19 = V 11 19 := by rw [up_rd, if_neg (by omega)]
  unfold dW
  rw [e17, e19]
  split
  · rfl
  · rw [up_cm (a := r) (b := i) (c := 12) (by omega), up_cm (a := r) (b := i) (c := 12) (by omega), up_cm (a := r) (b := i) (c := 12) (by omega), up_cm (a := r) (b := i) (c := 12) (by omega), up_cm (a := r) (b := i) (c := 11) (d := 19) (by omega)]
theorem dW_fv {th : Bool} {wh who mu : Int32} {V : zS} {n s p : Nat} {sb : Bool} {w : Int32} : zFv (dW th wh who mu V) n sb s p w = zFv V n sb s p w := by
  have e : ∀ r, r ≠ 12 → r ≠ 11 → dW th wh who mu V r = V r := fun r h1 h2 => dW_row h1 h2
  have e14 : dW th wh who mu V 11 14 = V 11 14 := dW_r (by decide) (by decide)
  have e17 : dW th wh who mu V 11 17 = V 11 17 := dW_r (by decide) (by decide)
  unfold zFv
  rw [e 4 (by decide) (by decide), e 5 (by decide) (by decide), e 1 (by decide) (by decide), e 2 (by decide) (by decide), e 0 (by decide) (by decide), e 6 (by decide) (by decide), e 3 (by decide) (by decide), e 7 (by decide) (by decide), e14, e17]
theorem dDn_dW {T : zTe} {B : Nat → Int32} {n s w a : Nat} {th : Bool} {wh who mu : Int32} {V : zS} : dDn T B n (dW th wh who mu V) s w a = dW th wh who mu (dDn T B n V s w a) := by
  have e : ∀ r, r ≠ 12 → r ≠ 11 → dW th wh who mu V r = V r := fun r h1 h2 => dW_row h1 h2
  unfold dDn
  rw [dW_fv, e 7 (by decide) (by decide), e 5 (by decide) (by decide), e 3 (by decide) (by decide), e 2 (by decide) (by decide), e 1 (by decide) (by decide)]
  split
  · rw [dW_up (by decide) (by omega), dW_up (by decide) (by omega), dW_up (by decide) (by omega)]
  · split
    · rw [dW_up (by decide) (by omega), dW_up (by decide) (by omega)]
    · split
      · rw [dW_up (by decide) (by omega), dW_up (by decide) (by omega), dW_up (by decide) (by omega)]
      · split
        · rw [dW_up (by decide) (by omega), dW_up (by decide) (by omega), dW_up (by decide) (by omega)]
        · rw [dW_up (by decide) (by omega), dW_up (by decide) (by omega)]
theorem s_mnotes {d n w N : Nat} {σ : zS} {Q : zS → Prop} {V : zS} {th : Bool} {wh who mu : Int32} {Wd Fr' Wh To O A : Nat → Nat} {B : Nat → Int32} (hM : zMd σ n th N Wd Fr' Wh To O A B) (hV : zVm σ V n th) (hw : V 11 19 = nI w) (hw150 : w ≤ 150) (h : ∀ τ, zFm th σ τ → zVm τ (dW th wh who mu V) n th → Q τ) : zV1 d 233 [.ref 195, .int wh, .int who, .int mu] σ Q := by
  have hwr : σ 196 2 = nI w := hV.1.2.2.1.trans hw
  have hd : σ 196 0 = V 11 17 := hV.1.1
  have hun : un (V 11 19) = w := by rw [hw]; exact un_nI (by omega)
  have h5 := hM.2.2.1
  show zk _ _ 0 [.ref 195, .int wh, .int who, .int mu, zun] [] _ _
  by_cases ht : th = true
  · have hW : dW th wh who mu V = V := by unfold dW; rw [if_pos (Or.inl ht)]
    rw [hW] at h
    rw [if_pos ht] at h5
    refine r_al0 zi_233_0 rfl ?_
    refine q_getIe zi_233_1 rfl cf_195_5 (v := 1) (by first | exact h5 | ((repeat (first | rw [zup_ne (by first | decide | omega)] | rw [zup_nj (by first | decide | omega)] | rw [fil_ne (by first | decide | omega)])) <;> exact h5) | (simp [up_rd, fil_rd]; exact h5)) ?_
    refine r_if1 zi_233_4 rfl (fun _ => ?_) (fun c => absurd c (by decide))
    refine r_ret zi_233_19 rfl ?_
    exact ⟨rfl, h _ zFm.rf hV⟩
  · rw [if_neg ht] at h5
    by_cases e : w = 150
    · have hW : dW th wh who mu V = V := by unfold dW; rw [if_pos (Or.inr (by rw [hw, e]; rfl))]
      rw [hW] at h
      refine r_al0 zi_233_0 rfl ?_
      refine q_getIe zi_233_1 rfl cf_195_5 (v := 0) (by first | exact h5 | ((repeat (first | rw [zup_ne (by first | decide | omega)] | rw [zup_nj (by first | decide | omega)] | rw [fil_ne (by first | decide | omega)])) <;> exact h5) | (simp [up_rd, fil_rd]; exact h5)) ?_
      refine r_if1 zi_233_4 rfl (fun c => absurd (by decide) c) (fun _ => ?_)
      refine r_al0 zi_233_7 rfl ?_
      refine q_getR zi_233_8 rfl cf_195_1 ?_
      refine r_push zi_233_11 rfl ?_
      refine r_alde zi_233_12 rfl 2 ca_196 rfl (by decide) (u := nI w) (by first | exact hwr | ((repeat (first | rw [zup_ne (by first | decide | omega)] | rw [zup_nj (by first | decide | omega)] | rw [fil_ne (by first | decide | omega)])) <;> exact hwr) | (simp [up_rd, fil_rd]; exact hwr)) ?_
      refine r_push zi_233_13 rfl ?_
      refine n_ic1 (i := w) (j := 150) zi_233_16 rfl (by omega) (by omega) (fun c => absurd c (by omega)) (fun _ => ?_)
      refine r_ret zi_233_19 rfl ?_
      exact ⟨rfl, h _ zFm.rf hV⟩
    · have hne : ¬ V 11 19 = 150 := fun z => e ((nI_eq (b := 150) (by omega) (by omega)).mp (by rw [← hw]; exact z))
      have hW : dW th wh who mu V = up (up (up (up (up V 12 (4 * w) (V 11 17)) 12 (4 * w + 1) wh) 12 (4 * w + 2) who) 12 (4 * w + 3) mu) 11 19 (V 11 19 + 1) := by
        unfold dW
        rw [if_neg (fun z => z.elim ht hne), hun, Nat.mul_comm w 4]
      rw [hW] at h
      refine r_al0 zi_233_0 rfl ?_
      refine q_getIe zi_233_1 rfl cf_195_5 (v := 0) (by first | exact h5 | ((repeat (first | rw [zup_ne (by first | decide | omega)] | rw [zup_nj (by first | decide | omega)] | rw [fil_ne (by first | decide | omega)])) <;> exact h5) | (simp [up_rd, fil_rd]; exact h5)) ?_
      refine r_if1 zi_233_4 rfl (fun c => absurd (by decide) c) (fun _ => ?_)
      refine r_al0 zi_233_7 rfl ?_
      refine q_getR zi_233_8 rfl cf_195_1 ?_
      refine r_push zi_233_11 rfl ?_
      refine r_alde zi_233_12 rfl 2 ca_196 rfl (by decide) (u := nI w) (by first | exact hwr | ((repeat (first | rw [zup_ne (by first | decide | omega)] | rw [zup_nj (by first | decide | omega)] | rw [fil_ne (by first | decide | omega)])) <;> exact hwr) | (simp [up_rd, fil_rd]; exact hwr)) ?_
      refine r_push zi_233_13 rfl ?_
      refine n_ic1 (i := w) (j := 150) zi_233_16 rfl (by omega) (by omega) (fun _ => ?_) (fun c => absurd c (by omega))
      refine r_push zi_233_20 rfl ?_
      refine r_al0 zi_233_21 rfl ?_
      refine q_getR zi_233_22 rfl cf_195_1 ?_
      refine r_push zi_233_25 rfl ?_
      refine r_alde zi_233_26 rfl 2 ca_196 rfl (by decide) (u := nI w) (by first | exact hwr | ((repeat (first | rw [zup_ne (by first | decide | omega)] | rw [zup_nj (by first | decide | omega)] | rw [fil_ne (by first | decide | omega)])) <;> exact hwr) | (simp [up_rd, fil_rd]; exact hwr)) ?_
      refine r_b2 zi_233_27 rfl ?_
      rw [show (4 * nI w : Int32) = nI (4 * w) from pk_mul _ _]
      refine r_is4 zi_233_28 rfl ?_
      refine r_al0 zi_233_30 rfl ?_
      refine q_getR zi_233_31 rfl cf_195_9 ?_
      refine r_il4 zi_233_34 rfl ?_
      refine r_al0 zi_233_36 rfl ?_
      refine q_getR zi_233_37 rfl cf_195_1 ?_
      refine r_push zi_233_40 rfl ?_
      refine r_alde zi_233_41 rfl 0 ca_196 rfl (by decide) (u := V 11 17) (by first | exact hd | ((repeat (first | rw [zup_ne (by first | decide | omega)] | rw [zup_nj (by first | decide | omega)] | rw [fil_ne (by first | decide | omega)])) <;> exact hd) | (simp [up_rd, fil_rd]; exact hd)) ?_
      refine r_ast zi_233_42 rfl (4 * w) ca_201 (by first | rfl | (simp only [zI_add, zI_mul] <;> rfl)) (by first | omega | decide) ?_
      refine r_al0 zi_233_43 rfl ?_
      refine q_getR zi_233_44 rfl cf_195_9 ?_
      refine r_il4 zi_233_47 rfl ?_
      refine r_push zi_233_49 rfl ?_
      refine r_b0 zi_233_50 rfl ?_
      rw [show (nI (4 * w) + 1 : Int32) = nI ((4 * w) + 1) from nI_add _ _]
      refine r_il1 zi_233_51 rfl ?_
      refine r_ast zi_233_52 rfl ((4 * w) + 1) ca_201 (by first | rfl | (simp only [zI_add, zI_mul] <;> rfl)) (by first | omega | decide) ?_
      refine r_al0 zi_233_53 rfl ?_
      refine q_getR zi_233_54 rfl cf_195_9 ?_
      refine r_il4 zi_233_57 rfl ?_
      refine r_push zi_233_59 rfl ?_
      refine r_b0 zi_233_60 rfl ?_
      rw [show (nI (4 * w) + 2 : Int32) = nI ((4 * w) + 2) from nI_add _ _]
      refine r_il2 zi_233_61 rfl ?_
      refine r_ast zi_233_62 rfl ((4 * w) + 2) ca_201 (by first | rfl | (simp only [zI_add, zI_mul] <;> rfl)) (by first | omega | decide) ?_
      refine r_al0 zi_233_63 rfl ?_
      refine q_getR zi_233_64 rfl cf_195_9 ?_
      refine r_il4 zi_233_67 rfl ?_
      refine r_push zi_233_69 rfl ?_
      refine r_b0 zi_233_70 rfl ?_
      rw [show (nI (4 * w) + 3 : Int32) = nI ((4 * w) + 3) from nI_add _ _]
      refine r_il3 zi_233_71 rfl ?_
      refine r_ast zi_233_72 rfl ((4 * w) + 3) ca_201 (by first | rfl | (simp only [zI_add, zI_mul] <;> rfl)) (by first | omega | decide) ?_
      refine r_al0 zi_233_73 rfl ?_
      refine q_getR zi_233_74 rfl cf_195_1 ?_
      refine r_push zi_233_77 rfl ?_
      refine r_al0 zi_233_78 rfl ?_
      refine q_getR zi_233_79 rfl cf_195_1 ?_
      refine r_push zi_233_82 rfl ?_
      refine r_alde zi_233_83 rfl 2 ca_196 rfl (by decide) (u := V 11 19) (by (repeat rw [zup_ne (by decide)]); exact hV.1.2.2.1) ?_
      refine r_push zi_233_84 rfl ?_
      refine r_b0 zi_233_85 rfl ?_
      refine r_ast zi_233_86 rfl 2 ca_196 rfl (by decide) ?_
      refine r_ret zi_233_87 rfl ?_
      exact ⟨rfl, h _ ⟨((((Fr.rf.put (by decide)).put (by decide)).put (by decide)).put (by decide)).put (by decide), fun z => absurd z ht⟩ (zVm_u hM.2.1 (zVm_b (zVm_b (zVm_b (zVm_b hV)))) (zCm_k (zCnf (by decide)) (by decide) (by decide)))⟩
theorem s_isDone {d n s w a N : Nat} {σ : zS} {Q : zS → Prop} {V : zS} {th : Bool} {Wd Fr' Wh To O A : Nat → Nat} {B : Nat → Int32} (hM : zMd σ n th N Wd Fr' Wh To O A B) (hV : zVm σ V n th) (hg : zVg V n) (hs : s < n) (hw : w ≤ 4) (ha : a < 12) (h : ∀ τ, zFm th σ τ → zVm τ (dDn (zTl N Wd Fr' Wh To O A) B n V s w a) n th → Q τ) : zV1 (d + 5) 237 [.ref 195, .int (nI s), .int (nI w), .int (nI a)] σ Q := by
  obtain ⟨p, hp, hpV⟩ := hg.2.2.1 s hs
  have hup : un (V 3 s) = p := by rw [hpV]; exact un_nI (by omega)
  have hn18 := hM.2.1
  obtain ⟨m30, m66, _⟩ := hV.2.2.1 s hs
  obtain ⟨m48, m84, m102⟩ := hV.2.2.2.1 s (by omega)
  obtain ⟨m6, m18, _⟩ := hV.2.1 p hp
  have hat : σ 196 (30 + s) = nI p := m30.trans hpV
  have hB := hM.2.2.2.2.2.1
  have hBk := hM.2.2.2.2.2.2
  unfold dDn at h
  rw [hup] at h
  have htr : ∀ (Q2 : Int32 → zS → Prop), (∀ υ, Fr [215, 216] σ υ → υ 214 = B → zVm υ V n th → Q2 (zTl N Wd Fr' Wh To O A 1 (zFv V n true s p (nI w))) υ) → zI1 (d + 4) 229 [.ref 195, .int (nI s), .int (nI w)] σ Q2 := fun Q2 hq => s_tiresOf hM.1 hn18 (by omega) hp hat hM.2.2.2.1 hM.2.2.2.2.1 (fun υ x => by rw [zfM_v hV hn18 hs hp]; exact hq υ x ((funext fun b => x 214 (by decide) b).trans hB) (zVm_o hV x (by decide)))
  have hnr : ∀ (τ : zS) (Q2 : Int32 → zS → Prop), τ 214 = B → (∀ υ, Fr [217] τ υ → Q2 (nI (ztw B p a)) υ) → zI1 (d + 4) 232 [.ref 195, .int (nI p), .int (nI a)] τ Q2 := fun τ Q2 e hq => s_near (d := d + 2) (by rw [e]; exact hBk) hp ha (by rw [e]; exact hq)
  generalize zTl N Wd Fr' Wh To O A 1 (zFv V n true s p (nI w)) = M at htr h
  have k7 : ∀ {σ V : zS} {v : Int32}, zVm σ V n th → zVm (up σ 196 (84 + s) v) (up V 7 s v) n th := fun x => zVm_u hn18 x (zCm_k (zCn7 (by omega)) (by decide) (by decide))
  have k5 : ∀ {σ V : zS} {v : Int32}, zVm σ V n th → zVm (up σ 196 (48 + s) v) (up V 5 s v) n th := fun x => zVm_u hn18 x (zCm_k (zCn5 (by omega)) (by decide) (by decide))
  have k3 : ∀ {σ V : zS} {v : Int32}, zVm σ V n th → zVm (up σ 196 (30 + s) v) (up V 3 s v) n th := fun x => zVm_u hn18 x (zCm_k (zCn3 (by omega)) (by decide) (by decide))
  have k2 : ∀ {σ V : zS} {v : Int32}, zVm σ V n th → zVm (up σ 196 (18 + p) v) (up V 2 p v) n th := fun x => zVm_u hn18 x (zCm_k (zCn2 hp) (by decide) (by decide))
  have k1 : ∀ {σ V : zS} {v : Int32}, zVm σ V n th → zVm (up σ 196 (6 + p) v) (up V 1 p v) n th := fun x => zVm_u hn18 x (zCm_k (zCn1 hp) (by decide) (by decide))
  show zk _ _ 0 [.ref 195, .int (nI s), .int (nI w), .int (nI a), zun, zun] [] _ _
  have hc : w = 0 ∨ w = 1 ∨ w = 2 ∨ w = 3 ∨ w = 4 := by omega
  have hup5 : ∀ {τ : zS} {v : Int32}, τ 196 (48 + s) = V 5 s → up τ 196 (84 + s) v 196 (48 + s) = V 5 s := fun x => (zup_nj (by omega)).trans x
  have hu2 : ∀ {τ : zS} {v w : Int32}, τ 196 (18 + p) = V 2 p → up (up τ 196 (84 + s) v) 196 (48 + s) w 196 (18 + p) = V 2 p := fun x => (zup_nj (by omega)).trans ((zup_nj (by omega)).trans x)
  have hu1 : ∀ {τ : zS} {v w : Int32}, τ 196 (6 + p) = V 1 p → up (up τ 196 (84 + s) v) 196 (48 + s) w 196 (6 + p) = V 1 p := fun x => (zup_nj (by omega)).trans ((zup_nj (by omega)).trans x)
  have fz : ∀ {υ : zS} {a b : Nat} {x y : Int32}, Fr [215, 216] σ υ → zFm th σ (up (up υ 196 a x) 196 b y) := fun hF => (zFm.of hF (by simp)).put.put
  rcases hc with e | e | e | e | e
  · rw [if_pos e] at h
    subst e
    refine r_al0 zi_237_0 rfl ?_
    refine q_getR zi_237_1 rfl cf_195_1 ?_
    refine r_push zi_237_4 rfl ?_
    refine r_il1 zi_237_6 rfl ?_
    refine r_b0 zi_237_7 rfl ?_
    rw [show (30 + nI s : Int32) = nI (30 + s) from nI_add _ _]
    refine r_alde zi_237_8 rfl (30 + s) ca_196 (by first | rfl | (simp only [zI_add, zI_mul] <;> rfl)) (by first | omega | decide) (u := nI p) (by first | exact hat | ((repeat (first | rw [zup_ne (by first | decide | omega)] | rw [zup_nj (by first | decide | omega)] | rw [fil_ne (by first | decide | omega)])) <;> exact hat) | (simp [up_rd, fil_rd]; exact hat)) ?_
    refine r_is4 zi_237_9 rfl ?_
    refine r_al0 zi_237_11 rfl ?_
    refine r_il1 zi_237_12 rfl ?_
    refine r_il2 zi_237_13 rfl ?_
    refine q_cIV zi_237_14 rfl rfl rfl rfl rfl rfl rfl cf_195_0.ob (htr _ (fun τ1 h1 h2 h3 => ?_))
    show zk _ _ 17 _ _ _ _
    refine r_is5 zi_237_17 rfl ?_
    refine r_al0 zi_237_19 rfl ?_
    refine q_getR zi_237_20 rfl cf_195_1 ?_
    refine r_push zi_237_23 rfl ?_
    refine r_il1 zi_237_25 rfl ?_
    refine r_b0 zi_237_26 rfl ?_
    rw [show (84 + nI s : Int32) = nI (84 + s) from nI_add _ _]
    refine r_al0 zi_237_27 rfl ?_
    refine q_getR zi_237_28 rfl cf_195_1 ?_
    refine r_push zi_237_31 rfl ?_
    refine r_il1 zi_237_33 rfl ?_
    refine r_b0 zi_237_34 rfl ?_
    rw [show (84 + nI s : Int32) = nI (84 + s) from nI_add _ _]
    refine r_alde zi_237_35 rfl (84 + s) ca_196 (by first | rfl | (simp only [zI_add, zI_mul] <;> rfl)) (by first | omega | decide) (u := V 7 s) (by first | exact ((h1 196 (by decide) _).trans m84) | ((repeat (first | rw [zup_ne (by first | decide | omega)] | rw [zup_nj (by first | decide | omega)] | rw [fil_ne (by first | decide | omega)])) <;> exact ((h1 196 (by decide) _).trans m84)) | (simp [up_rd, fil_rd]; exact ((h1 196 (by decide) _).trans m84))) ?_
    refine r_push zi_237_36 rfl ?_
    refine r_b0 zi_237_37 rfl ?_
    refine r_ast zi_237_38 rfl (84 + s) ca_196 (by first | rfl | (simp only [zI_add, zI_mul] <;> rfl)) (by first | omega | decide) ?_
    refine r_al0 zi_237_39 rfl ?_
    refine q_getR zi_237_40 rfl cf_195_1 ?_
    refine r_push zi_237_43 rfl ?_
    refine r_il1 zi_237_45 rfl ?_
    refine r_b0 zi_237_46 rfl ?_
    rw [show (48 + nI s : Int32) = nI (48 + s) from nI_add _ _]
    refine r_il2 zi_237_47 rfl ?_
    refine r_push zi_237_48 rfl ?_
    refine r_ic1 zi_237_49 rfl (fun _ => ?_) (fun c => absurd c (by decide))
    refine r_al0 zi_237_72 rfl ?_
    refine r_push zi_237_73 rfl ?_
    refine r_al0 zi_237_75 rfl ?_
    refine q_getR zi_237_76 rfl cf_195_1 ?_
    refine r_push zi_237_79 rfl ?_
    refine r_il1 zi_237_81 rfl ?_
    refine r_b0 zi_237_82 rfl ?_
    rw [show (48 + nI s : Int32) = nI (48 + s) from nI_add _ _]
    refine r_alde zi_237_83 rfl (48 + s) ca_196 (by first | rfl | (simp only [zI_add, zI_mul] <;> rfl)) (by first | omega | decide) (u := V 5 s) (by first | exact (hup5 ((h1 196 (by decide) _).trans m48)) | ((repeat (first | rw [zup_ne (by first | decide | omega)] | rw [zup_nj (by first | decide | omega)] | rw [fil_ne (by first | decide | omega)])) <;> exact (hup5 ((h1 196 (by decide) _).trans m48))) | (simp [up_rd, fil_rd]; exact (hup5 ((h1 196 (by decide) _).trans m48)))) ?_
    refine r_il5 zi_237_84 rfl ?_
    refine r_b0 zi_237_86 rfl ?_
    refine q_cIV zi_237_87 rfl rfl rfl rfl rfl rfl rfl cf_195_0.ob (s_lesser ?_)
    show zk _ _ 90 _ _ _ _
    refine r_ast zi_237_90 rfl (48 + s) ca_196 (by first | rfl | (simp only [zI_add, zI_mul] <;> rfl)) (by first | omega | decide) ?_
    refine r_il2 zi_237_91 rfl ?_
    refine r_if1 zi_237_92 rfl (fun c => absurd (by decide) c) (fun _ => ?_)
    refine r_al0 zi_237_95 rfl ?_
    refine q_getR zi_237_96 rfl cf_195_1 ?_
    refine r_push zi_237_99 rfl ?_
    refine r_il1 zi_237_101 rfl ?_
    refine r_b0 zi_237_102 rfl ?_
    rw [show (30 + nI s : Int32) = nI (30 + s) from nI_add _ _]
    refine r_al0 zi_237_103 rfl ?_
    refine r_il4 zi_237_104 rfl ?_
    refine r_il3 zi_237_106 rfl ?_
    refine q_cIV zi_237_107 rfl rfl rfl rfl rfl rfl rfl cf_195_0.ob (hnr (up (up τ1 196 (84 + s) (V 7 s + 1)) 196 (48 + s) (zmn9 (V 5 s + M))) _ h2 (fun τ2 h4 => ?_))
    show zk _ _ 110 _ _ _ _
    refine r_ast zi_237_110 rfl (30 + s) ca_196 (by first | rfl | (simp only [zI_add, zI_mul] <;> rfl)) (by first | omega | decide) ?_
    refine r_il2 zi_237_111 rfl ?_
    refine r_push zi_237_112 rfl ?_
    refine r_ic1 zi_237_113 rfl (fun _ => ?_) (fun c => absurd c (by decide))
    refine r_il2 zi_237_144 rfl ?_
    refine r_push zi_237_145 rfl ?_
    refine r_ic1 zi_237_146 rfl (fun _ => ?_) (fun c => absurd c (by decide))
    refine r_ret zi_237_176 rfl ?_
    exact ⟨rfl, h _ ((fz h1).tr (zFm.of h4 (by simp))).put (k3 (zVm_o (k5 (k7 h3)) h4 (by decide)))⟩
  · rw [if_neg (show ¬ w = 0 by omega), if_pos e] at h
    subst e
    refine r_al0 zi_237_0 rfl ?_
    refine q_getR zi_237_1 rfl cf_195_1 ?_
    refine r_push zi_237_4 rfl ?_
    refine r_il1 zi_237_6 rfl ?_
    refine r_b0 zi_237_7 rfl ?_
    rw [show (30 + nI s : Int32) = nI (30 + s) from nI_add _ _]
    refine r_alde zi_237_8 rfl (30 + s) ca_196 (by first | rfl | (simp only [zI_add, zI_mul] <;> rfl)) (by first | omega | decide) (u := nI p) (by first | exact hat | ((repeat (first | rw [zup_ne (by first | decide | omega)] | rw [zup_nj (by first | decide | omega)] | rw [fil_ne (by first | decide | omega)])) <;> exact hat) | (simp [up_rd, fil_rd]; exact hat)) ?_
    refine r_is4 zi_237_9 rfl ?_
    refine r_al0 zi_237_11 rfl ?_
    refine r_il1 zi_237_12 rfl ?_
    refine r_il2 zi_237_13 rfl ?_
    refine q_cIV zi_237_14 rfl rfl rfl rfl rfl rfl rfl cf_195_0.ob (htr _ (fun τ1 h1 h2 h3 => ?_))
    show zk _ _ 17 _ _ _ _
    refine r_is5 zi_237_17 rfl ?_
    refine r_al0 zi_237_19 rfl ?_
    refine q_getR zi_237_20 rfl cf_195_1 ?_
    refine r_push zi_237_23 rfl ?_
    refine r_il1 zi_237_25 rfl ?_
    refine r_b0 zi_237_26 rfl ?_
    rw [show (84 + nI s : Int32) = nI (84 + s) from nI_add _ _]
    refine r_al0 zi_237_27 rfl ?_
    refine q_getR zi_237_28 rfl cf_195_1 ?_
    refine r_push zi_237_31 rfl ?_
    refine r_il1 zi_237_33 rfl ?_
    refine r_b0 zi_237_34 rfl ?_
    rw [show (84 + nI s : Int32) = nI (84 + s) from nI_add _ _]
    refine r_alde zi_237_35 rfl (84 + s) ca_196 (by first | rfl | (simp only [zI_add, zI_mul] <;> rfl)) (by first | omega | decide) (u := V 7 s) (by first | exact ((h1 196 (by decide) _).trans m84) | ((repeat (first | rw [zup_ne (by first | decide | omega)] | rw [zup_nj (by first | decide | omega)] | rw [fil_ne (by first | decide | omega)])) <;> exact ((h1 196 (by decide) _).trans m84)) | (simp [up_rd, fil_rd]; exact ((h1 196 (by decide) _).trans m84))) ?_
    refine r_push zi_237_36 rfl ?_
    refine r_b0 zi_237_37 rfl ?_
    refine r_ast zi_237_38 rfl (84 + s) ca_196 (by first | rfl | (simp only [zI_add, zI_mul] <;> rfl)) (by first | omega | decide) ?_
    refine r_al0 zi_237_39 rfl ?_
    refine q_getR zi_237_40 rfl cf_195_1 ?_
    refine r_push zi_237_43 rfl ?_
    refine r_il1 zi_237_45 rfl ?_
    refine r_b0 zi_237_46 rfl ?_
    rw [show (48 + nI s : Int32) = nI (48 + s) from nI_add _ _]
    refine r_il2 zi_237_47 rfl ?_
    refine r_push zi_237_48 rfl ?_
    refine r_ic1 zi_237_49 rfl (fun c => absurd (by decide) c) (fun _ => ?_)
    refine r_al0 zi_237_52 rfl ?_
    refine r_push zi_237_53 rfl ?_
    refine r_al0 zi_237_54 rfl ?_
    refine q_getR zi_237_55 rfl cf_195_1 ?_
    refine r_push zi_237_58 rfl ?_
    refine r_il1 zi_237_60 rfl ?_
    refine r_b0 zi_237_61 rfl ?_
    rw [show (48 + nI s : Int32) = nI (48 + s) from nI_add _ _]
    refine r_alde zi_237_62 rfl (48 + s) ca_196 (by first | rfl | (simp only [zI_add, zI_mul] <;> rfl)) (by first | omega | decide) (u := V 5 s) (by first | exact (hup5 ((h1 196 (by decide) _).trans m48)) | ((repeat (first | rw [zup_ne (by first | decide | omega)] | rw [zup_nj (by first | decide | omega)] | rw [fil_ne (by first | decide | omega)])) <;> exact (hup5 ((h1 196 (by decide) _).trans m48))) | (simp [up_rd, fil_rd]; exact (hup5 ((h1 196 (by decide) _).trans m48)))) ?_
    refine r_push zi_237_63 rfl ?_
    refine r_b1 zi_237_65 rfl ?_
    refine q_cIV zi_237_66 rfl rfl rfl rfl rfl rfl rfl cf_195_0.ob (s_greater ?_)
    show zk _ _ 69 _ _ _ _
    refine r_goto zi_237_69 rfl ?_
    refine r_ast zi_237_90 rfl (48 + s) ca_196 (by first | rfl | (simp only [zI_add, zI_mul] <;> rfl)) (by first | omega | decide) ?_
    refine r_il2 zi_237_91 rfl ?_
    refine r_if1 zi_237_92 rfl (fun _ => ?_) (fun c => absurd c (by decide))
    refine r_il2 zi_237_111 rfl ?_
    refine r_push zi_237_112 rfl ?_
    refine r_ic1 zi_237_113 rfl (fun _ => ?_) (fun c => absurd c (by decide))
    refine r_il2 zi_237_144 rfl ?_
    refine r_push zi_237_145 rfl ?_
    refine r_ic1 zi_237_146 rfl (fun _ => ?_) (fun c => absurd c (by decide))
    refine r_ret zi_237_176 rfl ?_
    exact ⟨rfl, h _ (fz h1) (k5 (k7 h3))⟩
  · rw [if_neg (show ¬ w = 0 by omega), if_neg (show ¬ w = 1 by omega), if_pos e] at h
    subst e
    refine r_al0 zi_237_0 rfl ?_
    refine q_getR zi_237_1 rfl cf_195_1 ?_
    refine r_push zi_237_4 rfl ?_
    refine r_il1 zi_237_6 rfl ?_
    refine r_b0 zi_237_7 rfl ?_
    rw [show (30 + nI s : Int32) = nI (30 + s) from nI_add _ _]
    refine r_alde zi_237_8 rfl (30 + s) ca_196 (by first | rfl | (simp only [zI_add, zI_mul] <;> rfl)) (by first | omega | decide) (u := nI p) (by first | exact hat | ((repeat (first | rw [zup_ne (by first | decide | omega)] | rw [zup_nj (by first | decide | omega)] | rw [fil_ne (by first | decide | omega)])) <;> exact hat) | (simp [up_rd, fil_rd]; exact hat)) ?_
    refine r_is4 zi_237_9 rfl ?_
    refine r_al0 zi_237_11 rfl ?_
    refine r_il1 zi_237_12 rfl ?_
    refine r_il2 zi_237_13 rfl ?_
    refine q_cIV zi_237_14 rfl rfl rfl rfl rfl rfl rfl cf_195_0.ob (htr _ (fun τ1 h1 h2 h3 => ?_))
    show zk _ _ 17 _ _ _ _
    refine r_is5 zi_237_17 rfl ?_
    refine r_al0 zi_237_19 rfl ?_
    refine q_getR zi_237_20 rfl cf_195_1 ?_
    refine r_push zi_237_23 rfl ?_
    refine r_il1 zi_237_25 rfl ?_
    refine r_b0 zi_237_26 rfl ?_
    rw [show (84 + nI s : Int32) = nI (84 + s) from nI_add _ _]
    refine r_al0 zi_237_27 rfl ?_
    refine q_getR zi_237_28 rfl cf_195_1 ?_
    refine r_push zi_237_31 rfl ?_
    refine r_il1 zi_237_33 rfl ?_
    refine r_b0 zi_237_34 rfl ?_
    rw [show (84 + nI s : Int32) = nI (84 + s) from nI_add _ _]
    refine r_alde zi_237_35 rfl (84 + s) ca_196 (by first | rfl | (simp only [zI_add, zI_mul] <;> rfl)) (by first | omega | decide) (u := V 7 s) (by first | exact ((h1 196 (by decide) _).trans m84) | ((repeat (first | rw [zup_ne (by first | decide | omega)] | rw [zup_nj (by first | decide | omega)] | rw [fil_ne (by first | decide | omega)])) <;> exact ((h1 196 (by decide) _).trans m84)) | (simp [up_rd, fil_rd]; exact ((h1 196 (by decide) _).trans m84))) ?_
    refine r_push zi_237_36 rfl ?_
    refine r_b0 zi_237_37 rfl ?_
    refine r_ast zi_237_38 rfl (84 + s) ca_196 (by first | rfl | (simp only [zI_add, zI_mul] <;> rfl)) (by first | omega | decide) ?_
    refine r_al0 zi_237_39 rfl ?_
    refine q_getR zi_237_40 rfl cf_195_1 ?_
    refine r_push zi_237_43 rfl ?_
    refine r_il1 zi_237_45 rfl ?_
    refine r_b0 zi_237_46 rfl ?_
    rw [show (48 + nI s : Int32) = nI (48 + s) from nI_add _ _]
    refine r_il2 zi_237_47 rfl ?_
    refine r_push zi_237_48 rfl ?_
    refine r_ic1 zi_237_49 rfl (fun _ => ?_) (fun c => absurd c (by decide))
    refine r_al0 zi_237_72 rfl ?_
    refine r_push zi_237_73 rfl ?_
    refine r_al0 zi_237_75 rfl ?_
    refine q_getR zi_237_76 rfl cf_195_1 ?_
    refine r_push zi_237_79 rfl ?_
    refine r_il1 zi_237_81 rfl ?_
    refine r_b0 zi_237_82 rfl ?_
    rw [show (48 + nI s : Int32) = nI (48 + s) from nI_add _ _]
    refine r_alde zi_237_83 rfl (48 + s) ca_196 (by first | rfl | (simp only [zI_add, zI_mul] <;> rfl)) (by first | omega | decide) (u := V 5 s) (by first | exact (hup5 ((h1 196 (by decide) _).trans m48)) | ((repeat (first | rw [zup_ne (by first | decide | omega)] | rw [zup_nj (by first | decide | omega)] | rw [fil_ne (by first | decide | omega)])) <;> exact (hup5 ((h1 196 (by decide) _).trans m48))) | (simp [up_rd, fil_rd]; exact (hup5 ((h1 196 (by decide) _).trans m48)))) ?_
    refine r_il5 zi_237_84 rfl ?_
    refine r_b0 zi_237_86 rfl ?_
    refine q_cIV zi_237_87 rfl rfl rfl rfl rfl rfl rfl cf_195_0.ob (s_lesser ?_)
    show zk _ _ 90 _ _ _ _
    refine r_ast zi_237_90 rfl (48 + s) ca_196 (by first | rfl | (simp only [zI_add, zI_mul] <;> rfl)) (by first | omega | decide) ?_
    refine r_il2 zi_237_91 rfl ?_
    refine r_if1 zi_237_92 rfl (fun _ => ?_) (fun c => absurd c (by decide))
    refine r_il2 zi_237_111 rfl ?_
    refine r_push zi_237_112 rfl ?_
    refine r_ic1 zi_237_113 rfl (fun c => absurd (by decide) c) (fun _ => ?_)
    refine r_al0 zi_237_116 rfl ?_
    refine q_getR zi_237_117 rfl cf_195_1 ?_
    refine r_push zi_237_120 rfl ?_
    refine r_il4 zi_237_122 rfl ?_
    refine r_b0 zi_237_124 rfl ?_
    rw [show (18 + nI p : Int32) = nI (18 + p) from nI_add _ _]
    refine r_al0 zi_237_125 rfl ?_
    refine r_push zi_237_126 rfl ?_
    refine r_al0 zi_237_128 rfl ?_
    refine q_getR zi_237_129 rfl cf_195_1 ?_
    refine r_push zi_237_132 rfl ?_
    refine r_il4 zi_237_134 rfl ?_
    refine r_b0 zi_237_136 rfl ?_
    rw [show (18 + nI p : Int32) = nI (18 + p) from nI_add _ _]
    refine r_alde zi_237_137 rfl (18 + p) ca_196 (by first | rfl | (simp only [zI_add, zI_mul] <;> rfl)) (by first | omega | decide) (u := V 2 p) (by first | exact (hu2 ((h1 196 (by decide) _).trans m18)) | ((repeat (first | rw [zup_ne (by first | decide | omega)] | rw [zup_nj (by first | decide | omega)] | rw [fil_ne (by first | decide | omega)])) <;> exact (hu2 ((h1 196 (by decide) _).trans m18))) | (simp [up_rd, fil_rd]; exact (hu2 ((h1 196 (by decide) _).trans m18)))) ?_
    refine r_push zi_237_138 rfl ?_
    refine r_b0 zi_237_139 rfl ?_
    refine q_cIV zi_237_140 rfl rfl rfl rfl rfl rfl rfl cf_195_0.ob (s_lesser ?_)
    show zk _ _ 143 _ _ _ _
    refine r_ast zi_237_143 rfl (18 + p) ca_196 (by first | rfl | (simp only [zI_add, zI_mul] <;> rfl)) (by first | omega | decide) ?_
    refine r_il2 zi_237_144 rfl ?_
    refine r_push zi_237_145 rfl ?_
    refine r_ic1 zi_237_146 rfl (fun _ => ?_) (fun c => absurd c (by decide))
    refine r_ret zi_237_176 rfl ?_
    exact ⟨rfl, h _ (fz h1).put (k2 (k5 (k7 h3)))⟩
  · rw [if_neg (show ¬ w = 0 by omega), if_neg (show ¬ w = 1 by omega), if_neg (show ¬ w = 2 by omega), if_pos e] at h
    subst e
    refine r_al0 zi_237_0 rfl ?_
    refine q_getR zi_237_1 rfl cf_195_1 ?_
    refine r_push zi_237_4 rfl ?_
    refine r_il1 zi_237_6 rfl ?_
    refine r_b0 zi_237_7 rfl ?_
    rw [show (30 + nI s : Int32) = nI (30 + s) from nI_add _ _]
    refine r_alde zi_237_8 rfl (30 + s) ca_196 (by first | rfl | (simp only [zI_add, zI_mul] <;> rfl)) (by first | omega | decide) (u := nI p) (by first | exact hat | ((repeat (first | rw [zup_ne (by first | decide | omega)] | rw [zup_nj (by first | decide | omega)] | rw [fil_ne (by first | decide | omega)])) <;> exact hat) | (simp [up_rd, fil_rd]; exact hat)) ?_
    refine r_is4 zi_237_9 rfl ?_
    refine r_al0 zi_237_11 rfl ?_
    refine r_il1 zi_237_12 rfl ?_
    refine r_il2 zi_237_13 rfl ?_
    refine q_cIV zi_237_14 rfl rfl rfl rfl rfl rfl rfl cf_195_0.ob (htr _ (fun τ1 h1 h2 h3 => ?_))
    show zk _ _ 17 _ _ _ _
    refine r_is5 zi_237_17 rfl ?_
    refine r_al0 zi_237_19 rfl ?_
    refine q_getR zi_237_20 rfl cf_195_1 ?_
    refine r_push zi_237_23 rfl ?_
    refine r_il1 zi_237_25 rfl ?_
    refine r_b0 zi_237_26 rfl ?_
    rw [show (84 + nI s : Int32) = nI (84 + s) from nI_add _ _]
    refine r_al0 zi_237_27 rfl ?_
    refine q_getR zi_237_28 rfl cf_195_1 ?_
    refine r_push zi_237_31 rfl ?_
    refine r_il1 zi_237_33 rfl ?_
    refine r_b0 zi_237_34 rfl ?_
    rw [show (84 + nI s : Int32) = nI (84 + s) from nI_add _ _]
    refine r_alde zi_237_35 rfl (84 + s) ca_196 (by first | rfl | (simp only [zI_add, zI_mul] <;> rfl)) (by first | omega | decide) (u := V 7 s) (by first | exact ((h1 196 (by decide) _).trans m84) | ((repeat (first | rw [zup_ne (by first | decide | omega)] | rw [zup_nj (by first | decide | omega)] | rw [fil_ne (by first | decide | omega)])) <;> exact ((h1 196 (by decide) _).trans m84)) | (simp [up_rd, fil_rd]; exact ((h1 196 (by decide) _).trans m84))) ?_
    refine r_push zi_237_36 rfl ?_
    refine r_b0 zi_237_37 rfl ?_
    refine r_ast zi_237_38 rfl (84 + s) ca_196 (by first | rfl | (simp only [zI_add, zI_mul] <;> rfl)) (by first | omega | decide) ?_
    refine r_al0 zi_237_39 rfl ?_
    refine q_getR zi_237_40 rfl cf_195_1 ?_
    refine r_push zi_237_43 rfl ?_
    refine r_il1 zi_237_45 rfl ?_
    refine r_b0 zi_237_46 rfl ?_
    rw [show (48 + nI s : Int32) = nI (48 + s) from nI_add _ _]
    refine r_il2 zi_237_47 rfl ?_
    refine r_push zi_237_48 rfl ?_
    refine r_ic1 zi_237_49 rfl (fun _ => ?_) (fun c => absurd c (by decide))
    refine r_al0 zi_237_72 rfl ?_
    refine r_push zi_237_73 rfl ?_
    refine r_al0 zi_237_75 rfl ?_
    refine q_getR zi_237_76 rfl cf_195_1 ?_
    refine r_push zi_237_79 rfl ?_
    refine r_il1 zi_237_81 rfl ?_
    refine r_b0 zi_237_82 rfl ?_
    rw [show (48 + nI s : Int32) = nI (48 + s) from nI_add _ _]
    refine r_alde zi_237_83 rfl (48 + s) ca_196 (by first | rfl | (simp only [zI_add, zI_mul] <;> rfl)) (by first | omega | decide) (u := V 5 s) (by first | exact (hup5 ((h1 196 (by decide) _).trans m48)) | ((repeat (first | rw [zup_ne (by first | decide | omega)] | rw [zup_nj (by first | decide | omega)] | rw [fil_ne (by first | decide | omega)])) <;> exact (hup5 ((h1 196 (by decide) _).trans m48))) | (simp [up_rd, fil_rd]; exact (hup5 ((h1 196 (by decide) _).trans m48)))) ?_
    refine r_il5 zi_237_84 rfl ?_
    refine r_b0 zi_237_86 rfl ?_
    refine q_cIV zi_237_87 rfl rfl rfl rfl rfl rfl rfl cf_195_0.ob (s_lesser ?_)
    show zk _ _ 90 _ _ _ _
    refine r_ast zi_237_90 rfl (48 + s) ca_196 (by first | rfl | (simp only [zI_add, zI_mul] <;> rfl)) (by first | omega | decide) ?_
    refine r_il2 zi_237_91 rfl ?_
    refine r_if1 zi_237_92 rfl (fun _ => ?_) (fun c => absurd c (by decide))
    refine r_il2 zi_237_111 rfl ?_
    refine r_push zi_237_112 rfl ?_
    refine r_ic1 zi_237_113 rfl (fun _ => ?_) (fun c => absurd c (by decide))
    refine r_il2 zi_237_144 rfl ?_
    refine r_push zi_237_145 rfl ?_
    refine r_ic1 zi_237_146 rfl (fun c => absurd (by decide) c) (fun _ => ?_)
    refine r_al0 zi_237_149 rfl ?_
    refine q_getR zi_237_150 rfl cf_195_1 ?_
    refine r_push zi_237_153 rfl ?_
    refine r_il4 zi_237_155 rfl ?_
    refine r_b0 zi_237_157 rfl ?_
    rw [show (6 + nI p : Int32) = nI (6 + p) from nI_add _ _]
    refine r_al0 zi_237_158 rfl ?_
    refine r_push zi_237_159 rfl ?_
    refine r_al0 zi_237_160 rfl ?_
    refine q_getR zi_237_161 rfl cf_195_1 ?_
    refine r_push zi_237_164 rfl ?_
    refine r_il4 zi_237_166 rfl ?_
    refine r_b0 zi_237_168 rfl ?_
    rw [show (6 + nI p : Int32) = nI (6 + p) from nI_add _ _]
    refine r_alde zi_237_169 rfl (6 + p) ca_196 (by first | rfl | (simp only [zI_add, zI_mul] <;> rfl)) (by first | omega | decide) (u := V 1 p) (by first | exact (hu1 ((h1 196 (by decide) _).trans m6)) | ((repeat (first | rw [zup_ne (by first | decide | omega)] | rw [zup_nj (by first | decide | omega)] | rw [fil_ne (by first | decide | omega)])) <;> exact (hu1 ((h1 196 (by decide) _).trans m6))) | (simp [up_rd, fil_rd]; exact (hu1 ((h1 196 (by decide) _).trans m6)))) ?_
    refine r_push zi_237_170 rfl ?_
    refine r_b1 zi_237_171 rfl ?_
    refine q_cIV zi_237_172 rfl rfl rfl rfl rfl rfl rfl cf_195_0.ob (s_greater ?_)
    show zk _ _ 175 _ _ _ _
    refine r_ast zi_237_175 rfl (6 + p) ca_196 (by first | rfl | (simp only [zI_add, zI_mul] <;> rfl)) (by first | omega | decide) ?_
    refine r_ret zi_237_176 rfl ?_
    exact ⟨rfl, h _ (fz h1).put (k1 (k5 (k7 h3)))⟩
  · rw [if_neg (show ¬ w = 0 by omega), if_neg (show ¬ w = 1 by omega), if_neg (show ¬ w = 2 by omega), if_neg (show ¬ w = 3 by omega)] at h
    subst e
    refine r_al0 zi_237_0 rfl ?_
    refine q_getR zi_237_1 rfl cf_195_1 ?_
    refine r_push zi_237_4 rfl ?_
    refine r_il1 zi_237_6 rfl ?_
    refine r_b0 zi_237_7 rfl ?_
    rw [show (30 + nI s : Int32) = nI (30 + s) from nI_add _ _]
    refine r_alde zi_237_8 rfl (30 + s) ca_196 (by first | rfl | (simp only [zI_add, zI_mul] <;> rfl)) (by first | omega | decide) (u := nI p) (by first | exact hat | ((repeat (first | rw [zup_ne (by first | decide | omega)] | rw [zup_nj (by first | decide | omega)] | rw [fil_ne (by first | decide | omega)])) <;> exact hat) | (simp [up_rd, fil_rd]; exact hat)) ?_
    refine r_is4 zi_237_9 rfl ?_
    refine r_al0 zi_237_11 rfl ?_
    refine r_il1 zi_237_12 rfl ?_
    refine r_il2 zi_237_13 rfl ?_
    refine q_cIV zi_237_14 rfl rfl rfl rfl rfl rfl rfl cf_195_0.ob (htr _ (fun τ1 h1 h2 h3 => ?_))
    show zk _ _ 17 _ _ _ _
    refine r_is5 zi_237_17 rfl ?_
    refine r_al0 zi_237_19 rfl ?_
    refine q_getR zi_237_20 rfl cf_195_1 ?_
    refine r_push zi_237_23 rfl ?_
    refine r_il1 zi_237_25 rfl ?_
    refine r_b0 zi_237_26 rfl ?_
    rw [show (84 + nI s : Int32) = nI (84 + s) from nI_add _ _]
    refine r_al0 zi_237_27 rfl ?_
    refine q_getR zi_237_28 rfl cf_195_1 ?_
    refine r_push zi_237_31 rfl ?_
    refine r_il1 zi_237_33 rfl ?_
    refine r_b0 zi_237_34 rfl ?_
    rw [show (84 + nI s : Int32) = nI (84 + s) from nI_add _ _]
    refine r_alde zi_237_35 rfl (84 + s) ca_196 (by first | rfl | (simp only [zI_add, zI_mul] <;> rfl)) (by first | omega | decide) (u := V 7 s) (by first | exact ((h1 196 (by decide) _).trans m84) | ((repeat (first | rw [zup_ne (by first | decide | omega)] | rw [zup_nj (by first | decide | omega)] | rw [fil_ne (by first | decide | omega)])) <;> exact ((h1 196 (by decide) _).trans m84)) | (simp [up_rd, fil_rd]; exact ((h1 196 (by decide) _).trans m84))) ?_
    refine r_push zi_237_36 rfl ?_
    refine r_b0 zi_237_37 rfl ?_
    refine r_ast zi_237_38 rfl (84 + s) ca_196 (by first | rfl | (simp only [zI_add, zI_mul] <;> rfl)) (by first | omega | decide) ?_
    refine r_al0 zi_237_39 rfl ?_
    refine q_getR zi_237_40 rfl cf_195_1 ?_
    refine r_push zi_237_43 rfl ?_
    refine r_il1 zi_237_45 rfl ?_
    refine r_b0 zi_237_46 rfl ?_
    rw [show (48 + nI s : Int32) = nI (48 + s) from nI_add _ _]
    refine r_il2 zi_237_47 rfl ?_
    refine r_push zi_237_48 rfl ?_
    refine r_ic1 zi_237_49 rfl (fun _ => ?_) (fun c => absurd c (by decide))
    refine r_al0 zi_237_72 rfl ?_
    refine r_push zi_237_73 rfl ?_
    refine r_al0 zi_237_75 rfl ?_
    refine q_getR zi_237_76 rfl cf_195_1 ?_
    refine r_push zi_237_79 rfl ?_
    refine r_il1 zi_237_81 rfl ?_
    refine r_b0 zi_237_82 rfl ?_
    rw [show (48 + nI s : Int32) = nI (48 + s) from nI_add _ _]
    refine r_alde zi_237_83 rfl (48 + s) ca_196 (by first | rfl | (simp only [zI_add, zI_mul] <;> rfl)) (by first | omega | decide) (u := V 5 s) (by first | exact (hup5 ((h1 196 (by decide) _).trans m48)) | ((repeat (first | rw [zup_ne (by first | decide | omega)] | rw [zup_nj (by first | decide | omega)] | rw [fil_ne (by first | decide | omega)])) <;> exact (hup5 ((h1 196 (by decide) _).trans m48))) | (simp [up_rd, fil_rd]; exact (hup5 ((h1 196 (by decide) _).trans m48)))) ?_
    refine r_il5 zi_237_84 rfl ?_
    refine r_b0 zi_237_86 rfl ?_
    refine q_cIV zi_237_87 rfl rfl rfl rfl rfl rfl rfl cf_195_0.ob (s_lesser ?_)
    show zk _ _ 90 _ _ _ _
    refine r_ast zi_237_90 rfl (48 + s) ca_196 (by first | rfl | (simp only [zI_add, zI_mul] <;> rfl)) (by first | omega | decide) ?_
    refine r_il2 zi_237_91 rfl ?_
    refine r_if1 zi_237_92 rfl (fun _ => ?_) (fun c => absurd c (by decide))
    refine r_il2 zi_237_111 rfl ?_
    refine r_push zi_237_112 rfl ?_
    refine r_ic1 zi_237_113 rfl (fun _ => ?_) (fun c => absurd c (by decide))
    refine r_il2 zi_237_144 rfl ?_
    refine r_push zi_237_145 rfl ?_
    refine r_ic1 zi_237_146 rfl (fun _ => ?_) (fun c => absurd c (by decide))
    refine r_ret zi_237_176 rfl ?_
    exact ⟨rfl, h _ (fz h1) (k5 (k7 h3))⟩

