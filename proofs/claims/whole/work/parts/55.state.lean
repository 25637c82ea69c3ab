/-! MODEL: state, book -/
theorem s_mstate {d : Nat} {σ : zS} {Q : Int32 → zS → Prop} {v : Int32} (h : Q (σ 196 1) (up (up (up σ 195 0 0) 196 1 v) 195 3 0)) : zI1 d 175 [.ref 195, .int v] σ Q := by
  show zk _ _ 0 [.ref 195, .int v, zun] [] _ _
  refine r_al0 zi_175_0 rfl ?_
  refine r_push zi_175_1 rfl ?_
  refine q_put zi_175_2 rfl cf_195_0 rfl ?_
  refine r_al0 zi_175_5 rfl ?_
  refine q_getR zi_175_6 rfl cf_195_1 ?_
  refine r_push zi_175_9 rfl ?_
  refine r_ald zi_175_10 rfl 1 ca_196 rfl (by decide) ?_
  rw [zup_ne (by decide)]
  refine r_is2 zi_175_11 rfl ?_
  refine r_al0 zi_175_12 rfl ?_
  refine q_getR zi_175_13 rfl cf_195_1 ?_
  refine r_push zi_175_16 rfl ?_
  refine r_il1 zi_175_17 rfl ?_
  refine r_ast zi_175_18 rfl 1 ca_196 rfl (by decide) ?_
  refine r_al0 zi_175_19 rfl ?_
  refine r_push zi_175_20 rfl ?_
  refine q_put zi_175_21 rfl cf_195_3 rfl ?_
  refine r_il2 zi_175_24 rfl ?_
  refine r_retI zi_175_25 rfl ?_
  exact ⟨_, rfl, h⟩
theorem s_mbook {d n : Nat} {σ : zS} {Q : Int32 → zS → Prop} {v w : Int32} (hn : σ 196 2 = nI n) (hnN : n ≤ 150) (h1 : ∀ i j, i < n → j ≤ 3 → v = nI i → w = nI j → Q (σ 201 (4 * i + j)) (up σ 195 0 0)) (h0 : ¬ (0 ≤ v ∧ v < nI n ∧ 0 ≤ w ∧ w ≤ 3) → Q (-2) (up σ 195 0 0)) : zI1 (d + 1) 247 [.ref 195, .int v, .int w] σ Q := by
  show zk _ _ 0 [.ref 195, .int v, .int w] [] _ _
  have hn' : up σ 195 0 0 196 2 = nI n := by rw [zup_ne (by decide)]; exact hn
  have hc2 : nI n ≤ 150 := nI_le (a := n) (b := 150) hnN (by omega)
  have hc3 := nI_pos (n := n) (by omega)
  by_cases hb : 0 ≤ v ∧ v < nI n ∧ 0 ≤ w ∧ w ≤ 3
  · obtain ⟨i, hi, rfl⟩ := zI_of hb.1 hb.2.1 (by omega)
    obtain ⟨j, hj, rfl⟩ := zI_ofle (n := 3) hb.2.2.1 hb.2.2.2 (by omega)
    refine r_al0 zi_247_0 rfl ?_
    refine r_push zi_247_1 rfl ?_
    refine q_put zi_247_2 rfl cf_195_0 rfl ?_
    refine r_al0 zi_247_5 rfl ?_
    refine r_il1 zi_247_6 rfl ?_
    refine r_push zi_247_7 rfl ?_
    refine r_al0 zi_247_8 rfl ?_
    refine q_getR zi_247_9 rfl cf_195_1 ?_
    refine r_push zi_247_12 rfl ?_
    refine r_ald zi_247_13 rfl 2 ca_196 rfl (by decide) ?_
    rw [hn']
    refine r_push zi_247_14 rfl ?_
    refine r_b1 zi_247_15 rfl ?_
    refine q_cIV zi_247_16 rfl rfl rfl rfl rfl rfl rfl cf_195_0.ob (s_isIn (fun i1 a1 => ?_) (fun i1 => ?_))
    · show zk _ _ 19 _ _ _ _
      refine r_if0 zi_247_19 rfl (fun c => absurd c (by decide)) (fun _ => ?_)
      refine r_al0 zi_247_22 rfl ?_
      refine r_il2 zi_247_23 rfl ?_
      refine r_push zi_247_24 rfl ?_
      refine r_push zi_247_25 rfl ?_
      refine q_cIV zi_247_26 rfl rfl rfl rfl rfl rfl rfl cf_195_0.ob (s_isIn (fun i2 a2 => ?_) (fun i2 => ?_))
      · show zk _ _ 29 _ _ _ _
        refine r_if0 zi_247_29 rfl (fun c => absurd c (by decide)) (fun _ => ?_)
        refine r_al0 zi_247_32 rfl ?_
        refine q_getR zi_247_33 rfl cf_195_9 ?_
        refine r_push zi_247_36 rfl ?_
        refine r_il1 zi_247_37 rfl ?_
        refine r_b2 zi_247_38 rfl ?_
        rw [show (4 * nI i : Int32) = nI (4 * i) from pk_mul _ _]
        refine r_il2 zi_247_39 rfl ?_
        refine r_b0 zi_247_40 rfl ?_
        rw [show (nI (4 * i) + nI j : Int32) = nI ((4 * i) + j) from nI_add _ _]
        refine r_ald zi_247_41 rfl ((4 * i) + j) ca_201 (by first | rfl | (simp only [zI_add, zI_mul] <;> rfl)) (by first | omega | decide) ?_
        refine r_goto zi_247_42 rfl ?_
        refine r_retI zi_247_47 rfl ?_
        first | exact ⟨_, rfl, h1 i j hi hj rfl rfl⟩ | (exfalso; grind)
      · show zk _ _ 29 _ _ _ _
        refine r_if0 zi_247_29 rfl (fun _ => ?_) (fun c => absurd (by decide) c)
        refine r_push zi_247_45 rfl ?_
        refine r_retI zi_247_47 rfl ?_
        first | exact ⟨_, rfl, h1 i j hi hj rfl rfl⟩ | (exfalso; grind)
    · show zk _ _ 19 _ _ _ _
      refine r_if0 zi_247_19 rfl (fun _ => ?_) (fun c => absurd (by decide) c)
      refine r_push zi_247_45 rfl ?_
      refine r_retI zi_247_47 rfl ?_
      first | exact ⟨_, rfl, h1 i j hi hj rfl rfl⟩ | (exfalso; grind)
  · refine r_al0 zi_247_0 rfl ?_
    refine r_push zi_247_1 rfl ?_
    refine q_put zi_247_2 rfl cf_195_0 rfl ?_
    refine r_al0 zi_247_5 rfl ?_
    refine r_il1 zi_247_6 rfl ?_
    refine r_push zi_247_7 rfl ?_
    refine r_al0 zi_247_8 rfl ?_
    refine q_getR zi_247_9 rfl cf_195_1 ?_
    refine r_push zi_247_12 rfl ?_
    refine r_ald zi_247_13 rfl 2 ca_196 rfl (by decide) ?_
    rw [hn']
    refine r_push zi_247_14 rfl ?_
    refine r_b1 zi_247_15 rfl ?_
    refine q_cIV zi_247_16 rfl rfl rfl rfl rfl rfl rfl cf_195_0.ob (s_isIn (fun i1 a1 => ?_) (fun i1 => ?_))
    · show zk _ _ 19 _ _ _ _
      refine r_if0 zi_247_19 rfl (fun c => absurd c (by decide)) (fun _ => ?_)
      refine r_al0 zi_247_22 rfl ?_
      refine r_il2 zi_247_23 rfl ?_
      refine r_push zi_247_24 rfl ?_
      refine r_push zi_247_25 rfl ?_
      refine q_cIV zi_247_26 rfl rfl rfl rfl rfl rfl rfl cf_195_0.ob (s_isIn (fun i2 a2 => ?_) (fun i2 => ?_))
      · show zk _ _ 29 _ _ _ _
        refine r_if0 zi_247_29 rfl (fun c => absurd c (by decide)) (fun _ => ?_)
        exfalso; grind
      · show zk _ _ 29 _ _ _ _
        refine r_if0 zi_247_29 rfl (fun _ => ?_) (fun c => absurd (by decide) c)
        refine r_push zi_247_45 rfl ?_
        refine r_retI zi_247_47 rfl ?_
        exact ⟨_, rfl, h0 hb⟩
    · show zk _ _ 19 _ _ _ _
      refine r_if0 zi_247_19 rfl (fun _ => ?_) (fun c => absurd (by decide) c)
      refine r_push zi_247_45 rfl ?_
      refine r_retI zi_247_47 rfl ?_
      exact ⟨_, rfl, h0 hb⟩

