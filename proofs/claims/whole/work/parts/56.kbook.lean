/-! CLASS: book -/
theorem s_kbook {d n : Nat} {σ : zS} {Q : Int32 → zS → Prop} {v w : Int32} (hn : σ 2 19 = nI n) (hnN : n ≤ 150) (h1 : ∀ i j, i < n → j ≤ 3 → v = nI i → w = nI j → Q (σ 14 (i * 4 + j)) σ) (h0 : ¬ (0 ≤ v ∧ v < nI n ∧ 0 ≤ w ∧ w ≤ 3) → Q (-2) σ) : zI1 (d + 1) 133 [.ref 0, .int v, .int w] σ Q := by
  show zk _ _ 0 [.ref 0, .int v, .int w] [] _ _
  have hc2 : nI n ≤ 150 := nI_le (a := n) (b := 150) hnN (by omega)
  have hc3 := nI_pos (n := n) (by omega)
  by_cases hb : 0 ≤ v ∧ v < nI n ∧ 0 ≤ w ∧ w ≤ 3
  · obtain ⟨i, hi, rfl⟩ := zI_of hb.1 hb.2.1 (by omega)
    obtain ⟨j, hj, rfl⟩ := zI_ofle (n := 3) hb.2.2.1 hb.2.2.2 (by omega)
    refine r_il1 zi_133_0 rfl ?_
    refine r_if2 zi_133_1 rfl (fun c => absurd c (by grind)) (fun _ => ?_)
    refine r_il1 zi_133_4 rfl ?_
    refine r_al0 zi_133_5 rfl ?_
    refine q_getR zi_133_6 rfl cf_0_0 ?_
    refine q_getR zi_133_9 rfl cf_1_0 ?_
    refine q_getI zi_133_12 rfl cf_2_19 ?_
    rw [hn]
    refine r_ic3 zi_133_15 rfl (fun c1 => ?_) (fun c1 => ?_)
    · refine r_push zi_133_34 rfl ?_
      refine r_retI zi_133_36 rfl ?_
      exfalso; grind
    · refine r_il1 zi_133_18 rfl ?_
      refine r_push zi_133_19 rfl ?_
      refine r_ic3 zi_133_22 rfl (fun c => absurd c (nI_ge (b := 150) (by omega) (by omega))) (fun _ => ?_)
      refine r_il2 zi_133_25 rfl ?_
      refine r_push zi_133_26 rfl ?_
      refine r_push zi_133_27 rfl ?_
      refine r_cIS zi_133_28 rfl rfl rfl rfl rfl rfl (s_within (fun i2 a2 => ?_) (fun i2 => ?_))
      · show zk _ _ 31 _ _ _ _
        refine r_if1 zi_133_31 rfl (fun _ => ?_) (fun c => absurd c (by decide))
        refine r_al0 zi_133_37 rfl ?_
        refine q_getR zi_133_38 rfl cf_0_0 ?_
        refine q_getR zi_133_41 rfl cf_1_1 ?_
        refine r_il1 zi_133_44 rfl ?_
        refine r_push zi_133_45 rfl ?_
        refine r_b2 zi_133_46 rfl ?_
        rw [show (nI i * 4 : Int32) = nI (i * 4) from pk_mul _ _]
        refine r_il2 zi_133_47 rfl ?_
        refine r_b0 zi_133_48 rfl ?_
        rw [show (nI (i * 4) + nI j : Int32) = nI ((i * 4) + j) from nI_add _ _]
        refine r_ald zi_133_49 rfl ((i * 4) + j) ca_14 (by first | rfl | (simp only [zI_add, zI_mul] <;> rfl)) (by first | omega | decide) ?_
        refine r_retI zi_133_50 rfl ?_
        exact ⟨_, rfl, h1 i j hi hj rfl rfl⟩
      · show zk _ _ 31 _ _ _ _
        refine r_if1 zi_133_31 rfl (fun c => absurd (by decide) c) (fun _ => ?_)
        refine r_push zi_133_34 rfl ?_
        refine r_retI zi_133_36 rfl ?_
        exfalso; grind
  · refine r_il1 zi_133_0 rfl ?_
    refine r_if2 zi_133_1 rfl (fun c1 => ?_) (fun c1 => ?_)
    · refine r_push zi_133_34 rfl ?_
      refine r_retI zi_133_36 rfl ?_
      exact ⟨_, rfl, h0 hb⟩
    · refine r_il1 zi_133_4 rfl ?_
      refine r_al0 zi_133_5 rfl ?_
      refine q_getR zi_133_6 rfl cf_0_0 ?_
      refine q_getR zi_133_9 rfl cf_1_0 ?_
      refine q_getI zi_133_12 rfl cf_2_19 ?_
      rw [hn]
      refine r_ic3 zi_133_15 rfl (fun c2 => ?_) (fun c2 => ?_)
      · refine r_push zi_133_34 rfl ?_
        refine r_retI zi_133_36 rfl ?_
        exact ⟨_, rfl, h0 hb⟩
      · refine r_il1 zi_133_18 rfl ?_
        refine r_push zi_133_19 rfl ?_
        refine r_ic3 zi_133_22 rfl (fun c3 => ?_) (fun c3 => ?_)
        · refine r_push zi_133_34 rfl ?_
          refine r_retI zi_133_36 rfl ?_
          exact ⟨_, rfl, h0 hb⟩
        · refine r_il2 zi_133_25 rfl ?_
          refine r_push zi_133_26 rfl ?_
          refine r_push zi_133_27 rfl ?_
          refine r_cIS zi_133_28 rfl rfl rfl rfl rfl rfl (s_within (fun i4 a4 => ?_) (fun i4 => ?_))
          · show zk _ _ 31 _ _ _ _
            refine r_if1 zi_133_31 rfl (fun _ => ?_) (fun c => absurd c (by decide))
            exfalso; grind
          · show zk _ _ 31 _ _ _ _
            refine r_if1 zi_133_31 rfl (fun c => absurd (by decide) c) (fun _ => ?_)
            refine r_push zi_133_34 rfl ?_
            refine r_retI zi_133_36 rfl ?_
            exact ⟨_, rfl, h0 hb⟩

