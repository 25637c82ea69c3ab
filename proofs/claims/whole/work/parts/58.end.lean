/-! END, both sides -/
theorem s_mend {d : Nat} {σ : zS} {Q : Int32 → zS → Prop} {v : Int32} (h1 : 0 ≤ v → v ≤ σ 195 11 → Q 1 (up (up σ 195 0 0) 195 11 v)) (h0 : ¬ (0 ≤ v ∧ v ≤ σ 195 11) → Q 0 (up σ 195 0 0)) : zI1 (d + 1) 187 [.ref 195, .int v] σ Q := by
  show zk _ _ 0 [.ref 195, .int v] [] _ _
  refine r_al0 zi_187_0 rfl ?_
  refine r_push zi_187_1 rfl ?_
  refine q_put zi_187_2 rfl cf_195_0 rfl ?_
  refine r_al0 zi_187_5 rfl ?_
  refine r_il1 zi_187_6 rfl ?_
  refine r_push zi_187_7 rfl ?_
  refine r_al0 zi_187_8 rfl ?_
  refine q_getI zi_187_9 rfl cf_195_11 ?_
  rw [zup_nj (by decide)]
  refine q_cIV zi_187_12 rfl rfl rfl rfl rfl rfl rfl cf_195_0.ob (s_isIn (fun i1 a1 => ?_) (fun i1 => ?_))
  · show zk _ _ 15 _ _ _ _
    refine r_if1 zi_187_15 rfl (fun _ => ?_) (fun c => absurd c (by decide))
    refine r_al0 zi_187_20 rfl ?_
    refine r_il1 zi_187_21 rfl ?_
    refine q_put zi_187_22 rfl cf_195_11 rfl ?_
    refine r_push zi_187_25 rfl ?_
    refine r_retZ zi_187_26 rfl (by decide) ?_
    first | (exact ⟨_, rfl, h1 (by assumption) (by assumption)⟩) | (exact ⟨_, rfl, h0 (by assumption)⟩)
  · show zk _ _ 15 _ _ _ _
    refine r_if1 zi_187_15 rfl (fun c => absurd (by decide) c) (fun _ => ?_)
    refine r_push zi_187_18 rfl ?_
    refine r_retZ zi_187_19 rfl (by decide) ?_
    first | (exact ⟨_, rfl, h1 (by assumption) (by assumption)⟩) | (exact ⟨_, rfl, h0 (by assumption)⟩)
theorem s_kend {d : Nat} {σ : zS} {Q : Int32 → zS → Prop} {v : Int32} (h1 : 0 ≤ v → v ≤ σ 0 10 → Q 1 (up σ 0 10 v)) (h0 : ¬ (0 ≤ v ∧ v ≤ σ 0 10) → Q 0 σ) : zI1 d 128 [.ref 0, .int v] σ Q := by
  show zk _ _ 0 [.ref 0, .int v] [] _ _
  refine r_il1 zi_128_0 rfl ?_
  refine r_if2 zi_128_1 rfl (fun c1 => ?_) (fun c1 => ?_)
  · refine r_push zi_128_12 rfl ?_
    refine r_retZ zi_128_13 rfl (by decide) ?_
    first | (exact ⟨_, rfl, h1 (by grind) (by grind)⟩) | (exact ⟨_, rfl, h0 (by grind)⟩)
  · refine r_il1 zi_128_4 rfl ?_
    refine r_al0 zi_128_5 rfl ?_
    refine q_getI zi_128_6 rfl cf_0_10 ?_
    refine r_ic5 zi_128_9 rfl (fun c2 => ?_) (fun c2 => ?_)
    · refine r_al0 zi_128_14 rfl ?_
      refine r_il1 zi_128_15 rfl ?_
      refine q_put zi_128_16 rfl cf_0_10 rfl ?_
      refine r_push zi_128_19 rfl ?_
      refine r_retZ zi_128_20 rfl (by decide) ?_
      first | (exact ⟨_, rfl, h1 (by grind) (by grind)⟩) | (exact ⟨_, rfl, h0 (by grind)⟩)
    · refine r_push zi_128_12 rfl ?_
      refine r_retZ zi_128_13 rfl (by decide) ?_
      first | (exact ⟨_, rfl, h1 (by grind) (by grind)⟩) | (exact ⟨_, rfl, h0 (by grind)⟩)

