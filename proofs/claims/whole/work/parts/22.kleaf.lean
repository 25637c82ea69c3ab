/-! CLASS, leaves -/
theorem s_within {d : Nat} {σ : zS} {Q : Int32 → zS → Prop} {v lo hi : Int32} (h1 : lo ≤ v → v ≤ hi → Q 1 σ) (h0 : ¬ (lo ≤ v ∧ v ≤ hi) → Q 0 σ) : zI1 d 157 [.int v, .int lo, .int hi] σ Q := by
  show zk _ _ 0 [.int v, .int lo, .int hi] [] _ _
  refine r_il0 zi_157_0 rfl ?_
  refine r_il1 zi_157_1 rfl ?_
  refine r_ic2 zi_157_2 rfl (fun c1 => ?_) (fun c1 => ?_)
  · refine r_push zi_157_14 rfl ?_
    refine r_retZ zi_157_15 rfl (by decide) ?_
    first | (exact ⟨_, rfl, h1 (by grind) (by grind)⟩) | (exact ⟨_, rfl, h0 (by grind)⟩)
  · refine r_il0 zi_157_5 rfl ?_
    refine r_il2 zi_157_6 rfl ?_
    refine r_ic4 zi_157_7 rfl (fun c2 => ?_) (fun c2 => ?_)
    · refine r_push zi_157_14 rfl ?_
      refine r_retZ zi_157_15 rfl (by decide) ?_
      first | (exact ⟨_, rfl, h1 (by grind) (by grind)⟩) | (exact ⟨_, rfl, h0 (by grind)⟩)
    · refine r_push zi_157_10 rfl ?_
      refine r_goto zi_157_11 rfl ?_
      refine r_retZ zi_157_15 rfl (by decide) ?_
      first | (exact ⟨_, rfl, h1 (by grind) (by grind)⟩) | (exact ⟨_, rfl, h0 (by grind)⟩)
theorem s_kplace {d : Nat} {σ : zS} {Q : Int32 → zS → Prop} {v : Int32} (h1 : 0 ≤ v → v < 12 → Q 1 σ) (h0 : ¬ (0 ≤ v ∧ v < 12) → Q 0 σ) : zI1 d 159 [.int v] σ Q := by
  show zk _ _ 0 [.int v] [] _ _
  refine r_il0 zi_159_0 rfl ?_
  refine r_if2 zi_159_1 rfl (fun c1 => ?_) (fun c1 => ?_)
  · refine r_push zi_159_14 rfl ?_
    refine r_retZ zi_159_15 rfl (by decide) ?_
    first | (exact ⟨_, rfl, h1 (by grind) (by grind)⟩) | (exact ⟨_, rfl, h0 (by grind)⟩)
  · refine r_il0 zi_159_4 rfl ?_
    refine r_push zi_159_5 rfl ?_
    refine r_ic3 zi_159_7 rfl (fun c2 => ?_) (fun c2 => ?_)
    · refine r_push zi_159_14 rfl ?_
      refine r_retZ zi_159_15 rfl (by decide) ?_
      first | (exact ⟨_, rfl, h1 (by grind) (by grind)⟩) | (exact ⟨_, rfl, h0 (by grind)⟩)
    · refine r_push zi_159_10 rfl ?_
      refine r_goto zi_159_11 rfl ?_
      refine r_retZ zi_159_15 rfl (by decide) ?_
      first | (exact ⟨_, rfl, h1 (by grind) (by grind)⟩) | (exact ⟨_, rfl, h0 (by grind)⟩)
theorem zheld_eq (v lo hi : Int32) (h : lo ≤ hi) : (if lo < (if hi < v then hi else v) then (if hi < v then hi else v) else lo) = (if v < lo then lo else if hi < v then hi else v) := by grind
theorem s_kheld {d : Nat} {σ : zS} {Q : Int32 → zS → Prop} {v lo hi : Int32} (h : Q (if lo < (if hi < v then hi else v) then (if hi < v then hi else v) else lo) σ) : zI1 d 158 [.int v, .int lo, .int hi] σ Q := by
  show zk _ _ 0 [.int v, .int lo, .int hi] [] _ _
  refine r_il1 zi_158_0 rfl ?_
  refine r_il2 zi_158_1 rfl ?_
  refine r_il0 zi_158_2 rfl ?_
  refine r_min zi_158_3 rfl ?_
  refine r_max zi_158_6 rfl ?_
  refine r_retI zi_158_9 rfl ?_
  exact ⟨_, rfl, h⟩

