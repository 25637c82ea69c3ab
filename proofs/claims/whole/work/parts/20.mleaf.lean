/-! MODEL, leaves -/
theorem s_isIn {d : Nat} {σ : zS} {Q : Int32 → zS → Prop} {v lo hi : Int32} (h1 : lo ≤ v → v ≤ hi → Q 1 σ) (h0 : ¬ (lo ≤ v ∧ v ≤ hi) → Q 0 σ) : zI1 d 164 [.ref 195, .int v, .int lo, .int hi] σ Q := by
  show zk _ _ 0 [.ref 195, .int v, .int lo, .int hi] [] _ _
  refine r_il1 zi_164_0 rfl ?_
  refine r_il2 zi_164_1 rfl ?_
  refine r_ic2 zi_164_2 rfl (fun c1 => ?_) (fun c1 => ?_)
  · refine r_push zi_164_14 rfl ?_
    refine r_retZ zi_164_15 rfl (by decide) ?_
    first | (exact ⟨_, rfl, h1 (by grind) (by grind)⟩) | (exact ⟨_, rfl, h0 (by grind)⟩)
  · refine r_il1 zi_164_5 rfl ?_
    refine r_il3 zi_164_6 rfl ?_
    refine r_ic4 zi_164_7 rfl (fun c2 => ?_) (fun c2 => ?_)
    · refine r_push zi_164_14 rfl ?_
      refine r_retZ zi_164_15 rfl (by decide) ?_
      first | (exact ⟨_, rfl, h1 (by grind) (by grind)⟩) | (exact ⟨_, rfl, h0 (by grind)⟩)
    · refine r_push zi_164_10 rfl ?_
      refine r_goto zi_164_11 rfl ?_
      refine r_retZ zi_164_15 rfl (by decide) ?_
      first | (exact ⟨_, rfl, h1 (by grind) (by grind)⟩) | (exact ⟨_, rfl, h0 (by grind)⟩)
theorem s_held {d : Nat} {σ : zS} {Q : Int32 → zS → Prop} {v lo hi : Int32} (h : Q (if v < lo then lo else if hi < v then hi else v) σ) : zI1 d 165 [.ref 195, .int v, .int lo, .int hi] σ Q := by
  show zk _ _ 0 [.ref 195, .int v, .int lo, .int hi] [] _ _
  refine r_il1 zi_165_0 rfl ?_
  refine r_il2 zi_165_1 rfl ?_
  refine r_ic3 zi_165_2 rfl (fun c1 => ?_) (fun c1 => ?_)
  · refine r_il1 zi_165_9 rfl ?_
    refine r_il3 zi_165_10 rfl ?_
    refine r_ic5 zi_165_11 rfl (fun c2 => ?_) (fun c2 => ?_)
    · refine r_il1 zi_165_18 rfl ?_
      refine r_retI zi_165_19 rfl ?_
      exact ⟨_, rfl, by grind⟩
    · refine r_il3 zi_165_14 rfl ?_
      refine r_goto zi_165_15 rfl ?_
      refine r_retI zi_165_19 rfl ?_
      exact ⟨_, rfl, by grind⟩
  · refine r_il2 zi_165_5 rfl ?_
    refine r_goto zi_165_6 rfl ?_
    refine r_retI zi_165_19 rfl ?_
    exact ⟨_, rfl, by grind⟩
theorem s_greater {d : Nat} {σ : zS} {Q : Int32 → zS → Prop} {a b : Int32} (h : Q (if b < a then a else b) σ) : zI1 d 166 [.ref 195, .int a, .int b] σ Q := by
  show zk _ _ 0 [.ref 195, .int a, .int b] [] _ _
  refine r_il1 zi_166_0 rfl ?_
  refine r_il2 zi_166_1 rfl ?_
  refine r_ic5 zi_166_2 rfl (fun c1 => ?_) (fun c1 => ?_)
  · refine r_il2 zi_166_9 rfl ?_
    refine r_retI zi_166_10 rfl ?_
    exact ⟨_, rfl, by grind⟩
  · refine r_il1 zi_166_5 rfl ?_
    refine r_goto zi_166_6 rfl ?_
    refine r_retI zi_166_10 rfl ?_
    exact ⟨_, rfl, by grind⟩
theorem s_lesser {d : Nat} {σ : zS} {Q : Int32 → zS → Prop} {a b : Int32} (h : Q (if a < b then a else b) σ) : zI1 d 167 [.ref 195, .int a, .int b] σ Q := by
  show zk _ _ 0 [.ref 195, .int a, .int b] [] _ _
  refine r_il1 zi_167_0 rfl ?_
  refine r_il2 zi_167_1 rfl ?_
  refine r_ic3 zi_167_2 rfl (fun c1 => ?_) (fun c1 => ?_)
  · refine r_il2 zi_167_9 rfl ?_
    refine r_retI zi_167_10 rfl ?_
    exact ⟨_, rfl, by grind⟩
  · refine r_il1 zi_167_5 rfl ?_
    refine r_goto zi_167_6 rfl ?_
    refine r_retI zi_167_10 rfl ?_
    exact ⟨_, rfl, by grind⟩
theorem s_apart {d : Nat} {σ : zS} {Q : Int32 → zS → Prop} {a b : Int32} (h : Q (if b < a then a - b else b - a) σ) : zI1 d 168 [.ref 195, .int a, .int b] σ Q := by
  show zk _ _ 0 [.ref 195, .int a, .int b] [] _ _
  refine r_il1 zi_168_0 rfl ?_
  refine r_il2 zi_168_1 rfl ?_
  refine r_ic5 zi_168_2 rfl (fun c1 => ?_) (fun c1 => ?_)
  · refine r_il2 zi_168_11 rfl ?_
    refine r_il1 zi_168_12 rfl ?_
    refine r_b1 zi_168_13 rfl ?_
    refine r_retI zi_168_14 rfl ?_
    exact ⟨_, rfl, by grind⟩
  · refine r_il1 zi_168_5 rfl ?_
    refine r_il2 zi_168_6 rfl ?_
    refine r_b1 zi_168_7 rfl ?_
    refine r_goto zi_168_8 rfl ?_
    refine r_retI zi_168_14 rfl ?_
    exact ⟨_, rfl, by grind⟩
theorem s_has {d : Nat} {σ : zS} {Q : Int32 → zS → Prop} {a k : Int32} (h1 : a >>> (k &&& 31) &&& 1 = 1 → Q 1 σ) (h0 : ¬ a >>> (k &&& 31) &&& 1 = 1 → Q 0 σ) : zI1 d 170 [.ref 195, .int a, .int k] σ Q := by
  show zk _ _ 0 [.ref 195, .int a, .int k] [] _ _
  refine r_il1 zi_170_0 rfl ?_
  refine r_il2 zi_170_1 rfl ?_
  refine r_b7 zi_170_2 rfl ?_
  refine r_push zi_170_3 rfl ?_
  refine r_b3 zi_170_4 rfl ?_
  refine r_push zi_170_5 rfl ?_
  refine r_ic1 zi_170_6 rfl (fun c1 => ?_) (fun c1 => ?_)
  · refine r_push zi_170_13 rfl ?_
    refine r_retZ zi_170_14 rfl (by decide) ?_
    first | (exact ⟨_, rfl, h1 (by grind)⟩) | (exact ⟨_, rfl, h0 (by grind)⟩)
  · refine r_push zi_170_9 rfl ?_
    refine r_goto zi_170_10 rfl ?_
    refine r_retZ zi_170_14 rfl (by decide) ?_
    first | (exact ⟨_, rfl, h1 (by grind)⟩) | (exact ⟨_, rfl, h0 (by grind)⟩)
theorem s_mplace {d : Nat} {σ : zS} {Q : Int32 → zS → Prop} {p : Int32} (h1 : 0 ≤ p → p < 12 → Q 1 σ) (h0 : ¬ (0 ≤ p ∧ p < 12) → Q 0 σ) : zI1 d 177 [.ref 195, .int p] σ Q := by
  show zk _ _ 0 [.ref 195, .int p] [] _ _
  refine r_il1 zi_177_0 rfl ?_
  refine r_if2 zi_177_1 rfl (fun c1 => ?_) (fun c1 => ?_)
  · refine r_push zi_177_14 rfl ?_
    refine r_retZ zi_177_15 rfl (by decide) ?_
    first | (exact ⟨_, rfl, h1 (by grind) (by grind)⟩) | (exact ⟨_, rfl, h0 (by grind)⟩)
  · refine r_il1 zi_177_4 rfl ?_
    refine r_push zi_177_5 rfl ?_
    refine r_ic3 zi_177_7 rfl (fun c2 => ?_) (fun c2 => ?_)
    · refine r_push zi_177_14 rfl ?_
      refine r_retZ zi_177_15 rfl (by decide) ?_
      first | (exact ⟨_, rfl, h1 (by grind) (by grind)⟩) | (exact ⟨_, rfl, h0 (by grind)⟩)
    · refine r_push zi_177_10 rfl ?_
      refine r_goto zi_177_11 rfl ?_
      refine r_retZ zi_177_15 rfl (by decide) ?_
      first | (exact ⟨_, rfl, h1 (by grind) (by grind)⟩) | (exact ⟨_, rfl, h0 (by grind)⟩)
theorem s_msubj {d : Nat} {σ : zS} {Q : Int32 → zS → Prop} {p : Int32} (h1 : 0 ≤ p → p < σ 195 6 → Q 1 σ) (h0 : ¬ (0 ≤ p ∧ p < σ 195 6) → Q 0 σ) : zI1 d 178 [.ref 195, .int p] σ Q := by
  show zk _ _ 0 [.ref 195, .int p] [] _ _
  refine r_il1 zi_178_0 rfl ?_
  refine r_if2 zi_178_1 rfl (fun c1 => ?_) (fun c1 => ?_)
  · refine r_push zi_178_16 rfl ?_
    refine r_retZ zi_178_17 rfl (by decide) ?_
    first | (exact ⟨_, rfl, h1 (by grind) (by grind)⟩) | (exact ⟨_, rfl, h0 (by grind)⟩)
  · refine r_il1 zi_178_4 rfl ?_
    refine r_al0 zi_178_5 rfl ?_
    refine q_getI zi_178_6 rfl cf_195_6 ?_
    refine r_ic3 zi_178_9 rfl (fun c2 => ?_) (fun c2 => ?_)
    · refine r_push zi_178_16 rfl ?_
      refine r_retZ zi_178_17 rfl (by decide) ?_
      first | (exact ⟨_, rfl, h1 (by grind) (by grind)⟩) | (exact ⟨_, rfl, h0 (by grind)⟩)
    · refine r_push zi_178_12 rfl ?_
      refine r_goto zi_178_13 rfl ?_
      refine r_retZ zi_178_17 rfl (by decide) ?_
      first | (exact ⟨_, rfl, h1 (by grind) (by grind)⟩) | (exact ⟨_, rfl, h0 (by grind)⟩)
theorem s_malive {d : Nat} {σ : zS} {Q : Int32 → zS → Prop} {s : Nat} (hs : s < 18) (h1 : σ 196 (66 + s) = 0 → Q 1 σ) (h0 : ¬ σ 196 (66 + s) = 0 → Q 0 σ) : zI1 d 179 [.ref 195, .int (nI s)] σ Q := by
  show zk _ _ 0 [.ref 195, .int (nI s)] [] _ _
  refine r_al0 zi_179_0 rfl ?_
  refine q_getR zi_179_1 rfl cf_195_1 ?_
  refine r_push zi_179_4 rfl ?_
  refine r_il1 zi_179_6 rfl ?_
  refine r_b0 zi_179_7 rfl ?_
  rw [show (66 + nI s : Int32) = nI (66 + s) from nI_add _ _]
  refine r_ald zi_179_8 rfl (66 + s) ca_196 (by first | rfl | (simp only [zI_add, zI_mul] <;> rfl)) (by first | omega | decide) ?_
  refine r_if1 zi_179_9 rfl (fun c1 => ?_) (fun c1 => ?_)
  · refine r_push zi_179_16 rfl ?_
    refine r_retZ zi_179_17 rfl (by decide) ?_
    first | (exact ⟨_, rfl, h1 (by grind)⟩) | (exact ⟨_, rfl, h0 (by grind)⟩)
  · refine r_push zi_179_12 rfl ?_
    refine r_goto zi_179_13 rfl ?_
    refine r_retZ zi_179_17 rfl (by decide) ?_
    first | (exact ⟨_, rfl, h1 (by grind)⟩) | (exact ⟨_, rfl, h0 (by grind)⟩)

