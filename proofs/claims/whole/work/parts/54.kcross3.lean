/-! CLASS: cross -/
theorem s_kcross {d c : Nat} {σ : zS} {Q : Int32 → zS → Prop} {r : Nat → Nat} {w : Int32} (hc : σ 36 1 = nI c) (hcN : c ≤ 10) (hr : ∀ k, k < c → r k < 10000 ∧ σ 37 k = nI (r k))
    (h0 : ¬ (0 ≤ w ∧ w ≤ 1) → Q (-1) σ) (h1 : w = 0 → Q (nI (zxt r c c)) σ) (h2 : w = 1 → ∀ τ, Fr [192] σ τ → Q (nI (zmx (zct r c c) c)) τ) : zI1 (d + 2) 148 [.ref 0, .int w] σ Q := by
  show zk _ _ 0 [.ref 0, .int w] [] _ _
  refine r_il1 zi_148_0 rfl ?_
  refine r_sw zi_148_1 rfl ?_
  by_cases c1_0 : w = 0
  · rw [c1_0]
    show zk _ _ 28 _ _ _ _
    refine r_al0 zi_148_28 rfl ?_
    refine q_getR zi_148_29 rfl cf_0_0 ?_
    refine q_getR zi_148_32 rfl cf_1_10 ?_
    refine r_cIS zi_148_35 rfl rfl rfl rfl rfl rfl (s_coup hc hcN hr ?_)
    show zk _ _ 38 _ _ _ _
    refine r_retI zi_148_38 rfl ?_
    exact ⟨_, rfl, h1 (by assumption)⟩
  by_cases c1_1 : w = 1
  · rw [c1_1]
    show zk _ _ 39 _ _ _ _
    refine r_al0 zi_148_39 rfl ?_
    refine q_getR zi_148_40 rfl cf_0_8 ?_
    refine r_al0 zi_148_43 rfl ?_
    refine q_getR zi_148_44 rfl cf_0_0 ?_
    refine q_getR zi_148_47 rfl cf_1_10 ?_
    refine q_cIV zi_148_50 rfl rfl rfl rfl rfl rfl rfl cf_177_0.ob (s_kroads hc hcN hr (fun τ hτ => ?_))
    show zk _ _ 53 _ _ _ _
    refine r_retI zi_148_53 rfl ?_
    exact ⟨_, rfl, h2 (by assumption) _ hτ⟩
  rw [show zsw [(0, 28), (1, 39)] 54 w = 54 from by simp [zsw, c1_0, c1_1]]
  refine r_push zi_148_54 rfl ?_
  refine r_retI zi_148_55 rfl ?_
  exact ⟨_, rfl, h0 (by grind)⟩

