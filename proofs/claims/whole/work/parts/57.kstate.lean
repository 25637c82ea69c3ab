/-! CLASS: state -/
theorem s_forget {d : Nat} {σ : zS} {Q : zS → Prop} (h : Q (up σ 95 2 0)) : zV1 d 32 [.ref 95] σ Q := by
  show zk _ _ 0 [.ref 95] [] _ _
  refine r_al0 zi_32_0 rfl ?_
  refine r_push zi_32_1 rfl ?_
  refine q_put zi_32_2 rfl cf_95_2 rfl ?_
  refine r_ret zi_32_5 rfl ?_
  exact ⟨rfl, h⟩
theorem s_kstate {d : Nat} {σ : zS} {Q : Int32 → zS → Prop} {v : Int32} (h : Q (σ 2 18) (up (up σ 2 18 v) 95 2 0)) : zI1 (d + 1) 121 [.ref 0, .int v] σ Q := by
  show zk _ _ 0 [.ref 0, .int v, zun] [] _ _
  refine r_al0 zi_121_0 rfl ?_
  refine q_getR zi_121_1 rfl cf_0_0 ?_
  refine q_getR zi_121_4 rfl cf_1_0 ?_
  refine q_getI zi_121_7 rfl cf_2_18 ?_
  refine r_is2 zi_121_10 rfl ?_
  refine r_al0 zi_121_11 rfl ?_
  refine q_getR zi_121_12 rfl cf_0_0 ?_
  refine q_getR zi_121_15 rfl cf_1_0 ?_
  refine r_il1 zi_121_18 rfl ?_
  refine q_put zi_121_19 rfl cf_2_18 rfl ?_
  refine r_al0 zi_121_22 rfl ?_
  refine q_getR zi_121_23 rfl cf_0_6 ?_
  refine q_cVV zi_121_26 rfl rfl rfl rfl rfl rfl rfl cf_95_0.ob (s_forget ?_)
  show zk _ _ 29 _ _ _ _
  refine r_il2 zi_121_29 rfl ?_
  refine r_retI zi_121_30 rfl ?_
  exact ⟨_, rfl, h⟩

