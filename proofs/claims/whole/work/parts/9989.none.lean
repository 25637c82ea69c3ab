/-! sits in the class: no place to meet -/
theorem s_farn {d a : Nat} {σ : zS} {Q : Int32 → zS → Prop} (ha : a < 12) (h : Q (-1) σ) : zI1 (d + 1) 118 [.ref 27, .int (nI a), .int (-1)] σ Q := by
  have la : nI a < 12 := nI_lt (b := 12) ha (by omega)
  have pa := nI_pos' (n := a) (by omega)
  show zk _ _ 0 [.ref 27, .int (nI a), .int (-1)] [] _ _
  refine r_il1 zi_118_0 rfl ?_
  refine r_cIS zi_118_1 rfl rfl rfl rfl rfl rfl (s_kplace (fun _ _ => ?_) (fun z => absurd ⟨pa, la⟩ z))
  show zk _ _ 4 _ _ _ _
  refine r_if0 zi_118_4 rfl (fun c => absurd c (by decide)) (fun _ => ?_)
  refine r_il2 zi_118_7 rfl ?_
  refine r_cIS zi_118_8 rfl rfl rfl rfl rfl rfl (s_kplace (fun z _ => absurd z (by decide)) (fun _ => ?_))
  show zk _ _ 11 _ _ _ _
  refine r_if0 zi_118_11 rfl (fun _ => ?_) (fun c => absurd (by decide) c)
  refine r_push zi_118_28 rfl ?_
  refine r_retI zi_118_29 rfl ?_
  exact ⟨_, rfl, h⟩

