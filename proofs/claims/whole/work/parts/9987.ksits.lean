/-! sits in the class: its parts as calls -/
theorem s_kmost {d n : Nat} {σ V : zS} {Q : Int32 → zS → Prop} (hV : zVk σ 2 false V) (hg : zVg V n) (hq : Q (nI (zMo V n 12)) σ) : zI1 (d + 1) 56 [.ref 1] σ Q := by
  show zk _ _ 0 [.ref 1, zun, zun] [] _ _
  refine r_push zi_56_0 rfl ?_
  refine r_is1 zi_56_1 rfl ?_
  refine r_push zi_56_2 rfl ?_
  refine r_is2 zi_56_3 rfl ?_
  exact l_kmost hV hg hq 12 0 (by omega)
theorem s_kmeeting {d n : Nat} {σ V : zS} {Q : Int32 → zS → Prop} {B : Nat → Int32} (hV : zVk σ 2 false V) (hg : zVg V n) (hB : σ 28 = B) (hBk : zBok B) (hh : zhd σ 27) (hq : Q (if zMb (fun p => zRt V n B p 18) 12 = 12 then -1 else nI (zMb (fun p => zRt V n B p 18) 12)) σ) : zI1 (d + 4) 57 [.ref 1] σ Q := by
  show zk _ _ 0 [.ref 1, zun, zun, zun, zun] [] _ _
  refine r_push zi_57_0 rfl ?_
  refine r_is1 zi_57_1 rfl ?_
  refine r_push zi_57_2 rfl ?_
  refine r_is2 zi_57_3 rfl ?_
  refine r_push zi_57_4 rfl ?_
  refine r_is3 zi_57_5 rfl ?_
  exact l_kmeeting (d := d + 3) (R := fun p => zRt V n B p 18) (fun p Q2 hp h2 => s_kmeet hV hg hB hBk hh hp h2) hq 12 0 _ (by omega)

