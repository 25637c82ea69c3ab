/-! sits in the class, whole -/
theorem zset_no {f : Nat → Bool} {n : Nat} (hn : n ≤ 18) (h : ¬ ∃ q, q < n ∧ f q = true) : zset f n = 0 := by
  refine zbt_ext (fun k hk => ?_)
  rw [zset_bt (by omega) hk, zbt_0 hk]
  by_cases e : k < n
  · have : ¬ f k = true := fun z => h ⟨k, e, z⟩
    simp [e, this]
  · simp [e]
theorem zset_so {f : Nat → Bool} {n q : Nat} (hn : n ≤ 18) (hq : q < n) (hf : f q = true) : ¬ zset f n = 0 := fun z => by
  have h := zset_bt (f := f) (n := n) (k := q) (by omega) (by omega)
  rw [z, zbt_0 (by omega), decide_eq_true hq, hf] at h
  exact absurd h (by decide)
def zSi (V : zS) (n : Nat) (B : Nat → Int32) (q : Int32) : Int32 :=
  if q = 0 then nI (zMo V n 12) else if q = 1 then (if zset (fun s => decide (V 6 s = 1)) n = 0 then 0 else if zMb (fun p => zRt V n B p 18) 12 = 12 then -1 else nI (zRt V n B (zMb (fun p => zRt V n B p 18) 12) 18)) else if q = 2 then (if zset (fun s => decide (V 6 s = 1)) n = 0 then -1 else if zMb (fun p => zRt V n B p 18) 12 = 12 then -1 else nI (zMb (fun p => zRt V n B p 18) 12)) else -1

