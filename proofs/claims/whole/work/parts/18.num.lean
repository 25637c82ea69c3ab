/-! NUMBERS -/
theorem zI_rem {a d : Nat} (ha : a < 2 ^ 31) (h0 : 0 < d) (hd : d < 2 ^ 31) : nI a % nI d = nI (a % d) := by
  rw [zrem_eq (nI_ne0 h0 hd)]
  exact pk_rem ha h0 hd
theorem zI_of {v : Int32} {n : Nat} (h0 : 0 ≤ v) (h1 : v < nI n) (hn : n < 2 ^ 31) : ∃ k, k < n ∧ v = nI k := by
  rcases pk_ix v hn with h | h | h
  · exact absurd h0 (by grind)
  · exact absurd h (by grind)
  · exact h
theorem zI_ofle {v : Int32} {n : Nat} (h0 : 0 ≤ v) (h1 : v ≤ nI n) (hn : n < 2 ^ 30) : ∃ k, k ≤ n ∧ v = nI k := by
  obtain ⟨k, hk, e⟩ := zI_of (n := n + 1) h0 (by rw [zI_add]; show v < nI n + 1; have h2 : nI n < nI (n + 1) := nI_lt (by omega) (by omega); rw [zI_add] at h2; change nI n < nI n + 1 at h2; grind) (by omega)
  exact ⟨k, by omega, e⟩

