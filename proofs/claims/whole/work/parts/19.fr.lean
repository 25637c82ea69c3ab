/-! FRAMES: what isn't in some cells stays -/
def Fr (l : List Nat) (σ τ : zS) : Prop := ∀ a, a ∉ l → ∀ b, τ a b = σ a b
theorem Fr.rf {l : List Nat} {σ : zS} : Fr l σ σ := fun _ _ _ => rfl
theorem Fr.tr {l : List Nat} {σ τ υ : zS} (h1 : Fr l σ τ) (h2 : Fr l τ υ) : Fr l σ υ := fun a ha b => (h2 a ha b).trans (h1 a ha b)
theorem zup_ne {σ : zS} {k i a b : Nat} {v : Int32} (h : a ≠ k) : up σ k i v a b = σ a b := if_neg (fun z => h z.1)
theorem zup_eq {σ : zS} {k i : Nat} {v : Int32} : up σ k i v k i = v := if_pos ⟨rfl, rfl⟩
theorem zup_nj {σ : zS} {k i a b : Nat} {v : Int32} (h : b ≠ i) : up σ k i v a b = σ a b := if_neg (fun z => h z.2)
theorem Fr.put {l : List Nat} {σ τ : zS} {k i : Nat} {v : Int32} (h : Fr l σ τ) (hk : k ∈ l) : Fr l σ (up τ k i v) := fun a ha b => by
  have hne : a ≠ k := fun e => ha (e ▸ hk)
  simp [zup_ne hne, h a ha b]
theorem Fr.sub {l m : List Nat} {σ τ : zS} (h : Fr l σ τ) (hs : ∀ a, a ∈ l → a ∈ m) : Fr m σ τ := fun a ha b => h a (fun h => ha (hs a h)) b
/-- a row filled up to a place -/
def fil (σ : zS) (k n : Nat) (f : Nat → Int32) : zS := fun a b => if a = k ∧ b < n then f b else σ a b
theorem fil_0 (σ : zS) (k : Nat) (f : Nat → Int32) : fil σ k 0 f = σ := by
  funext a b
  simp [fil]
theorem fil_s (σ : zS) (k n : Nat) (f : Nat → Int32) : up (fil σ k n f) k n (f n) = fil σ k (n + 1) f := by
  funext a b
  simp only [up, fil]
  by_cases h : a = k ∧ b = n
  · rw [if_pos h, if_pos ⟨h.1, by omega⟩, h.2]
  · rw [if_neg h]
    by_cases h2 : a = k ∧ b < n
    · rw [if_pos h2, if_pos ⟨h2.1, by omega⟩]
    · rw [if_neg h2, if_neg (by omega)]
theorem Fr.fil {l : List Nat} {σ τ : zS} {k n : Nat} {f : Nat → Int32} (h : Fr l σ τ) (hk : k ∈ l) : Fr l σ (fil τ k n f) := fun a ha b => by
  have hne : a ≠ k := fun e => ha (e ▸ hk)
  show (if a = k ∧ b < n then f b else τ a b) = σ a b
  rw [if_neg (fun z => hne z.1)]
  exact h a ha b

