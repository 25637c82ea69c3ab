/-! THE LAW's codes: numbers, and the class's value -/
def zen (o a : Nat) : Nat := match o with
  | 0 => a
  | 1 => 10003 + a
  | 2 => 20043
  | 3 => 20045
  | 4 => 20042
  | 5 => 20047
  | 6 => 20060
  | 7 => 20061
  | 8 => 20062
  | 9 => 10016
  | 10 => 10015
  | _ => 10014
/-- what a sign joins -/
def ztwo (o : Nat) (x y : Int32) : Int32 := match o with
  | 2 => x + y
  | 3 => x - y
  | 4 => x * y
  | 5 => x / y
  | 6 => if x < y then 1 else 0
  | 7 => if x = y then 1 else 0
  | 8 => if y < x then 1 else 0
  | 10 => x * y
  | _ => if 0 < x + y then 1 else 0
def zes (F : Nat → Int32) (o a : Nat) (st : List Int32) : List Int32 := match o, st with
  | 0, st => nI a :: st
  | 1, st => F a :: st
  | 9, x :: st => (1 - x) :: st
  | o, y :: x :: st => ztwo o x y :: st
  | _, st => st
/-- kinds: 0 a number, 1 whether something is so, 2 a number that isn't 0 -/
def zkb2 (o k1 k2 : Nat) : Option Nat :=
  if o = 2 ∨ o = 3 ∨ o = 4 then (if k1 ≠ 1 ∧ k2 ≠ 1 then some 0 else none)
  else if o = 5 then (if k1 ≠ 1 ∧ k2 = 2 then some 0 else none)
  else if o = 6 ∨ o = 7 ∨ o = 8 then (if k1 ≠ 1 ∧ k2 ≠ 1 then some 1 else none)
  else if o = 10 ∨ o = 11 then (if k1 = 1 ∧ k2 = 1 then some 1 else none)
  else none
def zcs (o a : Nat) (ks : List Nat) : Option (List Nat) := match o, ks with
  | 0, ks => if a ≤ 9999 ∧ ks.length < 32 then some ((if a = 0 then 0 else 2) :: ks) else none
  | 1, ks => if a < 10 ∧ ks.length < 32 then some (0 :: ks) else none
  | 9, 1 :: ks => some (1 :: ks)
  | o, k2 :: k1 :: ks => (zkb2 o k1 k2).map (fun k => k :: ks)
  | _, _ => none
def zev (O A : Nat → Nat) (F : Nat → Int32) : Nat → Nat → List Int32 → List Int32
  | 0, _, st => st
  | n + 1, i, st => zev O A F n (i + 1) (zes F (O i) (A i) st)
def zck (O A : Nat → Nat) : Nat → Nat → List Nat → Option (List Nat)
  | 0, _, ks => some ks
  | n + 1, i, ks => match zcs (O i) (A i) ks with
    | none => none
    | some ks => zck O A n (i + 1) ks
def zok1 (k : Nat) (x : Int32) : Prop := (k = 1 → x = 0 ∨ x = 1) ∧ (k = 2 → x ≠ 0) ∧ k ≤ 2
def zTy : List Nat → List Int32 → Prop
  | [], [] => True
  | k :: ks, x :: st => zok1 k x ∧ zTy ks st
  | _, _ => False
theorem zTy_len : ∀ (ks : List Nat) (st : List Int32), zTy ks st → ks.length = st.length
  | [], [], _ => rfl
  | k :: ks, x :: st, h => by show ks.length + 1 = st.length + 1; rw [zTy_len ks st h.2]
  | [], _ :: _, h => absurd h id
  | _ :: _, [], h => absurd h id
theorem zkb2_ty {o k1 k2 k : Nat} {x y : Int32} (h : zkb2 o k1 k2 = some k) (hx : zok1 k1 x) (hy : zok1 k2 y) : zok1 k (ztwo o x y) := by
  unfold zkb2 at h
  have one : ∀ c : Prop, [Decidable c] → zok1 1 (if c then (1 : Int32) else 0) := fun c _ => by
    refine ⟨fun _ => ?_, fun z => by omega, by omega⟩
    by_cases hc : c
    · rw [if_pos hc]; exact Or.inr rfl
    · rw [if_neg hc]; exact Or.inl rfl
  have zer : ∀ v : Int32, zok1 0 v := fun v => ⟨fun z => by omega, fun z => by omega, by omega⟩
  split at h
  · split at h
    · cases h; exact zer _
    · cases h
  · split at h
    · split at h
      · cases h; exact zer _
      · cases h
    · split at h
      · rename_i h1 h2 h3
        split at h
        · cases h
          rcases h3 with e | e | e <;> subst e
          · exact one (x < y)
          · exact one (x = y)
          · exact one (y < x)
        · cases h
      · split at h
        · rename_i h1 h2 h3 h4
          split at h
          · rename_i h5
            cases h
            rcases h4 with e | e <;> subst e
            · show zok1 1 (x * y)
              refine ⟨fun _ => ?_, fun z => by omega, by omega⟩
              rcases hx.1 h5.1 with a | a <;> rcases hy.1 h5.2 with b | b <;> rw [a, b] <;> decide
            · exact one (0 < x + y)
          · cases h
        · cases h
theorem zcs_ty {o a : Nat} {F : Nat → Int32} {ks ks' : List Nat} {st : List Int32} (h : zcs o a ks = some ks') (ht : zTy ks st) : zTy ks' (zes F o a st) := by
  have hbin : ∀ (k2 k1 : Nat) (r : List Nat), ks = k2 :: k1 :: r → (zkb2 o k1 k2).map (fun k => k :: r) = some ks' → zes F o a st = (match st with | y :: x :: s => ztwo o x y :: s | s => s) → zTy ks' (zes F o a st) := by
    intro k2 k1 r hks hm he
    subst hks
    match st, ht with
    | y :: x :: s, ht =>
      obtain ⟨hy, hx, hr⟩ := ht
      rw [he]
      cases hz : zkb2 o k1 k2 with
      | none => rw [hz] at hm; cases hm
      | some k =>
        rw [hz] at hm
        cases hm
        exact ⟨zkb2_ty hz hx hy, hr⟩
    | [_], ht => exact absurd ht.2 id
    | [], ht => exact absurd ht id
  match o, ks, h, hbin with
  | 0, ks, h, _ =>
    change (if a ≤ 9999 ∧ ks.length < 32 then some ((if a = 0 then 0 else 2) :: ks) else none) = some ks' at h
    by_cases hc : a ≤ 9999 ∧ ks.length < 32
    · rw [if_pos hc] at h
      cases h
      refine ⟨?_, ht⟩
      by_cases h0 : a = 0
      · rw [if_pos h0]; exact ⟨fun z => by omega, fun z => by omega, by omega⟩
      · rw [if_neg h0]; exact ⟨fun z => by omega, fun _ => nI_ne0 (by omega) (by omega), by omega⟩
    · rw [if_neg hc] at h; cases h
  | 1, ks, h, _ =>
    change (if a < 10 ∧ ks.length < 32 then some (0 :: ks) else none) = some ks' at h
    by_cases hc : a < 10 ∧ ks.length < 32
    · rw [if_pos hc] at h
      cases h
      exact ⟨⟨fun z => by omega, fun z => by omega, by omega⟩, ht⟩
    · rw [if_neg hc] at h; cases h
  | 9, 1 :: ks, h, _ =>
    cases h
    match st, ht with
    | x :: s, ht =>
      refine ⟨⟨fun _ => ?_, fun z => by omega, by omega⟩, ht.2⟩
      rcases ht.1.1 rfl with e | e <;> rw [e] <;> decide
  | o + 2, k2 :: k1 :: ks, h, hbin => sorry
  | o, _, h, _ => sorry

