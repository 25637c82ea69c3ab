/-! THE START: the world behind the constructors -/
def z0 : zS := fun a b =>
  if a = 203 then nI (tkMw.getD b 0)
  else if a = 29 ∨ a = 66 then (if b / 12 = b % 12 then 0 else -1)
  else if a = 3 ∨ a = 40 ∨ a = 76 ∨ a = 98 ∨ a = 110 ∨ a = 122 ∨ a = 134 ∨ a = 146 ∨ a = 158 then 5
  else if a = 11 ∨ a = 48 ∨ a = 84 ∨ a = 106 ∨ a = 118 ∨ a = 130 ∨ a = 142 ∨ a = 154 ∨ a = 166 then -1
  else if (a = 170 ∧ b = 5) ∨ (a = 195 ∧ b = 32) then -1
  else if a = 91 ∧ b = 3 then 1
  else 0
def zeqv (x y : Value) : Bool := match x, y with
  | .int a, .int b => decide (a = b)
  | .ref a, .ref b => decide (a = b)
  | .null, .null => true
  | _, _ => false
theorem zeqv_s {x y : Value} (h : zeqv x y = true) : x = y := by
  unfold zeqv at h
  split at h
  · rw [of_decide_eq_true h]
  · rw [of_decide_eq_true h]
  · rfl
  · cases h
def zeql {α : Type} (f : α → α → Bool) : List α → List α → Bool
  | [], [] => true
  | x :: l, y :: k => f x y && zeql f l k
  | _, _ => false
theorem zeql_s {α : Type} {f : α → α → Bool} (hf : ∀ x y, f x y = true → x = y) : ∀ (l k : List α), zeql f l k = true → l = k
  | [], [], _ => rfl
  | x :: l, y :: k, h => by
    have h2 := (Bool.and_eq_true _ _).mp h
    rw [hf x y h2.1, zeql_s hf l k h2.2]
  | [], _ :: _, h => by cases h
  | _ :: _, [], h => by cases h
def zeqc (x y : zC) : Bool := match x, y with
  | .inl a, .inl b => zeql (fun p q => decide (p = q)) a b
  | .inr (.inl a), .inr (.inl b) => zeql (fun p q => decide (p = q)) a b
  | .inr (.inr a), .inr (.inr b) => decide (a.1 = b.1) && zeql zeqv a.2 b.2
  | _, _ => false
theorem zeqc_s {x y : zC} (h : zeqc x y = true) : x = y := by
  unfold zeqc at h
  split at h
  · rw [zeql_s (fun _ _ h => of_decide_eq_true h) _ _ h]
  · rw [zeql_s (fun _ _ h => of_decide_eq_true h) _ _ h]
  · rename_i a b
    have h2 := (Bool.and_eq_true _ _).mp h
    have e1 := of_decide_eq_true h2.1
    have e2 := zeql_s (fun _ _ h => zeqv_s h) _ _ h2.2
    obtain ⟨a1, a2⟩ := a
    obtain ⟨b1, b2⟩ := b
    simp only at e1 e2
    rw [e1, e2]
  · cases h
noncomputable def zrW (f d y : Nat) (L : List Value) (w v : zW) : Bool := match zrun f d y 0 L [] w with
  | some (none, u) => zeql zeqc u v
  | _ => false
theorem zrW_s {f d y : Nat} {L : List Value} {w v : zW} (h : zrW f d y L w v = true) : zrun f d y 0 L [] w = some (none, v) := by
  unfold zrW at h
  split at h
  · rename_i u e
    rw [e, zeql_s (fun _ _ h => zeqc_s h) _ _ h]
  · cases h
noncomputable def zw0 : zW := [.inr (.inr (11, (List.range 11).map fun k => zdv (zty 11 k)))]
noncomputable def zwm : zC := .inr (.inr (12, (List.range 70).map fun k => zdv (zty 12 k)))
/-- the same world, its rows of one number laid at once -/
def z0l (a n : Nat) : List Int32 :=
  if a = 203 then (List.range n).map (fun b => nI (tkMw.getD b 0))
  else if a = 29 ∨ a = 66 then (List.range n).map (fun b => if b / 12 = b % 12 then 0 else -1)
  else if a = 3 ∨ a = 40 ∨ a = 76 ∨ a = 98 ∨ a = 110 ∨ a = 122 ∨ a = 134 ∨ a = 146 ∨ a = 158 then List.replicate n 5
  else if a = 11 ∨ a = 48 ∨ a = 84 ∨ a = 106 ∨ a = 118 ∨ a = 130 ∨ a = 142 ∨ a = 154 ∨ a = 166 then List.replicate n (-1)
  else if a = 170 ∨ a = 195 ∨ a = 91 then (List.range n).map (z0 a)
  else List.replicate n 0
theorem zrep (n : Nat) (c : Int32) (f : Nat → Int32) (h : ∀ b, f b = c) : (List.range n).map f = List.replicate n c := by
  rw [show f = fun _ => c from funext h, List.map_const', List.length_range]
theorem z0l_e (a n : Nat) : (List.range n).map (z0 a) = z0l a n := by
  unfold z0l
  by_cases h1 : a = 203
  · rw [if_pos h1]; congr 1; funext b; unfold z0; rw [if_pos h1]
  · rw [if_neg h1]
    by_cases h2 : a = 29 ∨ a = 66
    · rw [if_pos h2]; congr 1; funext b; unfold z0; rw [if_neg h1, if_pos h2]
    · rw [if_neg h2]
      by_cases h3 : a = 3 ∨ a = 40 ∨ a = 76 ∨ a = 98 ∨ a = 110 ∨ a = 122 ∨ a = 134 ∨ a = 146 ∨ a = 158
      · rw [if_pos h3]; exact zrep n 5 _ (fun b => by unfold z0; rw [if_neg h1, if_neg h2, if_pos h3])
      · rw [if_neg h3]
        by_cases h4 : a = 11 ∨ a = 48 ∨ a = 84 ∨ a = 106 ∨ a = 118 ∨ a = 130 ∨ a = 142 ∨ a = 154 ∨ a = 166
        · rw [if_pos h4]; exact zrep n (-1) _ (fun b => by unfold z0; rw [if_neg h1, if_neg h2, if_neg h3, if_pos h4])
        · rw [if_neg h4]
          by_cases h5 : a = 170 ∨ a = 195 ∨ a = 91
          · rw [if_pos h5]
          · rw [if_neg h5]; exact zrep n 0 _ (fun b => by unfold z0; rw [if_neg h1, if_neg h2, if_neg h3, if_neg h4, if_neg (by omega), if_neg (by omega)])
def z0c (k : Nat) : zC := match zsh k with
  | .inl n => .inl (z0l k n)
  | h => zcel z0 k h
def z0w (n m : Nat) : zW := (List.range m).map fun k => z0c (n + k)
theorem z0c_e (k : Nat) : zcel z0 k (zsh k) = z0c k := by
  unfold z0c
  cases zsh k with
  | inl n =>
    show (Sum.inl ((List.range n).map (z0 k)) : zC) = Sum.inl (z0l k n)
    rw [z0l_e]
  | inr h => rfl
theorem z0w_e : zwl z0 = z0w 0 238 := by
  unfold zwl z0w
  apply List.map_congr_left
  intro k _
  rw [Nat.zero_add]
  exact z0c_e k

