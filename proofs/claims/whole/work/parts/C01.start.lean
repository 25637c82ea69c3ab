/-! THE START: the world behind the constructors -/
def z0 : zS := fun a b =>
  if a = 203 then nI (tkMw.getD b 0)
  else if a = 29 ∨ a = 66 then (if b / 12 = b % 12 then 0 else -1)
  else if a = 3 ∨ a = 40 ∨ a = 76 ∨ a = 98 ∨ a = 110 ∨ a = 122 ∨ a = 134 ∨ a = 146 ∨ a = 158 then 5
  else if a = 11 ∨ a = 48 ∨ a = 84 ∨ a = 106 ∨ a = 118 ∨ a = 130 ∨ a = 142 ∨ a = 154 ∨ a = 166 then -1
  else if (a = 170 ∧ b = 5) ∨ (a = 195 ∧ b = 32) then -1
  else if a = 91 ∧ b = 3 then 1
  else 0
def zeqv (x y : Value) : Bool := match x, y with
  | .int a, .int b => decide (a = b)
  | .ref a, .ref b => decide (a = b)
  | .null, .null => true
  | _, _ => false
theorem zeqv_s {x y : Value} (h : zeqv x y = true) : x = y := by
  unfold zeqv at h
  split at h
  · rw [of_decide_eq_true h]
  · rw [of_decide_eq_true h]
  · rfl
  · cases h
def zeql {α : Type} (f : α → α → Bool) : List α → List α → Bool
  | [], [] => true
  | x :: l, y :: k => f x y && zeql f l k
  | _, _ => false
theorem zeql_s {α : Type} {f : α → α → Bool} (hf : ∀ x y, f x y = true → x = y) : ∀ (l k : List α), zeql f l k = true → l = k
  | [], [], _ => rfl
  | x :: l, y :: k, h => by
    have h2 := (Bool.and_eq_true _ _).mp h
    rw [hf x y h2.1, zeql_s hf l k h2.2]
  | [], _ :: _, h => by cases h
  | _ :: _, [], h => by cases h
def zeqc (x y : zC) : Bool := match x, y with
  | .inl a, .inl b => zeql (fun p q => decide (p = q)) a b
  | .inr (.inl a), .inr (.inl b) => zeql (fun p q => decide (p = q)) a b
  | .inr (.inr a), .inr (.inr b) => decide (a.1 = b.1) && zeql zeqv a.2 b.2
  | _, _ => false
theorem zeqc_s {x y : zC} (h : zeqc x y = true) : x = y := by
  unfold zeqc at h
  split at h
  · rw [zeql_s (fun _ _ h => of_decide_eq_true h) _ _ h]
  · rw [zeql_s (fun _ _ h => of_decide_eq_true h) _ _ h]
  · rename_i a b
    have h2 := (Bool.and_eq_true _ _).mp h
    have e1 := of_decide_eq_true h2.1
    have e2 := zeql_s (fun _ _ h => zeqv_s h) _ _ h2.2
    obtain ⟨a1, a2⟩ := a
    obtain ⟨b1, b2⟩ := b
    simp only at e1 e2
    rw [e1, e2]
  · cases h
noncomputable def zrW (f d y : Nat) (L : List Value) (w v : zW) : Bool := match zrun f d y 0 L [] w with
  | some (none, u) => zeql zeqc u v
  | _ => false
theorem zrW_s {f d y : Nat} {L : List Value} {w v : zW} (h : zrW f d y L w v = true) : zrun f d y 0 L [] w = some (none, v) := by
  unfold zrW at h
  split at h
  · rename_i u e
    rw [e, zeql_s (fun _ _ h => zeqc_s h) _ _ h]
  · cases h
noncomputable def zw0 : zW := [.inr (.inr (11, (List.range 11).map fun k => zdv (zty 11 k)))]
noncomputable def zwm : zC := .inr (.inr (12, (List.range 70).map fun k => zdv (zty 12 k)))
set_option maxRecDepth 1000000 in
theorem zc_LO : zrW 20000 10 120 [.ref 0] zw0 ((zwl z0).take 195) = true := by decide +kernel
set_option maxRecDepth 1000000 in
theorem zc_M : zrW 5000 10 163 [.ref 195] ((zwl z0).take 195 ++ [zwm]) (zwl z0) = true := by decide +kernel

