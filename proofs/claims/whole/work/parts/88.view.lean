/-! A DUCHY in the abstract: rows 0 to 10 as the class has them, row 11 its numbers, row 12 the book -/
def zmx0 (v : Int32) : Int32 := if v < 0 then 0 else v
def zmn9 (v : Int32) : Int32 := if 99 < v then 99 else v
abbrev zTe : Type := Nat → (Nat → Int32) → Int32
def zFv (V : zS) (n : Nat) (sb : Bool) (s p : Nat) (wh : Int32) (j : Nat) : Int32 := match j with
  | 0 => if sb = true then V 4 s else 0
  | 1 => if sb = true then V 5 s else 0
  | 2 => if sb = true then wh else 0
  | 3 => V 1 p
  | 4 => V 2 p
  | 5 => V 0 p
  | 6 => V 11 14
  | 7 => nI (zpop (zset (fun s => decide (V 6 s = 1) && decide (V 3 s = nI p)) n))
  | 8 => if sb = true then V 7 s else 0
  | _ => V 11 17
def dW (th : Bool) (wh who mu : Int32) (V : zS) : zS :=
  if th = true ∨ V 11 19 = 150 then V else
  up (up (up (up (up V 12 (un (V 11 19) * 4) (V 11 17)) 12 (un (V 11 19) * 4 + 1) wh) 12 (un (V 11 19) * 4 + 2) who) 12 (un (V 11 19) * 4 + 3) mu) 11 19 (V 11 19 + 1)
def dDn (T : zTe) (B : Nat → Int32) (n : Nat) (V : zS) (s w a : Nat) : zS :=
  if w = 0 then up (up (up V 7 s (V 7 s + 1)) 5 s (zmn9 (V 5 s + T 1 (zFv V n true s (un (V 3 s)) (nI w))))) 3 s (nI (ztw B (un (V 3 s)) a))
  else if w = 1 then up (up V 7 s (V 7 s + 1)) 5 s (zmx0 (V 5 s - 20))
  else if w = 2 then up (up (up V 7 s (V 7 s + 1)) 5 s (zmn9 (V 5 s + T 1 (zFv V n true s (un (V 3 s)) (nI w))))) 2 (un (V 3 s)) (zmn9 (V 2 (un (V 3 s)) + 3))
  else if w = 3 then up (up (up V 7 s (V 7 s + 1)) 5 s (zmn9 (V 5 s + T 1 (zFv V n true s (un (V 3 s)) (nI w))))) 1 (un (V 3 s)) (zmx0 (V 1 (un (V 3 s)) - 5))
  else up (up V 7 s (V 7 s + 1)) 5 s (zmn9 (V 5 s + T 1 (zFv V n true s (un (V 3 s)) (nI w))))
def dOd (T : zTe) (n : Nat) (V : zS) (s w : Nat) : Int32 := T 0 (zFv V n true s (un (V 3 s)) (nI w))
/-- whether it is obeyed, and the duchy behind the draw -/
def dIs (T : zTe) (n : Nat) (th : Bool) (V : zS) (s w : Nat) : Bool := if th = true then decide (500 ≤ dOd T n V s w) else decide (0 < dOd T n V s w ∧ zdw (V 11 18) 1000 < dOd T n V s w)
def dDr (T : zTe) (n : Nat) (th : Bool) (V : zS) (s w : Nat) : zS := if th = false ∧ 0 < dOd T n V s w then up V 11 18 (zdr (V 11 18)) else V
def dOb (T : zTe) (B : Nat → Int32) (n : Nat) (th : Bool) (V : zS) (s w a : Nat) : zS :=
  if dIs T n th V s w = true then dW th 0 (nI s) (nI w) (dDn T B n (dDr T n th V s w) s w a)
  else dW th 1 (nI s) (nI w) (up (dDr T n th V s w) 11 16 (V 11 16 + 1))
def dSp (th : Bool) (V : zS) (s : Nat) : zS := up (dW th 2 (nI s) (if V 8 s = -1 then -1 else V 8 s % 10) V) 8 s (-1)
/-- an order -/
def dOr (T : zTe) (B : Nat → Int32) (n : Nat) (th : Bool) (V : zS) (s d : Nat) (g : Bool) : zS :=
  if ¬ V 6 s = 1 then V else if d % 10 = 5 then dSp th V s
  else if g = true then up (dOb T B n th V s (d % 10) (d / 10)) 8 s (nI d) else dOb T B n th V s (d % 10) (d / 10)
def dOc (T : zTe) (n : Nat) (th : Bool) (V : zS) (s d : Nat) : Nat := if V 6 s = 1 ∧ ¬ d % 10 = 5 ∧ dIs T n th V s (d % 10) = true then 1 else 0
/-- how the class holds it: at cell k -/
def zVk (σ : zS) (k : Nat) (th : Bool) (V : zS) : Prop := (∀ j, j < 11 → ∀ i, σ (k + 1 + j) i = V j i) ∧ (∀ f, 11 ≤ f → f < 20 → σ k f = V 11 f) ∧ (th = false → ∀ i, σ 14 i = V 12 i)
def zKk (k : Nat) : Prop := k = 2 ∨ k = 75
theorem zVk_a {σ : zS} {k j i : Nat} {th : Bool} {V : zS} {v : Int32} (hk : zKk k) (h : zVk σ k th V) (hj : j < 11) : zVk (up σ (k + 1 + j) i v) k th (up V j i v) := by
  have hk' : k = 2 ∨ k = 75 := hk
  refine ⟨fun j' hj' i' => ?_, fun f h1 h2 => ?_, fun ht i' => ?_⟩
  · rw [up_rd, up_rd]
    by_cases e : j' = j ∧ i' = i
    · rw [if_pos ⟨by omega, e.2⟩, if_pos e]
    · rw [if_neg (fun z => e ⟨by omega, z.2⟩), if_neg e]; exact h.1 j' hj' i'
  · rw [zup_ne (by omega), zup_ne (by omega)]; exact h.2.1 f h1 h2
  · rw [zup_ne (by omega), zup_ne (by omega)]; exact h.2.2 ht i'
theorem zVk_f {σ : zS} {k f : Nat} {th : Bool} {V : zS} {v : Int32} (hk : zKk k) (h : zVk σ k th V) (hf : 11 ≤ f) (hf2 : f < 20) : zVk (up σ k f v) k th (up V 11 f v) := by
  have hk' : k = 2 ∨ k = 75 := hk
  refine ⟨fun j' hj' i' => ?_, fun f' h1 h2 => ?_, fun ht i' => ?_⟩
  · rw [zup_ne (by omega), zup_ne (by omega)]; exact h.1 j' hj' i'
  · rw [up_rd, up_rd]
    by_cases e : f' = f
    · rw [if_pos ⟨rfl, e⟩, if_pos ⟨rfl, e⟩]
    · rw [if_neg (fun z => e z.2), if_neg (fun z => e z.2)]; exact h.2.1 f' h1 h2
  · rw [zup_ne (by omega), zup_ne (by omega)]; exact h.2.2 ht i'
theorem zVk_b {σ : zS} {k i : Nat} {th : Bool} {V : zS} {v : Int32} (hk : zKk k) (h : zVk σ k th V) : zVk (up σ 14 i v) k th (up V 12 i v) := by
  have hk' : k = 2 ∨ k = 75 := hk
  refine ⟨fun j' hj' i' => ?_, fun f' h1 h2 => ?_, fun ht i' => ?_⟩
  · rw [zup_ne (by omega), zup_ne (by omega)]; exact h.1 j' hj' i'
  · rw [zup_ne (by omega), zup_ne (by omega)]; exact h.2.1 f' h1 h2
  · rw [up_rd, up_rd]
    by_cases e : i' = i
    · rw [if_pos ⟨rfl, e⟩, if_pos ⟨rfl, e⟩]
    · rw [if_neg (fun z => e z.2), if_neg (fun z => e z.2)]; exact h.2.2 ht i'
theorem zVk_o {σ τ : zS} {k : Nat} {th : Bool} {V : zS} {l : List Nat} (hk : zKk k) (h : zVk σ k th V) (hF : Fr l σ τ) (hl : ∀ c, c ∈ l → (c < k ∨ k + 11 < c) ∧ c ≠ 14) : zVk τ k th V := by
  have ne : ∀ c, (k ≤ c ∧ c ≤ k + 11) ∨ c = 14 → c ∉ l := fun c hc hm => by have := hl c hm; omega
  exact ⟨fun j hj i => (hF _ (ne _ (Or.inl ⟨by omega, by omega⟩)) i).trans (h.1 j hj i), fun f h1 h2 => (hF _ (ne _ (Or.inl ⟨by omega, by omega⟩)) f).trans (h.2.1 f h1 h2), fun ht i => (hF _ (ne _ (Or.inr rfl)) i).trans (h.2.2 ht i)⟩
theorem zfk_v {σ : zS} {k n s p : Nat} {th : Bool} {V : zS} {sb : Bool} {wh : Int32} (h : zVk σ k th V) : zfk σ k n sb s p wh = zFv V n sb s p wh := by
  have e : ∀ q, zka σ k q = fun s => decide (V 6 s = 1) && decide (V 3 s = q) := fun q => by
    funext s
    show (decide (σ (k + 1 + 6) s = 1) && decide (σ (k + 1 + 3) s = q)) = _
    rw [h.1 6 (by omega), h.1 3 (by omega)]
  funext j
  match j with
  | 0 => show (if sb = true then σ (k + 1 + 4) s else 0) = _; rw [h.1 4 (by omega)]; rfl
  | 1 => show (if sb = true then σ (k + 1 + 5) s else 0) = _; rw [h.1 5 (by omega)]; rfl
  | 2 => rfl
  | 3 => exact h.1 1 (by omega) p
  | 4 => exact h.1 2 (by omega) p
  | 5 => exact h.1 0 (by omega) p
  | 6 => exact h.2.1 14 (by omega) (by omega)
  | 7 => show nI (zpop (zset (zka σ k (nI p)) n)) = _; rw [e]; rfl
  | 8 => show (if sb = true then σ (k + 1 + 7) s else 0) = _; rw [h.1 7 (by omega)]; rfl
  | j + 9 => exact h.2.1 17 (by omega) (by omega)
/-- an abstract duchy that is good -/
def zOg (n : Nat) (o : Int32) : Prop := ∃ w a s g, w ≤ 5 ∧ a < 12 ∧ s < n ∧ g ≤ 1 ∧ (w = 5 → g = 0) ∧ o = nI (w + 10 * a + 1000 * s + 100000 * g)
def zVg (V : zS) (n : Nat) : Prop := V 11 11 = nI n ∧ n ≤ 18 ∧ (∀ s, s < n → ∃ a, a < 12 ∧ V 3 s = nI a) ∧ (∀ s, s < n → V 6 s = 0 ∨ V 6 s = 1) ∧ (∀ s, s < 18 → V 8 s = -1 ∨ (s < n ∧ ∃ w a, w ≤ 4 ∧ a < 12 ∧ V 8 s = nI (w + 10 * a))) ∧ (∃ t, t ≤ 24 ∧ V 11 12 = nI t ∧ ∀ i, i < t → zOg n (V 9 i)) ∧ (∃ t, t ≤ 24 ∧ V 11 13 = nI t ∧ ∀ i, i < t → zOg n (V 10 i)) ∧ (∃ w, w ≤ 150 ∧ V 11 19 = nI w)
theorem un_k {n : Nat} (h : n < 4294967296) : un (nI n) = n := un_nI h
/-- rows that a step leaves -/
def zSame (rs : List Nat) (V U : zS) : Prop := ∀ r, r ∉ rs → r ≠ 11 → ∀ i, U r i = V r i
theorem dW_r {th : Bool} {wh who mu : Int32} {V : zS} {r i : Nat} (h : r ≠ 12) (h2 : ¬ (r = 11 ∧ i = 19)) : dW th wh who mu V r i = V r i := by
  unfold dW
  split
  · rfl
  · rw [up_rd, if_neg h2, zup_ne h, zup_ne h, zup_ne h, zup_ne h]

