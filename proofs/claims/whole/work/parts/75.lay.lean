/-! TOGETHER, numbers: how a word is laid, and the orders -/
def zln (w : Nat) : Nat := if 999 < w then 4 else if 99 < w then 3 else if 9 < w then 2 else 1
def zdg (w i : Nat) : Nat := w / 10 ^ (zln w - 1 - i) % 10
def zLs (r D : Nat → Nat) (a : Nat) : Nat → Bool
  | 0 => true
  | n + 1 => zLs r D a n && decide (r (a + n) = D n)
theorem zLs_iff {r D : Nat → Nat} {a : Nat} : ∀ n, zLs r D a n = true ↔ ∀ i, i < n → r (a + i) = D i
  | 0 => ⟨fun _ i hi => (by omega), fun _ => rfl⟩
  | n + 1 => by
    show (zLs r D a n && decide (r (a + n) = D n)) = true ↔ _
    rw [Bool.and_eq_true, zLs_iff n]
    constructor
    · rintro ⟨h1, h2⟩ i hi
      by_cases e : i = n
      · subst e; exact of_decide_eq_true h2
      · exact h1 i (by omega)
    · exact fun h => ⟨fun i hi => h i (by omega), decide_eq_true (h n (by omega))⟩
/-- whether a word lies within the first n places to begin at -/
def zwi (r D : Nat → Nat) (m : Nat) : Nat → Bool
  | 0 => false
  | n + 1 => zwi r D m n || zLs r D n m
def zov (r D : Nat → Nat) (l : Nat) : Nat → Nat
  | 0 => 0
  | o + 1 => if zLs r D (l - (o + 1)) (o + 1) then o + 1 else zov r D l o
theorem zov_le {r D : Nat → Nat} {l : Nat} : ∀ o, zov r D l o ≤ o
  | 0 => Nat.le_refl _
  | o + 1 => by unfold zov; have := zov_le (r := r) (D := D) (l := l) o; split <;> omega
theorem zov_ok {r D : Nat → Nat} {l : Nat} : ∀ o, zLs r D (l - zov r D l o) (zov r D l o) = true
  | 0 => rfl
  | o + 1 => by
    unfold zov
    by_cases h : zLs r D (l - (o + 1)) (o + 1) = true
    · rw [if_pos h]; exact h
    · rw [if_neg h]; exact zov_ok o
theorem zLs_c {r s D E : Nat → Nat} {a : Nat} : ∀ n, (∀ i, i < n → r (a + i) = s (a + i)) → (∀ i, i < n → D i = E i) → zLs r D a n = zLs s E a n
  | 0, _, _ => rfl
  | n + 1, h, g => by
    show (zLs r D a n && decide (r (a + n) = D n)) = (zLs s E a n && decide (s (a + n) = E n))
    rw [zLs_c n (fun i hi => h i (by omega)) (fun i hi => g i (by omega)), h n (by omega), g n (by omega)]
/-- a word is laid -/
def zlw (w l : Nat) (r : Nat → Nat) : Nat × (Nat → Nat) :=
  if zln w ≤ l ∧ zwi r (zdg w) (zln w) (l + 1 - zln w) = true then (l, r)
  else (l - zov r (zdg w) l (min (zln w - 1) l) + zln w, fun i => if i < l then r i else zdg w (i - (l - zov r (zdg w) l (min (zln w - 1) l))))
theorem zln_b (w : Nat) : 1 ≤ zln w ∧ zln w ≤ 4 := by unfold zln; split <;> (try split) <;> (try split) <;> omega
theorem zlw_le (w l : Nat) (r : Nat → Nat) : l ≤ (zlw w l r).1 ∧ (zlw w l r).1 ≤ l + 4 := by
  have h1 := zln_b w
  have h2 := zov_le (r := r) (D := zdg w) (l := l) (min (zln w - 1) l)
  unfold zlw
  split
  · exact ⟨Nat.le_refl _, Nat.le_add_right _ _⟩
  · dsimp only; omega
def zlq (W : Nat → Nat) : List Nat → Nat × (Nat → Nat) → Nat × (Nat → Nat)
  | [], s => s
  | p :: q, s => zlq W q (zlw (W p) s.1 s.2)
theorem zlq_le (W : Nat → Nat) : ∀ q s, (zlq W q s).1 ≤ s.1 + 4 * q.length
  | [], s => by show s.1 ≤ s.1 + 4 * 0; omega
  | p :: q, s => by
    have h1 := zlq_le W q (zlw (W p) s.1 s.2)
    have h2 := (zlw_le (W p) s.1 s.2).2
    show (zlq W q (zlw (W p) s.1 s.2)).1 ≤ s.1 + 4 * (q.length + 1)
    omega
abbrev zLl (W : Nat → Nat) (q : List Nat) : Nat := (zlq W q (0, fun _ => 0)).1
/-- the class's orders -/
def zclr (x : Int32) : Nat → Int32
  | 0 => x
  | k + 1 => zclr x k &&& (zclr x k - 1)
def zpq : Nat → Int32 → Nat → List Nat
  | 0, _, _ => []
  | m + 1, left, o => ztz (zclr left (o % (m + 1))) :: zpq m (left &&& (1 <<< (nI (ztz (zclr left (o % (m + 1)))) &&& 31) ^^^ -1)) (o / (m + 1))
def zpk : Nat → Nat → Int32 → Nat → Bool
  | _, 0, _, _ => true
  | c, m + 1, left, o => decide (zclr left (o % (m + 1)) ≠ 0) && decide (ztz (zclr left (o % (m + 1))) < c) && zpk c m (left &&& (1 <<< (nI (ztz (zclr left (o % (m + 1)))) &&& 31) ^^^ -1)) (o / (m + 1))
def zfc : Nat → Nat
  | 0 => 1
  | n + 1 => (n + 1) * zfc n
def zfl (c : Nat) : Int32 := 1 <<< (nI c &&& 31) - 1
theorem zpk_ok : ∀ c, c < 6 → ∀ o, o < zfc c → zpk c c (zfl c) o = true := by decide +kernel
/-- the model's orders -/
def zn1 (A : List Nat) : Nat → Option Nat
  | 0 => none
  | i + 1 => if A.getD (i + 1) 0 < A.getD i 0 then zn1 A i else some i
def zn2 (A : List Nat) (v : Nat) : Nat → Nat
  | 0 => 0
  | k + 1 => if A.getD (k + 1) 0 < v then zn2 A v k else k + 1
def zn3 : Nat → List Nat → Nat → Nat → List Nat
  | 0, A, _, _ => A
  | f + 1, A, a, b => if a < b then zn3 f ((A.set a (A.getD b 0)).set b (A.getD a 0)) (a + 1) (b - 1) else A
def znx (c : Nat) (A : List Nat) : Option (List Nat) :=
  match zn1 A (c - 1) with
  | none => none
  | some i => some (zn3 5 ((A.set i (A.getD (zn2 A (A.getD i 0) (c - 1)) 0)).set (zn2 A (A.getD i 0) (c - 1)) (A.getD i 0)) (i + 1) (c - 1))
def zno (c : Nat) : Nat → List Nat
  | 0 => List.range c
  | t + 1 => match znx c (zno c t) with
    | none => []
    | some A => A
def znl : Nat → Nat → List Nat → List (List Nat)
  | 0, _, _ => []
  | f + 1, c, A => A :: (match znx c A with
    | none => []
    | some B => znl f c B)
theorem zord_perm : ∀ c, c < 6 → ((List.range (zfc c)).map (zpq c (zfl c))).isPerm (znl (zfc c) c (List.range c)) = true := by decide +kernel
theorem znl_len : ∀ c, c < 6 → (znl 121 c (List.range c)).length = zfc c ∧ znl (zfc c) c (List.range c) = znl 121 c (List.range c) := by decide +kernel
theorem znl_ok : ∀ c, c < 6 → (znl 121 c (List.range c)).all (fun A => decide (A.length = c) && A.all (fun x => decide (x < c))) = true := by decide +kernel
/-- the least of some numbers, and how many are it -/
def zMn (i : Nat) (l : List Nat) : Nat := l.foldl min i
theorem zMn_s (i x : Nat) (l : List Nat) : zMn i (l ++ [x]) = min (zMn i l) x := by unfold zMn; rw [List.foldl_append]; rfl
theorem zMn_le : ∀ (l : List Nat) (i : Nat), zMn i l ≤ i ∧ ∀ x, x ∈ l → zMn i l ≤ x
  | [], i => ⟨Nat.le_refl _, fun x hx => (by cases hx)⟩
  | y :: l, i => by
    obtain ⟨h1, h2⟩ := zMn_le l (min i y)
    refine ⟨Nat.le_trans h1 (Nat.min_le_left _ _), fun x hx => ?_⟩
    rcases List.mem_cons.mp hx with e | e
    · rw [e]; exact Nat.le_trans h1 (Nat.min_le_right _ _)
    · exact h2 x e
theorem zMn_mem : ∀ (l : List Nat) (i : Nat), zMn i l = i ∨ zMn i l ∈ l
  | [], i => Or.inl rfl
  | y :: l, i => by
    rcases zMn_mem l (min i y) with h | h
    · by_cases e : i ≤ y
      · left; show zMn (min i y) l = i; rw [h]; omega
      · right
        have : zMn (min i y) l = y := by rw [h]; omega
        show zMn (min i y) l ∈ _
        rw [this]; exact List.mem_cons_self
    · exact Or.inr (List.mem_cons_of_mem _ h)
theorem zMn_perm {l m : List Nat} (h : l.Perm m) {i j : Nat} (hne : l ≠ []) (hi : ∀ x, x ∈ l → x < i) (hj : ∀ x, x ∈ l → x < j) : zMn i l = zMn j m := by
  obtain ⟨y, hy⟩ := List.exists_mem_of_ne_nil l hne
  have a1 := (zMn_le l i).2
  have b1 := (zMn_le m j).2
  have a2 : zMn i l ∈ l := by
    rcases zMn_mem l i with e | e
    · have := a1 y hy; have := hi y hy; omega
    · exact e
  have b2 : zMn j m ∈ m := by
    rcases zMn_mem m j with e | e
    · have := b1 y (h.mem_iff.mp hy); have := hj y hy; omega
    · exact e
  have c1 := a1 _ (h.mem_iff.mpr b2)
  have c2 := b1 _ (h.mem_iff.mp a2)
  omega
theorem zct_s {f x n : Nat} {l : List Nat} (hl : ∀ y, y ∈ l → f ≤ y) (hn : n = l.count f) : (if x < f then 0 else n) + (if x = min f x then 1 else 0) = (l ++ [x]).count (min f x) := by
  rw [List.count_append, List.count_singleton]
  by_cases h : x < f
  · have e : min f x = x := by omega
    rw [if_pos h, e, List.count_eq_zero_of_not_mem (fun z => by have := hl x z; omega)]
    simp
  · have e : min f x = f := by omega
    rw [if_neg h, e, hn]
    by_cases e2 : x = f
    · simp [e2]
    · simp [e2]

