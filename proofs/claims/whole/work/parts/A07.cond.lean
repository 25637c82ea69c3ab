/-! B, in the abstract: what waits, the topmost first -/
def opn : List Nat → Nat
  | [] => 0
  | x :: p => (if x = 10016 ∨ x = 20040 then 1 else 0) + opn p
def brn : List Nat → Nat
  | [] => 0
  | x :: p => (if x = 20040 then 1 else 0) + brn p
def jon : List Nat → Nat
  | [] => 0
  | x :: p => (if x = 10016 ∨ x = 20040 then 0 else 1) + jon p
def pok : List Nat → Prop
  | [] => True
  | x :: p => pok p ∧ (x = 10016 ∨ x = 20040 ∨ (x = 10015 ∧ p.head? ≠ some 10015 ∧ p.head? ≠ some 10016) ∨ (x = 10014 ∧ p.head? ≠ some 10015 ∧ p.head? ≠ some 10016 ∧ p.head? ≠ some 10014))
def psl : List Nat → Nat
  | [] => 2
  | x :: _ => if x = 10015 then 0 else if x = 10014 then 1 else 2
theorem pok_j : ∀ p : List Nat, pok p → jon p + psl p ≤ 2 * opn p + 2
  | [], _ => Nat.le_refl _
  | x :: p, h => by
    have ih := pok_j p h.1
    unfold jon opn psl
    rcases h.2 with e | e | ⟨e, h2, h3⟩ | ⟨e, h2, h3, h4⟩
    · subst e; simp; omega
    · subst e; simp; omega
    · subst e
      cases p with
      | nil => simp [jon, opn]
      | cons y q =>
        have y1 : y ≠ 10015 := fun z => h2 (by rw [z]; rfl)
        have e2 : 1 ≤ psl (y :: q) := by show 1 ≤ (if y = 10015 then 0 else if y = 10014 then 1 else 2); rw [if_neg y1]; split <;> omega
        simp; omega
    · subst e
      cases p with
      | nil => simp [jon, opn]
      | cons y q =>
        have y1 : y ≠ 10015 := fun z => h2 (by rw [z]; rfl)
        have y2 : y ≠ 10014 := fun z => h4 (by rw [z]; rfl)
        have e2 : psl (y :: q) = 2 := by show (if y = 10015 then 0 else if y = 10014 then 1 else 2) = 2; rw [if_neg y1, if_neg y2]
        simp; omega
theorem oj_len : ∀ p : List Nat, p.length = opn p + jon p
  | [] => rfl
  | x :: p => by
    have ih := oj_len p
    unfold opn jon
    rw [List.length_cons]
    split <;> omega
theorem pok_len {p : List Nat} (h : pok p) (h8 : opn p ≤ 8) : p.length ≤ 26 := by
  have h1 := pok_j p h
  have h2 := oj_len p
  omega
theorem pok_b : ∀ p : List Nat, pok p → p.head? ≠ some 10016 → brn p = 0 → opn p = 0
  | [], _, _, _ => rfl
  | x :: p, h, hh, hb => by
    unfold brn at hb
    unfold opn
    have x1 : x ≠ 10016 := fun z => hh (by rw [z]; rfl)
    have x2 : x ≠ 20040 := fun z => by rw [if_pos z] at hb; omega
    rw [if_neg (fun z => z.elim x1 x2)]
    rw [if_neg x2] at hb
    rcases h.2 with e | e | ⟨e, h2, h3⟩ | ⟨e, h2, h3, h4⟩
    · exact absurd e x1
    · exact absurd e x2
    · rw [pok_b p h.1 h3 (by omega)]
    · rw [pok_b p h.1 h3 (by omega)]
theorem brn_o : ∀ p : List Nat, brn p ≤ opn p
  | [] => Nat.le_refl _
  | x :: p => by
    have ih := brn_o p
    unfold brn opn
    by_cases e : x = 20040
    · rw [if_pos e, if_pos (Or.inr e)]; omega
    · rw [if_neg e]; split <;> omega
/-- what comes out: as long as it is x that waits on top -/
def ppo (x : Nat) (cs : List Nat) : List Nat → List Nat × List Nat
  | [] => (cs, [])
  | y :: p => if y = x then ppo x (cs ++ [x]) p else (cs, y :: p)
def pjo (cs p : List Nat) : List Nat × List Nat := ppo 10014 (ppo 10015 cs p).1 (ppo 10015 cs p).2
/-- joins, one by one -/
def pjn (cs : List Nat) : List Nat → List Nat × List Nat
  | [] => (cs, [])
  | y :: p => if y = 10015 ∨ y = 10014 then pjn (cs ++ [y]) p else (cs, y :: p)
theorem ppo_len {x : Nat} : ∀ (p cs : List Nat), (ppo x cs p).1.length + (ppo x cs p).2.length = cs.length + p.length
  | [], cs => rfl
  | y :: p, cs => by
    unfold ppo
    split
    · rw [ppo_len p (cs ++ [x]), List.length_append, List.length_singleton, List.length_cons]; omega
    · rfl
theorem ppo_ok {x : Nat} : ∀ (p cs : List Nat), pok p → pok (ppo x cs p).2
  | [], _, _ => trivial
  | y :: p, cs, h => by
    unfold ppo
    split
    · exact ppo_ok p _ h.1
    · exact h
theorem ppo_op {x : Nat} : ∀ (p cs : List Nat), opn (ppo x cs p).2 ≤ opn p
  | [], _ => Nat.le_refl _
  | y :: p, cs => by
    unfold ppo
    split
    · have := ppo_op (x := x) p (cs ++ [x])
      show _ ≤ (if y = 10016 ∨ y = 20040 then 1 else 0) + opn p
      omega
    · exact Nat.le_refl _
theorem ppo_br {x : Nat} (hx : x ≠ 20040) : ∀ (p cs : List Nat), brn (ppo x cs p).2 = brn p
  | [], _ => rfl
  | y :: p, cs => by
    unfold ppo
    split
    · rename_i e
      rw [ppo_br hx p]
      show _ = (if y = 20040 then 1 else 0) + brn p
      rw [if_neg (by rw [e]; exact hx), Nat.zero_add]
    · rfl
theorem ppo_oe {x : Nat} (hx : ¬ (x = 10016 ∨ x = 20040)) : ∀ (p cs : List Nat), opn (ppo x cs p).2 = opn p
  | [], _ => rfl
  | y :: p, cs => by
    unfold ppo
    split
    · rename_i e
      rw [ppo_oe hx p]
      show _ = (if y = 10016 ∨ y = 20040 then 1 else 0) + opn p
      rw [if_neg (by rw [e]; exact hx), Nat.zero_add]
    · rfl
theorem ppo_h {x : Nat} : ∀ (p cs : List Nat), (ppo x cs p).2.head? ≠ some x
  | [], _ => by unfold ppo; exact fun z => by cases z
  | y :: p, cs => by
    unfold ppo
    split
    · exact ppo_h p _
    · rename_i h
      exact fun z => h (Option.some.inj z)
/-- with AND and OR gone a bracket is on top, or nothing -/
theorem pjo_top {p cs : List Nat} (h : pok p) (hh : p.head? ≠ some 10016) : pjo cs p = pjn cs p ∧ ((pjo cs p).2 = [] ∨ ∃ q, (pjo cs p).2 = 20040 :: q) := by
  have base : ∀ (q cs : List Nat), pok q → q.head? ≠ some 10016 → q.head? ≠ some 10015 → q.head? ≠ some 10014 → ppo 10015 cs q = (cs, q) ∧ ppo 10014 cs q = (cs, q) ∧ pjn cs q = (cs, q) ∧ (q = [] ∨ ∃ r, q = 20040 :: r) := fun q cs hq h1 h2 h3 => by
    cases q with
    | nil => exact ⟨rfl, rfl, rfl, Or.inl rfl⟩
    | cons y r =>
      have y1 : y ≠ 10016 := fun z => h1 (by rw [z]; rfl)
      have y2 : y ≠ 10015 := fun z => h2 (by rw [z]; rfl)
      have y3 : y ≠ 10014 := fun z => h3 (by rw [z]; rfl)
      refine ⟨by unfold ppo; rw [if_neg y2], by unfold ppo; rw [if_neg y3], by unfold pjn; rw [if_neg (fun z => z.elim y2 y3)], Or.inr ⟨r, ?_⟩⟩
      rcases hq.2 with e | e | ⟨e, _⟩ | ⟨e, _⟩
      · exact absurd e y1
      · rw [e]
      · exact absurd e y2
      · exact absurd e y3
  have base2 : ∀ (q cs : List Nat), pok q → q.head? ≠ some 10016 → q.head? ≠ some 10015 → ppo 10015 cs q = (cs, q) ∧ ppo 10014 cs q = pjn cs q ∧ ((ppo 10014 cs q).2 = [] ∨ ∃ r, (ppo 10014 cs q).2 = 20040 :: r) := fun q cs hq h1 h2 => by
    cases q with
    | nil => exact ⟨rfl, rfl, Or.inl rfl⟩
    | cons y r =>
      have y2 : y ≠ 10015 := fun z => h2 (by rw [z]; rfl)
      by_cases e : y = 10014
      · have hr : r.head? ≠ some 10015 ∧ r.head? ≠ some 10016 ∧ r.head? ≠ some 10014 := by
          rcases hq.2 with e2 | e2 | ⟨e2, _⟩ | ⟨_, e2⟩
          · omega
          · omega
          · omega
          · exact e2
        obtain ⟨b1, b2, b3, b4⟩ := base r (cs ++ [10014]) hq.1 hr.2.1 hr.1 hr.2.2
        refine ⟨by unfold ppo; rw [if_neg y2], ?_, ?_⟩
        · unfold ppo pjn; rw [if_pos e, if_pos (Or.inr e), b2, e, b3]
        · unfold ppo; rw [if_pos e, b2]; exact b4
      · obtain ⟨b1, b2, b3, b4⟩ := base (y :: r) cs hq h1 h2 (fun z => e (Option.some.inj z))
        exact ⟨b1, by rw [b2, b3], by rw [b2]; exact b4⟩
  cases p with
  | nil => exact ⟨rfl, Or.inl rfl⟩
  | cons y r =>
    by_cases e : y = 10015
    · have hr : r.head? ≠ some 10015 ∧ r.head? ≠ some 10016 := by
        rcases h.2 with e2 | e2 | ⟨_, e2⟩ | ⟨e2, _⟩
        · omega
        · omega
        · exact e2
        · omega
      obtain ⟨b1, b2, b3⟩ := base2 r (cs ++ [10015]) h.1 hr.2 hr.1
      have e3 : ppo 10015 cs (y :: r) = (cs ++ [10015], r) := by
        conv => lhs; unfold ppo
        rw [if_pos e, b1]
      unfold pjo
      rw [e3]
      refine ⟨?_, b3⟩
      rw [b2]
      conv => rhs; unfold pjn
      rw [if_pos (Or.inl e), e]
    · obtain ⟨b1, b2, b3⟩ := base2 (y :: r) cs h hh (fun z => e (Option.some.inj z))
      unfold pjo
      rw [b1]
      exact ⟨b2, b3⟩
/-- B from a place on: due, if a C is to come -/
def pcd (K : Nat → Nat) : Nat → Bool → Nat → List Nat → List Nat → pR
  | 0, _, _, _, _ => none
  | f + 1, true, j, cs, p =>
    if K j = 10016 ∨ K j = 20040 then (if opn p = 8 then some (.inl (3, j)) else pcd K f true (j + 1) cs (K j :: p))
    else match pe K 401 j cs with
      | none => none
      | some (.inl x) => some (.inl x)
      | some (.inr (j1, cs1)) => if 20060 ≤ K j1 ∧ K j1 ≤ 20062 then (match pe K 401 (j1 + 1) cs1 with
          | none => none
          | some (.inl x) => some (.inl x)
          | some (.inr (j2, cs2)) => pcd K f false j2 (ppo 10016 (cs2 ++ [K j1]) p).1 (ppo 10016 (cs2 ++ [K j1]) p).2)
        else some (.inl (1, j1))
  | f + 1, false, j, cs, p =>
    if K j = 10015 then pcd K f true (j + 1) (ppo 10015 cs p).1 (10015 :: (ppo 10015 cs p).2)
    else if K j = 10014 then pcd K f true (j + 1) (pjo cs p).1 (10014 :: (pjo cs p).2)
    else if K j = 20041 ∧ 0 < brn p then pcd K f false (j + 1) (ppo 10016 (pjo cs p).1 (pjo cs p).2.tail).1 (ppo 10016 (pjo cs p).1 (pjo cs p).2.tail).2
    else if brn p = 0 then some (.inr (j, (pjo cs p).1)) else some (.inl (1, j))

