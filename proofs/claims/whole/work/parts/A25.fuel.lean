/-! TEXTS: the reading comes to its end -/
theorem pam_ok {K : Nat → Nat} {N : Nat} (hE : K N = 30001) : ∀ (f : Nat) (w : Option Nat) (j : Nat) (cs : List Nat), j ≤ N → N < j + f → pam K f w j cs ≠ none ∧ ∀ i ds, pam K f w j cs = some (.inr (i, ds)) → i ≤ N
  | 0, w, j, cs, h1, h2 => by omega
  | f + 1, w, j, cs, h1, h2 => by
    have e : pam K (f + 1) w j cs = if K j = 20042 then (if pun (K (j + 1)) = true then pam K f w (j + 2) (cs ++ [K (j + 1)] ++ [20042]) else some (.inl (1, j + 1))) else if K j = 20047 then (if 10000 ≤ K (j + 1) then some (.inl (1, j + 1)) else if K (j + 1) = 0 then some (.inl (2, j + 1)) else pam K f w (j + 2) (cs ++ [K (j + 1)] ++ [20047])) else if K j = 20043 ∨ K j = 20045 then (if pun (K (j + 1)) = true then pam K f (some (K j)) (j + 2) (cs ++ w.toList ++ [K (j + 1)]) else some (.inl (1, j + 1))) else some (.inr (j, cs ++ w.toList)) := rfl
    have hlt : ∀ i, i ≤ N → K i ≠ 30001 → i + 1 ≤ N := fun i hi hk => by
      by_cases e : i = N
      · rw [e, hE] at hk; exact absurd rfl hk
      · omega
    have hpu : pun (K (j + 1)) = true → K (j + 1) ≠ 30001 := fun z y => by rw [y] at z; exact absurd z (by decide)
    rw [e]
    by_cases c1 : K j = 20042
    · rw [if_pos c1]
      by_cases g : pun (K (j + 1)) = true
      · rw [if_pos g]
        have := hlt j h1 (by omega)
        have := hlt (j + 1) this (hpu g)
        exact pam_ok hE f w (j + 2) _ (by omega) (by omega)
      · rw [if_neg g]; exact ⟨fun z => (by cases z), fun i ds z => (by cases z)⟩
    · rw [if_neg c1]
      by_cases c2 : K j = 20047
      · rw [if_pos c2]
        by_cases g : 10000 ≤ K (j + 1)
        · rw [if_pos g]; exact ⟨fun z => (by cases z), fun i ds z => (by cases z)⟩
        · rw [if_neg g]
          by_cases g2 : K (j + 1) = 0
          · rw [if_pos g2]; exact ⟨fun z => (by cases z), fun i ds z => (by cases z)⟩
          · rw [if_neg g2]
            have := hlt j h1 (by omega)
            have := hlt (j + 1) this (by omega)
            exact pam_ok hE f w (j + 2) _ (by omega) (by omega)
      · rw [if_neg c2]
        by_cases c3 : K j = 20043 ∨ K j = 20045
        · rw [if_pos c3]
          by_cases g : pun (K (j + 1)) = true
          · rw [if_pos g]
            have := hlt j h1 (by omega)
            have := hlt (j + 1) this (hpu g)
            exact pam_ok hE f (some (K j)) (j + 2) _ (by omega) (by omega)
          · rw [if_neg g]; exact ⟨fun z => (by cases z), fun i ds z => (by cases z)⟩
        · rw [if_neg c3]
          refine ⟨fun z => (by cases z), fun i ds z => ?_⟩
          have e := Option.some.inj z
          injection e with e
          injection e with e1 e2
          omega
theorem pe_ok {K : Nat → Nat} {N : Nat} (hE : K N = 30001) {f j : Nat} {cs : List Nat} (h1 : j ≤ N) (h2 : N < j + 1 + f) : pe K f j cs ≠ none ∧ ∀ i ds, pe K f j cs = some (.inr (i, ds)) → i ≤ N := by
  unfold pe
  by_cases g : pun (K j) = true
  · rw [if_pos g]
    refine pam_ok hE f none (j + 1) _ ?_ h2
    by_cases e : j = N
    · rw [e, hE] at g; exact absurd g (by decide)
    · omega
  · rw [if_neg g]; exact ⟨fun z => (by cases z), fun i ds z => (by cases z)⟩
theorem pcd_ok {K : Nat → Nat} {N : Nat} (hN : N ≤ 400) (hE : K N = 30001) : ∀ (f : Nat) (g : Bool) (j : Nat) (cs p : List Nat), j ≤ N → N < j + f → pcd K f g j cs p ≠ none ∧ ∀ i ds, pcd K f g j cs p = some (.inr (i, ds)) → i ≤ N
  | 0, g, j, cs, p, h1, h2 => by omega
  | f + 1, true, j, cs, p, h1, h2 => by
    have e : pcd K (f + 1) true j cs p = if K j = 10016 ∨ K j = 20040 then (if opn p = 8 then some (.inl (3, j)) else pcd K f true (j + 1) cs (K j :: p)) else match pe K 401 j cs with | none => none | some (.inl x) => some (.inl x) | some (.inr (j1, cs1)) => if 20060 ≤ K j1 ∧ K j1 ≤ 20062 then (match pe K 401 (j1 + 1) cs1 with | none => none | some (.inl x) => some (.inl x) | some (.inr (j2, cs2)) => pcd K f false j2 (ppo 10016 (cs2 ++ [K j1]) p).1 (ppo 10016 (cs2 ++ [K j1]) p).2) else some (.inl (1, j1)) := rfl
    have hlt : ∀ i, i ≤ N → K i ≠ 30001 → i + 1 ≤ N := fun i hi hk => by
      by_cases e : i = N
      · rw [e, hE] at hk; exact absurd rfl hk
      · omega
    rw [e]
    by_cases c : K j = 10016 ∨ K j = 20040
    · rw [if_pos c]
      by_cases o : opn p = 8
      · rw [if_pos o]; exact ⟨fun z => (by cases z), fun i ds z => (by cases z)⟩
      · rw [if_neg o]
        have := hlt j h1 (by omega)
        exact pcd_ok hN hE f true (j + 1) _ _ (by omega) (by omega)
    · rw [if_neg c]
      have p1 := pe_ok hE (f := 401) (j := j) (cs := cs) h1 (by omega)
      cases hp : pe K 401 j cs with
      | none => exact absurd hp p1.1
      | some x =>
        cases x with
        | inl y => exact ⟨fun z => (by cases z), fun i ds z => (by cases z)⟩
        | inr y =>
          obtain ⟨j1, cs1⟩ := y
          have h3 := p1.2 j1 cs1 hp
          have l1 := pe_len hp
          show (if 20060 ≤ K j1 ∧ K j1 ≤ 20062 then _ else _) ≠ none ∧ _
          by_cases c2 : 20060 ≤ K j1 ∧ K j1 ≤ 20062
          · have h4 := hlt j1 h3 (by omega)
            have p2 := pe_ok hE (f := 401) (j := j1 + 1) (cs := cs1) h4 (by omega)
            simp only [if_pos c2]
            cases hp2 : pe K 401 (j1 + 1) cs1 with
            | none => exact absurd hp2 p2.1
            | some x2 =>
              cases x2 with
              | inl y => exact ⟨fun z => (by cases z), fun i ds z => (by cases z)⟩
              | inr y =>
                obtain ⟨j2, cs2⟩ := y
                have h5 := p2.2 j2 cs2 hp2
                have l2 := pe_len hp2
                exact pcd_ok hN hE f false j2 _ _ h5 (by omega)
          · simp only [if_neg c2]
            exact ⟨fun z => (by cases z), fun i ds z => (by cases z)⟩
  | f + 1, false, j, cs, p, h1, h2 => by
    have e : pcd K (f + 1) false j cs p = if K j = 10015 then pcd K f true (j + 1) (ppo 10015 cs p).1 (10015 :: (ppo 10015 cs p).2) else if K j = 10014 then pcd K f true (j + 1) (pjo cs p).1 (10014 :: (pjo cs p).2) else if K j = 20041 ∧ 0 < brn p then pcd K f false (j + 1) (ppo 10016 (pjo cs p).1 (pjo cs p).2.tail).1 (ppo 10016 (pjo cs p).1 (pjo cs p).2.tail).2 else if brn p = 0 then some (.inr (j, (pjo cs p).1)) else some (.inl (1, j)) := rfl
    have hlt : ∀ i, i ≤ N → K i ≠ 30001 → i + 1 ≤ N := fun i hi hk => by
      by_cases e : i = N
      · rw [e, hE] at hk; exact absurd rfl hk
      · omega
    rw [e]
    by_cases c1 : K j = 10015
    · rw [if_pos c1]
      have := hlt j h1 (by omega)
      exact pcd_ok hN hE f true (j + 1) _ _ (by omega) (by omega)
    · rw [if_neg c1]
      by_cases c2 : K j = 10014
      · rw [if_pos c2]
        have := hlt j h1 (by omega)
        exact pcd_ok hN hE f true (j + 1) _ _ (by omega) (by omega)
      · rw [if_neg c2]
        by_cases c3 : K j = 20041 ∧ 0 < brn p
        · rw [if_pos c3]
          have := hlt j h1 (by omega)
          exact pcd_ok hN hE f false (j + 1) _ _ (by omega) (by omega)
        · rw [if_neg c3]
          by_cases c4 : brn p = 0
          · rw [if_pos c4]
            refine ⟨fun z => (by cases z), fun i ds z => ?_⟩
            have e := Option.some.inj z
            injection e with e
            injection e with e1 e2
            omega
          · rw [if_neg c4]; exact ⟨fun z => (by cases z), fun i ds z => (by cases z)⟩
def pOk (L : Nat → List Nat → pLn) (P : Nat → Prop) (j : Nat) : Prop := ∀ cs, L j cs ≠ none ∧ ∀ i ds row, L j cs = some (.inr (i, ds, row)) → P i
theorem ptx_ok {lo hi : Nat} {L : Nat → List Nat → pLn} {K : Nat → Nat} {P : Nat → Prop} (hL : ∀ j, P j → lo ≤ K j ∧ K j ≤ hi → pOk L P j) : ∀ (f j : Nat) (cs : List Nat) (rows : List pRw), P j → f + rows.length = 18 → rows.length ≤ 16 → ptx lo hi L K f j cs rows ≠ none
  | 0, j, cs, rows, hP, h1, h2 => by omega
  | f + 1, j, cs, rows, hP, h1, h2 => by
    have e : ptx lo hi L K (f + 1) j cs rows = if K j = 30001 then some (.inr (cs, rows)) else if ¬ (lo ≤ K j ∧ K j ≤ hi) then some (.inl (1, j)) else if rows.length = 16 then some (.inl (3, j)) else match L j cs with | none => none | some (.inl x) => some (.inl x) | some (.inr (i, ds, row)) => ptx lo hi L K f i ds (rows ++ [row]) := rfl
    rw [e]
    by_cases c0 : K j = 30001
    · rw [if_pos c0]; exact fun z => by cases z
    · rw [if_neg c0]
      by_cases c : lo ≤ K j ∧ K j ≤ hi
      · rw [if_neg (fun z => z c)]
        by_cases c16 : rows.length = 16
        · rw [if_pos c16]; exact fun z => by cases z
        · rw [if_neg c16]
          have hl := hL j hP c cs
          cases hp : L j cs with
          | none => exact absurd hp hl.1
          | some x =>
            cases x with
            | inl y => exact fun z => by cases z
            | inr y =>
              obtain ⟨i, ds, row⟩ := y
              exact ptx_ok hL f i ds (rows ++ [row]) (hl.2 i ds row hp) (by rw [List.length_append, List.length_singleton]; omega) (by rw [List.length_append, List.length_singleton]; omega)
      · rw [if_pos c]; exact fun z => by cases z
theorem pkw_n {K : Nat → Nat} {j v : Nat} {k : pLn} (h : k ≠ none) : pkw K j v k ≠ none := by
  unfold pkw
  split
  · exact h
  · exact fun z => by cases z
theorem pnum_n {K : Nat → Nat} {j m : Nat} {k : Nat → pLn} (h : ∀ x, k x ≠ none) : pnum K j m k ≠ none := by
  unfold pnum
  split
  · exact fun z => by cases z
  · split
    · exact fun z => by cases z
    · exact h _
theorem ptl_n {K : Nat → Nat} {cs : List Nat} {day w who a i : Nat} : ptl K cs day w who a i ≠ none := by
  unfold ptl
  split
  · exact pkw_n (fun z => (by cases z))
  · exact pkw_n (fun z => (by cases z))
theorem ple_n {n : Nat} {K : Nat → Nat} (j : Nat) (cs : List Nat) : ple n K j cs ≠ none := by
  refine pnum_n (fun day => pkw_n (pnum_n (fun who => ?_)))
  split
  · split
    · exact pnum_n (fun a => ptl_n)
    · exact ptl_n
  · exact fun z => by cases z
theorem pti_n {K : Nat → Nat} (j : Nat) (cs : List Nat) : pti K j cs ≠ none := by
  refine pnum_n (fun day => ?_)
  split
  · exact pnum_n (fun v => pkw_n (fun z => (by cases z)))
  · exact pkw_n (pnum_n (fun p => pnum_n (fun v => pkw_n (fun z => (by cases z)))))
theorem pro_n {K : Nat → Nat} (j : Nat) (cs : List Nat) : pro K j cs ≠ none := by
  refine pnum_n (fun a => pkw_n ?_)
  split
  · exact fun z => by cases z
  · exact pnum_n (fun c => pkw_n (fun z => (by cases z)))
theorem plw_ok {K : Nat → Nat} {N : Nat} (hN : N ≤ 400) (hE : K N = 30001) {j : Nat} (hj : j ≤ N) (hb : 10000 ≤ K j ∧ K j ≤ 10002) : pOk (plw K) (fun i => i ≤ N) j := fun cs => by
  have hlt : ∀ i, i ≤ N → K i ≠ 30001 → i + 1 ≤ N := fun i hi hk => by
    by_cases e : i = N
    · rw [e, hE] at hk; exact absurd rfl hk
    · omega
  have h1 := hlt j hj (by omega)
  have p1 := pe_ok hE (f := 401) (j := j + 1) (cs := cs) h1 (by omega)
  have hend : ∀ (q : Nat) (ds : List Nat) (row : pRw), q ≤ N → pkw K q 20059 (some (.inr (q + 1, ds, row))) ≠ none ∧ ∀ i es ro, pkw K q 20059 (some (.inr (q + 1, ds, row))) = some (.inr (i, es, ro)) → i ≤ N := fun q ds row hq => by
    refine ⟨pkw_n (fun z => (by cases z)), fun i es ro z => ?_⟩
    unfold pkw at z
    split at z
    · rename_i c
      have := hlt q hq (by omega)
      have e := Option.some.inj z
      injection e with e
      injection e with e1 e2
      omega
    · cases z
  unfold plw
  cases hp : pe K 401 (j + 1) cs with
  | none => exact absurd hp p1.1
  | some x =>
    cases x with
    | inl y => exact ⟨fun z => (by cases z), fun i ds row z => (by cases z)⟩
    | inr y =>
      obtain ⟨j1, cs1⟩ := y
      have h3 := p1.2 j1 cs1 hp
      by_cases c : K j1 = 10013
      · simp only [if_pos c]
        have h4 := hlt j1 h3 (by omega)
        have p2 := pcd_ok hN hE 500 true (j1 + 1) cs1 [] h4 (by omega)
        cases hp2 : pcd K 500 true (j1 + 1) cs1 [] with
        | none => exact absurd hp2 p2.1
        | some x2 =>
          cases x2 with
          | inl y => exact ⟨fun z => (by cases z), fun i ds row z => (by cases z)⟩
          | inr y =>
            obtain ⟨j2, cs2⟩ := y
            exact hend j2 _ _ (p2.2 j2 cs2 hp2)
      · simp only [if_neg c]
        exact hend j1 _ _ h3
theorem ptx_all {t : Nat → Nat} {b n k : Nat} (hk : k ≤ 3) (hb : b ≤ 400) : ptx (pklo k) (pkhi k) (pkL n k (tkk t b)) (tkk t b) 18 0 [] [] ≠ none := by
  obtain ⟨N, hN, hs, hlt⟩ := tk_N t b
  have hE : tkk t b N = 30001 := by unfold tkk; rw [hs]; exact tkc_E (Nat.lt_irrefl b)
  have hkc : k = 0 ∨ k = 1 ∨ k = 2 ∨ k = 3 := by omega
  rcases hkc with e | e | e | e
  · subst e
    exact ptx_ok (lo := 10000) (hi := 10002) (L := plw (tkk t b)) (P := fun i => i ≤ N) (fun j h1 h2 => plw_ok (by omega) hE h1 h2) 18 0 [] [] (Nat.zero_le _) rfl (Nat.zero_le _)
  · subst e
    exact ptx_ok (lo := 10017) (hi := 10017) (L := ple n (tkk t b)) (P := fun _ => True) (fun j _ _ cs => ⟨ple_n j cs, fun _ _ _ _ => trivial⟩) 18 0 [] [] trivial rfl (Nat.zero_le _)
  · subst e
    exact ptx_ok (lo := 10017) (hi := 10017) (L := pti (tkk t b)) (P := fun _ => True) (fun j _ _ cs => ⟨pti_n j cs, fun _ _ _ _ => trivial⟩) 18 0 [] [] trivial rfl (Nat.zero_le _)
  · subst e
    exact ptx_ok (lo := 10026) (hi := 10026) (L := pro (tkk t b)) (P := fun _ => True) (fun j _ _ cs => ⟨pro_n j cs, fun _ _ _ _ => trivial⟩) 18 0 [] [] trivial rfl (Nat.zero_le _)

