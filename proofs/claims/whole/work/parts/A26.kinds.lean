/-! THE LAW as it is read is good -/
def pkl : List Nat → List Nat → Option (List Nat)
  | [], ks => some ks
  | c :: cs, ks => match zKs (zdo c) (zda c) ks with
    | none => none
    | some ks => pkl cs ks
theorem pkl_app : ∀ (a c ks kt : List Nat), pkl a ks = some kt → pkl (a ++ c) ks = pkl c kt
  | [], c, ks, kt, h => by rw [← Option.some.inj h]; rfl
  | x :: a, c, ks, kt, h => by
    show (match zKs (zdo x) (zda x) ks with | none => none | some ks => pkl (a ++ c) ks) = _
    have h2 : (match zKs (zdo x) (zda x) ks with | none => none | some ks => pkl a ks) = some kt := h
    cases hz : zKs (zdo x) (zda x) ks with
    | none => rw [hz] at h2; cases h2
    | some k2 => rw [hz] at h2; exact pkl_app a c k2 kt h2
theorem pkl_1 {c : Nat} {ks kt : List Nat} (h : zKs (zdo c) (zda c) ks = some kt) : pkl [c] ks = some kt := by
  show (match zKs (zdo c) (zda c) ks with | none => none | some ks => pkl [] ks) = _
  rw [h]; rfl
theorem zks_u {c : Nat} {ks : List Nat} (h : pun c = true) (hl : ks.length < 32) : ∃ k, k ≠ 1 ∧ (0 < c → c < 10000 → k = 2) ∧ zKs (zdo c) (zda c) ks = some (k :: ks) := by
  simp only [pun, decide_eq_true_eq] at h
  by_cases g : c < 10000
  · have e1 : zdo c = 0 := by unfold zdo; rw [if_pos g]
    have e2 : zda c = c := by unfold zda; rw [if_pos g]
    refine ⟨if c = 0 then 0 else 2, by split <;> decide, fun z _ => if_neg (by omega), ?_⟩
    rw [e1, e2]
    unfold zKs
    rw [if_pos rfl, if_pos ⟨by omega, hl⟩]
  · have e1 : zdo c = 1 := by unfold zdo; rw [if_neg g, if_neg (by omega), if_neg (by omega), if_neg (by omega), if_pos (by omega)]
    have e2 : zda c = c - 10003 := by unfold zda; rw [if_neg g, if_pos (by omega)]
    refine ⟨0, by decide, fun _ z => absurd z g, ?_⟩
    rw [e1, e2]
    unfold zKs
    rw [if_neg (by decide), if_pos rfl, if_pos ⟨by omega, hl⟩]
theorem zks_2 {c o k1 k2 k : Nat} {ks : List Nat} (h1 : zdo c = o) (h : 2 ≤ o ∧ o ≠ 9) (hz : zkb2 o k1 k2 = some k) : zKs (zdo c) (zda c) (k2 :: k1 :: ks) = some (k :: ks) := by
  rw [h1]
  unfold zKs
  rw [if_neg (by omega), if_neg (by omega), if_neg h.2]
  show (zkb2 o k1 k2).map _ = _
  rw [hz]
  rfl
theorem zkb_a {o k1 k2 : Nat} (ho : o = 2 ∨ o = 3 ∨ o = 4) (h1 : k1 ≠ 1) (h2 : k2 ≠ 1) : zkb2 o k1 k2 = some 0 := by unfold zkb2; rw [if_pos ho, if_pos ⟨h1, h2⟩]
theorem zkb_d {k1 : Nat} (h1 : k1 ≠ 1) : zkb2 5 k1 2 = some 0 := by unfold zkb2; rw [if_neg (by decide), if_pos rfl, if_pos ⟨h1, rfl⟩]
theorem zkb_c {o k1 k2 : Nat} (ho : o = 6 ∨ o = 7 ∨ o = 8) (h1 : k1 ≠ 1) (h2 : k2 ≠ 1) : zkb2 o k1 k2 = some 1 := by unfold zkb2; rw [if_neg (by omega), if_neg (by omega), if_pos ho, if_pos ⟨h1, h2⟩]
theorem zkb_j {o : Nat} (ho : o = 10 ∨ o = 11) : zkb2 o 1 1 = some 1 := by unfold zkb2; rw [if_neg (by omega), if_neg (by omega), if_neg (by omega), if_pos ho, if_pos ⟨rfl, rfl⟩]
def pst (w : Option Nat) (k1 k0 : Nat) (ks : List Nat) : List Nat := match w with
  | none => k1 :: ks
  | some _ => k1 :: k0 :: ks
theorem pam_k {K : Nat → Nat} : ∀ (f : Nat) (w : Option Nat) (j : Nat) (cs : List Nat) (i : Nat) (ds : List Nat), (∀ a, w = some a → a = 20043 ∨ a = 20045) → pam K f w j cs = some (.inr (i, ds)) → ∃ s, ds = cs ++ s ∧ ∀ k1 k0 ks, k1 ≠ 1 → k0 ≠ 1 → ks.length ≤ 29 → ∃ k, k ≠ 1 ∧ pkl s (pst w k1 k0 ks) = some (k :: ks)
  | 0, w, j, cs, i, ds, hw, h => by cases h
  | f + 1, w, j, cs, i, ds, hw, h => by
    have h : (if K j = 20042 then (if pun (K (j + 1)) = true then pam K f w (j + 2) (cs ++ [K (j + 1)] ++ [20042]) else some (.inl (1, j + 1))) else if K j = 20047 then (if 10000 ≤ K (j + 1) then some (.inl (1, j + 1)) else if K (j + 1) = 0 then some (.inl (2, j + 1)) else pam K f w (j + 2) (cs ++ [K (j + 1)] ++ [20047])) else if K j = 20043 ∨ K j = 20045 then (if pun (K (j + 1)) = true then pam K f (some (K j)) (j + 2) (cs ++ w.toList ++ [K (j + 1)]) else some (.inl (1, j + 1))) else some (.inr (j, cs ++ w.toList))) = some (.inr (i, ds)) := h
    have hpl : ∀ k1 k0 ks, ks.length ≤ 29 → (pst w k1 k0 ks).length < 32 := fun k1 k0 ks hl => by
      cases w with
      | none => show ks.length + 1 < 32; omega
      | some a => show ks.length + 1 + 1 < 32; omega
    have hp1 : ∀ (k1 k0 : Nat) (ks : List Nat), ∃ r, ∀ x, pst w x k0 ks = x :: r := fun k1 k0 ks => by
      cases w with
      | none => exact ⟨ks, fun _ => rfl⟩
      | some a => exact ⟨k0 :: ks, fun _ => rfl⟩
    split at h
    · split at h
      · rename_i g
        obtain ⟨s, e, hs⟩ := pam_k f w (j + 2) _ i ds hw h
        refine ⟨[K (j + 1)] ++ [20042] ++ s, by rw [e]; simp [List.append_assoc], fun k1 k0 ks h1 h0 hl => ?_⟩
        obtain ⟨r, hr⟩ := hp1 k1 k0 ks
        obtain ⟨ku, u1, u2, u3⟩ := zks_u (ks := pst w k1 k0 ks) g (hpl k1 k0 ks hl)
        obtain ⟨k, g1, g2⟩ := hs 0 k0 ks (by decide) h0 hl
        refine ⟨k, g1, ?_⟩
        rw [List.append_assoc, pkl_app _ _ _ _ (pkl_1 u3), hr k1, pkl_app _ _ _ _ (pkl_1 (zks_2 (o := 4) rfl (by decide) (zkb_a (Or.inr (Or.inr rfl)) h1 u1))), ← hr 0]
        exact g2
      · cases h
    · split at h
      · split at h
        · cases h
        · split at h
          · cases h
          · rename_i g g2
            obtain ⟨s, e, hs⟩ := pam_k f w (j + 2) _ i ds hw h
            refine ⟨[K (j + 1)] ++ [20047] ++ s, by rw [e]; simp [List.append_assoc], fun k1 k0 ks h1 h0 hl => ?_⟩
            obtain ⟨r, hr⟩ := hp1 k1 k0 ks
            obtain ⟨ku, u1, u2, u3⟩ := zks_u (c := K (j + 1)) (ks := pst w k1 k0 ks) (decide_eq_true (Or.inl (by omega))) (hpl k1 k0 ks hl)
            have u4 := u2 (by omega) (by omega)
            subst u4
            obtain ⟨k, g1, g2⟩ := hs 0 k0 ks (by decide) h0 hl
            refine ⟨k, g1, ?_⟩
            rw [List.append_assoc, pkl_app _ _ _ _ (pkl_1 u3), hr k1, pkl_app _ _ _ _ (pkl_1 (zks_2 (o := 5) rfl (by decide) (zkb_d h1))), ← hr 0]
            exact g2
      · split at h
        · rename_i c3
          split at h
          · rename_i g
            obtain ⟨s, e, hs⟩ := pam_k f (some (K j)) (j + 2) _ i ds (fun a z => by rw [← Option.some.inj z]; exact c3) h
            refine ⟨w.toList ++ [K (j + 1)] ++ s, by rw [e]; simp [List.append_assoc], fun k1 k0 ks h1 h0 hl => ?_⟩
            cases w with
            | none =>
              obtain ⟨ku, u1, u2, u3⟩ := zks_u (c := K (j + 1)) (ks := k1 :: ks) g (by show ks.length + 1 < 32; omega)
              obtain ⟨k, g1, g2⟩ := hs ku k1 ks u1 h1 hl
              refine ⟨k, g1, ?_⟩
              show pkl ([] ++ [K (j + 1)] ++ s) (k1 :: ks) = _
              rw [List.nil_append, pkl_app _ _ _ _ (pkl_1 u3)]
              exact g2
            | some a =>
              have ha := hw a rfl
              obtain ⟨ku, u1, u2, u3⟩ := zks_u (c := K (j + 1)) (ks := 0 :: ks) g (by show ks.length + 1 < 32; omega)
              obtain ⟨k, g1, g2⟩ := hs ku 0 ks u1 (by decide) hl
              refine ⟨k, g1, ?_⟩
              show pkl ([a] ++ [K (j + 1)] ++ s) (k1 :: k0 :: ks) = _
              have hz : zKs (zdo a) (zda a) (k1 :: k0 :: ks) = some (0 :: ks) := by
                rcases ha with e | e
                · rw [e]; exact zks_2 (o := 2) rfl (by decide) (zkb_a (Or.inl rfl) h0 h1)
                · rw [e]; exact zks_2 (o := 3) rfl (by decide) (zkb_a (Or.inr (Or.inl rfl)) h0 h1)
              rw [List.append_assoc, pkl_app _ _ _ _ (pkl_1 hz), pkl_app _ _ _ _ (pkl_1 u3)]
              exact g2
          · cases h
        · have e := Option.some.inj h
          injection e with e
          injection e with e1 e2
          refine ⟨w.toList, e2.symm, fun k1 k0 ks h1 h0 hl => ?_⟩
          cases w with
          | none => exact ⟨k1, h1, rfl⟩
          | some a =>
            have ha := hw a rfl
            refine ⟨0, by decide, ?_⟩
            show pkl [a] (k1 :: k0 :: ks) = _
            refine pkl_1 ?_
            rcases ha with e | e
            · rw [e]; exact zks_2 (o := 2) rfl (by decide) (zkb_a (Or.inl rfl) h0 h1)
            · rw [e]; exact zks_2 (o := 3) rfl (by decide) (zkb_a (Or.inr (Or.inl rfl)) h0 h1)
theorem pe_k {K : Nat → Nat} {f j i : Nat} {cs ds : List Nat} (h : pe K f j cs = some (.inr (i, ds))) : ∃ s, ds = cs ++ s ∧ ∀ ks, ks.length ≤ 29 → ∃ k, k ≠ 1 ∧ pkl s ks = some (k :: ks) := by
  unfold pe at h
  split at h
  · rename_i g
    obtain ⟨s, e, hs⟩ := pam_k f none (j + 1) _ i ds (fun a z => by cases z) h
    refine ⟨[K j] ++ s, by rw [e]; simp [List.append_assoc], fun ks hl => ?_⟩
    obtain ⟨ku, u1, u2, u3⟩ := zks_u (c := K j) (ks := ks) g (by omega)
    obtain ⟨k, g1, g2⟩ := hs ku 0 ks u1 (by decide) hl
    refine ⟨k, g1, ?_⟩
    rw [pkl_app _ _ _ _ (pkl_1 u3)]
    exact g2
  · cases h
def pon (n : Nat) : List Nat := List.replicate n 1
theorem pon_s (n : Nat) : pon (n + 1) = 1 :: pon n := rfl
theorem ppo_k {x : Nat} (hx : x = 10016 ∨ x = 10015 ∨ x = 10014) : ∀ (p cs : List Nat), ∃ s, (ppo x cs p).1 = cs ++ s ∧ pkl s (pon (jon p + 1)) = some (pon (jon (ppo x cs p).2 + 1))
  | [], cs => ⟨[], (List.append_nil cs).symm, rfl⟩
  | y :: p, cs => by
    by_cases c : y = x
    · have e1 : ppo x cs (y :: p) = ppo x (cs ++ [x]) p := if_pos c
      obtain ⟨s, e, hs⟩ := ppo_k hx p (cs ++ [x])
      refine ⟨[x] ++ s, by rw [e1, e, List.append_assoc], ?_⟩
      rw [e1]
      subst c
      rcases hx with z | z | z
      · have ej : jon (y :: p) = jon p := by
          show (if y = 10016 ∨ y = 20040 then 0 else 1) + jon p = _
          rw [if_pos (Or.inl z), Nat.zero_add]
        have hz : zKs (zdo y) (zda y) (pon (jon p + 1)) = some (pon (jon p + 1)) := by rw [z]; rfl
        rw [ej, pkl_app _ _ _ _ (pkl_1 hz)]
        exact hs
      · have ej : jon (y :: p) = jon p + 1 := by
          show (if y = 10016 ∨ y = 20040 then 0 else 1) + jon p = _
          rw [if_neg (by omega)]; exact Nat.add_comm _ _
        have hz : zKs (zdo y) (zda y) (pon (jon p + 1 + 1)) = some (pon (jon p + 1)) := by
          rw [pon_s, pon_s]
          exact zks_2 (o := 10) (by rw [z]; rfl) (by decide) (zkb_j (Or.inl rfl))
        rw [ej, pkl_app _ _ _ _ (pkl_1 hz)]
        exact hs
      · have ej : jon (y :: p) = jon p + 1 := by
          show (if y = 10016 ∨ y = 20040 then 0 else 1) + jon p = _
          rw [if_neg (by omega)]; exact Nat.add_comm _ _
        have hz : zKs (zdo y) (zda y) (pon (jon p + 1 + 1)) = some (pon (jon p + 1)) := by
          rw [pon_s, pon_s]
          exact zks_2 (o := 11) (by rw [z]; rfl) (by decide) (zkb_j (Or.inr rfl))
        rw [ej, pkl_app _ _ _ _ (pkl_1 hz)]
        exact hs
    · have e1 : ppo x cs (y :: p) = (cs, y :: p) := if_neg c
      rw [e1]
      exact ⟨[], (List.append_nil cs).symm, rfl⟩
theorem pjo_k (p cs : List Nat) : ∃ s, (pjo cs p).1 = cs ++ s ∧ pkl s (pon (jon p + 1)) = some (pon (jon (pjo cs p).2 + 1)) := by
  obtain ⟨s, e, hs⟩ := ppo_k (x := 10015) (Or.inr (Or.inl rfl)) p cs
  obtain ⟨s2, e2, hs2⟩ := ppo_k (x := 10014) (Or.inr (Or.inr rfl)) (ppo 10015 cs p).2 (ppo 10015 cs p).1
  refine ⟨s ++ s2, by unfold pjo; rw [e2, e, List.append_assoc], ?_⟩
  rw [pkl_app _ _ _ _ hs]
  exact hs2
theorem ppo_j {x : Nat} (hx : x = 10016) : ∀ (p cs : List Nat), jon (ppo x cs p).2 = jon p
  | [], cs => rfl
  | y :: p, cs => by
    by_cases c : y = x
    · have e1 : ppo x cs (y :: p) = ppo x (cs ++ [x]) p := if_pos c
      rw [e1, ppo_j hx p]
      show _ = (if y = 10016 ∨ y = 20040 then 0 else 1) + jon p
      rw [if_pos (Or.inl (c.trans hx)), Nat.zero_add]
    · have e1 : ppo x cs (y :: p) = (cs, y :: p) := if_neg c
      rw [e1]
theorem pcd_k {K : Nat → Nat} : ∀ (f : Nat) (g : Bool) (j : Nat) (cs p : List Nat) (i : Nat) (ds : List Nat), pok p → opn p ≤ 8 → (g = false → p.head? ≠ some 10016) → pcd K f g j cs p = some (.inr (i, ds)) → ∃ s, ds = cs ++ s ∧ pkl s (pon (jon p + (if g = true then 0 else 1))) = some [1]
  | 0, g, j, cs, p, i, ds, h1, h2, h3, h => by cases g <;> cases h
  | f + 1, true, j, cs, p, i, ds, h1, h2, h3, h => by
    have h : (if K j = 10016 ∨ K j = 20040 then (if opn p = 8 then some (.inl (3, j)) else pcd K f true (j + 1) cs (K j :: p)) else match pe K 401 j cs with | none => none | some (.inl x) => some (.inl x) | some (.inr (j1, cs1)) => if 20060 ≤ K j1 ∧ K j1 ≤ 20062 then (match pe K 401 (j1 + 1) cs1 with | none => none | some (.inl x) => some (.inl x) | some (.inr (j2, cs2)) => pcd K f false j2 (ppo 10016 (cs2 ++ [K j1]) p).1 (ppo 10016 (cs2 ++ [K j1]) p).2) else some (.inl (1, j1))) = some (.inr (i, ds)) := h
    have hj18 : jon p ≤ 18 := by have := pok_j p h1; omega
    rw [if_pos rfl, Nat.add_zero]
    by_cases c : K j = 10016 ∨ K j = 20040
    · rw [if_pos c] at h
      by_cases o8 : opn p = 8
      · rw [if_pos o8] at h; cases h
      · rw [if_neg o8] at h
        have eo : opn (K j :: p) = opn p + 1 := by
          show (if K j = 10016 ∨ K j = 20040 then 1 else 0) + opn p = _
          rw [if_pos c]; exact Nat.add_comm _ _
        have ej : jon (K j :: p) = jon p := by
          show (if K j = 10016 ∨ K j = 20040 then 0 else 1) + jon p = _
          rw [if_pos c, Nat.zero_add]
        obtain ⟨s, e, hs⟩ := pcd_k f true (j + 1) cs (K j :: p) i ds ⟨h1, c.imp id Or.inl⟩ (by omega) (fun z => by cases z) h
        rw [if_pos rfl, Nat.add_zero, ej] at hs
        exact ⟨s, e, hs⟩
    · rw [if_neg c] at h
      cases hp : pe K 401 j cs with
      | none => rw [hp] at h; cases h
      | some x =>
        rw [hp] at h
        cases x with
        | inl y => cases h
        | inr y =>
          obtain ⟨j1, cs1⟩ := y
          replace h : (if 20060 ≤ K j1 ∧ K j1 ≤ 20062 then (match pe K 401 (j1 + 1) cs1 with | none => none | some (.inl x) => some (.inl x) | some (.inr (j2, cs2)) => pcd K f false j2 (ppo 10016 (cs2 ++ [K j1]) p).1 (ppo 10016 (cs2 ++ [K j1]) p).2) else some (.inl (1, j1))) = some (.inr (i, ds)) := h
          obtain ⟨s1, e1, hs1⟩ := pe_k hp
          by_cases c2 : 20060 ≤ K j1 ∧ K j1 ≤ 20062
          · rw [if_pos c2] at h
            cases hp2 : pe K 401 (j1 + 1) cs1 with
            | none => rw [hp2] at h; cases h
            | some x2 =>
              rw [hp2] at h
              cases x2 with
              | inl y => cases h
              | inr y =>
                obtain ⟨j2, cs2⟩ := y
                replace h : pcd K f false j2 (ppo 10016 (cs2 ++ [K j1]) p).1 (ppo 10016 (cs2 ++ [K j1]) p).2 = some (.inr (i, ds)) := h
                obtain ⟨s2, e2, hs2⟩ := pe_k hp2
                obtain ⟨s3, e3, hs3⟩ := ppo_k (x := 10016) (Or.inl rfl) p (cs2 ++ [K j1])
                obtain ⟨s4, e4, hs4⟩ := pcd_k f false j2 _ _ i ds (ppo_ok p _ h1) (Nat.le_trans (ppo_op p _) h2) (fun _ => ppo_h p _) h
                rw [if_neg (by decide)] at hs4
                have hlp : ∀ n, (pon n).length = n := fun n => List.length_replicate
                obtain ⟨k1, g1, u1⟩ := hs1 (pon (jon p)) (by rw [hlp]; omega)
                obtain ⟨k2, g2, u2⟩ := hs2 (k1 :: pon (jon p)) (by rw [List.length_cons, hlp]; omega)
                have u3 : zKs (zdo (K j1)) (zda (K j1)) (k2 :: k1 :: pon (jon p)) = some (pon (jon p + 1)) := by
                  have hc : K j1 = 20060 ∨ K j1 = 20061 ∨ K j1 = 20062 := by omega
                  rcases hc with z | z | z
                  · rw [z]; exact zks_2 (o := 6) rfl (by decide) (zkb_c (Or.inl rfl) g1 g2)
                  · rw [z]; exact zks_2 (o := 7) rfl (by decide) (zkb_c (Or.inr (Or.inl rfl)) g1 g2)
                  · rw [z]; exact zks_2 (o := 8) rfl (by decide) (zkb_c (Or.inr (Or.inr rfl)) g1 g2)
                refine ⟨s1 ++ (s2 ++ ([K j1] ++ (s3 ++ s4))), by rw [e4, e3, e2, e1]; simp [List.append_assoc], ?_⟩
                rw [pkl_app _ _ _ _ u1, pkl_app _ _ _ _ u2, pkl_app _ _ _ _ (pkl_1 u3), pkl_app _ _ _ _ hs3]
                exact hs4
          · rw [if_neg c2] at h; cases h
  | f + 1, false, j, cs, p, i, ds, h1, h2, h3, h => by
    have h : (if K j = 10015 then pcd K f true (j + 1) (ppo 10015 cs p).1 (10015 :: (ppo 10015 cs p).2) else if K j = 10014 then pcd K f true (j + 1) (pjo cs p).1 (10014 :: (pjo cs p).2) else if K j = 20041 ∧ 0 < brn p then pcd K f false (j + 1) (ppo 10016 (pjo cs p).1 (pjo cs p).2.tail).1 (ppo 10016 (pjo cs p).1 (pjo cs p).2.tail).2 else if brn p = 0 then some (.inr (j, (pjo cs p).1)) else some (.inl (1, j))) = some (.inr (i, ds)) := h
    have hh := h3 rfl
    obtain ⟨ej, et⟩ := pjo_top (cs := cs) h1 hh
    rw [if_neg (by decide)]
    by_cases c1 : K j = 10015
    · rw [if_pos c1] at h
      obtain ⟨s, e, hs⟩ := ppo_k (x := 10015) (Or.inr (Or.inl rfl)) p cs
      have hpk : pok (10015 :: (ppo 10015 cs p).2) := ⟨ppo_ok p cs h1, Or.inr (Or.inr (Or.inl ⟨rfl, ppo_h p cs, ppo_nh h1 hh⟩))⟩
      have eo : opn (10015 :: (ppo 10015 cs p).2) = opn p := (Nat.zero_add _).trans (ppo_oe (by decide) p cs)
      have ejn : jon (10015 :: (ppo 10015 cs p).2) = jon (ppo 10015 cs p).2 + 1 := Nat.add_comm _ _
      obtain ⟨s2, e2, hs2⟩ := pcd_k f true (j + 1) _ _ i ds hpk (by omega) (fun z => by cases z) h
      rw [if_pos rfl, Nat.add_zero, ejn] at hs2
      exact ⟨s ++ s2, by rw [e2, e, List.append_assoc], by rw [pkl_app _ _ _ _ hs]; exact hs2⟩
    · rw [if_neg c1] at h
      obtain ⟨s, e, hs⟩ := pjo_k p cs
      have eo2 : opn (pjo cs p).2 = opn p := by unfold pjo; rw [ppo_oe (by decide), ppo_oe (by decide)]
      have eb2 : brn (pjo cs p).2 = brn p := by unfold pjo; rw [ppo_br (by decide), ppo_br (by decide)]
      have hpk0 : pok (pjo cs p).2 := ppo_ok _ _ (ppo_ok p cs h1)
      by_cases c2 : K j = 10014
      · rw [if_pos c2] at h
        have hpk : pok (10014 :: (pjo cs p).2) := by
          refine ⟨hpk0, Or.inr (Or.inr (Or.inr ⟨rfl, ?_⟩))⟩
          rcases et with z | ⟨q, z⟩
          · rw [z]; exact ⟨fun z => (by cases z), fun z => (by cases z), fun z => (by cases z)⟩
          · rw [z]; exact ⟨fun z => absurd (Option.some.inj z) (by decide), fun z => absurd (Option.some.inj z) (by decide), fun z => absurd (Option.some.inj z) (by decide)⟩
        have eo : opn (10014 :: (pjo cs p).2) = opn p := (Nat.zero_add _).trans eo2
        have ejn : jon (10014 :: (pjo cs p).2) = jon (pjo cs p).2 + 1 := Nat.add_comm _ _
        obtain ⟨s2, e2, hs2⟩ := pcd_k f true (j + 1) _ _ i ds hpk (by omega) (fun z => by cases z) h
        rw [if_pos rfl, Nat.add_zero, ejn] at hs2
        exact ⟨s ++ s2, by rw [e2, e, List.append_assoc], by rw [pkl_app _ _ _ _ hs]; exact hs2⟩
      · rw [if_neg c2] at h
        by_cases c3 : K j = 20041 ∧ 0 < brn p
        · rw [if_pos c3] at h
          obtain ⟨q, eq⟩ := et.resolve_left (fun z => by rw [z] at eb2; have : brn [] = 0 := rfl; omega)
          rw [eq] at hs hpk0 eo2 h
          rw [List.tail_cons] at h
          have ejq : jon (20040 :: q) = jon q := Nat.zero_add _
          have eoq : opn (20040 :: q) = opn q + 1 := Nat.add_comm _ _
          rw [ejq] at hs
          obtain ⟨s3, e3, hs3⟩ := ppo_k (x := 10016) (Or.inl rfl) q (pjo cs p).1
          obtain ⟨s4, e4, hs4⟩ := pcd_k f false (j + 1) _ _ i ds (ppo_ok q _ hpk0.1) (Nat.le_trans (ppo_op q _) (by omega)) (fun _ => ppo_h q _) h
          rw [if_neg (by decide)] at hs4
          exact ⟨s ++ (s3 ++ s4), by rw [e4, e3, e]; simp [List.append_assoc], by rw [pkl_app _ _ _ _ hs, pkl_app _ _ _ _ hs3]; exact hs4⟩
        · rw [if_neg c3] at h
          by_cases c4 : brn p = 0
          · rw [if_pos c4] at h
            have e2 := Option.some.inj h
            injection e2 with e2
            injection e2 with e2 e5
            have e0 : (pjo cs p).2 = [] := et.resolve_right (fun ⟨q, z⟩ => by
              rw [z] at eb2
              have : brn (20040 :: q) = 1 + brn q := rfl
              omega)
            rw [e0] at hs
            exact ⟨s, e5.symm.trans e, hs⟩
          · rw [if_neg c4] at h; cases h
/-- a line of the law that is good, within codes -/
def pGd (cs : List Nat) (row : pRw) : Prop := ∃ (w : Nat) (pre s1 s2 post : List Nat) (k : Nat), w ≤ 2 ∧ row = (nI (10000 + w), nI pre.length, nI (pre.length + s1.length), nI (pre.length + s1.length + s2.length)) ∧ cs = pre ++ s1 ++ s2 ++ post ∧ pkl s1 [] = some [k] ∧ (s2 = [] ∨ pkl s2 [] = some [1])
theorem pGd_m {cs s : List Nat} {row : pRw} (h : pGd cs row) : pGd (cs ++ s) row := by
  obtain ⟨w, pre, s1, s2, post, k, h1, h2, h3, h4, h5⟩ := h
  exact ⟨w, pre, s1, s2, post ++ s, k, h1, h2, by rw [h3]; simp [List.append_assoc], h4, h5⟩
theorem plw_g {K : Nat → Nat} {j i : Nat} {cs ds : List Nat} {row : pRw} (hb : 10000 ≤ K j ∧ K j ≤ 10002) (h : plw K j cs = some (.inr (i, ds, row))) : ∃ s, ds = cs ++ s ∧ pGd ds row := by
  unfold plw at h
  have hlen : ∀ a c : List Nat, nI (a ++ c).length = nI (a.length + c.length) := fun a c => by rw [List.length_append]
  cases hp : pe K 401 (j + 1) cs with
  | none => rw [hp] at h; cases h
  | some x =>
    rw [hp] at h
    cases x with
    | inl y => cases h
    | inr y =>
      obtain ⟨j1, cs1⟩ := y
      obtain ⟨s1, e1, hs1⟩ := pe_k hp
      obtain ⟨k1, g1, u1⟩ := hs1 [] (by decide)
      replace h : (if K j1 = 10013 then (match pcd K 500 true (j1 + 1) cs1 [] with | none => none | some (.inl x) => some (.inl x) | some (.inr (j2, cs2)) => pkw K j2 20059 (some (.inr (j2 + 1, cs2, nI (K j), nI cs.length, nI cs1.length, nI cs2.length)))) else pkw K j1 20059 (some (.inr (j1 + 1, cs1, nI (K j), nI cs.length, nI cs1.length, nI cs1.length)))) = some (.inr (i, ds, row)) := h
      by_cases c : K j1 = 10013
      · rw [if_pos c] at h
        cases hp2 : pcd K 500 true (j1 + 1) cs1 [] with
        | none => rw [hp2] at h; cases h
        | some x2 =>
          rw [hp2] at h
          cases x2 with
          | inl y => cases h
          | inr y =>
            obtain ⟨j2, cs2⟩ := y
            obtain ⟨s2, e2, hs2⟩ := pcd_k 500 true (j1 + 1) cs1 [] j2 cs2 trivial (Nat.zero_le _) (fun z => by cases z) hp2
            have h4 := Option.some.inj (pkw_cs h)
            injection h4 with h4
            injection h4 with h5 h6
            injection h6 with h6 h7
            subst h6
            refine ⟨s1 ++ s2, by rw [e2, e1, List.append_assoc], K j - 10000, cs, s1, s2, [], k1, by omega, ?_, by rw [e2, e1, List.append_nil], u1, Or.inr hs2⟩
            rw [← h7, e2, e1, hlen, hlen, List.length_append, show 10000 + (K j - 10000) = K j by omega]
      · rw [if_neg c] at h
        have h4 := Option.some.inj (pkw_cs h)
        injection h4 with h4
        injection h4 with h5 h6
        injection h6 with h6 h7
        subst h6
        refine ⟨s1, e1, K j - 10000, cs, s1, [], [], k1, by omega, ?_, by rw [e1, List.append_nil, List.append_nil], u1, Or.inl rfl⟩
        rw [← h7, e1, hlen, show 10000 + (K j - 10000) = K j by omega]
        rfl
theorem ptx_g {K : Nat → Nat} : ∀ (f j : Nat) (cs : List Nat) (rows : List pRw) (ds : List Nat) (ro : List pRw), (∀ x, x ∈ rows → pGd cs x) → ptx 10000 10002 (plw K) K f j cs rows = some (.inr (ds, ro)) → ∀ x, x ∈ ro → pGd ds x
  | 0, j, cs, rows, ds, ro, hg, h => by cases h
  | f + 1, j, cs, rows, ds, ro, hg, h => by
    have h2 : (if K j = 30001 then some (.inr (cs, rows)) else if ¬ (10000 ≤ K j ∧ K j ≤ 10002) then some (.inl (1, j)) else if rows.length = 16 then some (.inl (3, j)) else match plw K j cs with | none => none | some (.inl x) => some (.inl x) | some (.inr (i, ds, row)) => ptx 10000 10002 (plw K) K f i ds (rows ++ [row])) = some (.inr (ds, ro)) := h
    by_cases c0 : K j = 30001
    · rw [if_pos c0] at h2
      have e := Option.some.inj h2
      injection e with e
      injection e with e1 e2
      subst e1; subst e2
      exact hg
    · rw [if_neg c0] at h2
      by_cases c : 10000 ≤ K j ∧ K j ≤ 10002
      · rw [if_neg (fun z => z c)] at h2
        by_cases c16 : rows.length = 16
        · rw [if_pos c16] at h2; cases h2
        · rw [if_neg c16] at h2
          cases hp : plw K j cs with
          | none => rw [hp] at h2; cases h2
          | some y =>
            rw [hp] at h2
            cases y with
            | inl y => cases h2
            | inr y =>
              obtain ⟨i, es, row⟩ := y
              obtain ⟨s, e, hr⟩ := plw_g c hp
              refine ptx_g f i es (rows ++ [row]) ds ro (fun x hx => ?_) h2
              rcases List.mem_append.mp hx with h | h
              · rw [e]; exact pGd_m (hg x h)
              · rw [List.mem_singleton.mp h]; exact hr
      · rw [if_pos c] at h2; cases h2
theorem zKc_l {cs : List Nat} : ∀ (seg pre post ks : List Nat), cs = pre ++ seg ++ post → zKc (fun j => zdo (cs.getD j 0)) (fun j => zda (cs.getD j 0)) seg.length pre.length ks = pkl seg ks
  | [], pre, post, ks, h => rfl
  | c :: seg, pre, post, ks, h => by
    have e : cs.getD pre.length 0 = c := by
      rw [h, List.append_assoc, List.getD_eq_getElem?_getD, List.getElem?_append_right (Nat.le_refl _), Nat.sub_self]
      rfl
    have ih := fun ks => zKc_l (cs := cs) seg (pre ++ [c]) post ks (by rw [h]; simp [List.append_assoc])
    show (match zKs (zdo (cs.getD pre.length 0)) (zda (cs.getD pre.length 0)) ks with | none => none | some ks => zKc _ _ seg.length (pre.length + 1) ks) = (match zKs (zdo c) (zda c) ks with | none => none | some ks => pkl seg ks)
    rw [e]
    cases zKs (zdo c) (zda c) ks with
    | none => rfl
    | some k2 =>
      have := ih k2
      rw [List.length_append, List.length_singleton] at this
      exact this

