/-! SOUND, a run -/
/-- runs method y from pc: d more calls deep at most -/
noncomputable def zrun : Nat → Nat → Nat → Nat → List Value → List Value → zW → Option (Option Value × zW)
  | 0, _, _, _, _, _, _ => none
  | f + 1, d, y, pc, L, S, w =>
    match zcode y pc with
    | none => none
    | some i =>
      if 12 < S.length then none
      else if i.1 = 28 ∨ i.1 = 29 then match zret i S (zm y).2.2.2.1 with
        | some r => some (r, w)
        | none => none
      else if i.1 = 30 ∨ i.1 = 31 ∨ i.1 = 32 then match d with
        | 0 => none
        | d' + 1 => match zcal i S w (zm i.2.1).2.2.2.2.1 (zm i.2.1).2.2.1 with
          | none => none
          | some (as, rest) => match zrun f d' i.2.1 0 (as ++ List.replicate ((zm i.2.1).2.2.1 - as.length) zun) [] w with
            | none => none
            | some (r, w') => zrun f (d' + 1) y i.2.2.2.2.1 L (r.toList ++ rest) w'
      else if i.1 = 39 ∨ i.1 = 40 then (if 4 ≤ d then match zstr i S with
          | some S' => zrun f d y i.2.2.2.2.1 L S' w
          | none => none
        else none)
      else match zstp i L S w with
        | none => none
        | some (n, L', S', w') => zrun f d y n L' S' w'
theorem zstp_mono {i : zI} {L S : List Value} {w : zW} {n : Nat} {L' S' : List Value} {w' : zW} (hs : zstp i L S w = some (n, L', S', w')) : L'.length = L.length ∧ w.length ≤ w'.length ∧ zsl w ≤ zsl w' := by
  obtain ⟨op, a, b, cp, n0, x, t⟩ := i
  revert hs
  match op with
  | 0 =>
    intro hs
    change (some (n0, L, .int x :: S, w)) = some (n, L', S', w') at hs
    (repeat' split at hs) <;> first | (cases hs; done) | (cases hs; exact ⟨rfl, Nat.le_refl _, Nat.le_refl _⟩) | (cases hs; exact ⟨List.length_set, Nat.le_refl _, Nat.le_refl _⟩)
  | 1 =>
    intro hs
    change (match (generalizing := false) L[a]? with
        | some (.int v) => some (n0, L, .int v :: S, w)
        | _ => none) = some (n, L', S', w') at hs
    (repeat' split at hs) <;> first | (cases hs; done) | (cases hs; exact ⟨rfl, Nat.le_refl _, Nat.le_refl _⟩) | (cases hs; exact ⟨List.length_set, Nat.le_refl _, Nat.le_refl _⟩)
  | 2 =>
    intro hs
    change (match (generalizing := false) L[a]? with
        | some (.ref v) => some (n0, L, .ref v :: S, w)
        | _ => none) = some (n, L', S', w') at hs
    (repeat' split at hs) <;> first | (cases hs; done) | (cases hs; exact ⟨rfl, Nat.le_refl _, Nat.le_refl _⟩) | (cases hs; exact ⟨List.length_set, Nat.le_refl _, Nat.le_refl _⟩)
  | 3 =>
    intro hs
    change (match (generalizing := false) S with
        | .int v :: S => if a < L.length then some (n0, L.set a (.int v), S, w) else none
        | _ => none) = some (n, L', S', w') at hs
    (repeat' split at hs) <;> first | (cases hs; done) | (cases hs; exact ⟨rfl, Nat.le_refl _, Nat.le_refl _⟩) | (cases hs; exact ⟨List.length_set, Nat.le_refl _, Nat.le_refl _⟩)
  | 4 =>
    intro hs
    change (match (generalizing := false) S with
        | .ref v :: S => if a < L.length then some (n0, L.set a (.ref v), S, w) else none
        | _ => none) = some (n, L', S', w') at hs
    (repeat' split at hs) <;> first | (cases hs; done) | (cases hs; exact ⟨rfl, Nat.le_refl _, Nat.le_refl _⟩) | (cases hs; exact ⟨List.length_set, Nat.le_refl _, Nat.le_refl _⟩)
  | 5 =>
    intro hs
    change (match (generalizing := false) L[a]? with
        | some (.int v) => some (n0, L.set a (.int (v + x)), S, w)
        | _ => none) = some (n, L', S', w') at hs
    (repeat' split at hs) <;> first | (cases hs; done) | (cases hs; exact ⟨rfl, Nat.le_refl _, Nat.le_refl _⟩) | (cases hs; exact ⟨List.length_set, Nat.le_refl _, Nat.le_refl _⟩)
  | 6 =>
    intro hs
    change (match (generalizing := false) S with
        | .int v :: .int u :: S => some (n0, L, .int (zbin a u v) :: S, w)
        | _ => none) = some (n, L', S', w') at hs
    (repeat' split at hs) <;> first | (cases hs; done) | (cases hs; exact ⟨rfl, Nat.le_refl _, Nat.le_refl _⟩) | (cases hs; exact ⟨List.length_set, Nat.le_refl _, Nat.le_refl _⟩)
  | 7 =>
    intro hs
    change (match (generalizing := false) S with
        | .int v :: .int u :: S => if v = 0 then none else some (n0, L, .int (if a = 0 then u / v else u % v) :: S, w)
        | _ => none) = some (n, L', S', w') at hs
    (repeat' split at hs) <;> first | (cases hs; done) | (cases hs; exact ⟨rfl, Nat.le_refl _, Nat.le_refl _⟩) | (cases hs; exact ⟨List.length_set, Nat.le_refl _, Nat.le_refl _⟩)
  | 8 =>
    intro hs
    change (match (generalizing := false) S with
        | .int v :: S => some (n0, L, .int (-v) :: S, w)
        | _ => none) = some (n, L', S', w') at hs
    (repeat' split at hs) <;> first | (cases hs; done) | (cases hs; exact ⟨rfl, Nat.le_refl _, Nat.le_refl _⟩) | (cases hs; exact ⟨List.length_set, Nat.le_refl _, Nat.le_refl _⟩)
  | 9 =>
    intro hs
    change (match (generalizing := false) S with
        | .int v :: S => some (n0, L, .int v :: .int v :: S, w)
        | .ref v :: S => some (n0, L, .ref v :: .ref v :: S, w)
        | _ => none) = some (n, L', S', w') at hs
    (repeat' split at hs) <;> first | (cases hs; done) | (cases hs; exact ⟨rfl, Nat.le_refl _, Nat.le_refl _⟩) | (cases hs; exact ⟨List.length_set, Nat.le_refl _, Nat.le_refl _⟩)
  | 10 =>
    intro hs
    change (match (generalizing := false) S with
        | .int v :: .ref u :: S => some (n0, L, .int v :: .ref u :: .int v :: .ref u :: S, w)
        | _ => none) = some (n, L', S', w') at hs
    (repeat' split at hs) <;> first | (cases hs; done) | (cases hs; exact ⟨rfl, Nat.le_refl _, Nat.le_refl _⟩) | (cases hs; exact ⟨List.length_set, Nat.le_refl _, Nat.le_refl _⟩)
  | 11 =>
    intro hs
    change (match (generalizing := false) S with
        | .int _ :: S => some (n0, L, S, w)
        | .ref _ :: S => some (n0, L, S, w)
        | _ => none) = some (n, L', S', w') at hs
    (repeat' split at hs) <;> first | (cases hs; done) | (cases hs; exact ⟨rfl, Nat.le_refl _, Nat.le_refl _⟩) | (cases hs; exact ⟨List.length_set, Nat.le_refl _, Nat.le_refl _⟩)
  | 12 =>
    intro hs
    change (match (generalizing := false) S with
        | .ref r :: S => match (generalizing := false) w[r]? with
          | some (.inr (.inr (ci, fs))) => if ci = a then match (generalizing := false) fs[b]? with
            | some (.int v) => some (n0, L, .int v :: S, w)
            | some (.ref v) => some (n0, L, .ref v :: S, w)
            | _ => none else none
          | _ => none
        | _ => none) = some (n, L', S', w') at hs
    (repeat' split at hs) <;> first | (cases hs; done) | (cases hs; exact ⟨rfl, Nat.le_refl _, Nat.le_refl _⟩) | (cases hs; exact ⟨List.length_set, Nat.le_refl _, Nat.le_refl _⟩)
  | 13 =>
    intro hs
    change (match (generalizing := false) S with
        | v :: .ref r :: S => match (generalizing := false) w[r]? with
          | some (.inr (.inr (ci, fs))) => if ci = a ∧ b < fs.length ∧ zfit (zty a b) v = true then some (n0, L, S, w.set r (.inr (.inr (ci, fs.set b v)))) else none
          | _ => none
        | _ => none) = some (n, L', S', w') at hs
    split at hs
    · split at hs
      · rename_i he
        split at hs
        · cases hs
          refine ⟨rfl, Nat.le_of_eq List.length_set.symm, ?_⟩
          rw [zsl_set he (by simp [zsz])]
          exact Nat.le_refl _
        · cases hs
      · cases hs
    · cases hs
  | 14 =>
    intro hs
    change (match (generalizing := false) S with
        | .int j :: .ref r :: S => match (generalizing := false) w[r]? with
          | some (.inl l) => if zin j l.length then some (n0, L, .int (l.getD j.toNatClampNeg 0) :: S, w) else none
          | _ => none
        | _ => none) = some (n, L', S', w') at hs
    (repeat' split at hs) <;> first | (cases hs; done) | (cases hs; exact ⟨rfl, Nat.le_refl _, Nat.le_refl _⟩) | (cases hs; exact ⟨List.length_set, Nat.le_refl _, Nat.le_refl _⟩)
  | 15 =>
    intro hs
    change (match (generalizing := false) S with
        | .int v :: .int j :: .ref r :: S => match (generalizing := false) w[r]? with
          | some (.inl l) => if zin j l.length then some (n0, L, S, w.set r (.inl (l.set j.toNatClampNeg v))) else none
          | _ => none
        | _ => none) = some (n, L', S', w') at hs
    split at hs
    · split at hs
      · rename_i he
        split at hs
        · cases hs
          refine ⟨rfl, Nat.le_of_eq List.length_set.symm, ?_⟩
          rw [zsl_set he (by simp [zsz])]
          exact Nat.le_refl _
        · cases hs
      · cases hs
    · cases hs
  | 16 =>
    intro hs
    change (match (generalizing := false) S with
        | .ref r :: S => match (generalizing := false) w[r]? with
          | some (.inl l) => some (n0, L, .int (Int32.ofNat l.length) :: S, w)
          | _ => none
        | _ => none) = some (n, L', S', w') at hs
    (repeat' split at hs) <;> first | (cases hs; done) | (cases hs; exact ⟨rfl, Nat.le_refl _, Nat.le_refl _⟩) | (cases hs; exact ⟨List.length_set, Nat.le_refl _, Nat.le_refl _⟩)
  | 17 =>
    intro hs
    change (match (generalizing := false) S with
        | .int j :: .ref r :: S => match (generalizing := false) w[r]? with
          | some (.inr (.inl l)) => if zin j l.length then match (generalizing := false) l.getD j.toNatClampNeg none with
            | some v => some (n0, L, .ref v :: S, w)
            | none => none else none
          | _ => none
        | _ => none) = some (n, L', S', w') at hs
    (repeat' split at hs) <;> first | (cases hs; done) | (cases hs; exact ⟨rfl, Nat.le_refl _, Nat.le_refl _⟩) | (cases hs; exact ⟨List.length_set, Nat.le_refl _, Nat.le_refl _⟩)
  | 18 =>
    intro hs
    change (match (generalizing := false) S with
        | .ref v :: .int j :: .ref r :: S => match (generalizing := false) w[r]?, w[v]? with
          | some (.inr (.inl l)), some (.inr (.inr (1, _))) => if zin j l.length then some (n0, L, S, w.set r (.inr (.inl (l.set j.toNatClampNeg (some v))))) else none
          | _, _ => none
        | _ => none) = some (n, L', S', w') at hs
    split at hs
    · split at hs
      · rename_i he hv
        split at hs
        · cases hs
          refine ⟨rfl, Nat.le_of_eq List.length_set.symm, ?_⟩
          rw [zsl_set he (by simp [zsz])]
          exact Nat.le_refl _
        · cases hs
      · cases hs
    · cases hs
  | 19 =>
    intro hs
    change (match (generalizing := false) S with
        | .int k :: S => if 0 ≤ k ∧ k.toNatClampNeg ≤ 100000 then some (n0, L, .ref w.length :: S, w ++ [.inl (List.replicate k.toNatClampNeg 0)]) else none
        | _ => none) = some (n, L', S', w') at hs
    (repeat' split at hs) <;> first | (cases hs; done) | (cases hs; exact ⟨rfl, by rw [List.length_append]; exact Nat.le_add_right _ _, by rw [zsl_app]; exact Nat.le_add_right _ _⟩)
  | 20 =>
    intro hs
    change (match (generalizing := false) S with
        | .int k :: S => if 0 ≤ k ∧ k.toNatClampNeg ≤ 100000 then some (n0, L, .ref w.length :: S, w ++ [.inr (.inl (List.replicate k.toNatClampNeg none))]) else none
        | _ => none) = some (n, L', S', w') at hs
    (repeat' split at hs) <;> first | (cases hs; done) | (cases hs; exact ⟨rfl, by rw [List.length_append]; exact Nat.le_add_right _ _, by rw [zsl_app]; exact Nat.le_add_right _ _⟩)
  | 21 =>
    intro hs
    change (some (n0, L, .ref w.length :: S, w ++ [.inr (.inr (a, (List.range b).map fun k => zdv (zty a k)))])) = some (n, L', S', w') at hs
    (repeat' split at hs) <;> first | (cases hs; done) | (cases hs; exact ⟨rfl, by rw [List.length_append]; exact Nat.le_add_right _ _, by rw [zsl_app]; exact Nat.le_add_right _ _⟩)
  | 22 =>
    intro hs
    change (match (generalizing := false) S with
        | .int v :: S => some (if zcmp a v 0 then b else n0, L, S, w)
        | _ => none) = some (n, L', S', w') at hs
    (repeat' split at hs) <;> first | (cases hs; done) | (cases hs; exact ⟨rfl, Nat.le_refl _, Nat.le_refl _⟩) | (cases hs; exact ⟨List.length_set, Nat.le_refl _, Nat.le_refl _⟩)
  | 23 =>
    intro hs
    change (match (generalizing := false) S with
        | .int v :: .int u :: S => some (if zcmp a u v then b else n0, L, S, w)
        | _ => none) = some (n, L', S', w') at hs
    (repeat' split at hs) <;> first | (cases hs; done) | (cases hs; exact ⟨rfl, Nat.le_refl _, Nat.le_refl _⟩) | (cases hs; exact ⟨List.length_set, Nat.le_refl _, Nat.le_refl _⟩)
  | 24 =>
    intro hs
    change (some (b, L, S, w)) = some (n, L', S', w') at hs
    (repeat' split at hs) <;> first | (cases hs; done) | (cases hs; exact ⟨rfl, Nat.le_refl _, Nat.le_refl _⟩) | (cases hs; exact ⟨List.length_set, Nat.le_refl _, Nat.le_refl _⟩)
  | 25 =>
    intro hs
    change (match (generalizing := false) S with
        | .ref _ :: S => some (n0, L, S, w)
        | _ => none) = some (n, L', S', w') at hs
    (repeat' split at hs) <;> first | (cases hs; done) | (cases hs; exact ⟨rfl, Nat.le_refl _, Nat.le_refl _⟩) | (cases hs; exact ⟨List.length_set, Nat.le_refl _, Nat.le_refl _⟩)
  | 26 =>
    intro hs
    change (match (generalizing := false) S with
        | .ref _ :: S => some (b, L, S, w)
        | _ => none) = some (n, L', S', w') at hs
    (repeat' split at hs) <;> first | (cases hs; done) | (cases hs; exact ⟨rfl, Nat.le_refl _, Nat.le_refl _⟩) | (cases hs; exact ⟨List.length_set, Nat.le_refl _, Nat.le_refl _⟩)
  | 27 =>
    intro hs
    change (match (generalizing := false) S with
        | .int v :: S => some (zsw t b v, L, S, w)
        | _ => none) = some (n, L', S', w') at hs
    (repeat' split at hs) <;> first | (cases hs; done) | (cases hs; exact ⟨rfl, Nat.le_refl _, Nat.le_refl _⟩) | (cases hs; exact ⟨List.length_set, Nat.le_refl _, Nat.le_refl _⟩)
  | 33 =>
    intro hs
    change (match (generalizing := false) S with
        | .ref _ :: S => some (n0, L, S, w)
        | _ => none) = some (n, L', S', w') at hs
    (repeat' split at hs) <;> first | (cases hs; done) | (cases hs; exact ⟨rfl, Nat.le_refl _, Nat.le_refl _⟩) | (cases hs; exact ⟨List.length_set, Nat.le_refl _, Nat.le_refl _⟩)
  | 34 =>
    intro hs
    change (match (generalizing := false) S with
        | .int v :: .int u :: S => some (n0, L, .int (if u < v then v else u) :: S, w)
        | _ => none) = some (n, L', S', w') at hs
    (repeat' split at hs) <;> first | (cases hs; done) | (cases hs; exact ⟨rfl, Nat.le_refl _, Nat.le_refl _⟩) | (cases hs; exact ⟨List.length_set, Nat.le_refl _, Nat.le_refl _⟩)
  | 35 =>
    intro hs
    change (match (generalizing := false) S with
        | .int v :: .int u :: S => some (n0, L, .int (if u < v then u else v) :: S, w)
        | _ => none) = some (n, L', S', w') at hs
    (repeat' split at hs) <;> first | (cases hs; done) | (cases hs; exact ⟨rfl, Nat.le_refl _, Nat.le_refl _⟩) | (cases hs; exact ⟨List.length_set, Nat.le_refl _, Nat.le_refl _⟩)
  | 36 =>
    intro hs
    change (match (generalizing := false) S with
        | .int v :: S => some (n0, L, .int (if v < 0 then -v else v) :: S, w)
        | _ => none) = some (n, L', S', w') at hs
    (repeat' split at hs) <;> first | (cases hs; done) | (cases hs; exact ⟨rfl, Nat.le_refl _, Nat.le_refl _⟩) | (cases hs; exact ⟨List.length_set, Nat.le_refl _, Nat.le_refl _⟩)
  | 37 =>
    intro hs
    change (match (generalizing := false) S with
        | .int k :: .int dp :: .ref r1 :: .int sp :: .ref r0 :: S => match (generalizing := false) w[r0]?, w[r1]? with
          | some (.inl f), some (.inl g) => if 0 ≤ sp ∧ 0 ≤ dp ∧ 0 ≤ k ∧ sp.toNatClampNeg + k.toNatClampNeg ≤ f.length ∧ dp.toNatClampNeg + k.toNatClampNeg ≤ g.length then some (n0, L, S, w.set r1 (.inl (zcpy f g sp.toNatClampNeg dp.toNatClampNeg k.toNatClampNeg))) else none
          | _, _ => none
        | _ => none) = some (n, L', S', w') at hs
    split at hs
    · split at hs
      · rename_i he hv
        split at hs
        · cases hs
          exact ⟨rfl, Nat.le_of_eq List.length_set.symm, Nat.le_of_eq (zsl_set hv (by simp [zsz, zcpy])).symm⟩
        · cases hs
      · cases hs
    · cases hs
  | 38 =>
    intro hs
    change (some (n0, L, .long 0 :: S, w)) = some (n, L', S', w') at hs
    (repeat' split at hs) <;> first | (cases hs; done) | (cases hs; exact ⟨rfl, Nat.le_refl _, Nat.le_refl _⟩) | (cases hs; exact ⟨List.length_set, Nat.le_refl _, Nat.le_refl _⟩)
  | 41 =>
    intro hs
    change (match (generalizing := false) S with
        | [.int v, .int u] => if v = 0 then none else some (n0, L, [.int (zfd u v)], w)
        | _ => none) = some (n, L', S', w') at hs
    (repeat' split at hs) <;> first | (cases hs; done) | (cases hs; exact ⟨rfl, Nat.le_refl _, Nat.le_refl _⟩) | (cases hs; exact ⟨List.length_set, Nat.le_refl _, Nat.le_refl _⟩)
  | 42 =>
    intro hs
    change (match (generalizing := false) S with
        | [.int v, .int u] => if v = 0 then none else some (n0, L, [.int (zfm u v)], w)
        | _ => none) = some (n, L', S', w') at hs
    (repeat' split at hs) <;> first | (cases hs; done) | (cases hs; exact ⟨rfl, Nat.le_refl _, Nat.le_refl _⟩) | (cases hs; exact ⟨List.length_set, Nat.le_refl _, Nat.le_refl _⟩)
  | 28 =>
    intro hs
    cases hs
  | 29 =>
    intro hs
    cases hs
  | 30 =>
    intro hs
    cases hs
  | 31 =>
    intro hs
    cases hs
  | 32 =>
    intro hs
    cases hs
  | 39 =>
    intro hs
    cases hs
  | 40 =>
    intro hs
    cases hs
  | op + 43 =>
    intro hs
    cases hs
theorem zrun_mono : ∀ (f d y pc : Nat) (L S : List Value) (w : zW) (r : Option Value) (w' : zW), zrun f d y pc L S w = some (r, w') → w.length ≤ w'.length ∧ zsl w ≤ zsl w'
  | 0, d, y, pc, L, S, w, r, w', h => by cases h
  | f + 1, d, y, pc, L, S, w, r, w', h => by
    rw [zrun] at h
    split at h
    · cases h
    · rename_i i hi
      split at h
      · cases h
      · split at h
        · split at h
          · cases h
            exact ⟨Nat.le_refl _, Nat.le_refl _⟩
          · cases h
        · split at h
          · split at h
            · cases h
            · split at h
              · cases h
              · split at h
                · cases h
                · rename_i h1
                  have g1 := zrun_mono f _ _ _ _ _ _ _ _ h1
                  have g2 := zrun_mono f _ _ _ _ _ _ _ _ h
                  exact ⟨Nat.le_trans g1.1 g2.1, Nat.le_trans g1.2 g2.2⟩
          · split at h
            · split at h
              · split at h
                · exact zrun_mono f _ _ _ _ _ _ _ _ h
                · cases h
              · cases h
            · split at h
              · cases h
              · rename_i h1
                have g1 := (zstp_mono h1).2
                have g2 := zrun_mono f _ _ _ _ _ _ _ _ h
                exact ⟨Nat.le_trans g1.1 g2.1, Nat.le_trans g1.2 g2.2⟩
