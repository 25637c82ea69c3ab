/-! RULES: the world behind the constructors has a fixed shape: zS holds its numbers (cell, place). zk: from here method y comes to its end, and Q holds. -/
abbrev zS : Type := Nat → Nat → Int32
abbrev zSh : Type := Nat ⊕ (List Nat ⊕ (Nat × List (Option Nat)))
def zfv (σ : zS) (k j : Nat) (o : Option Nat) : Value := match o with
  | none => .int (σ k j)
  | some r => .ref r
def zcel (σ : zS) (k : Nat) (h : zSh) : zC := match h with
  | .inl n => .inl ((List.range n).map (σ k))
  | .inr (.inl l) => .inr (.inl (l.map some))
  | .inr (.inr (ci, fl)) => .inr (.inr (ci, (List.range fl.length).map fun j => zfv σ k j (fl.getD j none)))
def zSH : List zSh := [.inr (.inr (11, [some 1, some 38, none, some 75, some 87, some 91, some 95, some 169, some 177, some 194, none])),
  .inr (.inr (5, [some 2, some 14, some 15, some 18, some 21, some 24, some 27, some 30, some 32, some 34, some 36])),
  .inr (.inr (1, [some 3, some 4, some 5, some 6, some 7, some 8, some 9, some 10, some 11, some 12, some 13, none, none, none, none, none, none, none, none, none])),
  .inl 12,
  .inl 12,
  .inl 12,
  .inl 18,
  .inl 18,
  .inl 18,
  .inl 18,
  .inl 18,
  .inl 18,
  .inl 24,
  .inl 24,
  .inl 600,
  .inr (.inr (7, [some 16, some 17, none, none])),
  .inl 64,
  .inl 400,
  .inr (.inr (7, [some 19, some 20, none, none])),
  .inl 64,
  .inl 0,
  .inr (.inr (7, [some 22, some 23, none, none])),
  .inl 64,
  .inl 0,
  .inr (.inr (7, [some 25, some 26, none, none])),
  .inl 64,
  .inl 0,
  .inr (.inr (10, [some 28, some 29])),
  .inl 12,
  .inl 144,
  .inr (.inr (9, [some 31, none])),
  .inl 8,
  .inr (.inr (9, [some 33, none])),
  .inl 5,
  .inr (.inr (9, [some 35, none])),
  .inl 10,
  .inr (.inr (9, [some 37, none])),
  .inl 10,
  .inr (.inr (5, [some 39, some 51, some 52, some 55, some 58, some 61, some 64, some 67, some 69, some 71, some 73])),
  .inr (.inr (1, [some 40, some 41, some 42, some 43, some 44, some 45, some 46, some 47, some 48, some 49, some 50, none, none, none, none, none, none, none, none, none])),
  .inl 12,
  .inl 12,
  .inl 12,
  .inl 18,
  .inl 18,
  .inl 18,
  .inl 18,
  .inl 18,
  .inl 18,
  .inl 24,
  .inl 24,
  .inl 600,
  .inr (.inr (7, [some 53, some 54, none, none])),
  .inl 64,
  .inl 400,
  .inr (.inr (7, [some 56, some 57, none, none])),
  .inl 64,
  .inl 0,
  .inr (.inr (7, [some 59, some 60, none, none])),
  .inl 64,
  .inl 0,
  .inr (.inr (7, [some 62, some 63, none, none])),
  .inl 64,
  .inl 0,
  .inr (.inr (10, [some 65, some 66])),
  .inl 12,
  .inl 144,
  .inr (.inr (9, [some 68, none])),
  .inl 8,
  .inr (.inr (9, [some 70, none])),
  .inl 5,
  .inr (.inr (9, [some 72, none])),
  .inl 10,
  .inr (.inr (9, [some 74, none])),
  .inl 10,
  .inr (.inr (1, [some 76, some 77, some 78, some 79, some 80, some 81, some 82, some 83, some 84, some 85, some 86, none, none, none, none, none, none, none, none, none])),
  .inl 12,
  .inl 12,
  .inl 12,
  .inl 18,
  .inl 18,
  .inl 18,
  .inl 18,
  .inl 18,
  .inl 18,
  .inl 24,
  .inl 24,
  .inr (.inr (0, [some 1, some 2, some 88, none, none])),
  .inr (.inr (2, [some 15, some 2, some 89, some 90])),
  .inl 10,
  .inl 32,
  .inr (.inr (0, [some 1, some 75, some 92, none, none])),
  .inr (.inr (2, [some 15, some 75, some 93, some 94])),
  .inl 10,
  .inl 32,
  .inr (.inr (3, [some 96, none, none])),
  .inr (.inl [97, 109, 121, 133, 145, 157]),
  .inr (.inr (1, [some 98, some 99, some 100, some 101, some 102, some 103, some 104, some 105, some 106, some 107, some 108, none, none, none, none, none, none, none, none, none])),
  .inl 12,
  .inl 12,
  .inl 12,
  .inl 18,
  .inl 18,
  .inl 18,
  .inl 18,
  .inl 18,
  .inl 18,
  .inl 24,
  .inl 24,
  .inr (.inr (1, [some 110, some 111, some 112, some 113, some 114, some 115, some 116, some 117, some 118, some 119, some 120, none, none, none, none, none, none, none, none, none])),
  .inl 12,
  .inl 12,
  .inl 12,
  .inl 18,
  .inl 18,
  .inl 18,
  .inl 18,
  .inl 18,
  .inl 18,
  .inl 24,
  .inl 24,
  .inr (.inr (1, [some 122, some 123, some 124, some 125, some 126, some 127, some 128, some 129, some 130, some 131, some 132, none, none, none, none, none, none, none, none, none])),
  .inl 12,
  .inl 12,
  .inl 12,
  .inl 18,
  .inl 18,
  .inl 18,
  .inl 18,
  .inl 18,
  .inl 18,
  .inl 24,
  .inl 24,
  .inr (.inr (1, [some 134, some 135, some 136, some 137, some 138, some 139, some 140, some 141, some 142, some 143, some 144, none, none, none, none, none, none, none, none, none])),
  .inl 12,
  .inl 12,
  .inl 12,
  .inl 18,
  .inl 18,
  .inl 18,
  .inl 18,
  .inl 18,
  .inl 18,
  .inl 24,
  .inl 24,
  .inr (.inr (1, [some 146, some 147, some 148, some 149, some 150, some 151, some 152, some 153, some 154, some 155, some 156, none, none, none, none, none, none, none, none, none])),
  .inl 12,
  .inl 12,
  .inl 12,
  .inl 18,
  .inl 18,
  .inl 18,
  .inl 18,
  .inl 18,
  .inl 18,
  .inl 24,
  .inl 24,
  .inr (.inr (1, [some 158, some 159, some 160, some 161, some 162, some 163, some 164, some 165, some 166, some 167, some 168, none, none, none, none, none, none, none, none, none])),
  .inl 12,
  .inl 12,
  .inl 12,
  .inl 18,
  .inl 18,
  .inl 18,
  .inl 18,
  .inl 18,
  .inl 18,
  .inl 24,
  .inl 24,
  .inr (.inr (4, [some 170, some 173, some 176, none, none, none])),
  .inr (.inr (8, [some 171, some 172, none, none, none, none])),
  .inl 401,
  .inl 401,
  .inr (.inr (7, [some 174, some 175, none, none])),
  .inl 64,
  .inl 400,
  .inl 32,
  .inr (.inr (6, [some 178, some 179, none, some 180, some 181, some 182, some 183, some 184, some 185, some 186, some 187, some 188, none, some 189, some 190, some 191, none, none, some 192, some 193])),
  .inl 100,
  .inl 100,
  .inl 5,
  .inl 9,
  .inl 12,
  .inl 12,
  .inl 1000,
  .inl 1000,
  .inl 1000,
  .inl 20,
  .inl 4,
  .inl 10,
  .inl 10,
  .inl 3,
  .inl 10,
  .inl 257,
  .inl 400,
  .inr (.inr (12, [none, some 196, some 197, none, some 198, none, none, some 199, some 200, some 201, some 202, none, none, none, none, none, some 203, some 204, some 205, some 206, some 207, some 208, some 209, some 210, none, none, none, some 211, none, none, none, none, none, none, some 212, none, some 213, none, some 214, some 215, some 216, some 217, some 218, some 219, some 220, some 221, some 222, some 223, none, some 224, none, some 225, some 226, some 227, none, some 228, none, some 229, some 230, some 231, some 232, none, some 233, some 234, some 235, some 236, none, none, none, some 237])),
  .inl 170,
  .inl 1020,
  .inl 170,
  .inl 12,
  .inl 18,
  .inl 600,
  .inl 400,
  .inl 146,
  .inl 2,
  .inl 48,
  .inl 48,
  .inl 48,
  .inl 48,
  .inl 1200,
  .inl 1200,
  .inl 40,
  .inl 64,
  .inl 96,
  .inl 24,
  .inl 10,
  .inl 420,
  .inl 12,
  .inl 1200,
  .inl 5,
  .inl 144,
  .inl 144,
  .inl 1000,
  .inl 1000,
  .inl 8,
  .inl 5,
  .inl 5,
  .inl 24,
  .inl 4,
  .inl 10,
  .inl 10,
  .inl 10,
  .inl 3,
  .inl 10,
  .inl 10,
  .inl 10,
  .inl 256,
  .inl 2400]
def zsh (k : Nat) : zSh := zSH.getD k (.inl 0)
def zwl (σ : zS) : zW := (List.range 238).map fun k => zcel σ k (zsh k)
def zIs (k : Nat) (h : zSh) : Prop := k < 238 ∧ zsh k = h
def up (σ : zS) (k i : Nat) (v : Int32) : zS := fun a b => if a = k ∧ b = i then v else σ a b
theorem zwl_get {σ : zS} {k : Nat} {h : zSh} (hk : zIs k h) : (zwl σ)[k]? = some (zcel σ k h) := by
  unfold zwl
  rw [List.getElem?_map, List.getElem?_range hk.1, ← hk.2]
  rfl
theorem zwl_set {σ σ' : zS} {k : Nat} {h : zSh} {e : zC} (hk : zIs k h) (he : e = zcel σ' k h) (ho : ∀ j, j ≠ k → ∀ i, σ' j i = σ j i) : (zwl σ).set k e = zwl σ' := by
  apply List.ext_getElem?
  intro j
  by_cases hj : j = k
  · subst hj
    rw [List.getElem?_set_self (by simp [zwl]; exact hk.1), zwl_get hk, he]
  · rw [List.getElem?_set_ne (Ne.symm hj)]
    unfold zwl
    rw [List.getElem?_map, List.getElem?_map]
    by_cases hl : j < 238
    · rw [List.getElem?_range hl]
      have : zcel σ j (zsh j) = zcel σ' j (zsh j) := by
        have hf : σ' j = σ j := funext (ho j hj)
        unfold zcel
        split
        · rw [hf]
        · rfl
        · congr 3
          refine List.map_congr_left (fun i _ => ?_)
          unfold zfv
          split
          · rw [hf]
          · rfl
      simp [this]
    · rw [List.getElem?_eq_none (by simpa using hl)]
      rfl
theorem zrange_set {n i : Nat} {f : Nat → Int32} {v : Int32} : ((List.range n).map f).set i v = (List.range n).map (fun b => if b = i then v else f b) := by
  apply List.ext_getElem?
  intro j
  by_cases hj : j = i
  · subst hj
    by_cases hl : j < n
    · rw [List.getElem?_set_self (by simpa using hl)]
      simp [hl]
    · rw [List.getElem?_eq_none (by simpa using hl), List.getElem?_eq_none (by simpa using hl)]
  · rw [List.getElem?_set_ne (Ne.symm hj)]
    by_cases hl : j < n
    · simp [hj, hl]
    · rw [List.getElem?_eq_none (by simpa using hl), List.getElem?_eq_none (by simpa using hl)]
theorem zwl_setA {σ : zS} {k n i : Nat} {v : Int32} (hk : zIs k (.inl n)) : (zwl σ).set k (.inl (((List.range n).map (σ k)).set i v)) = zwl (up σ k i v) := by
  refine zwl_set hk ?_ (fun j hj i' => by simp [up, hj])
  rw [zrange_set]
  show _ = Sum.inl ((List.range n).map ((up σ k i v) k))
  congr 2
  funext b
  simp [up]
theorem zrange_get {n j : Nat} {f : Nat → Int32} (h : j < n) : ((List.range n).map f).getD j 0 = f j := by simp [List.getD_eq_getElem?_getD, h]
theorem zobj_get {σ : zS} {k j : Nat} {fl : List (Option Nat)} {o : Option Nat} (h : fl[j]? = some o) : ((List.range fl.length).map fun j => zfv σ k j (fl.getD j none))[j]? = some (zfv σ k j o) := by
  have hl := (List.getElem?_eq_some_iff.mp h).1
  rw [List.getElem?_map, List.getElem?_range hl]
  simp [List.getD_eq_getElem?_getD, h]
theorem zwl_setO {σ : zS} {k j ci : Nat} {fl : List (Option Nat)} {v : Int32} (hk : zIs k (.inr (.inr (ci, fl)))) (hj : fl[j]? = some none) : (zwl σ).set k (.inr (.inr (ci, ((List.range fl.length).map fun j => zfv σ k j (fl.getD j none)).set j (.int v)))) = zwl (up σ k j v) := by
  refine zwl_set hk ?_ (fun j hj i' => by simp [up, hj])
  show _ = Sum.inr (Sum.inr (ci, (List.range fl.length).map fun i => zfv (up σ k j v) k i (fl.getD i none)))
  congr 3
  have hl := (List.getElem?_eq_some_iff.mp hj).1
  apply List.ext_getElem?
  intro i
  by_cases hi : i = j
  · subst hi
    rw [List.getElem?_set_self (by simpa using hl), List.getElem?_map, List.getElem?_range hl]
    simp [List.getD_eq_getElem?_getD, hj, zfv, up]
  · rw [List.getElem?_set_ne (Ne.symm hi), List.getElem?_map, List.getElem?_map]
    by_cases hl2 : i < fl.length
    · rw [List.getElem?_range hl2]
      simp only [Option.map_some, Option.some.injEq]
      unfold zfv
      split
      · simp [up, hi]
      · rfl
    · rw [List.getElem?_eq_none (by simpa using hl2)]
      rfl
theorem zrun_more : ∀ (f d y pc : Nat) (L S : List Value) (w : zW) (r : Option Value × zW), zrun f d y pc L S w = some r → ∀ g, zrun (f + g) d y pc L S w = some r
  | 0, d, y, pc, L, S, w, r, h, g => by cases h
  | f + 1, d, y, pc, L, S, w, r, h, g => by
    rw [show f + 1 + g = (f + g) + 1 by omega]
    rw [zrun] at h ⊢
    split at h
    · cases h
    · rename_i i hi
      try rw [hi]
      try dsimp only
      split at h
      · cases h
      · rename_i h12
        try rw [if_neg h12]
        split at h
        · rename_i h28
          try rw [if_pos h28]
          exact h
        · rename_i h28
          try rw [if_neg h28]
          split at h
          · rename_i h30
            try rw [if_pos h30]
            split at h
            · cases h
            · try dsimp only
              split at h
              · cases h
              · rename_i hcal
                try rw [hcal]
                try dsimp only
                split at h
                · cases h
                · rename_i h1
                  rw [zrun_more f _ _ _ _ _ _ _ h1 g]
                  exact zrun_more f _ _ _ _ _ _ _ h g
          · rename_i h30
            try rw [if_neg h30]
            split at h
            · rename_i h39
              try rw [if_pos h39]
              split at h
              · rename_i h4
                try rw [if_pos h4]
                split at h
                · rename_i h5
                  try rw [h5]
                  exact zrun_more f _ _ _ _ _ _ _ h g
                · cases h
              · cases h
            · rename_i h39
              try rw [if_neg h39]
              split at h
              · cases h
              · rename_i h5
                try rw [h5]
                exact zrun_more f _ _ _ _ _ _ _ h g
def zk (d y pc : Nat) (L S : List Value) (σ : zS) (Q : Option Int32 → zS → Prop) : Prop := ∃ (f : Nat) (r : Option Int32) (σ' : zS), zrun f d y pc L S (zwl σ) = some (r.map Value.int, zwl σ') ∧ Q r σ'
noncomputable abbrev zents (a : Nat) (as : List Value) : List Value := as ++ List.replicate ((zm a).2.2.1 - as.length) zun
/-- a method that answers a number; one that answers nothing -/
def zI1 (d a : Nat) (as : List Value) (σ : zS) (Q : Int32 → zS → Prop) : Prop := zk d a 0 (zents a as) [] σ (fun r s => ∃ v, r = some v ∧ Q v s)
def zV1 (d a : Nat) (as : List Value) (σ : zS) (Q : zS → Prop) : Prop := zk d a 0 (zents a as) [] σ (fun r s => r = none ∧ Q s)
theorem zk.mono {d y pc : Nat} {L S : List Value} {σ : zS} {Q Q' : Option Int32 → zS → Prop} (h : zk d y pc L S σ Q) (hq : ∀ r s, Q r s → Q' r s) : zk d y pc L S σ Q' := by
  obtain ⟨f, r, σ', h1, h2⟩ := h
  exact ⟨f, r, σ', h1, hq _ _ h2⟩
theorem zI1.mono {d a : Nat} {as : List Value} {σ : zS} {Q Q' : Int32 → zS → Prop} (h : zI1 d a as σ Q) (hq : ∀ r s, Q r s → Q' r s) : zI1 d a as σ Q' := zk.mono h (fun r s ⟨v, h1, h2⟩ => ⟨v, h1, hq _ _ h2⟩)
theorem zV1.mono {d a : Nat} {as : List Value} {σ : zS} {Q Q' : zS → Prop} (h : zV1 d a as σ Q) (hq : ∀ s, Q s → Q' s) : zV1 d a as σ Q' := zk.mono h (fun r s ⟨h1, h2⟩ => ⟨h1, hq _ h2⟩)
def zpl (op : Nat) : Bool := Nat.blt op 28 || Nat.ble 41 op || (Nat.ble 33 op && Nat.ble op 38)
theorem zk_step {d y pc n : Nat} {L S L' S' : List Value} {σ σ' : zS} {Q : Option Int32 → zS → Prop} {i : zI} (hz : zcode y pc = some i) (ho : zpl i.1 = true) (hS : Nat.ble S.length 12 = true) (hs : zstp i L S (zwl σ) = some (n, L', S', zwl σ')) (kk : zk d y n L' S' σ' Q) : zk d y pc L S σ Q := by
  obtain ⟨f, r, σ2, h1, h2⟩ := kk
  refine ⟨f + 1, r, σ2, ?_, h2⟩
  have h12 : ¬ 12 < S.length := Nat.not_lt.mpr (Nat.le_of_ble_eq_true hS)
  simp only [zpl, Bool.or_eq_true, Bool.and_eq_true] at ho
  have e1 : ¬ (i.1 = 28 ∨ i.1 = 29) := by
    rintro (h | h) <;> rw [h] at ho <;> revert ho <;> decide
  have e2 : ¬ (i.1 = 30 ∨ i.1 = 31 ∨ i.1 = 32) := by
    rintro (h | h | h) <;> rw [h] at ho <;> revert ho <;> decide
  have e3 : ¬ (i.1 = 39 ∨ i.1 = 40) := by
    rintro (h | h) <;> rw [h] at ho <;> revert ho <;> decide
  rw [zrun, hz]
  dsimp only
  rw [if_neg h12, if_neg e1, if_neg e2, if_neg e3, hs]
  exact h1
theorem zsh_le : ∀ k, k < 238 → (match zsh k with
    | .inl N => Nat.ble N 2400
    | _ => true) = true := by decide +kernel
theorem zsh_small {k N : Nat} (hk : zIs k (.inl N)) : N ≤ 2400 := by
  have h := zsh_le k hk.1
  rw [hk.2] at h
  exact Nat.le_of_ble_eq_true h
theorem zin_nI {j N : Nat} (h : j < N) (hN : N < 2 ^ 31) : zin (nI j) N = true := by
  simp only [zin, Bool.and_eq_true, decide_eq_true_eq]
  exact ⟨nI_pos' (by omega), by rw [nI_clamp (by omega)]; exact h⟩
theorem r_push {d y pc : Nat} {S : List Value} {σ : zS} {Q : Option Int32 → zS → Prop} {a b c n : Nat} {x : Int32} {t : List (Int32 × Nat)} {L : List Value}  (hz : zcode y pc = some (0, a, b, c, n, x, t)) (hS : Nat.ble (S).length 12 = true)  (kk : zk d y n (L) (.int x :: S) (σ) Q) : zk d y pc (L) (S) σ Q := zk_step hz rfl hS rfl kk
theorem r_il0 {d y pc : Nat} {S : List Value} {σ : zS} {Q : Option Int32 → zS → Prop} {b c n : Nat} {x : Int32} {t : List (Int32 × Nat)} {L : List Value}  {v : Int32} (hz : zcode y pc = some (1, 0, b, c, n, x, t)) (hS : Nat.ble (S).length 12 = true)  (kk : zk d y n (.int v :: L) (.int v :: S) (σ) Q) : zk d y pc (.int v :: L) (S) σ Q := zk_step hz rfl hS rfl kk
theorem r_al0 {d y pc : Nat} {S : List Value} {σ : zS} {Q : Option Int32 → zS → Prop} {b c n : Nat} {x : Int32} {t : List (Int32 × Nat)} {L : List Value}  {v : Nat} (hz : zcode y pc = some (2, 0, b, c, n, x, t)) (hS : Nat.ble (S).length 12 = true)  (kk : zk d y n (.ref v :: L) (.ref v :: S) (σ) Q) : zk d y pc (.ref v :: L) (S) σ Q := zk_step hz rfl hS rfl kk
theorem r_is0 {d y pc : Nat} {S : List Value} {σ : zS} {Q : Option Int32 → zS → Prop} {b c n : Nat} {x : Int32} {t : List (Int32 × Nat)} {L : List Value}  {u : Value} {v : Int32} (hz : zcode y pc = some (3, 0, b, c, n, x, t)) (hS : Nat.ble (.int v :: S).length 12 = true)  (kk : zk d y n (.int v :: L) (S) (σ) Q) : zk d y pc (u :: L) (.int v :: S) σ Q := zk_step hz rfl hS (by show (if 0 < (u :: L).length then some (n, (u :: L).set 0 (.int v), S, zwl σ) else none) = _; rw [if_pos (by simp only [List.length_cons]; omega)]; rfl) kk
theorem r_as0 {d y pc : Nat} {S : List Value} {σ : zS} {Q : Option Int32 → zS → Prop} {b c n : Nat} {x : Int32} {t : List (Int32 × Nat)} {L : List Value}  {u : Value} {v : Nat} (hz : zcode y pc = some (4, 0, b, c, n, x, t)) (hS : Nat.ble (.ref v :: S).length 12 = true)  (kk : zk d y n (.ref v :: L) (S) (σ) Q) : zk d y pc (u :: L) (.ref v :: S) σ Q := zk_step hz rfl hS (by show (if 0 < (u :: L).length then some (n, (u :: L).set 0 (.ref v), S, zwl σ) else none) = _; rw [if_pos (by simp only [List.length_cons]; omega)]; rfl) kk
theorem r_in0 {d y pc : Nat} {S : List Value} {σ : zS} {Q : Option Int32 → zS → Prop} {b c n : Nat} {x : Int32} {t : List (Int32 × Nat)} {L : List Value}  {v : Int32} (hz : zcode y pc = some (5, 0, b, c, n, x, t)) (hS : Nat.ble (S).length 12 = true)  (kk : zk d y n (.int (v + x) :: L) (S) (σ) Q) : zk d y pc (.int v :: L) (S) σ Q := zk_step hz rfl hS rfl kk
theorem r_il1 {d y pc : Nat} {S : List Value} {σ : zS} {Q : Option Int32 → zS → Prop} {b c n : Nat} {x : Int32} {t : List (Int32 × Nat)} {L : List Value}  {v0 : Value} {v : Int32} (hz : zcode y pc = some (1, 1, b, c, n, x, t)) (hS : Nat.ble (S).length 12 = true)  (kk : zk d y n (v0 :: .int v :: L) (.int v :: S) (σ) Q) : zk d y pc (v0 :: .int v :: L) (S) σ Q := zk_step hz rfl hS rfl kk
theorem r_al1 {d y pc : Nat} {S : List Value} {σ : zS} {Q : Option Int32 → zS → Prop} {b c n : Nat} {x : Int32} {t : List (Int32 × Nat)} {L : List Value}  {v0 : Value} {v : Nat} (hz : zcode y pc = some (2, 1, b, c, n, x, t)) (hS : Nat.ble (S).length 12 = true)  (kk : zk d y n (v0 :: .ref v :: L) (.ref v :: S) (σ) Q) : zk d y pc (v0 :: .ref v :: L) (S) σ Q := zk_step hz rfl hS rfl kk
theorem r_is1 {d y pc : Nat} {S : List Value} {σ : zS} {Q : Option Int32 → zS → Prop} {b c n : Nat} {x : Int32} {t : List (Int32 × Nat)} {L : List Value}  {v0 : Value} {u : Value} {v : Int32} (hz : zcode y pc = some (3, 1, b, c, n, x, t)) (hS : Nat.ble (.int v :: S).length 12 = true)  (kk : zk d y n (v0 :: .int v :: L) (S) (σ) Q) : zk d y pc (v0 :: u :: L) (.int v :: S) σ Q := zk_step hz rfl hS (by show (if 1 < (v0 :: u :: L).length then some (n, (v0 :: u :: L).set 1 (.int v), S, zwl σ) else none) = _; rw [if_pos (by simp only [List.length_cons]; omega)]; rfl) kk
theorem r_as1 {d y pc : Nat} {S : List Value} {σ : zS} {Q : Option Int32 → zS → Prop} {b c n : Nat} {x : Int32} {t : List (Int32 × Nat)} {L : List Value}  {v0 : Value} {u : Value} {v : Nat} (hz : zcode y pc = some (4, 1, b, c, n, x, t)) (hS : Nat.ble (.ref v :: S).length 12 = true)  (kk : zk d y n (v0 :: .ref v :: L) (S) (σ) Q) : zk d y pc (v0 :: u :: L) (.ref v :: S) σ Q := zk_step hz rfl hS (by show (if 1 < (v0 :: u :: L).length then some (n, (v0 :: u :: L).set 1 (.ref v), S, zwl σ) else none) = _; rw [if_pos (by simp only [List.length_cons]; omega)]; rfl) kk
theorem r_in1 {d y pc : Nat} {S : List Value} {σ : zS} {Q : Option Int32 → zS → Prop} {b c n : Nat} {x : Int32} {t : List (Int32 × Nat)} {L : List Value}  {v0 : Value} {v : Int32} (hz : zcode y pc = some (5, 1, b, c, n, x, t)) (hS : Nat.ble (S).length 12 = true)  (kk : zk d y n (v0 :: .int (v + x) :: L) (S) (σ) Q) : zk d y pc (v0 :: .int v :: L) (S) σ Q := zk_step hz rfl hS rfl kk
theorem r_il2 {d y pc : Nat} {S : List Value} {σ : zS} {Q : Option Int32 → zS → Prop} {b c n : Nat} {x : Int32} {t : List (Int32 × Nat)} {L : List Value}  {v0 : Value} {v1 : Value} {v : Int32} (hz : zcode y pc = some (1, 2, b, c, n, x, t)) (hS : Nat.ble (S).length 12 = true)  (kk : zk d y n (v0 :: v1 :: .int v :: L) (.int v :: S) (σ) Q) : zk d y pc (v0 :: v1 :: .int v :: L) (S) σ Q := zk_step hz rfl hS rfl kk
theorem r_al2 {d y pc : Nat} {S : List Value} {σ : zS} {Q : Option Int32 → zS → Prop} {b c n : Nat} {x : Int32} {t : List (Int32 × Nat)} {L : List Value}  {v0 : Value} {v1 : Value} {v : Nat} (hz : zcode y pc = some (2, 2, b, c, n, x, t)) (hS : Nat.ble (S).length 12 = true)  (kk : zk d y n (v0 :: v1 :: .ref v :: L) (.ref v :: S) (σ) Q) : zk d y pc (v0 :: v1 :: .ref v :: L) (S) σ Q := zk_step hz rfl hS rfl kk
theorem r_is2 {d y pc : Nat} {S : List Value} {σ : zS} {Q : Option Int32 → zS → Prop} {b c n : Nat} {x : Int32} {t : List (Int32 × Nat)} {L : List Value}  {v0 : Value} {v1 : Value} {u : Value} {v : Int32} (hz : zcode y pc = some (3, 2, b, c, n, x, t)) (hS : Nat.ble (.int v :: S).length 12 = true)  (kk : zk d y n (v0 :: v1 :: .int v :: L) (S) (σ) Q) : zk d y pc (v0 :: v1 :: u :: L) (.int v :: S) σ Q := zk_step hz rfl hS (by show (if 2 < (v0 :: v1 :: u :: L).length then some (n, (v0 :: v1 :: u :: L).set 2 (.int v), S, zwl σ) else none) = _; rw [if_pos (by simp only [List.length_cons]; omega)]; rfl) kk
theorem r_as2 {d y pc : Nat} {S : List Value} {σ : zS} {Q : Option Int32 → zS → Prop} {b c n : Nat} {x : Int32} {t : List (Int32 × Nat)} {L : List Value}  {v0 : Value} {v1 : Value} {u : Value} {v : Nat} (hz : zcode y pc = some (4, 2, b, c, n, x, t)) (hS : Nat.ble (.ref v :: S).length 12 = true)  (kk : zk d y n (v0 :: v1 :: .ref v :: L) (S) (σ) Q) : zk d y pc (v0 :: v1 :: u :: L) (.ref v :: S) σ Q := zk_step hz rfl hS (by show (if 2 < (v0 :: v1 :: u :: L).length then some (n, (v0 :: v1 :: u :: L).set 2 (.ref v), S, zwl σ) else none) = _; rw [if_pos (by simp only [List.length_cons]; omega)]; rfl) kk
theorem r_in2 {d y pc : Nat} {S : List Value} {σ : zS} {Q : Option Int32 → zS → Prop} {b c n : Nat} {x : Int32} {t : List (Int32 × Nat)} {L : List Value}  {v0 : Value} {v1 : Value} {v : Int32} (hz : zcode y pc = some (5, 2, b, c, n, x, t)) (hS : Nat.ble (S).length 12 = true)  (kk : zk d y n (v0 :: v1 :: .int (v + x) :: L) (S) (σ) Q) : zk d y pc (v0 :: v1 :: .int v :: L) (S) σ Q := zk_step hz rfl hS rfl kk
theorem r_il3 {d y pc : Nat} {S : List Value} {σ : zS} {Q : Option Int32 → zS → Prop} {b c n : Nat} {x : Int32} {t : List (Int32 × Nat)} {L : List Value}  {v0 : Value} {v1 : Value} {v2 : Value} {v : Int32} (hz : zcode y pc = some (1, 3, b, c, n, x, t)) (hS : Nat.ble (S).length 12 = true)  (kk : zk d y n (v0 :: v1 :: v2 :: .int v :: L) (.int v :: S) (σ) Q) : zk d y pc (v0 :: v1 :: v2 :: .int v :: L) (S) σ Q := zk_step hz rfl hS rfl kk
theorem r_al3 {d y pc : Nat} {S : List Value} {σ : zS} {Q : Option Int32 → zS → Prop} {b c n : Nat} {x : Int32} {t : List (Int32 × Nat)} {L : List Value}  {v0 : Value} {v1 : Value} {v2 : Value} {v : Nat} (hz : zcode y pc = some (2, 3, b, c, n, x, t)) (hS : Nat.ble (S).length 12 = true)  (kk : zk d y n (v0 :: v1 :: v2 :: .ref v :: L) (.ref v :: S) (σ) Q) : zk d y pc (v0 :: v1 :: v2 :: .ref v :: L) (S) σ Q := zk_step hz rfl hS rfl kk
theorem r_is3 {d y pc : Nat} {S : List Value} {σ : zS} {Q : Option Int32 → zS → Prop} {b c n : Nat} {x : Int32} {t : List (Int32 × Nat)} {L : List Value}  {v0 : Value} {v1 : Value} {v2 : Value} {u : Value} {v : Int32} (hz : zcode y pc = some (3, 3, b, c, n, x, t)) (hS : Nat.ble (.int v :: S).length 12 = true)  (kk : zk d y n (v0 :: v1 :: v2 :: .int v :: L) (S) (σ) Q) : zk d y pc (v0 :: v1 :: v2 :: u :: L) (.int v :: S) σ Q := zk_step hz rfl hS (by show (if 3 < (v0 :: v1 :: v2 :: u :: L).length then some (n, (v0 :: v1 :: v2 :: u :: L).set 3 (.int v), S, zwl σ) else none) = _; rw [if_pos (by simp only [List.length_cons]; omega)]; rfl) kk
theorem r_as3 {d y pc : Nat} {S : List Value} {σ : zS} {Q : Option Int32 → zS → Prop} {b c n : Nat} {x : Int32} {t : List (Int32 × Nat)} {L : List Value}  {v0 : Value} {v1 : Value} {v2 : Value} {u : Value} {v : Nat} (hz : zcode y pc = some (4, 3, b, c, n, x, t)) (hS : Nat.ble (.ref v :: S).length 12 = true)  (kk : zk d y n (v0 :: v1 :: v2 :: .ref v :: L) (S) (σ) Q) : zk d y pc (v0 :: v1 :: v2 :: u :: L) (.ref v :: S) σ Q := zk_step hz rfl hS (by show (if 3 < (v0 :: v1 :: v2 :: u :: L).length then some (n, (v0 :: v1 :: v2 :: u :: L).set 3 (.ref v), S, zwl σ) else none) = _; rw [if_pos (by simp only [List.length_cons]; omega)]; rfl) kk
theorem r_in3 {d y pc : Nat} {S : List Value} {σ : zS} {Q : Option Int32 → zS → Prop} {b c n : Nat} {x : Int32} {t : List (Int32 × Nat)} {L : List Value}  {v0 : Value} {v1 : Value} {v2 : Value} {v : Int32} (hz : zcode y pc = some (5, 3, b, c, n, x, t)) (hS : Nat.ble (S).length 12 = true)  (kk : zk d y n (v0 :: v1 :: v2 :: .int (v + x) :: L) (S) (σ) Q) : zk d y pc (v0 :: v1 :: v2 :: .int v :: L) (S) σ Q := zk_step hz rfl hS rfl kk
theorem r_il4 {d y pc : Nat} {S : List Value} {σ : zS} {Q : Option Int32 → zS → Prop} {b c n : Nat} {x : Int32} {t : List (Int32 × Nat)} {L : List Value}  {v0 : Value} {v1 : Value} {v2 : Value} {v3 : Value} {v : Int32} (hz : zcode y pc = some (1, 4, b, c, n, x, t)) (hS : Nat.ble (S).length 12 = true)  (kk : zk d y n (v0 :: v1 :: v2 :: v3 :: .int v :: L) (.int v :: S) (σ) Q) : zk d y pc (v0 :: v1 :: v2 :: v3 :: .int v :: L) (S) σ Q := zk_step hz rfl hS rfl kk
theorem r_al4 {d y pc : Nat} {S : List Value} {σ : zS} {Q : Option Int32 → zS → Prop} {b c n : Nat} {x : Int32} {t : List (Int32 × Nat)} {L : List Value}  {v0 : Value} {v1 : Value} {v2 : Value} {v3 : Value} {v : Nat} (hz : zcode y pc = some (2, 4, b, c, n, x, t)) (hS : Nat.ble (S).length 12 = true)  (kk : zk d y n (v0 :: v1 :: v2 :: v3 :: .ref v :: L) (.ref v :: S) (σ) Q) : zk d y pc (v0 :: v1 :: v2 :: v3 :: .ref v :: L) (S) σ Q := zk_step hz rfl hS rfl kk
theorem r_is4 {d y pc : Nat} {S : List Value} {σ : zS} {Q : Option Int32 → zS → Prop} {b c n : Nat} {x : Int32} {t : List (Int32 × Nat)} {L : List Value}  {v0 : Value} {v1 : Value} {v2 : Value} {v3 : Value} {u : Value} {v : Int32} (hz : zcode y pc = some (3, 4, b, c, n, x, t)) (hS : Nat.ble (.int v :: S).length 12 = true)  (kk : zk d y n (v0 :: v1 :: v2 :: v3 :: .int v :: L) (S) (σ) Q) : zk d y pc (v0 :: v1 :: v2 :: v3 :: u :: L) (.int v :: S) σ Q := zk_step hz rfl hS (by show (if 4 < (v0 :: v1 :: v2 :: v3 :: u :: L).length then some (n, (v0 :: v1 :: v2 :: v3 :: u :: L).set 4 (.int v), S, zwl σ) else none) = _; rw [if_pos (by simp only [List.length_cons]; omega)]; rfl) kk
theorem r_as4 {d y pc : Nat} {S : List Value} {σ : zS} {Q : Option Int32 → zS → Prop} {b c n : Nat} {x : Int32} {t : List (Int32 × Nat)} {L : List Value}  {v0 : Value} {v1 : Value} {v2 : Value} {v3 : Value} {u : Value} {v : Nat} (hz : zcode y pc = some (4, 4, b, c, n, x, t)) (hS : Nat.ble (.ref v :: S).length 12 = true)  (kk : zk d y n (v0 :: v1 :: v2 :: v3 :: .ref v :: L) (S) (σ) Q) : zk d y pc (v0 :: v1 :: v2 :: v3 :: u :: L) (.ref v :: S) σ Q := zk_step hz rfl hS (by show (if 4 < (v0 :: v1 :: v2 :: v3 :: u :: L).length then some (n, (v0 :: v1 :: v2 :: v3 :: u :: L).set 4 (.ref v), S, zwl σ) else none) = _; rw [if_pos (by simp only [List.length_cons]; omega)]; rfl) kk
theorem r_in4 {d y pc : Nat} {S : List Value} {σ : zS} {Q : Option Int32 → zS → Prop} {b c n : Nat} {x : Int32} {t : List (Int32 × Nat)} {L : List Value}  {v0 : Value} {v1 : Value} {v2 : Value} {v3 : Value} {v : Int32} (hz : zcode y pc = some (5, 4, b, c, n, x, t)) (hS : Nat.ble (S).length 12 = true)  (kk : zk d y n (v0 :: v1 :: v2 :: v3 :: .int (v + x) :: L) (S) (σ) Q) : zk d y pc (v0 :: v1 :: v2 :: v3 :: .int v :: L) (S) σ Q := zk_step hz rfl hS rfl kk
theorem r_il5 {d y pc : Nat} {S : List Value} {σ : zS} {Q : Option Int32 → zS → Prop} {b c n : Nat} {x : Int32} {t : List (Int32 × Nat)} {L : List Value}  {v0 : Value} {v1 : Value} {v2 : Value} {v3 : Value} {v4 : Value} {v : Int32} (hz : zcode y pc = some (1, 5, b, c, n, x, t)) (hS : Nat.ble (S).length 12 = true)  (kk : zk d y n (v0 :: v1 :: v2 :: v3 :: v4 :: .int v :: L) (.int v :: S) (σ) Q) : zk d y pc (v0 :: v1 :: v2 :: v3 :: v4 :: .int v :: L) (S) σ Q := zk_step hz rfl hS rfl kk
theorem r_al5 {d y pc : Nat} {S : List Value} {σ : zS} {Q : Option Int32 → zS → Prop} {b c n : Nat} {x : Int32} {t : List (Int32 × Nat)} {L : List Value}  {v0 : Value} {v1 : Value} {v2 : Value} {v3 : Value} {v4 : Value} {v : Nat} (hz : zcode y pc = some (2, 5, b, c, n, x, t)) (hS : Nat.ble (S).length 12 = true)  (kk : zk d y n (v0 :: v1 :: v2 :: v3 :: v4 :: .ref v :: L) (.ref v :: S) (σ) Q) : zk d y pc (v0 :: v1 :: v2 :: v3 :: v4 :: .ref v :: L) (S) σ Q := zk_step hz rfl hS rfl kk
theorem r_is5 {d y pc : Nat} {S : List Value} {σ : zS} {Q : Option Int32 → zS → Prop} {b c n : Nat} {x : Int32} {t : List (Int32 × Nat)} {L : List Value}  {v0 : Value} {v1 : Value} {v2 : Value} {v3 : Value} {v4 : Value} {u : Value} {v : Int32} (hz : zcode y pc = some (3, 5, b, c, n, x, t)) (hS : Nat.ble (.int v :: S).length 12 = true)  (kk : zk d y n (v0 :: v1 :: v2 :: v3 :: v4 :: .int v :: L) (S) (σ) Q) : zk d y pc (v0 :: v1 :: v2 :: v3 :: v4 :: u :: L) (.int v :: S) σ Q := zk_step hz rfl hS (by show (if 5 < (v0 :: v1 :: v2 :: v3 :: v4 :: u :: L).length then some (n, (v0 :: v1 :: v2 :: v3 :: v4 :: u :: L).set 5 (.int v), S, zwl σ) else none) = _; rw [if_pos (by simp only [List.length_cons]; omega)]; rfl) kk
theorem r_as5 {d y pc : Nat} {S : List Value} {σ : zS} {Q : Option Int32 → zS → Prop} {b c n : Nat} {x : Int32} {t : List (Int32 × Nat)} {L : List Value}  {v0 : Value} {v1 : Value} {v2 : Value} {v3 : Value} {v4 : Value} {u : Value} {v : Nat} (hz : zcode y pc = some (4, 5, b, c, n, x, t)) (hS : Nat.ble (.ref v :: S).length 12 = true)  (kk : zk d y n (v0 :: v1 :: v2 :: v3 :: v4 :: .ref v :: L) (S) (σ) Q) : zk d y pc (v0 :: v1 :: v2 :: v3 :: v4 :: u :: L) (.ref v :: S) σ Q := zk_step hz rfl hS (by show (if 5 < (v0 :: v1 :: v2 :: v3 :: v4 :: u :: L).length then some (n, (v0 :: v1 :: v2 :: v3 :: v4 :: u :: L).set 5 (.ref v), S, zwl σ) else none) = _; rw [if_pos (by simp only [List.length_cons]; omega)]; rfl) kk
theorem r_in5 {d y pc : Nat} {S : List Value} {σ : zS} {Q : Option Int32 → zS → Prop} {b c n : Nat} {x : Int32} {t : List (Int32 × Nat)} {L : List Value}  {v0 : Value} {v1 : Value} {v2 : Value} {v3 : Value} {v4 : Value} {v : Int32} (hz : zcode y pc = some (5, 5, b, c, n, x, t)) (hS : Nat.ble (S).length 12 = true)  (kk : zk d y n (v0 :: v1 :: v2 :: v3 :: v4 :: .int (v + x) :: L) (S) (σ) Q) : zk d y pc (v0 :: v1 :: v2 :: v3 :: v4 :: .int v :: L) (S) σ Q := zk_step hz rfl hS rfl kk
theorem r_il6 {d y pc : Nat} {S : List Value} {σ : zS} {Q : Option Int32 → zS → Prop} {b c n : Nat} {x : Int32} {t : List (Int32 × Nat)} {L : List Value}  {v0 : Value} {v1 : Value} {v2 : Value} {v3 : Value} {v4 : Value} {v5 : Value} {v : Int32} (hz : zcode y pc = some (1, 6, b, c, n, x, t)) (hS : Nat.ble (S).length 12 = true)  (kk : zk d y n (v0 :: v1 :: v2 :: v3 :: v4 :: v5 :: .int v :: L) (.int v :: S) (σ) Q) : zk d y pc (v0 :: v1 :: v2 :: v3 :: v4 :: v5 :: .int v :: L) (S) σ Q := zk_step hz rfl hS rfl kk
theorem r_al6 {d y pc : Nat} {S : List Value} {σ : zS} {Q : Option Int32 → zS → Prop} {b c n : Nat} {x : Int32} {t : List (Int32 × Nat)} {L : List Value}  {v0 : Value} {v1 : Value} {v2 : Value} {v3 : Value} {v4 : Value} {v5 : Value} {v : Nat} (hz : zcode y pc = some (2, 6, b, c, n, x, t)) (hS : Nat.ble (S).length 12 = true)  (kk : zk d y n (v0 :: v1 :: v2 :: v3 :: v4 :: v5 :: .ref v :: L) (.ref v :: S) (σ) Q) : zk d y pc (v0 :: v1 :: v2 :: v3 :: v4 :: v5 :: .ref v :: L) (S) σ Q := zk_step hz rfl hS rfl kk
theorem r_is6 {d y pc : Nat} {S : List Value} {σ : zS} {Q : Option Int32 → zS → Prop} {b c n : Nat} {x : Int32} {t : List (Int32 × Nat)} {L : List Value}  {v0 : Value} {v1 : Value} {v2 : Value} {v3 : Value} {v4 : Value} {v5 : Value} {u : Value} {v : Int32} (hz : zcode y pc = some (3, 6, b, c, n, x, t)) (hS : Nat.ble (.int v :: S).length 12 = true)  (kk : zk d y n (v0 :: v1 :: v2 :: v3 :: v4 :: v5 :: .int v :: L) (S) (σ) Q) : zk d y pc (v0 :: v1 :: v2 :: v3 :: v4 :: v5 :: u :: L) (.int v :: S) σ Q := zk_step hz rfl hS (by show (if 6 < (v0 :: v1 :: v2 :: v3 :: v4 :: v5 :: u :: L).length then some (n, (v0 :: v1 :: v2 :: v3 :: v4 :: v5 :: u :: L).set 6 (.int v), S, zwl σ) else none) = _; rw [if_pos (by simp only [List.length_cons]; omega)]; rfl) kk
theorem r_as6 {d y pc : Nat} {S : List Value} {σ : zS} {Q : Option Int32 → zS → Prop} {b c n : Nat} {x : Int32} {t : List (Int32 × Nat)} {L : List Value}  {v0 : Value} {v1 : Value} {v2 : Value} {v3 : Value} {v4 : Value} {v5 : Value} {u : Value} {v : Nat} (hz : zcode y pc = some (4, 6, b, c, n, x, t)) (hS : Nat.ble (.ref v :: S).length 12 = true)  (kk : zk d y n (v0 :: v1 :: v2 :: v3 :: v4 :: v5 :: .ref v :: L) (S) (σ) Q) : zk d y pc (v0 :: v1 :: v2 :: v3 :: v4 :: v5 :: u :: L) (.ref v :: S) σ Q := zk_step hz rfl hS (by show (if 6 < (v0 :: v1 :: v2 :: v3 :: v4 :: v5 :: u :: L).length then some (n, (v0 :: v1 :: v2 :: v3 :: v4 :: v5 :: u :: L).set 6 (.ref v), S, zwl σ) else none) = _; rw [if_pos (by simp only [List.length_cons]; omega)]; rfl) kk
theorem r_in6 {d y pc : Nat} {S : List Value} {σ : zS} {Q : Option Int32 → zS → Prop} {b c n : Nat} {x : Int32} {t : List (Int32 × Nat)} {L : List Value}  {v0 : Value} {v1 : Value} {v2 : Value} {v3 : Value} {v4 : Value} {v5 : Value} {v : Int32} (hz : zcode y pc = some (5, 6, b, c, n, x, t)) (hS : Nat.ble (S).length 12 = true)  (kk : zk d y n (v0 :: v1 :: v2 :: v3 :: v4 :: v5 :: .int (v + x) :: L) (S) (σ) Q) : zk d y pc (v0 :: v1 :: v2 :: v3 :: v4 :: v5 :: .int v :: L) (S) σ Q := zk_step hz rfl hS rfl kk
theorem r_il7 {d y pc : Nat} {S : List Value} {σ : zS} {Q : Option Int32 → zS → Prop} {b c n : Nat} {x : Int32} {t : List (Int32 × Nat)} {L : List Value}  {v0 : Value} {v1 : Value} {v2 : Value} {v3 : Value} {v4 : Value} {v5 : Value} {v6 : Value} {v : Int32} (hz : zcode y pc = some (1, 7, b, c, n, x, t)) (hS : Nat.ble (S).length 12 = true)  (kk : zk d y n (v0 :: v1 :: v2 :: v3 :: v4 :: v5 :: v6 :: .int v :: L) (.int v :: S) (σ) Q) : zk d y pc (v0 :: v1 :: v2 :: v3 :: v4 :: v5 :: v6 :: .int v :: L) (S) σ Q := zk_step hz rfl hS rfl kk
theorem r_al7 {d y pc : Nat} {S : List Value} {σ : zS} {Q : Option Int32 → zS → Prop} {b c n : Nat} {x : Int32} {t : List (Int32 × Nat)} {L : List Value}  {v0 : Value} {v1 : Value} {v2 : Value} {v3 : Value} {v4 : Value} {v5 : Value} {v6 : Value} {v : Nat} (hz : zcode y pc = some (2, 7, b, c, n, x, t)) (hS : Nat.ble (S).length 12 = true)  (kk : zk d y n (v0 :: v1 :: v2 :: v3 :: v4 :: v5 :: v6 :: .ref v :: L) (.ref v :: S) (σ) Q) : zk d y pc (v0 :: v1 :: v2 :: v3 :: v4 :: v5 :: v6 :: .ref v :: L) (S) σ Q := zk_step hz rfl hS rfl kk
theorem r_is7 {d y pc : Nat} {S : List Value} {σ : zS} {Q : Option Int32 → zS → Prop} {b c n : Nat} {x : Int32} {t : List (Int32 × Nat)} {L : List Value}  {v0 : Value} {v1 : Value} {v2 : Value} {v3 : Value} {v4 : Value} {v5 : Value} {v6 : Value} {u : Value} {v : Int32} (hz : zcode y pc = some (3, 7, b, c, n, x, t)) (hS : Nat.ble (.int v :: S).length 12 = true)  (kk : zk d y n (v0 :: v1 :: v2 :: v3 :: v4 :: v5 :: v6 :: .int v :: L) (S) (σ) Q) : zk d y pc (v0 :: v1 :: v2 :: v3 :: v4 :: v5 :: v6 :: u :: L) (.int v :: S) σ Q := zk_step hz rfl hS (by show (if 7 < (v0 :: v1 :: v2 :: v3 :: v4 :: v5 :: v6 :: u :: L).length then some (n, (v0 :: v1 :: v2 :: v3 :: v4 :: v5 :: v6 :: u :: L).set 7 (.int v), S, zwl σ) else none) = _; rw [if_pos (by simp only [List.length_cons]; omega)]; rfl) kk
theorem r_as7 {d y pc : Nat} {S : List Value} {σ : zS} {Q : Option Int32 → zS → Prop} {b c n : Nat} {x : Int32} {t : List (Int32 × Nat)} {L : List Value}  {v0 : Value} {v1 : Value} {v2 : Value} {v3 : Value} {v4 : Value} {v5 : Value} {v6 : Value} {u : Value} {v : Nat} (hz : zcode y pc = some (4, 7, b, c, n, x, t)) (hS : Nat.ble (.ref v :: S).length 12 = true)  (kk : zk d y n (v0 :: v1 :: v2 :: v3 :: v4 :: v5 :: v6 :: .ref v :: L) (S) (σ) Q) : zk d y pc (v0 :: v1 :: v2 :: v3 :: v4 :: v5 :: v6 :: u :: L) (.ref v :: S) σ Q := zk_step hz rfl hS (by show (if 7 < (v0 :: v1 :: v2 :: v3 :: v4 :: v5 :: v6 :: u :: L).length then some (n, (v0 :: v1 :: v2 :: v3 :: v4 :: v5 :: v6 :: u :: L).set 7 (.ref v), S, zwl σ) else none) = _; rw [if_pos (by simp only [List.length_cons]; omega)]; rfl) kk
theorem r_in7 {d y pc : Nat} {S : List Value} {σ : zS} {Q : Option Int32 → zS → Prop} {b c n : Nat} {x : Int32} {t : List (Int32 × Nat)} {L : List Value}  {v0 : Value} {v1 : Value} {v2 : Value} {v3 : Value} {v4 : Value} {v5 : Value} {v6 : Value} {v : Int32} (hz : zcode y pc = some (5, 7, b, c, n, x, t)) (hS : Nat.ble (S).length 12 = true)  (kk : zk d y n (v0 :: v1 :: v2 :: v3 :: v4 :: v5 :: v6 :: .int (v + x) :: L) (S) (σ) Q) : zk d y pc (v0 :: v1 :: v2 :: v3 :: v4 :: v5 :: v6 :: .int v :: L) (S) σ Q := zk_step hz rfl hS rfl kk
theorem r_il8 {d y pc : Nat} {S : List Value} {σ : zS} {Q : Option Int32 → zS → Prop} {b c n : Nat} {x : Int32} {t : List (Int32 × Nat)} {L : List Value}  {v0 : Value} {v1 : Value} {v2 : Value} {v3 : Value} {v4 : Value} {v5 : Value} {v6 : Value} {v7 : Value} {v : Int32} (hz : zcode y pc = some (1, 8, b, c, n, x, t)) (hS : Nat.ble (S).length 12 = true)  (kk : zk d y n (v0 :: v1 :: v2 :: v3 :: v4 :: v5 :: v6 :: v7 :: .int v :: L) (.int v :: S) (σ) Q) : zk d y pc (v0 :: v1 :: v2 :: v3 :: v4 :: v5 :: v6 :: v7 :: .int v :: L) (S) σ Q := zk_step hz rfl hS rfl kk
theorem r_al8 {d y pc : Nat} {S : List Value} {σ : zS} {Q : Option Int32 → zS → Prop} {b c n : Nat} {x : Int32} {t : List (Int32 × Nat)} {L : List Value}  {v0 : Value} {v1 : Value} {v2 : Value} {v3 : Value} {v4 : Value} {v5 : Value} {v6 : Value} {v7 : Value} {v : Nat} (hz : zcode y pc = some (2, 8, b, c, n, x, t)) (hS : Nat.ble (S).length 12 = true)  (kk : zk d y n (v0 :: v1 :: v2 :: v3 :: v4 :: v5 :: v6 :: v7 :: .ref v :: L) (.ref v :: S) (σ) Q) : zk d y pc (v0 :: v1 :: v2 :: v3 :: v4 :: v5 :: v6 :: v7 :: .ref v :: L) (S) σ Q := zk_step hz rfl hS rfl kk
theorem r_is8 {d y pc : Nat} {S : List Value} {σ : zS} {Q : Option Int32 → zS → Prop} {b c n : Nat} {x : Int32} {t : List (Int32 × Nat)} {L : List Value}  {v0 : Value} {v1 : Value} {v2 : Value} {v3 : Value} {v4 : Value} {v5 : Value} {v6 : Value} {v7 : Value} {u : Value} {v : Int32} (hz : zcode y pc = some (3, 8, b, c, n, x, t)) (hS : Nat.ble (.int v :: S).length 12 = true)  (kk : zk d y n (v0 :: v1 :: v2 :: v3 :: v4 :: v5 :: v6 :: v7 :: .int v :: L) (S) (σ) Q) : zk d y pc (v0 :: v1 :: v2 :: v3 :: v4 :: v5 :: v6 :: v7 :: u :: L) (.int v :: S) σ Q := zk_step hz rfl hS (by show (if 8 < (v0 :: v1 :: v2 :: v3 :: v4 :: v5 :: v6 :: v7 :: u :: L).length then some (n, (v0 :: v1 :: v2 :: v3 :: v4 :: v5 :: v6 :: v7 :: u :: L).set 8 (.int v), S, zwl σ) else none) = _; rw [if_pos (by simp only [List.length_cons]; omega)]; rfl) kk
theorem r_as8 {d y pc : Nat} {S : List Value} {σ : zS} {Q : Option Int32 → zS → Prop} {b c n : Nat} {x : Int32} {t : List (Int32 × Nat)} {L : List Value}  {v0 : Value} {v1 : Value} {v2 : Value} {v3 : Value} {v4 : Value} {v5 : Value} {v6 : Value} {v7 : Value} {u : Value} {v : Nat} (hz : zcode y pc = some (4, 8, b, c, n, x, t)) (hS : Nat.ble (.ref v :: S).length 12 = true)  (kk : zk d y n (v0 :: v1 :: v2 :: v3 :: v4 :: v5 :: v6 :: v7 :: .ref v :: L) (S) (σ) Q) : zk d y pc (v0 :: v1 :: v2 :: v3 :: v4 :: v5 :: v6 :: v7 :: u :: L) (.ref v :: S) σ Q := zk_step hz rfl hS (by show (if 8 < (v0 :: v1 :: v2 :: v3 :: v4 :: v5 :: v6 :: v7 :: u :: L).length then some (n, (v0 :: v1 :: v2 :: v3 :: v4 :: v5 :: v6 :: v7 :: u :: L).set 8 (.ref v), S, zwl σ) else none) = _; rw [if_pos (by simp only [List.length_cons]; omega)]; rfl) kk
theorem r_in8 {d y pc : Nat} {S : List Value} {σ : zS} {Q : Option Int32 → zS → Prop} {b c n : Nat} {x : Int32} {t : List (Int32 × Nat)} {L : List Value}  {v0 : Value} {v1 : Value} {v2 : Value} {v3 : Value} {v4 : Value} {v5 : Value} {v6 : Value} {v7 : Value} {v : Int32} (hz : zcode y pc = some (5, 8, b, c, n, x, t)) (hS : Nat.ble (S).length 12 = true)  (kk : zk d y n (v0 :: v1 :: v2 :: v3 :: v4 :: v5 :: v6 :: v7 :: .int (v + x) :: L) (S) (σ) Q) : zk d y pc (v0 :: v1 :: v2 :: v3 :: v4 :: v5 :: v6 :: v7 :: .int v :: L) (S) σ Q := zk_step hz rfl hS rfl kk
theorem r_il9 {d y pc : Nat} {S : List Value} {σ : zS} {Q : Option Int32 → zS → Prop} {b c n : Nat} {x : Int32} {t : List (Int32 × Nat)} {L : List Value}  {v0 : Value} {v1 : Value} {v2 : Value} {v3 : Value} {v4 : Value} {v5 : Value} {v6 : Value} {v7 : Value} {v8 : Value} {v : Int32} (hz : zcode y pc = some (1, 9, b, c, n, x, t)) (hS : Nat.ble (S).length 12 = true)  (kk : zk d y n (v0 :: v1 :: v2 :: v3 :: v4 :: v5 :: v6 :: v7 :: v8 :: .int v :: L) (.int v :: S) (σ) Q) : zk d y pc (v0 :: v1 :: v2 :: v3 :: v4 :: v5 :: v6 :: v7 :: v8 :: .int v :: L) (S) σ Q := zk_step hz rfl hS rfl kk
theorem r_al9 {d y pc : Nat} {S : List Value} {σ : zS} {Q : Option Int32 → zS → Prop} {b c n : Nat} {x : Int32} {t : List (Int32 × Nat)} {L : List Value}  {v0 : Value} {v1 : Value} {v2 : Value} {v3 : Value} {v4 : Value} {v5 : Value} {v6 : Value} {v7 : Value} {v8 : Value} {v : Nat} (hz : zcode y pc = some (2, 9, b, c, n, x, t)) (hS : Nat.ble (S).length 12 = true)  (kk : zk d y n (v0 :: v1 :: v2 :: v3 :: v4 :: v5 :: v6 :: v7 :: v8 :: .ref v :: L) (.ref v :: S) (σ) Q) : zk d y pc (v0 :: v1 :: v2 :: v3 :: v4 :: v5 :: v6 :: v7 :: v8 :: .ref v :: L) (S) σ Q := zk_step hz rfl hS rfl kk
theorem r_is9 {d y pc : Nat} {S : List Value} {σ : zS} {Q : Option Int32 → zS → Prop} {b c n : Nat} {x : Int32} {t : List (Int32 × Nat)} {L : List Value}  {v0 : Value} {v1 : Value} {v2 : Value} {v3 : Value} {v4 : Value} {v5 : Value} {v6 : Value} {v7 : Value} {v8 : Value} {u : Value} {v : Int32} (hz : zcode y pc = some (3, 9, b, c, n, x, t)) (hS : Nat.ble (.int v :: S).length 12 = true)  (kk : zk d y n (v0 :: v1 :: v2 :: v3 :: v4 :: v5 :: v6 :: v7 :: v8 :: .int v :: L) (S) (σ) Q) : zk d y pc (v0 :: v1 :: v2 :: v3 :: v4 :: v5 :: v6 :: v7 :: v8 :: u :: L) (.int v :: S) σ Q := zk_step hz rfl hS (by show (if 9 < (v0 :: v1 :: v2 :: v3 :: v4 :: v5 :: v6 :: v7 :: v8 :: u :: L).length then some (n, (v0 :: v1 :: v2 :: v3 :: v4 :: v5 :: v6 :: v7 :: v8 :: u :: L).set 9 (.int v), S, zwl σ) else none) = _; rw [if_pos (by simp only [List.length_cons]; omega)]; rfl) kk
theorem r_as9 {d y pc : Nat} {S : List Value} {σ : zS} {Q : Option Int32 → zS → Prop} {b c n : Nat} {x : Int32} {t : List (Int32 × Nat)} {L : List Value}  {v0 : Value} {v1 : Value} {v2 : Value} {v3 : Value} {v4 : Value} {v5 : Value} {v6 : Value} {v7 : Value} {v8 : Value} {u : Value} {v : Nat} (hz : zcode y pc = some (4, 9, b, c, n, x, t)) (hS : Nat.ble (.ref v :: S).length 12 = true)  (kk : zk d y n (v0 :: v1 :: v2 :: v3 :: v4 :: v5 :: v6 :: v7 :: v8 :: .ref v :: L) (S) (σ) Q) : zk d y pc (v0 :: v1 :: v2 :: v3 :: v4 :: v5 :: v6 :: v7 :: v8 :: u :: L) (.ref v :: S) σ Q := zk_step hz rfl hS (by show (if 9 < (v0 :: v1 :: v2 :: v3 :: v4 :: v5 :: v6 :: v7 :: v8 :: u :: L).length then some (n, (v0 :: v1 :: v2 :: v3 :: v4 :: v5 :: v6 :: v7 :: v8 :: u :: L).set 9 (.ref v), S, zwl σ) else none) = _; rw [if_pos (by simp only [List.length_cons]; omega)]; rfl) kk
theorem r_in9 {d y pc : Nat} {S : List Value} {σ : zS} {Q : Option Int32 → zS → Prop} {b c n : Nat} {x : Int32} {t : List (Int32 × Nat)} {L : List Value}  {v0 : Value} {v1 : Value} {v2 : Value} {v3 : Value} {v4 : Value} {v5 : Value} {v6 : Value} {v7 : Value} {v8 : Value} {v : Int32} (hz : zcode y pc = some (5, 9, b, c, n, x, t)) (hS : Nat.ble (S).length 12 = true)  (kk : zk d y n (v0 :: v1 :: v2 :: v3 :: v4 :: v5 :: v6 :: v7 :: v8 :: .int (v + x) :: L) (S) (σ) Q) : zk d y pc (v0 :: v1 :: v2 :: v3 :: v4 :: v5 :: v6 :: v7 :: v8 :: .int v :: L) (S) σ Q := zk_step hz rfl hS rfl kk
theorem r_il10 {d y pc : Nat} {S : List Value} {σ : zS} {Q : Option Int32 → zS → Prop} {b c n : Nat} {x : Int32} {t : List (Int32 × Nat)} {L : List Value}  {v0 : Value} {v1 : Value} {v2 : Value} {v3 : Value} {v4 : Value} {v5 : Value} {v6 : Value} {v7 : Value} {v8 : Value} {v9 : Value} {v : Int32} (hz : zcode y pc = some (1, 10, b, c, n, x, t)) (hS : Nat.ble (S).length 12 = true)  (kk : zk d y n (v0 :: v1 :: v2 :: v3 :: v4 :: v5 :: v6 :: v7 :: v8 :: v9 :: .int v :: L) (.int v :: S) (σ) Q) : zk d y pc (v0 :: v1 :: v2 :: v3 :: v4 :: v5 :: v6 :: v7 :: v8 :: v9 :: .int v :: L) (S) σ Q := zk_step hz rfl hS rfl kk
theorem r_al10 {d y pc : Nat} {S : List Value} {σ : zS} {Q : Option Int32 → zS → Prop} {b c n : Nat} {x : Int32} {t : List (Int32 × Nat)} {L : List Value}  {v0 : Value} {v1 : Value} {v2 : Value} {v3 : Value} {v4 : Value} {v5 : Value} {v6 : Value} {v7 : Value} {v8 : Value} {v9 : Value} {v : Nat} (hz : zcode y pc = some (2, 10, b, c, n, x, t)) (hS : Nat.ble (S).length 12 = true)  (kk : zk d y n (v0 :: v1 :: v2 :: v3 :: v4 :: v5 :: v6 :: v7 :: v8 :: v9 :: .ref v :: L) (.ref v :: S) (σ) Q) : zk d y pc (v0 :: v1 :: v2 :: v3 :: v4 :: v5 :: v6 :: v7 :: v8 :: v9 :: .ref v :: L) (S) σ Q := zk_step hz rfl hS rfl kk
theorem r_is10 {d y pc : Nat} {S : List Value} {σ : zS} {Q : Option Int32 → zS → Prop} {b c n : Nat} {x : Int32} {t : List (Int32 × Nat)} {L : List Value}  {v0 : Value} {v1 : Value} {v2 : Value} {v3 : Value} {v4 : Value} {v5 : Value} {v6 : Value} {v7 : Value} {v8 : Value} {v9 : Value} {u : Value} {v : Int32} (hz : zcode y pc = some (3, 10, b, c, n, x, t)) (hS : Nat.ble (.int v :: S).length 12 = true)  (kk : zk d y n (v0 :: v1 :: v2 :: v3 :: v4 :: v5 :: v6 :: v7 :: v8 :: v9 :: .int v :: L) (S) (σ) Q) : zk d y pc (v0 :: v1 :: v2 :: v3 :: v4 :: v5 :: v6 :: v7 :: v8 :: v9 :: u :: L) (.int v :: S) σ Q := zk_step hz rfl hS (by show (if 10 < (v0 :: v1 :: v2 :: v3 :: v4 :: v5 :: v6 :: v7 :: v8 :: v9 :: u :: L).length then some (n, (v0 :: v1 :: v2 :: v3 :: v4 :: v5 :: v6 :: v7 :: v8 :: v9 :: u :: L).set 10 (.int v), S, zwl σ) else none) = _; rw [if_pos (by simp only [List.length_cons]; omega)]; rfl) kk
theorem r_as10 {d y pc : Nat} {S : List Value} {σ : zS} {Q : Option Int32 → zS → Prop} {b c n : Nat} {x : Int32} {t : List (Int32 × Nat)} {L : List Value}  {v0 : Value} {v1 : Value} {v2 : Value} {v3 : Value} {v4 : Value} {v5 : Value} {v6 : Value} {v7 : Value} {v8 : Value} {v9 : Value} {u : Value} {v : Nat} (hz : zcode y pc = some (4, 10, b, c, n, x, t)) (hS : Nat.ble (.ref v :: S).length 12 = true)  (kk : zk d y n (v0 :: v1 :: v2 :: v3 :: v4 :: v5 :: v6 :: v7 :: v8 :: v9 :: .ref v :: L) (S) (σ) Q) : zk d y pc (v0 :: v1 :: v2 :: v3 :: v4 :: v5 :: v6 :: v7 :: v8 :: v9 :: u :: L) (.ref v :: S) σ Q := zk_step hz rfl hS (by show (if 10 < (v0 :: v1 :: v2 :: v3 :: v4 :: v5 :: v6 :: v7 :: v8 :: v9 :: u :: L).length then some (n, (v0 :: v1 :: v2 :: v3 :: v4 :: v5 :: v6 :: v7 :: v8 :: v9 :: u :: L).set 10 (.ref v), S, zwl σ) else none) = _; rw [if_pos (by simp only [List.length_cons]; omega)]; rfl) kk
theorem r_in10 {d y pc : Nat} {S : List Value} {σ : zS} {Q : Option Int32 → zS → Prop} {b c n : Nat} {x : Int32} {t : List (Int32 × Nat)} {L : List Value}  {v0 : Value} {v1 : Value} {v2 : Value} {v3 : Value} {v4 : Value} {v5 : Value} {v6 : Value} {v7 : Value} {v8 : Value} {v9 : Value} {v : Int32} (hz : zcode y pc = some (5, 10, b, c, n, x, t)) (hS : Nat.ble (S).length 12 = true)  (kk : zk d y n (v0 :: v1 :: v2 :: v3 :: v4 :: v5 :: v6 :: v7 :: v8 :: v9 :: .int (v + x) :: L) (S) (σ) Q) : zk d y pc (v0 :: v1 :: v2 :: v3 :: v4 :: v5 :: v6 :: v7 :: v8 :: v9 :: .int v :: L) (S) σ Q := zk_step hz rfl hS rfl kk
theorem r_il11 {d y pc : Nat} {S : List Value} {σ : zS} {Q : Option Int32 → zS → Prop} {b c n : Nat} {x : Int32} {t : List (Int32 × Nat)} {L : List Value}  {v0 : Value} {v1 : Value} {v2 : Value} {v3 : Value} {v4 : Value} {v5 : Value} {v6 : Value} {v7 : Value} {v8 : Value} {v9 : Value} {v10 : Value} {v : Int32} (hz : zcode y pc = some (1, 11, b, c, n, x, t)) (hS : Nat.ble (S).length 12 = true)  (kk : zk d y n (v0 :: v1 :: v2 :: v3 :: v4 :: v5 :: v6 :: v7 :: v8 :: v9 :: v10 :: .int v :: L) (.int v :: S) (σ) Q) : zk d y pc (v0 :: v1 :: v2 :: v3 :: v4 :: v5 :: v6 :: v7 :: v8 :: v9 :: v10 :: .int v :: L) (S) σ Q := zk_step hz rfl hS rfl kk
theorem r_al11 {d y pc : Nat} {S : List Value} {σ : zS} {Q : Option Int32 → zS → Prop} {b c n : Nat} {x : Int32} {t : List (Int32 × Nat)} {L : List Value}  {v0 : Value} {v1 : Value} {v2 : Value} {v3 : Value} {v4 : Value} {v5 : Value} {v6 : Value} {v7 : Value} {v8 : Value} {v9 : Value} {v10 : Value} {v : Nat} (hz : zcode y pc = some (2, 11, b, c, n, x, t)) (hS : Nat.ble (S).length 12 = true)  (kk : zk d y n (v0 :: v1 :: v2 :: v3 :: v4 :: v5 :: v6 :: v7 :: v8 :: v9 :: v10 :: .ref v :: L) (.ref v :: S) (σ) Q) : zk d y pc (v0 :: v1 :: v2 :: v3 :: v4 :: v5 :: v6 :: v7 :: v8 :: v9 :: v10 :: .ref v :: L) (S) σ Q := zk_step hz rfl hS rfl kk
theorem r_is11 {d y pc : Nat} {S : List Value} {σ : zS} {Q : Option Int32 → zS → Prop} {b c n : Nat} {x : Int32} {t : List (Int32 × Nat)} {L : List Value}  {v0 : Value} {v1 : Value} {v2 : Value} {v3 : Value} {v4 : Value} {v5 : Value} {v6 : Value} {v7 : Value} {v8 : Value} {v9 : Value} {v10 : Value} {u : Value} {v : Int32} (hz : zcode y pc = some (3, 11, b, c, n, x, t)) (hS : Nat.ble (.int v :: S).length 12 = true)  (kk : zk d y n (v0 :: v1 :: v2 :: v3 :: v4 :: v5 :: v6 :: v7 :: v8 :: v9 :: v10 :: .int v :: L) (S) (σ) Q) : zk d y pc (v0 :: v1 :: v2 :: v3 :: v4 :: v5 :: v6 :: v7 :: v8 :: v9 :: v10 :: u :: L) (.int v :: S) σ Q := zk_step hz rfl hS (by show (if 11 < (v0 :: v1 :: v2 :: v3 :: v4 :: v5 :: v6 :: v7 :: v8 :: v9 :: v10 :: u :: L).length then some (n, (v0 :: v1 :: v2 :: v3 :: v4 :: v5 :: v6 :: v7 :: v8 :: v9 :: v10 :: u :: L).set 11 (.int v), S, zwl σ) else none) = _; rw [if_pos (by simp only [List.length_cons]; omega)]; rfl) kk
theorem r_as11 {d y pc : Nat} {S : List Value} {σ : zS} {Q : Option Int32 → zS → Prop} {b c n : Nat} {x : Int32} {t : List (Int32 × Nat)} {L : List Value}  {v0 : Value} {v1 : Value} {v2 : Value} {v3 : Value} {v4 : Value} {v5 : Value} {v6 : Value} {v7 : Value} {v8 : Value} {v9 : Value} {v10 : Value} {u : Value} {v : Nat} (hz : zcode y pc = some (4, 11, b, c, n, x, t)) (hS : Nat.ble (.ref v :: S).length 12 = true)  (kk : zk d y n (v0 :: v1 :: v2 :: v3 :: v4 :: v5 :: v6 :: v7 :: v8 :: v9 :: v10 :: .ref v :: L) (S) (σ) Q) : zk d y pc (v0 :: v1 :: v2 :: v3 :: v4 :: v5 :: v6 :: v7 :: v8 :: v9 :: v10 :: u :: L) (.ref v :: S) σ Q := zk_step hz rfl hS (by show (if 11 < (v0 :: v1 :: v2 :: v3 :: v4 :: v5 :: v6 :: v7 :: v8 :: v9 :: v10 :: u :: L).length then some (n, (v0 :: v1 :: v2 :: v3 :: v4 :: v5 :: v6 :: v7 :: v8 :: v9 :: v10 :: u :: L).set 11 (.ref v), S, zwl σ) else none) = _; rw [if_pos (by simp only [List.length_cons]; omega)]; rfl) kk
theorem r_in11 {d y pc : Nat} {S : List Value} {σ : zS} {Q : Option Int32 → zS → Prop} {b c n : Nat} {x : Int32} {t : List (Int32 × Nat)} {L : List Value}  {v0 : Value} {v1 : Value} {v2 : Value} {v3 : Value} {v4 : Value} {v5 : Value} {v6 : Value} {v7 : Value} {v8 : Value} {v9 : Value} {v10 : Value} {v : Int32} (hz : zcode y pc = some (5, 11, b, c, n, x, t)) (hS : Nat.ble (S).length 12 = true)  (kk : zk d y n (v0 :: v1 :: v2 :: v3 :: v4 :: v5 :: v6 :: v7 :: v8 :: v9 :: v10 :: .int (v + x) :: L) (S) (σ) Q) : zk d y pc (v0 :: v1 :: v2 :: v3 :: v4 :: v5 :: v6 :: v7 :: v8 :: v9 :: v10 :: .int v :: L) (S) σ Q := zk_step hz rfl hS rfl kk
theorem r_il12 {d y pc : Nat} {S : List Value} {σ : zS} {Q : Option Int32 → zS → Prop} {b c n : Nat} {x : Int32} {t : List (Int32 × Nat)} {L : List Value}  {v0 : Value} {v1 : Value} {v2 : Value} {v3 : Value} {v4 : Value} {v5 : Value} {v6 : Value} {v7 : Value} {v8 : Value} {v9 : Value} {v10 : Value} {v11 : Value} {v : Int32} (hz : zcode y pc = some (1, 12, b, c, n, x, t)) (hS : Nat.ble (S).length 12 = true)  (kk : zk d y n (v0 :: v1 :: v2 :: v3 :: v4 :: v5 :: v6 :: v7 :: v8 :: v9 :: v10 :: v11 :: .int v :: L) (.int v :: S) (σ) Q) : zk d y pc (v0 :: v1 :: v2 :: v3 :: v4 :: v5 :: v6 :: v7 :: v8 :: v9 :: v10 :: v11 :: .int v :: L) (S) σ Q := zk_step hz rfl hS rfl kk
theorem r_al12 {d y pc : Nat} {S : List Value} {σ : zS} {Q : Option Int32 → zS → Prop} {b c n : Nat} {x : Int32} {t : List (Int32 × Nat)} {L : List Value}  {v0 : Value} {v1 : Value} {v2 : Value} {v3 : Value} {v4 : Value} {v5 : Value} {v6 : Value} {v7 : Value} {v8 : Value} {v9 : Value} {v10 : Value} {v11 : Value} {v : Nat} (hz : zcode y pc = some (2, 12, b, c, n, x, t)) (hS : Nat.ble (S).length 12 = true)  (kk : zk d y n (v0 :: v1 :: v2 :: v3 :: v4 :: v5 :: v6 :: v7 :: v8 :: v9 :: v10 :: v11 :: .ref v :: L) (.ref v :: S) (σ) Q) : zk d y pc (v0 :: v1 :: v2 :: v3 :: v4 :: v5 :: v6 :: v7 :: v8 :: v9 :: v10 :: v11 :: .ref v :: L) (S) σ Q := zk_step hz rfl hS rfl kk
theorem r_is12 {d y pc : Nat} {S : List Value} {σ : zS} {Q : Option Int32 → zS → Prop} {b c n : Nat} {x : Int32} {t : List (Int32 × Nat)} {L : List Value}  {v0 : Value} {v1 : Value} {v2 : Value} {v3 : Value} {v4 : Value} {v5 : Value} {v6 : Value} {v7 : Value} {v8 : Value} {v9 : Value} {v10 : Value} {v11 : Value} {u : Value} {v : Int32} (hz : zcode y pc = some (3, 12, b, c, n, x, t)) (hS : Nat.ble (.int v :: S).length 12 = true)  (kk : zk d y n (v0 :: v1 :: v2 :: v3 :: v4 :: v5 :: v6 :: v7 :: v8 :: v9 :: v10 :: v11 :: .int v :: L) (S) (σ) Q) : zk d y pc (v0 :: v1 :: v2 :: v3 :: v4 :: v5 :: v6 :: v7 :: v8 :: v9 :: v10 :: v11 :: u :: L) (.int v :: S) σ Q := zk_step hz rfl hS (by show (if 12 < (v0 :: v1 :: v2 :: v3 :: v4 :: v5 :: v6 :: v7 :: v8 :: v9 :: v10 :: v11 :: u :: L).length then some (n, (v0 :: v1 :: v2 :: v3 :: v4 :: v5 :: v6 :: v7 :: v8 :: v9 :: v10 :: v11 :: u :: L).set 12 (.int v), S, zwl σ) else none) = _; rw [if_pos (by simp only [List.length_cons]; omega)]; rfl) kk
theorem r_as12 {d y pc : Nat} {S : List Value} {σ : zS} {Q : Option Int32 → zS → Prop} {b c n : Nat} {x : Int32} {t : List (Int32 × Nat)} {L : List Value}  {v0 : Value} {v1 : Value} {v2 : Value} {v3 : Value} {v4 : Value} {v5 : Value} {v6 : Value} {v7 : Value} {v8 : Value} {v9 : Value} {v10 : Value} {v11 : Value} {u : Value} {v : Nat} (hz : zcode y pc = some (4, 12, b, c, n, x, t)) (hS : Nat.ble (.ref v :: S).length 12 = true)  (kk : zk d y n (v0 :: v1 :: v2 :: v3 :: v4 :: v5 :: v6 :: v7 :: v8 :: v9 :: v10 :: v11 :: .ref v :: L) (S) (σ) Q) : zk d y pc (v0 :: v1 :: v2 :: v3 :: v4 :: v5 :: v6 :: v7 :: v8 :: v9 :: v10 :: v11 :: u :: L) (.ref v :: S) σ Q := zk_step hz rfl hS (by show (if 12 < (v0 :: v1 :: v2 :: v3 :: v4 :: v5 :: v6 :: v7 :: v8 :: v9 :: v10 :: v11 :: u :: L).length then some (n, (v0 :: v1 :: v2 :: v3 :: v4 :: v5 :: v6 :: v7 :: v8 :: v9 :: v10 :: v11 :: u :: L).set 12 (.ref v), S, zwl σ) else none) = _; rw [if_pos (by simp only [List.length_cons]; omega)]; rfl) kk
theorem r_in12 {d y pc : Nat} {S : List Value} {σ : zS} {Q : Option Int32 → zS → Prop} {b c n : Nat} {x : Int32} {t : List (Int32 × Nat)} {L : List Value}  {v0 : Value} {v1 : Value} {v2 : Value} {v3 : Value} {v4 : Value} {v5 : Value} {v6 : Value} {v7 : Value} {v8 : Value} {v9 : Value} {v10 : Value} {v11 : Value} {v : Int32} (hz : zcode y pc = some (5, 12, b, c, n, x, t)) (hS : Nat.ble (S).length 12 = true)  (kk : zk d y n (v0 :: v1 :: v2 :: v3 :: v4 :: v5 :: v6 :: v7 :: v8 :: v9 :: v10 :: v11 :: .int (v + x) :: L) (S) (σ) Q) : zk d y pc (v0 :: v1 :: v2 :: v3 :: v4 :: v5 :: v6 :: v7 :: v8 :: v9 :: v10 :: v11 :: .int v :: L) (S) σ Q := zk_step hz rfl hS rfl kk
theorem r_b0 {d y pc : Nat} {S : List Value} {σ : zS} {Q : Option Int32 → zS → Prop} {b c n : Nat} {x : Int32} {t : List (Int32 × Nat)} {L : List Value} {u v : Int32} (hz : zcode y pc = some (6, 0, b, c, n, x, t)) (hS : Nat.ble (.int v :: .int u :: S).length 12 = true)  (kk : zk d y n (L) (.int (u + v) :: S) (σ) Q) : zk d y pc (L) (.int v :: .int u :: S) σ Q := zk_step hz rfl hS rfl kk
theorem r_b1 {d y pc : Nat} {S : List Value} {σ : zS} {Q : Option Int32 → zS → Prop} {b c n : Nat} {x : Int32} {t : List (Int32 × Nat)} {L : List Value} {u v : Int32} (hz : zcode y pc = some (6, 1, b, c, n, x, t)) (hS : Nat.ble (.int v :: .int u :: S).length 12 = true)  (kk : zk d y n (L) (.int (u - v) :: S) (σ) Q) : zk d y pc (L) (.int v :: .int u :: S) σ Q := zk_step hz rfl hS rfl kk
theorem r_b2 {d y pc : Nat} {S : List Value} {σ : zS} {Q : Option Int32 → zS → Prop} {b c n : Nat} {x : Int32} {t : List (Int32 × Nat)} {L : List Value} {u v : Int32} (hz : zcode y pc = some (6, 2, b, c, n, x, t)) (hS : Nat.ble (.int v :: .int u :: S).length 12 = true)  (kk : zk d y n (L) (.int (u * v) :: S) (σ) Q) : zk d y pc (L) (.int v :: .int u :: S) σ Q := zk_step hz rfl hS rfl kk
theorem r_b3 {d y pc : Nat} {S : List Value} {σ : zS} {Q : Option Int32 → zS → Prop} {b c n : Nat} {x : Int32} {t : List (Int32 × Nat)} {L : List Value} {u v : Int32} (hz : zcode y pc = some (6, 3, b, c, n, x, t)) (hS : Nat.ble (.int v :: .int u :: S).length 12 = true)  (kk : zk d y n (L) (.int (u &&& v) :: S) (σ) Q) : zk d y pc (L) (.int v :: .int u :: S) σ Q := zk_step hz rfl hS rfl kk
theorem r_b4 {d y pc : Nat} {S : List Value} {σ : zS} {Q : Option Int32 → zS → Prop} {b c n : Nat} {x : Int32} {t : List (Int32 × Nat)} {L : List Value} {u v : Int32} (hz : zcode y pc = some (6, 4, b, c, n, x, t)) (hS : Nat.ble (.int v :: .int u :: S).length 12 = true)  (kk : zk d y n (L) (.int (u ||| v) :: S) (σ) Q) : zk d y pc (L) (.int v :: .int u :: S) σ Q := zk_step hz rfl hS rfl kk
theorem r_b5 {d y pc : Nat} {S : List Value} {σ : zS} {Q : Option Int32 → zS → Prop} {b c n : Nat} {x : Int32} {t : List (Int32 × Nat)} {L : List Value} {u v : Int32} (hz : zcode y pc = some (6, 5, b, c, n, x, t)) (hS : Nat.ble (.int v :: .int u :: S).length 12 = true)  (kk : zk d y n (L) (.int (u ^^^ v) :: S) (σ) Q) : zk d y pc (L) (.int v :: .int u :: S) σ Q := zk_step hz rfl hS rfl kk
theorem r_b6 {d y pc : Nat} {S : List Value} {σ : zS} {Q : Option Int32 → zS → Prop} {b c n : Nat} {x : Int32} {t : List (Int32 × Nat)} {L : List Value} {u v : Int32} (hz : zcode y pc = some (6, 6, b, c, n, x, t)) (hS : Nat.ble (.int v :: .int u :: S).length 12 = true)  (kk : zk d y n (L) (.int (u <<< (v &&& 31)) :: S) (σ) Q) : zk d y pc (L) (.int v :: .int u :: S) σ Q := zk_step hz rfl hS rfl kk
theorem r_b7 {d y pc : Nat} {S : List Value} {σ : zS} {Q : Option Int32 → zS → Prop} {b c n : Nat} {x : Int32} {t : List (Int32 × Nat)} {L : List Value} {u v : Int32} (hz : zcode y pc = some (6, 7, b, c, n, x, t)) (hS : Nat.ble (.int v :: .int u :: S).length 12 = true)  (kk : zk d y n (L) (.int (u >>> (v &&& 31)) :: S) (σ) Q) : zk d y pc (L) (.int v :: .int u :: S) σ Q := zk_step hz rfl hS rfl kk
theorem r_b8 {d y pc : Nat} {S : List Value} {σ : zS} {Q : Option Int32 → zS → Prop} {b c n : Nat} {x : Int32} {t : List (Int32 × Nat)} {L : List Value} {u v : Int32} (hz : zcode y pc = some (6, 8, b, c, n, x, t)) (hS : Nat.ble (.int v :: .int u :: S).length 12 = true)  (kk : zk d y n (L) (.int ((u.toUInt32 >>> (v &&& 31).toUInt32).toInt32) :: S) (σ) Q) : zk d y pc (L) (.int v :: .int u :: S) σ Q := zk_step hz rfl hS rfl kk
theorem r_div {d y pc : Nat} {S : List Value} {σ : zS} {Q : Option Int32 → zS → Prop} {b c n : Nat} {x : Int32} {t : List (Int32 × Nat)} {L : List Value} {u v : Int32} (hz : zcode y pc = some (7, 0, b, c, n, x, t)) (hS : Nat.ble (.int v :: .int u :: S).length 12 = true) (hv : ¬ v = 0) (kk : zk d y n (L) (.int (u / v) :: S) (σ) Q) : zk d y pc (L) (.int v :: .int u :: S) σ Q := zk_step hz rfl hS (by show (if v = 0 then none else some (n, L, Value.int (u / v) :: S, zwl σ)) = _; rw [if_neg hv]) kk
theorem r_rem {d y pc : Nat} {S : List Value} {σ : zS} {Q : Option Int32 → zS → Prop} {b c n : Nat} {x : Int32} {t : List (Int32 × Nat)} {L : List Value} {u v : Int32} (hz : zcode y pc = some (7, 1, b, c, n, x, t)) (hS : Nat.ble (.int v :: .int u :: S).length 12 = true) (hv : ¬ v = 0) (kk : zk d y n (L) (.int (u % v) :: S) (σ) Q) : zk d y pc (L) (.int v :: .int u :: S) σ Q := zk_step hz rfl hS (by show (if v = 0 then none else some (n, L, Value.int (u % v) :: S, zwl σ)) = _; rw [if_neg hv]) kk
theorem r_neg {d y pc : Nat} {S : List Value} {σ : zS} {Q : Option Int32 → zS → Prop} {a b c n : Nat} {x : Int32} {t : List (Int32 × Nat)} {L : List Value} {v : Int32} (hz : zcode y pc = some (8, a, b, c, n, x, t)) (hS : Nat.ble (.int v :: S).length 12 = true)  (kk : zk d y n (L) (.int (-v) :: S) (σ) Q) : zk d y pc (L) (.int v :: S) σ Q := zk_step hz rfl hS rfl kk
theorem r_dupI {d y pc : Nat} {S : List Value} {σ : zS} {Q : Option Int32 → zS → Prop} {a b c n : Nat} {x : Int32} {t : List (Int32 × Nat)} {L : List Value} {v : Int32} (hz : zcode y pc = some (9, a, b, c, n, x, t)) (hS : Nat.ble (.int v :: S).length 12 = true)  (kk : zk d y n (L) (.int v :: .int v :: S) (σ) Q) : zk d y pc (L) (.int v :: S) σ Q := zk_step hz rfl hS rfl kk
theorem r_dupR {d y pc : Nat} {S : List Value} {σ : zS} {Q : Option Int32 → zS → Prop} {a b c n : Nat} {x : Int32} {t : List (Int32 × Nat)} {L : List Value} {v : Nat} (hz : zcode y pc = some (9, a, b, c, n, x, t)) (hS : Nat.ble (.ref v :: S).length 12 = true)  (kk : zk d y n (L) (.ref v :: .ref v :: S) (σ) Q) : zk d y pc (L) (.ref v :: S) σ Q := zk_step hz rfl hS rfl kk
theorem r_dup2 {d y pc : Nat} {S : List Value} {σ : zS} {Q : Option Int32 → zS → Prop} {a b c n : Nat} {x : Int32} {t : List (Int32 × Nat)} {L : List Value} {v : Int32} {u : Nat} (hz : zcode y pc = some (10, a, b, c, n, x, t)) (hS : Nat.ble (.int v :: .ref u :: S).length 12 = true)  (kk : zk d y n (L) (.int v :: .ref u :: .int v :: .ref u :: S) (σ) Q) : zk d y pc (L) (.int v :: .ref u :: S) σ Q := zk_step hz rfl hS rfl kk
theorem r_popI {d y pc : Nat} {S : List Value} {σ : zS} {Q : Option Int32 → zS → Prop} {a b c n : Nat} {x : Int32} {t : List (Int32 × Nat)} {L : List Value} {v : Int32} (hz : zcode y pc = some (11, a, b, c, n, x, t)) (hS : Nat.ble (.int v :: S).length 12 = true)  (kk : zk d y n (L) (S) (σ) Q) : zk d y pc (L) (.int v :: S) σ Q := zk_step hz rfl hS rfl kk
theorem r_popR {d y pc : Nat} {S : List Value} {σ : zS} {Q : Option Int32 → zS → Prop} {a b c n : Nat} {x : Int32} {t : List (Int32 × Nat)} {L : List Value} {v : Nat} (hz : zcode y pc = some (11, a, b, c, n, x, t)) (hS : Nat.ble (.ref v :: S).length 12 = true)  (kk : zk d y n (L) (S) (σ) Q) : zk d y pc (L) (.ref v :: S) σ Q := zk_step hz rfl hS rfl kk
theorem r_getI {d y pc : Nat} {S : List Value} {σ : zS} {Q : Option Int32 → zS → Prop} {a b c n : Nat} {x : Int32} {t : List (Int32 × Nat)} {L : List Value} {k : Nat} {fl : List (Option Nat)} (hz : zcode y pc = some (12, a, b, c, n, x, t)) (hS : Nat.ble (.ref k :: S).length 12 = true) (hk : zIs k (.inr (.inr (a, fl)))) (hj : fl[b]? = some none) (kk : zk d y n (L) (.int (σ k b) :: S) (σ) Q) : zk d y pc (L) (.ref k :: S) σ Q := by
  refine zk_step (σ' := σ) (L' := L) (S' := .int (σ k b) :: S) (n := n) hz rfl hS ?_ kk
  have h1 := zwl_get (σ := σ) hk
  have h2 := zobj_get (σ := σ) (k := k) hj
  show (match (generalizing := false) (zwl σ)[k]? with
    | some (.inr (.inr (ci, fs))) => if ci = a then match (generalizing := false) fs[b]? with
      | some (Value.int v) => some (n, L, Value.int v :: S, zwl σ)
      | some (Value.ref v) => some (n, L, Value.ref v :: S, zwl σ)
      | _ => none else none
    | _ => none) = _
  rw [h1]
  dsimp only [zcel]
  rw [if_pos rfl, h2]
  rfl
theorem r_getR {d y pc : Nat} {S : List Value} {σ : zS} {Q : Option Int32 → zS → Prop} {a b c n : Nat} {x : Int32} {t : List (Int32 × Nat)} {L : List Value} {k r : Nat} {fl : List (Option Nat)} (hz : zcode y pc = some (12, a, b, c, n, x, t)) (hS : Nat.ble (.ref k :: S).length 12 = true) (hk : zIs k (.inr (.inr (a, fl)))) (hj : fl[b]? = some (some r)) (kk : zk d y n (L) (.ref r :: S) (σ) Q) : zk d y pc (L) (.ref k :: S) σ Q := by
  refine zk_step (σ' := σ) (L' := L) (S' := .ref r :: S) (n := n) hz rfl hS ?_ kk
  have h1 := zwl_get (σ := σ) hk
  have h2 := zobj_get (σ := σ) (k := k) hj
  show (match (generalizing := false) (zwl σ)[k]? with
    | some (.inr (.inr (ci, fs))) => if ci = a then match (generalizing := false) fs[b]? with
      | some (Value.int v) => some (n, L, Value.int v :: S, zwl σ)
      | some (Value.ref v) => some (n, L, Value.ref v :: S, zwl σ)
      | _ => none else none
    | _ => none) = _
  rw [h1]
  dsimp only [zcel]
  rw [if_pos rfl, h2]
  rfl
theorem r_put {d y pc : Nat} {S : List Value} {σ : zS} {Q : Option Int32 → zS → Prop} {a b c n : Nat} {x : Int32} {t : List (Int32 × Nat)} {L : List Value} {k : Nat} {v : Int32} {fl : List (Option Nat)} (hz : zcode y pc = some (13, a, b, c, n, x, t)) (hS : Nat.ble (.int v :: .ref k :: S).length 12 = true) (hk : zIs k (.inr (.inr (a, fl)))) (hj : fl[b]? = some none) (hf : zfit (zty a b) (.int v) = true) (kk : zk d y n (L) (S) (up σ k b v) Q) : zk d y pc (L) (.int v :: .ref k :: S) σ Q := by
  refine zk_step (σ' := up σ k b v) (L' := L) (S' := S) (n := n) hz rfl hS ?_ kk
  have h1 := zwl_get (σ := σ) hk
  show (match (generalizing := false) (zwl σ)[k]? with
    | some (.inr (.inr (ci, fs))) => if ci = a ∧ b < fs.length ∧ zfit (zty a b) (.int v) = true then some (n, L, S, (zwl σ).set k (.inr (.inr (ci, fs.set b (.int v))))) else none
    | _ => none) = _
  rw [h1]
  dsimp only [zcel]
  rw [if_pos ⟨rfl, by simpa using (List.getElem?_eq_some_iff.mp hj).1, hf⟩, zwl_setO hk hj]
theorem r_ald {d y pc : Nat} {S : List Value} {σ : zS} {Q : Option Int32 → zS → Prop} {a b c n : Nat} {x : Int32} {t : List (Int32 × Nat)} {L : List Value} {k N : Nat} {v : Int32} (hz : zcode y pc = some (14, a, b, c, n, x, t)) (hS : Nat.ble (.int v :: .ref k :: S).length 12 = true) (j : Nat) (hk : zIs k (.inl N)) (hv : v = nI j) (hj : j < N) (kk : zk d y n (L) (.int (σ k j) :: S) (σ) Q) : zk d y pc (L) (.int v :: .ref k :: S) σ Q := by
  refine zk_step (σ' := σ) (L' := L) (S' := .int (σ k j) :: S) (n := n) hz rfl hS ?_ kk
  have h1 := zwl_get (σ := σ) hk
  have hN := zsh_small hk
  have e1 : v.toNatClampNeg = j := by rw [hv]; exact nI_clamp (by omega)
  show (match (generalizing := false) (zwl σ)[k]? with
    | some (.inl l) => if zin v l.length then some (n, L, Value.int (l.getD v.toNatClampNeg 0) :: S, zwl σ) else none
    | _ => none) = _
  rw [h1]
  dsimp only [zcel]
  rw [if_pos (by rw [hv]; exact zin_nI (by simpa using hj) (by simp; omega)), e1, zrange_get hj]
theorem r_ast {d y pc : Nat} {S : List Value} {σ : zS} {Q : Option Int32 → zS → Prop} {a b c n : Nat} {x : Int32} {t : List (Int32 × Nat)} {L : List Value} {k N : Nat} {v u : Int32} (hz : zcode y pc = some (15, a, b, c, n, x, t)) (hS : Nat.ble (.int u :: .int v :: .ref k :: S).length 12 = true) (j : Nat) (hk : zIs k (.inl N)) (hv : v = nI j) (hj : j < N) (kk : zk d y n (L) (S) (up σ k j u) Q) : zk d y pc (L) (.int u :: .int v :: .ref k :: S) σ Q := by
  refine zk_step (σ' := up σ k j u) (L' := L) (S' := S) (n := n) hz rfl hS ?_ kk
  have h1 := zwl_get (σ := σ) hk
  have hN := zsh_small hk
  have e1 : v.toNatClampNeg = j := by rw [hv]; exact nI_clamp (by omega)
  show (match (generalizing := false) (zwl σ)[k]? with
    | some (.inl l) => if zin v l.length then some (n, L, S, (zwl σ).set k (.inl (l.set v.toNatClampNeg u))) else none
    | _ => none) = _
  rw [h1]
  dsimp only [zcel]
  rw [if_pos (by rw [hv]; exact zin_nI (by simpa using hj) (by simp; omega)), e1, zwl_setA hk]
theorem r_alen {d y pc : Nat} {S : List Value} {σ : zS} {Q : Option Int32 → zS → Prop} {a b c n : Nat} {x : Int32} {t : List (Int32 × Nat)} {L : List Value} {k N : Nat} (hz : zcode y pc = some (16, a, b, c, n, x, t)) (hS : Nat.ble (.ref k :: S).length 12 = true) (hk : zIs k (.inl N)) (kk : zk d y n (L) (.int (nI N) :: S) (σ) Q) : zk d y pc (L) (.ref k :: S) σ Q := by
  refine zk_step (σ' := σ) (L' := L) (S' := .int (nI N) :: S) (n := n) hz rfl hS ?_ kk
  have h1 := zwl_get (σ := σ) hk
  show (match (generalizing := false) (zwl σ)[k]? with
    | some (.inl l) => some (n, L, Value.int (Int32.ofNat l.length) :: S, zwl σ)
    | _ => none) = _
  rw [h1]
  dsimp only [zcel]
  rw [List.length_map, List.length_range]
  rfl
theorem r_aald {d y pc : Nat} {S : List Value} {σ : zS} {Q : Option Int32 → zS → Prop} {a b c n : Nat} {x : Int32} {t : List (Int32 × Nat)} {L : List Value} {k r : Nat} {v : Int32} {l : List Nat} (hz : zcode y pc = some (17, a, b, c, n, x, t)) (hS : Nat.ble (.int v :: .ref k :: S).length 12 = true) (j : Nat) (hk : zIs k (.inr (.inl l))) (hv : v = nI j) (hj : l[j]? = some r) (hl : l.length < 1000) (kk : zk d y n (L) (.ref r :: S) (σ) Q) : zk d y pc (L) (.int v :: .ref k :: S) σ Q := by
  refine zk_step (σ' := σ) (L' := L) (S' := .ref r :: S) (n := n) hz rfl hS ?_ kk
  have h1 := zwl_get (σ := σ) hk
  have hjl := (List.getElem?_eq_some_iff.mp hj).1
  have e1 : v.toNatClampNeg = j := by rw [hv]; exact nI_clamp (by omega)
  show (match (generalizing := false) (zwl σ)[k]? with
    | some (.inr (.inl l)) => if zin v l.length then match (generalizing := false) l.getD v.toNatClampNeg none with
      | some v => some (n, L, Value.ref v :: S, zwl σ)
      | none => none else none
    | _ => none) = _
  rw [h1]
  dsimp only [zcel]
  rw [if_pos (by rw [hv]; exact zin_nI (by simpa using hjl) (by simp; omega)), e1]
  simp [List.getD_eq_getElem?_getD, hj]
theorem r_if0 {d y pc : Nat} {S : List Value} {σ : zS} {Q : Option Int32 → zS → Prop} {b c n : Nat} {x : Int32} {t : List (Int32 × Nat)} {L : List Value} {u : Int32} (hz : zcode y pc = some (22, 0, b, c, n, x, t)) (hS : Nat.ble (.int u :: S).length 12 = true) (kt : u = 0 → zk d y b L S σ Q) (kf : ¬ u = 0 → zk d y n L S σ Q)  : zk d y pc (L) (.int u :: S) σ Q := by
  by_cases h : zcmp 0 u 0 = true
  · refine zk_step (σ' := σ) (L' := L) (S' := S) (n := b) hz rfl hS ?_ (kt (by simpa [zcmp] using h))
    show some (if zcmp 0 u 0 then b else n, L, S, zwl σ) = _
    rw [if_pos h]
  · refine zk_step (σ' := σ) (L' := L) (S' := S) (n := n) hz rfl hS ?_ (kf (by simpa [zcmp] using h))
    show some (if zcmp 0 u 0 then b else n, L, S, zwl σ) = _
    rw [if_neg h]
theorem r_ic0 {d y pc : Nat} {S : List Value} {σ : zS} {Q : Option Int32 → zS → Prop} {b c n : Nat} {x : Int32} {t : List (Int32 × Nat)} {L : List Value} {u v : Int32} (hz : zcode y pc = some (23, 0, b, c, n, x, t)) (hS : Nat.ble (.int v :: .int u :: S).length 12 = true) (kt : u = v → zk d y b L S σ Q) (kf : ¬ u = v → zk d y n L S σ Q)  : zk d y pc (L) (.int v :: .int u :: S) σ Q := by
  by_cases h : zcmp 0 u v = true
  · refine zk_step (σ' := σ) (L' := L) (S' := S) (n := b) hz rfl hS ?_ (kt (by simpa [zcmp] using h))
    show some (if zcmp 0 u v then b else n, L, S, zwl σ) = _
    rw [if_pos h]
  · refine zk_step (σ' := σ) (L' := L) (S' := S) (n := n) hz rfl hS ?_ (kf (by simpa [zcmp] using h))
    show some (if zcmp 0 u v then b else n, L, S, zwl σ) = _
    rw [if_neg h]
theorem r_if1 {d y pc : Nat} {S : List Value} {σ : zS} {Q : Option Int32 → zS → Prop} {b c n : Nat} {x : Int32} {t : List (Int32 × Nat)} {L : List Value} {u : Int32} (hz : zcode y pc = some (22, 1, b, c, n, x, t)) (hS : Nat.ble (.int u :: S).length 12 = true) (kt : ¬ u = 0 → zk d y b L S σ Q) (kf : u = 0 → zk d y n L S σ Q)  : zk d y pc (L) (.int u :: S) σ Q := by
  by_cases h : zcmp 1 u 0 = true
  · refine zk_step (σ' := σ) (L' := L) (S' := S) (n := b) hz rfl hS ?_ (kt (by simpa [zcmp] using h))
    show some (if zcmp 1 u 0 then b else n, L, S, zwl σ) = _
    rw [if_pos h]
  · refine zk_step (σ' := σ) (L' := L) (S' := S) (n := n) hz rfl hS ?_ (kf (by simpa [zcmp] using h))
    show some (if zcmp 1 u 0 then b else n, L, S, zwl σ) = _
    rw [if_neg h]
theorem r_ic1 {d y pc : Nat} {S : List Value} {σ : zS} {Q : Option Int32 → zS → Prop} {b c n : Nat} {x : Int32} {t : List (Int32 × Nat)} {L : List Value} {u v : Int32} (hz : zcode y pc = some (23, 1, b, c, n, x, t)) (hS : Nat.ble (.int v :: .int u :: S).length 12 = true) (kt : ¬ u = v → zk d y b L S σ Q) (kf : u = v → zk d y n L S σ Q)  : zk d y pc (L) (.int v :: .int u :: S) σ Q := by
  by_cases h : zcmp 1 u v = true
  · refine zk_step (σ' := σ) (L' := L) (S' := S) (n := b) hz rfl hS ?_ (kt (by simpa [zcmp] using h))
    show some (if zcmp 1 u v then b else n, L, S, zwl σ) = _
    rw [if_pos h]
  · refine zk_step (σ' := σ) (L' := L) (S' := S) (n := n) hz rfl hS ?_ (kf (by simpa [zcmp] using h))
    show some (if zcmp 1 u v then b else n, L, S, zwl σ) = _
    rw [if_neg h]
theorem r_if2 {d y pc : Nat} {S : List Value} {σ : zS} {Q : Option Int32 → zS → Prop} {b c n : Nat} {x : Int32} {t : List (Int32 × Nat)} {L : List Value} {u : Int32} (hz : zcode y pc = some (22, 2, b, c, n, x, t)) (hS : Nat.ble (.int u :: S).length 12 = true) (kt : u < 0 → zk d y b L S σ Q) (kf : ¬ u < 0 → zk d y n L S σ Q)  : zk d y pc (L) (.int u :: S) σ Q := by
  by_cases h : zcmp 2 u 0 = true
  · refine zk_step (σ' := σ) (L' := L) (S' := S) (n := b) hz rfl hS ?_ (kt (by simpa [zcmp] using h))
    show some (if zcmp 2 u 0 then b else n, L, S, zwl σ) = _
    rw [if_pos h]
  · refine zk_step (σ' := σ) (L' := L) (S' := S) (n := n) hz rfl hS ?_ (kf (by simpa [zcmp] using h))
    show some (if zcmp 2 u 0 then b else n, L, S, zwl σ) = _
    rw [if_neg h]
theorem r_ic2 {d y pc : Nat} {S : List Value} {σ : zS} {Q : Option Int32 → zS → Prop} {b c n : Nat} {x : Int32} {t : List (Int32 × Nat)} {L : List Value} {u v : Int32} (hz : zcode y pc = some (23, 2, b, c, n, x, t)) (hS : Nat.ble (.int v :: .int u :: S).length 12 = true) (kt : u < v → zk d y b L S σ Q) (kf : ¬ u < v → zk d y n L S σ Q)  : zk d y pc (L) (.int v :: .int u :: S) σ Q := by
  by_cases h : zcmp 2 u v = true
  · refine zk_step (σ' := σ) (L' := L) (S' := S) (n := b) hz rfl hS ?_ (kt (by simpa [zcmp] using h))
    show some (if zcmp 2 u v then b else n, L, S, zwl σ) = _
    rw [if_pos h]
  · refine zk_step (σ' := σ) (L' := L) (S' := S) (n := n) hz rfl hS ?_ (kf (by simpa [zcmp] using h))
    show some (if zcmp 2 u v then b else n, L, S, zwl σ) = _
    rw [if_neg h]
theorem r_if3 {d y pc : Nat} {S : List Value} {σ : zS} {Q : Option Int32 → zS → Prop} {b c n : Nat} {x : Int32} {t : List (Int32 × Nat)} {L : List Value} {u : Int32} (hz : zcode y pc = some (22, 3, b, c, n, x, t)) (hS : Nat.ble (.int u :: S).length 12 = true) (kt : 0 ≤ u → zk d y b L S σ Q) (kf : ¬ 0 ≤ u → zk d y n L S σ Q)  : zk d y pc (L) (.int u :: S) σ Q := by
  by_cases h : zcmp 3 u 0 = true
  · refine zk_step (σ' := σ) (L' := L) (S' := S) (n := b) hz rfl hS ?_ (kt (by simpa [zcmp] using h))
    show some (if zcmp 3 u 0 then b else n, L, S, zwl σ) = _
    rw [if_pos h]
  · refine zk_step (σ' := σ) (L' := L) (S' := S) (n := n) hz rfl hS ?_ (kf (by simpa [zcmp] using h))
    show some (if zcmp 3 u 0 then b else n, L, S, zwl σ) = _
    rw [if_neg h]
theorem r_ic3 {d y pc : Nat} {S : List Value} {σ : zS} {Q : Option Int32 → zS → Prop} {b c n : Nat} {x : Int32} {t : List (Int32 × Nat)} {L : List Value} {u v : Int32} (hz : zcode y pc = some (23, 3, b, c, n, x, t)) (hS : Nat.ble (.int v :: .int u :: S).length 12 = true) (kt : v ≤ u → zk d y b L S σ Q) (kf : ¬ v ≤ u → zk d y n L S σ Q)  : zk d y pc (L) (.int v :: .int u :: S) σ Q := by
  by_cases h : zcmp 3 u v = true
  · refine zk_step (σ' := σ) (L' := L) (S' := S) (n := b) hz rfl hS ?_ (kt (by simpa [zcmp] using h))
    show some (if zcmp 3 u v then b else n, L, S, zwl σ) = _
    rw [if_pos h]
  · refine zk_step (σ' := σ) (L' := L) (S' := S) (n := n) hz rfl hS ?_ (kf (by simpa [zcmp] using h))
    show some (if zcmp 3 u v then b else n, L, S, zwl σ) = _
    rw [if_neg h]
theorem r_if4 {d y pc : Nat} {S : List Value} {σ : zS} {Q : Option Int32 → zS → Prop} {b c n : Nat} {x : Int32} {t : List (Int32 × Nat)} {L : List Value} {u : Int32} (hz : zcode y pc = some (22, 4, b, c, n, x, t)) (hS : Nat.ble (.int u :: S).length 12 = true) (kt : 0 < u → zk d y b L S σ Q) (kf : ¬ 0 < u → zk d y n L S σ Q)  : zk d y pc (L) (.int u :: S) σ Q := by
  by_cases h : zcmp 4 u 0 = true
  · refine zk_step (σ' := σ) (L' := L) (S' := S) (n := b) hz rfl hS ?_ (kt (by simpa [zcmp] using h))
    show some (if zcmp 4 u 0 then b else n, L, S, zwl σ) = _
    rw [if_pos h]
  · refine zk_step (σ' := σ) (L' := L) (S' := S) (n := n) hz rfl hS ?_ (kf (by simpa [zcmp] using h))
    show some (if zcmp 4 u 0 then b else n, L, S, zwl σ) = _
    rw [if_neg h]
theorem r_ic4 {d y pc : Nat} {S : List Value} {σ : zS} {Q : Option Int32 → zS → Prop} {b c n : Nat} {x : Int32} {t : List (Int32 × Nat)} {L : List Value} {u v : Int32} (hz : zcode y pc = some (23, 4, b, c, n, x, t)) (hS : Nat.ble (.int v :: .int u :: S).length 12 = true) (kt : v < u → zk d y b L S σ Q) (kf : ¬ v < u → zk d y n L S σ Q)  : zk d y pc (L) (.int v :: .int u :: S) σ Q := by
  by_cases h : zcmp 4 u v = true
  · refine zk_step (σ' := σ) (L' := L) (S' := S) (n := b) hz rfl hS ?_ (kt (by simpa [zcmp] using h))
    show some (if zcmp 4 u v then b else n, L, S, zwl σ) = _
    rw [if_pos h]
  · refine zk_step (σ' := σ) (L' := L) (S' := S) (n := n) hz rfl hS ?_ (kf (by simpa [zcmp] using h))
    show some (if zcmp 4 u v then b else n, L, S, zwl σ) = _
    rw [if_neg h]
theorem r_if5 {d y pc : Nat} {S : List Value} {σ : zS} {Q : Option Int32 → zS → Prop} {b c n : Nat} {x : Int32} {t : List (Int32 × Nat)} {L : List Value} {u : Int32} (hz : zcode y pc = some (22, 5, b, c, n, x, t)) (hS : Nat.ble (.int u :: S).length 12 = true) (kt : u ≤ 0 → zk d y b L S σ Q) (kf : ¬ u ≤ 0 → zk d y n L S σ Q)  : zk d y pc (L) (.int u :: S) σ Q := by
  by_cases h : zcmp 5 u 0 = true
  · refine zk_step (σ' := σ) (L' := L) (S' := S) (n := b) hz rfl hS ?_ (kt (by simpa [zcmp] using h))
    show some (if zcmp 5 u 0 then b else n, L, S, zwl σ) = _
    rw [if_pos h]
  · refine zk_step (σ' := σ) (L' := L) (S' := S) (n := n) hz rfl hS ?_ (kf (by simpa [zcmp] using h))
    show some (if zcmp 5 u 0 then b else n, L, S, zwl σ) = _
    rw [if_neg h]
theorem r_ic5 {d y pc : Nat} {S : List Value} {σ : zS} {Q : Option Int32 → zS → Prop} {b c n : Nat} {x : Int32} {t : List (Int32 × Nat)} {L : List Value} {u v : Int32} (hz : zcode y pc = some (23, 5, b, c, n, x, t)) (hS : Nat.ble (.int v :: .int u :: S).length 12 = true) (kt : u ≤ v → zk d y b L S σ Q) (kf : ¬ u ≤ v → zk d y n L S σ Q)  : zk d y pc (L) (.int v :: .int u :: S) σ Q := by
  by_cases h : zcmp 5 u v = true
  · refine zk_step (σ' := σ) (L' := L) (S' := S) (n := b) hz rfl hS ?_ (kt (by simpa [zcmp] using h))
    show some (if zcmp 5 u v then b else n, L, S, zwl σ) = _
    rw [if_pos h]
  · refine zk_step (σ' := σ) (L' := L) (S' := S) (n := n) hz rfl hS ?_ (kf (by simpa [zcmp] using h))
    show some (if zcmp 5 u v then b else n, L, S, zwl σ) = _
    rw [if_neg h]
theorem r_goto {d y pc : Nat} {S : List Value} {σ : zS} {Q : Option Int32 → zS → Prop} {a b c n : Nat} {x : Int32} {t : List (Int32 × Nat)} {L : List Value}  (hz : zcode y pc = some (24, a, b, c, n, x, t)) (hS : Nat.ble (S).length 12 = true)  (kk : zk d y b (L) (S) (σ) Q) : zk d y pc (L) (S) σ Q := zk_step hz rfl hS rfl kk
theorem r_ifnull {d y pc : Nat} {S : List Value} {σ : zS} {Q : Option Int32 → zS → Prop} {a b c n : Nat} {x : Int32} {t : List (Int32 × Nat)} {L : List Value} {v : Nat} (hz : zcode y pc = some (25, a, b, c, n, x, t)) (hS : Nat.ble (.ref v :: S).length 12 = true)  (kk : zk d y n (L) (S) (σ) Q) : zk d y pc (L) (.ref v :: S) σ Q := zk_step hz rfl hS rfl kk
theorem r_ifnonnull {d y pc : Nat} {S : List Value} {σ : zS} {Q : Option Int32 → zS → Prop} {a b c n : Nat} {x : Int32} {t : List (Int32 × Nat)} {L : List Value} {v : Nat} (hz : zcode y pc = some (26, a, b, c, n, x, t)) (hS : Nat.ble (.ref v :: S).length 12 = true)  (kk : zk d y b (L) (S) (σ) Q) : zk d y pc (L) (.ref v :: S) σ Q := zk_step hz rfl hS rfl kk
theorem r_sw {d y pc : Nat} {S : List Value} {σ : zS} {Q : Option Int32 → zS → Prop} {a b c n : Nat} {x : Int32} {t : List (Int32 × Nat)} {L : List Value} {v : Int32} (hz : zcode y pc = some (27, a, b, c, n, x, t)) (hS : Nat.ble (.int v :: S).length 12 = true)  (kk : zk d y (zsw t b v) (L) (S) (σ) Q) : zk d y pc (L) (.int v :: S) σ Q := zk_step hz rfl hS rfl kk
theorem r_max {d y pc : Nat} {S : List Value} {σ : zS} {Q : Option Int32 → zS → Prop} {a b c n : Nat} {x : Int32} {t : List (Int32 × Nat)} {L : List Value} {u v : Int32} (hz : zcode y pc = some (34, a, b, c, n, x, t)) (hS : Nat.ble (.int v :: .int u :: S).length 12 = true)  (kk : zk d y n (L) (.int (if u < v then v else u) :: S) (σ) Q) : zk d y pc (L) (.int v :: .int u :: S) σ Q := zk_step hz rfl hS rfl kk
theorem r_min {d y pc : Nat} {S : List Value} {σ : zS} {Q : Option Int32 → zS → Prop} {a b c n : Nat} {x : Int32} {t : List (Int32 × Nat)} {L : List Value} {u v : Int32} (hz : zcode y pc = some (35, a, b, c, n, x, t)) (hS : Nat.ble (.int v :: .int u :: S).length 12 = true)  (kk : zk d y n (L) (.int (if u < v then u else v) :: S) (σ) Q) : zk d y pc (L) (.int v :: .int u :: S) σ Q := zk_step hz rfl hS rfl kk
theorem r_abs {d y pc : Nat} {S : List Value} {σ : zS} {Q : Option Int32 → zS → Prop} {a b c n : Nat} {x : Int32} {t : List (Int32 × Nat)} {L : List Value} {v : Int32} (hz : zcode y pc = some (36, a, b, c, n, x, t)) (hS : Nat.ble (.int v :: S).length 12 = true)  (kk : zk d y n (L) (.int (if v < 0 then -v else v) :: S) (σ) Q) : zk d y pc (L) (.int v :: S) σ Q := zk_step hz rfl hS rfl kk
theorem r_fd {d y pc : Nat} {σ : zS} {Q : Option Int32 → zS → Prop} {a b c n : Nat} {x : Int32} {t : List (Int32 × Nat)} {L : List Value} {u v : Int32} (hz : zcode y pc = some (41, a, b, c, n, x, t)) (hS : Nat.ble ([.int v, .int u] : List Value).length 12 = true) (hv : ¬ v = 0) (kk : zk d y n (L) [.int (zfd u v)] (σ) Q) : zk d y pc (L) [.int v, .int u] σ Q := zk_step hz rfl hS (by show (if v = 0 then none else some (n, L, [Value.int (zfd u v)], zwl σ)) = _; rw [if_neg hv]) kk
theorem r_fm {d y pc : Nat} {σ : zS} {Q : Option Int32 → zS → Prop} {a b c n : Nat} {x : Int32} {t : List (Int32 × Nat)} {L : List Value} {u v : Int32} (hz : zcode y pc = some (42, a, b, c, n, x, t)) (hS : Nat.ble ([.int v, .int u] : List Value).length 12 = true) (hv : ¬ v = 0) (kk : zk d y n (L) [.int (zfm u v)] (σ) Q) : zk d y pc (L) [.int v, .int u] σ Q := zk_step hz rfl hS (by show (if v = 0 then none else some (n, L, [Value.int (zfm u v)], zwl σ)) = _; rw [if_neg hv]) kk
theorem r_ret {d y pc : Nat} {σ : zS} {Q : Option Int32 → zS → Prop} {a b c n : Nat} {x : Int32} {t : List (Int32 × Nat)} {L : List Value} (hz : zcode y pc = some (28, a, b, c, n, x, t)) (hr : (zm y).2.2.2.1 = none) (hq : Q none σ) : zk d y pc L [] σ Q := by
  refine ⟨1, none, σ, ?_, hq⟩
  rw [zrun, hz]
  dsimp only
  rw [if_neg (by decide), if_pos (Or.inl rfl), hr]
  rfl
theorem r_retI {d y pc : Nat} {σ : zS} {Q : Option Int32 → zS → Prop} {a b c n : Nat} {x : Int32} {t : List (Int32 × Nat)} {L : List Value} {v : Int32} (hz : zcode y pc = some (29, a, b, c, n, x, t)) (hr : (zm y).2.2.2.1 = some .int) (hq : Q (some v) σ) : zk d y pc L [.int v] σ Q := by
  refine ⟨1, some v, σ, ?_, hq⟩
  rw [zrun, hz]
  dsimp only
  rw [if_neg (by simp), if_pos (Or.inr rfl), hr]
  rfl
theorem r_retZ {d y pc : Nat} {σ : zS} {Q : Option Int32 → zS → Prop} {a b c n : Nat} {x : Int32} {t : List (Int32 × Nat)} {L : List Value} {v : Int32} (hz : zcode y pc = some (29, a, b, c, n, x, t)) (hr : (zm y).2.2.2.1 = some .boolean) (hv : v = 0 ∨ v = 1) (hq : Q (some v) σ) : zk d y pc L [.int v] σ Q := by
  refine ⟨1, some v, σ, ?_, hq⟩
  rw [zrun, hz]
  dsimp only
  rw [if_neg (by simp), if_pos (Or.inr rfl), hr]
  show (match (if v = 0 ∨ v = 1 then some (some (Value.int v)) else none) with
    | some r => some (r, zwl σ)
    | none => none) = _
  rw [if_pos hv]
  rfl
def zcls (a : Nat) (r : Nat) : Prop := ∃ fl, zIs r (.inr (.inr ((zm a).2.2.2.2.1, fl)))
theorem zk_call {d y pc : Nat} {L S rest as : List Value} {σ : zS} {Q Q1 : Option Int32 → zS → Prop} {i : zI} (hz : zcode y pc = some i) (ho : i.1 = 30 ∨ i.1 = 31 ∨ i.1 = 32) (hS : Nat.ble S.length 12 = true) (hcal : zcal i S (zwl σ) (zm i.2.1).2.2.2.2.1 (zm i.2.1).2.2.1 = some (as, rest)) (hc : zk d i.2.1 0 (zents i.2.1 as) [] σ Q1) (kk : ∀ r σ', Q1 r σ' → zk (d + 1) y i.2.2.2.2.1 L ((r.map Value.int).toList ++ rest) σ' Q) : zk (d + 1) y pc L S σ Q := by
  obtain ⟨f1, r1, σ1, g1, g2⟩ := hc
  obtain ⟨f2, r2, σ2, g3, g4⟩ := kk r1 σ1 g2
  refine ⟨f1 + f2 + 1, r2, σ2, ?_, g4⟩
  have h12 : ¬ 12 < S.length := Nat.not_lt.mpr (Nat.le_of_ble_eq_true hS)
  have e1 : ¬ (i.1 = 28 ∨ i.1 = 29) := by rcases ho with h | h | h <;> rw [h] <;> decide
  rw [zrun, hz]
  dsimp only
  rw [if_neg h12, if_neg e1, if_pos ho]
  try dsimp only
  rw [hcal]
  try dsimp only
  rw [zrun_more f1 _ _ _ _ _ _ _ g1 f2]
  dsimp only
  rw [Nat.add_comm f1 f2, zrun_more f2 _ _ _ _ _ _ _ g3 f1]
theorem zcal_ok {op a b c n cls ml : Nat} {x : Int32} {t : List (Int32 × Nat)} {S as rest : List Value} {w : zW} (ho : op = 30 ∨ op = 31 ∨ op = 32) (hS : S = as.reverse ++ rest) (hb : as.length = b) (hml : Nat.ble b ml = true) (hr : Nat.ble rest.length 8 = true) (hok : S.all zokv = true) (hv : op = 31 ∨ ∃ r as' fs, as = .ref r :: as' ∧ w[r]? = some (.inr (.inr (cls, fs)))) : zcal (op, a, b, c, n, x, t) S w cls ml = some (as, rest) := by
  have h1 : S.take b = as.reverse := by rw [hS, ← hb, ← List.length_reverse]; exact List.take_left
  have h2 : S.drop b = rest := by rw [hS, ← hb, ← List.length_reverse]; exact List.drop_left
  have h3 : b ≤ S.length := by rw [hS, List.length_append, List.length_reverse]; omega
  delta zcal
  dsimp only
  rw [if_pos ⟨h3, Nat.le_of_ble_eq_true hml, by rw [h2]; exact Nat.le_of_ble_eq_true hr, hok, ho⟩]
  rcases hv with rfl | ⟨r, as', fs, rfl, hw⟩
  · rw [if_pos rfl, h1, h2, List.reverse_reverse]
  · by_cases h : op = 31
    · rw [if_pos h, h1, h2, List.reverse_reverse]
    · rw [if_neg h, h1, h2, List.reverse_reverse]
      dsimp only
      rw [hw]
      dsimp only
      rw [if_pos rfl]
theorem r_cIV {d y pc : Nat} {S rest as : List Value} {σ : zS} {Q : Option Int32 → zS → Prop} {a b c n : Nat} {x : Int32} {t : List (Int32 × Nat)} {L : List Value} {r : Nat} {as' : List Value} {fl : List (Option Nat)}  (hz : zcode y pc = some (30, a, b, c, n, x, t)) (hS : Nat.ble S.length 12 = true) (hs : S = as.reverse ++ rest) (hb : as.length = b) (hml : Nat.ble b (zm a).2.2.1 = true) (hr8 : Nat.ble rest.length 8 = true) (hok : S.all zokv = true) (hr : as = .ref r :: as') (hk : zIs r (.inr (.inr ((zm a).2.2.2.2.1, fl))))  (h : zI1 d a as σ (fun r σ' => zk (d + 1) y n L (.int r :: rest) σ' Q)) : zk (d + 1) y pc L S σ Q := zk_call hz (Or.inl rfl) hS (zcal_ok (Or.inl rfl) hs hb hml hr8 hok (Or.inr ⟨r, as', _, hr, zwl_get hk⟩)) h (fun r s hq => by obtain ⟨v, rfl, hq⟩ := hq; exact hq)
theorem r_cVV {d y pc : Nat} {S rest as : List Value} {σ : zS} {Q : Option Int32 → zS → Prop} {a b c n : Nat} {x : Int32} {t : List (Int32 × Nat)} {L : List Value} {r : Nat} {as' : List Value} {fl : List (Option Nat)}  (hz : zcode y pc = some (30, a, b, c, n, x, t)) (hS : Nat.ble S.length 12 = true) (hs : S = as.reverse ++ rest) (hb : as.length = b) (hml : Nat.ble b (zm a).2.2.1 = true) (hr8 : Nat.ble rest.length 8 = true) (hok : S.all zokv = true) (hr : as = .ref r :: as') (hk : zIs r (.inr (.inr ((zm a).2.2.2.2.1, fl))))  (h : zV1 d a as σ (fun σ' => zk (d + 1) y n L rest σ' Q)) : zk (d + 1) y pc L S σ Q := zk_call hz (Or.inl rfl) hS (zcal_ok (Or.inl rfl) hs hb hml hr8 hok (Or.inr ⟨r, as', _, hr, zwl_get hk⟩)) h (fun r s hq => by obtain ⟨rfl, hq⟩ := hq; exact hq)
theorem r_cIS {d y pc : Nat} {S rest as : List Value} {σ : zS} {Q : Option Int32 → zS → Prop} {a b c n : Nat} {x : Int32} {t : List (Int32 × Nat)} {L : List Value}  (hz : zcode y pc = some (31, a, b, c, n, x, t)) (hS : Nat.ble S.length 12 = true) (hs : S = as.reverse ++ rest) (hb : as.length = b) (hml : Nat.ble b (zm a).2.2.1 = true) (hr8 : Nat.ble rest.length 8 = true) (hok : S.all zokv = true)  (h : zI1 d a as σ (fun r σ' => zk (d + 1) y n L (.int r :: rest) σ' Q)) : zk (d + 1) y pc L S σ Q := zk_call hz (Or.inr (Or.inl rfl)) hS (zcal_ok (Or.inr (Or.inl rfl)) hs hb hml hr8 hok (Or.inl rfl)) h (fun r s hq => by obtain ⟨v, rfl, hq⟩ := hq; exact hq)
theorem r_cVS {d y pc : Nat} {S rest as : List Value} {σ : zS} {Q : Option Int32 → zS → Prop} {a b c n : Nat} {x : Int32} {t : List (Int32 × Nat)} {L : List Value}  (hz : zcode y pc = some (31, a, b, c, n, x, t)) (hS : Nat.ble S.length 12 = true) (hs : S = as.reverse ++ rest) (hb : as.length = b) (hml : Nat.ble b (zm a).2.2.1 = true) (hr8 : Nat.ble rest.length 8 = true) (hok : S.all zokv = true)  (h : zV1 d a as σ (fun σ' => zk (d + 1) y n L rest σ' Q)) : zk (d + 1) y pc L S σ Q := zk_call hz (Or.inr (Or.inl rfl)) hS (zcal_ok (Or.inr (Or.inl rfl)) hs hb hml hr8 hok (Or.inl rfl)) h (fun r s hq => by obtain ⟨rfl, hq⟩ := hq; exact hq)
