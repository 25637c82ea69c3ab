/-! THE LAW's codes: numbers, and the class's value -/
def zen (o a : Nat) : Nat := match o with
  | 0 => a
  | 1 => 10003 + a
  | 2 => 20043
  | 3 => 20045
  | 4 => 20042
  | 5 => 20047
  | 6 => 20060
  | 7 => 20061
  | 8 => 20062
  | 9 => 10016
  | 10 => 10015
  | _ => 10014
/-- what a sign joins -/
def ztwo (o : Nat) (x y : Int32) : Int32 := match o with
  | 2 => x + y
  | 3 => x - y
  | 4 => x * y
  | 5 => x / y
  | 6 => if x < y then 1 else 0
  | 7 => if x = y then 1 else 0
  | 8 => if y < x then 1 else 0
  | 10 => x * y
  | _ => if 0 < x + y then 1 else 0
def zes (F : Nat → Int32) (o a : Nat) (st : List Int32) : List Int32 :=
  if o = 0 then nI a :: st else if o = 1 then F a :: st else if o = 9 then (match st with
    | x :: s => (1 - x) :: s
    | s => s) else (match st with
    | y :: x :: s => ztwo o x y :: s
    | s => s)
/-- kinds: 0 a number, 1 whether something is so, 2 a number that isn't 0 -/
def zkb2 (o k1 k2 : Nat) : Option Nat :=
  if o = 2 ∨ o = 3 ∨ o = 4 then (if k1 ≠ 1 ∧ k2 ≠ 1 then some 0 else none)
  else if o = 5 then (if k1 ≠ 1 ∧ k2 = 2 then some 0 else none)
  else if o = 6 ∨ o = 7 ∨ o = 8 then (if k1 ≠ 1 ∧ k2 ≠ 1 then some 1 else none)
  else if o = 10 ∨ o = 11 then (if k1 = 1 ∧ k2 = 1 then some 1 else none)
  else none
def zKs (o a : Nat) (ks : List Nat) : Option (List Nat) :=
  if o = 0 then (if a ≤ 9999 ∧ ks.length < 32 then some ((if a = 0 then 0 else 2) :: ks) else none)
  else if o = 1 then (if a < 10 ∧ ks.length < 32 then some (0 :: ks) else none)
  else if o = 9 then (match ks with
    | k :: r => if k = 1 then some (1 :: r) else none
    | _ => none)
  else (match ks with
    | k2 :: k1 :: r => (zkb2 o k1 k2).map (fun k => k :: r)
    | _ => none)
def zev (O A : Nat → Nat) (F : Nat → Int32) : Nat → Nat → List Int32 → List Int32
  | 0, _, st => st
  | n + 1, i, st => zev O A F n (i + 1) (zes F (O i) (A i) st)
def zKc (O A : Nat → Nat) : Nat → Nat → List Nat → Option (List Nat)
  | 0, _, ks => some ks
  | n + 1, i, ks => match zKs (O i) (A i) ks with
    | none => none
    | some ks => zKc O A n (i + 1) ks
def zok1 (k : Nat) (x : Int32) : Prop := (k = 1 → x = 0 ∨ x = 1) ∧ (k = 2 → x ≠ 0) ∧ k ≤ 2
def zTy : List Nat → List Int32 → Prop
  | [], [] => True
  | k :: ks, x :: st => zok1 k x ∧ zTy ks st
  | _, _ => False
theorem zTy_len : ∀ (ks : List Nat) (st : List Int32), zTy ks st → ks.length = st.length
  | [], [], _ => rfl
  | k :: ks, x :: st, h => by show ks.length + 1 = st.length + 1; rw [zTy_len ks st h.2]
  | [], _ :: _, h => absurd h id
  | _ :: _, [], h => absurd h id
theorem zkb2_ty {o k1 k2 k : Nat} {x y : Int32} (h : zkb2 o k1 k2 = some k) (hx : zok1 k1 x) (hy : zok1 k2 y) : zok1 k (ztwo o x y) := by
  unfold zkb2 at h
  have one : ∀ c : Prop, [Decidable c] → zok1 1 (if c then (1 : Int32) else 0) := fun c _ => by
    refine ⟨fun _ => ?_, fun z => by omega, by omega⟩
    by_cases hc : c
    · rw [if_pos hc]; exact Or.inr rfl
    · rw [if_neg hc]; exact Or.inl rfl
  have zer : ∀ v : Int32, zok1 0 v := fun v => ⟨fun z => by omega, fun z => by omega, by omega⟩
  split at h
  · split at h
    · cases h; exact zer _
    · cases h
  · split at h
    · split at h
      · cases h; exact zer _
      · cases h
    · split at h
      · rename_i h1 h2 h3
        split at h
        · cases h
          rcases h3 with e | e | e <;> subst e
          · exact one (x < y)
          · exact one (x = y)
          · exact one (y < x)
        · cases h
      · split at h
        · rename_i h1 h2 h3 h4
          split at h
          · rename_i h5
            cases h
            rcases h4 with e | e <;> subst e
            · show zok1 1 (x * y)
              refine ⟨fun _ => ?_, fun z => by omega, by omega⟩
              rcases hx.1 h5.1 with a | a <;> rcases hy.1 h5.2 with b | b <;> rw [a, b] <;> decide
            · exact one (0 < x + y)
          · cases h
        · cases h
theorem zKs_ty {o a : Nat} {F : Nat → Int32} {ks ks' : List Nat} {st : List Int32} (h : zKs o a ks = some ks') (ht : zTy ks st) : zTy ks' (zes F o a st) := by
  unfold zKs at h
  unfold zes
  by_cases h0 : o = 0
  · rw [if_pos h0] at h ⊢
    by_cases hc : a ≤ 9999 ∧ ks.length < 32
    · rw [if_pos hc] at h
      cases h
      refine ⟨?_, ht⟩
      by_cases ha : a = 0
      · rw [if_pos ha]; exact ⟨fun z => by omega, fun z => by omega, by omega⟩
      · rw [if_neg ha]; exact ⟨fun z => by omega, fun _ => nI_ne0 (by omega) (by omega), by omega⟩
    · rw [if_neg hc] at h; cases h
  · rw [if_neg h0] at h ⊢
    by_cases h1 : o = 1
    · rw [if_pos h1] at h ⊢
      by_cases hc : a < 10 ∧ ks.length < 32
      · rw [if_pos hc] at h
        cases h
        exact ⟨⟨fun z => by omega, fun z => by omega, by omega⟩, ht⟩
      · rw [if_neg hc] at h; cases h
    · rw [if_neg h1] at h ⊢
      by_cases h9 : o = 9
      · rw [if_pos h9] at h ⊢
        match ks, st, h, ht with
        | k :: r, x :: s, h, ht =>
          dsimp only at h ⊢
          by_cases hk : k = 1
          · rw [if_pos hk] at h
            cases h
            refine ⟨⟨fun _ => ?_, fun z => by omega, by omega⟩, ht.2⟩
            rcases ht.1.1 hk with e | e <;> rw [e] <;> decide
          · rw [if_neg hk] at h; cases h
        | [], _, h, _ => cases h
        | _ :: _, [], _, ht => exact absurd ht id
      · rw [if_neg h9] at h ⊢
        match ks, st, h, ht with
        | k2 :: k1 :: r, y :: x :: s, h, ht =>
          dsimp only at h ⊢
          cases hz : zkb2 o k1 k2 with
          | none => rw [hz] at h; cases h
          | some k =>
            rw [hz] at h
            cases h
            exact ⟨zkb2_ty hz ht.2.1 ht.1, ht.2.2⟩
        | [_], _, h, _ => cases h
        | [], _, h, _ => cases h
        | _ :: _ :: _, [_], _, ht => exact absurd ht.2 id
        | _ :: _, [], _, ht => exact absurd ht id
theorem zKs_len {o a : Nat} {ks ks' : List Nat} (h : zKs o a ks = some ks') (hl : ks.length ≤ 32) : ks'.length ≤ 32 := by
  unfold zKs at h
  by_cases h0 : o = 0
  · rw [if_pos h0] at h
    by_cases hc : a ≤ 9999 ∧ ks.length < 32
    · rw [if_pos hc] at h; cases h; show ks.length + 1 ≤ 32; omega
    · rw [if_neg hc] at h; cases h
  · rw [if_neg h0] at h
    by_cases h1 : o = 1
    · rw [if_pos h1] at h
      by_cases hc : a < 10 ∧ ks.length < 32
      · rw [if_pos hc] at h; cases h; show ks.length + 1 ≤ 32; omega
      · rw [if_neg hc] at h; cases h
    · rw [if_neg h1] at h
      by_cases h9 : o = 9
      · rw [if_pos h9] at h
        match ks, h with
        | k :: r, h =>
          dsimp only at h
          by_cases hk : k = 1
          · rw [if_pos hk] at h; cases h; exact hl
          · rw [if_neg hk] at h; cases h
        | [], h => cases h
      · rw [if_neg h9] at h
        match ks, h with
        | k2 :: k1 :: r, h =>
          dsimp only at h
          cases hz : zkb2 o k1 k2 with
          | none => rw [hz] at h; cases h
          | some k => rw [hz] at h; cases h; change r.length + 1 + 1 ≤ 32 at hl; show r.length + 1 ≤ 32; omega
        | [_], h => cases h
        | [], h => cases h
/-- how a stack lies in a row -/
def zSt (f : Nat → Int32) : List Int32 → Prop
  | [] => True
  | x :: st => f st.length = x ∧ zSt f st
theorem zSt_c {f g : Nat → Int32} : ∀ st : List Int32, (∀ p, p < st.length → g p = f p) → zSt f st → zSt g st
  | [], _, _ => trivial
  | x :: st, h, hs => ⟨(h _ (Nat.lt_succ_self _)).trans hs.1, zSt_c st (fun p hp => h p (Nat.lt_succ_of_lt hp)) hs.2⟩
theorem zSt_push {σ : zS} {k : Nat} {x : Int32} {st : List Int32} (h : zSt (σ k) st) : zSt (up σ k st.length x k) (x :: st) := ⟨zup_eq, zSt_c st (fun p hp => zup_nj (by omega)) h⟩
theorem zSt_join {σ : zS} {k : Nat} {x y z : Int32} {st : List Int32} (h : zSt (σ k) (y :: x :: st)) : zSt (up σ k st.length z k) (z :: st) := ⟨zup_eq, zSt_c st (fun p hp => zup_nj (by omega)) h.2.2⟩
theorem zTy_1 {k : Nat} {st : List Int32} (h : zTy [k] st) : ∃ x, st = [x] ∧ zok1 k x := by
  match st, h with
  | [x], h => exact ⟨x, rfl, h.1⟩
  | _ :: _ :: _, h => exact absurd h.2 id
  | [], h => exact absurd h id
theorem zTy_2 {k2 k1 : Nat} {r : List Nat} {st : List Int32} (h : zTy (k2 :: k1 :: r) st) : ∃ y x s, st = y :: x :: s ∧ zok1 k2 y ∧ zok1 k1 x ∧ zTy r s := by
  match st, h with
  | y :: x :: s, h => exact ⟨y, x, s, rfl, h.1, h.2.1, h.2.2⟩
  | [_], h => exact absurd h.2 id
  | [], h => exact absurd h id
/-- what the class joins -/
theorem s_joined {d o k1 k2 k : Nat} {σ : zS} {Q : Int32 → zS → Prop} {x y : Int32} (hz : zkb2 o k1 k2 = some k) (hx : zok1 k1 x) (hy : zok1 k2 y) (hq : Q (ztwo o x y) σ) : zI1 d 28 [.int (nI (zen o 0)), .int x, .int y] σ Q := by
  show zk _ _ 0 [.int (nI (zen o 0)), .int x, .int y] [] _ _
  unfold zkb2 at hz
  split at hz
  · rename_i h
    rcases h with e | e | e <;> subst e
    · show zk _ _ 0 [.int 20043, _, _] [] _ _
      refine r_il0 zi_28_0 rfl ?_
      refine r_sw zi_28_1 rfl ?_
      rw [show zsw [(10014, 145), (10015, 141), (20042, 92), (20043, 84), (20045, 88), (20047, 96), (20060, 108), (20061, 119), (20062, 130)] 149 20043 = 84 from by decide]
      refine r_il1 zi_28_84 rfl ?_
      refine r_il2 zi_28_85 rfl ?_
      refine r_b0 zi_28_86 rfl ?_
      refine r_retI zi_28_87 rfl ?_
      exact ⟨_, rfl, hq⟩
    · show zk _ _ 0 [.int 20045, _, _] [] _ _
      refine r_il0 zi_28_0 rfl ?_
      refine r_sw zi_28_1 rfl ?_
      rw [show zsw [(10014, 145), (10015, 141), (20042, 92), (20043, 84), (20045, 88), (20047, 96), (20060, 108), (20061, 119), (20062, 130)] 149 20045 = 88 from by decide]
      refine r_il1 zi_28_88 rfl ?_
      refine r_il2 zi_28_89 rfl ?_
      refine r_b1 zi_28_90 rfl ?_
      refine r_retI zi_28_91 rfl ?_
      exact ⟨_, rfl, hq⟩
    · show zk _ _ 0 [.int 20042, _, _] [] _ _
      refine r_il0 zi_28_0 rfl ?_
      refine r_sw zi_28_1 rfl ?_
      rw [show zsw [(10014, 145), (10015, 141), (20042, 92), (20043, 84), (20045, 88), (20047, 96), (20060, 108), (20061, 119), (20062, 130)] 149 20042 = 92 from by decide]
      refine r_il1 zi_28_92 rfl ?_
      refine r_il2 zi_28_93 rfl ?_
      refine r_b2 zi_28_94 rfl ?_
      refine r_retI zi_28_95 rfl ?_
      exact ⟨_, rfl, hq⟩
  · split at hz
    · rename_i h
      subst h
      have hy0 : y ≠ 0 := by
        split at hz
        · rename_i h2; exact hy.2.1 h2.2
        · cases hz
      show zk _ _ 0 [.int 20047, _, _] [] _ _
      refine r_il0 zi_28_0 rfl ?_
      refine r_sw zi_28_1 rfl ?_
      rw [show zsw [(10014, 145), (10015, 141), (20042, 92), (20043, 84), (20045, 88), (20047, 96), (20060, 108), (20061, 119), (20062, 130)] 149 20047 = 96 from by decide]
      refine r_il2 zi_28_96 rfl ?_
      refine r_if1 zi_28_97 rfl (fun _ => ?_) (fun c => absurd c hy0)
      refine r_il1 zi_28_104 rfl ?_
      refine r_il2 zi_28_105 rfl ?_
      refine r_div zi_28_106 rfl hy0 ?_
      refine r_retI zi_28_107 rfl ?_
      exact ⟨_, rfl, hq⟩
    · split at hz
      · rename_i h
        rcases h with e | e | e <;> subst e
        · show zk _ _ 0 [.int 20060, _, _] [] _ _
          have hq : Q (if x < y then 1 else 0) σ := hq
          refine r_il0 zi_28_0 rfl ?_
          refine r_sw zi_28_1 rfl ?_
          rw [show zsw [(10014, 145), (10015, 141), (20042, 92), (20043, 84), (20045, 88), (20047, 96), (20060, 108), (20061, 119), (20062, 130)] 149 20060 = 108 from by decide]
          refine r_il1 zi_28_108 rfl ?_
          refine r_il2 zi_28_109 rfl ?_
          refine r_ic3 zi_28_110 rfl (fun c1 => ?_) (fun c1 => ?_)
          · refine r_push zi_28_117 rfl ?_
            refine r_retI zi_28_118 rfl ?_
            first | (rw [if_pos (by grind)] at hq; exact ⟨_, rfl, hq⟩) | (rw [if_neg (by grind)] at hq; exact ⟨_, rfl, hq⟩)
          · refine r_push zi_28_113 rfl ?_
            refine r_goto zi_28_114 rfl ?_
            refine r_retI zi_28_118 rfl ?_
            first | (rw [if_pos (by grind)] at hq; exact ⟨_, rfl, hq⟩) | (rw [if_neg (by grind)] at hq; exact ⟨_, rfl, hq⟩)
        · show zk _ _ 0 [.int 20061, _, _] [] _ _
          have hq : Q (if x = y then 1 else 0) σ := hq
          refine r_il0 zi_28_0 rfl ?_
          refine r_sw zi_28_1 rfl ?_
          rw [show zsw [(10014, 145), (10015, 141), (20042, 92), (20043, 84), (20045, 88), (20047, 96), (20060, 108), (20061, 119), (20062, 130)] 149 20061 = 119 from by decide]
          refine r_il1 zi_28_119 rfl ?_
          refine r_il2 zi_28_120 rfl ?_
          refine r_ic1 zi_28_121 rfl (fun c1 => ?_) (fun c1 => ?_)
          · refine r_push zi_28_128 rfl ?_
            refine r_retI zi_28_129 rfl ?_
            first | (rw [if_pos (by grind)] at hq; exact ⟨_, rfl, hq⟩) | (rw [if_neg (by grind)] at hq; exact ⟨_, rfl, hq⟩)
          · refine r_push zi_28_124 rfl ?_
            refine r_goto zi_28_125 rfl ?_
            refine r_retI zi_28_129 rfl ?_
            first | (rw [if_pos (by grind)] at hq; exact ⟨_, rfl, hq⟩) | (rw [if_neg (by grind)] at hq; exact ⟨_, rfl, hq⟩)
        · show zk _ _ 0 [.int 20062, _, _] [] _ _
          have hq : Q (if y < x then 1 else 0) σ := hq
          refine r_il0 zi_28_0 rfl ?_
          refine r_sw zi_28_1 rfl ?_
          rw [show zsw [(10014, 145), (10015, 141), (20042, 92), (20043, 84), (20045, 88), (20047, 96), (20060, 108), (20061, 119), (20062, 130)] 149 20062 = 130 from by decide]
          refine r_il1 zi_28_130 rfl ?_
          refine r_il2 zi_28_131 rfl ?_
          refine r_ic5 zi_28_132 rfl (fun c1 => ?_) (fun c1 => ?_)
          · refine r_push zi_28_139 rfl ?_
            refine r_retI zi_28_140 rfl ?_
            first | (rw [if_pos (by grind)] at hq; exact ⟨_, rfl, hq⟩) | (rw [if_neg (by grind)] at hq; exact ⟨_, rfl, hq⟩)
          · refine r_push zi_28_135 rfl ?_
            refine r_goto zi_28_136 rfl ?_
            refine r_retI zi_28_140 rfl ?_
            first | (rw [if_pos (by grind)] at hq; exact ⟨_, rfl, hq⟩) | (rw [if_neg (by grind)] at hq; exact ⟨_, rfl, hq⟩)
      · split at hz
        · rename_i h
          split at hz
          · rename_i h2
            have hx1 := hx.1 h2.1
            have hy1 := hy.1 h2.2
            rcases h with e | e <;> subst e
            · have e1 : x &&& y = ztwo 10 x y := by
                show x &&& y = x * y
                rcases hx1 with a | a <;> rcases hy1 with b | b <;> rw [a, b] <;> decide
              show zk _ _ 0 [.int 10015, _, _] [] _ _
              refine r_il0 zi_28_0 rfl ?_
              refine r_sw zi_28_1 rfl ?_
              rw [show zsw [(10014, 145), (10015, 141), (20042, 92), (20043, 84), (20045, 88), (20047, 96), (20060, 108), (20061, 119), (20062, 130)] 149 10015 = 141 from by decide]
              refine r_il1 zi_28_141 rfl ?_
              refine r_il2 zi_28_142 rfl ?_
              refine r_b3 zi_28_143 rfl ?_
              refine r_retI zi_28_144 rfl ?_
              exact ⟨_, rfl, by rw [e1]; exact hq⟩
            · have e1 : x ||| y = ztwo 11 x y := by
                show x ||| y = if 0 < x + y then 1 else 0
                rcases hx1 with a | a <;> rcases hy1 with b | b <;> rw [a, b] <;> decide
              show zk _ _ 0 [.int 10014, _, _] [] _ _
              refine r_il0 zi_28_0 rfl ?_
              refine r_sw zi_28_1 rfl ?_
              rw [show zsw [(10014, 145), (10015, 141), (20042, 92), (20043, 84), (20045, 88), (20047, 96), (20060, 108), (20061, 119), (20062, 130)] 149 10014 = 145 from by decide]
              refine r_il1 zi_28_145 rfl ?_
              refine r_il2 zi_28_146 rfl ?_
              refine r_b4 zi_28_147 rfl ?_
              refine r_retI zi_28_148 rfl ?_
              exact ⟨_, rfl, by rw [e1]; exact hq⟩
          · cases hz
        · cases hz
theorem s_two {d o k1 k2 k : Nat} {σ : zS} {Q : Int32 → zS → Prop} {x y : Int32} (hz : zkb2 o k1 k2 = some k) (hx : zok1 k1 x) (hy : zok1 k2 y) (hq : Q (ztwo o x y) σ) : zI1 d 223 [.ref 195, .int (nI o), .int x, .int y] σ Q := by
  show zk _ _ 0 [.ref 195, .int (nI o), .int x, .int y] [] _ _
  unfold zkb2 at hz
  split at hz
  · rename_i h
    rcases h with e | e | e <;> subst e
    · show zk _ _ 0 [.ref 195, .int 2, _, _] [] _ _
      refine r_il1 zi_223_0 rfl ?_
      refine r_push zi_223_1 rfl ?_
      refine r_ic1 zi_223_2 rfl (fun c => absurd (by decide) c) (fun _ => ?_)
      refine r_il2 zi_223_5 rfl ?_
      refine r_il3 zi_223_6 rfl ?_
      refine r_b0 zi_223_7 rfl ?_
      refine r_retI zi_223_8 rfl ?_
      exact ⟨_, rfl, hq⟩
    · show zk _ _ 0 [.ref 195, .int 3, _, _] [] _ _
      refine r_il1 zi_223_0 rfl ?_
      refine r_push zi_223_1 rfl ?_
      refine r_ic1 zi_223_2 rfl (fun _ => ?_) (fun c => absurd c (by decide))
      refine r_il1 zi_223_9 rfl ?_
      refine r_push zi_223_10 rfl ?_
      refine r_ic1 zi_223_11 rfl (fun c => absurd (by decide) c) (fun _ => ?_)
      refine r_il2 zi_223_14 rfl ?_
      refine r_il3 zi_223_15 rfl ?_
      refine r_b1 zi_223_16 rfl ?_
      refine r_retI zi_223_17 rfl ?_
      exact ⟨_, rfl, hq⟩
    · show zk _ _ 0 [.ref 195, .int 4, _, _] [] _ _
      refine r_il1 zi_223_0 rfl ?_
      refine r_push zi_223_1 rfl ?_
      refine r_ic1 zi_223_2 rfl (fun _ => ?_) (fun c => absurd c (by decide))
      refine r_il1 zi_223_9 rfl ?_
      refine r_push zi_223_10 rfl ?_
      refine r_ic1 zi_223_11 rfl (fun _ => ?_) (fun c => absurd c (by decide))
      refine r_il1 zi_223_18 rfl ?_
      refine r_push zi_223_19 rfl ?_
      refine r_ic1 zi_223_20 rfl (fun c => absurd (by decide) c) (fun _ => ?_)
      refine r_il2 zi_223_23 rfl ?_
      refine r_il3 zi_223_24 rfl ?_
      refine r_b2 zi_223_25 rfl ?_
      refine r_retI zi_223_26 rfl ?_
      exact ⟨_, rfl, hq⟩
  · split at hz
    · rename_i h
      subst h
      have hy0 : y ≠ 0 := by
        split at hz
        · rename_i h2; exact hy.2.1 h2.2
        · cases hz
      show zk _ _ 0 [.ref 195, .int 5, _, _] [] _ _
      refine r_il1 zi_223_0 rfl ?_
      refine r_push zi_223_1 rfl ?_
      refine r_ic1 zi_223_2 rfl (fun _ => ?_) (fun c => absurd c (by decide))
      refine r_il1 zi_223_9 rfl ?_
      refine r_push zi_223_10 rfl ?_
      refine r_ic1 zi_223_11 rfl (fun _ => ?_) (fun c => absurd c (by decide))
      refine r_il1 zi_223_18 rfl ?_
      refine r_push zi_223_19 rfl ?_
      refine r_ic1 zi_223_20 rfl (fun _ => ?_) (fun c => absurd c (by decide))
      refine r_il1 zi_223_27 rfl ?_
      refine r_push zi_223_28 rfl ?_
      refine r_ic1 zi_223_29 rfl (fun c => absurd (by decide) c) (fun _ => ?_)
      refine r_il2 zi_223_32 rfl ?_
      refine r_il3 zi_223_33 rfl ?_
      refine r_div zi_223_34 rfl hy0 ?_
      refine r_retI zi_223_35 rfl ?_
      exact ⟨_, rfl, hq⟩
    · split at hz
      · rename_i h
        rcases h with e | e | e <;> subst e
        · show zk _ _ 0 [.ref 195, .int 6, _, _] [] _ _
          have hq : Q (if x < y then 1 else 0) σ := hq
          refine r_il1 zi_223_0 rfl ?_
          refine r_push zi_223_1 rfl ?_
          refine r_ic1 zi_223_2 rfl (fun _ => ?_) (fun c => absurd c (by decide))
          refine r_il1 zi_223_9 rfl ?_
          refine r_push zi_223_10 rfl ?_
          refine r_ic1 zi_223_11 rfl (fun _ => ?_) (fun c => absurd c (by decide))
          refine r_il1 zi_223_18 rfl ?_
          refine r_push zi_223_19 rfl ?_
          refine r_ic1 zi_223_20 rfl (fun _ => ?_) (fun c => absurd c (by decide))
          refine r_il1 zi_223_27 rfl ?_
          refine r_push zi_223_28 rfl ?_
          refine r_ic1 zi_223_29 rfl (fun _ => ?_) (fun c => absurd c (by decide))
          refine r_il1 zi_223_36 rfl ?_
          refine r_push zi_223_37 rfl ?_
          refine r_ic1 zi_223_39 rfl (fun c => absurd (by decide) c) (fun _ => ?_)
          refine r_il2 zi_223_42 rfl ?_
          refine r_il3 zi_223_43 rfl ?_
          refine r_ic3 zi_223_44 rfl (fun c1 => ?_) (fun c1 => ?_)
          · refine r_push zi_223_51 rfl ?_
            refine r_retI zi_223_52 rfl ?_
            first | (rw [if_pos (by grind)] at hq; exact ⟨_, rfl, hq⟩) | (rw [if_neg (by grind)] at hq; exact ⟨_, rfl, hq⟩)
          · refine r_push zi_223_47 rfl ?_
            refine r_goto zi_223_48 rfl ?_
            refine r_retI zi_223_52 rfl ?_
            first | (rw [if_pos (by grind)] at hq; exact ⟨_, rfl, hq⟩) | (rw [if_neg (by grind)] at hq; exact ⟨_, rfl, hq⟩)
        · show zk _ _ 0 [.ref 195, .int 7, _, _] [] _ _
          have hq : Q (if x = y then 1 else 0) σ := hq
          refine r_il1 zi_223_0 rfl ?_
          refine r_push zi_223_1 rfl ?_
          refine r_ic1 zi_223_2 rfl (fun _ => ?_) (fun c => absurd c (by decide))
          refine r_il1 zi_223_9 rfl ?_
          refine r_push zi_223_10 rfl ?_
          refine r_ic1 zi_223_11 rfl (fun _ => ?_) (fun c => absurd c (by decide))
          refine r_il1 zi_223_18 rfl ?_
          refine r_push zi_223_19 rfl ?_
          refine r_ic1 zi_223_20 rfl (fun _ => ?_) (fun c => absurd c (by decide))
          refine r_il1 zi_223_27 rfl ?_
          refine r_push zi_223_28 rfl ?_
          refine r_ic1 zi_223_29 rfl (fun _ => ?_) (fun c => absurd c (by decide))
          refine r_il1 zi_223_36 rfl ?_
          refine r_push zi_223_37 rfl ?_
          refine r_ic1 zi_223_39 rfl (fun _ => ?_) (fun c => absurd c (by decide))
          refine r_il1 zi_223_53 rfl ?_
          refine r_push zi_223_54 rfl ?_
          refine r_ic1 zi_223_56 rfl (fun c => absurd (by decide) c) (fun _ => ?_)
          refine r_il2 zi_223_59 rfl ?_
          refine r_il3 zi_223_60 rfl ?_
          refine r_ic1 zi_223_61 rfl (fun c1 => ?_) (fun c1 => ?_)
          · refine r_push zi_223_68 rfl ?_
            refine r_retI zi_223_69 rfl ?_
            first | (rw [if_pos (by grind)] at hq; exact ⟨_, rfl, hq⟩) | (rw [if_neg (by grind)] at hq; exact ⟨_, rfl, hq⟩)
          · refine r_push zi_223_64 rfl ?_
            refine r_goto zi_223_65 rfl ?_
            refine r_retI zi_223_69 rfl ?_
            first | (rw [if_pos (by grind)] at hq; exact ⟨_, rfl, hq⟩) | (rw [if_neg (by grind)] at hq; exact ⟨_, rfl, hq⟩)
        · show zk _ _ 0 [.ref 195, .int 8, _, _] [] _ _
          have hq : Q (if y < x then 1 else 0) σ := hq
          refine r_il1 zi_223_0 rfl ?_
          refine r_push zi_223_1 rfl ?_
          refine r_ic1 zi_223_2 rfl (fun _ => ?_) (fun c => absurd c (by decide))
          refine r_il1 zi_223_9 rfl ?_
          refine r_push zi_223_10 rfl ?_
          refine r_ic1 zi_223_11 rfl (fun _ => ?_) (fun c => absurd c (by decide))
          refine r_il1 zi_223_18 rfl ?_
          refine r_push zi_223_19 rfl ?_
          refine r_ic1 zi_223_20 rfl (fun _ => ?_) (fun c => absurd c (by decide))
          refine r_il1 zi_223_27 rfl ?_
          refine r_push zi_223_28 rfl ?_
          refine r_ic1 zi_223_29 rfl (fun _ => ?_) (fun c => absurd c (by decide))
          refine r_il1 zi_223_36 rfl ?_
          refine r_push zi_223_37 rfl ?_
          refine r_ic1 zi_223_39 rfl (fun _ => ?_) (fun c => absurd c (by decide))
          refine r_il1 zi_223_53 rfl ?_
          refine r_push zi_223_54 rfl ?_
          refine r_ic1 zi_223_56 rfl (fun _ => ?_) (fun c => absurd c (by decide))
          refine r_il1 zi_223_70 rfl ?_
          refine r_push zi_223_71 rfl ?_
          refine r_ic1 zi_223_73 rfl (fun c => absurd (by decide) c) (fun _ => ?_)
          refine r_il2 zi_223_76 rfl ?_
          refine r_il3 zi_223_77 rfl ?_
          refine r_ic5 zi_223_78 rfl (fun c1 => ?_) (fun c1 => ?_)
          · refine r_push zi_223_85 rfl ?_
            refine r_retI zi_223_86 rfl ?_
            first | (rw [if_pos (by grind)] at hq; exact ⟨_, rfl, hq⟩) | (rw [if_neg (by grind)] at hq; exact ⟨_, rfl, hq⟩)
          · refine r_push zi_223_81 rfl ?_
            refine r_goto zi_223_82 rfl ?_
            refine r_retI zi_223_86 rfl ?_
            first | (rw [if_pos (by grind)] at hq; exact ⟨_, rfl, hq⟩) | (rw [if_neg (by grind)] at hq; exact ⟨_, rfl, hq⟩)
      · split at hz
        · rename_i h
          rcases h with e | e <;> subst e
          · show zk _ _ 0 [.ref 195, .int 10, _, _] [] _ _
            refine r_il1 zi_223_0 rfl ?_
            refine r_push zi_223_1 rfl ?_
            refine r_ic1 zi_223_2 rfl (fun _ => ?_) (fun c => absurd c (by decide))
            refine r_il1 zi_223_9 rfl ?_
            refine r_push zi_223_10 rfl ?_
            refine r_ic1 zi_223_11 rfl (fun _ => ?_) (fun c => absurd c (by decide))
            refine r_il1 zi_223_18 rfl ?_
            refine r_push zi_223_19 rfl ?_
            refine r_ic1 zi_223_20 rfl (fun _ => ?_) (fun c => absurd c (by decide))
            refine r_il1 zi_223_27 rfl ?_
            refine r_push zi_223_28 rfl ?_
            refine r_ic1 zi_223_29 rfl (fun _ => ?_) (fun c => absurd c (by decide))
            refine r_il1 zi_223_36 rfl ?_
            refine r_push zi_223_37 rfl ?_
            refine r_ic1 zi_223_39 rfl (fun _ => ?_) (fun c => absurd c (by decide))
            refine r_il1 zi_223_53 rfl ?_
            refine r_push zi_223_54 rfl ?_
            refine r_ic1 zi_223_56 rfl (fun _ => ?_) (fun c => absurd c (by decide))
            refine r_il1 zi_223_70 rfl ?_
            refine r_push zi_223_71 rfl ?_
            refine r_ic1 zi_223_73 rfl (fun _ => ?_) (fun c => absurd c (by decide))
            refine r_il1 zi_223_87 rfl ?_
            refine r_push zi_223_88 rfl ?_
            refine r_ic1 zi_223_90 rfl (fun c => absurd (by decide) c) (fun _ => ?_)
            refine r_il2 zi_223_93 rfl ?_
            refine r_il3 zi_223_94 rfl ?_
            refine r_b2 zi_223_95 rfl ?_
            refine r_goto zi_223_96 rfl ?_
            refine r_retI zi_223_110 rfl ?_
            exact ⟨_, rfl, hq⟩
          · show zk _ _ 0 [.ref 195, .int 11, _, _] [] _ _
            have hq : Q (if 0 < x + y then 1 else 0) σ := hq
            refine r_il1 zi_223_0 rfl ?_
            refine r_push zi_223_1 rfl ?_
            refine r_ic1 zi_223_2 rfl (fun _ => ?_) (fun c => absurd c (by decide))
            refine r_il1 zi_223_9 rfl ?_
            refine r_push zi_223_10 rfl ?_
            refine r_ic1 zi_223_11 rfl (fun _ => ?_) (fun c => absurd c (by decide))
            refine r_il1 zi_223_18 rfl ?_
            refine r_push zi_223_19 rfl ?_
            refine r_ic1 zi_223_20 rfl (fun _ => ?_) (fun c => absurd c (by decide))
            refine r_il1 zi_223_27 rfl ?_
            refine r_push zi_223_28 rfl ?_
            refine r_ic1 zi_223_29 rfl (fun _ => ?_) (fun c => absurd c (by decide))
            refine r_il1 zi_223_36 rfl ?_
            refine r_push zi_223_37 rfl ?_
            refine r_ic1 zi_223_39 rfl (fun _ => ?_) (fun c => absurd c (by decide))
            refine r_il1 zi_223_53 rfl ?_
            refine r_push zi_223_54 rfl ?_
            refine r_ic1 zi_223_56 rfl (fun _ => ?_) (fun c => absurd c (by decide))
            refine r_il1 zi_223_70 rfl ?_
            refine r_push zi_223_71 rfl ?_
            refine r_ic1 zi_223_73 rfl (fun _ => ?_) (fun c => absurd c (by decide))
            refine r_il1 zi_223_87 rfl ?_
            refine r_push zi_223_88 rfl ?_
            refine r_ic1 zi_223_90 rfl (fun _ => ?_) (fun c => absurd c (by decide))
            refine r_il2 zi_223_99 rfl ?_
            refine r_il3 zi_223_100 rfl ?_
            refine r_b0 zi_223_101 rfl ?_
            refine r_if5 zi_223_102 rfl (fun c1 => ?_) (fun c1 => ?_)
            · refine r_push zi_223_109 rfl ?_
              refine r_retI zi_223_110 rfl ?_
              first | (rw [if_pos (by grind)] at hq; exact ⟨_, rfl, hq⟩) | (rw [if_neg (by grind)] at hq; exact ⟨_, rfl, hq⟩)
            · refine r_push zi_223_105 rfl ?_
              refine r_goto zi_223_106 rfl ?_
              refine r_retI zi_223_110 rfl ?_
              first | (rw [if_pos (by grind)] at hq; exact ⟨_, rfl, hq⟩) | (rw [if_neg (by grind)] at hq; exact ⟨_, rfl, hq⟩)
        · cases hz

