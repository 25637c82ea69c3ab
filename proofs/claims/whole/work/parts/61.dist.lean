/-! DISTANCES by roads -/
theorem zbt_iff {s : Int32} {k : Nat} (hk : k < 32) : zbt s k = (un s).testBit k := by
  unfold zbt
  by_cases h : s >>> (nI k &&& 31) &&& 1 = 1
  · rw [decide_eq_true h, (zbit hk).mp h]
  · rw [decide_eq_false h]
    cases hb : (un s).testBit k with
    | false => rfl
    | true => exact absurd ((zbit hk).mpr hb) h
theorem zor_bit (B : Nat → Int32) (s a : Int32) (b : Nat) (hb : b < 32) : ∀ n, n ≤ 32 → (zbt (zor B s a n) b = true ↔ (zbt a b = true ∨ ∃ p, p < n ∧ zbt s p = true ∧ zbt (B p) b = true)) := by
  intro n
  induction n with
  | zero =>
    intro _
    constructor
    · exact fun h => Or.inl h
    · rintro (h | ⟨p, hp, _⟩)
      · exact h
      · omega
  | succ n ih =>
    intro hn
    have ih := ih (by omega)
    by_cases hs : zbt s n = true
    · have e : zor B s a (n + 1) = zor B s a n ||| B n := if_pos hs
      have e2 : zbt (zor B s a (n + 1)) b = (zbt (zor B s a n) b || zbt (B n) b) := by
        rw [e, zbt_iff hb, zbt_iff hb, zbt_iff hb, un_or, Nat.testBit_or]
      rw [e2, Bool.or_eq_true, ih]
      constructor
      · rintro ((h | ⟨p, hp, h1, h2⟩) | h)
        · exact Or.inl h
        · exact Or.inr ⟨p, by omega, h1, h2⟩
        · exact Or.inr ⟨n, by omega, hs, h⟩
      · rintro (h | ⟨p, hp, h1, h2⟩)
        · exact Or.inl (Or.inl h)
        · by_cases hpn : p = n
          · subst hpn; exact Or.inr h2
          · exact Or.inl (Or.inr ⟨p, by omega, h1, h2⟩)
    · have e : zor B s a (n + 1) = zor B s a n := if_neg hs
      rw [e, ih]
      constructor
      · rintro (h | ⟨p, hp, h1, h2⟩)
        · exact Or.inl h
        · exact Or.inr ⟨p, by omega, h1, h2⟩
      · rintro (h | ⟨p, hp, h1, h2⟩)
        · exact Or.inl h
        · by_cases hpn : p = n
          · subst hpn; exact absurd h1 hs
          · exact Or.inr ⟨p, by omega, h1, h2⟩
/-- the places within k roads of a -/
def zrS (B : Nat → Int32) (a : Nat) : Nat → Int32
  | 0 => 1 <<< (nI a &&& 31)
  | k + 1 => zor B (zrS B a k) (zrS B a k) 12
abbrev zrb (B : Nat → Int32) (a k b : Nat) : Prop := zbt (zrS B a k) b = true
theorem zrb_0 {B : Nat → Int32} {a b : Nat} (ha : a < 32) (hb : b < 32) : zrb B a 0 b ↔ a = b := by
  show zbt (1 <<< (nI a &&& 31)) b = true ↔ _
  rw [zbt_iff hb, un_one a ha, Nat.testBit_two_pow]
  simp
theorem zrb_s {B : Nat → Int32} {a b k : Nat} (hb : b < 32) : zrb B a (k + 1) b ↔ (zrb B a k b ∨ ∃ p, p < 12 ∧ zrb B a k p ∧ zbt (B p) b = true) := zor_bit B _ _ b hb 12 (by omega)
theorem zrb_mono {B : Nat → Int32} {a b k j : Nat} (hb : b < 32) (h : zrb B a k b) (hj : k ≤ j) : zrb B a j b := by
  induction j with
  | zero => have : k = 0 := by omega
            subst this; exact h
  | succ j ih =>
    by_cases e : k = j + 1
    · subst e; exact h
    · exact (zrb_s hb).mpr (Or.inl (ih (by omega)))
def zBok (B : Nat → Int32) : Prop := (∀ p, p < 12 → un (B p) < 4096) ∧ ∀ a b, a < 12 → b < 12 → zbt (B a) b = zbt (B b) a
theorem zrS_lt {B : Nat → Int32} (hB : zBok B) {a : Nat} (ha : a < 12) : ∀ k, un (zrS B a k) < 4096
  | 0 => by
    show un (1 <<< (nI a &&& 31)) < 4096
    rw [un_one a (by omega)]
    exact (Nat.pow_lt_pow_iff_right (a := 2) (m := 12) (by omega)).mpr ha
  | k + 1 => zor_lt hB.1 (zrS_lt hB ha k) 12 (by omega)
theorem zrb_lt {B : Nat → Int32} (hB : zBok B) {a b k : Nat} (ha : a < 12) (hb : b < 32) (h : zrb B a k b) : b < 12 := by
  have h1 := zrS_lt hB ha k
  rw [zrb, zbt_iff hb] at h
  have h2 := Nat.ge_two_pow_of_testBit h
  have : 2 ^ b < 2 ^ 12 := by omega
  exact (Nat.pow_lt_pow_iff_right (by omega)).mp this
theorem zrS_stop {B : Nat → Int32} {a k : Nat} (h : zrS B a (k + 1) = zrS B a k) : ∀ j, k ≤ j → zrS B a j = zrS B a k := by
  intro j
  induction j with
  | zero => intro hj; have : k = 0 := by omega
            subst this; rfl
  | succ j ih =>
    intro hj
    by_cases e : k = j + 1
    · subst e; rfl
    · have := ih (by omega)
      show zor B (zrS B a j) (zrS B a j) 12 = _
      rw [this]; exact h
theorem zrS_grow {B : Nat → Int32} {a : Nat} : ∀ k, (∃ j, j < k ∧ zrS B a (j + 1) = zrS B a j) ∨ k + zpop (zrS B a 0) ≤ zpop (zrS B a k) := by
  intro k
  induction k with
  | zero => right; omega
  | succ k ih =>
    rcases ih with ⟨j, hj, e⟩ | h
    · exact Or.inl ⟨j, by omega, e⟩
    · by_cases e : zrS B a (k + 1) = zrS B a k
      · exact Or.inl ⟨k, by omega, e⟩
      · right
        have e' : zor B (zrS B a k) (zrS B a k) 12 ≠ zrS B a k := e
        have : zpop (zrS B a k) < zpop (zor B (zrS B a k) (zrS B a k) 12) := by
          rw [zor_out] at e' ⊢; exact zpop_or e'
        show _ ≤ zpop (zor B (zrS B a k) (zrS B a k) 12)
        omega
theorem zrb_11 {B : Nat → Int32} (hB : zBok B) {a b k : Nat} (ha : a < 12) (hb : b < 32) (h : zrb B a k b) : zrb B a 11 b := by
  by_cases hk : k ≤ 11
  · exact zrb_mono hb h hk
  · have h0 : 1 ≤ zpop (zrS B a 0) := zpop_pos (by
      intro z
      have : un (zrS B a 0) = 2 ^ a := un_one a (by omega)
      rw [z] at this
      have h2 : 0 < 2 ^ a := Nat.two_pow_pos a
      rw [← this] at h2
      exact absurd h2 (by decide))
    rcases zrS_grow (B := B) (a := a) 12 with ⟨j, hj, e⟩ | h1
    · have e1 := zrS_stop e k (by omega)
      have e2 := zrS_stop e 11 (by omega)
      unfold zrb at h ⊢
      rw [e2, ← e1]; exact h
    · have := zpop_12 (zrS_lt hB ha 12)
      omega
/-- how far b is from a; 12: no way -/
def zdF (P : Nat → Bool) : Nat → Nat → Nat
  | 0, k => k
  | m + 1, k => if P k then k else zdF P m (k + 1)
theorem zdF_spec {P : Nat → Bool} : ∀ m k, (zdF P m k ≤ k + m) ∧ k ≤ zdF P m k ∧ (zdF P m k < k + m → P (zdF P m k) = true) ∧ ∀ j, k ≤ j → j < zdF P m k → P j = false := by
  intro m
  induction m with
  | zero => intro k; simp only [zdF]; exact ⟨by omega, by omega, by omega, fun j h1 h2 => by omega⟩
  | succ m ih =>
    intro k
    simp only [zdF]
    by_cases h : P k = true
    · rw [if_pos h]; exact ⟨by omega, by omega, fun _ => h, fun j h1 h2 => by omega⟩
    · rw [if_neg h]
      obtain ⟨h1, h2, h3, h4⟩ := ih (k + 1)
      refine ⟨by omega, by omega, fun z => h3 (by omega), fun j g1 g2 => ?_⟩
      by_cases e : j = k
      · subst e; exact Bool.eq_false_iff.mpr h
      · exact h4 j (by omega) g2
def zds (B : Nat → Int32) (a b : Nat) : Nat := zdF (fun k => zbt (zrS B a k) b) 12 0
theorem zds_le {B : Nat → Int32} {a b : Nat} : zds B a b ≤ 12 := by have := (zdF_spec (P := fun k => zbt (zrS B a k) b) 12 0).1; unfold zds; omega
theorem zds_bit {B : Nat → Int32} {a b : Nat} (h : zds B a b < 12) : zrb B a (zds B a b) b := (zdF_spec (P := fun k => zbt (zrS B a k) b) 12 0).2.2.1 (by unfold zds at h; omega)
theorem zds_min {B : Nat → Int32} {a b k : Nat} (hb : b < 32) (h : zrb B a k b) (hk : k < 12) : zds B a b ≤ k := by
  have h4 := (zdF_spec (P := fun k => zbt (zrS B a k) b) 12 0).2.2.2
  by_cases hl : zds B a b ≤ k
  · exact hl
  · have := h4 k (by omega) (by unfold zds at hl; omega)
    rw [zrb] at h
    rw [h] at this
    cases this
theorem zds_iff {B : Nat → Int32} {a b k : Nat} (hb : b < 32) (hk : k < 12) : zrb B a k b ↔ zds B a b ≤ k := by
  constructor
  · exact fun h => zds_min hb h hk
  · exact fun h => zrb_mono hb (zds_bit (by omega)) h
/-- within k roads, the first one first -/
theorem zrb_front {B : Nat → Int32} (hB : zBok B) : ∀ (k a b : Nat), a < 12 → b < 12 → (zrb B a (k + 1) b ↔ (zrb B a k b ∨ ∃ p, p < 12 ∧ zbt (B a) p = true ∧ zrb B p k b)) := by
  intro k
  induction k with
  | zero =>
    intro a b ha hb
    rw [zrb_s (by omega), zrb_0 (by omega) (by omega)]
    constructor
    · rintro (h | ⟨p, hp, h1, h2⟩)
      · exact Or.inl h
      · have := (zrb_0 (by omega) (by omega)).mp h1
        subst this
        exact Or.inr ⟨b, hb, h2, (zrb_0 (by omega) (by omega)).mpr rfl⟩
    · rintro (h | ⟨p, hp, h1, h2⟩)
      · exact Or.inl h
      · have := (zrb_0 (by omega) (by omega)).mp h2
        subst this
        exact Or.inr ⟨a, ha, (zrb_0 (by omega) (by omega)).mpr rfl, h1⟩
  | succ k ih =>
    intro a b ha hb
    constructor
    · intro h
      rcases (zrb_s (by omega)).mp h with h | ⟨p, hp, h1, h2⟩
      · exact Or.inl h
      · rcases (ih a p ha hp).mp h1 with h3 | ⟨q, hq, h3, h4⟩
        · exact Or.inl ((zrb_s (by omega)).mpr (Or.inr ⟨p, hp, h3, h2⟩))
        · exact Or.inr ⟨q, hq, h3, (zrb_s (by omega)).mpr (Or.inr ⟨p, hp, h4, h2⟩)⟩
    · rintro (h | ⟨q, hq, h3, h4⟩)
      · exact (zrb_s (by omega)).mpr (Or.inl h)
      · rcases (zrb_s (by omega)).mp h4 with h5 | ⟨p, hp, h5, h6⟩
        · exact (zrb_s (by omega)).mpr (Or.inl ((ih a b ha hb).mpr (Or.inr ⟨q, hq, h3, h5⟩)))
        · exact (zrb_s (by omega)).mpr (Or.inr ⟨p, hp, (ih a p ha hp).mpr (Or.inr ⟨q, hq, h3, h5⟩), h6⟩)
theorem zrb_sym {B : Nat → Int32} (hB : zBok B) : ∀ (k a b : Nat), a < 12 → b < 12 → zrb B a k b → zrb B b k a := by
  intro k
  induction k with
  | zero =>
    intro a b ha hb h
    exact (zrb_0 (by omega) (by omega)).mpr ((zrb_0 (by omega) (by omega)).mp h).symm
  | succ k ih =>
    intro a b ha hb h
    rcases (zrb_s (by omega)).mp h with h | ⟨p, hp, h1, h2⟩
    · exact (zrb_s (by omega)).mpr (Or.inl (ih a b ha hb h))
    · exact (zrb_front hB k b a hb ha).mpr (Or.inr ⟨p, hp, by rw [← hB.2 p b hp hb]; exact h2, ih a p ha hp h1⟩)
theorem zds_sym {B : Nat → Int32} (hB : zBok B) {a b : Nat} (ha : a < 12) (hb : b < 12) : zds B a b = zds B b a := by
  have key : ∀ a b, a < 12 → b < 12 → zds B a b ≤ zds B b a := by
    intro a b ha hb
    by_cases h : zds B b a < 12
    · exact zds_min (by omega) (zrb_sym hB _ b a hb ha (zds_bit h)) h
    · have := zds_le (B := B) (a := a) (b := b); omega
  exact Nat.le_antisymm (key a b ha hb) (key b a hb ha)
theorem zds_0 {B : Nat → Int32} {a b : Nat} (ha : a < 12) (hb : b < 12) : zds B a b = 0 ↔ a = b := by
  have h1 := zrb_0 (B := B) (a := a) (b := b) (by omega) (by omega)
  have h2 := zds_iff (B := B) (a := a) (b := b) (k := 0) (by omega) (by omega)
  exact ⟨fun h => h1.mp (h2.mpr (by omega)), fun h => by have := h2.mp (h1.mpr h); omega⟩
theorem zds_1 {B : Nat → Int32} {a b : Nat} (ha : a < 12) (hb : b < 12) (hn : a ≠ b) : zds B a b = 1 ↔ zbt (B a) b = true := by
  have h0 := zds_0 (B := B) ha hb
  have h1 := zds_iff (B := B) (a := a) (b := b) (k := 1) (by omega) (by omega)
  have h2 : zrb B a 1 b ↔ zbt (B a) b = true := by
    rw [zrb_s (by omega), zrb_0 (by omega) (by omega)]
    constructor
    · rintro (h | ⟨p, hp, h3, h4⟩)
      · exact absurd h hn
      · have := (zrb_0 (by omega) (by omega)).mp h3
        subst this; exact h4
    · intro h
      exact Or.inr ⟨a, ha, (zrb_0 (by omega) (by omega)).mpr rfl, h⟩
  rw [← h2, h1]
  omega
/-- one step nearer -/
theorem zds_step {B : Nat → Int32} (hB : zBok B) {a b : Nat} (ha : a < 12) (hb : b < 12) (h0 : 0 < zds B a b) (h1 : zds B a b < 12) : ∃ p, p < 12 ∧ zbt (B a) p = true ∧ zds B p b + 1 = zds B a b := by
  have h2 := zds_bit h1
  obtain ⟨k, hk⟩ : ∃ k, zds B a b = k + 1 := ⟨zds B a b - 1, by omega⟩
  rw [hk] at h2
  rcases (zrb_front hB k a b ha hb).mp h2 with h3 | ⟨p, hp, h3, h4⟩
  · have := zds_min (by omega) h3 (by omega); omega
  · refine ⟨p, hp, h3, ?_⟩
    have h5 := zds_min (by omega) h4 (by omega)
    by_cases e : zds B p b = k
    · omega
    · have h6 : zrb B p (zds B p b) b := zds_bit (by omega)
      have h7 : zrb B a (zds B p b + 1) b := (zrb_front hB _ a b ha hb).mpr (Or.inr ⟨p, hp, h3, h6⟩)
      have := zds_min (by omega) h7 (by omega)
      omega
theorem zds_near {B : Nat → Int32} (hB : zBok B) {a b p : Nat} (ha : a < 12) (hb : b < 12) (hp : p < 12) (h : zbt (B a) p = true) (h1 : zds B p b < 12) : zds B a b ≤ zds B p b + 1 := by
  have h7 : zrb B a (zds B p b + 1) b := (zrb_front hB _ a b ha hb).mpr (Or.inr ⟨p, hp, h, zds_bit h1⟩)
  have h8 := zrb_11 hB ha (by omega) h7
  have h9 := zds_min (by omega) h8 (by omega)
  by_cases e : zds B p b + 1 < 12
  · exact zds_min (by omega) h7 e
  · omega

