/-! CAUGHT: the sets of the class, the numbers of the model -/
def ztrp (B : Nat → Int32) (C : Int32) (p : Nat) : Bool := decide ((B p ||| 1 <<< (nI p &&& 31)) &&& (C ^^^ -1) = 0)
def ztr (B C : Nat → Int32) (g : Nat) : Int32 := 1 <<< (nI g &&& 31) ||| zset (ztrp B (C g)) 12
def zcn (B C : Nat → Int32) (g : Nat) : Int32 := C g ||| zor (ztr B C) (B g) (ztr B C g) 12
def zcf (B : Nat → Int32) : Nat → Nat → Int32
  | 0 => fun g => 1 <<< (nI g &&& 31)
  | s + 1 => zcn B (zcf B s)
theorem zcf_lt {B : Nat → Int32} : ∀ s g, g < 12 → un (zcf B s g) < 4096 := by
  have h1 : ∀ g, g < 12 → un ((1 : Int32) <<< (nI g &&& 31)) < 4096 := by
    intro g hg
    rw [un_one g (by omega)]
    exact (Nat.pow_lt_pow_iff_right (a := 2) (m := 12) (by omega)).mpr hg
  have h2 : ∀ (f : Nat → Bool), un (zset f 12) < 4096 := by
    intro f
    refine Nat.lt_pow_two_of_testBit (n := 12) _ (fun i hi => ?_)
    rw [zset_bit (by omega)]
    simp [show ¬ i < 12 by omega]
  intro s
  induction s with
  | zero => exact h1
  | succ s ih =>
    intro g hg
    have h3 : ∀ p, p < 12 → un (ztr B (zcf B s) p) < 4096 := fun p hp => by
      unfold ztr; rw [un_or]; exact Nat.or_lt_two_pow (n := 12) (h1 p hp) (h2 _)
    show un (zcf B s g ||| _) < 4096
    rw [un_or]
    exact Nat.or_lt_two_pow (n := 12) (ih g hg) (zor_lt h3 (h3 g hg) 12 (by omega))
abbrev zcb (B : Nat → Int32) (s g q : Nat) : Prop := zbt (zcf B s g) q = true
theorem zcb_g {B : Nat → Int32} {g : Nat} (hg : g < 12) : ∀ s, zcb B s g g
  | 0 => by show zbt (1 <<< (nI g &&& 31)) g = true; rw [zbt_one (by omega) (by omega)]; simp
  | s + 1 => by
    show zbt (zcf B s g ||| _) g = true
    rw [zbt_or (by omega), zcb_g hg s]; rfl
theorem ztr_bt {B C : Nat → Int32} {g q : Nat} (hg : g < 12) (hq : q < 12) (hC : un (C g) < 4096) (hB : un (B q) < 4096) : zbt (ztr B C g) q = true ↔ (q = g ∨ ∀ o, o < 12 → (o = q ∨ zbt (B q) o = true) → zbt (C g) o = true) := by
  unfold ztr
  rw [zbt_or (by omega), zbt_one (by omega) (by omega), zset_bt (by omega) (by omega), Bool.or_eq_true, Bool.and_eq_true]
  have key : ztrp B (C g) q = true ↔ ∀ o, o < 12 → (o = q ∨ zbt (B q) o = true) → zbt (C g) o = true := by
    unfold ztrp
    rw [decide_eq_true_eq]
    constructor
    · intro h o ho hoq
      have h1 : zbt ((B q ||| 1 <<< (nI q &&& 31)) &&& (C g ^^^ -1)) o = false := by rw [h]; exact zbt_0 (by omega)
      rw [zbt_and (by omega), zbt_or (by omega), zbt_not (by omega), zbt_one (by omega) (by omega)] at h1
      cases hc : zbt (C g) o with
      | true => rfl
      | false =>
        rw [hc] at h1
        rcases hoq with e | e
        · rw [show decide (q = o) = true from decide_eq_true e.symm] at h1; simp at h1
        · rw [e] at h1; simp at h1
    · intro h
      apply zbt_ext
      intro o ho
      rw [zbt_and ho, zbt_or ho, zbt_not ho, zbt_one (by omega) ho, zbt_0 ho]
      by_cases h12 : o < 12
      · cases hx : (zbt (B q) o || decide (q = o)) with
        | false => rfl
        | true =>
          rw [Bool.or_eq_true] at hx
          rw [h o h12 (Or.elim hx (fun z => Or.inr z) (fun z => Or.inl (of_decide_eq_true z).symm))]
          rfl
      · have e1 : zbt (B q) o = false := by
          rw [zbt_iff ho]
          exact Nat.testBit_lt_two_pow (Nat.lt_of_lt_of_le hB (by rw [show 4096 = 2 ^ 12 by rfl]; exact Nat.pow_le_pow_right (by omega) (by omega)))
        rw [e1, show decide (q = o) = false from decide_eq_false (by omega)]
        rfl
  rw [key]
  constructor
  · rintro (h | ⟨_, h⟩)
    · exact Or.inl (of_decide_eq_true h).symm
    · exact Or.inr h
  · rintro (h | h)
    · exact Or.inl (decide_eq_true h.symm)
    · exact Or.inr ⟨decide_eq_true hq, h⟩
/-- q is trapped by g when it is to go -/
def zTr (B : Nat → Int32) (s g q : Nat) : Prop := q = g ∨ ∀ o, o < 12 → (o = q ∨ zbt (B q) o = true) → zcb B s g o
theorem zcb_s {B : Nat → Int32} (hB : zBok B) {s g q : Nat} (hg : g < 12) (hq : q < 12) : zcb B (s + 1) g q ↔ (zcb B s g q ∨ ∃ p, p < 12 ∧ (p = g ∨ zbt (B g) p = true) ∧ zTr B s p q) := by
  have ht : ∀ p, p < 12 → (zbt (ztr B (zcf B s) p) q = true ↔ zTr B s p q) := fun p hp => ztr_bt hp hq (zcf_lt s p hp) (hB.1 q hq)
  show zbt (zcf B s g ||| _) q = true ↔ _
  rw [zbt_or (by omega), Bool.or_eq_true, zor_bit _ _ _ _ (by omega) 12 (by omega), ht g hg]
  constructor
  · rintro (h | h | ⟨p, hp, h1, h2⟩)
    · exact Or.inl h
    · exact Or.inr ⟨g, hg, Or.inl rfl, h⟩
    · exact Or.inr ⟨p, hp, Or.inr h1, (ht p hp).mp h2⟩
  · rintro (h | ⟨p, hp, h1 | h1, h2⟩)
    · exact Or.inl h
    · subst h1; exact Or.inr (Or.inl h2)
    · exact Or.inr (Or.inr ⟨p, hp, h1, (ht p hp).mpr h2⟩)
theorem zcb_mono {B : Nat → Int32} {s t g q : Nat} (hq : q < 32) (h : zcb B s g q) (ht : s ≤ t) : zcb B t g q := by
  induction t with
  | zero => have : s = 0 := by omega
            subst this; exact h
  | succ t ih =>
    by_cases e : s = t + 1
    · subst e; exact h
    · show zbt (zcf B t g ||| _) q = true
      rw [zbt_or hq, show zbt (zcf B t g) q = true from ih (by omega)]; rfl
theorem zTr_mono {B : Nat → Int32} {s t g q : Nat} (h : zTr B s g q) (ht : s ≤ t) : zTr B t g q := h.imp id (fun h o ho hoq => zcb_mono (by omega) (h o ho hoq) ht)
theorem zcb_ne {B : Nat → Int32} (hB : zBok B) : ∀ {s g q : Nat}, g < 12 → q < 12 → g ≠ q → (zcb B (s + 1) g q ↔ ∃ p, p < 12 ∧ (p = g ∨ zbt (B g) p = true) ∧ zTr B s p q) := by
  intro s
  induction s with
  | zero =>
    intro g q hg hq hn
    rw [zcb_s hB hg hq]
    constructor
    · rintro (h | h)
      · have h' : zbt (1 <<< (nI g &&& 31)) q = true := h
        rw [zbt_one (by omega) (by omega), decide_eq_true_eq] at h'
        exact absurd h' hn
      · exact h
    · exact Or.inr
  | succ s ih =>
    intro g q hg hq hn
    rw [zcb_s hB hg hq]
    constructor
    · rintro (h | h)
      · obtain ⟨p, hp, h1, h2⟩ := (ih hg hq hn).mp h
        exact ⟨p, hp, h1, zTr_mono h2 (by omega)⟩
      · exact h
    · exact Or.inr
/-- the model's numbers -/
def zlm (B : Nat → Int32) (V : Nat → Nat → Nat) (g q : Nat) : Nat → Nat
  | 0 => 0
  | n + 1 => if (n = q ∨ zbt (B q) n = true) ∧ ¬ n = g then max (zlm B V g q n) (V g n) else zlm B V g q n
def zsn (B : Nat → Int32) (V : Nat → Nat → Nat) (p q : Nat) : Nat → Nat
  | 0 => 100000000
  | n + 1 => if n = p ∨ zbt (B p) n = true then min (zsn B V p q n) (if n = q then 1 else min 100000000 (zlm B V n q 12 + 1)) else zsn B V p q n
theorem zlm_le {B : Nat → Int32} {V : Nat → Nat → Nat} {g q s : Nat} : ∀ n, zlm B V g q n ≤ s ↔ ∀ o, o < n → (o = q ∨ zbt (B q) o = true) → o ≠ g → V g o ≤ s := by
  intro n
  induction n with
  | zero => exact ⟨fun _ o ho => by omega, fun _ => Nat.zero_le _⟩
  | succ n ih =>
    unfold zlm
    by_cases h : (n = q ∨ zbt (B q) n = true) ∧ ¬ n = g
    · rw [if_pos h, Nat.max_le, ih]
      constructor
      · rintro ⟨h1, h2⟩ o ho h3 h4
        by_cases e : o = n
        · subst e; exact h2
        · exact h1 o (by omega) h3 h4
      · exact fun h1 => ⟨fun o ho => h1 o (by omega), h1 n (by omega) h.1 h.2⟩
    · rw [if_neg h, ih]
      constructor
      · intro h1 o ho h3 h4
        by_cases e : o = n
        · subst e; exact absurd ⟨h3, h4⟩ h
        · exact h1 o (by omega) h3 h4
      · exact fun h1 o ho => h1 o (by omega)
theorem zlm_or {B : Nat → Int32} {V : Nat → Nat → Nat} {g q N : Nat} (h : ∀ o, o < 12 → V g o ≤ N ∨ V g o = 100000000) (hN : N ≤ 1000) : ∀ n, n ≤ 12 → zlm B V g q n ≤ N ∨ zlm B V g q n = 100000000 := by
  intro n
  induction n with
  | zero => exact fun _ => Or.inl (Nat.zero_le _)
  | succ n ih =>
    intro hn
    unfold zlm
    split
    · have := ih (by omega); have := h n (by omega); omega
    · exact ih (by omega)
theorem zsn_le {B : Nat → Int32} {V : Nat → Nat → Nat} {p q s : Nat} (hs : s + 1 < 100000000) : ∀ n, zsn B V p q n ≤ s + 1 ↔ ∃ g, g < n ∧ (g = p ∨ zbt (B p) g = true) ∧ (g = q ∨ zlm B V g q 12 ≤ s) := by
  intro n
  induction n with
  | zero => exact ⟨fun h => by unfold zsn at h; omega, fun ⟨g, hg, _⟩ => by omega⟩
  | succ n ih =>
    unfold zsn
    by_cases h : n = p ∨ zbt (B p) n = true
    · rw [if_pos h]
      have e : min (zsn B V p q n) (if n = q then 1 else min 100000000 (zlm B V n q 12 + 1)) ≤ s + 1 ↔ (zsn B V p q n ≤ s + 1 ∨ (n = q ∨ zlm B V n q 12 ≤ s)) := by
        by_cases hq : n = q
        · rw [if_pos hq]; simp only [hq, true_or, or_true, iff_true]; omega
        · rw [if_neg hq]; simp only [hq, false_or]; omega
      rw [e, ih]
      constructor
      · rintro (⟨g, hg, h1, h2⟩ | h2)
        · exact ⟨g, by omega, h1, h2⟩
        · exact ⟨n, by omega, h, h2⟩
      · rintro ⟨g, hg, h1, h2⟩
        by_cases e : g = n
        · subst e; exact Or.inr h2
        · exact Or.inl ⟨g, by omega, h1, h2⟩
    · rw [if_neg h, ih]
      constructor
      · rintro ⟨g, hg, h1, h2⟩; exact ⟨g, by omega, h1, h2⟩
      · rintro ⟨g, hg, h1, h2⟩
        by_cases e : g = n
        · subst e; exact absurd h1 h
        · exact ⟨g, by omega, h1, h2⟩
theorem zsn_or {B : Nat → Int32} {V : Nat → Nat → Nat} {p q N : Nat} (h : ∀ g o, g < 12 → o < 12 → V g o ≤ N ∨ V g o = 100000000) (hN : N ≤ 1000) : ∀ n, n ≤ 12 → (1 ≤ zsn B V p q n ∧ zsn B V p q n ≤ N + 1) ∨ zsn B V p q n = 100000000 := by
  intro n
  induction n with
  | zero => exact fun _ => Or.inr rfl
  | succ n ih =>
    intro hn
    unfold zsn
    split
    · have h1 := ih (by omega)
      have h2 := zlm_or (B := B) (q := q) (fun o ho => h n o (by omega) ho) hN 12 (by omega)
      split <;> omega
    · exact ih (by omega)
def zvn (B : Nat → Int32) (V : Nat → Nat → Nat) (p q : Nat) : Nat := if p = q then 0 else zsn B V p q 12
def zvs (B : Nat → Int32) : Nat → Nat → Nat → Nat
  | 0 => fun p q => if p = q then 0 else 100000000
  | n + 1 => zvn B (zvs B n)
theorem zvs_inv {B : Nat → Int32} (hB : zBok B) : ∀ n, n ≤ 1000 → ∀ p q, p < 12 → q < 12 → (∀ s, s ≤ n → (zvs B n p q ≤ s ↔ zcb B s p q)) ∧ (zvs B n p q ≤ n ∨ zvs B n p q = 100000000) := by
  intro n
  induction n with
  | zero =>
    intro _ p q hp hq
    have e : zvs B 0 p q = if p = q then 0 else 100000000 := rfl
    have h0 : zcb B 0 p q ↔ p = q := by
      show zbt (1 <<< (nI p &&& 31)) q = true ↔ _
      rw [zbt_one (by omega) (by omega), decide_eq_true_eq]
    rw [e]
    refine ⟨fun s hs => ?_, by split <;> omega⟩
    have : s = 0 := by omega
    subst this
    rw [h0]
    by_cases h : p = q
    · rw [if_pos h]; simp [h]
    · rw [if_neg h]; simp [h]
  | succ n ih =>
    intro hn p q hp hq
    have ih := ih (by omega)
    have e : zvs B (n + 1) p q = if p = q then 0 else zsn B (zvs B n) p q 12 := rfl
    rw [e]
    by_cases h : p = q
    · subst h
      rw [if_pos rfl]
      exact ⟨fun s _ => ⟨fun _ => zcb_g hp s, fun _ => Nat.zero_le _⟩, Or.inl (by omega)⟩
    · rw [if_neg h]
      have ho := zsn_or (B := B) (p := p) (q := q) (N := n) (fun g o hg ho => (ih g o hg ho).2) (by omega) 12 (by omega)
      refine ⟨fun s hs => ?_, by omega⟩
      match s, hs with
      | 0, _ =>
        have h0 : ¬ zcb B 0 p q := by
          show ¬ zbt (1 <<< (nI p &&& 31)) q = true
          rw [zbt_one (by omega) (by omega), decide_eq_true_eq]; exact h
        exact ⟨fun z => by omega, fun z => absurd z h0⟩
      | s + 1, hs =>
        rw [zsn_le (by omega), zcb_ne hB hp hq h]
        have ht : ∀ g, g < 12 → ((g = q ∨ zlm B (zvs B n) g q 12 ≤ s) ↔ zTr B s g q) := by
          intro g hg
          rw [zlm_le]
          constructor
          · rintro (h1 | h1)
            · exact Or.inl h1.symm
            · right
              intro o ho hoq
              by_cases hog : o = g
              · subst hog; exact zcb_g hg s
              · exact ((ih g o hg ho).1 s (by omega)).mp (h1 o ho hoq hog)
          · rintro (h1 | h1)
            · exact Or.inl h1.symm
            · exact Or.inr (fun o ho hoq _ => ((ih g o hg ho).1 s (by omega)).mpr (h1 o ho hoq))
        constructor
        · rintro ⟨g, hg, h1, h2⟩; exact ⟨g, hg, h1, (ht g hg).mp h2⟩
        · rintro ⟨g, hg, h1, h2⟩; exact ⟨g, hg, h1, (ht g hg).mpr h2⟩
/-- when nothing more comes -/
def zsum (f : Nat → Nat) : Nat → Nat
  | 0 => 0
  | n + 1 => zsum f n + f n
theorem zsum_le {f g : Nat → Nat} : ∀ n, (∀ k, k < n → f k ≤ g k) → zsum f n ≤ zsum g n
  | 0, _ => Nat.le_refl _
  | n + 1, h => Nat.add_le_add (zsum_le n (fun k hk => h k (by omega))) (h n (by omega))
theorem zsum_lt {f g : Nat → Nat} : ∀ n, (∀ k, k < n → f k ≤ g k) → (∃ k, k < n ∧ f k < g k) → zsum f n < zsum g n
  | 0, _, ⟨k, hk, _⟩ => by omega
  | n + 1, h, ⟨k, hk, hl⟩ => by
    have h1 := h n (by omega)
    show zsum f n + f n < zsum g n + g n
    by_cases e : k = n
    · subst e; have := zsum_le (f := f) (g := g) k (fun j hj => h j (by omega)); omega
    · have := zsum_lt (f := f) (g := g) n (fun j hj => h j (by omega)) ⟨k, by omega, hl⟩; omega
theorem zsum_c (c : Nat) {f : Nat → Nat} : ∀ n, (∀ k, k < n → f k ≤ c) → zsum f n ≤ n * c
  | 0, _ => Nat.zero_le _
  | n + 1, h => by
    have := zsum_c c (f := f) n (fun k hk => h k (by omega))
    have := h n (by omega)
    show zsum f n + f n ≤ (n + 1) * c
    rw [Nat.succ_mul]; omega
def zfx (B : Nat → Int32) (n : Nat) : Prop := ∀ g, g < 12 → zcf B (n + 1) g = zcf B n g
theorem zcf_grow {B : Nat → Int32} {n : Nat} (h : ¬ zfx B n) : zsum (fun g => zpop (zcf B n g)) 12 < zsum (fun g => zpop (zcf B (n + 1) g)) 12 := by
  have h1 : ∃ g, g < 12 ∧ zcf B (n + 1) g ≠ zcf B n g := Classical.byContradiction (fun z => h (fun g hg => Classical.byContradiction (fun w => z ⟨g, hg, w⟩)))
  have hle : ∀ s x : Int32, zpop s ≤ zpop (s ||| x) := fun s x => by
    by_cases e : s ||| x = s
    · rw [e]; exact Nat.le_refl _
    · exact Nat.le_of_lt (zpop_or e)
  refine zsum_lt 12 (fun k hk => hle _ _) ?_
  obtain ⟨g, hg, hne⟩ := h1
  exact ⟨g, hg, zpop_or hne⟩
theorem zfx_ex (B : Nat → Int32) : ∃ N, N ≤ 144 ∧ zfx B N ∧ ∀ n, n < N → ¬ zfx B n := by
  have key : ∀ k, (∀ n, n < k → ¬ zfx B n) → k ≤ zsum (fun g => zpop (zcf B k g)) 12 := by
    intro k
    induction k with
    | zero => exact fun _ => Nat.zero_le _
    | succ k ih =>
      intro h
      have h1 := ih (fun n hn => h n (by omega))
      have h2 := zcf_grow (h k (by omega))
      omega
  have hex : ∃ n, zfx B n ∧ n ≤ 144 := Classical.byContradiction (fun z => by
    have h1 := key 145 (fun n hn h => z ⟨n, h, by omega⟩)
    have h2 := zsum_c 12 (f := fun g => zpop (zcf B 145 g)) 12 (fun k hk => zpop_12 (zcf_lt 145 k hk))
    omega)
  obtain ⟨N, h1, h2⟩ := pk_least (fun n => zfx B n ∧ n ≤ 144) hex
  exact ⟨N, h1.2, h1.1, fun n hn h => h2 n hn ⟨h, by omega⟩⟩
theorem zvs_fx {B : Nat → Int32} (hB : zBok B) {n : Nat} (hn : n ≤ 900) : zfx B n ↔ ∀ p q, p < 12 → q < 12 → zvs B (n + 1) p q = zvs B n p q := by
  constructor
  · intro h p q hp hq
    have h1 := zvs_inv hB n (by omega) p q hp hq
    have h2 := zvs_inv hB (n + 1) (by omega) p q hp hq
    have e : zcb B (n + 1) p q ↔ zcb B n p q := by unfold zcb; rw [h p hp]
    by_cases hl : zvs B n p q ≤ n
    · have a1 := (h1.1 _ hl).mp (Nat.le_refl _)
      have a2 := (h2.1 _ (by omega)).mpr a1
      have a3 := (h2.1 _ (show zvs B (n + 1) p q ≤ n + 1 by omega)).mp (Nat.le_refl _)
      have a4 := (h1.1 _ (by omega)).mpr a3
      omega
    · have a1 : ¬ zcb B n p q := fun z => hl ((h1.1 n (by omega)).mpr z)
      have a2 : ¬ zvs B (n + 1) p q ≤ n + 1 := fun z => a1 (e.mp ((h2.1 (n + 1) (by omega)).mp z))
      omega
  · intro h g hg
    apply zbt_ext
    intro q hq
    by_cases hq12 : q < 12
    · have h1 := zvs_inv hB n (by omega) g q hg hq12
      have h2 := zvs_inv hB (n + 1) (by omega) g q hg hq12
      have e := h g q hg hq12
      have a1 : zcb B (n + 1) g q ↔ zcb B n g q := by
        rw [← h1.1 n (by omega), ← h2.1 (n + 1) (by omega), e]; omega
      unfold zcb at a1
      cases hx : zbt (zcf B n g) q with
      | true => exact a1.mpr hx
      | false =>
        cases hy : zbt (zcf B (n + 1) g) q with
        | false => rfl
        | true => rw [a1.mp hy] at hx; cases hx
    · have b : ∀ s, zbt (zcf B s g) q = false := fun s => by
        rw [zbt_iff hq]
        exact Nat.testBit_lt_two_pow (Nat.lt_of_lt_of_le (zcf_lt s g hg) (by rw [show 4096 = 2 ^ 12 by rfl]; exact Nat.pow_le_pow_right (by omega) (by omega)))
      rw [b, b]

