/-! TEXTS: the tape cut into tokens, in the abstract -/
def tkL (c : Nat) : Bool := decide ((97 ≤ c ∧ c ≤ 122) ∨ (65 ≤ c ∧ c ≤ 90))
def tkD (c : Nat) : Bool := decide (48 ≤ c ∧ c ≤ 57)
def tkB (c : Nat) : Bool := decide (c = 32 ∨ c = 10)
def tkS (c : Nat) : Bool := decide (c = 59 ∨ (60 ≤ c ∧ c ≤ 62) ∨ (40 ≤ c ∧ c ≤ 43) ∨ c = 45 ∨ c = 47)
/-- behind what is so, from a place on -/
def tkg (P : Nat → Bool) (t : Nat → Nat) (b : Nat) : Nat → Nat → Nat
  | 0, i => i
  | f + 1, i => if i < b ∧ P (t i) = true then tkg P t b f (i + 1) else i
def tkr (P : Nat → Bool) (t : Nat → Nat) (b i : Nat) : Nat := tkg P t b (b - i) i
theorem tkr_t {P : Nat → Bool} {t : Nat → Nat} {b i : Nat} (h : i < b) (hp : P (t i) = true) : tkr P t b i = tkr P t b (i + 1) := by
  unfold tkr
  rw [show b - i = (b - (i + 1)) + 1 by omega]
  show (if i < b ∧ P (t i) = true then _ else _) = _
  rw [if_pos ⟨h, hp⟩]
theorem tkr_f {P : Nat → Bool} {t : Nat → Nat} {b i : Nat} (h : ¬ (i < b ∧ P (t i) = true)) : tkr P t b i = i := by
  unfold tkr
  cases b - i with
  | zero => rfl
  | succ f =>
    show (if i < b ∧ P (t i) = true then _ else _) = _
    rw [if_neg h]
theorem tkr_b {P : Nat → Bool} {t : Nat → Nat} {b : Nat} : ∀ m i, i + m = b → i ≤ tkr P t b i ∧ tkr P t b i ≤ b
  | 0, i, h => by rw [tkr_f (fun z => by omega)]; omega
  | m + 1, i, h => by
    by_cases c : i < b ∧ P (t i) = true
    · have ih := tkr_b (P := P) (t := t) (b := b) m (i + 1) (by omega)
      rw [tkr_t c.1 c.2]; omega
    · rw [tkr_f c]; omega
theorem tkr_le {P : Nat → Bool} {t : Nat → Nat} {b i : Nat} (h : i ≤ b) : i ≤ tkr P t b i ∧ tkr P t b i ≤ b := tkr_b (b - i) i (by omega)
theorem tkr_x {P : Nat → Bool} {t : Nat → Nat} {b : Nat} : ∀ m i, i + m = b → ¬ (tkr P t b i < b ∧ P (t (tkr P t b i)) = true)
  | 0, i, h => by rw [tkr_f (fun z => by omega)]; omega
  | m + 1, i, h => by
    by_cases c : i < b ∧ P (t i) = true
    · rw [tkr_t c.1 c.2]; exact tkr_x m (i + 1) (by omega)
    · rw [tkr_f c]; exact c
theorem tkr_e {P : Nat → Bool} {t : Nat → Nat} {b i : Nat} (h : i ≤ b) : ¬ (tkr P t b i < b ∧ P (t (tkr P t b i)) = true) := tkr_x (b - i) i (by omega)
theorem tkr_i {P : Nat → Bool} {t : Nat → Nat} {b : Nat} : ∀ m i, i + m = b → ∀ j, i ≤ j → j < tkr P t b i → P (t j) = true
  | 0, i, h, j, h1, h2 => by rw [tkr_f (fun z => by omega)] at h2; omega
  | m + 1, i, h, j, h1, h2 => by
    by_cases c : i < b ∧ P (t i) = true
    · by_cases e : j = i
      · rw [e]; exact c.2
      · rw [tkr_t c.1 c.2] at h2; exact tkr_i m (i + 1) (by omega) j (by omega) h2
    · rw [tkr_f c] at h2; omega
/-- the text's keywords -/
def tkW : List (List Nat) := [[111, 98, 101, 121, 115], [116, 105, 114, 101, 115], [103, 114, 111, 119, 115], [122, 101, 97, 108], [116, 105, 114, 101, 100], [119, 104, 97, 116], [102, 105, 114, 101], [119, 97, 108, 108], [104, 105, 103, 104], [115, 101, 97], [99, 114, 111, 119, 100], [100, 111, 110, 101], [100, 97, 121], [119, 104, 101, 110], [111, 114], [97, 110, 100], [110, 111, 116], [111, 110], [111, 114, 100, 101, 114], [109, 97, 114, 99, 104], [114, 101, 115, 116], [98, 117, 105, 108, 100], [113, 117, 101, 110, 99, 104], [115, 116, 97, 110, 100], [115, 116, 111, 112], [100, 97, 105, 108, 121], [112, 108, 97, 99, 101], [114, 111, 97, 100]]
def tkM : List (List Nat) := [[111, 98, 101, 121, 115], [116, 105, 114, 101, 115], [103, 114, 111, 119, 115], [119, 104, 101, 110], [111, 114], [97, 110, 100], [110, 111, 116], [122, 101, 97, 108], [116, 105, 114, 101, 100], [119, 104, 97, 116], [102, 105, 114, 101], [119, 97, 108, 108], [104, 105, 103, 104], [115, 101, 97], [99, 114, 111, 119, 100], [100, 111, 110, 101], [100, 97, 121], [111, 110], [111, 114, 100, 101, 114], [109, 97, 114, 99, 104], [114, 101, 115, 116], [98, 117, 105, 108, 100], [113, 117, 101, 110, 99, 104], [115, 116, 97, 110, 100], [115, 116, 111, 112], [100, 97, 105, 108, 121], [112, 108, 97, 99, 101], [114, 111, 97, 100]]
def tkC : List Nat := tkW.flatMap (fun w => w ++ [32])
theorem tkC_x : ztx = tkC.map nI := by decide +kernel
theorem tkC_l : tkC.length = 145 := by decide +kernel
def tkf (t : Nat → Nat) (e s : Nat) : List Nat → Nat → Nat → Bool → Nat
  | [], _, _, _ => 30000
  | c :: r, w, a, g => if c = 32 then (if g = true ∧ a = e then 10000 + w else tkf t e s r (w + 1) s true) else tkf t e s r w (a + 1) (g && decide (a < e ∧ t a = c))
def tkw (t : Nat → Nat) (s e : Nat) : Nat := tkf t e s tkC 0 s true
def tkl (t : Nat → Nat) (s : Nat) : Nat → List Nat
  | 0 => []
  | n + 1 => t s :: tkl t (s + 1) n
def tkx (sl : List Nat) : List (List Nat) → Nat → Nat
  | [], _ => 30000
  | w :: ws, k => if sl = w then 10000 + k else tkx sl ws (k + 1)
theorem tkf_f {t : Nat → Nat} {e s k : Nat} {r : List Nat} : ∀ (w : List Nat) (a : Nat), (∀ x, x ∈ w → x ≠ 32) → tkf t e s (w ++ 32 :: r) k a false = tkf t e s r (k + 1) s true
  | [], a, _ => by
    show (if 32 = 32 then (if false = true ∧ a = e then _ else _) else _) = _
    rw [if_pos rfl, if_neg (fun z => absurd z.1 (by decide))]
  | c :: w, a, h => by
    show (if c = 32 then _ else tkf t e s (w ++ 32 :: r) k (a + 1) (false && _)) = _
    rw [if_neg (h c (List.mem_cons_self ..)), Bool.false_and]
    exact tkf_f w (a + 1) (fun x hx => h x (List.mem_cons_of_mem _ hx))
theorem tkf_w {t : Nat → Nat} {e s k : Nat} {r : List Nat} : ∀ (w : List Nat) (a : Nat), (∀ x, x ∈ w → x ≠ 32) → a ≤ e → tkf t e s (w ++ 32 :: r) k a true = if tkl t a (e - a) = w then 10000 + k else tkf t e s r (k + 1) s true
  | [], a, _, ha => by
    show (if 32 = 32 then (if true = true ∧ a = e then _ else _) else _) = _
    rw [if_pos rfl]
    by_cases c : a = e
    · rw [if_pos ⟨rfl, c⟩, show e - a = 0 by omega]; exact (if_pos rfl).symm
    · rw [if_neg (fun z => c z.2), show e - a = (e - a - 1) + 1 by omega, if_neg (by unfold tkl; exact fun z => absurd z (by simp))]
  | c :: w, a, h, ha => by
    show (if c = 32 then _ else tkf t e s (w ++ 32 :: r) k (a + 1) (true && _)) = _
    rw [if_neg (h c (List.mem_cons_self ..)), Bool.true_and]
    have hw : ∀ x, x ∈ w → x ≠ 32 := fun x hx => h x (List.mem_cons_of_mem _ hx)
    by_cases g : a < e ∧ t a = c
    · have e1 : tkl t a (e - a) = t a :: tkl t (a + 1) (e - (a + 1)) := by rw [show e - a = (e - (a + 1)) + 1 by omega]; rfl
      rw [decide_eq_true g, tkf_w w (a + 1) hw (by omega), e1]
      by_cases q : tkl t (a + 1) (e - (a + 1)) = w
      · rw [if_pos q, if_pos (by rw [q, g.2])]
      · rw [if_neg q, if_neg (fun z => q (List.cons.inj z).2)]
    · rw [decide_eq_false g, tkf_f w (a + 1) hw, if_neg (fun z => g ?_)]
      by_cases q : a < e
      · rw [show e - a = (e - (a + 1)) + 1 by omega] at z
        exact ⟨q, (List.cons.inj z).1⟩
      · rw [show e - a = 0 by omega] at z
        exact absurd z (by unfold tkl; simp)
theorem tkf_W {t : Nat → Nat} {e s : Nat} (hs : s ≤ e) : ∀ (ws : List (List Nat)) (k : Nat), (∀ w, w ∈ ws → ∀ x, x ∈ w → x ≠ 32) → tkf t e s (ws.flatMap (fun w => w ++ [32])) k s true = tkx (tkl t s (e - s)) ws k
  | [], k, _ => rfl
  | w :: ws, k, h => by
    rw [List.flatMap_cons, List.append_assoc]
    show tkf t e s (w ++ 32 :: ws.flatMap (fun w => w ++ [32])) k s true = _
    rw [tkf_w w s (h w (List.mem_cons_self ..)) hs, tkf_W hs ws (k + 1) (fun v hv => h v (List.mem_cons_of_mem _ hv))]
    rfl
theorem tkw_x {t : Nat → Nat} {e s : Nat} (hs : s ≤ e) : tkw t s e = tkx (tkl t s (e - s)) tkW 0 := tkf_W hs tkW 0 (by decide +kernel)
/-- a keyword's number, as the model counts -/
def tkm (k : Nat) : Nat := if k < 3 then k else if k < 13 then k + 4 else if k < 17 then k - 10 else k
theorem tkx_no {sl : List Nat} : ∀ (ws : List (List Nat)) (k : Nat), sl ∉ ws → tkx sl ws k = 30000
  | [], k, _ => rfl
  | w :: ws, k, h => by
    show (if sl = w then _ else _) = _
    rw [if_neg (fun z => h (by rw [z]; exact List.mem_cons_self ..))]
    exact tkx_no ws (k + 1) (fun z => h (List.mem_cons_of_mem _ z))
theorem tkx_in : ∀ w, w ∈ tkW → 10000 ≤ tkx w tkW 0 ∧ tkx w tkW 0 < 10028 ∧ tkx w tkM 0 = 10000 + tkm (tkx w tkW 0 - 10000) := by decide +kernel
theorem tkx_sub : ∀ w, w ∈ tkM → w ∈ tkW := by decide +kernel
theorem tkx_m (sl : List Nat) : (tkx sl tkW 0 = 30000 ∧ tkx sl tkM 0 = 30000) ∨ ∃ k, k < 28 ∧ tkx sl tkW 0 = 10000 + k ∧ tkx sl tkM 0 = 10000 + tkm k := by
  by_cases h : sl ∈ tkW
  · obtain ⟨h1, h2, h3⟩ := tkx_in sl h
    exact Or.inr ⟨tkx sl tkW 0 - 10000, by omega, by omega, h3⟩
  · exact Or.inl ⟨tkx_no _ _ h, tkx_no _ _ (fun z => h (tkx_sub _ z))⟩
theorem tkw_k {t : Nat → Nat} {e s : Nat} (hs : s ≤ e) : tkw t s e = 30000 ∨ ∃ k, k < 28 ∧ tkw t s e = 10000 + k := by
  rw [tkw_x hs]
  rcases tkx_m (tkl t s (e - s)) with h | ⟨k, h1, h2, _⟩
  · exact Or.inl h.1
  · exact Or.inr ⟨k, h1, h2⟩
/-- where the token that begins at a place ends; of each token where it is looked for, where it begins -/
def tke (t : Nat → Nat) (b s : Nat) : Nat := if tkL (t s) = true then tkr tkL t b (s + 1) else if tkD (t s) = true then tkr tkD t b (s + 1) else s + 1
def tkp (t : Nat → Nat) (b : Nat) : Nat → Nat
  | 0 => 0
  | k + 1 => if tkr tkB t b (tkp t b k) < b then tke t b (tkr tkB t b (tkp t b k)) else tkr tkB t b (tkp t b k)
def tks (t : Nat → Nat) (b k : Nat) : Nat := tkr tkB t b (tkp t b k)
def tkn (t : Nat → Nat) (s : Nat) : Nat → Nat
  | 0 => 0
  | n + 1 => 10 * tkn t s n + (t (s + n) - 48)
def tkc (t : Nat → Nat) (b s : Nat) : Nat := if s < b then (if tkL (t s) = true then tkw t s (tke t b s) else if tkD (t s) = true then (if 4 < tke t b s - s then 30000 else tkn t s (tke t b s - s)) else if tkS (t s) = true then 20000 + t s else 30000) else 30001
def tkk (t : Nat → Nat) (b k : Nat) : Nat := tkc t b (tks t b k)
theorem tke_b {t : Nat → Nat} {b s : Nat} (h : s < b) : s + 1 ≤ tke t b s ∧ tke t b s ≤ b := by
  unfold tke
  split
  · exact tkr_le h
  · split
    · exact tkr_le h
    · omega
theorem tkp_le {t : Nat → Nat} {b : Nat} : ∀ k, tkp t b k ≤ b
  | 0 => Nat.zero_le _
  | k + 1 => by
    have ih := (tkr_le (P := tkB) (t := t) (tkp_le (t := t) (b := b) k)).2
    unfold tkp
    split
    · rename_i h; exact (tke_b h).2
    · exact ih
theorem tks_b {t : Nat → Nat} {b k : Nat} : tkp t b k ≤ tks t b k ∧ tks t b k ≤ b := tkr_le (tkp_le k)
theorem tkp_s {t : Nat → Nat} {b k : Nat} (h : tks t b k < b) : tkp t b (k + 1) = tke t b (tks t b k) := if_pos h
theorem tkp_e {t : Nat → Nat} {b k : Nat} (h : ¬ tks t b k < b) : tkp t b (k + 1) = tks t b k := if_neg h
theorem tkp_ge {t : Nat → Nat} {b : Nat} : ∀ k, k ≤ tkp t b k ∨ tkp t b k = b
  | 0 => Or.inl (Nat.le_refl _)
  | k + 1 => by
    have ih := tkp_ge (t := t) (b := b) k
    have h1 := tks_b (t := t) (b := b) (k := k)
    by_cases h : tks t b k < b
    · have h2 := tke_b (t := t) h
      rw [tkp_s h]; omega
    · rw [tkp_e h]; omega
theorem tk_first {P : Nat → Prop} (m : Nat) (h : P m) : ∃ N, N ≤ m ∧ P N ∧ ∀ i, i < N → ¬ P i := by
  have key : ∀ m, (∀ i, i < m → ¬ P i) ∨ ∃ N, N < m ∧ P N ∧ ∀ i, i < N → ¬ P i := by
    intro m
    induction m with
    | zero => exact Or.inl (fun i hi => absurd hi (Nat.not_lt_zero i))
    | succ m ih =>
      rcases ih with ih | ⟨N, h1, h2, h3⟩
      · by_cases c : P m
        · exact Or.inr ⟨m, Nat.lt_succ_self m, c, ih⟩
        · exact Or.inl (fun i hi => by
            by_cases e : i = m
            · rw [e]; exact c
            · exact ih i (by omega))
      · exact Or.inr ⟨N, by omega, h2, h3⟩
  rcases key m with k | ⟨N, h1, h2, h3⟩
  · exact ⟨m, Nat.le_refl _, h, k⟩
  · exact ⟨N, by omega, h2, h3⟩
theorem tk_N (t : Nat → Nat) (b : Nat) : ∃ N, N ≤ b ∧ tks t b N = b ∧ ∀ i, i < N → tks t b i < b := by
  have hb : tks t b b = b := by
    have h1 := tkp_ge (t := t) (b := b) b
    have h2 := tks_b (t := t) (b := b) (k := b)
    omega
  obtain ⟨N, h1, h2, h3⟩ := tk_first (P := fun k => tks t b k = b) b hb
  refine ⟨N, h1, h2, fun i hi => ?_⟩
  have := tks_b (t := t) (b := b) (k := i)
  have := h3 i hi
  omega
/-- what kinds there are -/
theorem tkn_b {t : Nat → Nat} {s : Nat} : ∀ n, (∀ i, i < n → tkD (t (s + i)) = true) → tkn t s n < 10 ^ n
  | 0, _ => Nat.one_pos
  | n + 1, h => by
    have ih := tkn_b (t := t) (s := s) n (fun i hi => h i (by omega))
    have h9 := h n (Nat.lt_succ_self n)
    simp only [tkD, decide_eq_true_eq] at h9
    unfold tkn
    rw [Nat.pow_succ]
    omega
def tko (v : Nat) : Prop := v < 10000 ∨ (∃ k, k < 28 ∧ v = 10000 + k) ∨ (∃ c, tkS c = true ∧ v = 20000 + c) ∨ v = 30000 ∨ v = 30001
theorem tkc_o {t : Nat → Nat} {b s : Nat} : tko (tkc t b s) := by
  unfold tkc
  split
  · rename_i h
    have he := tke_b (t := t) h
    split
    · rcases tkw_k (t := t) (s := s) (e := tke t b s) (by omega) with z | ⟨k, h1, h2⟩
      · exact Or.inr (Or.inr (Or.inr (Or.inl z)))
      · exact Or.inr (Or.inl ⟨k, h1, h2⟩)
    · rename_i hL
      split
      · rename_i hD
        split
        · exact Or.inr (Or.inr (Or.inr (Or.inl rfl)))
        · rename_i h4
          refine Or.inl (Nat.lt_of_lt_of_le (tkn_b (t := t) (s := s) (tke t b s - s) (fun i hi => ?_)) (show 10 ^ (tke t b s - s) ≤ 10000 from Nat.pow_le_pow_right (n := 10) (by decide) (show tke t b s - s ≤ 4 by omega)))
          have e : tke t b s = tkr tkD t b (s + 1) := by unfold tke; rw [if_neg hL, if_pos hD]
          by_cases i0 : i = 0
          · rw [i0]; exact hD
          · exact tkr_i (P := tkD) (t := t) (b := b) (b - (s + 1)) (s + 1) (by omega) (s + i) (by omega) (by omega)
      · split
        · rename_i hS
          exact Or.inr (Or.inr (Or.inl ⟨_, hS, rfl⟩))
        · exact Or.inr (Or.inr (Or.inr (Or.inl rfl)))
  · exact Or.inr (Or.inr (Or.inr (Or.inr rfl)))
/-! frames by places -/
def Fg (P : Nat → Nat → Prop) (σ τ : zS) : Prop := ∀ a b, ¬ P a b → τ a b = σ a b
theorem Fg.rf {P : Nat → Nat → Prop} {σ : zS} : Fg P σ σ := fun _ _ _ => rfl
theorem Fg.tr {P : Nat → Nat → Prop} {σ τ υ : zS} (h1 : Fg P σ τ) (h2 : Fg P τ υ) : Fg P σ υ := fun a b h => (h2 a b h).trans (h1 a b h)
theorem Fg.sub {P R : Nat → Nat → Prop} {σ τ : zS} (h : Fg P σ τ) (hs : ∀ a b, P a b → R a b) : Fg R σ τ := fun a b hn => h a b (fun z => hn (hs a b z))
theorem Fg.put {P : Nat → Nat → Prop} {σ τ : zS} {a b : Nat} {v : Int32} (h : Fg P σ τ) (hp : P a b) : Fg P σ (up τ a b v) := fun c d hn => by
  rw [up_rd, if_neg (fun z => hn (by rw [z.1, z.2]; exact hp))]; exact h c d hn
theorem zup_n2 {σ : zS} {k i a b : Nat} {v : Int32} (h : ¬ (a = k ∧ b = i)) : up σ k i v a b = σ a b := if_neg h

