/-! SAID, numbers -/
def ztnF : Nat → Nat → Nat → Nat
  | 0, _, v => v
  | f + 1, l, v => if l = 0 then v else ztnF f (l / 10) (v * 10 + l % 10)
def ztn (v : Nat) : Nat := ztnF 3 v 0
theorem ztn_lt : ∀ v, v < 1000 → ztn v < 1000 := by decide +kernel
def zto (v k : Nat) : Nat := match k with
  | 0 => v * 2 % 1000
  | 1 => (v + 1) % 1000
  | 2 => v - 3
  | 3 => ztn v
  | _ => v / 2
theorem zto_lt {v k : Nat} (hv : v < 1000) : zto v k < 1000 := by
  unfold zto
  split
  · omega
  · omega
  · omega
  · exact ztn_lt v hv
  · omega
/-- how many ways lead on -/
def zcw (S : Nat → Nat) (wd : Int32) (w u : Nat) (n : Nat) : Nat := zsum (fun k => if zbt wd k = true ∧ zto w k = u then S w else 0) n
def zSw (wd : Int32) (x : Nat) : Nat → Nat → Nat
  | 0 => fun v => if v = x then 1 else 0
  | n + 1 => fun u => zsum (fun w => zcw (zSw wd x n) wd w u 5) 1000
theorem zsum_swap (f : Nat → Nat → Nat) (m : Nat) : ∀ n, zsum (fun i => zsum (fun j => f i j) m) n = zsum (fun j => zsum (fun i => f i j) n) m
  | 0 => by
    show 0 = zsum (fun _ => 0) m
    have := zsum_mul 0 (fun _ => 0) m
    simp only [Nat.zero_mul] at this
    exact this.symm
  | n + 1 => by
    show zsum (fun i => zsum (fun j => f i j) m) n + zsum (fun j => f n j) m = zsum (fun j => zsum (fun i => f i j) n + f n j) m
    rw [zsum_swap f m n]
    have : ∀ (a b : Nat → Nat) k, zsum a k + zsum b k = zsum (fun j => a j + b j) k := by
      intro a b k
      induction k with
      | zero => rfl
      | succ k ih =>
        show zsum a k + a k + (zsum b k + b k) = zsum (fun j => a j + b j) k + (a k + b k)
        rw [← ih]; omega
    exact this _ _ m
theorem zsum_one (t c : Nat) : ∀ n, zsum (fun u => if t = u then c else 0) n ≤ c
  | 0 => Nat.zero_le _
  | n + 1 => by
    show zsum (fun u => if t = u then c else 0) n + (if t = n then c else 0) ≤ c
    by_cases h : t = n
    · rw [if_pos h]
      have : zsum (fun u => if t = u then c else 0) n = zsum (fun _ => 0) n := zsum_congr n (fun k hk => if_neg (by omega))
      have h2 := zsum_mul 0 (fun _ => 0) n
      simp only [Nat.zero_mul] at h2
      rw [this, h2]; omega
    · rw [if_neg h]; exact zsum_one t c n
theorem zSw_total (wd : Int32) (x : Nat) : ∀ n, zsum (zSw wd x n) 1000 ≤ 5 ^ n
  | 0 => by
    have := zsum_one x 1 1000
    have e : zsum (zSw wd x 0) 1000 = zsum (fun u => if x = u then 1 else 0) 1000 := zsum_congr 1000 (fun k hk => by
      show (if k = x then 1 else 0) = (if x = k then 1 else 0)
      by_cases h : k = x
      · rw [if_pos h, if_pos h.symm]
      · rw [if_neg h, if_neg (fun z => h z.symm)])
    rw [e]; exact this
  | n + 1 => by
    have ih := zSw_total wd x n
    show zsum (fun u => zsum (fun w => zcw (zSw wd x n) wd w u 5) 1000) 1000 ≤ _
    rw [zsum_swap (fun u w => zcw (zSw wd x n) wd w u 5)]
    have h1 : ∀ w, zsum (fun u => zcw (zSw wd x n) wd w u 5) 1000 ≤ 5 * zSw wd x n w := by
      intro w
      unfold zcw
      rw [zsum_swap (fun u k => if zbt wd k = true ∧ zto w k = u then zSw wd x n w else 0)]
      refine zsum_c _ 5 (fun k hk => ?_)
      refine Nat.le_trans (zsum_le 1000 (g := fun u => if zto w k = u then zSw wd x n w else 0) (fun u hu => ?_)) (zsum_one _ _ 1000)
      by_cases h : zbt wd k = true ∧ zto w k = u
      · rw [if_pos h, if_pos h.2]; exact Nat.le_refl _
      · rw [if_neg h]; exact Nat.zero_le _
    refine Nat.le_trans (zsum_le 1000 (fun w _ => h1 w)) ?_
    rw [zsum_mul, Nat.pow_succ]
    omega
theorem zsum_mem {f : Nat → Nat} : ∀ n k, k < n → f k ≤ zsum f n
  | n + 1, k, h => by
    show f k ≤ zsum f n + f n
    by_cases e : k = n
    · subst e; omega
    · have := zsum_mem (f := f) n k (by omega); omega
theorem zsum_pos {f : Nat → Nat} : ∀ n, 0 < zsum f n → ∃ k, k < n ∧ 0 < f k
  | 0, h => by cases h
  | n + 1, h => by
    have h' : 0 < zsum f n + f n := h
    by_cases e : 0 < f n
    · exact ⟨n, by omega, e⟩
    · obtain ⟨k, hk, h2⟩ := zsum_pos n (show 0 < zsum f n by omega)
      exact ⟨k, by omega, h2⟩
theorem zSw_le (wd : Int32) (x n v : Nat) (hv : v < 1000) (hn : n ≤ 8) : zSw wd x n v ≤ 390625 := by
  have h1 := zsum_mem (f := zSw wd x n) 1000 v hv
  have h2 := zSw_total wd x n
  have h3 : 5 ^ n ≤ 5 ^ 8 := Nat.pow_le_pow_right (by omega) hn
  have h4 : (5 : Nat) ^ 8 = 390625 := by decide
  omega
/-- v is first reached behind n words -/
def zdl (wd : Int32) (x n v : Nat) : Prop := 0 < zSw wd x n v ∧ ∀ j, j < n → zSw wd x j v = 0
theorem zSw_step {wd : Int32} {x n w k : Nat} (hw : w < 1000) (hk : k < 5) (hb : zbt wd k = true) (h : 0 < zSw wd x n w) : 0 < zSw wd x (n + 1) (zto w k) := by
  have h1 : zcw (zSw wd x n) wd w (zto w k) 5 ≤ zSw wd x (n + 1) (zto w k) := zsum_mem (f := fun w' => zcw (zSw wd x n) wd w' (zto w k) 5) 1000 w hw
  have h2 : (if zbt wd k = true ∧ zto w k = zto w k then zSw wd x n w else 0) ≤ zcw (zSw wd x n) wd w (zto w k) 5 := zsum_mem (f := fun k' => if zbt wd k' = true ∧ zto w k' = zto w k then zSw wd x n w else 0) 5 k hk
  rw [if_pos ⟨hb, rfl⟩] at h2
  omega
theorem zSw_back {wd : Int32} {x n u : Nat} (h : 0 < zSw wd x (n + 1) u) : ∃ w k, w < 1000 ∧ k < 5 ∧ zbt wd k = true ∧ zto w k = u ∧ 0 < zSw wd x n w := by
  obtain ⟨w, hw, h1⟩ := zsum_pos 1000 h
  obtain ⟨k, hk, h2⟩ := zsum_pos 5 h1
  by_cases e : zbt wd k = true ∧ zto w k = u
  · rw [if_pos e] at h2; exact ⟨w, k, hw, hk, e.1, e.2, h2⟩
  · rw [if_neg e] at h2; cases h2
theorem zdl_ex {wd : Int32} {x n v : Nat} (h : 0 < zSw wd x n v) : ∃ m, m ≤ n ∧ zdl wd x m v := by
  obtain ⟨m, h1, h2⟩ := pk_least (fun m => 0 < zSw wd x m v) ⟨n, h⟩
  refine ⟨m, ?_, h1, fun j hj => ?_⟩
  · by_cases e : m ≤ n
    · exact e
    · exact absurd h (h2 n (by omega))
  · have := h2 j hj; omega
theorem zdl_back {wd : Int32} {x n u : Nat} (h : zdl wd x (n + 1) u) : ∃ w k, w < 1000 ∧ k < 5 ∧ zbt wd k = true ∧ zto w k = u ∧ zdl wd x n w := by
  obtain ⟨w, k, hw, hk, hb, ht, hp⟩ := zSw_back h.1
  refine ⟨w, k, hw, hk, hb, ht, hp, fun j hj => ?_⟩
  by_cases e : 0 < zSw wd x j w
  · have := zSw_step hw hk hb e
    rw [ht, h.2 (j + 1) (by omega)] at this
    cases this
  · omega
theorem zdl_uniq {wd : Int32} {x n m v : Nat} (h : zdl wd x n v) (g : zdl wd x m v) : n = m := by
  by_cases e : n < m
  · have := g.2 n e; have := h.1; omega
  · by_cases e2 : m < n
    · have := h.2 m e2; have := g.1; omega
    · omega
/-- those of a row that are done -/
def zpr (r : Nat → Nat) : Nat → Nat → Bool
  | 0, _ => false
  | i + 1, w => zpr r i w || decide (r i = w)
theorem zpr_iff {r : Nat → Nat} {w : Nat} : ∀ i, zpr r i w = true ↔ ∃ p, p < i ∧ r p = w
  | 0 => ⟨fun h => (by cases h), fun ⟨p, hp, _⟩ => (by omega)⟩
  | i + 1 => by
    show (zpr r i w || decide (r i = w)) = true ↔ _
    rw [Bool.or_eq_true, zpr_iff i]
    constructor
    · rintro (⟨p, hp, h⟩ | h)
      · exact ⟨p, by omega, h⟩
      · exact ⟨i, by omega, of_decide_eq_true h⟩
    · rintro ⟨p, hp, h⟩
      by_cases e : p = i
      · subst e; exact Or.inr (decide_eq_true h)
      · exact Or.inl ⟨p, by omega, h⟩
/-- what those done of level n give to u -/
def zgv (wd : Int32) (x : Nat) (r F : Nat → Nat) (i n u : Nat) : Nat := zsum (fun w => if zpr r i w = true ∧ F w = n then zcw (zSw wd x n) wd w u 5 else 0) 1000
theorem zgv_ins {wd : Int32} {x i n u : Nat} {r F : Nat → Nat} (hr : r i < 1000) (hn : zpr r i (r i) = false) : zgv wd x r F (i + 1) n u = zgv wd x r F i n u + (if F (r i) = n then zcw (zSw wd x n) wd (r i) u 5 else 0) := by
  have key : ∀ m, zsum (fun w => if zpr r (i + 1) w = true ∧ F w = n then zcw (zSw wd x n) wd w u 5 else 0) m = zsum (fun w => if zpr r i w = true ∧ F w = n then zcw (zSw wd x n) wd w u 5 else 0) m + (if r i < m ∧ F (r i) = n then zcw (zSw wd x n) wd (r i) u 5 else 0) := by
    intro m
    induction m with
    | zero => rw [if_neg (by omega)]; rfl
    | succ m ih =>
      show zsum _ m + (if zpr r (i + 1) m = true ∧ F m = n then _ else 0) = zsum _ m + (if zpr r i m = true ∧ F m = n then _ else 0) + _
      rw [ih]
      have e : zpr r (i + 1) m = (zpr r i m || decide (r i = m)) := rfl
      by_cases h : r i = m
      · rw [e, ← h, hn, if_neg (show ¬ (r i < r i ∧ F (r i) = n) by omega), if_neg (show ¬ (false = true ∧ F (r i) = n) from fun z => by cases z.1)]
        by_cases hF : F (r i) = n
        · rw [if_pos ⟨by simp, hF⟩, if_pos ⟨by omega, hF⟩]
        · rw [if_neg (fun z => hF z.2), if_neg (fun z => hF z.2)]
      · rw [e, decide_eq_false h, Bool.or_false]
        by_cases hF : r i < m ∧ F (r i) = n
        · rw [if_pos hF, if_pos (show r i < m + 1 ∧ F (r i) = n from ⟨by omega, hF.2⟩)]; omega
        · rw [if_neg hF, if_neg (show ¬ (r i < m + 1 ∧ F (r i) = n) from fun z => hF ⟨by omega, z.2⟩)]; omega
  have := key 1000
  unfold zgv
  rw [this]
  by_cases hF : F (r i) = n
  · rw [if_pos ⟨hr, hF⟩, if_pos hF]
  · rw [if_neg (fun z => hF z.2), if_neg hF]
/-- the search: c found, i of them done -/
def zBF (wd : Int32) (x i c : Nat) (r F : Nat → Nat) : Prop :=
  (∀ p, p < c → r p < 1000 ∧ F (r p) ≠ 100) ∧ (∀ p q, p < c → q < c → r p = r q → p = q) ∧ (∀ v, v < 1000 → F v ≠ 100 → ∃ p, p < c ∧ r p = v) ∧ (∀ p q, p ≤ q → q < c → F (r p) ≤ F (r q)) ∧ (∀ v, v < 1000 → F v ≠ 100 → zdl wd x (F v) v ∧ F v ≤ 8) ∧ (F x = 0) ∧ (∀ p k, p < i → k < 5 → zbt wd k = true → F (zto (r p) k) ≠ 100) ∧ i ≤ c
def zBW (wd : Int32) (x : Nat) (r F W : Nat → Nat) (i : Nat) : Prop := (∀ v, v < 1000 → F v = 0 → W v = 1) ∧ ∀ v n, v < 1000 → F v = n + 1 → W v = zgv wd x r F i n v
theorem zSw_0 {wd : Int32} {x v : Nat} (h : 0 < zSw wd x 0 v) : v = x := by
  change 0 < (if v = x then 1 else 0) at h
  by_cases e : v = x
  · exact e
  · rw [if_neg e] at h; cases h
theorem zBF_lev {wd : Int32} {x i c : Nat} {r F : Nat → Nat} (h : zBF wd x i c r F) {N : Nat} (hN99 : N ≤ 99) (hN : ∀ p, i ≤ p → p < c → N ≤ F (r p)) : ∀ n v, v < 1000 → zdl wd x n v → n ≤ N → F v = n := by
  obtain ⟨h1, h2, h3, h4, h5, h6, h7, h8⟩ := h
  intro n
  induction n with
  | zero =>
    intro v hv hd _
    rw [zSw_0 hd.1]; exact h6
  | succ n ih =>
    intro v hv hd hn
    obtain ⟨w, k, hw, hk, hb, ht, hp⟩ := zdl_back hd
    have hF := ih w hw hp (by omega)
    obtain ⟨p, hp1, hp2⟩ := h3 w hw (by omega)
    have hpi : p < i := by
      by_cases e : p < i
      · exact e
      · have := hN p (by omega) hp1
        rw [hp2] at this; omega
    have h9 := h7 p k hpi hk hb
    rw [hp2, ht] at h9
    exact zdl_uniq (h5 v hv h9).1 hd
theorem zBW_val {wd : Int32} {x i c : Nat} {r F W : Nat → Nat} (h : zBF wd x i c r F) (hW : zBW wd x r F W i) {N : Nat} (hN99 : N ≤ 99) (hN : ∀ p, i ≤ p → p < c → N ≤ F (r p)) {n v : Nat} (hv : v < 1000) (hF : F v = n) (hn : n ≤ N) : W v = zSw wd x n v := by
  have hlev := zBF_lev h hN99 hN
  obtain ⟨h1, h2, h3, h4, h5, h6, h7, h8⟩ := h
  have hd := (h5 v hv (by omega)).1
  rw [hF] at hd
  match n, hF, hn, hd with
  | 0, hF, hn, hd =>
    rw [hW.1 v hv hF, zSw_0 hd.1]
    exact (if_pos rfl).symm
  | n + 1, hF, hn, hd =>
    rw [hW.2 v n hv hF]
    show zsum _ 1000 = zsum _ 1000
    refine zsum_congr 1000 (fun w hw => ?_)
    by_cases e : zpr r i w = true ∧ F w = n
    · rw [if_pos e]
    · rw [if_neg e]
      by_cases e0 : 0 < zcw (zSw wd x n) wd w v 5
      · exfalso
        obtain ⟨k, hk, h9⟩ := zsum_pos 5 e0
        by_cases e2 : zbt wd k = true ∧ zto w k = v
        · rw [if_pos e2] at h9
          have hdw : zdl wd x n w := ⟨h9, fun j hj => by
            by_cases e3 : 0 < zSw wd x j w
            · have h10 := zSw_step hw hk e2.1 e3
              rw [e2.2, hd.2 (j + 1) (by omega)] at h10
              cases h10
            · omega⟩
          have hFw := hlev n w hw hdw (by omega)
          obtain ⟨p, hp1, hp2⟩ := h3 w hw (by omega)
          refine e ⟨(zpr_iff i).mpr ⟨p, ?_, hp2⟩, hFw⟩
          by_cases e4 : p < i
          · exact e4
          · have := hN p (by omega) hp1
            rw [hp2] at this; omega
        · rw [if_neg e2] at h9; cases h9
      · omega
/-- within one that is being done: k words of it -/
def zBI (wd : Int32) (x i L c k : Nat) (r F W : Nat → Nat) : Prop := zBF wd x i c r F ∧ i < c ∧ F (r i) = L ∧ L < 8 ∧ (∀ p, p < c → F (r p) ≤ L + 1) ∧ (∀ k', k' < k → zbt wd k' = true → F (zto (r i) k') ≠ 100) ∧ (∀ v, v < 1000 → F v = 0 → W v = 1) ∧ (∀ v n, v < 1000 → F v = n + 1 → W v = zgv wd x r F i n v + (if n = L then zcw (zSw wd x L) wd (r i) v k else 0)) ∧ W (r i) = zSw wd x L (r i)
theorem zcw_s {S : Nat → Nat} {wd : Int32} {w u k : Nat} : zcw S wd w u (k + 1) = zcw S wd w u k + (if zbt wd k = true ∧ zto w k = u then S w else 0) := rfl
theorem zBI_skip {wd : Int32} {x i L c k : Nat} {r F W : Nat → Nat} (h : zBI wd x i L c k r F W) (hs : ¬ zbt wd k = true ∨ (F (zto (r i) k) ≠ 100 ∧ F (zto (r i) k) ≠ L + 1)) : zBI wd x i L c (k + 1) r F W := by
  obtain ⟨h1, h2, h3, h4, h5, h6, h7, h8, h9⟩ := h
  refine ⟨h1, h2, h3, h4, h5, fun k' hk hb => ?_, h7, fun v n hv hF => ?_, h9⟩
  · by_cases e : k' = k
    · subst e
      rcases hs with hs | hs
      · exact absurd hb hs
      · exact hs.1
    · exact h6 k' (by omega) hb
  · rw [h8 v n hv hF, zcw_s]
    by_cases e : n = L
    · rw [if_pos e, if_pos e, if_neg, Nat.add_zero]
      rintro ⟨a, b⟩
      rcases hs with hs | hs
      · exact hs a
      · rw [b] at hs; omega
    · rw [if_neg e, if_neg e]
theorem zBI_add {wd : Int32} {x i L c k : Nat} {r F W : Nat → Nat} (h : zBI wd x i L c k r F W) (hb : zbt wd k = true) (hs : F (zto (r i) k) = L + 1) : zBI wd x i L c (k + 1) r F (zpd W (zto (r i) k) (W (zto (r i) k) + W (r i))) := by
  obtain ⟨h1, h2, h3, h4, h5, h6, h7, h8, h9⟩ := h
  have hri : r i ≠ zto (r i) k := fun z => by rw [← z, h3] at hs; omega
  refine ⟨h1, h2, h3, h4, h5, fun k' hk hb' => ?_, fun v hv hF => ?_, fun v n hv hF => ?_, ?_⟩
  · by_cases e : k' = k
    · subst e; omega
    · exact h6 k' (by omega) hb'
  · unfold zpd; rw [if_neg (fun z => by rw [z] at hF; omega)]; exact h7 v hv hF
  · rw [zcw_s]
    unfold zpd
    by_cases ev : v = zto (r i) k
    · have en : n = L := by rw [ev, hs] at hF; omega
      rw [if_pos ev, if_pos en, if_pos ⟨hb, ev.symm⟩, ← ev, h8 v n hv hF, if_pos en, h9]
      omega
    · rw [if_neg ev, h8 v n hv hF, if_neg (show ¬ (zbt wd k = true ∧ zto (r i) k = v) from fun z => ev z.2.symm), Nat.add_zero]
  · unfold zpd; rw [if_neg hri]; exact h9
theorem zBI_new {wd : Int32} {x i L c k : Nat} {r F W : Nat → Nat} (h : zBI wd x i L c k r F W) (hk : k < 5) (hb : zbt wd k = true) (hs : F (zto (r i) k) = 100) : zBI wd x i L (c + 1) (k + 1) (zpd r c (zto (r i) k)) (zpd F (zto (r i) k) (L + 1)) (zpd W (zto (r i) k) (W (r i))) ∧ c < 1000 := by
  obtain ⟨⟨g1, g2, g3, g4, g5, g6, g7, g8⟩, h2, h3, h4, h5, h6, h7, h8, h9⟩ := h
  have hri := g1 i h2
  have hu : zto (r i) k < 1000 := zto_lt hri.1
  obtain ⟨u, hue⟩ : ∃ u, u = zto (r i) k := ⟨_, rfl⟩
  rw [← hue] at hs hu ⊢
  have hpu : ∀ p, p < c → r p ≠ u := fun p hp z => (g1 p hp).2 (by rw [z]; exact hs)
  have rc : ∀ p, p < c → zpd r c u p = r p := fun p hp => if_neg (by omega)
  have rcc : zpd r c u c = u := if_pos rfl
  have Fo : ∀ v, v ≠ u → zpd F u (L + 1) v = F v := fun v hv => if_neg hv
  have Fu : zpd F u (L + 1) u = L + 1 := if_pos rfl
  have hzp : ∀ i', i' ≤ c → ∀ w, zpr (zpd r c u) i' w = zpr r i' w := by
    intro i'
    induction i' with
    | zero => intro _ w; rfl
    | succ i' ih =>
      intro hi w
      show (zpr (zpd r c u) i' w || decide (zpd r c u i' = w)) = (zpr r i' w || decide (r i' = w))
      rw [ih (by omega), rc i' (by omega)]
  have hgv : ∀ n v, zgv wd x (zpd r c u) (zpd F u (L + 1)) i n v = zgv wd x r F i n v := fun n v => by
    unfold zgv
    refine zsum_congr 1000 (fun w hw => ?_)
    rw [hzp i (by omega)]
    by_cases e : zpr r i w = true
    · obtain ⟨p, hp1, hp2⟩ := (zpr_iff i).mp e
      rw [Fo w (by rw [← hp2]; exact hpu p (by omega))]
    · rw [if_neg (fun z => e z.1), if_neg (fun z => e z.1)]
  have hgu : zgv wd x r F i L u = 0 := by
    unfold zgv
    have : zsum (fun w => if zpr r i w = true ∧ F w = L then zcw (zSw wd x L) wd w u 5 else 0) 1000 = zsum (fun w => 0 * 1) 1000 := zsum_congr 1000 (fun w hw => by
      by_cases e : zpr r i w = true ∧ F w = L
      · rw [if_pos e]
        obtain ⟨p, hp1, hp2⟩ := (zpr_iff i).mp e.1
        have : zcw (zSw wd x L) wd w u 5 = zsum (fun k => 0 * 1) 5 := zsum_congr 5 (fun k' hk' => by
          rw [if_neg]
          rintro ⟨a, b⟩
          have := g7 p k' hp1 hk' a
          rw [hp2, b] at this
          exact this hs)
        rw [this, zsum_mul 0]; simp
      · rw [if_neg e])
    rw [this, zsum_mul 0]; simp
  have hcu : zcw (zSw wd x L) wd (r i) u k = 0 := by
    have : zcw (zSw wd x L) wd (r i) u k = zsum (fun k => 0 * 1) k := zsum_congr k (fun k' hk' => by
      rw [if_neg]
      rintro ⟨a, b⟩
      have := h6 k' hk' a
      rw [b] at this
      exact this hs)
    rw [this, zsum_mul 0]; simp
  have hdi := (g5 (r i) hri.1 hri.2)
  rw [h3] at hdi
  have hdu : zdl wd x (L + 1) u := by
    refine ⟨by rw [hue]; exact zSw_step hri.1 hk hb hdi.1.1, fun j hj => ?_⟩
    by_cases e : 0 < zSw wd x j u
    · exfalso
      obtain ⟨m, hm, hd⟩ := zdl_ex e
      have := zBF_lev (N := L) ⟨g1, g2, g3, g4, g5, g6, g7, g8⟩ (by omega) (fun p hp1 hp2 => by rw [← h3]; exact g4 i p hp1 hp2) m u hu hd (by omega)
      omega
    · omega
  have hc1000 : c < 1000 := by
    by_cases e : c < 1000
    · exact e
    · exfalso
      have hinj : ∀ m, m ≤ c → m ≤ zsum (fun w => if zpr r m w = true then 1 else 0) 1000 := by
        intro m
        induction m with
        | zero => intro _; exact Nat.zero_le _
        | succ m ih =>
          intro hm
          have ih := ih (by omega)
          have hlt : zsum (fun w => if zpr r m w = true then 1 else 0) 1000 < zsum (fun w => if zpr r (m + 1) w = true then 1 else 0) 1000 := by
            refine zsum_lt 1000 (fun w hw => ?_) ⟨r m, (g1 m (by omega)).1, ?_⟩
            · by_cases e1 : zpr r m w = true
              · rw [if_pos e1, if_pos (show zpr r (m + 1) w = true by show (zpr r m w || _) = true; rw [e1]; rfl)]; exact Nat.le_refl _
              · rw [if_neg e1]; exact Nat.zero_le _
            · rw [if_neg (fun z => by obtain ⟨p, hp1, hp2⟩ := (zpr_iff m).mp z; have := g2 p m (by omega) (by omega) hp2; omega), if_pos (show zpr r (m + 1) (r m) = true by show (zpr r m (r m) || decide (r m = r m)) = true; simp)]
              omega
          omega
      have h11 := hinj 1000 (by omega)
      have h12 : zsum (fun w => if zpr r 1000 w = true then 1 else 0) 1000 < zsum (fun _ => 1) 1000 := zsum_lt 1000 (fun w hw => by split <;> omega) ⟨u, hu, by
        rw [if_neg (fun z => by obtain ⟨p, hp1, hp2⟩ := (zpr_iff 1000).mp z; exact hpu p (by omega) hp2)]; omega⟩
      have h13 := zsum_c 1 (f := fun _ => 1) 1000 (fun _ _ => Nat.le_refl _)
      omega
  have hriu : r i ≠ u := hpu i h2
  refine ⟨⟨⟨fun p hp => ?_, fun p q hp hq e => ?_, fun v hv hF => ?_, fun p q hpq hq => ?_, fun v hv hF => ?_, ?_, fun p k' hp hk' hb' => ?_, by omega⟩, by omega, ?_, h4, fun p hp => ?_, fun k' hk' hb' => ?_, fun v hv hF => ?_, fun v n hv hF => ?_, ?_⟩, hc1000⟩
  · by_cases e : p = c
    · subst e; rw [rcc, Fu]; exact ⟨hu, by omega⟩
    · rw [rc p (by omega), Fo _ (hpu p (by omega))]; exact g1 p (by omega)
  · by_cases e1 : p = c
    · by_cases e2 : q = c
      · omega
      · rw [e1, rcc, rc q (by omega)] at e; exact absurd e.symm (hpu q (by omega))
    · by_cases e2 : q = c
      · rw [e2, rcc, rc p (by omega)] at e; exact absurd e (hpu p (by omega))
      · rw [rc p (by omega), rc q (by omega)] at e; exact g2 p q (by omega) (by omega) e
  · by_cases e : v = u
    · exact ⟨c, by omega, by rw [rcc, e]⟩
    · rw [Fo v e] at hF
      obtain ⟨p, hp1, hp2⟩ := g3 v hv hF
      exact ⟨p, by omega, by rw [rc p hp1]; exact hp2⟩
  · by_cases e2 : q = c
    · rw [e2, rcc, Fu]
      by_cases e1 : p = c
      · rw [e1, rcc, Fu]; exact Nat.le_refl _
      · rw [rc p (by omega), Fo _ (hpu p (by omega))]; exact h5 p (by omega)
    · rw [rc p (by omega), rc q (by omega), Fo _ (hpu p (by omega)), Fo _ (hpu q (by omega))]; exact g4 p q hpq (by omega)
  · by_cases e : v = u
    · rw [e, Fu]; exact ⟨hdu, by omega⟩
    · rw [Fo v e] at hF ⊢; exact g5 v hv hF
  · rw [Fo x (fun z => by rw [← z, g6] at hs; omega)]; exact g6
  · rw [rc p (by omega)]
    by_cases e : zto (r p) k' = u
    · rw [e, Fu]; omega
    · rw [Fo _ e]; exact g7 p k' hp hk' hb'
  · rw [rc i h2, Fo _ hriu]; exact h3
  · by_cases e : p = c
    · rw [e, rcc, Fu]; exact Nat.le_refl _
    · rw [rc p (by omega), Fo _ (hpu p (by omega))]; exact h5 p (by omega)
  · rw [rc i h2]
    by_cases e : zto (r i) k' = u
    · rw [e, Fu]; omega
    · rw [Fo _ e]
      exact h6 k' (by
        by_cases e2 : k' = k
        · subst e2; exact absurd hue.symm e
        · omega) hb'
  · by_cases e : v = u
    · rw [e, Fu] at hF; omega
    · rw [Fo v e] at hF
      unfold zpd; rw [if_neg e]; exact h7 v hv hF
  · rw [hgv, rc i h2, zcw_s]
    by_cases e : v = u
    · rw [e, Fu] at hF
      have en : n = L := by omega
      subst e
      rw [en, hgu, if_pos rfl, hcu, if_pos ⟨hb, hue.symm⟩]
      unfold zpd
      rw [if_pos rfl, h9]; omega
    · rw [Fo v e] at hF
      unfold zpd
      rw [if_neg e, h8 v n hv hF, if_neg (show ¬ (zbt wd k = true ∧ zto (r i) k = v) from fun z => e (by rw [← z.2, hue])), Nat.add_zero]
  · rw [rc i h2]
    unfold zpd
    rw [if_neg hriu]; exact h9
theorem zBI_0 {wd : Int32} {x i c : Nat} {r F W : Nat → Nat} (h : zBF wd x i c r F) (hW : zBW wd x r F W i) (hi : i < c) (h8 : F (r i) < 8) (hl : ∀ p, p < c → F (r p) ≤ F (r i) + 1) : zBI wd x i (F (r i)) c 0 r F W := by
  refine ⟨h, hi, rfl, h8, hl, fun k' hk => by omega, hW.1, fun v n hv hF => ?_, ?_⟩
  · rw [hW.2 v n hv hF, show zcw (zSw wd x (F (r i))) wd (r i) v 0 = 0 from rfl, ite_self, Nat.add_zero]
  · exact zBW_val h hW (N := F (r i)) (by omega) (fun p hp1 hp2 => h.2.2.2.1 i p hp1 hp2) (h.1 i hi).1 rfl (Nat.le_refl _)
theorem zBI_end {wd : Int32} {x i L c : Nat} {r F W : Nat → Nat} (h : zBI wd x i L c 5 r F W) : zBF wd x (i + 1) c r F ∧ zBW wd x r F W (i + 1) ∧ ∀ p, i + 1 < c → p < c → F (r p) ≤ F (r (i + 1)) + 1 := by
  obtain ⟨⟨g1, g2, g3, g4, g5, g6, g7, g8⟩, h2, h3, h4, h5, h6, h7, h8, h9⟩ := h
  refine ⟨⟨g1, g2, g3, g4, g5, g6, fun p k hp hk hb => ?_, by omega⟩, ⟨h7, fun v n hv hF => ?_⟩, fun p hi hp => ?_⟩
  · by_cases e : p = i
    · subst e; exact h6 k hk hb
    · exact g7 p k (by omega) hk hb
  · rw [h8 v n hv hF, zgv_ins (g1 i h2).1 (by
      cases hz : zpr r i (r i) with
      | false => rfl
      | true => obtain ⟨p, hp1, hp2⟩ := (zpr_iff i).mp hz; have := g2 p i (by omega) h2 hp2; omega), h3]
    by_cases e : n = L
    · rw [if_pos e, if_pos e.symm, e]
    · rw [if_neg e, if_neg (fun z => e z.symm)]
  · have a := h5 p hp
    have b := g4 i (i + 1) (by omega) hi
    omega

