/-! THE INVARIANT -/
/-- what nobody asks for later -/
def sc (a b : Nat) : Prop := (75 ≤ a ∧ a ≤ 86) ∨ ((a = 87 ∨ a = 91) ∧ b = 4) ∨ a = 89 ∨ a = 90 ∨ a = 93 ∨ a = 94 ∨ a = 169 ∨ (a = 170 ∧ (b = 2 ∨ b = 3)) ∨ (171 ≤ a ∧ a ≤ 193) ∨ (a = 195 ∧ (b = 0 ∨ (12 ≤ b ∧ b ≤ 15) ∨ (24 ≤ b ∧ b ≤ 30) ∨ b = 54 ∨ b = 66 ∨ b = 68)) ∨ a = 198 ∨ a = 211 ∨ (215 ≤ a ∧ a ≤ 223) ∨ (226 ≤ a ∧ a ≤ 228) ∨ a = 231 ∨ a = 232 ∨ a = 235 ∨ a = 236 ∨ (205 ≤ a ∧ a ≤ 208 ∧ 16 ≤ b) ∨ ((a = 209 ∨ a = 210) ∧ 400 ≤ b) ∨ (a = 212 ∧ 32 ≤ b) ∨ (a = 213 ∧ 48 ≤ b) ∨ (a = 196 ∧ 170 ≤ b)
/-- walls are at most 99, days at most 9999 -/
def vX (V : zS) : Prop := (∀ p, p < 12 → V 2 p ≤ 99) ∧ ∃ d, d ≤ 9999 ∧ V 11 17 = nI d
theorem vX_x {V U : zS} (h : vX V) (e : ∀ j i, (j = 2 ∧ i < 12) ∨ (j = 11 ∧ i = 17) → U j i = V j i) : vX U := ⟨fun p hp => by rw [e 2 p (by omega)]; exact h.1 p hp, by rw [e 11 17 (by omega)]; exact h.2⟩
def vD (σ : zS) (n : Nat) (V : zS) : Prop := zVk σ 2 false V ∧ zVm σ V n false ∧ zVg V n ∧ (∀ s, n ≤ s → s < 18 → V 5 s = 0 ∧ V 7 s = 0) ∧ σ 195 6 = nI n ∧ σ 195 5 = 0 ∧ vX V
def vL (σ : zS) : Prop := ∃ (N : Nat) (Wd Fr' Wh To O A : Nat → Nat), zLw N Wd Fr' Wh To O A ∧ zLwK σ 15 N Wd Fr' Wh To O A ∧ zLwM σ N Wd Fr' Wh To O A
def vR (σ : zS) : Prop := ∃ rows : List pRw, rows.length ≤ 16 ∧ (∀ x, x ∈ rows → pRv x) ∧ σ 24 2 = nI rows.length ∧ kRw σ 25 rows ∧ σ 195 37 = nI rows.length ∧ (∀ p, p < 12 → σ 28 p = pBs rows p ∧ σ 214 p = pBs rows p) ∧ zhd σ 27
def vT (σ : zS) : Prop := ∃ (nT : Nat) (td tp tv : Nat → Nat), zTk σ nT td tp tv ∧ zTm σ nT td tp tv
def vE (σ : zS) (n : Nat) : Prop := ∃ (nE : Nat) (ed : Nat → Nat) (eo : Nat → Int32), zEk σ nE ed eo ∧ zEm σ n nE ed eo
def vO (σ : zS) : Prop := (∃ c, c ≤ 8 ∧ σ 30 1 = nI c ∧ σ 195 48 = nI c ∧ ∀ i, i < c → σ 31 i = σ 224 i) ∧ (∃ c, c ≤ 5 ∧ σ 32 1 = nI c ∧ σ 195 50 = nI c ∧ ∀ i, i < c → σ 33 i = σ 225 i ∧ zwd (σ 33 i)) ∧ (∃ c, c ≤ 10 ∧ σ 34 1 = nI c ∧ σ 195 56 = nI c ∧ ∀ i, i < c → ∃ a m, a ≤ 99 ∧ m ≤ 20 ∧ σ 35 i = nI (a * 100 + m) ∧ σ 229 i = nI a ∧ σ 230 i = nI m) ∧ (∃ c, c ≤ 10 ∧ σ 36 1 = nI c ∧ σ 195 61 = nI c ∧ ∀ i, i < c → ∃ a m, a ≤ 99 ∧ m ≤ 99 ∧ σ 37 i = nI (a * 100 + m) ∧ σ 233 i = nI a ∧ σ 234 i = nI m)
def vA (σ : zS) : Prop := (∃ (b : Nat) (t : Nat → Nat), b ≤ 400 ∧ σ 0 10 = nI b ∧ σ 195 11 = nI b ∧ ∀ i, i < 400 → σ 194 i = nI (t i) ∧ σ 202 i = nI (t i) ∧ t i ≤ 255) ∧ (∀ i, i < 146 → σ 203 i = nI (tkMw.getD i 0)) ∧ σ 170 4 = σ 195 31 ∧ σ 170 5 = σ 195 32 ∧ σ 87 3 = 0 ∧ σ 91 3 = 1
/-- a duchy as it lies at a cell; the model's kept row -/
def vw (σ : zS) (c : Nat) : zS := fun j i => if j < 11 then σ (c + 1 + j) i else if j = 11 then σ c i else σ 14 i
def mrw (σ : zS) (r : Nat) : zS := fun a b => if a = 196 then σ 197 (170 * r + b) else σ a b
def vP1 (σ : zS) (n c r : Nat) : Prop := zVm (mrw σ r) (vw σ c) n true ∧ zVg (vw σ c) n ∧ (∀ s, n ≤ s → s < 18 → vw σ c 5 s = 0 ∧ vw σ c 7 s = 0) ∧ vX (vw σ c)
def vP (σ : zS) (n : Nat) : Prop := ∃ c la, c ≤ 6 ∧ la < 6 ∧ σ 95 2 = nI c ∧ σ 195 3 = nI c ∧ σ 95 1 = nI la ∧ ∀ i, i < c → vP1 σ n (97 + 12 * ((la + 6 - i) % 6)) (c - 1 - i)
def vC (σ : zS) : Prop := ∃ n V, vD σ n V ∧ vL σ ∧ vR σ ∧ vT σ ∧ vE σ n ∧ vO σ
/-- what the picture holds of the class -/
def vRg (a b : Nat) : Prop := (a = 2 ∧ 11 ≤ b ∧ b < 20) ∨ (3 ≤ a ∧ a ≤ 5 ∧ b < 12) ∨ (6 ≤ a ∧ a ≤ 11 ∧ b < 18) ∨ (12 ≤ a ∧ a ≤ 13 ∧ b < 24) ∨ (a = 14 ∧ b < 600) ∨ ((a = 15 ∨ a = 18 ∨ a = 21 ∨ a = 24) ∧ b = 2) ∨ ((a = 16 ∨ a = 19 ∨ a = 22 ∨ a = 25) ∧ b < 64) ∨ (a = 17 ∧ b < 400) ∨ ((a = 30 ∨ a = 32 ∨ a = 34 ∨ a = 36) ∧ b = 1) ∨ (a = 31 ∧ b < 8) ∨ (a = 33 ∧ b < 5) ∨ ((a = 35 ∨ a = 37) ∧ b < 10)
/-- where the model's image holds what -/
def vIm (a b i : Nat) : Prop := (a = 196 ∧ b < 170 ∧ i = b) ∨ (a = 195 ∧ ((b = 6 ∧ i = 170) ∨ (b = 33 ∧ i = 171) ∨ (b = 35 ∧ i = 172) ∨ (b = 37 ∧ i = 173) ∨ (b = 48 ∧ i = 174) ∨ (b = 50 ∧ i = 175) ∨ (b = 56 ∧ i = 176) ∨ (b = 61 ∧ i = 177))) ∨ (a = 199 ∧ b < 12 ∧ i = 178 + 2 * b) ∨ (a = 214 ∧ b < 12 ∧ i = 179 + 2 * b) ∨ (a = 200 ∧ b < 18 ∧ i = 202 + b) ∨ (a = 224 ∧ b < 8 ∧ i = 220 + b) ∨ (a = 225 ∧ b < 5 ∧ i = 228 + b) ∨ (a = 229 ∧ b < 10 ∧ i = 233 + 4 * b) ∨ (a = 230 ∧ b < 10 ∧ i = 234 + 4 * b) ∨ (a = 233 ∧ b < 10 ∧ i = 235 + 4 * b) ∨ (a = 234 ∧ b < 10 ∧ i = 236 + 4 * b) ∨ (a = 212 ∧ b < 32 ∧ i = 273 + b) ∨ (a = 213 ∧ b < 48 ∧ i = 305 + b) ∨ (a = 201 ∧ b < 600 ∧ i = 353 + b) ∨ (a = 204 ∧ b = 0 ∧ i = 953) ∨ (a = 205 ∧ b < 16 ∧ i = 954 + 4 * b) ∨ (a = 206 ∧ b < 16 ∧ i = 955 + 4 * b) ∨ (a = 207 ∧ b < 16 ∧ i = 956 + 4 * b) ∨ (a = 208 ∧ b < 16 ∧ i = 957 + 4 * b) ∨ (a = 209 ∧ b < 400 ∧ i = 1018 + 2 * b) ∨ (a = 210 ∧ b < 400 ∧ i = 1019 + 2 * b)
def vI (σ : zS) : Prop := (σ 0 2 = 0 ∧ σ 195 67 = 0) ∨ (σ 0 2 = 1 ∧ σ 195 67 = 1 ∧ ∃ ρ, vC ρ ∧ (∀ a b, vRg a b → σ (a + 37) b = ρ a b) ∧ ∀ a b i, vIm a b i → σ 237 i = ρ a b)
def INV (σ : zS) : Prop := ∃ n V, vD σ n V ∧ vL σ ∧ vR σ ∧ vT σ ∧ vE σ n ∧ vO σ ∧ vA σ ∧ vP σ n ∧ vI σ
/-! what stays where nothing of it is changed -/
def ag (P : Nat → Nat → Prop) (σ τ : zS) : Prop := ∀ a b, P a b → τ a b = σ a b
theorem zVm_g {σ τ V : zS} {n : Nat} {th : Bool} (hn : n ≤ 18) (h : zVm σ V n th) (e : ∀ b, b < 170 → τ 196 b = σ 196 b) (e1 : ∀ b, b < 12 → τ 199 b = σ 199 b) (e2 : ∀ b, b < 18 → τ 200 b = σ 200 b) (e3 : th = false → ∀ b, b < 600 → τ 201 b = σ 201 b) : zVm τ V n th := by
  obtain ⟨h1, h2, h3, h4, h5, h6, h7, h8⟩ := h
  refine ⟨⟨(e 0 (by omega)).trans h1.1, (e 1 (by omega)).trans h1.2.1, (e 2 (by omega)).trans h1.2.2.1, (e 3 (by omega)).trans h1.2.2.2.1, (e 4 (by omega)).trans h1.2.2.2.2.1, (e 5 (by omega)).trans h1.2.2.2.2.2⟩, fun p hp => ⟨(e _ (by omega)).trans (h2 p hp).1, (e _ (by omega)).trans (h2 p hp).2.1, by rw [e1 p hp]; exact (h2 p hp).2.2⟩, fun s hs => ⟨(e _ (by omega)).trans (h3 s hs).1, (e _ (by omega)).trans (h3 s hs).2.1, (e2 s (by omega)).trans (h3 s hs).2.2⟩, fun s hs => ⟨(e _ (by omega)).trans (h4 s hs).1, (e _ (by omega)).trans (h4 s hs).2.1, (e _ (by omega)).trans (h4 s hs).2.2⟩, ⟨(e 120 (by omega)).trans h5.1, (e 145 (by omega)).trans h5.2⟩, fun i hi hi2 => by rw [e _ (by omega)]; exact h6 i hi hi2, fun i hi hi2 => by rw [e _ (by omega)]; exact h7 i hi hi2, fun ht i hi => (e3 ht i hi).trans (h8 ht i hi)⟩
theorem vD_f {σ τ V : zS} {n : Nat} (h : vD σ n V) (e : ∀ a b, (2 ≤ a ∧ a ≤ 14) ∨ (a = 196 ∧ b < 170) ∨ a = 199 ∨ a = 200 ∨ a = 201 ∨ (a = 195 ∧ (b = 5 ∨ b = 6)) → τ a b = σ a b) : vD τ n V := by
  obtain ⟨h1, h2, h3, h4, h5, h6, h7⟩ := h
  exact ⟨⟨fun j hj i => (e _ i (by omega)).trans (h1.1 j hj i), fun f g1 g2 => (e 2 f (by omega)).trans (h1.2.1 f g1 g2), fun ht i => (e 14 i (by omega)).trans (h1.2.2 ht i)⟩, zVm_g h3.2.1 h2 (fun b hb => e 196 b (by omega)) (fun b _ => e 199 b (by omega)) (fun b _ => e 200 b (by omega)) (fun _ b _ => e 201 b (by omega)), h3, h4, (e 195 6 (by omega)).trans h5, (e 195 5 (by omega)).trans h6, h7⟩
theorem vL_f {σ τ : zS} (h : vL σ) (e : ∀ a b, (a = 15 ∧ b = 2) ∨ (a = 16 ∧ b < 64) ∨ (a = 17 ∧ b < 400) ∨ (a = 204 ∧ b = 0) ∨ (205 ≤ a ∧ a ≤ 208 ∧ b < 16) ∨ ((a = 209 ∨ a = 210) ∧ b < 400) → τ a b = σ a b) : vL τ := by
  obtain ⟨N, Wd, Fr', Wh, To, O, A, h1, h2, h3⟩ := h
  have h16 := h1.1
  refine ⟨N, Wd, Fr', Wh, To, O, A, h1, ⟨(e 15 2 (by omega)).trans h2.1, fun l hl => ?_⟩, ⟨(e 204 0 (by omega)).trans h3.1, fun l hl => ?_⟩⟩
  · obtain ⟨_, _, _, t4, _⟩ := h1.2 l hl
    obtain ⟨a1, a2, a3, a4, a5⟩ := h2.2 l hl
    exact ⟨(e 16 _ (by omega)).trans a1, (e 16 _ (by omega)).trans a2, (e 16 _ (by omega)).trans a3, (e 16 _ (by omega)).trans a4, fun j g1 g2 => (e 17 j (by omega)).trans (a5 j g1 g2)⟩
  · obtain ⟨_, _, _, t4, _⟩ := h1.2 l hl
    obtain ⟨a1, a2, a3, a4, a5⟩ := h3.2 l hl
    exact ⟨(e 205 l (by omega)).trans a1, (e 206 l (by omega)).trans a2, (e 207 l (by omega)).trans a3, (e 208 l (by omega)).trans a4, fun j g1 g2 => ⟨(e 209 j (by omega)).trans (a5 j g1 g2).1, (e 210 j (by omega)).trans (a5 j g1 g2).2⟩⟩
theorem vR_f {σ τ : zS} (h : vR σ) (e : ∀ a b, (a = 24 ∧ b = 2) ∨ (a = 25 ∧ b < 64) ∨ (a = 195 ∧ b = 37) ∨ (a = 28 ∧ b < 12) ∨ (a = 214 ∧ b < 12) → τ a b = σ a b) (ez : zhd τ 27) : vR τ := by
  obtain ⟨rows, h1, h2, h3, h4, h5, h6, h7⟩ := h
  exact ⟨rows, h1, h2, (e 24 2 (by omega)).trans h3, kRw_f h4 h1 (fun b hb => e 25 b (by omega)), (e 195 37 (by omega)).trans h5, fun p hp => ⟨(e 28 p (by omega)).trans (h6 p hp).1, (e 214 p (by omega)).trans (h6 p hp).2⟩, ez⟩
theorem zds_x {B C : Nat → Int32} (h : ∀ p, p < 12 → B p = C p) (a b : Nat) : zds B a b = zds C a b := by
  have e : ∀ k, zrS B a k = zrS C a k := by
    intro k
    induction k with
    | zero => rfl
    | succ k ih =>
      show zor B (zrS B a k) (zrS B a k) 12 = zor C (zrS C a k) (zrS C a k) 12
      rw [ih, zor_c 12 h]
  unfold zds
  simp only [e]
theorem vR_z {σ τ : zS} (h : zhd σ 27) (e : ∀ a b, (a = 28 ∧ b < 12) ∨ a = 29 → τ a b = σ a b) : zhd τ 27 := fun a b ha hb => by
  show τ 29 (a * 12 + b) = zdV (τ 28) a b
  rw [e 29 _ (by omega), h a b ha hb]
  unfold zdV
  rw [zds_x (B := σ 28) (C := τ 28) (fun p hp => (e 28 p (by omega)).symm)]
theorem vT_f {σ τ : zS} (h : vT σ) (e : ∀ a b, (a = 21 ∧ b = 2) ∨ (a = 22 ∧ b < 64) ∨ (a = 195 ∧ b = 35) ∨ (a = 213 ∧ b < 48) → τ a b = σ a b) : vT τ := by
  obtain ⟨nT, td, tp, tv, h1, h2⟩ := h
  have h16 := h1.2.1
  refine ⟨nT, td, tp, tv, ⟨(e 21 2 (by omega)).trans h1.1, h16, fun l hl => ?_⟩, ⟨(e 195 35 (by omega)).trans h2.1, h16, fun l hl => ?_⟩⟩
  · obtain ⟨a1, a2, a3⟩ := h1.2.2 l hl
    exact ⟨(e 22 _ (by omega)).trans a1, (e 22 _ (by omega)).trans a2, (e 22 _ (by omega)).trans a3⟩
  · obtain ⟨a1, a2, a3, a4⟩ := h2.2.2 l hl
    exact ⟨(e 213 _ (by omega)).trans a1, (e 213 _ (by omega)).trans a2, (e 213 _ (by omega)).trans a3, a4⟩
theorem vE_f {σ τ : zS} {n : Nat} (h : vE σ n) (e : ∀ a b, (a = 18 ∧ b = 2) ∨ (a = 19 ∧ b < 64) ∨ (a = 195 ∧ b = 33) ∨ (a = 212 ∧ b < 32) → τ a b = σ a b) : vE τ n := by
  obtain ⟨nE, ed, eo, h1, h2⟩ := h
  have h16 := h1.2.1
  refine ⟨nE, ed, eo, ⟨(e 18 2 (by omega)).trans h1.1, h16, fun l hl => ?_⟩, ⟨(e 195 33 (by omega)).trans h2.1, h16, fun l hl => ?_⟩⟩
  · obtain ⟨a1, a2⟩ := h1.2.2 l hl
    exact ⟨(e 19 _ (by omega)).trans a1, (e 19 _ (by omega)).trans a2⟩
  · obtain ⟨a1, a2⟩ := h2.2.2 l hl
    exact ⟨(e 212 _ (by omega)).trans a1, by rw [e 212 _ (by omega)]; exact a2⟩
theorem vO_f {σ τ : zS} (h : vO σ) (e : ∀ a b, ((a = 30 ∨ a = 32 ∨ a = 34 ∨ a = 36) ∧ b = 1) ∨ (a = 31 ∧ b < 8) ∨ (a = 33 ∧ b < 5) ∨ ((a = 35 ∨ a = 37) ∧ b < 10) ∨ (a = 195 ∧ (b = 48 ∨ b = 50 ∨ b = 56 ∨ b = 61)) ∨ (a = 224 ∧ b < 8) ∨ (a = 225 ∧ b < 5) ∨ ((a = 229 ∨ a = 230 ∨ a = 233 ∨ a = 234) ∧ b < 10) → τ a b = σ a b) : vO τ := by
  obtain ⟨⟨c1, a1, a2, a3, a4⟩, ⟨c2, b1, b2, b3, b4⟩, ⟨c3, d1, d2, d3, d4⟩, ⟨c4, f1, f2, f3, f4⟩⟩ := h
  refine ⟨⟨c1, a1, (e 30 1 (by omega)).trans a2, (e 195 48 (by omega)).trans a3, fun i hi => by rw [e 31 i (by omega), e 224 i (by omega)]; exact a4 i hi⟩, ⟨c2, b1, (e 32 1 (by omega)).trans b2, (e 195 50 (by omega)).trans b3, fun i hi => by rw [e 33 i (by omega), e 225 i (by omega)]; exact b4 i hi⟩, ⟨c3, d1, (e 34 1 (by omega)).trans d2, (e 195 56 (by omega)).trans d3, fun i hi => by rw [e 35 i (by omega), e 229 i (by omega), e 230 i (by omega)]; exact d4 i hi⟩, ⟨c4, f1, (e 36 1 (by omega)).trans f2, (e 195 61 (by omega)).trans f3, fun i hi => by rw [e 37 i (by omega), e 233 i (by omega), e 234 i (by omega)]; exact f4 i hi⟩⟩
theorem vA_f {σ τ : zS} (h : vA σ) (e : ∀ a b, (a = 0 ∧ b = 10) ∨ (a = 195 ∧ (b = 11 ∨ b = 31 ∨ b = 32)) ∨ a = 194 ∨ a = 202 ∨ a = 203 ∨ (a = 170 ∧ (b = 4 ∨ b = 5)) ∨ ((a = 87 ∨ a = 91) ∧ b = 3) → τ a b = σ a b) : vA τ := by
  obtain ⟨⟨b, t, h1, h2, h3, h4⟩, h5, h6, h7, h8, h9⟩ := h
  refine ⟨⟨b, t, h1, (e 0 10 (by omega)).trans h2, (e 195 11 (by omega)).trans h3, fun i hi => by rw [e 194 i (by omega), e 202 i (by omega)]; exact h4 i hi⟩, fun i hi => (e 203 i (by omega)).trans (h5 i hi), by rw [e 170 4 (by omega), e 195 31 (by omega)]; exact h6, by rw [e 170 5 (by omega), e 195 32 (by omega)]; exact h7, (e 87 3 (by omega)).trans h8, (e 91 3 (by omega)).trans h9⟩
theorem zVg_x {V U : zS} {n : Nat} (h : zVg V n) (e : ∀ j i, (j = 3 ∨ j = 6 ∨ j = 8) ∧ i < 18 ∨ (j = 9 ∨ j = 10) ∧ i < 24 ∨ (j = 11 ∧ 11 ≤ i ∧ i < 20) → U j i = V j i) : zVg U n := by
  obtain ⟨h1, h2, h3, h4, h5, ⟨t1, h6, h7, h8⟩, ⟨t2, h9, h10, h11⟩, ⟨w, h12, h13⟩⟩ := h
  refine ⟨(e 11 11 (by omega)).trans h1, h2, fun s hs => by rw [e 3 s (by omega)]; exact h3 s hs, fun s hs => by rw [e 6 s (by omega)]; exact h4 s hs, fun s hs => by rw [e 8 s (by omega)]; exact h5 s hs, ⟨t1, h6, (e 11 12 (by omega)).trans h7, fun i hi => by rw [e 9 i (by omega)]; exact h8 i hi⟩, ⟨t2, h9, (e 11 13 (by omega)).trans h10, fun i hi => by rw [e 10 i (by omega)]; exact h11 i hi⟩, ⟨w, h12, (e 11 19 (by omega)).trans h13⟩⟩
theorem zVm_v {σ V U : zS} {n : Nat} {th : Bool} (hn : n ≤ 18) (h : zVm σ V n th) (e : ∀ j i, (j < 3 ∧ i < 12) ∨ (3 ≤ j ∧ j < 9 ∧ i < 18) ∨ (9 ≤ j ∧ j < 11 ∧ i < 24) ∨ (j = 11 ∧ 11 ≤ i ∧ i < 20) → U j i = V j i) (e2 : th = false → ∀ i, i < 600 → U 12 i = V 12 i) : zVm σ U n th := by
  obtain ⟨h1, h2, h3, h4, h5, h6, h7, h8⟩ := h
  have g12 := e 11 12 (by omega)
  have g13 := e 11 13 (by omega)
  refine ⟨?_, fun p hp => ?_, fun s hs => ?_, fun s hs => ?_, ?_, fun i hi hi2 => ?_, fun i hi hi2 => ?_, fun ht i hi => ?_⟩
  · rw [e 11 17 (by omega), e 11 18 (by omega), e 11 19 (by omega), e 11 14 (by omega), e 11 15 (by omega), e 11 16 (by omega)]; exact h1
  · rw [e 1 p (by omega), e 2 p (by omega), e 0 p (by omega)]; exact h2 p hp
  · rw [e 3 s (by omega), e 6 s (by omega), e 4 s (by omega)]; exact h3 s hs
  · rw [e 5 s (by omega), e 7 s (by omega), e 8 s (by omega)]; exact h4 s hs
  · rw [g12, g13]; exact h5
  · rw [g12] at hi; rw [e 9 i (by omega)]; exact h6 i hi hi2
  · rw [g13] at hi; rw [e 10 i (by omega)]; exact h7 i hi hi2
  · rw [e2 ht i hi]; exact h8 ht i hi
theorem vP1_f {σ τ : zS} {n c r c' r' : Nat} (h : vP1 σ n c r) (e1 : ∀ j i, (j < 3 ∧ i < 12) ∨ (3 ≤ j ∧ j < 9 ∧ i < 18) ∨ (9 ≤ j ∧ j < 11 ∧ i < 24) ∨ (j = 11 ∧ 11 ≤ i ∧ i < 20) → vw τ c' j i = vw σ c j i) (e2 : ∀ b, b < 170 → τ 197 (170 * r' + b) = σ 197 (170 * r + b)) (e3 : ∀ b, b < 12 → τ 199 b = σ 199 b) (e4 : ∀ b, b < 18 → τ 200 b = σ 200 b) : vP1 τ n c' r' := by
  obtain ⟨h1, h2, h3, h4⟩ := h
  have hn := h2.2.1
  refine ⟨zVm_v hn (zVm_g (τ := mrw τ r') hn h1 (fun b hb => ?_) (fun b hb => ?_) (fun b hb => ?_) (fun z => by cases z)) e1 (fun z => by cases z), zVg_x h2 (fun j i hji => e1 j i (by omega)), fun s g1 g2 => ?_, vX_x h4 (fun j i hji => e1 j i (by omega))⟩
  · show (if 196 = 196 then τ 197 (170 * r' + b) else _) = (if 196 = 196 then σ 197 (170 * r + b) else _)
    rw [if_pos rfl, if_pos rfl]; exact e2 b hb
  · exact e3 b hb
  · exact e4 b hb
  · rw [e1 5 s (by omega), e1 7 s (by omega)]; exact h3 s g1 g2
theorem vP_f {σ τ : zS} {n : Nat} (h : vP σ n) (e : ∀ a b, (95 ≤ a ∧ a ≤ 168) ∨ a = 197 ∨ a = 199 ∨ a = 200 ∨ (a = 195 ∧ b = 3) → τ a b = σ a b) : vP τ n := by
  obtain ⟨c, la, h1, h2, h3, h4, h5, h6⟩ := h
  refine ⟨c, la, h1, h2, (e 95 2 (by omega)).trans h3, (e 195 3 (by omega)).trans h4, (e 95 1 (by omega)).trans h5, fun i hi => vP1_f (h6 i hi) (fun j i2 hj => ?_) (fun b _ => e 197 _ (by omega)) (fun b _ => e 199 b (by omega)) (fun b _ => e 200 b (by omega))⟩
  have hm : (la + 6 - i) % 6 < 6 := Nat.mod_lt _ (by decide)
  unfold vw
  split
  · exact e _ _ (by omega)
  · split
    · exact e _ _ (by omega)
    · omega
theorem vI_f {σ τ : zS} (h : vI σ) (e : ∀ a b, (a = 0 ∧ b = 2) ∨ (a = 195 ∧ b = 67) ∨ (38 ≤ a ∧ a ≤ 74) ∨ a = 237 → τ a b = σ a b) : vI τ := by
  rcases h with ⟨h1, h2⟩ | ⟨h1, h2, ρ, h3, h4, h5⟩
  · exact Or.inl ⟨(e 0 2 (by omega)).trans h1, (e 195 67 (by omega)).trans h2⟩
  · refine Or.inr ⟨(e 0 2 (by omega)).trans h1, (e 195 67 (by omega)).trans h2, ρ, h3, fun a b hab => (e _ b ?_).trans (h4 a b hab), fun a b i hi => (e 237 i (by omega)).trans (h5 a b i hi)⟩
    unfold vRg at hab
    omega
theorem INV_sc {σ τ : zS} (h : INV σ) (e : ∀ a b, ¬ sc a b → τ a b = σ a b) : INV τ := by
  obtain ⟨n, V, h1, h2, h3, h4, h5, h6, h7, h8, h9⟩ := h
  have e' : ∀ a b, ¬ sc a b → τ a b = σ a b := e
  refine ⟨n, V, vD_f h1 (fun a b x => e a b (by unfold sc; omega)), vL_f h2 (fun a b x => e a b (by unfold sc; omega)), ?_, vT_f h4 (fun a b x => e a b (by unfold sc; omega)), vE_f h5 (fun a b x => e a b (by unfold sc; omega)), vO_f h6 (fun a b x => e a b (by unfold sc; omega)), vA_f h7 (fun a b x => e a b (by unfold sc; omega)), vP_f h8 (fun a b x => e a b (by unfold sc; omega)), vI_f h9 (fun a b x => e a b (by unfold sc; omega))⟩
  obtain ⟨rows, r⟩ := id h3
  exact vR_f h3 (fun a b x => e a b (by unfold sc; omega)) (vR_z r.2.2.2.2.2.2 (fun a b x => e a b (by unfold sc; omega)))

