/-! A DUCHY in the abstract, as the model has it -/
def zOm (n : Nat) (o m : Int32) : Prop := ∃ w a s g, w ≤ 5 ∧ a < 12 ∧ s < n ∧ g ≤ 1 ∧ (w = 5 → g = 0) ∧ o = nI (w + 10 * a + 1000 * s + 100000 * g) ∧ m = nI (w + 10 * a + 200 * s + 4000 * g)
def zVm (σ V : zS) (n : Nat) (th : Bool) : Prop :=
  (σ 196 0 = V 11 17 ∧ σ 196 1 = V 11 18 ∧ σ 196 2 = V 11 19 ∧ σ 196 3 = V 11 14 ∧ σ 196 4 = V 11 15 ∧ σ 196 5 = V 11 16) ∧
  (∀ p, p < 12 → σ 196 (6 + p) = V 1 p ∧ σ 196 (18 + p) = V 2 p ∧ σ 199 p + 5 = V 0 p) ∧
  (∀ s, s < n → σ 196 (30 + s) = V 3 s ∧ σ 196 (66 + s) = (if V 6 s = 1 then 0 else 1) ∧ σ 200 s = V 4 s) ∧
  (∀ s, s < 18 → σ 196 (48 + s) = V 5 s ∧ σ 196 (84 + s) = V 7 s ∧ σ 196 (102 + s) = V 8 s + 1) ∧
  (σ 196 120 = V 11 12 ∧ σ 196 145 = V 11 13) ∧ (∀ i, i < un (V 11 12) → i < 24 → zOm n (V 9 i) (σ 196 (121 + i))) ∧ (∀ i, i < un (V 11 13) → i < 24 → zOm n (V 10 i) (σ 196 (146 + i))) ∧ (th = false → ∀ i, i < 600 → σ 201 i = V 12 i)
def zCn (m r i : Nat) : Prop :=
  (r = 1 ∧ i < 12 ∧ m = 6 + i) ∨ (r = 2 ∧ i < 12 ∧ m = 18 + i) ∨ (r = 3 ∧ i < 18 ∧ m = 30 + i) ∨ (r = 5 ∧ i < 18 ∧ m = 48 + i) ∨ (r = 6 ∧ i < 18 ∧ m = 66 + i) ∨ (r = 7 ∧ i < 18 ∧ m = 84 + i) ∨ (r = 8 ∧ i < 18 ∧ m = 102 + i) ∨ (r = 11 ∧ ((m = 0 ∧ i = 17) ∨ (m = 1 ∧ i = 18) ∨ (m = 2 ∧ i = 19) ∨ (m = 3 ∧ i = 14) ∨ (m = 4 ∧ i = 15) ∨ (m = 5 ∧ i = 16)))
def zCm (m r i : Nat) (u v : Int32) : Prop := zCn m r i ∧ (r ≠ 6 → r ≠ 8 → u = v) ∧ (r = 6 → u = 1 ∧ v = 0) ∧ (r = 8 → u = v + 1)
theorem zCn1 {i : Nat} (h : i < 12) : zCn (6 + i) 1 i := Or.inl ⟨rfl, h, rfl⟩
theorem zCn2 {i : Nat} (h : i < 12) : zCn (18 + i) 2 i := Or.inr (Or.inl ⟨rfl, h, rfl⟩)
theorem zCn3 {i : Nat} (h : i < 18) : zCn (30 + i) 3 i := Or.inr (Or.inr (Or.inl ⟨rfl, h, rfl⟩))
theorem zCn5 {i : Nat} (h : i < 18) : zCn (48 + i) 5 i := Or.inr (Or.inr (Or.inr (Or.inl ⟨rfl, h, rfl⟩)))
theorem zCn6 {i : Nat} (h : i < 18) : zCn (66 + i) 6 i := Or.inr (Or.inr (Or.inr (Or.inr (Or.inl ⟨rfl, h, rfl⟩))))
theorem zCn7 {i : Nat} (h : i < 18) : zCn (84 + i) 7 i := Or.inr (Or.inr (Or.inr (Or.inr (Or.inr (Or.inl ⟨rfl, h, rfl⟩)))))
theorem zCn8 {i : Nat} (h : i < 18) : zCn (102 + i) 8 i := Or.inr (Or.inr (Or.inr (Or.inr (Or.inr (Or.inr (Or.inl ⟨rfl, h, rfl⟩))))))
theorem zCnf {m i : Nat} (h : (m = 0 ∧ i = 17) ∨ (m = 1 ∧ i = 18) ∨ (m = 2 ∧ i = 19) ∨ (m = 3 ∧ i = 14) ∨ (m = 4 ∧ i = 15) ∨ (m = 5 ∧ i = 16)) : zCn m 11 i := Or.inr (Or.inr (Or.inr (Or.inr (Or.inr (Or.inr (Or.inr ⟨rfl, h⟩))))))
def zxr (m : Nat) : Nat := if m < 6 then 11 else if m < 18 then 1 else if m < 30 then 2 else if m < 48 then 3 else if m < 66 then 5 else if m < 84 then 6 else if m < 102 then 7 else 8
def zxi (m : Nat) : Nat := if m < 6 then (if m < 3 then m + 17 else m + 11) else if m < 18 then m - 6 else if m < 30 then m - 18 else if m < 48 then m - 30 else if m < 66 then m - 48 else if m < 84 then m - 66 else if m < 102 then m - 84 else m - 102
def zxm (r i : Nat) : Nat := if r = 11 then (if i < 17 then i - 11 else i - 17) else if r = 1 then 6 + i else if r = 2 then 18 + i else if r = 3 then 30 + i else if r = 5 then 48 + i else if r = 6 then 66 + i else if r = 7 then 84 + i else 102 + i
theorem zCn_f {m r i : Nat} (h : zCn m r i) : m = zxm r i ∧ r = zxr m ∧ i = zxi m := by
  unfold zCn at h
  rcases h with ⟨e1, e2, e3⟩ | ⟨e1, e2, e3⟩ | ⟨e1, e2, e3⟩ | ⟨e1, e2, e3⟩ | ⟨e1, e2, e3⟩ | ⟨e1, e2, e3⟩ | ⟨e1, e2, e3⟩ | ⟨e1, ⟨e2, e3⟩ | ⟨e2, e3⟩ | ⟨e2, e3⟩ | ⟨e2, e3⟩ | ⟨e2, e3⟩ | ⟨e2, e3⟩⟩
  · subst e1; subst e3; refine ⟨rfl, ?_, ?_⟩; (unfold zxr; rw [if_neg (by omega), if_pos (by omega)]); (unfold zxi; rw [if_neg (by omega), if_pos (by omega)]; omega)
  · subst e1; subst e3; refine ⟨rfl, ?_, ?_⟩; (unfold zxr; rw [if_neg (by omega), if_neg (by omega), if_pos (by omega)]); (unfold zxi; rw [if_neg (by omega), if_neg (by omega), if_pos (by omega)]; omega)
  · subst e1; subst e3; refine ⟨rfl, ?_, ?_⟩; (unfold zxr; rw [if_neg (by omega), if_neg (by omega), if_neg (by omega), if_pos (by omega)]); (unfold zxi; rw [if_neg (by omega), if_neg (by omega), if_neg (by omega), if_pos (by omega)]; omega)
  · subst e1; subst e3; refine ⟨rfl, ?_, ?_⟩; (unfold zxr; rw [if_neg (by omega), if_neg (by omega), if_neg (by omega), if_neg (by omega), if_pos (by omega)]); (unfold zxi; rw [if_neg (by omega), if_neg (by omega), if_neg (by omega), if_neg (by omega), if_pos (by omega)]; omega)
  · subst e1; subst e3; refine ⟨rfl, ?_, ?_⟩; (unfold zxr; rw [if_neg (by omega), if_neg (by omega), if_neg (by omega), if_neg (by omega), if_neg (by omega), if_pos (by omega)]); (unfold zxi; rw [if_neg (by omega), if_neg (by omega), if_neg (by omega), if_neg (by omega), if_neg (by omega), if_pos (by omega)]; omega)
  · subst e1; subst e3; refine ⟨rfl, ?_, ?_⟩; (unfold zxr; rw [if_neg (by omega), if_neg (by omega), if_neg (by omega), if_neg (by omega), if_neg (by omega), if_neg (by omega), if_pos (by omega)]); (unfold zxi; rw [if_neg (by omega), if_neg (by omega), if_neg (by omega), if_neg (by omega), if_neg (by omega), if_neg (by omega), if_pos (by omega)]; omega)
  · subst e1; subst e3; refine ⟨rfl, ?_, ?_⟩; (unfold zxr; rw [if_neg (by omega), if_neg (by omega), if_neg (by omega), if_neg (by omega), if_neg (by omega), if_neg (by omega), if_neg (by omega)]); (unfold zxi; rw [if_neg (by omega), if_neg (by omega), if_neg (by omega), if_neg (by omega), if_neg (by omega), if_neg (by omega), if_neg (by omega)]; omega)
  all_goals (subst e1; subst e2; subst e3; exact ⟨rfl, rfl, rfl⟩)
theorem zCn_x {m r i b q c : Nat} (h : zCn m r i) (h' : zCn b q c) : b = m ↔ (q = r ∧ c = i) := by
  obtain ⟨a1, a2, a3⟩ := zCn_f h
  obtain ⟨b1, b2, b3⟩ := zCn_f h'
  exact ⟨fun e => ⟨by rw [b2, a2, e], by rw [b3, a3, e]⟩, fun e => by rw [b1, a1, e.1, e.2]⟩
theorem zud {σ V : zS} {m r i b q c : Nat} {u v : Int32} (hc : zCm m r i u v) (h : σ 196 b = V q c) (hk : zCn b q c) (h6 : q ≠ 6) (h8 : q ≠ 8) : up σ 196 m u 196 b = up V r i v q c := by
  have hx := zCn_x hc.1 hk
  rw [up_rd, up_rd]
  by_cases e : b = m
  · have hq := (hx.mp e).1
    rw [if_pos ⟨rfl, e⟩, if_pos (hx.mp e)]; exact hc.2.1 (by rw [← hq]; exact h6) (by rw [← hq]; exact h8)
  · rw [if_neg (fun z => e z.2), if_neg (fun z => e (hx.mpr z))]; exact h
theorem zCn_b {m r i : Nat} (h : zCn m r i) : r ≠ 9 ∧ r ≠ 10 ∧ r ≠ 12 ∧ m < 120 ∧ (r = 11 → i ≠ 12 ∧ i ≠ 13) ∧ r ≠ 0 ∧ r ≠ 4 := by
  unfold zCn at h
  rcases h with ⟨e1, e2, e3⟩ | ⟨e1, e2, e3⟩ | ⟨e1, e2, e3⟩ | ⟨e1, e2, e3⟩ | ⟨e1, e2, e3⟩ | ⟨e1, e2, e3⟩ | ⟨e1, e2, e3⟩ | ⟨e1, h⟩
  all_goals (first | omega)
theorem zVm_u {σ V : zS} {n m r i : Nat} {th : Bool} {u v : Int32} (hn18 : n ≤ 18) (h : zVm σ V n th) (hc : zCm m r i u v) : zVm (up σ 196 m u) (up V r i v) n th := by
  obtain ⟨h1, h2, h3, h4, h5, h6, h7, h8⟩ := h
  obtain ⟨r9, r10, r12, m120, r11, r0, r4⟩ := zCn_b hc.1
  have e12 : up V r i v 11 12 = V 11 12 := by rw [up_rd, if_neg (fun z => (r11 z.1.symm).1 z.2.symm)]
  have e13 : up V r i v 11 13 = V 11 13 := by rw [up_rd, if_neg (fun z => (r11 z.1.symm).2 z.2.symm)]
  have hm : ∀ b, 120 ≤ b → up σ 196 m u 196 b = σ 196 b := fun b hb => zup_nj (Nat.ne_of_gt (Nat.lt_of_lt_of_le m120 hb))
  have hm0 : ∀ a b, a ≠ 196 → up σ 196 m u a b = σ a b := fun a b ha => zup_ne ha
  refine ⟨⟨zud hc h1.1 (zCnf (by decide)) (by decide) (by decide), zud hc h1.2.1 (zCnf (by decide)) (by decide) (by decide), zud hc h1.2.2.1 (zCnf (by decide)) (by decide) (by decide), zud hc h1.2.2.2.1 (zCnf (by decide)) (by decide) (by decide), zud hc h1.2.2.2.2.1 (zCnf (by decide)) (by decide) (by decide), zud hc h1.2.2.2.2.2 (zCnf (by decide)) (by decide) (by decide)⟩, fun p hp => ⟨zud hc (h2 p hp).1 (zCn1 hp) (by decide) (by decide), zud hc (h2 p hp).2.1 (zCn2 hp) (by decide) (by decide), ?_⟩, fun s hs => ⟨zud hc (h3 s hs).1 (zCn3 (Nat.lt_of_lt_of_le hs hn18)) (by decide) (by decide), ?_, ?_⟩, fun s hs => ⟨zud hc (h4 s hs).1 (zCn5 hs) (by decide) (by decide), zud hc (h4 s hs).2.1 (zCn7 hs) (by decide) (by decide), ?_⟩, ?_, fun i hi hi2 => ?_, fun i hi hi2 => ?_, fun ht i hi => ?_⟩
  · rw [hm0 _ _ (by decide), zup_ne r0.symm]; exact (h2 p hp).2.2
  · have hx := zCn_x hc.1 (zCn6 (i := s) (Nat.lt_of_lt_of_le hs hn18))
    rw [up_rd, up_rd]
    by_cases e : 66 + s = m
    · have e3 := hx.mp e
      obtain ⟨x1, x2⟩ := hc.2.2.1 e3.1.symm
      rw [if_pos ⟨rfl, e⟩, if_pos e3, x1, x2]; rfl
    · have e3 : ¬ (6 = r ∧ s = i) := fun z => e (hx.mpr z)
      rw [if_neg (fun z => e z.2)]
      simp only [if_neg e3]; exact (h3 s hs).2.1
  · rw [hm0 _ _ (by decide), zup_ne r4.symm]; exact (h3 s hs).2.2
  · have hx := zCn_x hc.1 (zCn8 hs)
    rw [up_rd, up_rd]
    by_cases e : 102 + s = m
    · rw [if_pos ⟨rfl, e⟩, if_pos (hx.mp e)]; exact hc.2.2.2 (hx.mp e).1.symm
    · rw [if_neg (fun z => e z.2), if_neg (fun z => e (hx.mpr z))]; exact (h4 s hs).2.2
  · rw [e12, e13, hm _ (by decide), hm _ (by decide)]; exact h5
  · rw [e12] at hi; rw [zup_ne r9.symm, hm _ (Nat.le_trans (by decide) (Nat.le_add_right 121 i))]; exact h6 i hi hi2
  · rw [e13] at hi; rw [zup_ne r10.symm, hm _ (Nat.le_trans (by decide) (Nat.le_add_right 146 i))]; exact h7 i hi hi2
  · rw [hm0 _ _ (by decide), zup_ne r12.symm]; exact h8 ht i hi
theorem zVm_o {σ τ V : zS} {n : Nat} {th : Bool} {l : List Nat} (h : zVm σ V n th) (hF : Fr l σ τ) (hl : 196 ∉ l ∧ 199 ∉ l ∧ 200 ∉ l ∧ 201 ∉ l) : zVm τ V n th := by
  have e1 : τ 196 = σ 196 := funext fun b => hF 196 hl.1 b
  have e2 : τ 199 = σ 199 := funext fun b => hF 199 hl.2.1 b
  have e3 : τ 200 = σ 200 := funext fun b => hF 200 hl.2.2.1 b
  have e4 : τ 201 = σ 201 := funext fun b => hF 201 hl.2.2.2 b
  unfold zVm
  rw [e1, e2, e3, e4]
  exact h
theorem zVm_b {σ V : zS} {n i : Nat} {th : Bool} {v : Int32} (h : zVm σ V n th) : zVm (up σ 201 i v) (up V 12 i v) n th := by
  have e1 : up σ 201 i v 196 = σ 196 := funext fun b => zup_ne (by decide)
  have e2 : up σ 201 i v 199 = σ 199 := funext fun b => zup_ne (by decide)
  have e3 : up σ 201 i v 200 = σ 200 := funext fun b => zup_ne (by decide)
  have e : ∀ r, r ≠ 12 → up V 12 i v r = V r := fun r hr => funext fun b => zup_ne hr
  unfold zVm
  rw [e1, e2, e3, e 0 (by decide), e 1 (by decide), e 2 (by decide), e 3 (by decide), e 4 (by decide), e 5 (by decide), e 6 (by decide), e 7 (by decide), e 8 (by decide), e 9 (by decide), e 10 (by decide), e 11 (by decide)]
  refine ⟨h.1, h.2.1, h.2.2.1, h.2.2.2.1, h.2.2.2.2.1, h.2.2.2.2.2.1, h.2.2.2.2.2.2.1, fun ht j hj => ?_⟩
  rw [up_rd, up_rd]
  by_cases e : j = i
  · rw [if_pos ⟨rfl, e⟩, if_pos ⟨rfl, e⟩]
  · rw [if_neg (fun z => e z.2), if_neg (fun z => e z.2)]; exact h.2.2.2.2.2.2.2 ht j hj
theorem zset_x {f g : Nat → Bool} : ∀ n, (∀ s, s < n → f s = g s) → zset f n = zset g n
  | 0, _ => rfl
  | n + 1, h => by
    have e := zset_x n (fun s hs => h s (by omega))
    simp only [zset, e, h n (by omega)]
theorem zma_v {σ V : zS} {n p : Nat} {th : Bool} (h : zVm σ V n th) : zset (zma σ (nI p)) n = zset (fun s => decide (V 6 s = 1) && decide (V 3 s = nI p)) n := zset_x n fun s hs => by
  obtain ⟨a, b, _⟩ := h.2.2.1 s hs
  show (decide (σ 196 (66 + s) = 0) && decide (σ 196 (30 + s) = nI p)) = _
  rw [a, b]
  by_cases e : V 6 s = 1
  · simp [e]
  · simp [e]
theorem zfM_v {σ V : zS} {n s p : Nat} {th : Bool} {wh : Int32} (h : zVm σ V n th) (hn18 : n ≤ 18) (hs : s < n) (hp : p < 12) : zfM σ n true s p wh = zFv V n true s p wh := by
  have h3 := h.2.2.1 s hs
  have h4 := h.2.2.2.1 s (by omega)
  have h2 := h.2.1 p hp
  have h1 := h.1
  funext j
  match j with
  | 0 => exact h3.2.2
  | 1 => exact h4.1
  | 2 => rfl
  | 3 => exact h2.1
  | 4 => exact h2.2.1
  | 5 => exact h2.2.2
  | 6 => exact h1.2.2.2.1
  | 7 => show nI (zpop (zset (zma σ (nI p)) n)) = _; rw [zma_v h]; rfl
  | 8 => exact h4.2.1
  | j + 9 => exact h1.1
theorem zfM_v0 {σ V : zS} {n p : Nat} {th : Bool} (h : zVm σ V n th) (hp : p < 12) : zfM σ n false 0 p 0 = zFv V n false 0 p 0 := by
  have h2 := h.2.1 p hp
  have h1 := h.1
  funext j
  match j with
  | 0 => rfl
  | 1 => rfl
  | 2 => rfl
  | 3 => exact h2.1
  | 4 => exact h2.2.1
  | 5 => exact h2.2.2
  | 6 => exact h1.2.2.2.1
  | 7 => show nI (zpop (zset (zma σ (nI p)) n)) = _; rw [zma_v h]; rfl
  | 8 => rfl
  | j + 9 => exact h1.1
/-- what a day of the model stands on -/
def zMd (σ : zS) (n : Nat) (th : Bool) (N : Nat) (Wd Fr' Wh To O A : Nat → Nat) (B : Nat → Int32) : Prop := σ 195 6 = nI n ∧ n ≤ 18 ∧ σ 195 5 = (if th = true then 1 else 0) ∧ zLw N Wd Fr' Wh To O A ∧ zLwM σ N Wd Fr' Wh To O A ∧ σ 214 = B ∧ zBok B
def zFm (th : Bool) (σ τ : zS) : Prop := Fr [196, 201, 215, 216, 217] σ τ ∧ (th = true → ∀ i, τ 201 i = σ 201 i)
theorem zFm.rf {th : Bool} {σ : zS} : zFm th σ σ := ⟨Fr.rf, fun _ _ => rfl⟩
theorem zFm.tr {th : Bool} {σ τ υ : zS} (h1 : zFm th σ τ) (h2 : zFm th τ υ) : zFm th σ υ := ⟨h1.1.tr h2.1, fun ht i => (h2.2 ht i).trans (h1.2 ht i)⟩
theorem zFm.put {th : Bool} {σ τ : zS} {i : Nat} {v : Int32} (h : zFm th σ τ) : zFm th σ (up τ 196 i v) := ⟨h.1.put (by decide), fun ht j => (zup_ne (by decide)).trans (h.2 ht j)⟩
theorem zFm.of {th : Bool} {σ τ : zS} {l : List Nat} (h : Fr l σ τ) (hl : ∀ a, a ∈ l → a = 196 ∨ a = 215 ∨ a = 216 ∨ a = 217) : zFm th σ τ := ⟨h.sub (fun a ha => by have := hl a ha; simp; omega), fun _ i => h 201 (fun z => by have := hl _ z; omega) i⟩
theorem zMd_fr {σ τ : zS} {n N : Nat} {th : Bool} {Wd Fr' Wh To O A : Nat → Nat} {B : Nat → Int32} (hF : Fr [196, 201, 215, 216, 217] σ τ) (h : zMd σ n th N Wd Fr' Wh To O A B) : zMd τ n th N Wd Fr' Wh To O A B := by
  obtain ⟨h1, h2, h3, h4, hM, h6, h7⟩ := h
  refine ⟨(hF 195 (by decide) 6).trans h1, h2, (hF 195 (by decide) 5).trans h3, h4, ⟨(hF 204 (by decide) 0).trans hM.1, fun l hl => ?_⟩, (funext fun b => hF 214 (by decide) b).trans h6, h7⟩
  obtain ⟨m1, m2, m3, m4, m5⟩ := hM.2 l hl
  exact ⟨(hF 205 (by decide) _).trans m1, (hF 206 (by decide) _).trans m2, (hF 207 (by decide) _).trans m3, (hF 208 (by decide) _).trans m4, fun j h3 h4 => ⟨(hF 209 (by decide) j).trans (m5 j h3 h4).1, (hF 210 (by decide) j).trans (m5 j h3 h4).2⟩⟩

