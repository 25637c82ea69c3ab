/-! A DAY in the abstract: what stays good -/
theorem zVg_c {V U : zS} {n : Nat} (hg : zVg V n) (h11 : U 11 11 = V 11 11) (h3 : ∀ s, s < n → ∃ a, a < 12 ∧ U 3 s = nI a) (h6 : ∀ s, s < n → U 6 s = 0 ∨ U 6 s = 1) (h8 : ∀ s, s < 18 → U 8 s = -1 ∨ (s < n ∧ ∃ w a, w ≤ 4 ∧ a < 12 ∧ U 8 s = nI (w + 10 * a))) (h9 : U 9 = V 9) (h10 : U 10 = V 10) (h12 : U 11 12 = V 11 12) (h13 : U 11 13 = V 11 13) (h19 : ∃ w, w ≤ 150 ∧ U 11 19 = nI w) : zVg U n :=
  ⟨h11.trans hg.1, hg.2.1, h3, h6, h8, by rw [h9, h12]; exact hg.2.2.2.2.2.1, by rw [h10, h13]; exact hg.2.2.2.2.2.2.1, h19⟩
theorem dW_row {th : Bool} {wh who mu : Int32} {V : zS} {r : Nat} (h : r ≠ 12) (h2 : r ≠ 11) : dW th wh who mu V r = V r := funext fun i => dW_r h (fun z => h2 z.1)
theorem dW_g {th : Bool} {wh who mu : Int32} {V : zS} {n : Nat} (hg : zVg V n) : zVg (dW th wh who mu V) n := by
  refine zVg_c hg (dW_r (by decide) (by decide)) (by rw [dW_row (by decide) (by decide)]; exact hg.2.2.1) (by rw [dW_row (by decide) (by decide)]; exact hg.2.2.2.1) (by rw [dW_row (by decide) (by decide)]; exact hg.2.2.2.2.1) (dW_row (by decide) (by decide)) (dW_row (by decide) (by decide)) (dW_r (by decide) (by decide)) (dW_r (by decide) (by decide)) ?_
  obtain ⟨w, hw, hw2⟩ := hg.2.2.2.2.2.2.2
  unfold dW
  split
  · exact ⟨w, hw, hw2⟩
  · rename_i hc
    have hne : w ≠ 150 := fun e => hc (Or.inr (by rw [hw2, e]; rfl))
    exact ⟨w + 1, by omega, by rw [zup_eq, hw2]; exact nI_1 w⟩
theorem zVg_u {V : zS} {n r i : Nat} {v : Int32} (hg : zVg V n) (h : r = 0 ∨ r = 1 ∨ r = 2 ∨ r = 4 ∨ r = 5 ∨ r = 7 ∨ (r = 11 ∧ (i = 14 ∨ i = 15 ∨ i = 16 ∨ i = 17 ∨ i = 18))) : zVg (up V r i v) n := by
  have e : ∀ q, q ≠ r → up V r i v q = V q := fun q hq => funext fun b => zup_ne hq
  have f : ∀ b, b ≠ i → up V r i v 11 b = V 11 b := fun b hb => zup_nj hb
  have g : ∀ b, b ≠ 14 → b ≠ 15 → b ≠ 16 → b ≠ 17 → b ≠ 18 → up V r i v 11 b = V 11 b := fun b h1 h2 h3 h4 h5 => by
    rw [up_rd, if_neg (by omega)]
  refine zVg_c hg (g 11 (by decide) (by decide) (by decide) (by decide) (by decide)) (by rw [e 3 (by omega)]; exact hg.2.2.1) (by rw [e 6 (by omega)]; exact hg.2.2.2.1) (by rw [e 8 (by omega)]; exact hg.2.2.2.2.1) (e 9 (by omega)) (e 10 (by omega)) (g 12 (by decide) (by decide) (by decide) (by decide) (by decide)) (g 13 (by decide) (by decide) (by decide) (by decide) (by decide)) ?_
  rw [g 19 (by decide) (by decide) (by decide) (by decide) (by decide)]; exact hg.2.2.2.2.2.2.2
theorem zVg_3 {V : zS} {n s a : Nat} (hg : zVg V n) (ha : a < 12) : zVg (up V 3 s (nI a)) n := by
  have e : ∀ q, q ≠ 3 → up V 3 s (nI a) q = V q := fun q hq => funext fun b => zup_ne hq
  refine zVg_c hg (zup_ne (by decide)) (fun t ht => ?_) (by rw [e 6 (by decide)]; exact hg.2.2.2.1) (by rw [e 8 (by decide)]; exact hg.2.2.2.2.1) (e 9 (by decide)) (e 10 (by decide)) (zup_ne (by decide)) (zup_ne (by decide)) (by rw [e 11 (by decide)]; exact hg.2.2.2.2.2.2.2)
  rw [up_rd]
  split
  · exact ⟨a, ha, rfl⟩
  · exact hg.2.2.1 t ht
theorem zVg_6 {V : zS} {n s : Nat} (hg : zVg V n) : zVg (up V 6 s 0) n := by
  have e : ∀ q, q ≠ 6 → up V 6 s 0 q = V q := fun q hq => funext fun b => zup_ne hq
  refine zVg_c hg (zup_ne (by decide)) (by rw [e 3 (by decide)]; exact hg.2.2.1) (fun t ht => ?_) (by rw [e 8 (by decide)]; exact hg.2.2.2.2.1) (e 9 (by decide)) (e 10 (by decide)) (zup_ne (by decide)) (zup_ne (by decide)) (by rw [e 11 (by decide)]; exact hg.2.2.2.2.2.2.2)
  rw [up_rd]
  split
  · exact Or.inl rfl
  · exact hg.2.2.2.1 t ht
theorem zVg_8 {V : zS} {n s : Nat} {v : Int32} (hg : zVg V n) (hv : v = -1 ∨ (s < n ∧ ∃ w a, w ≤ 4 ∧ a < 12 ∧ v = nI (w + 10 * a))) : zVg (up V 8 s v) n := by
  have e : ∀ q, q ≠ 8 → up V 8 s v q = V q := fun q hq => funext fun b => zup_ne hq
  refine zVg_c hg (zup_ne (by decide)) (by rw [e 3 (by decide)]; exact hg.2.2.1) (by rw [e 6 (by decide)]; exact hg.2.2.2.1) (fun t ht => ?_) (e 9 (by decide)) (e 10 (by decide)) (zup_ne (by decide)) (zup_ne (by decide)) (by rw [e 11 (by decide)]; exact hg.2.2.2.2.2.2.2)
  rw [up_rd]
  split
  · rename_i z; rw [z.2]; exact hv
  · exact hg.2.2.2.2.1 t ht
theorem dDn_g {T : zTe} {B : Nat → Int32} {n s w a : Nat} {V : zS} (hB : zBok B) (hg : zVg V n) (hs : s < n) (ha : a < 12) : zVg (dDn T B n V s w a) n := by
  obtain ⟨p, hp, hpV⟩ := hg.2.2.1 s hs
  have hup : un (V 3 s) = p := by rw [hpV]; exact un_nI (by omega)
  have h7 : ∀ v, zVg (up V 7 s v) n := fun v => zVg_u hg (by omega)
  have h5 : ∀ v u, zVg (up (up V 7 s v) 5 s u) n := fun v u => zVg_u (h7 v) (by omega)
  unfold dDn
  rw [hup]
  split
  · exact zVg_3 (h5 _ _) (ztw_lt hB hp ha)
  · split
    · exact h5 _ _
    · split
      · exact zVg_u (h5 _ _) (by omega)
      · split
        · exact zVg_u (h5 _ _) (by omega)
        · exact h5 _ _
theorem dDr_g {T : zTe} {n s w : Nat} {th : Bool} {V : zS} (hg : zVg V n) : zVg (dDr T n th V s w) n := by
  unfold dDr
  split
  · exact zVg_u hg (by omega)
  · exact hg
theorem dOb_g {T : zTe} {B : Nat → Int32} {n s w a : Nat} {th : Bool} {V : zS} (hB : zBok B) (hg : zVg V n) (hs : s < n) (ha : a < 12) : zVg (dOb T B n th V s w a) n := by
  unfold dOb
  split
  · exact dW_g (dDn_g hB (dDr_g hg) hs ha)
  · exact dW_g (zVg_u (dDr_g hg) (by omega))
theorem dOr_g {T : zTe} {B : Nat → Int32} {n s d : Nat} {th g : Bool} {V : zS} (hB : zBok B) (hg : zVg V n) (hs : s < n) (hd : d % 10 ≤ 5) (ha : d / 10 < 12) : zVg (dOr T B n th V s d g) n := by
  unfold dOr
  split
  · exact hg
  · split
    · exact zVg_8 (dW_g hg) (Or.inl rfl)
    · rename_i h5
      split
      · exact zVg_8 (dOb_g hB hg hs ha) (Or.inr ⟨hs, d % 10, d / 10, by omega, ha, by rw [show d % 10 + 10 * (d / 10) = d by omega]⟩)
      · exact dOb_g hB hg hs ha
/-- yesterday's orders -/
def dOs (T : zTe) (B : Nat → Int32) (n : Nat) (th : Bool) : Nat → Nat → zS → Int32 → Nat → zS × Int32 × Nat
  | 0, _, V, acc, c => (V, acc, c)
  | m + 1, i, V, acc, c => dOs T B n th m (i + 1) (dOr T B n th V (un (V 10 i) / 1000 % 100) (un (V 10 i) % 1000) (decide (100000 ≤ un (V 10 i)))) (acc ||| 1 <<< (nI (un (V 10 i) / 1000 % 100) &&& 31)) (c + dOc T n th V (un (V 10 i) / 1000 % 100) (un (V 10 i) % 1000))
def dSt (T : zTe) (B : Nat → Int32) (n : Nat) (th : Bool) (acc : Int32) : Nat → Nat → zS → Nat → zS × Nat
  | 0, _, V, c => (V, c)
  | m + 1, s, V, c => if zbt acc s = true ∨ V 8 s = -1 then dSt T B n th acc m (s + 1) V c else dSt T B n th acc m (s + 1) (dOr T B n th V s (un (V 8 s)) true) (c + dOc T n th V s (un (V 8 s)))
def dFi (T : zTe) (n : Nat) : Nat → Nat → zS → zS
  | 0, _, V => V
  | m + 1, p, V => dFi T n m (p + 1) (if 0 < V 1 p then up V 1 p (zmn9 (V 1 p + T 2 (zFv V n false 0 p 0))) else V)
def dDw (th : Bool) (n p : Nat) : Nat → Nat → zS → zS
  | 0, _, V => V
  | m + 1, s, V => dDw th n p m (s + 1) (if s < n ∧ V 6 s = 1 ∧ V 3 s = nI p then dW th 3 (nI s) (nI p) (up (up V 6 s 0) 11 15 (V 11 15 + 1)) else V)
def dSe (th : Bool) (n : Nat) : Nat → Nat → zS → zS
  | 0, _, V => V
  | m + 1, p, V => dSe th n m (p + 1) (if V 0 p < V 11 14 ∧ V 2 p / 10 < V 11 14 then up (dDw th n p 18 0 V) 1 p 0 else V)
def dTi (td tp tv : Nat → Nat) : Nat → Nat → zS → zS
  | 0, _, V => V
  | m + 1, l, V => dTi td tp tv m (l + 1) (if nI (td l) = V 11 17 then (if tp l < 12 then up V 1 (tp l) (nI (tv l)) else up V 11 14 (nI (tv l))) else V)
def dGv (V : zS) (o : Int32) : zS := if V 11 12 = 24 then V else up (up V 9 (un (V 11 12)) o) 11 12 (V 11 12 + 1)
def dLe (ed : Nat → Nat) (eo : Nat → Int32) : Nat → Nat → zS → zS
  | 0, _, V => V
  | m + 1, l, V => dLe ed eo m (l + 1) (if nI (ed l) = V 11 17 then dGv V (eo l) else V)
def dNi (V : zS) : zS := up (up (up (fil V 10 24 (V 9)) 11 13 (V 11 12)) 11 12 0) 11 17 (V 11 17 + 1)
def dDay (T : zTe) (B : Nat → Int32) (n : Nat) (th : Bool) (nT : Nat) (td tp tv : Nat → Nat) (nE : Nat) (ed : Nat → Nat) (eo : Nat → Int32) (V : zS) : zS × Nat :=
  let V1 := dTi td tp tv nT 0 V
  let r := dOs T B n th (un (V1 11 13)) 0 V1 0 0
  let q := dSt T B n th r.2.1 18 0 r.1 r.2.2
  (dNi (dLe ed eo nE 0 (dSe th n 12 0 (dFi T n 12 0 q.1))), q.2)
theorem zOg_d {n : Nat} {o : Int32} (hn18 : n ≤ 18) (h : zOg n o) : un o < 200000 ∧ o = nI (un o) ∧ un o / 1000 % 100 < n ∧ un o % 1000 % 10 ≤ 5 ∧ un o % 1000 / 10 < 12 := by
  obtain ⟨w, a, s, g, h1, h2, h3, h4, h5, e⟩ := h
  have hu : un o = w + 10 * a + 1000 * s + 100000 * g := by rw [e]; exact un_nI (by omega)
  rw [hu]
  exact ⟨by omega, e, by omega, by omega, by omega⟩
theorem dFi_g {T : zTe} {n : Nat} : ∀ (m p : Nat) (V : zS), zVg V n → zVg (dFi T n m p V) n
  | 0, _, V, h => h
  | m + 1, p, V, h => dFi_g m (p + 1) _ (by split; exact zVg_u h (by omega); exact h)

