/-! what a day keeps: walls, the day's number, those who aren't -/
def dZ (n : Nat) (V U : zS) : Prop := (∀ p, p < 12 → V 2 p ≤ 99 → U 2 p ≤ 99) ∧ U 11 17 = V 11 17 ∧ ∀ s, n ≤ s → U 5 s = V 5 s ∧ U 7 s = V 7 s
theorem dZ.rf {n : Nat} {V : zS} : dZ n V V := ⟨fun _ _ h => h, rfl, fun _ _ => ⟨rfl, rfl⟩⟩
theorem dZ.tr {n : Nat} {V U X : zS} (h1 : dZ n V U) (h2 : dZ n U X) : dZ n V X := ⟨fun p hp h => h2.1 p hp (h1.1 p hp h), h2.2.1.trans h1.2.1, fun s hs => ⟨(h2.2.2 s hs).1.trans (h1.2.2 s hs).1, (h2.2.2 s hs).2.trans (h1.2.2 s hs).2⟩⟩
theorem dZ.put {n : Nat} {V U : zS} {r i : Nat} {v : Int32} (h : dZ n V U) (h2 : r = 2 → v ≤ 99) (h5 : r = 5 ∨ r = 7 → i < n) (h11 : ¬ (r = 11 ∧ i = 17)) : dZ n V (up U r i v) := ⟨fun p hp hv => by
    by_cases e : r = 2 ∧ i = p
    · rw [← e.2, e.1, zup_eq]; exact h2 e.1
    · rw [zup_n2 (by omega)]; exact h.1 p hp hv, by rw [zup_n2 (by omega)]; exact h.2.1, fun s hs => by
    rw [zup_n2 (by omega), zup_n2 (by omega)]; exact h.2.2 s hs⟩
theorem zmn9_le (v : Int32) : zmn9 v ≤ 99 := by
  unfold zmn9
  split
  · decide
  · grind
theorem dW_z {th : Bool} {wh who mu : Int32} {V : zS} {n : Nat} : dZ n V (dW th wh who mu V) := by
  unfold dW
  split
  · exact dZ.rf
  · exact ((((dZ.rf.put (by omega) (by omega) (by omega)).put (by omega) (by omega) (by omega)).put (by omega) (by omega) (by omega)).put (by omega) (by omega) (by omega)).put (by omega) (by omega) (by omega)
theorem dDn_z {T : zTe} {B : Nat → Int32} {n s w a : Nat} {V : zS} (hs : s < n) : dZ n V (dDn T B n V s w a) := by
  unfold dDn
  split
  · exact ((dZ.rf.put (by omega) (by omega) (by omega)).put (by omega) (by omega) (by omega)).put (by omega) (by omega) (by omega)
  · split
    · exact (dZ.rf.put (by omega) (by omega) (by omega)).put (by omega) (by omega) (by omega)
    · split
      · exact ((dZ.rf.put (by omega) (by omega) (by omega)).put (by omega) (by omega) (by omega)).put (fun _ => zmn9_le _) (by omega) (by omega)
      · split
        · exact ((dZ.rf.put (by omega) (by omega) (by omega)).put (by omega) (by omega) (by omega)).put (by omega) (by omega) (by omega)
        · exact (dZ.rf.put (by omega) (by omega) (by omega)).put (by omega) (by omega) (by omega)
theorem dDr_z {T : zTe} {n s w : Nat} {th : Bool} {V : zS} : dZ n V (dDr T n th V s w) := by
  unfold dDr
  split
  · exact dZ.rf.put (by omega) (by omega) (by omega)
  · exact dZ.rf
theorem dOb_z {T : zTe} {B : Nat → Int32} {n s w a : Nat} {th : Bool} {V : zS} (hs : s < n) : dZ n V (dOb T B n th V s w a) := by
  unfold dOb
  split
  · exact (dDr_z.tr (dDn_z hs)).tr dW_z
  · exact (dDr_z.put (by omega) (by omega) (by omega)).tr dW_z
theorem dOr_z {T : zTe} {B : Nat → Int32} {n s d : Nat} {th g : Bool} {V : zS} (hs : s < n) : dZ n V (dOr T B n th V s d g) := by
  unfold dOr
  split
  · exact dZ.rf
  · split
    · exact dW_z.put (by omega) (by omega) (by omega)
    · split
      · exact (dOb_z hs).put (by omega) (by omega) (by omega)
      · exact dOb_z hs
theorem dOs_z {T : zTe} {B : Nat → Int32} {n b : Nat} {th : Bool} (hB : zBok B) (hb : b ≤ 24) : ∀ (m i : Nat) (V : zS) (acc : Int32) (c : Nat), i + m = b → V 11 13 = nI b → zVg V n → dZ n V (dOs T B n th m i V acc c).1
  | 0, _, _, _, _, _, _, h => dZ.rf
  | m + 1, i, V, acc, c, hi, hv, h => by
    obtain ⟨t, ht, ht2, ht3⟩ := id h.2.2.2.2.2.2.1
    have e : t = b := (nI_eq (by omega) (by omega)).mp (ht2.symm.trans hv)
    obtain ⟨o1, o2, o3, o4, o5⟩ := zOg_d h.2.1 (ht3 i (by omega))
    exact (dOr_z o3).tr (dOs_z hB hb m (i + 1) _ _ _ (by omega) (dOr_rw.2.trans hv) (dOr_g hB h o3 o4 o5))
theorem dSt_z {T : zTe} {B : Nat → Int32} {n : Nat} {th : Bool} {acc : Int32} (hB : zBok B) : ∀ (m s : Nat) (V : zS) (c : Nat), s + m = 18 → zVg V n → dZ n V (dSt T B n th acc m s V c).1
  | 0, _, _, _, _, h => dZ.rf
  | m + 1, s, V, c, hs, h => by
    unfold dSt
    split
    · exact dSt_z hB m (s + 1) V c (by omega) h
    · rename_i hc
      rcases h.2.2.2.2.1 s (by omega) with e | ⟨h1, w, a, hw, ha, e⟩
      · exact absurd (Or.inr e) hc
      · have hu : un (V 8 s) = w + 10 * a := by rw [e]; exact un_nI (by omega)
        rw [hu]
        exact (dOr_z h1).tr (dSt_z hB m (s + 1) _ _ (by omega) (dOr_g hB h h1 (by omega) (by omega)))
theorem dFi_z {T : zTe} {n : Nat} : ∀ (m p : Nat) (V : zS), dZ n V (dFi T n m p V)
  | 0, _, _ => dZ.rf
  | m + 1, p, V => by
    unfold dFi
    split
    · exact (dZ.rf.put (by omega) (by omega) (by omega)).tr (dFi_z m (p + 1) _)
    · exact dFi_z m (p + 1) _
theorem dDw_z {th : Bool} {n p : Nat} : ∀ (m s : Nat) (V : zS), dZ n V (dDw th n p m s V)
  | 0, _, _ => dZ.rf
  | m + 1, s, V => by
    unfold dDw
    split
    · exact (((dZ.rf.put (by omega) (by omega) (by omega)).put (by omega) (by omega) (by omega)).tr dW_z).tr (dDw_z m (s + 1) _)
    · exact dDw_z m (s + 1) _
theorem dSe_z {th : Bool} {n : Nat} : ∀ (m p : Nat) (V : zS), dZ n V (dSe th n m p V)
  | 0, _, _ => dZ.rf
  | m + 1, p, V => by
    unfold dSe
    split
    · exact ((dDw_z 18 0 V).put (by omega) (by omega) (by omega)).tr (dSe_z m (p + 1) _)
    · exact dSe_z m (p + 1) _
theorem dTi_z {td tp tv : Nat → Nat} {n : Nat} : ∀ (m l : Nat) (V : zS), dZ n V (dTi td tp tv m l V)
  | 0, _, _ => dZ.rf
  | m + 1, l, V => by
    unfold dTi
    split
    · split
      · exact (dZ.rf.put (by omega) (by omega) (by omega)).tr (dTi_z m (l + 1) _)
      · exact (dZ.rf.put (by omega) (by omega) (by omega)).tr (dTi_z m (l + 1) _)
    · exact dTi_z m (l + 1) _
theorem dLe_z {ed : Nat → Nat} {eo : Nat → Int32} {n : Nat} : ∀ (m l : Nat) (V : zS), dZ n V (dLe ed eo m l V)
  | 0, _, _ => dZ.rf
  | m + 1, l, V => by
    unfold dLe dGv
    split
    · split
      · exact dLe_z m (l + 1) _
      · exact ((dZ.rf.put (by omega) (by omega) (by omega)).put (by omega) (by omega) (by omega)).tr (dLe_z m (l + 1) _)
    · exact dLe_z m (l + 1) _
/-- a day: all that the invariant asks of the duchy -/
theorem dDay_g {T : zTe} {B : Nat → Int32} {n nT nE : Nat} {th : Bool} {td tp tv ed : Nat → Nat} {eo : Nat → Int32} {V : zS} (hB : zBok B) (hg : zVg V n) (ho : ∀ l, l < nE → zOg n (eo l)) : zVg (dDay T B n th nT td tp tv nE ed eo V).1 n ∧ (∀ p, p < 12 → V 2 p ≤ 99 → (dDay T B n th nT td tp tv nE ed eo V).1 2 p ≤ 99) ∧ (dDay T B n th nT td tp tv nE ed eo V).1 11 17 = V 11 17 + 1 ∧ ∀ s, n ≤ s → (dDay T B n th nT td tp tv nE ed eo V).1 5 s = V 5 s ∧ (dDay T B n th nT td tp tv nE ed eo V).1 7 s = V 7 s := by
  have g1 : zVg (dTi td tp tv nT 0 V) n := dTi_g nT 0 V hg
  have z1 : dZ n V (dTi td tp tv nT 0 V) := dTi_z nT 0 V
  unfold dDay
  dsimp only
  generalize dTi td tp tv nT 0 V = V1 at *
  obtain ⟨b, hb, hb2, _⟩ := id g1.2.2.2.2.2.2.1
  have hub : un (V1 11 13) = b := by rw [hb2]; exact un_nI (by omega)
  rw [hub]
  have g2 : zVg (dOs T B n th b 0 V1 0 0).1 n := dOs_g hB hb b 0 _ 0 0 (by omega) hb2 g1
  have z2 : dZ n V1 (dOs T B n th b 0 V1 0 0).1 := dOs_z hB hb b 0 _ 0 0 (by omega) hb2 g1
  generalize dOs T B n th b 0 V1 0 0 = r at *
  have g3 : zVg (dSt T B n th r.2.1 18 0 r.1 r.2.2).1 n := dSt_g hB 18 0 _ _ (by omega) g2
  have z3 : dZ n r.1 (dSt T B n th r.2.1 18 0 r.1 r.2.2).1 := dSt_z hB 18 0 _ _ (by omega) g2
  generalize dSt T B n th r.2.1 18 0 r.1 r.2.2 = q at *
  have g4 := dLe_g (ed := ed) ho nE 0 _ (by omega) (dSe_g (th := th) 12 0 _ (dFi_g (T := T) 12 0 _ g3))
  have z4 := (((z1.tr z2).tr z3).tr ((dFi_z (T := T) 12 0 q.1).tr ((dSe_z (th := th) 12 0 _).tr (dLe_z (ed := ed) (eo := eo) nE 0 _))))
  generalize dLe ed eo nE 0 (dSe th n 12 0 (dFi T n 12 0 q.1)) = U at *
  refine ⟨dNi_g g4, fun p hp hv => ?_, ?_, fun s hs => ?_⟩
  · rw [dNi_r (by decide) (by decide)]; exact z4.1 p hp hv
  · unfold dNi
    rw [zup_eq, z4.2.1]
  · rw [dNi_r (by decide) (by decide), dNi_r (by decide) (by decide)]; exact z4.2.2 s hs

