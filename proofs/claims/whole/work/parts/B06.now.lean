/-! the duchy changes, what went is forgotten -/
def dc (a b : Nat) : Prop := (2 ≤ a ∧ a ≤ 14) ∨ a = 196 ∨ a = 199 ∨ a = 200 ∨ a = 201 ∨ (a = 95 ∧ b = 2) ∨ (a = 195 ∧ (b = 3 ∨ b = 6))
theorem zOm_m {n m : Nat} {o u : Int32} (h : zOm n o u) (hm : n ≤ m) : zOm m o u := by
  obtain ⟨w, a, s, g, h1, h2, h3, h4⟩ := h
  exact ⟨w, a, s, g, h1, h2, by omega, h4⟩
theorem zOg_m {n m : Nat} {o : Int32} (h : zOg n o) (hm : n ≤ m) : zOg m o := by
  obtain ⟨w, a, s, g, h1, h2, h3, h4⟩ := h
  exact ⟨w, a, s, g, h1, h2, by omega, h4⟩
theorem INV_D {σ τ V V' : zS} {n m : Nat} (h : INV σ) (h0 : vD σ n V) (hm : n ≤ m) (hD : vD τ m V') (e : ∀ a b, ¬ sc a b → ¬ dc a b → τ a b = σ a b) (e95 : τ 95 2 = 0) (e3 : τ 195 3 = 0) : INV τ := by
  obtain ⟨n', V2, h1, h2, h3, h4, h5, h6, h7, h8, h9⟩ := h
  have hn : n = n' := nI_j h1.2.2.2.2.1 h0.2.2.2.2.1 (by have := h1.2.2.1.2.1; omega) (by have := h0.2.2.1.2.1; omega)
  subst hn
  have h5' : vE σ m := by
    obtain ⟨nE, ed, eo, a1, a2, a3, a4⟩ := h5
    exact ⟨nE, ed, eo, a1, a2, a3, fun l hl => ⟨(a4 l hl).1, zOm_m (a4 l hl).2 hm⟩⟩
  obtain ⟨c, la, p1, p2, p3, p4, p5, p6⟩ := h8
  refine ⟨m, V', hD, vL_f h2 (fun a b x => e a b (by unfold sc; omega) (by unfold dc; omega)), ?_, vT_f h4 (fun a b x => e a b (by unfold sc; omega) (by unfold dc; omega)), vE_f h5' (fun a b x => e a b (by unfold sc; omega) (by unfold dc; omega)), vO_f h6 (fun a b x => e a b (by unfold sc; omega) (by unfold dc; omega)), vA_f h7 (fun a b x => e a b (by unfold sc; omega) (by unfold dc; omega)), ⟨0, la, by omega, p2, e95, e3, (e 95 1 (by unfold sc; omega) (by unfold dc; omega)).trans p5, fun i hi => by omega⟩, vI_f h9 (fun a b x => e a b (by unfold sc; omega) (by unfold dc; omega))⟩
  obtain ⟨rows, r⟩ := id h3
  exact vR_f h3 (fun a b x => e a b (by unfold sc; omega) (by unfold dc; omega)) (vR_z r.2.2.2.2.2.2 (fun a b x => e a b (by unfold sc; omega) (by unfold dc; omega)))
theorem zKk2 : zKk 2 := by unfold zKk; omega
theorem zup_z {σ : zS} {a b c e : Nat} {v : Int32} (h : a ≠ c) : up σ a b v c e = σ c e := zup_n2 (fun z => h z.1.symm)
/-- one number of the duchy on both sides, and what went is forgotten -/
theorem vD_x {σ τ V V' : zS} {n : Nat} (hk : zVk τ 2 false V') (hm : zVm τ V' n false) (hg : zVg V' n) (hz : ∀ s, n ≤ s → s < 18 → V' 5 s = 0 ∧ V' 7 s = 0) (h6 : τ 195 6 = nI n) (h5 : τ 195 5 = 0) (hx : vX V') : vD τ n V' := ⟨hk, hm, hg, hz, h6, h5, hx⟩
theorem zVm_h {σ V : zS} {n p : Nat} {th : Bool} {u v : Int32} (h : zVm σ V n th) (hu : u + 5 = v) : zVm (up σ 199 p u) (up V 0 p v) n th := by
  obtain ⟨h1, h2, h3, h4, h5, h6, h7, h8⟩ := h
  have e : ∀ a b, a ≠ 199 → up σ 199 p u a b = σ a b := fun a b x => zup_n2 (fun z => x z.1)
  have g : ∀ a b, a ≠ 0 → up V 0 p v a b = V a b := fun a b x => zup_n2 (fun z => x z.1)
  refine ⟨?_, fun q hq => ?_, fun s hs => ?_, fun s hs => ?_, ?_, fun i hi hi2 => ?_, fun i hi hi2 => ?_, fun ht i hi => ?_⟩
  · rw [e 196 0 (by decide), e 196 1 (by decide), e 196 2 (by decide), e 196 3 (by decide), e 196 4 (by decide), e 196 5 (by decide), g 11 17 (by decide), g 11 18 (by decide), g 11 19 (by decide), g 11 14 (by decide), g 11 15 (by decide), g 11 16 (by decide)]; exact h1
  · rw [e _ _ (by decide), e _ _ (by decide), g _ _ (by decide), g _ _ (by decide)]
    refine ⟨(h2 q hq).1, (h2 q hq).2.1, ?_⟩
    by_cases x : q = p
    · rw [x, zup_eq, zup_eq]; exact hu
    · rw [zup_n2 (fun z => x z.2), zup_n2 (fun z => x z.2)]; exact (h2 q hq).2.2
  · rw [e _ _ (by decide), e _ _ (by decide), e _ _ (by decide), g _ _ (by decide), g _ _ (by decide), g _ _ (by decide)]; exact h3 s hs
  · rw [e _ _ (by decide), e _ _ (by decide), e _ _ (by decide), g _ _ (by decide), g _ _ (by decide), g _ _ (by decide)]; exact h4 s hs
  · rw [e _ _ (by decide), e _ _ (by decide), g _ _ (by decide), g _ _ (by decide)]; exact h5
  · rw [g _ _ (by decide)] at hi
    rw [e _ _ (by decide), g _ _ (by decide)]; exact h6 i hi hi2
  · rw [g _ _ (by decide)] at hi
    rw [e _ _ (by decide), g _ _ (by decide)]; exact h7 i hi hi2
  · rw [e _ _ (by decide), g _ _ (by decide)]; exact h8 ht i hi
theorem zVm_e {σ V : zS} {n p : Nat} {th : Bool} {v : Int32} (h : zVm σ V n th) : zVm (up σ 200 p v) (up V 4 p v) n th := by
  obtain ⟨h1, h2, h3, h4, h5, h6, h7, h8⟩ := h
  have e : ∀ a b, a ≠ 200 → up σ 200 p v a b = σ a b := fun a b x => zup_n2 (fun z => x z.1)
  have g : ∀ a b, a ≠ 4 → up V 4 p v a b = V a b := fun a b x => zup_n2 (fun z => x z.1)
  refine ⟨?_, fun q hq => ?_, fun s hs => ?_, fun s hs => ?_, ?_, fun i hi hi2 => ?_, fun i hi hi2 => ?_, fun ht i hi => ?_⟩
  · rw [e 196 0 (by decide), e 196 1 (by decide), e 196 2 (by decide), e 196 3 (by decide), e 196 4 (by decide), e 196 5 (by decide), g 11 17 (by decide), g 11 18 (by decide), g 11 19 (by decide), g 11 14 (by decide), g 11 15 (by decide), g 11 16 (by decide)]; exact h1
  · rw [e _ _ (by decide), e _ _ (by decide), e _ _ (by decide), g _ _ (by decide), g _ _ (by decide), g _ _ (by decide)]; exact h2 q hq
  · rw [e _ _ (by decide), e _ _ (by decide), g _ _ (by decide), g _ _ (by decide)]
    refine ⟨(h3 s hs).1, (h3 s hs).2.1, ?_⟩
    by_cases x : s = p
    · rw [x, zup_eq, zup_eq]
    · rw [zup_n2 (fun z => x z.2), zup_n2 (fun z => x z.2)]; exact (h3 s hs).2.2
  · rw [e _ _ (by decide), e _ _ (by decide), e _ _ (by decide), g _ _ (by decide), g _ _ (by decide), g _ _ (by decide)]; exact h4 s hs
  · rw [e _ _ (by decide), e _ _ (by decide), g _ _ (by decide), g _ _ (by decide)]; exact h5
  · rw [g _ _ (by decide)] at hi
    rw [e _ _ (by decide), g _ _ (by decide)]; exact h6 i hi hi2
  · rw [g _ _ (by decide)] at hi
    rw [e _ _ (by decide), g _ _ (by decide)]; exact h7 i hi hi2
  · rw [e _ _ (by decide), g _ _ (by decide)]; exact h8 ht i hi
theorem c_state {v : Int32} : zPr 121 175 [.int v] := fun σ hI => by
  obtain ⟨n, V, hD, _⟩ := id hI
  obtain ⟨hV, hm, hg, hz, hs, h5, hx⟩ := id hD
  refine s_kstate (d := 9) (s_mstate (d := 10) ⟨?_, ?_⟩)
  · rw [zup_z (by decide), zup_z (by decide), hV.2.1 18 (by decide) (by decide)]; exact hm.1.2.1
  · refine INV_D (V' := up V 11 18 v) hI hD (Nat.le_refl n) ⟨?_, ?_, zVg_u hg (by omega), fun s g1 g2 => ?_, ?_, ?_, vX_x hx (fun j i h => zup_n2 (by omega))⟩ (fun a b x y => ?_) ?_ ?_
    · exact zVk_o zKk2 (zVk_f zKk2 hV (f := 18) (by omega) (by omega)) (l := [95, 195, 196]) ((((Fr.rf.put (by decide)).put (by decide)).put (by decide)).put (by decide)) (by decide)
    · have m1 : zVm (up (up (up σ 2 18 v) 95 2 0) 195 0 0) V n false := zVm_o hm (((Fr.rf (l := [2, 95, 195])).put (by decide)).put (by decide) |>.put (by decide)) (by decide)
      exact zVm_o (zVm_u (m := 1) (r := 11) (i := 18) (v := v) hg.2.1 m1 ⟨zCnf (by omega), fun _ _ => rfl, fun z => by omega, fun z => by omega⟩) ((Fr.rf (l := [195])).put (by decide)) (by decide)
    · rw [zup_z (by decide), zup_z (by decide)]; exact hz s g1 g2
    · rw [zup_n2 (by omega), zup_n2 (by omega), zup_n2 (by omega), zup_n2 (by omega), zup_n2 (by omega)]; exact hs
    · rw [zup_n2 (by omega), zup_n2 (by omega), zup_n2 (by omega), zup_n2 (by omega), zup_n2 (by omega)]; exact h5
    · unfold sc at x; unfold dc at y
      rw [zup_n2 (by omega), zup_n2 (by omega), zup_n2 (by omega), zup_n2 (by omega), zup_n2 (by omega)]
    · rw [zup_n2 (by omega), zup_n2 (by omega), zup_n2 (by omega), zup_eq]
    · exact zup_eq

