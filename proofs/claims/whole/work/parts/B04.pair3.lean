def oc (a b : Nat) : Prop := (30 ≤ a ∧ a ≤ 37) ∨ a = 224 ∨ a = 225 ∨ (a = 229 ∨ a = 230 ∨ a = 233 ∨ a = 234) ∨ (a = 195 ∧ (b = 48 ∨ b = 50 ∨ b = 56 ∨ b = 61))
theorem INV_O {σ τ : zS} (h : INV σ) (e : Fg (fun a b => sc a b ∨ oc a b) σ τ) (ho : vO τ) : INV τ := by
  obtain ⟨n, V, h1, h2, h3, h4, h5, h6, h7, h8, h9⟩ := h
  refine ⟨n, V, vD_f h1 (fun a b x => e a b (by unfold sc oc; omega)), vL_f h2 (fun a b x => e a b (by unfold sc oc; omega)), ?_, vT_f h4 (fun a b x => e a b (by unfold sc oc; omega)), vE_f h5 (fun a b x => e a b (by unfold sc oc; omega)), ho, vA_f h7 (fun a b x => e a b (by unfold sc oc; omega)), vP_f h8 (fun a b x => e a b (by unfold sc oc; omega)), vI_f h9 (fun a b x => e a b (by unfold sc oc; omega))⟩
  obtain ⟨rows, r⟩ := id h3
  exact vR_f h3 (fun a b x => e a b (by unfold sc oc; omega)) (vR_z r.2.2.2.2.2.2 (fun a b x => e a b (by unfold sc oc; omega)))
def oP (σ : zS) : Prop := ∃ c, c ≤ 8 ∧ σ 30 1 = nI c ∧ σ 195 48 = nI c ∧ ∀ i, i < c → σ 31 i = σ 224 i
def oS (σ : zS) : Prop := ∃ c, c ≤ 5 ∧ σ 32 1 = nI c ∧ σ 195 50 = nI c ∧ ∀ i, i < c → σ 33 i = σ 225 i ∧ zwd (σ 33 i)
def oC (σ : zS) : Prop := ∃ c, c ≤ 10 ∧ σ 34 1 = nI c ∧ σ 195 56 = nI c ∧ ∀ i, i < c → ∃ a m, a ≤ 99 ∧ m ≤ 20 ∧ σ 35 i = nI (a * 100 + m) ∧ σ 229 i = nI a ∧ σ 230 i = nI m
def oL (σ : zS) : Prop := ∃ c, c ≤ 10 ∧ σ 36 1 = nI c ∧ σ 195 61 = nI c ∧ ∀ i, i < c → ∃ a m, a ≤ 99 ∧ m ≤ 99 ∧ σ 37 i = nI (a * 100 + m) ∧ σ 233 i = nI a ∧ σ 234 i = nI m
theorem oP_f {σ τ : zS} (h : oP σ) (e : ∀ a b, (a = 30 ∧ b = 1) ∨ a = 31 ∨ (a = 195 ∧ b = 48) ∨ a = 224 → τ a b = σ a b) : oP τ := by
  obtain ⟨c, h1, h2, h3, h4⟩ := h
  exact ⟨c, h1, (e 30 1 (by omega)).trans h2, (e 195 48 (by omega)).trans h3, fun i hi => by rw [e 31 i (by omega), e 224 i (by omega)]; exact h4 i hi⟩
theorem oS_f {σ τ : zS} (h : oS σ) (e : ∀ a b, (a = 32 ∧ b = 1) ∨ a = 33 ∨ (a = 195 ∧ b = 50) ∨ a = 225 → τ a b = σ a b) : oS τ := by
  obtain ⟨c, h1, h2, h3, h4⟩ := h
  exact ⟨c, h1, (e 32 1 (by omega)).trans h2, (e 195 50 (by omega)).trans h3, fun i hi => by rw [e 33 i (by omega), e 225 i (by omega)]; exact h4 i hi⟩
theorem oC_f {σ τ : zS} (h : oC σ) (e : ∀ a b, (a = 34 ∧ b = 1) ∨ a = 35 ∨ (a = 195 ∧ b = 56) ∨ a = 229 ∨ a = 230 → τ a b = σ a b) : oC τ := by
  obtain ⟨c, h1, h2, h3, h4⟩ := h
  exact ⟨c, h1, (e 34 1 (by omega)).trans h2, (e 195 56 (by omega)).trans h3, fun i hi => by rw [e 35 i (by omega), e 229 i (by omega), e 230 i (by omega)]; exact h4 i hi⟩
theorem oL_f {σ τ : zS} (h : oL σ) (e : ∀ a b, (a = 36 ∧ b = 1) ∨ a = 37 ∨ (a = 195 ∧ b = 61) ∨ a = 233 ∨ a = 234 → τ a b = σ a b) : oL τ := by
  obtain ⟨c, h1, h2, h3, h4⟩ := h
  exact ⟨c, h1, (e 36 1 (by omega)).trans h2, (e 195 61 (by omega)).trans h3, fun i hi => by rw [e 37 i (by omega), e 233 i (by omega), e 234 i (by omega)]; exact h4 i hi⟩
theorem vO_i {σ : zS} (h1 : oP σ) (h2 : oS σ) (h3 : oC σ) (h4 : oL σ) : vO σ := ⟨h1, h2, h3, h4⟩
theorem vO_e {σ : zS} (h : vO σ) : oP σ ∧ oS σ ∧ oC σ ∧ oL σ := h
theorem c_prophet {v : Int32} : zPr 140 262 [.int v] := fun σ hI => by
  obtain ⟨n0, V, h1, h2, h3, h4, h5, h6, h7, h8, h9⟩ := id hI
  obtain ⟨hP, hS, hC, hL⟩ := vO_e h6
  obtain ⟨c, cN, e1, e2, e3⟩ := id hP
  refine s_kprophet (d := 9) e1 cN ⟨fun a => ?_, fun a b hc => ?_, fun a b => ?_⟩
  · refine s_mprophet (d := 9) (c := c) ((zup_n2 (by omega)).trans e2) cN (fun _ => ⟨rfl, ?_⟩) (fun z _ _ _ => absurd a z) (fun z _ => absurd a z)
    have f : ∀ a b, ¬ (a = 30 ∧ b = 1) → ¬ (a = 195 ∧ (b = 0 ∨ b = 48)) → up (up (up σ 30 1 0) 195 0 0) 195 48 0 a b = σ a b := fun a b x y => (zup_n2 (by omega)).trans ((zup_n2 (by omega)).trans (zup_n2 (by omega)))
    refine INV_O hI (fun a b x => f a b (by unfold sc oc at x; omega) (by unfold sc oc at x; omega)) (vO_i ⟨0, by omega, ?_, zup_eq, fun i hi => by omega⟩ (oS_f hS (fun a b x => f a b (by omega) (by omega))) (oC_f hC (fun a b x => f a b (by omega) (by omega))) (oL_f hL (fun a b x => f a b (by omega) (by omega))))
    rw [zup_n2 (by omega), zup_n2 (by omega), zup_eq]; rfl
  · refine s_mprophet (d := 9) (c := c) ((zup_n2 (by omega)).trans ((zup_n2 (by omega)).trans e2)) cN (fun z => absurd z a) (fun _ g1 g2 gc => ⟨rfl, ?_⟩) (fun _ y => absurd y (by rintro (y | y); exact y b; omega))
    have f : ∀ a b, ¬ (a = 30 ∧ b = 1) → ¬ (a = 195 ∧ (b = 0 ∨ b = 48)) → ¬ (a = 31 ∧ b = c) → ¬ (a = 224 ∧ b = c) → up (up (up (up (up σ 31 c (v)) 30 1 (nI (c + 1))) 195 0 0) 224 c v) 195 48 (nI (c + 1)) a b = σ a b := fun a b n0 n1 n2 n3 => (zup_n2 (by omega)).trans ((zup_n2 (by omega)).trans ((zup_n2 (by omega)).trans ((zup_n2 (by omega)).trans (zup_n2 (by omega)))))
    refine INV_O hI (fun a b x => f a b (by unfold sc oc at x; omega) (by unfold sc oc at x; omega) (by unfold sc oc at x; omega) (by unfold sc oc at x; omega)) (vO_i ⟨c + 1, by omega, ?_, zup_eq, ?_⟩ (oS_f hS (fun a b x => f a b (by omega) (by omega) (by omega) (by omega))) (oC_f hC (fun a b x => f a b (by omega) (by omega) (by omega) (by omega))) (oL_f hL (fun a b x => f a b (by omega) (by omega) (by omega) (by omega))))
    · rw [zup_n2 (by omega), zup_n2 (by omega), zup_n2 (by omega), zup_eq]
    · intro i hi
      by_cases q : i = c
      · subst q
        rw [zup_n2 (by omega), zup_n2 (by omega), zup_n2 (by omega), zup_n2 (by omega), zup_eq, zup_n2 (by omega), zup_eq]
      · rw [f 31 i (by omega) (by omega) (by omega) (by omega), f 224 i (by omega) (by omega) (by omega) (by omega)]
        exact e3 i (by omega)
  · exact s_mprophet (d := 9) (c := c) e2 cN (fun z => absurd z a) (fun _ g1 g2 gc => absurd b (by rintro (y | y); exact y ⟨g1, g2⟩; omega)) (fun _ _ => zPr_i hI sc_u)
theorem c_spell {v : Int32} : zPr 142 265 [.int v] := fun σ hI => by
  obtain ⟨n0, V, h1, h2, h3, h4, h5, h6, h7, h8, h9⟩ := id hI
  obtain ⟨hP, hS, hC, hL⟩ := vO_e h6
  obtain ⟨c, cN, e1, e2, e3⟩ := id hS
  refine s_kspell (d := 8) e1 cN ⟨fun a => ?_, fun a b hc => ?_, fun a b => ?_⟩
  · refine s_mspell (d := 9) (c := c) ((zup_n2 (by omega)).trans e2) cN (fun _ => ⟨rfl, ?_⟩) (fun z _ _ => absurd a z) (fun z _ => absurd a z)
    have f : ∀ a b, ¬ (a = 32 ∧ b = 1) → ¬ (a = 195 ∧ (b = 0 ∨ b = 50)) → up (up (up σ 32 1 0) 195 0 0) 195 50 0 a b = σ a b := fun a b x y => (zup_n2 (by omega)).trans ((zup_n2 (by omega)).trans (zup_n2 (by omega)))
    refine INV_O hI (fun a b x => f a b (by unfold sc oc at x; omega) (by unfold sc oc at x; omega)) (vO_i (oP_f hP (fun a b x => f a b (by omega) (by omega))) ⟨0, by omega, ?_, zup_eq, fun i hi => by omega⟩ (oC_f hC (fun a b x => f a b (by omega) (by omega))) (oL_f hL (fun a b x => f a b (by omega) (by omega))))
    rw [zup_n2 (by omega), zup_n2 (by omega), zup_eq]; rfl
  · refine s_mspell (d := 9) (c := c) ((zup_n2 (by omega)).trans ((zup_n2 (by omega)).trans e2)) cN (fun z => absurd z a) (fun _ g1 gc => ⟨rfl, ?_⟩) (fun _ y => absurd y (by rintro (y | y); exact y b; omega))
    have f : ∀ a b, ¬ (a = 32 ∧ b = 1) → ¬ (a = 195 ∧ (b = 0 ∨ b = 50)) → ¬ (a = 33 ∧ b = c) → ¬ (a = 225 ∧ b = c) → up (up (up (up (up σ 33 c (v)) 32 1 (nI (c + 1))) 195 0 0) 225 c v) 195 50 (nI (c + 1)) a b = σ a b := fun a b n0 n1 n2 n3 => (zup_n2 (by omega)).trans ((zup_n2 (by omega)).trans ((zup_n2 (by omega)).trans ((zup_n2 (by omega)).trans (zup_n2 (by omega)))))
    refine INV_O hI (fun a b x => f a b (by unfold sc oc at x; omega) (by unfold sc oc at x; omega) (by unfold sc oc at x; omega) (by unfold sc oc at x; omega)) (vO_i (oP_f hP (fun a b x => f a b (by omega) (by omega) (by omega) (by omega))) ⟨c + 1, by omega, ?_, zup_eq, ?_⟩ (oC_f hC (fun a b x => f a b (by omega) (by omega) (by omega) (by omega))) (oL_f hL (fun a b x => f a b (by omega) (by omega) (by omega) (by omega))))
    · rw [zup_n2 (by omega), zup_n2 (by omega), zup_n2 (by omega), zup_eq]
    · intro i hi
      by_cases q : i = c
      · subst q
        rw [zup_n2 (by omega), zup_n2 (by omega), zup_n2 (by omega), zup_n2 (by omega), zup_eq, zup_n2 (by omega), zup_eq]
        exact ⟨rfl, b⟩
      · rw [f 33 i (by omega) (by omega) (by omega) (by omega), f 225 i (by omega) (by omega) (by omega) (by omega)]
        exact e3 i (by omega)
  · exact s_mspell (d := 9) (c := c) e2 cN (fun z => absurd z a) (fun _ g1 gc => absurd b (by rintro (y | y); exact y g1; omega)) (fun _ _ => zPr_i hI sc_u)
theorem c_comer {v w : Int32} : zPr 145 272 [.int v, .int w] := fun σ hI => by
  obtain ⟨n0, V, h1, h2, h3, h4, h5, h6, h7, h8, h9⟩ := id hI
  obtain ⟨hP, hS, hC, hL⟩ := vO_e h6
  obtain ⟨c, cN, e1, e2, e3⟩ := id hC
  refine s_kcomer (d := 9) e1 cN ⟨fun a => ?_, fun a b hc => ?_, fun a b => ?_⟩
  · refine s_mcomer (d := 9) (c := c) ((zup_n2 (by omega)).trans e2) cN (fun _ => ⟨rfl, ?_⟩) (fun z _ _ _ _ _ => absurd a z) (fun z _ => absurd a z)
    have f : ∀ a b, ¬ (a = 34 ∧ b = 1) → ¬ (a = 195 ∧ (b = 0 ∨ b = 56)) → up (up (up σ 34 1 0) 195 0 0) 195 56 0 a b = σ a b := fun a b x y => (zup_n2 (by omega)).trans ((zup_n2 (by omega)).trans (zup_n2 (by omega)))
    refine INV_O hI (fun a b x => f a b (by unfold sc oc at x; omega) (by unfold sc oc at x; omega)) (vO_i (oP_f hP (fun a b x => f a b (by omega) (by omega))) (oS_f hS (fun a b x => f a b (by omega) (by omega))) ⟨0, by omega, ?_, zup_eq, fun i hi => by omega⟩ (oL_f hL (fun a b x => f a b (by omega) (by omega))))
    rw [zup_n2 (by omega), zup_n2 (by omega), zup_eq]; rfl
  · refine s_mcomer (d := 9) (c := c) ((zup_n2 (by omega)).trans ((zup_n2 (by omega)).trans e2)) cN (fun z => absurd z a) (fun _ g1 g2 g3 g4 gc => ⟨rfl, ?_⟩) (fun _ y => absurd y (by rintro (y | y); exact y b; omega))
    have f : ∀ a b, ¬ (a = 34 ∧ b = 1) → ¬ (a = 195 ∧ (b = 0 ∨ b = 56)) → ¬ (a = 35 ∧ b = c) → ¬ (a = 229 ∧ b = c) → ¬ (a = 230 ∧ b = c) → up (up (up (up (up (up σ 35 c (v * 100 + w)) 34 1 (nI (c + 1))) 195 0 0) 229 c v) 230 c w) 195 56 (nI (c + 1)) a b = σ a b := fun a b n0 n1 n2 n3 n4 => (zup_n2 (by omega)).trans ((zup_n2 (by omega)).trans ((zup_n2 (by omega)).trans ((zup_n2 (by omega)).trans ((zup_n2 (by omega)).trans (zup_n2 (by omega))))))
    obtain ⟨x, hx, ex⟩ := zI_ofle (n := 99) b.1 b.2.1 (by omega)
    obtain ⟨m, hm, em⟩ := zI_ofle (n := 20) (v := w) (by have b1 := b.1; have b3 := b.2.2.1; have b2 := b.2.1; grind) b.2.2.2 (by omega)
    refine INV_O hI (fun a b x => f a b (by unfold sc oc at x; omega) (by unfold sc oc at x; omega) (by unfold sc oc at x; omega) (by unfold sc oc at x; omega) (by unfold sc oc at x; omega)) (vO_i (oP_f hP (fun a b x => f a b (by omega) (by omega) (by omega) (by omega) (by omega))) (oS_f hS (fun a b x => f a b (by omega) (by omega) (by omega) (by omega) (by omega))) ⟨c + 1, by omega, ?_, zup_eq, ?_⟩ (oL_f hL (fun a b x => f a b (by omega) (by omega) (by omega) (by omega) (by omega))))
    · rw [zup_n2 (by omega), zup_n2 (by omega), zup_n2 (by omega), zup_n2 (by omega), zup_eq]
    · intro i hi
      by_cases q : i = c
      · subst q
        refine ⟨x, m, hx, hm, ?_, ?_, ?_⟩
        · rw [zup_n2 (by omega), zup_n2 (by omega), zup_n2 (by omega), zup_n2 (by omega), zup_n2 (by omega), zup_eq, ex, em, zI_add, zI_mul]; rfl
        · rw [zup_n2 (by omega), zup_n2 (by omega), zup_eq, ex]
        · rw [zup_n2 (by omega), zup_eq, em]
      · rw [f 35 i (by omega) (by omega) (by omega) (by omega) (by omega), f 229 i (by omega) (by omega) (by omega) (by omega) (by omega), f 230 i (by omega) (by omega) (by omega) (by omega) (by omega)]
        exact e3 i (by omega)
  · exact s_mcomer (d := 9) (c := c) e2 cN (fun z => absurd z a) (fun _ g1 g2 g3 g4 gc => absurd b (by rintro (y | y); exact y ⟨g1, g2, g3, g4⟩; omega)) (fun _ _ => zPr_i hI sc_u)
theorem c_letter {v w : Int32} : zPr 147 275 [.int v, .int w] := fun σ hI => by
  obtain ⟨n0, V, h1, h2, h3, h4, h5, h6, h7, h8, h9⟩ := id hI
  obtain ⟨hP, hS, hC, hL⟩ := vO_e h6
  obtain ⟨c, cN, e1, e2, e3⟩ := id hL
  refine s_kletter (d := 9) e1 cN ⟨fun a => ?_, fun a b hc => ?_, fun a b => ?_⟩
  · refine s_mletter (d := 9) (c := c) ((zup_n2 (by omega)).trans e2) cN (fun _ => ⟨rfl, ?_⟩) (fun z _ _ _ _ _ => absurd a z) (fun z _ => absurd a z)
    have f : ∀ a b, ¬ (a = 36 ∧ b = 1) → ¬ (a = 195 ∧ (b = 0 ∨ b = 61)) → up (up (up σ 36 1 0) 195 0 0) 195 61 0 a b = σ a b := fun a b x y => (zup_n2 (by omega)).trans ((zup_n2 (by omega)).trans (zup_n2 (by omega)))
    refine INV_O hI (fun a b x => f a b (by unfold sc oc at x; omega) (by unfold sc oc at x; omega)) (vO_i (oP_f hP (fun a b x => f a b (by omega) (by omega))) (oS_f hS (fun a b x => f a b (by omega) (by omega))) (oC_f hC (fun a b x => f a b (by omega) (by omega))) ⟨0, by omega, ?_, zup_eq, fun i hi => by omega⟩)
    rw [zup_n2 (by omega), zup_n2 (by omega), zup_eq]; rfl
  · refine s_mletter (d := 9) (c := c) ((zup_n2 (by omega)).trans ((zup_n2 (by omega)).trans e2)) cN (fun z => absurd z a) (fun _ g1 g2 g3 g4 gc => ⟨rfl, ?_⟩) (fun _ y => absurd y (by rintro (y | y); exact y b; omega))
    have f : ∀ a b, ¬ (a = 36 ∧ b = 1) → ¬ (a = 195 ∧ (b = 0 ∨ b = 61)) → ¬ (a = 37 ∧ b = c) → ¬ (a = 233 ∧ b = c) → ¬ (a = 234 ∧ b = c) → up (up (up (up (up (up σ 37 c (v * 100 + w)) 36 1 (nI (c + 1))) 195 0 0) 233 c v) 234 c w) 195 61 (nI (c + 1)) a b = σ a b := fun a b n0 n1 n2 n3 n4 => (zup_n2 (by omega)).trans ((zup_n2 (by omega)).trans ((zup_n2 (by omega)).trans ((zup_n2 (by omega)).trans ((zup_n2 (by omega)).trans (zup_n2 (by omega))))))
    obtain ⟨x, hx, ex⟩ := zI_ofle (n := 99) b.1 b.2.1 (by omega)
    obtain ⟨m, hm, em⟩ := zI_ofle (n := 99) (v := w) (by have b1 := b.1; have b3 := b.2.2.1; have b2 := b.2.1; grind) b.2.2.2 (by omega)
    refine INV_O hI (fun a b x => f a b (by unfold sc oc at x; omega) (by unfold sc oc at x; omega) (by unfold sc oc at x; omega) (by unfold sc oc at x; omega) (by unfold sc oc at x; omega)) (vO_i (oP_f hP (fun a b x => f a b (by omega) (by omega) (by omega) (by omega) (by omega))) (oS_f hS (fun a b x => f a b (by omega) (by omega) (by omega) (by omega) (by omega))) (oC_f hC (fun a b x => f a b (by omega) (by omega) (by omega) (by omega) (by omega))) ⟨c + 1, by omega, ?_, zup_eq, ?_⟩)
    · rw [zup_n2 (by omega), zup_n2 (by omega), zup_n2 (by omega), zup_n2 (by omega), zup_eq]
    · intro i hi
      by_cases q : i = c
      · subst q
        refine ⟨x, m, hx, hm, ?_, ?_, ?_⟩
        · rw [zup_n2 (by omega), zup_n2 (by omega), zup_n2 (by omega), zup_n2 (by omega), zup_n2 (by omega), zup_eq, ex, em, zI_add, zI_mul]; rfl
        · rw [zup_n2 (by omega), zup_n2 (by omega), zup_eq, ex]
        · rw [zup_n2 (by omega), zup_eq, em]
      · rw [f 37 i (by omega) (by omega) (by omega) (by omega) (by omega), f 233 i (by omega) (by omega) (by omega) (by omega) (by omega), f 234 i (by omega) (by omega) (by omega) (by omega) (by omega)]
        exact e3 i (by omega)
  · exact s_mletter (d := 9) (c := c) e2 cN (fun z => absurd z a) (fun _ g1 g2 g3 g4 gc => absurd b (by rintro (y | y); exact y ⟨g1, g2, g3, g4⟩; omega)) (fun _ _ => zPr_i hI sc_u)

