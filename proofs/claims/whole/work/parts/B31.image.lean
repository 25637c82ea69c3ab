/-! IMAGE, both -/
def vIn (a b : Nat) : Prop := (a = 196 ∧ b < 170) ∨ (a = 195 ∧ (b = 6 ∨ b = 33 ∨ b = 35 ∨ b = 37 ∨ b = 48 ∨ b = 50 ∨ b = 56 ∨ b = 61)) ∨ (a = 199 ∧ b < 12) ∨ (a = 214 ∧ b < 12) ∨ (a = 200 ∧ b < 18) ∨ (a = 224 ∧ b < 8) ∨ (a = 225 ∧ b < 5) ∨ (a = 229 ∧ b < 10) ∨ (a = 230 ∧ b < 10) ∨ (a = 233 ∧ b < 10) ∨ (a = 234 ∧ b < 10) ∨ (a = 212 ∧ b < 32) ∨ (a = 213 ∧ b < 48) ∨ (a = 201 ∧ b < 600) ∨ (a = 204 ∧ b = 0) ∨ (a = 205 ∧ b < 16) ∨ (a = 206 ∧ b < 16) ∨ (a = 207 ∧ b < 16) ∨ (a = 208 ∧ b < 16) ∨ (a = 209 ∧ b < 400) ∨ (a = 210 ∧ b < 400)
theorem vIn_x {a b : Nat} (h : vIn a b) : ∃ i, vIm a b i := by
  unfold vIn at h
  rcases h with h | ⟨h, h2⟩ | h | h | h | h | h | h | h | h | h | h | h | h | h | h | h | h | h | h | h
  · exact ⟨b, by unfold vIm; left; omega⟩
  · rcases h2 with h2 | h2 | h2 | h2 | h2 | h2 | h2 | h2
    · exact ⟨170, by unfold vIm; right; left; exact ⟨h, by omega⟩⟩
    · exact ⟨171, by unfold vIm; right; left; exact ⟨h, by omega⟩⟩
    · exact ⟨172, by unfold vIm; right; left; exact ⟨h, by omega⟩⟩
    · exact ⟨173, by unfold vIm; right; left; exact ⟨h, by omega⟩⟩
    · exact ⟨174, by unfold vIm; right; left; exact ⟨h, by omega⟩⟩
    · exact ⟨175, by unfold vIm; right; left; exact ⟨h, by omega⟩⟩
    · exact ⟨176, by unfold vIm; right; left; exact ⟨h, by omega⟩⟩
    · exact ⟨177, by unfold vIm; right; left; exact ⟨h, by omega⟩⟩
  · exact ⟨178 + 2 * b, by unfold vIm; (iterate 2 right); left; omega⟩
  · exact ⟨179 + 2 * b, by unfold vIm; (iterate 3 right); left; omega⟩
  · exact ⟨202 + b, by unfold vIm; (iterate 4 right); left; omega⟩
  · exact ⟨220 + b, by unfold vIm; (iterate 5 right); left; omega⟩
  · exact ⟨228 + b, by unfold vIm; (iterate 6 right); left; omega⟩
  · exact ⟨233 + 4 * b, by unfold vIm; (iterate 7 right); left; omega⟩
  · exact ⟨234 + 4 * b, by unfold vIm; (iterate 8 right); left; omega⟩
  · exact ⟨235 + 4 * b, by unfold vIm; (iterate 9 right); left; omega⟩
  · exact ⟨236 + 4 * b, by unfold vIm; (iterate 10 right); left; omega⟩
  · exact ⟨273 + b, by unfold vIm; (iterate 11 right); left; omega⟩
  · exact ⟨305 + b, by unfold vIm; (iterate 12 right); left; omega⟩
  · exact ⟨353 + b, by unfold vIm; (iterate 13 right); left; omega⟩
  · exact ⟨953, by unfold vIm; (iterate 14 right); left; omega⟩
  · exact ⟨954 + 4 * b, by unfold vIm; (iterate 15 right); left; omega⟩
  · exact ⟨955 + 4 * b, by unfold vIm; (iterate 16 right); left; omega⟩
  · exact ⟨956 + 4 * b, by unfold vIm; (iterate 17 right); left; omega⟩
  · exact ⟨957 + 4 * b, by unfold vIm; (iterate 18 right); left; omega⟩
  · exact ⟨1018 + 2 * b, by unfold vIm; (iterate 19 right); left; omega⟩
  · exact ⟨1019 + 2 * b, by unfold vIm; (iterate 20 right); omega⟩
/-- what a picture and an image give back -/
def vKp (ρ υ : zS) : Prop := (∀ a b, vRg a b → υ a b = ρ a b) ∧ ∀ a b, vIn a b → υ a b = ρ a b
theorem vD_k {ρ υ V : zS} {n : Nat} (h : vD ρ n V) (k : vKp ρ υ) (h5 : υ 195 5 = 0) : vD υ n (vw υ 2) := by
  obtain ⟨hV, hm, hg, hz, hs, h50, hx⟩ := h
  have hn18 := hg.2.1
  have hvr : ∀ j x, vr j x → vw υ 2 j x = V j x := fun j x hr => by
    refine Eq.trans ?_ (vw_v hV hr)
    unfold vr at hr
    unfold vw
    by_cases hj : j < 11
    · rw [if_pos hj, if_pos hj]; exact k.1 _ _ (by unfold vRg; omega)
    · rw [if_neg hj, if_neg hj, if_pos (by omega), if_pos (by omega)]; exact k.1 _ _ (by unfold vRg; omega)
  have hbk : ∀ i, i < 600 → vw υ 2 12 i = V 12 i := fun i hi => (k.1 14 i (by unfold vRg; omega)).trans (hV.2.2 rfl i)
  refine ⟨⟨fun j hj i => ?_, fun f g1 g2 => rfl, fun z i => rfl⟩, zVm_v hn18 (zVm_g hn18 hm (fun b hb => k.2 _ _ (Or.inl ⟨rfl, hb⟩)) (fun b hb => k.2 _ _ (Or.inr (Or.inr (Or.inl ⟨rfl, hb⟩)))) (fun b hb => k.2 _ _ (Or.inr (Or.inr (Or.inr (Or.inr (Or.inl ⟨rfl, hb⟩)))))) (fun _ b hb => k.2 _ _ (by unfold vIn; (iterate 13 right); left; omega))) (fun j i h => hvr j i (by unfold vr; omega)) (fun z i hi => hbk i hi), zVg_x hg (fun j i h => hvr j i (by unfold vr; omega)), fun s g1 g2 => ?_, (k.2 195 6 (Or.inr (Or.inl ⟨rfl, Or.inl rfl⟩))).trans hs, h5, vX_x hx (fun j i h => hvr j i (by unfold vr; omega))⟩
  · show _ = (if j < 11 then υ (2 + 1 + j) i else _)
    rw [if_pos hj]
  · rw [hvr 5 s (by unfold vr; omega), hvr 7 s (by unfold vr; omega)]; exact hz s g1 g2
theorem INV_i1 {σ υ : zS} (hI : INV σ) (e : ∀ a b, ¬ sc a b → ¬ (38 ≤ a ∧ a ≤ 74) → a ≠ 237 → ¬ (a = 0 ∧ b = 2) → ¬ (a = 195 ∧ b = 67) → υ a b = σ a b) (e1 : υ 0 2 = 1) (e2 : υ 195 67 = 1) (k1 : ∀ a b, vRg a b → υ (a + 37) b = σ a b) (k2 : ∀ a b i, vIm a b i → υ 237 i = σ a b) : INV υ := by
  obtain ⟨n, V, h1, h2, h3, h4, h5, h6, h7, h8, h9⟩ := id hI
  refine ⟨n, V, vD_f h1 (fun a b x => e a b (by unfold sc; omega) (by omega) (by omega) (by omega) (by omega)), vL_f h2 (fun a b x => e a b (by unfold sc; omega) (by omega) (by omega) (by omega) (by omega)), ?_, vT_f h4 (fun a b x => e a b (by unfold sc; omega) (by omega) (by omega) (by omega) (by omega)), vE_f h5 (fun a b x => e a b (by unfold sc; omega) (by omega) (by omega) (by omega) (by omega)), vO_f h6 (fun a b x => e a b (by unfold sc; omega) (by omega) (by omega) (by omega) (by omega)), vA_f h7 (fun a b x => e a b (by unfold sc; omega) (by omega) (by omega) (by omega) (by omega)), vP_f h8 (fun a b x => e a b (by unfold sc; omega) (by omega) (by omega) (by omega) (by omega)), Or.inr ⟨e1, e2, σ, ⟨n, V, h1, h2, h3, h4, h5, h6⟩, k1, k2⟩⟩
  obtain ⟨rs, r⟩ := id h3
  exact vR_f h3 (fun a b x => e a b (by unfold sc; omega) (by omega) (by omega) (by omega) (by omega)) (vR_z r.2.2.2.2.2.2 (fun a b x => e a b (by unfold sc; omega) (by omega) (by omega) (by omega) (by omega)))
theorem INV_i0 {σ υ ρ : zS} {rows : List pRw} (hI : INV σ) (hC : vC ρ) (e : ∀ a b, ¬ sc a b → ¬ (1 ≤ a ∧ a ≤ 37) → ¬ vIn a b → ¬ (a = 95 ∧ b = 2) → ¬ (a = 195 ∧ (b = 3 ∨ b = 67)) → υ a b = σ a b) (e1 : σ 0 2 = 1) (e2 : υ 195 67 = 1) (e3 : υ 95 2 = 0) (e4 : υ 195 3 = 0) (k : vKp ρ υ) (hr16 : rows.length ≤ 16) (hrv : ∀ x, x ∈ rows → pRv x) (hr2 : ρ 24 2 = nI rows.length) (hrk : kRw ρ 25 rows) (hrm : ρ 195 37 = nI rows.length) (hrp : ∀ p, p < 12 → ρ 214 p = pBs rows p) (hB : ∀ p, p < 12 → υ 28 p = pBs rows p) (hz : zhd υ 27) (k1 : ∀ a b, vRg a b → σ (a + 37) b = ρ a b) (k2 : ∀ a b i, vIm a b i → σ 237 i = ρ a b) : INV υ := by
  obtain ⟨n0, V0, g1, g2, g3, g4, g5, g6, g7, g8, g9⟩ := id hI
  obtain ⟨n, V, h1, h2, h3, h4, h5, h6⟩ := id hC
  have q := k.1
  have q2 := k.2
  refine ⟨n, vw υ 2, vD_k h1 k ((e 195 5 (by unfold sc; omega) (by omega) (by unfold vIn; omega) (by omega) (by omega)).trans g1.2.2.2.2.2.1), vL_f h2 (fun a b x => ?_), ⟨rows, hr16, hrv, (q 24 2 (by unfold vRg; omega)).trans hr2, kRw_f hrk hr16 (fun b hb => q 25 b (by unfold vRg; omega)), (q2 195 37 (by unfold vIn; omega)).trans hrm, fun p hp => ⟨hB p hp, (q2 214 p (by unfold vIn; omega)).trans (hrp p hp)⟩, hz⟩, vT_f h4 (fun a b x => ?_), vE_f h5 (fun a b x => ?_), vO_f h6 (fun a b x => ?_), vA_f g7 (fun a b x => e a b (by unfold sc; omega) (by omega) (by unfold vIn; omega) (by omega) (by omega)), ?_, Or.inr ⟨(e 0 2 (by unfold sc; omega) (by omega) (by unfold vIn; omega) (by omega) (by omega)).trans e1, e2, ρ, hC, fun a b hab => ?_, fun a b i hi => (e 237 i (by unfold sc; omega) (by omega) (by unfold vIn; omega) (by omega) (by omega)).trans (k2 a b i hi)⟩⟩
  · rcases x with x | x | x | x | x | x
    · exact q a b (by unfold vRg; obtain ⟨x1, x2⟩ := x; subst x1; omega)
    · exact q a b (by unfold vRg; obtain ⟨x1, x2⟩ := x; subst x1; omega)
    · exact q a b (by unfold vRg; obtain ⟨x1, x2⟩ := x; subst x1; omega)
    · exact q2 a b (by unfold vIn; (iterate 14 right); left; omega)
    · have y : a = 205 ∨ a = 206 ∨ a = 207 ∨ a = 208 := by omega
      rcases y with y | y | y | y
      · exact q2 a b (by unfold vIn; (iterate 15 right); left; omega)
      · exact q2 a b (by unfold vIn; (iterate 16 right); left; omega)
      · exact q2 a b (by unfold vIn; (iterate 17 right); left; omega)
      · exact q2 a b (by unfold vIn; (iterate 18 right); left; omega)
    · obtain ⟨x1 | x1, x2⟩ := x
      · exact q2 a b (by unfold vIn; (iterate 19 right); left; omega)
      · exact q2 a b (by unfold vIn; (iterate 20 right); omega)
  · rcases x with x | x | x | x
    · exact q a b (by unfold vRg; obtain ⟨x1, x2⟩ := x; subst x1; omega)
    · exact q a b (by unfold vRg; obtain ⟨x1, x2⟩ := x; subst x1; omega)
    · exact q2 a b (by unfold vIn; right; left; omega)
    · exact q2 a b (by unfold vIn; (iterate 12 right); left; omega)
  · rcases x with x | x | x | x
    · exact q a b (by unfold vRg; obtain ⟨x1, x2⟩ := x; subst x1; omega)
    · exact q a b (by unfold vRg; obtain ⟨x1, x2⟩ := x; subst x1; omega)
    · exact q2 a b (by unfold vIn; right; left; omega)
    · exact q2 a b (by unfold vIn; (iterate 11 right); left; omega)
  · rcases x with x | x | x | x | x | x | x | x
    · obtain ⟨x1 | x1 | x1 | x1, x2⟩ := x <;> exact q a b (by unfold vRg; subst x1; omega)
    · exact q a b (by unfold vRg; obtain ⟨x1, x2⟩ := x; subst x1; omega)
    · exact q a b (by unfold vRg; obtain ⟨x1, x2⟩ := x; subst x1; omega)
    · obtain ⟨x1 | x1, x2⟩ := x <;> exact q a b (by unfold vRg; subst x1; omega)
    · exact q2 a b (by unfold vIn; right; left; omega)
    · exact q2 a b (by unfold vIn; (iterate 5 right); left; omega)
    · exact q2 a b (by unfold vIn; (iterate 6 right); left; omega)
    · obtain ⟨x1 | x1 | x1 | x1, x2⟩ := x
      · exact q2 a b (by unfold vIn; (iterate 7 right); left; omega)
      · exact q2 a b (by unfold vIn; (iterate 8 right); left; omega)
      · exact q2 a b (by unfold vIn; (iterate 9 right); left; omega)
      · exact q2 a b (by unfold vIn; (iterate 10 right); left; omega)
  · obtain ⟨c, la, q1, q2', q3, q4, q5, q6⟩ := g8
    exact ⟨0, la, by omega, q2', e3, e4, (e 95 1 (by unfold sc; omega) (by omega) (by unfold vIn; omega) (by omega) (by omega)).trans q5, fun i hi => absurd hi (by omega)⟩
  · have r : 38 ≤ a + 37 ∧ a + 37 ≤ 74 := by unfold vRg at hab; omega
    exact (e _ b (by unfold sc; omega) (by omega) (by unfold vIn; omega) (by omega) (by omega)).trans (k1 a b hab)

