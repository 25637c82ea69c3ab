/-! what holds at the start -/
theorem z0_I : INV z0 := by
  have hv : ∀ j i, vw z0 2 j i = if j < 11 then z0 (2 + 1 + j) i else if j = 11 then z0 2 i else z0 14 i := fun _ _ => rfl
  have h2 : ∀ i, z0 2 i = 0 := fun i => by simp [z0]
  have h3 : ∀ i, z0 3 i = 5 := fun i => by simp [z0]
  have h11 : ∀ i, z0 11 i = -1 := fun i => by simp [z0]
  have h0 : ∀ a i, a = 4 ∨ a = 5 ∨ a = 6 ∨ a = 7 ∨ a = 8 ∨ a = 9 ∨ a = 10 ∨ a = 12 ∨ a = 13 ∨ a = 14 → z0 a i = 0 := fun a i h => by
    rcases h with h | h | h | h | h | h | h | h | h | h <;> (subst h; simp [z0])
  have hm : ∀ a i, 196 ≤ a → a ≠ 203 → z0 a i = 0 := fun a i h h' => by
    unfold z0
    rw [if_neg h', if_neg (by omega), if_neg (by omega), if_neg (by omega), if_neg (by omega), if_neg (by omega)]
  have hf : ∀ a i, a = 0 ∨ a = 15 ∨ a = 18 ∨ a = 21 ∨ a = 24 ∨ a = 30 ∨ a = 32 ∨ a = 34 ∨ a = 36 ∨ a = 28 ∨ a = 95 ∨ a = 194 → z0 a i = 0 := fun a i h => by
    rcases h with h | h | h | h | h | h | h | h | h | h | h | h <;> (subst h; simp [z0])
  have hM : ∀ i, i ≠ 32 → z0 195 i = 0 := fun i h => by simp [z0, h]
  have n0 : (0 : Int32) = nI 0 := rfl
  refine ⟨0, vw z0 2, ⟨⟨fun j hj i => ?_, fun f g1 g2 => rfl, fun z i => rfl⟩, ⟨?_, fun p hp => ?_, fun s hs => absurd hs (Nat.not_lt_zero _), fun s hs => ?_, ?_, fun i hi => ?_, fun i hi => ?_, fun _ i hi => ?_⟩, ⟨h2 11, by omega, fun s hs => absurd hs (Nat.not_lt_zero _), fun s hs => absurd hs (Nat.not_lt_zero _), fun s hs => Or.inl (h11 s), ⟨0, by omega, h2 12, fun i hi => absurd hi (Nat.not_lt_zero _)⟩, ⟨0, by omega, h2 13, fun i hi => absurd hi (Nat.not_lt_zero _)⟩, ⟨0, by omega, h2 19⟩⟩, fun s _ _ => ⟨h0 8 s (by omega), h0 10 s (by omega)⟩, hM 6 (by omega), hM 5 (by omega), ⟨fun p hp => ?_, 0, by omega, h2 17⟩⟩, ?_, ?_, ?_, ?_, ?_, ?_, ?_, Or.inl ⟨hf 0 2 (by omega), hM 67 (by omega)⟩⟩
  · show _ = (if j < 11 then z0 (2 + 1 + j) i else _)
    rw [if_pos hj]
  · exact ⟨(hm 196 0 (by omega) (by omega)).trans (h2 17).symm, (hm 196 1 (by omega) (by omega)).trans (h2 18).symm, (hm 196 2 (by omega) (by omega)).trans (h2 19).symm, (hm 196 3 (by omega) (by omega)).trans (h2 14).symm, (hm 196 4 (by omega) (by omega)).trans (h2 15).symm, (hm 196 5 (by omega) (by omega)).trans (h2 16).symm⟩
  · refine ⟨(hm 196 _ (by omega) (by omega)).trans (h0 4 p (by omega)).symm, (hm 196 _ (by omega) (by omega)).trans (h0 5 p (by omega)).symm, ?_⟩
    rw [hm 199 p (by omega) (by omega)]
    exact (h3 p).symm
  · refine ⟨(hm 196 _ (by omega) (by omega)).trans (h0 8 s (by omega)).symm, (hm 196 _ (by omega) (by omega)).trans (h0 10 s (by omega)).symm, (hm 196 _ (by omega) (by omega)).trans ?_⟩
    show 0 = z0 11 s + 1
    rw [h11 s]; rfl
  · exact ⟨(hm 196 120 (by omega) (by omega)).trans (h2 12).symm, (hm 196 145 (by omega) (by omega)).trans (h2 13).symm⟩
  · rw [show vw z0 2 11 12 = 0 from h2 12] at hi; exact absurd hi (Nat.not_lt_zero _)
  · rw [show vw z0 2 11 13 = 0 from h2 13] at hi; exact absurd hi (Nat.not_lt_zero _)
  · exact (hm 201 i (by omega) (by omega)).trans (h0 14 i (by omega)).symm
  · show z0 5 p ≤ 99
    rw [h0 5 p (by omega)]; decide
  · exact ⟨0, fun _ => 0, fun _ => 0, fun _ => 0, fun _ => 0, fun _ => 0, fun _ => 0, ⟨by omega, fun l hl => absurd hl (Nat.not_lt_zero _)⟩, ⟨hf 15 2 (by omega), fun l hl => absurd hl (Nat.not_lt_zero _)⟩, ⟨hm 204 0 (by omega) (by omega), fun l hl => absurd hl (Nat.not_lt_zero _)⟩⟩
  · refine ⟨[], by decide, fun x hx => absurd hx (by simp), hf 24 2 (by omega), fun l hl => absurd hl (Nat.not_lt_zero _), hM 37 (by omega), fun p hp => ⟨hf 28 p (by omega), hm 214 p (by omega) (by omega)⟩, fun a b ha hb => ?_⟩
    show z0 29 (a * 12 + b) = zdV (z0 28) a b
    rw [show z0 28 = fun _ => 0 from funext (fun i => hf 28 i (by omega))]
    have key : (List.range 12).all (fun a => (List.range 12).all (fun b => decide (z0 29 (a * 12 + b) = zdV (fun _ => 0) a b))) = true := by decide +kernel
    exact of_decide_eq_true (List.all_eq_true.mp (List.all_eq_true.mp key a (List.mem_range.mpr ha)) b (List.mem_range.mpr hb))
  · exact ⟨0, fun _ => 0, fun _ => 0, fun _ => 0, ⟨hf 21 2 (by omega), by omega, fun l hl => absurd hl (Nat.not_lt_zero _)⟩, ⟨hM 35 (by omega), by omega, fun l hl => absurd hl (Nat.not_lt_zero _)⟩⟩
  · exact ⟨0, fun _ => 0, fun _ => 0, ⟨hf 18 2 (by omega), by omega, fun l hl => absurd hl (Nat.not_lt_zero _)⟩, ⟨hM 33 (by omega), by omega, fun l hl => absurd hl (Nat.not_lt_zero _)⟩⟩
  · exact ⟨⟨0, by omega, hf 30 1 (by omega), hM 48 (by omega), fun i hi => absurd hi (Nat.not_lt_zero _)⟩, ⟨0, by omega, hf 32 1 (by omega), hM 50 (by omega), fun i hi => absurd hi (Nat.not_lt_zero _)⟩, ⟨0, by omega, hf 34 1 (by omega), hM 56 (by omega), fun i hi => absurd hi (Nat.not_lt_zero _)⟩, ⟨0, by omega, hf 36 1 (by omega), hM 61 (by omega), fun i hi => absurd hi (Nat.not_lt_zero _)⟩⟩
  · exact ⟨⟨0, fun _ => 0, by omega, hf 0 10 (by omega), hM 11 (by omega), fun i hi => ⟨hf 194 i (by omega), hm 202 i (by omega) (by omega), Nat.zero_le _⟩⟩, fun i hi => by simp [z0], by simp [z0], by simp [z0], by simp [z0], by simp [z0]⟩
  · exact ⟨0, 0, by omega, by omega, hf 95 2 (by omega), hM 3 (by omega), hf 95 1 (by omega), fun i hi => absurd hi (Nat.not_lt_zero _)⟩

