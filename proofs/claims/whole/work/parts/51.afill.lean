/-! ARRAYS.FILL -/
theorem l_afill {d k N : Nat} {σ : zS} {Q : zS → Prop} {v : Int32} (hk : zIs k (.inl N)) (hN : N ≤ 100000) (h : Q (fil σ k N (fun _ => v))) : ∀ (m i : Nat), i + m = N → zk d 291 5 [.ref k, .int v, .int (nI i), .int (nI N)] [] (fil σ k i (fun _ => v)) (fun r t => r = none ∧ Q t) := by
  intro m
  induction m with
  | zero =>
    intro i hi
    have e : i = N := by omega
    subst e
    refine r_il2 zi_291_5 rfl ?_
    refine r_il3 zi_291_6 rfl ?_
    refine r_ic3 zi_291_7 rfl (fun _ => ?_) (fun c => absurd (nI_le (by omega) (by omega)) c)
    refine r_ret zi_291_20 rfl ?_
    exact ⟨rfl, h⟩
  | succ m ih =>
    intro i hi
    refine r_il2 zi_291_5 rfl ?_
    refine r_il3 zi_291_6 rfl ?_
    refine r_ic3 zi_291_7 rfl (fun c => absurd c (nI_ge (by omega) (by omega))) (fun _ => ?_)
    refine r_al0 zi_291_10 rfl ?_
    refine r_il2 zi_291_11 rfl ?_
    refine r_il1 zi_291_12 rfl ?_
    refine r_ast zi_291_13 rfl i hk (by first | rfl | (simp only [zI_add, zI_mul] <;> rfl)) (by first | omega | decide) ?_
    refine r_in2 zi_291_14 rfl ?_
    rw [show (nI i + 1 : Int32) = nI (i + 1) from nI_add _ _]
    refine r_goto zi_291_17 rfl ?_
    rw [fil_s σ k i (fun _ => v)]
    exact ih (i + 1) (by omega)
theorem s_afill {d k N : Nat} {σ : zS} {Q : zS → Prop} {v : Int32} (hk : zIs k (.inl N)) (hN : N ≤ 100000) (h : Q (fil σ k N (fun _ => v))) : zV1 d 291 [.ref k, .int v] σ Q := by
  show zk _ _ 0 [.ref k, .int v, zun, zun] [] _ _
  refine r_push zi_291_0 rfl ?_
  refine r_is2 zi_291_1 rfl ?_
  refine r_al0 zi_291_2 rfl ?_
  refine r_alen zi_291_3 rfl hk ?_
  refine r_is3 zi_291_4 rfl ?_
  have h2 := l_afill (d := d) (σ := σ) hk hN h N 0 (by omega)
  rw [fil_0] at h2
  exact h2
/-- the greatest of the first c -/
def zIM (c : Nat) (C : Nat → Nat) (l : Nat) : Prop := (∀ k, k < c → C k ≤ l) ∧ ((l = 0 ∧ c = 0) ∨ ∃ k, k < c ∧ C k = l)
theorem zmx_ub {C : Nat → Nat} : ∀ c k, k < c → C k ≤ zmx C c
  | c + 1, k, h => by
    by_cases hk : k = c
    · subst hk; exact Nat.le_max_right _ _
    · exact Nat.le_trans (zmx_ub c k (by omega)) (Nat.le_max_left _ _)
theorem zIM_eq {C : Nat → Nat} {c l : Nat} (h : zIM c C l) : l = zmx C c := by
  obtain ⟨h1, h2⟩ := h
  have hu : zmx C c ≤ l := by
    clear h2
    induction c with
    | zero => exact Nat.zero_le _
    | succ c ih => exact Nat.max_le.mpr ⟨ih (fun k hk => h1 k (by omega)), h1 c (by omega)⟩
  rcases h2 with ⟨e, e2⟩ | ⟨k, hk, e⟩
  · subst e2; rw [e]; rfl
  · have := zmx_ub (C := C) c k hk; omega
theorem zIM_st {r C : Nat → Nat} {c l i j : Nat} (hj : j < c) (hx : zX r i j) (h : zIM c C l) : zIM c (zcs r i j C) (max l (max (C j) (C i + 1))) := by
  obtain ⟨h1, h2⟩ := h
  refine ⟨fun k hk => ?_, Or.inr ?_⟩
  · have := h1 k hk
    unfold zcs; split <;> omega
  · by_cases hl : l ≤ max (C j) (C i + 1)
    · exact ⟨j, hj, by unfold zcs; rw [if_pos ⟨hx, rfl⟩]; omega⟩
    · rcases h2 with ⟨e, e2⟩ | ⟨k, hk, e⟩
      · omega
      · have hkj : k ≠ j := by intro z; subst z; omega
        exact ⟨k, hk, by unfold zcs; rw [if_neg (fun z => hkj z.2)]; omega⟩

