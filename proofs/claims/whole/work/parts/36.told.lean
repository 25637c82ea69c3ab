/-! LISTS THAT ARE TOLD -/
theorem up_rd {σ : zS} {k i a b : Nat} {v : Int32} : up σ k i v a b = if a = k ∧ b = i then v else σ a b := rfl
def zTo (k N : Nat) : Prop := zFR k 9 0 (k + 1) ∧ zFI k 9 1 ∧ zIs (k + 1) (.inl N)
theorem zTo30 : zTo 30 8 := ⟨cf_30_0, cf_30_1, ca_31⟩
theorem zTo32 : zTo 32 5 := ⟨cf_32_0, cf_32_1, ca_33⟩
theorem zTo34 : zTo 34 10 := ⟨cf_34_0, cf_34_1, ca_35⟩
theorem zTo36 : zTo 36 10 := ⟨cf_36_0, cf_36_1, ca_37⟩
/-- what telling does: the list of N at cell k, c of them told -/
def tlQ (σ : zS) (k c N : Nat) (none can : Prop) (row : Int32) (Q : Int32 → zS → Prop) : Prop :=
  (none → Q 0 (up σ k 1 0)) ∧ (¬ none → can → c < N → Q (nI (c + 1)) (up (up σ (k + 1) c row) k 1 (nI (c + 1)))) ∧ (¬ none → (¬ can ∨ c = N) → Q (-1) σ)
theorem s_tell {d : Nat} {σ : zS} {Q : Int32 → zS → Prop} {k N c : Nat} {row a b : Int32} (hk : zTo k N) (hN : N ≤ 100) (hc : σ k 1 = nI c) (hcN : c ≤ N) (h : tlQ σ k c N (a ≠ 0) (b ≠ 0) row Q) : zI1 d 111 [.ref k, .int row, .int a, .int b] σ Q := by
  obtain ⟨h1, h2, h3⟩ := h
  show zk _ _ 0 [.ref k, .int row, .int a, .int b] [] _ _
  by_cases ha : a = 0
  · by_cases hb : b = 0
    · refine r_il2 zi_111_0 rfl ?_
      refine r_if0 zi_111_1 rfl (fun _ => ?_) (fun c => absurd ha c)
      refine r_il3 zi_111_11 rfl ?_
      refine r_if0 zi_111_12 rfl (fun _ => ?_) (fun c => absurd hb c)
      refine r_push zi_111_34 rfl ?_
      refine r_retI zi_111_35 rfl ?_
      exact ⟨_, rfl, h3 (by grind) (by grind)⟩
    · by_cases hcn : c < N
      · refine r_il2 zi_111_0 rfl ?_
        refine r_if0 zi_111_1 rfl (fun _ => ?_) (fun c => absurd ha c)
        refine r_il3 zi_111_11 rfl ?_
        refine r_if0 zi_111_12 rfl (fun c => absurd c hb) (fun _ => ?_)
        refine r_al0 zi_111_15 rfl ?_
        refine q_getI zi_111_16 rfl hk.2.1 ?_
        rw [hc]
        refine r_if2 zi_111_19 rfl (fun c => absurd c (nI_pos (by omega))) (fun _ => ?_)
        refine r_al0 zi_111_22 rfl ?_
        refine q_getI zi_111_23 rfl hk.2.1 ?_
        rw [hc]
        refine r_al0 zi_111_26 rfl ?_
        refine q_getR zi_111_27 rfl hk.1 ?_
        refine r_alen zi_111_30 rfl hk.2.2 ?_
        refine r_ic2 zi_111_31 rfl (fun _ => ?_) (fun c => absurd (nI_lt (by omega) (by omega)) c)
        refine r_al0 zi_111_36 rfl ?_
        refine q_getR zi_111_37 rfl hk.1 ?_
        refine r_al0 zi_111_40 rfl ?_
        refine q_getI zi_111_41 rfl hk.2.1 ?_
        rw [hc]
        refine r_il1 zi_111_44 rfl ?_
        refine r_ast zi_111_45 rfl c hk.2.2 (by first | rfl | (simp only [zI_add, zI_mul] <;> rfl)) (by first | omega | decide) ?_
        refine r_al0 zi_111_46 rfl ?_
        refine r_dupR zi_111_47 rfl ?_
        refine q_getI zi_111_48 rfl hk.2.1 ?_
        rw [zup_ne (by omega), hc]
        refine r_push zi_111_51 rfl ?_
        refine r_b0 zi_111_52 rfl ?_
        rw [show (nI c + 1 : Int32) = nI (c + 1) from nI_add _ _]
        refine q_put zi_111_53 rfl hk.2.1 rfl ?_
        refine r_al0 zi_111_56 rfl ?_
        refine q_getI zi_111_57 rfl hk.2.1 ?_
        rw [zup_eq]
        refine r_retI zi_111_60 rfl ?_
        exact ⟨_, rfl, h2 (by grind) hb hcn⟩
      · refine r_il2 zi_111_0 rfl ?_
        refine r_if0 zi_111_1 rfl (fun _ => ?_) (fun c => absurd ha c)
        refine r_il3 zi_111_11 rfl ?_
        refine r_if0 zi_111_12 rfl (fun c => absurd c hb) (fun _ => ?_)
        refine r_al0 zi_111_15 rfl ?_
        refine q_getI zi_111_16 rfl hk.2.1 ?_
        rw [hc]
        refine r_if2 zi_111_19 rfl (fun c => absurd c (nI_pos (by omega))) (fun _ => ?_)
        refine r_al0 zi_111_22 rfl ?_
        refine q_getI zi_111_23 rfl hk.2.1 ?_
        rw [hc]
        refine r_al0 zi_111_26 rfl ?_
        refine q_getR zi_111_27 rfl hk.1 ?_
        refine r_alen zi_111_30 rfl hk.2.2 ?_
        refine r_ic2 zi_111_31 rfl (fun c => absurd c (nI_nlt (by omega) (by omega))) (fun _ => ?_)
        refine r_push zi_111_34 rfl ?_
        refine r_retI zi_111_35 rfl ?_
        exact ⟨_, rfl, h3 (by grind) (Or.inr (by omega))⟩
  · refine r_il2 zi_111_0 rfl ?_
    refine r_if0 zi_111_1 rfl (fun c => absurd c ha) (fun _ => ?_)
    refine r_al0 zi_111_4 rfl ?_
    refine r_push zi_111_5 rfl ?_
    refine q_put zi_111_6 rfl hk.2.1 rfl ?_
    refine r_push zi_111_9 rfl ?_
    refine r_retI zi_111_10 rfl ?_
    exact ⟨_, rfl, h1 ha⟩
theorem s_trow {d : Nat} {σ : zS} {Q : Int32 → zS → Prop} {k N c i : Nat} (hk : zTo k N) (hN : N ≤ 100) (hc : σ k 1 = nI c) (hcN : c ≤ N) (hi : i < c) (h : Q (σ (k + 1) i) σ) : zI1 d 112 [.ref k, .int (nI i)] σ Q := by
  show zk _ _ 0 [.ref k, .int (nI i)] [] _ _
  refine r_il1 zi_112_0 rfl ?_
  refine r_if2 zi_112_1 rfl (fun c => absurd c (nI_pos (by omega))) (fun _ => ?_)
  refine r_il1 zi_112_4 rfl ?_
  refine r_al0 zi_112_5 rfl ?_
  refine q_getI zi_112_6 rfl hk.2.1 ?_
  rw [hc]
  refine r_ic3 zi_112_9 rfl (fun c => absurd c (nI_ge (by omega) (by omega))) (fun _ => ?_)
  refine r_il1 zi_112_12 rfl ?_
  refine r_al0 zi_112_13 rfl ?_
  refine q_getR zi_112_14 rfl hk.1 ?_
  refine r_alen zi_112_17 rfl hk.2.2 ?_
  refine r_ic3 zi_112_18 rfl (fun c => absurd c (nI_ge (by omega) (by omega))) (fun _ => ?_)
  refine r_al0 zi_112_21 rfl ?_
  refine q_getR zi_112_22 rfl hk.1 ?_
  refine r_il1 zi_112_25 rfl ?_
  refine r_ald zi_112_26 rfl i hk.2.2 (by first | rfl | (simp only [zI_add, zI_mul] <;> rfl)) (by first | omega | decide) ?_
  refine r_goto zi_112_27 rfl ?_
  refine r_retI zi_112_31 rfl ?_
  exact ⟨_, rfl, h⟩
theorem s_kprophet {d : Nat} {σ : zS} {Q : Int32 → zS → Prop} {c : Nat} {v : Int32} (hc : σ 30 1 = nI c) (hcN : c ≤ 8) (h : tlQ σ 30 c 8 (v = -1) (0 ≤ v ∧ v ≤ 1023) v Q) : zI1 (d + 1) 140 [.ref 0, .int v] σ Q := by
  obtain ⟨h1, h2, h3⟩ := h
  show zk _ _ 0 [.ref 0, .int v] [] _ _
  refine r_al0 zi_140_0 rfl ?_
  refine q_getR zi_140_1 rfl cf_0_0 ?_
  refine q_getR zi_140_4 rfl cf_1_7 ?_
  refine r_il1 zi_140_7 rfl ?_
  refine r_il1 zi_140_8 rfl ?_
  refine r_push zi_140_9 rfl ?_
  refine r_ic1 zi_140_10 rfl (fun c1 => ?_) (fun c1 => ?_)
  · refine r_push zi_140_17 rfl ?_
    refine r_il1 zi_140_18 rfl ?_
    refine r_push zi_140_19 rfl ?_
    refine r_push zi_140_20 rfl ?_
    refine r_cIS zi_140_23 rfl rfl rfl rfl rfl rfl (s_within (fun i2 a2 => ?_) (fun i2 => ?_))
    · show zk _ _ 26 _ _ _ _
      refine q_cIV zi_140_26 rfl rfl rfl rfl rfl rfl rfl cf_30_0.ob (s_tell zTo30 (by omega) hc hcN ⟨fun t1 => ?_, fun t1 t2 t3 => ?_, fun t1 t2 => ?_⟩)
      · show zk _ _ 29 _ _ _ _
        refine r_retI zi_140_29 rfl ?_
        first | (exact ⟨_, rfl, h1 (by grind)⟩) | (exact ⟨_, rfl, h2 (by grind) (by grind) t3⟩) | (exact ⟨_, rfl, h3 (by grind) (by grind)⟩) | (exfalso; grind)
      · show zk _ _ 29 _ _ _ _
        refine r_retI zi_140_29 rfl ?_
        first | (exact ⟨_, rfl, h1 (by grind)⟩) | (exact ⟨_, rfl, h2 (by grind) (by grind) t3⟩) | (exact ⟨_, rfl, h3 (by grind) (by grind)⟩) | (exfalso; grind)
      · show zk _ _ 29 _ _ _ _
        refine r_retI zi_140_29 rfl ?_
        first | (exact ⟨_, rfl, h1 (by grind)⟩) | (exact ⟨_, rfl, h2 (by grind) (by grind) t3⟩) | (exact ⟨_, rfl, h3 (by grind) (by grind)⟩) | (exfalso; grind)
    · show zk _ _ 26 _ _ _ _
      refine q_cIV zi_140_26 rfl rfl rfl rfl rfl rfl rfl cf_30_0.ob (s_tell zTo30 (by omega) hc hcN ⟨fun t1 => ?_, fun t1 t2 t3 => ?_, fun t1 t2 => ?_⟩)
      · show zk _ _ 29 _ _ _ _
        refine r_retI zi_140_29 rfl ?_
        first | (exact ⟨_, rfl, h1 (by grind)⟩) | (exact ⟨_, rfl, h2 (by grind) (by grind) t3⟩) | (exact ⟨_, rfl, h3 (by grind) (by grind)⟩) | (exfalso; grind)
      · show zk _ _ 29 _ _ _ _
        refine r_retI zi_140_29 rfl ?_
        first | (exact ⟨_, rfl, h1 (by grind)⟩) | (exact ⟨_, rfl, h2 (by grind) (by grind) t3⟩) | (exact ⟨_, rfl, h3 (by grind) (by grind)⟩) | (exfalso; grind)
      · show zk _ _ 29 _ _ _ _
        refine r_retI zi_140_29 rfl ?_
        first | (exact ⟨_, rfl, h1 (by grind)⟩) | (exact ⟨_, rfl, h2 (by grind) (by grind) t3⟩) | (exact ⟨_, rfl, h3 (by grind) (by grind)⟩) | (exfalso; grind)
  · refine r_push zi_140_13 rfl ?_
    refine r_goto zi_140_14 rfl ?_
    refine r_il1 zi_140_18 rfl ?_
    refine r_push zi_140_19 rfl ?_
    refine r_push zi_140_20 rfl ?_
    refine r_cIS zi_140_23 rfl rfl rfl rfl rfl rfl (s_within (fun i5 a5 => ?_) (fun i5 => ?_))
    · show zk _ _ 26 _ _ _ _
      refine q_cIV zi_140_26 rfl rfl rfl rfl rfl rfl rfl cf_30_0.ob (s_tell zTo30 (by omega) hc hcN ⟨fun t1 => ?_, fun t1 t2 t3 => ?_, fun t1 t2 => ?_⟩)
      · show zk _ _ 29 _ _ _ _
        refine r_retI zi_140_29 rfl ?_
        first | (exact ⟨_, rfl, h1 (by grind)⟩) | (exact ⟨_, rfl, h2 (by grind) (by grind) t3⟩) | (exact ⟨_, rfl, h3 (by grind) (by grind)⟩) | (exfalso; grind)
      · show zk _ _ 29 _ _ _ _
        refine r_retI zi_140_29 rfl ?_
        first | (exact ⟨_, rfl, h1 (by grind)⟩) | (exact ⟨_, rfl, h2 (by grind) (by grind) t3⟩) | (exact ⟨_, rfl, h3 (by grind) (by grind)⟩) | (exfalso; grind)
      · show zk _ _ 29 _ _ _ _
        refine r_retI zi_140_29 rfl ?_
        first | (exact ⟨_, rfl, h1 (by grind)⟩) | (exact ⟨_, rfl, h2 (by grind) (by grind) t3⟩) | (exact ⟨_, rfl, h3 (by grind) (by grind)⟩) | (exfalso; grind)
    · show zk _ _ 26 _ _ _ _
      refine q_cIV zi_140_26 rfl rfl rfl rfl rfl rfl rfl cf_30_0.ob (s_tell zTo30 (by omega) hc hcN ⟨fun t1 => ?_, fun t1 t2 t3 => ?_, fun t1 t2 => ?_⟩)
      · show zk _ _ 29 _ _ _ _
        refine r_retI zi_140_29 rfl ?_
        first | (exact ⟨_, rfl, h1 (by grind)⟩) | (exact ⟨_, rfl, h2 (by grind) (by grind) t3⟩) | (exact ⟨_, rfl, h3 (by grind) (by grind)⟩) | (exfalso; grind)
      · show zk _ _ 29 _ _ _ _
        refine r_retI zi_140_29 rfl ?_
        first | (exact ⟨_, rfl, h1 (by grind)⟩) | (exact ⟨_, rfl, h2 (by grind) (by grind) t3⟩) | (exact ⟨_, rfl, h3 (by grind) (by grind)⟩) | (exfalso; grind)
      · show zk _ _ 29 _ _ _ _
        refine r_retI zi_140_29 rfl ?_
        first | (exact ⟨_, rfl, h1 (by grind)⟩) | (exact ⟨_, rfl, h2 (by grind) (by grind) t3⟩) | (exact ⟨_, rfl, h3 (by grind) (by grind)⟩) | (exfalso; grind)
theorem s_mprophet {d : Nat} {σ : zS} {Q : Int32 → zS → Prop} {c : Nat} {v : Int32} (hc : σ 195 48 = nI c) (hcN : c ≤ 8) (h1 : v = -1 → Q 0 (up (up σ 195 0 0) 195 48 0)) (h2 : ¬ v = -1 → 0 ≤ v → v ≤ 1023 → c < 8 → Q (nI (c + 1)) (up (up (up σ 195 0 0) 224 c v) 195 48 (nI (c + 1)))) (h3 : ¬ v = -1 → ¬ (0 ≤ v ∧ v ≤ 1023) ∨ c = 8 → Q (-1) (up σ 195 0 0)) : zI1 (d + 1) 262 [.ref 195, .int v] σ Q := by
  show zk _ _ 0 [.ref 195, .int v] [] _ _
  by_cases hv : v = -1
  · refine r_al0 zi_262_0 rfl ?_
    refine r_push zi_262_1 rfl ?_
    refine q_put zi_262_2 rfl cf_195_0 rfl ?_
    refine r_il1 zi_262_5 rfl ?_
    refine r_push zi_262_6 rfl ?_
    refine r_ic1 zi_262_7 rfl (fun c => absurd hv c) (fun _ => ?_)
    refine r_al0 zi_262_10 rfl ?_
    refine r_push zi_262_11 rfl ?_
    refine q_put zi_262_12 rfl cf_195_48 rfl ?_
    refine r_push zi_262_15 rfl ?_
    refine r_retI zi_262_16 rfl ?_
    exact ⟨_, rfl, h1 hv⟩
  · by_cases hc8 : c = 8
    · refine r_al0 zi_262_0 rfl ?_
      refine r_push zi_262_1 rfl ?_
      refine q_put zi_262_2 rfl cf_195_0 rfl ?_
      refine r_il1 zi_262_5 rfl ?_
      refine r_push zi_262_6 rfl ?_
      refine r_ic1 zi_262_7 rfl (fun _ => ?_) (fun c => absurd c hv)
      refine r_al0 zi_262_17 rfl ?_
      refine r_il1 zi_262_18 rfl ?_
      refine r_push zi_262_19 rfl ?_
      refine r_push zi_262_20 rfl ?_
      refine q_cIV zi_262_23 rfl rfl rfl rfl rfl rfl rfl cf_195_0.ob (s_isIn (fun i1 a1 => ?_) (fun i1 => ?_))
      · show zk _ _ 26 _ _ _ _
        refine r_if0 zi_262_26 rfl (fun c => absurd c (by decide)) (fun _ => ?_)
        refine r_al0 zi_262_29 rfl ?_
        refine q_getI zi_262_30 rfl cf_195_48 ?_
        rw [zup_nj (by decide), hc]
        refine r_push zi_262_33 rfl ?_
        refine r_ic1 zi_262_35 rfl (fun c => absurd (by rw [hc8]; rfl) c) (fun _ => ?_)
        refine r_push zi_262_38 rfl ?_
        refine r_retI zi_262_39 rfl ?_
        exact ⟨_, rfl, h3 hv (by grind)⟩
      · show zk _ _ 26 _ _ _ _
        refine r_if0 zi_262_26 rfl (fun _ => ?_) (fun c => absurd (by decide) c)
        refine r_push zi_262_38 rfl ?_
        refine r_retI zi_262_39 rfl ?_
        exact ⟨_, rfl, h3 hv (by grind)⟩
    · refine r_al0 zi_262_0 rfl ?_
      refine r_push zi_262_1 rfl ?_
      refine q_put zi_262_2 rfl cf_195_0 rfl ?_
      refine r_il1 zi_262_5 rfl ?_
      refine r_push zi_262_6 rfl ?_
      refine r_ic1 zi_262_7 rfl (fun _ => ?_) (fun c => absurd c hv)
      refine r_al0 zi_262_17 rfl ?_
      refine r_il1 zi_262_18 rfl ?_
      refine r_push zi_262_19 rfl ?_
      refine r_push zi_262_20 rfl ?_
      refine q_cIV zi_262_23 rfl rfl rfl rfl rfl rfl rfl cf_195_0.ob (s_isIn (fun i1 a1 => ?_) (fun i1 => ?_))
      · show zk _ _ 26 _ _ _ _
        refine r_if0 zi_262_26 rfl (fun c => absurd c (by decide)) (fun _ => ?_)
        refine r_al0 zi_262_29 rfl ?_
        refine q_getI zi_262_30 rfl cf_195_48 ?_
        rw [zup_nj (by decide), hc]
        refine r_push zi_262_33 rfl ?_
        refine r_ic1 zi_262_35 rfl (fun _ => ?_) (fun c => absurd c (fun e => hc8 ((nI_eq (b := 8) (by omega) (by omega)).mp e)))
        refine r_al0 zi_262_40 rfl ?_
        refine q_getR zi_262_41 rfl cf_195_49 ?_
        refine r_al0 zi_262_44 rfl ?_
        refine q_getI zi_262_45 rfl cf_195_48 ?_
        rw [zup_nj (by decide), hc]
        refine r_il1 zi_262_48 rfl ?_
        refine r_ast zi_262_49 rfl c ca_224 (by first | rfl | (simp only [zI_add, zI_mul] <;> rfl)) (by first | omega | decide) ?_
        refine r_al0 zi_262_50 rfl ?_
        refine r_al0 zi_262_51 rfl ?_
        refine q_getI zi_262_52 rfl cf_195_48 ?_
        rw [zup_ne (by decide), zup_nj (by decide), hc]
        refine r_push zi_262_55 rfl ?_
        refine r_b0 zi_262_56 rfl ?_
        rw [show (nI c + 1 : Int32) = nI (c + 1) from nI_add _ _]
        refine q_put zi_262_57 rfl cf_195_48 rfl ?_
        refine r_al0 zi_262_60 rfl ?_
        refine q_getI zi_262_61 rfl cf_195_48 ?_
        rw [zup_eq]
        refine r_retI zi_262_64 rfl ?_
        first | (exact ⟨_, rfl, h2 hv (by assumption) (by assumption) (by omega)⟩) | (exact ⟨_, rfl, h3 hv (by grind)⟩)
      · show zk _ _ 26 _ _ _ _
        refine r_if0 zi_262_26 rfl (fun _ => ?_) (fun c => absurd (by decide) c)
        refine r_push zi_262_38 rfl ?_
        refine r_retI zi_262_39 rfl ?_
        first | (exact ⟨_, rfl, h2 hv (by assumption) (by assumption) (by omega)⟩) | (exact ⟨_, rfl, h3 hv (by grind)⟩)

