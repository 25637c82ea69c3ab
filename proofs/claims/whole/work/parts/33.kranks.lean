/-! RANKS, of the class -/
theorem l_kr {d : Nat} {σ : zS} {Q : Int32 → zS → Prop} {n : Nat} {w : Int32} (hw : w = 0 ∨ w = 1) (hn : n ≤ 999) (h : Q (ra n w) σ) : ∀ (r c f : Nat), r ≤ n → c = rkC n (n - r) (r + 1) → f = rkD n (n - r) (r + 1) →
    zk d 144 30 [.ref 0, .int (nI n), .int w, .int (nI c), .int (nI f), .int (nI r)] [] σ (fun r t => ∃ v, r = some v ∧ Q v t) := by
  intro r
  induction r with
  | zero =>
    intro c f hr hc hf
    simp only [Nat.sub_zero, Nat.zero_add] at hc hf
    unfold ra at h
    refine r_il5 zi_144_30 rfl ?_
    refine r_push zi_144_32 rfl ?_
    refine r_ic2 zi_144_33 rfl (fun _ => ?_) (fun c => absurd (nI_lt (b := 1) (by omega) (by omega)) c)
    refine r_il2 zi_144_70 rfl ?_
    refine r_if1 zi_144_71 rfl (fun c1 => ?_) (fun c1 => ?_)
    · refine r_il4 zi_144_78 rfl ?_
      refine r_retI zi_144_80 rfl ?_
      exact ⟨_, rfl, by rw [hc] at *; rw [hf] at *; grind⟩
    · refine r_il3 zi_144_74 rfl ?_
      refine r_goto zi_144_75 rfl ?_
      refine r_retI zi_144_80 rfl ?_
      exact ⟨_, rfl, by rw [hc] at *; rw [hf] at *; grind⟩
  | succ r ih =>
    intro c f hr hc hf
    have e1 : n - r = (n - (r + 1)) + 1 := by omega
    have hC : rkC n (n - r) (r + 1) = (if n % (r + 1) = 0 then 1 else 0) + c := by rw [e1, rkC, ← hc]
    have hD : rkD n (n - r) (r + 1) = if n % (r + 1) = 0 ∧ n ≤ (r + 1) * (r + 1) then r + 1 else f := by rw [e1, rkD, ← hf]
    have hbig : (r + 1) * (r + 1) < 2 ^ 31 := Nat.lt_of_le_of_lt (Nat.mul_le_mul (show r + 1 ≤ 999 by omega) (show r + 1 ≤ 999 by omega)) (by omega)
    by_cases hd : n % (r + 1) = 0
    · rw [if_pos hd] at hC
      by_cases hp : n ≤ (r + 1) * (r + 1)
      · rw [if_pos ⟨hd, hp⟩] at hD
        refine r_il5 zi_144_30 rfl ?_
        refine r_push zi_144_32 rfl ?_
        refine r_ic2 zi_144_33 rfl (fun c => absurd c (nI_nlt (b := 1) (by omega) (by omega))) (fun _ => ?_)
        refine r_il1 zi_144_36 rfl ?_
        refine r_il5 zi_144_37 rfl ?_
        refine r_rem zi_144_39 rfl (nI_ne0 (by omega) (by omega)) ?_
        rw [show (nI n % nI (r+1) : Int32) = nI (n % (r+1)) from zI_rem (by omega) (by omega) (by omega)]
        refine r_if1 zi_144_40 rfl (fun c => absurd (by rw [hd]; rfl) c) (fun _ => ?_)
        refine r_in3 zi_144_43 rfl ?_
        rw [show (nI c + 1 : Int32) = nI (c + 1) from nI_add _ _]
        refine r_il5 zi_144_46 rfl ?_
        refine r_il5 zi_144_48 rfl ?_
        refine r_b2 zi_144_50 rfl ?_
        rw [show (nI (r+1) * nI (r+1) : Int32) = nI ((r+1) * (r+1)) from pk_mul _ _]
        refine r_il1 zi_144_51 rfl ?_
        refine r_ic2 zi_144_52 rfl (fun c => absurd c (nI_nlt hp hbig)) (fun _ => ?_)
        refine r_il5 zi_144_55 rfl ?_
        refine r_goto zi_144_57 rfl ?_
        refine r_is4 zi_144_62 rfl ?_
        refine r_in5 zi_144_64 rfl ?_
        rw [show (nI (r+1) + -1 : Int32) = nI r from pk_m1 _]
        refine r_goto zi_144_67 rfl ?_
        exact ih _ _ (by omega) (by rw [hC, Nat.add_comm]) hD.symm
      · rw [if_neg (fun z => hp z.2)] at hD
        refine r_il5 zi_144_30 rfl ?_
        refine r_push zi_144_32 rfl ?_
        refine r_ic2 zi_144_33 rfl (fun c => absurd c (nI_nlt (b := 1) (by omega) (by omega))) (fun _ => ?_)
        refine r_il1 zi_144_36 rfl ?_
        refine r_il5 zi_144_37 rfl ?_
        refine r_rem zi_144_39 rfl (nI_ne0 (by omega) (by omega)) ?_
        rw [show (nI n % nI (r+1) : Int32) = nI (n % (r+1)) from zI_rem (by omega) (by omega) (by omega)]
        refine r_if1 zi_144_40 rfl (fun c => absurd (by rw [hd]; rfl) c) (fun _ => ?_)
        refine r_in3 zi_144_43 rfl ?_
        rw [show (nI c + 1 : Int32) = nI (c + 1) from nI_add _ _]
        refine r_il5 zi_144_46 rfl ?_
        refine r_il5 zi_144_48 rfl ?_
        refine r_b2 zi_144_50 rfl ?_
        rw [show (nI (r+1) * nI (r+1) : Int32) = nI ((r+1) * (r+1)) from pk_mul _ _]
        refine r_il1 zi_144_51 rfl ?_
        refine r_ic2 zi_144_52 rfl (fun _ => ?_) (fun c => absurd (nI_lt (by omega) (by omega)) c)
        refine r_il4 zi_144_60 rfl ?_
        refine r_is4 zi_144_62 rfl ?_
        refine r_in5 zi_144_64 rfl ?_
        rw [show (nI (r+1) + -1 : Int32) = nI r from pk_m1 _]
        refine r_goto zi_144_67 rfl ?_
        exact ih _ _ (by omega) (by rw [hC, Nat.add_comm]) hD.symm
    · rw [if_neg hd, Nat.zero_add] at hC
      rw [if_neg (fun z => hd z.1)] at hD
      have hd2 : n % (r + 1) < r + 1 := Nat.mod_lt _ (by omega)
      refine r_il5 zi_144_30 rfl ?_
      refine r_push zi_144_32 rfl ?_
      refine r_ic2 zi_144_33 rfl (fun c => absurd c (nI_nlt (b := 1) (by omega) (by omega))) (fun _ => ?_)
      refine r_il1 zi_144_36 rfl ?_
      refine r_il5 zi_144_37 rfl ?_
      refine r_rem zi_144_39 rfl (nI_ne0 (by omega) (by omega)) ?_
      rw [show (nI n % nI (r+1) : Int32) = nI (n % (r+1)) from zI_rem (by omega) (by omega) (by omega)]
      refine r_if1 zi_144_40 rfl (fun _ => ?_) (fun c => absurd c (nI_ne0 (by omega) (by omega)))
      refine r_in5 zi_144_64 rfl ?_
      rw [show (nI (r+1) + -1 : Int32) = nI r from pk_m1 _]
      refine r_goto zi_144_67 rfl ?_
      exact ih _ _ (by omega) hC.symm hD.symm
theorem s_kranks {d : Nat} {σ : zS} {Q : Int32 → zS → Prop} {v w : Int32} (h1 : ∀ n, 1 ≤ n → n ≤ 999 → v = nI n → 0 ≤ w → w ≤ 1 → Q (ra n w) σ) (h0 : ¬ (1 ≤ v ∧ v ≤ 999 ∧ 0 ≤ w ∧ w ≤ 1) → Q (-1) σ) : zI1 (d + 1) 144 [.ref 0, .int v, .int w] σ Q := by
  show zk _ _ 0 [.ref 0, .int v, .int w, zun, zun, zun] [] _ _
  have key : ∀ u3 u4 u5 : Value, 1 ≤ v → v ≤ 999 → 0 ≤ w → w ≤ 1 → zk (d + 1) 144 22 [.ref 0, .int v, .int w, u3, u4, u5] [] σ (fun r t => ∃ v, r = some v ∧ Q v t) := by
    intro u3 u4 u5 hv1 hv2 hw1 hw2
    obtain ⟨n, hn, rfl⟩ := zI_ofle (v := v) (n := 999) (by grind) hv2 (by omega)
    have hn1 : 1 ≤ n := by
      rcases Nat.eq_zero_or_pos n with rfl | hp
      · exact absurd hv1 (by decide)
      · exact hp
    have h := h1 n hn1 hn rfl hw1 hw2
    refine r_push zi_144_22 rfl ?_
    refine r_is3 zi_144_23 rfl ?_
    refine r_il1 zi_144_24 rfl ?_
    refine r_is4 zi_144_25 rfl ?_
    refine r_il1 zi_144_27 rfl ?_
    refine r_is5 zi_144_28 rfl ?_
    exact l_kr (by grind) hn h n 0 n (Nat.le_refl _) (by rw [Nat.sub_self]; rfl) (by rw [Nat.sub_self]; rfl)
  refine r_il1 zi_144_0 rfl ?_
  refine r_push zi_144_1 rfl ?_
  refine r_push zi_144_2 rfl ?_
  refine r_cIS zi_144_5 rfl rfl rfl rfl rfl rfl (s_within (fun i1 a1 => ?_) (fun i1 => ?_))
  · show zk _ _ 8 _ _ _ _
    refine r_if0 zi_144_8 rfl (fun c => absurd c (by decide)) (fun _ => ?_)
    refine r_il2 zi_144_11 rfl ?_
    refine r_push zi_144_12 rfl ?_
    refine r_push zi_144_13 rfl ?_
    refine r_cIS zi_144_14 rfl rfl rfl rfl rfl rfl (s_within (fun i2 a2 => ?_) (fun i2 => ?_))
    · show zk _ _ 17 _ _ _ _
      refine r_if1 zi_144_17 rfl (fun _ => ?_) (fun c => absurd c (by decide))
      exact key _ _ _ (by assumption) (by assumption) (by assumption) (by assumption)
    · show zk _ _ 17 _ _ _ _
      refine r_if1 zi_144_17 rfl (fun c => absurd (by decide) c) (fun _ => ?_)
      refine r_push zi_144_20 rfl ?_
      refine r_retI zi_144_21 rfl ?_
      exact ⟨_, rfl, h0 (by grind)⟩
  · show zk _ _ 8 _ _ _ _
    refine r_if0 zi_144_8 rfl (fun _ => ?_) (fun c => absurd (by decide) c)
    refine r_push zi_144_20 rfl ?_
    refine r_retI zi_144_21 rfl ?_
    exact ⟨_, rfl, h0 (by grind)⟩

