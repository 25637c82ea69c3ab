/-! CLASS: fewestRoads, cross, to the end -/
theorem l_kx2 {d c t B : Nat} {σ : zS} {R : Option Int32 → zS → Prop} {r C : Nat → Nat} (hc : σ 36 1 = nI c) (hcN : c ≤ 10) (hr : ∀ k, k < c → r k < 10000 ∧ σ 37 k = nI (r k)) (hC : ∀ k, C k ≤ B) (hB : B ≤ 90000)
    (h : ∀ τ l u5, Fr [192] σ τ → (∀ k, k < c → τ 192 k = nI (zci r c C c k)) → zIM c (zci r c C c) l → zk (d + 1) 86 139 [.ref 177, .ref 36, .int (nI l), .int (nI t), .int (nI c), u5] [] τ R) : ∀ (m i l : Nat) (τ : zS) (u5 : Value), i + m = c → Fr [192] σ τ → (∀ k, k < c → τ 192 k = nI (zci r c C i k)) → zIM c (zci r c C i) l → zk (d + 1) 86 30 [.ref 177, .ref 36, .int (nI l), .int (nI t), .int (nI i), u5] [] τ R := by
  intro m
  induction m with
  | zero =>
    intro i l τ u5 hi hf hk hl
    have e : i = c := by omega
    subst e
    have hc' : τ 36 1 = nI i := (hf 36 (by decide) 1).trans hc
    refine r_il4 zi_86_30 rfl ?_
    refine r_al1 zi_86_32 rfl ?_
    refine q_getI zi_86_33 rfl cf_36_1 ?_
    rw [hc']
    refine r_ic3 zi_86_36 rfl (fun _ => ?_) (fun c => absurd (nI_le (by omega) (by omega)) c)
    exact h _ _ _ hf hk hl
  | succ m ih =>
    intro i l τ u5 hi hf hk hl
    have hc' : τ 36 1 = nI c := (hf 36 (by decide) 1).trans hc
    have hr' : ∀ k, k < c → r k < 10000 ∧ τ 37 k = nI (r k) := fun k z => ⟨(hr k z).1, (hf 37 (by decide) k).trans (hr k z).2⟩
    have hci : c * i ≤ 10 * 10 := Nat.mul_le_mul hcN (by omega)
    refine r_il4 zi_86_30 rfl ?_
    refine r_al1 zi_86_32 rfl ?_
    refine q_getI zi_86_33 rfl cf_36_1 ?_
    rw [hc']
    refine r_ic3 zi_86_36 rfl (fun c => absurd c (nI_ge (by omega) (by omega))) (fun _ => ?_)
    refine r_il4 zi_86_39 rfl ?_
    refine r_al0 zi_86_41 rfl ?_
    refine q_getR zi_86_42 rfl cf_177_18 ?_
    refine r_alen zi_86_45 rfl ca_192 ?_
    refine r_ic3 zi_86_46 rfl (fun c => absurd c (nI_ge (b := 10) (by omega) (by omega))) (fun _ => ?_)
    refine r_push zi_86_49 rfl ?_
    refine r_is5 zi_86_50 rfl ?_
    refine l_kx1 hc' hcN hr' (by omega) (zci_le hC i) (by omega) (fun τ2 l2 hf2 hk2 hl2 => ?_) c 0 l _ (by omega) Fr.rf hk hl
    show zk _ _ 133 _ _ _ _
    refine r_in4 zi_86_133 rfl ?_
    rw [show (nI i + 1 : Int32) = nI (i + 1) from nI_add _ _]
    refine r_goto zi_86_136 rfl ?_
    exact ih (i + 1) _ _ _ (by omega) (hf.tr hf2) hk2 hl2
theorem l_kx3 {d c : Nat} {σ : zS} {Q : Int32 → zS → Prop} {r : Nat → Nat} (hc : σ 36 1 = nI c) (hcN : c ≤ 10) (hr : ∀ k, k < c → r k < 10000 ∧ σ 37 k = nI (r k))
    (h : ∀ τ, Fr [192] σ τ → Q (nI (zmx (zct r c c) c)) τ) : ∀ (m t l : Nat) (τ : zS) (u4 u5 : Value), t + m = c → Fr [192] σ τ → (∀ k, k < c → τ 192 k = nI (zct r c t k)) → zIM c (zct r c t) l → zk (d + 1) 86 19 [.ref 177, .ref 36, .int (nI l), .int (nI t), u4, u5] [] τ (fun r t => ∃ v, r = some v ∧ Q v t) := by
  intro m
  induction m with
  | zero =>
    intro t l τ u4 u5 hi hf hk hl
    have e : t = c := by omega
    subst e
    have hc' : τ 36 1 = nI t := (hf 36 (by decide) 1).trans hc
    refine r_il3 zi_86_19 rfl ?_
    refine r_al1 zi_86_20 rfl ?_
    refine q_getI zi_86_21 rfl cf_36_1 ?_
    rw [hc']
    refine r_ic3 zi_86_24 rfl (fun _ => ?_) (fun c => absurd (nI_le (by omega) (by omega)) c)
    refine r_il2 zi_86_145 rfl ?_
    refine r_retI zi_86_146 rfl ?_
    exact ⟨_, rfl, by rw [zIM_eq hl]; exact h _ hf⟩
  | succ m ih =>
    intro t l τ u4 u5 hi hf hk hl
    have hc' : τ 36 1 = nI c := (hf 36 (by decide) 1).trans hc
    have hr' : ∀ k, k < c → r k < 10000 ∧ τ 37 k = nI (r k) := fun k z => ⟨(hr k z).1, (hf 37 (by decide) k).trans (hr k z).2⟩
    have hct : c * c * t ≤ 10 * 10 * 10 := Nat.mul_le_mul (Nat.mul_le_mul hcN hcN) (by omega)
    refine r_il3 zi_86_19 rfl ?_
    refine r_al1 zi_86_20 rfl ?_
    refine q_getI zi_86_21 rfl cf_36_1 ?_
    rw [hc']
    refine r_ic3 zi_86_24 rfl (fun c => absurd c (nI_ge (by omega) (by omega))) (fun _ => ?_)
    refine r_push zi_86_27 rfl ?_
    refine r_is4 zi_86_28 rfl ?_
    refine l_kx2 hc' hcN hr' (zct_le t) (by omega) (fun τ2 l2 u52 hf2 hk2 hl2 => ?_) c 0 l _ _ (by omega) Fr.rf hk hl
    show zk _ _ 139 _ _ _ _
    refine r_in3 zi_86_139 rfl ?_
    rw [show (nI t + 1 : Int32) = nI (t + 1) from nI_add _ _]
    refine r_goto zi_86_142 rfl ?_
    exact ih (t + 1) _ _ _ _ (by omega) (hf.tr hf2) hk2 hl2
theorem s_kroads {d c : Nat} {σ : zS} {Q : Int32 → zS → Prop} {r : Nat → Nat} (hc : σ 36 1 = nI c) (hcN : c ≤ 10) (hr : ∀ k, k < c → r k < 10000 ∧ σ 37 k = nI (r k)) (h : ∀ τ, Fr [192] σ τ → Q (nI (zmx (zct r c c) c)) τ) : zI1 (d + 1) 86 [.ref 177, .ref 36] σ Q := by
  show zk _ _ 0 [.ref 177, .ref 36, zun, zun, zun, zun] [] _ _
  have hf : Fr [192] σ (fil σ 192 10 (fun _ => 1)) := Fr.rf.fil (by decide)
  have hc' : fil σ 192 10 (fun _ => 1) 36 1 = nI c := (hf 36 (by decide) 1).trans hc
  have hm := zmaxI (a := 1) (b := c) (by omega) (by omega)
  have h1 : ∀ k, k < c → fil σ 192 10 (fun _ => 1) 192 k = nI (zct r c 0 k) := fun k z => by
    show (if 192 = 192 ∧ k < 10 then (1 : Int32) else _) = 1
    exact if_pos ⟨rfl, by omega⟩
  have hmin : (if 1 < nI c then 1 else nI c) = nI (min 1 c) := by
    show (if nI 1 < nI c then nI 1 else nI c) = _
    by_cases z : 1 < c
    · rw [if_pos (nI_lt (a := 1) z (by omega)), Nat.min_eq_left (by omega)]
    · rw [if_neg (nI_nlt (b := c) (a := 1) (by omega) (by omega)), Nat.min_eq_right (by omega)]
  have hl : zIM c (zct r c 0) (min 1 c) := by
    refine ⟨fun k z => by show 1 ≤ _; omega, ?_⟩
    by_cases z : c = 0
    · left; exact ⟨by omega, z⟩
    · right; exact ⟨0, by omega, by show 1 = _; omega⟩
  refine r_al0 zi_86_0 rfl ?_
  refine q_getR zi_86_1 rfl cf_177_18 ?_
  refine r_push zi_86_4 rfl ?_
  refine r_cVS zi_86_5 rfl rfl rfl rfl rfl rfl (s_afill ca_192 (by omega) ?_)
  show zk _ _ 8 _ _ _ _
  refine r_push zi_86_8 rfl ?_
  refine r_al1 zi_86_9 rfl ?_
  refine q_getI zi_86_10 rfl cf_36_1 ?_
  rw [hc']
  refine r_min zi_86_13 rfl ?_
  refine r_is2 zi_86_16 rfl ?_
  refine r_push zi_86_17 rfl ?_
  refine r_is3 zi_86_18 rfl ?_
  rw [hmin]
  exact l_kx3 hc hcN hr h c 0 _ _ _ _ (by omega) hf h1 hl

