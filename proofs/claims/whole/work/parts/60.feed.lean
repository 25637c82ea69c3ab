/-! FEED, both sides -/
def zyk (v s : Int32) : Int32 := (v.toUInt32 >>> (s &&& 31).toUInt32).toInt32 &&& 255
def zym (v s : Int32) : Int32 := v >>> (s &&& 31) &&& 255
theorem zym_eq (v : Int32) {j : Nat} (hj : j ≤ 24) : zym v (nI j) = zyk v (nI j) := by
  apply un_ext
  intro k hk
  unfold zym zyk
  rw [un_and, un_and, Nat.testBit_and, Nat.testBit_and]
  by_cases h8 : k < 8
  · congr 1
    have hm : un (nI j &&& 31) = j := by rw [un_and, un_nI (by omega), show un 31 = 2 ^ 5 - 1 by rfl, Nat.and_two_pow_sub_one_eq_mod]; omega
    rw [un_shr hm (by omega), Nat.testBit_div_two_pow]
    unfold un
    rw [Int32.toBitVec_shiftRight, BitVec.sshiftRight_eq', un_amt j (by omega), BitVec.testBit_toNat, BitVec.getLsbD_sshiftRight, BitVec.testBit_toNat]
    simp [show ¬ 32 ≤ k by omega, show k + j < 32 by omega, show j + k < 32 by omega, Nat.add_comm]
  · have : (un 255).testBit k = false := by
      rw [show un 255 = 2 ^ 8 - 1 by rfl, Nat.testBit_two_pow_sub_one]; simp [h8]
    rw [this, Bool.and_false, Bool.and_false]
theorem zyk_le (v s : Int32) : ∃ b, b < 256 ∧ zyk v s = nI b := by
  refine ⟨un (zyk v s), ?_, nI_un _⟩
  unfold zyk
  rw [un_and]
  exact Nat.lt_of_le_of_lt Nat.and_le_right (by decide)
def zly (k c f : Nat) (v : Int32) (n : Nat) (σ : zS) : zS := up (up (up (up (up (up (up (up σ k n (zyk v 24)) c f (nI (n + 1))) k (n + 1) (zyk v 16)) c f (nI (n + 2))) k (n + 2) (zyk v 8)) c f (nI (n + 3))) k (n + 3) (zyk v 0)) c f (nI (n + 4))
theorem l_klay {d n : Nat} {σ : zS} {R : Option Int32 → zS → Prop} {v s : Int32} (hn : σ 0 10 = nI n) (hn4 : n < 400) (hs : ¬ s < 0) (h : zk d 156 3 [.ref 0, .int v, .int (s + -8)] [] (up (up σ 194 n (zyk v s)) 0 10 (nI (n + 1))) R) : zk d 156 3 [.ref 0, .int v, .int s] [] σ R := by
  refine r_il2 zi_156_3 rfl ?_
  refine r_if2 zi_156_4 rfl (fun c => absurd c hs) (fun _ => ?_)
  refine r_al0 zi_156_7 rfl ?_
  refine q_getIe zi_156_8 rfl cf_0_10 (v := nI n) (by first | exact hn | ((repeat (first | rw [zup_ne (by first | decide | omega)] | rw [zup_nj (by first | decide | omega)] | rw [fil_ne (by first | decide | omega)])) <;> exact hn) | (simp [up_rd, fil_rd]; exact hn)) ?_
  refine n_if2 (i := n) zi_156_11 rfl (by omega) (fun c => absurd c (by omega)) (fun _ => ?_)
  refine r_al0 zi_156_14 rfl ?_
  refine q_getIe zi_156_15 rfl cf_0_10 (v := nI n) (by first | exact hn | ((repeat (first | rw [zup_ne (by first | decide | omega)] | rw [zup_nj (by first | decide | omega)] | rw [fil_ne (by first | decide | omega)])) <;> exact hn) | (simp [up_rd, fil_rd]; exact hn)) ?_
  refine r_push zi_156_18 rfl ?_
  refine n_ic3 (i := n) (j := 400) zi_156_21 rfl (by omega) (by omega) (fun c => absurd c (by omega)) (fun _ => ?_)
  refine r_al0 zi_156_24 rfl ?_
  refine q_getR zi_156_25 rfl cf_0_9 ?_
  refine r_al0 zi_156_28 rfl ?_
  refine q_getIe zi_156_29 rfl cf_0_10 (v := nI n) (by first | exact hn | ((repeat (first | rw [zup_ne (by first | decide | omega)] | rw [zup_nj (by first | decide | omega)] | rw [fil_ne (by first | decide | omega)])) <;> exact hn) | (simp [up_rd, fil_rd]; exact hn)) ?_
  refine r_il1 zi_156_32 rfl ?_
  refine r_il2 zi_156_33 rfl ?_
  refine r_b8 zi_156_34 rfl ?_
  refine r_push zi_156_35 rfl ?_
  refine r_b3 zi_156_38 rfl ?_
  refine r_ast zi_156_39 rfl n ca_194 (by first | rfl | (simp only [zI_add, zI_mul] <;> rfl)) (by first | omega | decide) ?_
  refine r_al0 zi_156_40 rfl ?_
  refine r_dupR zi_156_41 rfl ?_
  refine q_getIe zi_156_42 rfl cf_0_10 (v := nI n) (by first | exact hn | ((repeat (first | rw [zup_ne (by first | decide | omega)] | rw [zup_nj (by first | decide | omega)] | rw [fil_ne (by first | decide | omega)])) <;> exact hn) | (simp [up_rd, fil_rd]; exact hn)) ?_
  refine r_push zi_156_45 rfl ?_
  refine r_b0 zi_156_46 rfl ?_
  rw [show (nI n + 1 : Int32) = nI (n + 1) from nI_add _ _]
  refine q_put zi_156_47 rfl cf_0_10 rfl ?_
  refine r_in2 zi_156_50 rfl ?_
  refine r_goto zi_156_53 rfl ?_
  exact h
theorem s_klay {d n : Nat} {σ : zS} {Q : zS → Prop} {v : Int32} (hn : σ 0 10 = nI n) (hn4 : n ≤ 396) (h : Q (zly 194 0 10 v n σ)) : zV1 d 156 [.ref 0, .int v] σ Q := by
  show zk _ _ 0 [.ref 0, .int v, zun] [] _ _
  refine r_push zi_156_0 rfl ?_
  refine r_is2 zi_156_2 rfl ?_
  refine l_klay hn (by omega) (by decide) ?_
  refine l_klay (n := n + 1) zup_eq (by omega) (by decide) ?_
  refine l_klay (n := n + 2) zup_eq (by omega) (by decide) ?_
  refine l_klay (n := n + 3) zup_eq (by omega) (by decide) ?_
  refine r_il2 zi_156_3 rfl ?_
  refine r_if2 zi_156_4 rfl (fun _ => ?_) (fun c => absurd (by decide) c)
  refine r_ret zi_156_56 rfl ?_
  exact ⟨rfl, h⟩
theorem l_mlay {d n j : Nat} {σ : zS} {R : Option Int32 → zS → Prop} {v s : Int32} (hn : σ 195 11 = nI n) (hn4 : n < 400) (hs : ¬ s < 0) (hj : j ≤ 24) (hsj : s = nI j) (h : zk d 185 3 [.ref 195, .int v, .int (s + -8)] [] (up (up σ 202 n (zyk v s)) 195 11 (nI (n + 1))) R) : zk d 185 3 [.ref 195, .int v, .int s] [] σ R := by
  have e : v >>> (s &&& 31) &&& 255 = zyk v s := by rw [hsj]; exact zym_eq v hj
  refine r_il2 zi_185_3 rfl ?_
  refine r_if2 zi_185_4 rfl (fun c => absurd c hs) (fun _ => ?_)
  refine r_al0 zi_185_7 rfl ?_
  refine q_getR zi_185_8 rfl cf_195_10 ?_
  refine r_al0 zi_185_11 rfl ?_
  refine q_getIe zi_185_12 rfl cf_195_11 (v := nI n) (by first | exact hn | ((repeat (first | rw [zup_ne (by first | decide | omega)] | rw [zup_nj (by first | decide | omega)] | rw [fil_ne (by first | decide | omega)])) <;> exact hn) | (simp [up_rd, fil_rd]; exact hn)) ?_
  refine r_il1 zi_185_15 rfl ?_
  refine r_il2 zi_185_16 rfl ?_
  refine r_b7 zi_185_17 rfl ?_
  refine r_push zi_185_18 rfl ?_
  refine r_b3 zi_185_21 rfl ?_
  rw [e]
  refine r_ast zi_185_22 rfl n ca_202 (by first | rfl | (simp only [zI_add, zI_mul] <;> rfl)) (by first | omega | decide) ?_
  refine r_al0 zi_185_23 rfl ?_
  refine r_al0 zi_185_24 rfl ?_
  refine q_getIe zi_185_25 rfl cf_195_11 (v := nI n) (by first | exact hn | ((repeat (first | rw [zup_ne (by first | decide | omega)] | rw [zup_nj (by first | decide | omega)] | rw [fil_ne (by first | decide | omega)])) <;> exact hn) | (simp [up_rd, fil_rd]; exact hn)) ?_
  refine r_push zi_185_28 rfl ?_
  refine r_b0 zi_185_29 rfl ?_
  rw [show (nI n + 1 : Int32) = nI (n + 1) from nI_add _ _]
  refine q_put zi_185_30 rfl cf_195_11 rfl ?_
  refine r_in2 zi_185_33 rfl ?_
  refine r_goto zi_185_36 rfl ?_
  exact h
theorem s_mlay {d n : Nat} {σ : zS} {Q : zS → Prop} {v : Int32} (hn : σ 195 11 = nI n) (hn4 : n ≤ 396) (h : Q (zly 202 195 11 v n σ)) : zV1 d 185 [.ref 195, .int v] σ Q := by
  show zk _ _ 0 [.ref 195, .int v, zun] [] _ _
  refine r_push zi_185_0 rfl ?_
  refine r_is2 zi_185_2 rfl ?_
  refine l_mlay (j := 24) hn (by omega) (by decide) (by omega) rfl ?_
  refine l_mlay (n := n + 1) (j := 16) zup_eq (by omega) (by decide) (by omega) rfl ?_
  refine l_mlay (n := n + 2) (j := 8) zup_eq (by omega) (by decide) (by omega) rfl ?_
  refine l_mlay (n := n + 3) (j := 0) zup_eq (by omega) (by decide) (by omega) rfl ?_
  refine r_il2 zi_185_3 rfl ?_
  refine r_if2 zi_185_4 rfl (fun _ => ?_) (fun c => absurd (by decide) c)
  refine r_ret zi_185_39 rfl ?_
  exact ⟨rfl, h⟩
theorem zly_n {k c f n : Nat} {v : Int32} {σ : zS} : zly k c f v n σ c f = nI (n + 4) := zup_eq
theorem zly_k {k c f n i : Nat} {v : Int32} {σ : zS} (hkc : k ≠ c) : zly k c f v n σ k i = if i = n + 3 then zyk v 0 else if i = n + 2 then zyk v 8 else if i = n + 1 then zyk v 16 else if i = n then zyk v 24 else σ k i := by
  simp [zly, up_rd, hkc]
theorem zly_o {k c f n a b : Nat} {v : Int32} {σ : zS} (hk : a ≠ k) (hc : ¬ (a = c ∧ b = f)) : zly k c f v n σ a b = σ a b := by
  unfold zly
  simp only [up_rd]
  rw [if_neg hc, if_neg (fun z => hk z.1), if_neg hc, if_neg (fun z => hk z.1), if_neg hc, if_neg (fun z => hk z.1), if_neg hc, if_neg (fun z => hk z.1)]
/-- five numbers -/
def zl5 (k c f : Nat) (v1 v2 v3 v4 v5 : Int32) (n : Nat) (σ : zS) : zS := zly k c f v5 (n + 16) (zly k c f v4 (n + 12) (zly k c f v3 (n + 8) (zly k c f v2 (n + 4) (zly k c f v1 n σ))))
theorem s_kfeed {d n : Nat} {σ : zS} {Q : Int32 → zS → Prop} {v1 v2 v3 v4 v5 : Int32} (hn : σ 0 10 = nI n) (hn4 : n ≤ 400) (h1 : n ≤ 380 → Q (nI (n + 20)) (zl5 194 0 10 v1 v2 v3 v4 v5 n σ)) (h0 : 380 < n → Q (-1) σ) : zI1 (d + 1) 127 [.ref 0, .int v1, .int v2, .int v3, .int v4, .int v5] σ Q := by
  show zk _ _ 0 [.ref 0, .int v1, .int v2, .int v3, .int v4, .int v5] [] _ _
  refine r_al0 zi_127_0 rfl ?_
  refine q_getIe zi_127_1 rfl cf_0_10 (v := nI n) (by first | exact hn | ((repeat (first | rw [zup_ne (by first | decide | omega)] | rw [zup_nj (by first | decide | omega)] | rw [fil_ne (by first | decide | omega)])) <;> exact hn) | (simp [up_rd, fil_rd]; exact hn)) ?_
  refine r_push zi_127_4 rfl ?_
  refine n_ic5 (i := n) (j := 380) zi_127_7 rfl (by omega) (by omega) (fun c1 => ?_) (fun c1 => ?_)
  · refine r_al0 zi_127_12 rfl ?_
    refine r_il1 zi_127_13 rfl ?_
    refine q_cVV zi_127_14 rfl rfl rfl rfl rfl rfl rfl cf_0_0.ob (s_klay hn (by omega) ?_)
    show zk _ _ 17 _ _ _ _
    refine r_al0 zi_127_17 rfl ?_
    refine r_il2 zi_127_18 rfl ?_
    refine q_cVV zi_127_19 rfl rfl rfl rfl rfl rfl rfl cf_0_0.ob (s_klay (n := n + 4) zly_n (by omega) ?_)
    show zk _ _ 22 _ _ _ _
    refine r_al0 zi_127_22 rfl ?_
    refine r_il3 zi_127_23 rfl ?_
    refine q_cVV zi_127_24 rfl rfl rfl rfl rfl rfl rfl cf_0_0.ob (s_klay (n := n + 8) zly_n (by omega) ?_)
    show zk _ _ 27 _ _ _ _
    refine r_al0 zi_127_27 rfl ?_
    refine r_il4 zi_127_28 rfl ?_
    refine q_cVV zi_127_30 rfl rfl rfl rfl rfl rfl rfl cf_0_0.ob (s_klay (n := n + 12) zly_n (by omega) ?_)
    show zk _ _ 33 _ _ _ _
    refine r_al0 zi_127_33 rfl ?_
    refine r_il5 zi_127_34 rfl ?_
    refine q_cVV zi_127_36 rfl rfl rfl rfl rfl rfl rfl cf_0_0.ob (s_klay (n := n + 16) zly_n (by omega) ?_)
    show zk _ _ 39 _ _ _ _
    refine r_al0 zi_127_39 rfl ?_
    refine q_getIe zi_127_40 rfl cf_0_10 (v := nI (n + 20)) (by first | exact zly_n | ((repeat (first | rw [zup_ne (by first | decide | omega)] | rw [zup_nj (by first | decide | omega)] | rw [fil_ne (by first | decide | omega)])) <;> exact zly_n) | (simp [up_rd, fil_rd]; exact zly_n)) ?_
    refine r_retI zi_127_43 rfl ?_
    first | exact ⟨_, rfl, h1 (by omega)⟩ | exact ⟨_, rfl, h0 (by omega)⟩
  · refine r_push zi_127_10 rfl ?_
    refine r_retI zi_127_11 rfl ?_
    first | exact ⟨_, rfl, h1 (by omega)⟩ | exact ⟨_, rfl, h0 (by omega)⟩
theorem s_mfeed {d n : Nat} {σ : zS} {Q : Int32 → zS → Prop} {v1 v2 v3 v4 v5 : Int32} (hn : σ 195 11 = nI n) (hn4 : n ≤ 400) (h1 : n ≤ 380 → Q (nI (n + 20)) (zl5 202 195 11 v1 v2 v3 v4 v5 n (up σ 195 0 0))) (h0 : 380 < n → Q (-1) (up σ 195 0 0)) : zI1 (d + 1) 186 [.ref 195, .int v1, .int v2, .int v3, .int v4, .int v5] σ Q := by
  have hn' : up σ 195 0 0 195 11 = nI n := by rw [zup_nj (by decide)]; exact hn
  show zk _ _ 0 [.ref 195, .int v1, .int v2, .int v3, .int v4, .int v5] [] _ _
  refine r_al0 zi_186_0 rfl ?_
  refine r_push zi_186_1 rfl ?_
  refine q_put zi_186_2 rfl cf_195_0 rfl ?_
  refine r_al0 zi_186_5 rfl ?_
  refine q_getIe zi_186_6 rfl cf_195_11 (v := nI n) (by first | exact hn | ((repeat (first | rw [zup_ne (by first | decide | omega)] | rw [zup_nj (by first | decide | omega)] | rw [fil_ne (by first | decide | omega)])) <;> exact hn) | (simp [up_rd, fil_rd]; exact hn)) ?_
  refine r_push zi_186_9 rfl ?_
  refine n_ic5 (i := n) (j := 380) zi_186_12 rfl (by omega) (by omega) (fun c1 => ?_) (fun c1 => ?_)
  · refine r_al0 zi_186_17 rfl ?_
    refine r_il1 zi_186_18 rfl ?_
    refine q_cVV zi_186_19 rfl rfl rfl rfl rfl rfl rfl cf_195_0.ob (s_mlay hn' (by omega) ?_)
    show zk _ _ 22 _ _ _ _
    refine r_al0 zi_186_22 rfl ?_
    refine r_il2 zi_186_23 rfl ?_
    refine q_cVV zi_186_24 rfl rfl rfl rfl rfl rfl rfl cf_195_0.ob (s_mlay (n := n + 4) zly_n (by omega) ?_)
    show zk _ _ 27 _ _ _ _
    refine r_al0 zi_186_27 rfl ?_
    refine r_il3 zi_186_28 rfl ?_
    refine q_cVV zi_186_29 rfl rfl rfl rfl rfl rfl rfl cf_195_0.ob (s_mlay (n := n + 8) zly_n (by omega) ?_)
    show zk _ _ 32 _ _ _ _
    refine r_al0 zi_186_32 rfl ?_
    refine r_il4 zi_186_33 rfl ?_
    refine q_cVV zi_186_35 rfl rfl rfl rfl rfl rfl rfl cf_195_0.ob (s_mlay (n := n + 12) zly_n (by omega) ?_)
    show zk _ _ 38 _ _ _ _
    refine r_al0 zi_186_38 rfl ?_
    refine r_il5 zi_186_39 rfl ?_
    refine q_cVV zi_186_41 rfl rfl rfl rfl rfl rfl rfl cf_195_0.ob (s_mlay (n := n + 16) zly_n (by omega) ?_)
    show zk _ _ 44 _ _ _ _
    refine r_al0 zi_186_44 rfl ?_
    refine q_getIe zi_186_45 rfl cf_195_11 (v := nI (n + 20)) (by first | exact zly_n | ((repeat (first | rw [zup_ne (by first | decide | omega)] | rw [zup_nj (by first | decide | omega)] | rw [fil_ne (by first | decide | omega)])) <;> exact zly_n) | (simp [up_rd, fil_rd]; exact zly_n)) ?_
    refine r_retI zi_186_48 rfl ?_
    first | exact ⟨_, rfl, h1 (by omega)⟩ | exact ⟨_, rfl, h0 (by omega)⟩
  · refine r_push zi_186_15 rfl ?_
    refine r_retI zi_186_16 rfl ?_
    first | exact ⟨_, rfl, h1 (by omega)⟩ | exact ⟨_, rfl, h0 (by omega)⟩

