/-! COUNTING BITS -/
def popF : Nat → Nat → Nat
  | 0, _ => 0
  | k + 1, n => n % 2 + popF k (n / 2)
theorem popF_split : ∀ (j k a b : Nat), a < 2 ^ j → popF (j + k) (a + 2 ^ j * b) = popF j a + popF k b := by
  intro j
  induction j with
  | zero => intro k a b h; simp only [Nat.pow_zero] at h; have : a = 0 := by omega
            subst this; simp [popF]
  | succ j ih =>
    intro k a b h
    rw [show j + 1 + k = (j + k) + 1 by omega]
    simp only [popF]
    have e : 2 ^ (j + 1) * b = 2 * (2 ^ j * b) := by rw [Nat.pow_succ, Nat.mul_comm (2 ^ j) 2, Nat.mul_assoc]
    have h2 : 2 ^ (j + 1) = 2 * 2 ^ j := by rw [Nat.pow_succ, Nat.mul_comm]
    rw [show (a + 2 ^ (j + 1) * b) % 2 = a % 2 by omega, show (a + 2 ^ (j + 1) * b) / 2 = a / 2 + 2 ^ j * b by omega, ih k (a / 2) b (by omega)]
    omega
theorem and_split (k a c m n : Nat) (ha : a < 2 ^ k) (hm : m < 2 ^ k) : (a + 2 ^ k * c) &&& (m + 2 ^ k * n) = (a &&& m) + 2 ^ k * (c &&& n) := by
  apply Nat.eq_of_testBit_eq
  intro i
  rw [Nat.add_comm a, Nat.add_comm m, Nat.add_comm (a &&& m), Nat.testBit_and, Nat.testBit_two_pow_mul_add _ ha, Nat.testBit_two_pow_mul_add _ hm, Nat.testBit_two_pow_mul_add _ (Nat.and_lt_two_pow _ hm)]
  split <;> simp only [Nat.testBit_and]
def pg1 (v m : Nat) : Nat := v - (v / 2 &&& m)
def pg2 (v m : Nat) : Nat := (v &&& m) + (v / 4 &&& m)
def pg3 (v m : Nat) : Nat := (v + v / 16) &&& m
theorem pb1 : ∀ a, a < 256 → ∀ e, e < 2 → (a / 2 + 128 * e) &&& 85 = a / 2 &&& 85 := by decide +kernel
theorem pb2 : ∀ a, a < 256 → ∀ e, e < 4 → (a / 4 + 64 * e) &&& 51 = a / 4 &&& 51 := by decide +kernel
def pb (a : Nat) : Nat := pg2 (pg1 a 85) 51
theorem pb3 : ∀ a, a < 256 → pg1 a 85 < 256 ∧ pb a ≤ 68 ∧ pb a % 16 ≤ 4 ∧ ((pb a + pb a / 16) &&& 15) = popF 8 a ∧ popF 8 a ≤ 8 := by decide +kernel
theorem pg1_split (a b m : Nat) (ha : a < 256) : pg1 (a + 256 * b) (85 + 256 * m) = pg1 a 85 + 256 * pg1 b m := by
  have e : (a + 256 * b) / 2 = (a / 2 + 128 * (b % 2)) + 2 ^ 8 * (b / 2) := by omega
  have l1 : (a / 2 &&& 85) ≤ a / 2 := Nat.and_le_left
  have l2 : (b / 2 &&& m) ≤ b / 2 := Nat.and_le_left
  unfold pg1
  rw [e, show 85 + 256 * m = 85 + 2 ^ 8 * m by omega, and_split 8 _ _ _ _ (by omega) (by decide), pb1 a ha _ (by omega)]
  omega
theorem pg2_split (a b m : Nat) (ha : a < 256) : pg2 (a + 256 * b) (51 + 256 * m) = pg2 a 51 + 256 * pg2 b m := by
  have e : (a + 256 * b) / 4 = (a / 4 + 64 * (b % 4)) + 2 ^ 8 * (b / 4) := by omega
  unfold pg2
  rw [e, show 51 + 256 * m = 51 + 2 ^ 8 * m by omega, and_split 8 (a / 4 + 64 * (b % 4)) (b / 4) 51 m (by omega) (by decide), pb2 a ha _ (by omega), show a + 256 * b = a + 2 ^ 8 * b by omega, and_split 8 a b 51 m ha (by decide)]
  omega
theorem pm16 : ∀ n, n &&& 15 = n % 16 := fun n => Nat.and_two_pow_sub_one_eq_mod n 4
theorem pg3_split (a b m : Nat) (ha : a ≤ 68) (hb : b % 16 ≤ 4) : pg3 (a + 256 * b) (15 + 256 * m) = ((a + a / 16) &&& 15) + 256 * pg3 b m := by
  have e : a + 256 * b + (a + 256 * b) / 16 = (a + a / 16 + 16 * (b % 16)) + 2 ^ 8 * (b + b / 16) := by omega
  unfold pg3
  rw [e, show 15 + 256 * m = 15 + 2 ^ 8 * m by omega, and_split 8 _ _ _ _ (by omega) (by decide), pm16, pm16]
  omega
theorem pop_swar (a b c d : Nat) (ha : a < 256) (hb : b < 256) (hc : c < 256) (hd : d < 256) :
    pg3 (pg2 (pg1 (a + 256 * (b + 256 * (c + 256 * d))) 1431655765) 858993459) 252645135 = popF 8 a + 256 * (popF 8 b + 256 * (popF 8 c + 256 * popF 8 d)) := by
  obtain ⟨a1, a2, a3, a4, -⟩ := pb3 a ha
  obtain ⟨b1, b2, b3, b4, -⟩ := pb3 b hb
  obtain ⟨c1, c2, c3, c4, -⟩ := pb3 c hc
  obtain ⟨d1, d2, d3, d4, -⟩ := pb3 d hd
  unfold pb at *
  rw [show 1431655765 = 85 + 256 * (85 + 256 * (85 + 256 * 85)) by rfl, show 858993459 = 51 + 256 * (51 + 256 * (51 + 256 * 51)) by rfl, show 252645135 = 15 + 256 * (15 + 256 * (15 + 256 * 15)) by rfl,
    pg1_split _ _ _ ha, pg1_split _ _ _ hb, pg1_split _ _ _ hc, pg2_split _ _ _ a1, pg2_split _ _ _ b1, pg2_split _ _ _ c1,
    pg3_split _ _ _ a2 (by omega), pg3_split _ _ _ b2 (by omega), pg3_split _ _ _ c2 (by omega), a4, b4, c4]
  show _ + 256 * (_ + 256 * (_ + 256 * ((_ + _) &&& 15))) = _
  rw [d4]
/-- a word as a natural number -/
def un (v : Int32) : Nat := v.toBitVec.toNat
theorem un_lt (v : Int32) : un v < 2 ^ 32 := v.toBitVec.isLt
theorem un_inj {v w : Int32} (h : un v = un w) : v = w := Int32.toBitVec_inj.mp (BitVec.eq_of_toNat_eq h)
theorem un_and (v w : Int32) : un (v &&& w) = un v &&& un w := by unfold un; rw [Int32.toBitVec_and, BitVec.toNat_and]
theorem un_add (v w : Int32) : un (v + w) = (un v + un w) % 2 ^ 32 := by unfold un; rw [Int32.toBitVec_add, BitVec.toNat_add]
theorem un_sub (v w : Int32) : un (v - w) = (2 ^ 32 - un w + un v) % 2 ^ 32 := by unfold un; rw [Int32.toBitVec_sub, BitVec.toNat_sub]
theorem un_nI {n : Nat} (h : n < 2 ^ 32) : un (nI n) = n := by
  show (BitVec.ofNat 32 n).toNat = n
  rw [BitVec.toNat_ofNat, Nat.mod_eq_of_lt h]
theorem nI_un (v : Int32) : v = nI (un v) := un_inj (un_nI (un_lt v)).symm
theorem un_shr {v : Int32} {k : Int32} {j : Nat} (hk : un (k &&& 31) = j) (hj : j < 32) : un (v.toUInt32 >>> (k &&& 31).toUInt32).toInt32 = un v / 2 ^ j := by
  have e : ((k &&& 31).toUInt32).toBitVec.toNat = j := hk
  show (v.toUInt32 >>> (k &&& 31).toUInt32).toBitVec.toNat = _
  rw [UInt32.toBitVec_shiftRight, BitVec.ushiftRight_eq', BitVec.toNat_ushiftRight, Nat.shiftRight_eq_div_pow, BitVec.toNat_umod]
  rw [show ((k &&& 31).toUInt32).toBitVec.toNat = j from hk]
  show un v / 2 ^ (j % 32) = _
  rw [Nat.mod_eq_of_lt hj]
/-- the bits that are set -/
def zpop (v : Int32) : Nat := popF 32 (un v)
theorem popF_le : ∀ k n, popF k n ≤ k
  | 0, _ => Nat.le_refl 0
  | k + 1, n => by have := popF_le k (n / 2); simp only [popF]; omega
theorem zpop_le (v : Int32) : zpop v ≤ 32 := popF_le _ _
theorem zpop_bytes (a b c d : Nat) (ha : a < 256) (hb : b < 256) (hc : c < 256) : popF 32 (a + 256 * (b + 256 * (c + 256 * d))) = popF 8 a + (popF 8 b + (popF 8 c + popF 8 d)) := by
  have h1 := popF_split 8 24 a (b + 256 * (c + 256 * d)) ha
  have h2 := popF_split 8 16 b (c + 256 * d) hb
  have h3 := popF_split 8 8 c d hc
  simp only [show (2 : Nat) ^ 8 = 256 by rfl, Nat.reduceAdd] at h1 h2 h3
  omega
abbrev zsr (v k : Int32) : Int32 := (v.toUInt32 >>> (k &&& 31).toUInt32).toInt32
theorem sw1 {v : Int32} : un (v - (zsr v 1 &&& 1431655765)) = pg1 (un v) 1431655765 := by
  have e : un (zsr v 1 &&& 1431655765) = (un v / 2 &&& 1431655765) := by rw [un_and, un_shr (j := 1) (by decide) (by omega)]; rfl
  have l : (un v / 2 &&& 1431655765) ≤ un v / 2 := Nat.and_le_left
  have hv := un_lt v
  rw [un_sub, e]; unfold pg1
  omega
theorem sw2 {v : Int32} : un ((v &&& 858993459) + (zsr v 2 &&& 858993459)) = pg2 (un v) 858993459 := by
  have e : un (zsr v 2 &&& 858993459) = (un v / 4 &&& 858993459) := by rw [un_and, un_shr (j := 2) (by decide) (by omega)]; rfl
  have e2 : un (v &&& 858993459) = (un v &&& 858993459) := by rw [un_and]; rfl
  have l : (un v / 4 &&& 858993459) ≤ 858993459 := Nat.and_le_right
  have l2 : (un v &&& 858993459) ≤ 858993459 := Nat.and_le_right
  rw [un_add, e, e2]; unfold pg2
  omega
theorem sw2le {n : Nat} : pg2 n 858993459 ≤ 1717986918 := by
  have l : (n / 4 &&& 858993459) ≤ 858993459 := Nat.and_le_right
  have l2 : (n &&& 858993459) ≤ 858993459 := Nat.and_le_right
  unfold pg2; omega
theorem sw3 {v : Int32} (hv : un v ≤ 1717986918) : un ((v + zsr v 4) &&& 252645135) = pg3 (un v) 252645135 := by
  have e : un (v + zsr v 4) = un v + un v / 16 := by
    rw [un_add, un_shr (j := 4) (by decide) (by omega)]; omega
  rw [un_and, e]; rfl
theorem sw3le {n : Nat} : pg3 n 252645135 ≤ 252645135 := Nat.and_le_right
theorem sw4 {v : Int32} (hv : un v ≤ 252645135) : un (v + zsr v 8) = un v + un v / 256 := by
  rw [un_add, un_shr (j := 8) (by decide) (by omega)]; omega
theorem sw5 {v : Int32} (hv : un v ≤ 300000000) : un (v + zsr v 16) = un v + un v / 65536 := by
  rw [un_add, un_shr (j := 16) (by decide) (by omega)]; omega
theorem sw6 {v : Int32} : un (v &&& 63) = un v % 64 := by
  rw [un_and]; exact Nat.and_two_pow_sub_one_eq_mod _ 6
theorem zpop_swar (v : Int32) : ∀ w1 w2 w3 w4 w5 : Int32, w1 = v - (zsr v 1 &&& 1431655765) → w2 = (w1 &&& 858993459) + (zsr w1 2 &&& 858993459) → w3 = (w2 + zsr w2 4) &&& 252645135 → w4 = w3 + zsr w3 8 → w5 = w4 + zsr w4 16 → nI (zpop v) = w5 &&& 63 := by
  intro w1 w2 w3 w4 w5 e1 e2 e3 e4 e5
  apply un_inj
  have hp := zpop_le v
  rw [un_nI (by omega), sw6]
  have f1 : un w1 = pg1 (un v) 1431655765 := by rw [e1]; exact sw1
  have f2 : un w2 = pg2 (un w1) 858993459 := by rw [e2]; exact sw2
  have l2 : un w2 ≤ 1717986918 := by rw [f2]; exact sw2le
  have f3 : un w3 = pg3 (un w2) 252645135 := by rw [e3]; exact sw3 l2
  have l3 : un w3 ≤ 252645135 := by rw [f3]; exact sw3le
  have f4 : un w4 = un w3 + un w3 / 256 := by rw [e4]; exact sw4 l3
  have f5 : un w5 = un w4 + un w4 / 65536 := by rw [e5]; exact sw5 (by omega)
  have hv := un_lt v
  have hb : un v = un v % 256 + 256 * (un v / 256 % 256 + 256 * (un v / 65536 % 256 + 256 * (un v / 16777216))) := by omega
  have hs := pop_swar (un v % 256) (un v / 256 % 256) (un v / 65536 % 256) (un v / 16777216) (by omega) (by omega) (by omega) (by omega)
  have hz := zpop_bytes (un v % 256) (un v / 256 % 256) (un v / 65536 % 256) (un v / 16777216) (by omega) (by omega) (by omega)
  rw [← hb] at hs hz
  have k1 := popF_le 8 (un v % 256)
  have k2 := popF_le 8 (un v / 256 % 256)
  have k3 := popF_le 8 (un v / 65536 % 256)
  have k4 := popF_le 8 (un v / 16777216)
  rw [← f1, ← f2, ← f3] at hs
  change zpop v = _ at hz
  generalize popF 8 (un v % 256) = A at *
  generalize popF 8 (un v / 256 % 256) = B at *
  generalize popF 8 (un v / 65536 % 256) = C at *
  generalize popF 8 (un v / 16777216) = D at *
  clear hb f1 f2 f3
  have g1 : un w3 / 256 = B + 256 * (C + 256 * D) := by omega
  rw [g1] at f4
  have g2 : un w4 / 65536 = C + D + 256 * D := by omega
  rw [g2] at f5
  omega
/-- clearing the lowest bit -/
theorem popF_low : ∀ (k n : Nat), 0 < n → n < 2 ^ k → popF k (n &&& (n - 1)) + 1 = popF k n := by
  intro k
  induction k with
  | zero => intro n h0 h1; simp only [Nat.pow_zero] at h1; omega
  | succ k ih =>
    intro n h0 h1
    have h2 : 2 ^ (k + 1) = 2 * 2 ^ k := by rw [Nat.pow_succ, Nat.mul_comm]
    by_cases ho : n % 2 = 1
    · have e1 : n = 1 + 2 ^ 1 * (n / 2) := by omega
      have e2 : n - 1 = 0 + 2 ^ 1 * (n / 2) := by omega
      have e3 : n &&& (n - 1) = 2 * (n / 2) := by
        rw [e2]; conv => lhs; lhs; rw [e1]
        rw [and_split 1 1 (n / 2) 0 (n / 2) (by decide) (by decide), Nat.and_self]; simp
      rw [e3]; simp only [popF]
      rw [show 2 * (n / 2) % 2 = 0 by omega, show 2 * (n / 2) / 2 = n / 2 by omega]
      omega
    · have e1 : n = 0 + 2 ^ 1 * (n / 2) := by omega
      have e2 : n - 1 = 1 + 2 ^ 1 * (n / 2 - 1) := by omega
      have e3 : n &&& (n - 1) = 2 * (n / 2 &&& (n / 2 - 1)) := by
        rw [e2]; conv => lhs; lhs; rw [e1]
        rw [and_split 1 0 (n / 2) 1 (n / 2 - 1) (by decide) (by decide)]; simp
      have hh := ih (n / 2) (by omega) (by omega)
      rw [e3]; simp only [popF]
      rw [show 2 * (n / 2 &&& (n / 2 - 1)) % 2 = 0 by omega, show 2 * (n / 2 &&& (n / 2 - 1)) / 2 = (n / 2 &&& (n / 2 - 1)) by omega]
      omega
theorem zpop_0 : zpop 0 = 0 := by decide +kernel
theorem zpop_low {v : Int32} (h : v ≠ 0) : zpop (v &&& (v - 1)) + 1 = zpop v := by
  have h0 : 0 < un v := by
    rcases Nat.eq_zero_or_pos (un v) with e | e
    · exact absurd (un_inj (v := v) (w := 0) (by rw [e]; rfl)) h
    · exact e
  have hv := un_lt v
  have e : un (v - 1) = un v - 1 := by rw [un_sub, show un 1 = 1 by rfl]; omega
  unfold zpop
  rw [un_and, e]
  exact popF_low 32 _ h0 hv
theorem l_ones {d : Nat} {σ : zS} {Q : Int32 → zS → Prop} {u : Int32} (h : Q (nI (zpop u)) σ) : ∀ (m r : Nat) (w v : Int32), zpop v = m → r + m = zpop u → zk d 169 4 [.ref 195, .int w, .int (nI r), .int v] [] σ (fun r t => ∃ v, r = some v ∧ Q v t) := by
  intro m
  induction m with
  | zero =>
    intro r w v hv hr
    have hz : v = 0 := Decidable.byContradiction fun c => by have := zpop_low c; omega
    refine r_il3 zi_169_4 rfl ?_
    refine r_if0 zi_169_5 rfl (fun _ => ?_) (fun c => absurd hz c)
    refine r_il2 zi_169_21 rfl ?_
    refine r_retI zi_169_22 rfl ?_
    exact ⟨_, rfl, by rw [show r = zpop u by omega]; exact h⟩
  | succ m ih =>
    intro r w v hv hr
    have hz : v ≠ 0 := fun c => by rw [c, zpop_0] at hv; omega
    have hl := zpop_low hz
    refine r_il3 zi_169_4 rfl ?_
    refine r_if0 zi_169_5 rfl (fun c => absurd c hz) (fun _ => ?_)
    refine r_il2 zi_169_8 rfl ?_
    refine r_push zi_169_9 rfl ?_
    refine r_b0 zi_169_10 rfl ?_
    rw [show (nI r + 1 : Int32) = nI (r + 1) from nI_add _ _]
    refine r_is2 zi_169_11 rfl ?_
    refine r_il3 zi_169_12 rfl ?_
    refine r_il3 zi_169_13 rfl ?_
    refine r_push zi_169_14 rfl ?_
    refine r_b1 zi_169_15 rfl ?_
    refine r_b3 zi_169_16 rfl ?_
    refine r_is3 zi_169_17 rfl ?_
    refine r_goto zi_169_18 rfl ?_
    exact ih (r + 1) _ _ (by omega) (by omega)
theorem s_ones {d : Nat} {σ : zS} {Q : Int32 → zS → Prop} {v : Int32} (h : Q (nI (zpop v)) σ) : zI1 d 169 [.ref 195, .int v] σ Q := by
  show zk _ _ 0 [.ref 195, .int v, zun, zun] [] _ _
  refine r_push zi_169_0 rfl ?_
  refine r_is2 zi_169_1 rfl ?_
  refine r_il1 zi_169_2 rfl ?_
  refine r_is3 zi_169_3 rfl ?_
  exact l_ones h _ 0 _ _ rfl (by omega)
theorem s_bits {d : Nat} {σ : zS} {Q : Int32 → zS → Prop} {v : Int32} (h : Q (nI (zpop v)) σ) : zI1 d 290 [.int v] σ Q := by
  show zk _ _ 0 [.int v] [] _ _
  refine r_il0 zi_290_0 rfl ?_
  refine r_il0 zi_290_1 rfl ?_
  refine r_push zi_290_2 rfl ?_
  refine r_b8 zi_290_3 rfl ?_
  refine r_push zi_290_4 rfl ?_
  refine r_b3 zi_290_7 rfl ?_
  refine r_b1 zi_290_8 rfl ?_
  refine r_is0 zi_290_9 rfl ?_
  refine r_il0 zi_290_10 rfl ?_
  refine r_push zi_290_11 rfl ?_
  refine r_b3 zi_290_14 rfl ?_
  refine r_il0 zi_290_15 rfl ?_
  refine r_push zi_290_16 rfl ?_
  refine r_b8 zi_290_17 rfl ?_
  refine r_push zi_290_18 rfl ?_
  refine r_b3 zi_290_21 rfl ?_
  refine r_b0 zi_290_22 rfl ?_
  refine r_is0 zi_290_23 rfl ?_
  refine r_il0 zi_290_24 rfl ?_
  refine r_il0 zi_290_25 rfl ?_
  refine r_push zi_290_26 rfl ?_
  refine r_b8 zi_290_27 rfl ?_
  refine r_b0 zi_290_28 rfl ?_
  refine r_push zi_290_29 rfl ?_
  refine r_b3 zi_290_32 rfl ?_
  refine r_is0 zi_290_33 rfl ?_
  refine r_il0 zi_290_34 rfl ?_
  refine r_il0 zi_290_35 rfl ?_
  refine r_push zi_290_36 rfl ?_
  refine r_b8 zi_290_38 rfl ?_
  refine r_b0 zi_290_39 rfl ?_
  refine r_is0 zi_290_40 rfl ?_
  refine r_il0 zi_290_41 rfl ?_
  refine r_il0 zi_290_42 rfl ?_
  refine r_push zi_290_43 rfl ?_
  refine r_b8 zi_290_45 rfl ?_
  refine r_b0 zi_290_46 rfl ?_
  refine r_is0 zi_290_47 rfl ?_
  refine r_il0 zi_290_48 rfl ?_
  refine r_push zi_290_49 rfl ?_
  refine r_b3 zi_290_51 rfl ?_
  refine r_retI zi_290_52 rfl ?_
  refine ⟨_, rfl, ?_⟩
  refine cast (congrArg (fun w => Q w σ) ?_) h
  exact zpop_swar v _ _ _ _ _ rfl rfl rfl rfl rfl

