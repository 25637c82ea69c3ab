/-! BITS -/
theorem un_or (v w : Int32) : un (v ||| w) = un v ||| un w := by unfold un; rw [Int32.toBitVec_or, BitVec.toNat_or]
theorem un_xor (v w : Int32) : un (v ^^^ w) = un v ^^^ un w := by unfold un; rw [Int32.toBitVec_xor, BitVec.toNat_xor]
theorem un_neg (v : Int32) : un (-v) = (2 ^ 32 - un v) % 2 ^ 32 := by unfold un; rw [Int32.toBitVec_neg, BitVec.toNat_neg]
theorem un_one : ∀ k, k < 32 → un ((1 : Int32) <<< (nI k &&& 31)) = 2 ^ k := by decide +kernel
theorem un_amt : ∀ k, k < 32 → ((nI k &&& 31).toBitVec.smod 32).toNat = k := by decide +kernel
theorem and1_iff (x : Int32) : x &&& 1 = 1 ↔ un x % 2 = 1 := by
  have h : un (x &&& 1) = un x % 2 := by rw [un_and]; exact Nat.and_two_pow_sub_one_eq_mod _ 1
  constructor
  · intro e; rw [← h, e]; rfl
  · intro e; exact un_inj (by rw [h, e]; rfl)
theorem zbit {v : Int32} {k : Nat} (hk : k < 32) : v >>> (nI k &&& 31) &&& 1 = 1 ↔ (un v).testBit k = true := by
  rw [and1_iff]
  have e : (un (v >>> (nI k &&& 31))).testBit 0 = (un v).testBit k := by
    show (v >>> (nI k &&& 31)).toBitVec.getLsbD 0 = v.toBitVec.getLsbD k
    rw [Int32.toBitVec_shiftRight, BitVec.sshiftRight', un_amt k hk, BitVec.getLsbD_sshiftRight]
    simp [hk]
  rw [← e, Nat.testBit_zero]
  simp
theorem zset_bit {f : Nat → Bool} : ∀ {n : Nat}, n ≤ 32 → ∀ k, (un (zset f n)).testBit k = (decide (k < n) && f k)
  | 0, _, k => by show (0 : Nat).testBit k = _; simp
  | n + 1, hn, k => by
    have ih := zset_bit (f := f) (n := n) (by omega) k
    by_cases hf : f n
    · simp only [zset, hf, if_true]
      rw [un_or, Nat.testBit_or, ih, un_one n (by omega), Nat.testBit_two_pow]
      by_cases hk : k = n
      · subst hk; simp [hf]
      · have : n ≠ k := fun z => hk z.symm
        simp only [this, decide_false, Bool.or_false]
        congr 1
        exact decide_eq_decide.mpr (by omega)
    · simp only [zset, hf]
      rw [if_neg (by simp), ih]
      by_cases hk : k = n
      · subst hk; simp [hf]
      · congr 1
        exact decide_eq_decide.mpr (by omega)
theorem un_ext {v w : Int32} (h : ∀ k, k < 32 → (un v).testBit k = (un w).testBit k) : v = w := by
  apply un_inj
  apply Nat.eq_of_testBit_eq
  intro k
  by_cases hk : k < 32
  · exact h k hk
  · rw [Nat.testBit_lt_two_pow (Nat.lt_of_lt_of_le (un_lt v) (Nat.pow_le_pow_right (by decide) (by omega))), Nat.testBit_lt_two_pow (Nat.lt_of_lt_of_le (un_lt w) (Nat.pow_le_pow_right (by decide) (by omega)))]
theorem zset_eq {f g : Nat → Bool} {n m : Nat} (hn : n ≤ 32) (hm : m ≤ 32) (h : ∀ k, k < 32 → (decide (k < n) && f k) = (decide (k < m) && g k)) : zset f n = zset g m := by
  apply un_ext
  intro k hk
  rw [zset_bit hn, zset_bit hm, h k hk]
/-- the lowest that is set -/
def tzF : Nat → Nat → Nat
  | 0, _ => 0
  | k + 1, n => if n % 2 = 1 then 0 else tzF k (n / 2) + 1
theorem and_compl (m u : Nat) (h : u < 2 ^ m) : u &&& (2 ^ m - 1 - u) = 0 := by
  apply Nat.eq_of_testBit_eq
  intro i
  rw [Nat.testBit_and, show 2 ^ m - 1 - u = 2 ^ m - (u + 1) by omega, Nat.testBit_two_pow_sub_succ h, Nat.zero_testBit]
  cases u.testBit i <;> simp
theorem tzF_low : ∀ (k n : Nat), 0 < n → n < 2 ^ k → n &&& (2 ^ k - n) = 2 ^ tzF k n ∧ tzF k n < k ∧ n.testBit (tzF k n) = true ∧ ∀ j, j < tzF k n → n.testBit j = false := by
  intro k
  induction k with
  | zero => intro n h0 h1; simp only [Nat.pow_zero] at h1; omega
  | succ k ih =>
    intro n h0 h1
    have h2 : 2 ^ (k + 1) = 2 * 2 ^ k := by rw [Nat.pow_succ, Nat.mul_comm]
    by_cases ho : n % 2 = 1
    · have e1 : n = 1 + 2 ^ 1 * (n / 2) := by omega
      have e2 : 2 ^ (k + 1) - n = 1 + 2 ^ 1 * (2 ^ k - 1 - n / 2) := by omega
      simp only [tzF, ho, if_true]
      refine ⟨?_, by omega, ?_, fun j hj => absurd hj (by omega)⟩
      · rw [e2]; conv => lhs; lhs; rw [e1]
        rw [and_split 1 1 (n / 2) 1 _ (by decide) (by decide), and_compl k (n / 2) (by omega)]; rfl
      · rw [Nat.testBit_zero]; simp [ho]
    · have e1 : n = 0 + 2 ^ 1 * (n / 2) := by omega
      have e2 : 2 ^ (k + 1) - n = 0 + 2 ^ 1 * (2 ^ k - n / 2) := by omega
      obtain ⟨i1, i2, i3, i4⟩ := ih (n / 2) (by omega) (by omega)
      simp only [tzF, ho, if_false]
      refine ⟨?_, by omega, ?_, fun j hj => ?_⟩
      · rw [e2]; conv => lhs; lhs; rw [e1]
        rw [and_split 1 0 (n / 2) 0 _ (by decide) (by decide), i1, Nat.and_self]
        show 0 + 2 ^ 1 * 2 ^ tzF k (n / 2) = _
        rw [Nat.zero_add, ← Nat.pow_add, Nat.add_comm]
      · rw [Nat.testBit_succ]; exact i3
      · rcases j with _ | j
        · rw [Nat.testBit_zero]; simp; omega
        · rw [Nat.testBit_succ]; exact i4 j (by omega)
abbrev ztz (v : Int32) : Nat := tzF 32 (un v)
theorem pop_ones : ∀ t, t < 32 → popF 32 (2 ^ t - 1) = t := by decide +kernel
theorem zpop_tz {v : Int32} (h : v ≠ 0) : zpop ((v &&& -v) - 1) = ztz v ∧ ztz v < 32 ∧ (un v).testBit (ztz v) = true ∧ ∀ j, j < ztz v → (un v).testBit j = false := by
  have h0 : 0 < un v := by
    rcases Nat.eq_zero_or_pos (un v) with e | e
    · exact absurd (un_inj (v := v) (w := 0) (by rw [e]; rfl)) h
    · exact e
  have hv := un_lt v
  obtain ⟨i1, i2, i3, i4⟩ := tzF_low 32 (un v) h0 hv
  refine ⟨?_, i2, i3, i4⟩
  have hp : 2 ^ ztz v < 2 ^ 32 := Nat.pow_lt_pow_right (by decide) i2
  have hp0 : 0 < 2 ^ ztz v := Nat.two_pow_pos _
  have e : un (v &&& -v) = 2 ^ ztz v := by rw [un_and, un_neg, Nat.mod_eq_of_lt (by omega)]; exact i1
  have e2 : un ((v &&& -v) - 1) = 2 ^ ztz v - 1 := by rw [un_sub, e, show un 1 = 1 by rfl]; omega
  unfold zpop
  rw [e2]
  exact pop_ones _ i2
theorem s_least {d : Nat} {σ : zS} {Q : Int32 → zS → Prop} {v : Int32} (hv : v ≠ 0) (h : Q (nI (ztz v)) σ) : zI1 (d + 1) 160 [.int v] σ Q := by
  show zk _ _ 0 [.int v] [] _ _
  refine r_il0 zi_160_0 rfl ?_
  refine r_il0 zi_160_1 rfl ?_
  refine r_neg zi_160_2 rfl ?_
  refine r_b3 zi_160_3 rfl ?_
  refine r_push zi_160_4 rfl ?_
  refine r_b1 zi_160_5 rfl ?_
  refine r_cIS zi_160_6 rfl rfl rfl rfl rfl rfl (s_bits ?_)
  show zk _ _ 9 _ _ _ _
  refine r_retI zi_160_9 rfl ?_
  exact ⟨_, rfl, by rw [(zpop_tz hv).1]; exact h⟩
theorem l_lowest {d : Nat} {σ : zS} {Q : Int32 → zS → Prop} {v : Int32} (hv : v ≠ 0) (h : Q (nI (ztz v)) σ) : ∀ (m k : Nat), k + m = ztz v → zk (d + 1) 279 2 [.ref 195, .int v, .int (nI k)] [] σ (fun r t => ∃ v, r = some v ∧ Q v t) := by
  intro m
  obtain ⟨-, i2, i3, i4⟩ := zpop_tz hv
  induction m with
  | zero =>
    intro k hk
    have e : k = ztz v := by omega
    refine r_al0 zi_279_2 rfl ?_
    refine r_il1 zi_279_3 rfl ?_
    refine r_il2 zi_279_4 rfl ?_
    refine q_cIV zi_279_5 rfl rfl rfl rfl rfl rfl rfl cf_195_0.ob (s_has (fun _ => ?_) (fun z => absurd ((zbit (by omega)).mpr (by rw [e]; exact i3)) z))
    show zk _ _ 8 _ _ _ _
    refine r_if1 zi_279_8 rfl (fun _ => ?_) (fun c => absurd c (by decide))
    refine r_il2 zi_279_18 rfl ?_
    refine r_retI zi_279_19 rfl ?_
    exact ⟨_, rfl, by rw [e]; exact h⟩
  | succ m ih =>
    intro k hk
    refine r_al0 zi_279_2 rfl ?_
    refine r_il1 zi_279_3 rfl ?_
    refine r_il2 zi_279_4 rfl ?_
    refine q_cIV zi_279_5 rfl rfl rfl rfl rfl rfl rfl cf_195_0.ob (s_has (fun z => absurd ((zbit (by omega)).mp z) (by rw [i4 k (by omega)]; decide)) (fun _ => ?_))
    show zk _ _ 8 _ _ _ _
    refine r_if1 zi_279_8 rfl (fun c => absurd (by decide) c) (fun _ => ?_)
    refine r_il2 zi_279_11 rfl ?_
    refine r_push zi_279_12 rfl ?_
    refine r_b0 zi_279_13 rfl ?_
    rw [show (nI k + 1 : Int32) = nI (k + 1) from nI_add _ _]
    refine r_is2 zi_279_14 rfl ?_
    refine r_goto zi_279_15 rfl ?_
    exact ih (k + 1) (by omega)
theorem s_lowest {d : Nat} {σ : zS} {Q : Int32 → zS → Prop} {v : Int32} (hv : v ≠ 0) (h : Q (nI (ztz v)) σ) : zI1 (d + 1) 279 [.ref 195, .int v] σ Q := by
  show zk _ _ 0 [.ref 195, .int v, zun] [] _ _
  refine r_push zi_279_0 rfl ?_
  refine r_is2 zi_279_1 rfl ?_
  exact l_lowest hv h (ztz v) 0 (by omega)

