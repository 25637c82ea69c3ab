/-! RANKS -/
def rkC (n : Nat) : Nat → Nat → Nat
  | 0, _ => 0
  | m + 1, a => (if n % a = 0 then 1 else 0) + rkC n m (a + 1)
def rkD (n : Nat) : Nat → Nat → Nat
  | 0, _ => n
  | m + 1, a => if n % a = 0 ∧ n ≤ a * a then a else rkD n m (a + 1)
def ra (n : Nat) (w : Int32) : Int32 := if w = 1 then nI (rkD n n 1) else nI (rkC n n 1)
theorem rk_div {n k : Nat} (hk : 1 ≤ k) (h : n % k = 0) : n / k ≤ k ↔ n ≤ k * k := by
  have h2 : k * (n / k) = n := Nat.mul_div_cancel' (Nat.dvd_of_mod_eq_zero h)
  constructor
  · intro h3
    calc n = k * (n / k) := h2.symm
      _ ≤ k * k := Nat.mul_le_mul_left k h3
  · intro h3
    exact Nat.div_le_of_le_mul h3
theorem l_mr0 {d : Nat} {σ : zS} {Q : Int32 → zS → Prop} {n : Nat} {w : Int32} (hw : ¬ w = 1) (hn : n ≤ 999) : ∀ (m k c : Nat), k + m = n + 1 → 1 ≤ k → (h : Q (nI (c + rkC n m k)) σ) →
    zk d 271 34 [.ref 195, .int (nI n), .int w, .int (nI c), .int (nI k)] [] σ (fun r t => ∃ v, r = some v ∧ Q v t) := by
  intro m
  induction m with
  | zero =>
    intro k c hk h1 h
    simp only [rkC] at h
    refine r_il4 zi_271_34 rfl ?_
    refine r_il1 zi_271_36 rfl ?_
    refine r_ic4 zi_271_37 rfl (fun _ => ?_) (fun c => absurd (nI_lt (by omega) (by omega)) c)
    refine r_il3 zi_271_77 rfl ?_
    refine r_retI zi_271_78 rfl ?_
    exact ⟨_, rfl, h⟩
  | succ m ih =>
    intro k c hk h1 h
    simp only [rkC] at h
    by_cases hd : n % k = 0
    · rw [if_pos hd, ← Nat.add_assoc] at h
      refine r_il4 zi_271_34 rfl ?_
      refine r_il1 zi_271_36 rfl ?_
      refine r_ic4 zi_271_37 rfl (fun c => absurd c (nI_nlt (by omega) (by omega))) (fun _ => ?_)
      refine r_il1 zi_271_40 rfl ?_
      refine r_il4 zi_271_41 rfl ?_
      refine r_rem zi_271_43 rfl (nI_ne0 (by omega) (by omega)) ?_
      rw [show (nI n % nI k : Int32) = nI (n % k) from zI_rem (by omega) (by omega) (by omega)]
      refine r_if0 zi_271_44 rfl (fun _ => ?_) (fun c => absurd (by rw [hd]; rfl) c)
      refine r_il3 zi_271_50 rfl ?_
      refine r_push zi_271_51 rfl ?_
      refine r_b0 zi_271_52 rfl ?_
      rw [show (nI c + 1 : Int32) = nI (c + 1) from nI_add _ _]
      refine r_is3 zi_271_53 rfl ?_
      refine r_il2 zi_271_54 rfl ?_
      refine r_push zi_271_55 rfl ?_
      refine r_ic1 zi_271_56 rfl (fun _ => ?_) (fun c => absurd c hw)
      refine r_in4 zi_271_71 rfl ?_
      rw [show (nI k + 1 : Int32) = nI (k + 1) from nI_add _ _]
      refine r_goto zi_271_74 rfl ?_
      exact ih (k + 1) (c + 1) (by omega) (by omega) h
    · rw [if_neg hd, Nat.zero_add] at h
      have hd2 : n % k < k := Nat.mod_lt _ (by omega)
      refine r_il4 zi_271_34 rfl ?_
      refine r_il1 zi_271_36 rfl ?_
      refine r_ic4 zi_271_37 rfl (fun c => absurd c (nI_nlt (by omega) (by omega))) (fun _ => ?_)
      refine r_il1 zi_271_40 rfl ?_
      refine r_il4 zi_271_41 rfl ?_
      refine r_rem zi_271_43 rfl (nI_ne0 (by omega) (by omega)) ?_
      rw [show (nI n % nI k : Int32) = nI (n % k) from zI_rem (by omega) (by omega) (by omega)]
      refine r_if0 zi_271_44 rfl (fun c => absurd c (nI_ne0 (by omega) (by omega))) (fun _ => ?_)
      refine r_goto zi_271_47 rfl ?_
      refine r_in4 zi_271_71 rfl ?_
      rw [show (nI k + 1 : Int32) = nI (k + 1) from nI_add _ _]
      refine r_goto zi_271_74 rfl ?_
      exact ih (k + 1) c (by omega) (by omega) h
theorem l_mr1 {d : Nat} {σ : zS} {Q : Int32 → zS → Prop} {n : Nat} (hn : n ≤ 999) : ∀ (m k c : Nat), k + m = n → 1 ≤ k → (h : Q (nI (rkD n (m + 1) k)) σ) →
    zk d 271 34 [.ref 195, .int (nI n), .int 1, .int (nI c), .int (nI k)] [] σ (fun r t => ∃ v, r = some v ∧ Q v t) := by
  intro m
  induction m with
  | zero =>
    intro k c hk h1 h
    have hkn : k = n := by omega
    subst hkn
    have hd : k % k = 0 := Nat.mod_self k
    have hp : k ≤ k * k := Nat.le_mul_of_pos_left k (by omega)
    have hq := (rk_div h1 hd).mpr hp
    simp only [rkD] at h
    rw [if_pos ⟨hd, hp⟩] at h
    refine r_il4 zi_271_34 rfl ?_
    refine r_il1 zi_271_36 rfl ?_
    refine r_ic4 zi_271_37 rfl (fun c => absurd c (nI_nlt (by omega) (by omega))) (fun _ => ?_)
    refine r_il1 zi_271_40 rfl ?_
    refine r_il4 zi_271_41 rfl ?_
    refine r_rem zi_271_43 rfl (nI_ne0 (by omega) (by omega)) ?_
    rw [show (nI k % nI k : Int32) = nI (k % k) from zI_rem (by omega) (by omega) (by omega)]
    refine r_if0 zi_271_44 rfl (fun _ => ?_) (fun c => absurd (by rw [hd]; rfl) c)
    refine r_il3 zi_271_50 rfl ?_
    refine r_push zi_271_51 rfl ?_
    refine r_b0 zi_271_52 rfl ?_
    rw [show (nI c + 1 : Int32) = nI (c + 1) from nI_add _ _]
    refine r_is3 zi_271_53 rfl ?_
    refine r_il2 zi_271_54 rfl ?_
    refine r_push zi_271_55 rfl ?_
    refine r_ic1 zi_271_56 rfl (fun c => absurd (by decide) c) (fun _ => ?_)
    refine r_il4 zi_271_59 rfl ?_
    refine r_il1 zi_271_61 rfl ?_
    refine r_il4 zi_271_62 rfl ?_
    refine r_div zi_271_64 rfl (nI_ne0 (by omega) (by omega)) ?_
    rw [show (nI k / nI k : Int32) = nI (k / k) from pk_div (by omega) (by omega) (by omega)]
    refine r_ic2 zi_271_65 rfl (fun c => absurd c (nI_nlt hq (by omega))) (fun _ => ?_)
    refine r_il4 zi_271_68 rfl ?_
    refine r_retI zi_271_70 rfl ?_
    exact ⟨_, rfl, h⟩
  | succ m ih =>
    intro k c hk h1 h
    rw [rkD] at h
    by_cases hd : n % k = 0
    · have hq := rk_div h1 hd
      by_cases hp : n ≤ k * k
      · rw [if_pos ⟨hd, hp⟩] at h
        have hq2 := hq.mpr hp
        refine r_il4 zi_271_34 rfl ?_
        refine r_il1 zi_271_36 rfl ?_
        refine r_ic4 zi_271_37 rfl (fun c => absurd c (nI_nlt (by omega) (by omega))) (fun _ => ?_)
        refine r_il1 zi_271_40 rfl ?_
        refine r_il4 zi_271_41 rfl ?_
        refine r_rem zi_271_43 rfl (nI_ne0 (by omega) (by omega)) ?_
        rw [show (nI n % nI k : Int32) = nI (n % k) from zI_rem (by omega) (by omega) (by omega)]
        refine r_if0 zi_271_44 rfl (fun _ => ?_) (fun c => absurd (by rw [hd]; rfl) c)
        refine r_il3 zi_271_50 rfl ?_
        refine r_push zi_271_51 rfl ?_
        refine r_b0 zi_271_52 rfl ?_
        rw [show (nI c + 1 : Int32) = nI (c + 1) from nI_add _ _]
        refine r_is3 zi_271_53 rfl ?_
        refine r_il2 zi_271_54 rfl ?_
        refine r_push zi_271_55 rfl ?_
        refine r_ic1 zi_271_56 rfl (fun c => absurd (by decide) c) (fun _ => ?_)
        refine r_il4 zi_271_59 rfl ?_
        refine r_il1 zi_271_61 rfl ?_
        refine r_il4 zi_271_62 rfl ?_
        refine r_div zi_271_64 rfl (nI_ne0 (by omega) (by omega)) ?_
        rw [show (nI n / nI k : Int32) = nI (n / k) from pk_div (by omega) (by omega) (by omega)]
        refine r_ic2 zi_271_65 rfl (fun c => absurd c (nI_nlt hq2 (by omega))) (fun _ => ?_)
        refine r_il4 zi_271_68 rfl ?_
        refine r_retI zi_271_70 rfl ?_
        exact ⟨_, rfl, h⟩
      · rw [if_neg (fun z => hp z.2)] at h
        have hq2 : k < n / k := by
          rcases Nat.lt_or_ge k (n / k) with z | z
          · exact z
          · exact absurd (hq.mp z) hp
        have hq3 : n / k ≤ n := Nat.div_le_self n k
        refine r_il4 zi_271_34 rfl ?_
        refine r_il1 zi_271_36 rfl ?_
        refine r_ic4 zi_271_37 rfl (fun c => absurd c (nI_nlt (by omega) (by omega))) (fun _ => ?_)
        refine r_il1 zi_271_40 rfl ?_
        refine r_il4 zi_271_41 rfl ?_
        refine r_rem zi_271_43 rfl (nI_ne0 (by omega) (by omega)) ?_
        rw [show (nI n % nI k : Int32) = nI (n % k) from zI_rem (by omega) (by omega) (by omega)]
        refine r_if0 zi_271_44 rfl (fun _ => ?_) (fun c => absurd (by rw [hd]; rfl) c)
        refine r_il3 zi_271_50 rfl ?_
        refine r_push zi_271_51 rfl ?_
        refine r_b0 zi_271_52 rfl ?_
        rw [show (nI c + 1 : Int32) = nI (c + 1) from nI_add _ _]
        refine r_is3 zi_271_53 rfl ?_
        refine r_il2 zi_271_54 rfl ?_
        refine r_push zi_271_55 rfl ?_
        refine r_ic1 zi_271_56 rfl (fun c => absurd (by decide) c) (fun _ => ?_)
        refine r_il4 zi_271_59 rfl ?_
        refine r_il1 zi_271_61 rfl ?_
        refine r_il4 zi_271_62 rfl ?_
        refine r_div zi_271_64 rfl (nI_ne0 (by omega) (by omega)) ?_
        rw [show (nI n / nI k : Int32) = nI (n / k) from pk_div (by omega) (by omega) (by omega)]
        refine r_ic2 zi_271_65 rfl (fun _ => ?_) (fun c => absurd (nI_lt hq2 (by omega)) c)
        refine r_in4 zi_271_71 rfl ?_
        rw [show (nI k + 1 : Int32) = nI (k + 1) from nI_add _ _]
        refine r_goto zi_271_74 rfl ?_
        exact ih (k + 1) (c + 1) (by omega) (by omega) h
    · rw [if_neg (fun z => hd z.1)] at h
      have hd2 : n % k < k := Nat.mod_lt _ (by omega)
      refine r_il4 zi_271_34 rfl ?_
      refine r_il1 zi_271_36 rfl ?_
      refine r_ic4 zi_271_37 rfl (fun c => absurd c (nI_nlt (by omega) (by omega))) (fun _ => ?_)
      refine r_il1 zi_271_40 rfl ?_
      refine r_il4 zi_271_41 rfl ?_
      refine r_rem zi_271_43 rfl (nI_ne0 (by omega) (by omega)) ?_
      rw [show (nI n % nI k : Int32) = nI (n % k) from zI_rem (by omega) (by omega) (by omega)]
      refine r_if0 zi_271_44 rfl (fun c => absurd c (nI_ne0 (by omega) (by omega))) (fun _ => ?_)
      refine r_goto zi_271_47 rfl ?_
      refine r_in4 zi_271_71 rfl ?_
      rw [show (nI k + 1 : Int32) = nI (k + 1) from nI_add _ _]
      refine r_goto zi_271_74 rfl ?_
      exact ih (k + 1) c (by omega) (by omega) h
theorem s_mranks {d : Nat} {σ : zS} {Q : Int32 → zS → Prop} {v w : Int32} (h1 : ∀ n, 1 ≤ n → n ≤ 999 → v = nI n → 0 ≤ w → w ≤ 1 → Q (ra n w) (up σ 195 0 0)) (h0 : ¬ (1 ≤ v ∧ v ≤ 999 ∧ 0 ≤ w ∧ w ≤ 1) → Q (-1) (up σ 195 0 0)) : zI1 (d + 1) 271 [.ref 195, .int v, .int w] σ Q := by
  show zk _ _ 0 [.ref 195, .int v, .int w, zun, zun] [] _ _
  have key : ∀ u3 u4 : Value, 1 ≤ v → v ≤ 999 → 0 ≤ w → w ≤ 1 → zk (d + 1) 271 29 [.ref 195, .int v, .int w, u3, u4] [] (up σ 195 0 0) (fun r t => ∃ v, r = some v ∧ Q v t) := by
    intro u3 u4 hv1 hv2 hw1 hw2
    obtain ⟨n, hn, rfl⟩ := zI_ofle (v := v) (n := 999) (by grind) hv2 (by omega)
    have hn1 : 1 ≤ n := by
      rcases Nat.eq_zero_or_pos n with rfl | hp
      · exact absurd hv1 (by decide)
      · exact hp
    have h := h1 n hn1 hn rfl hw1 hw2
    unfold ra at h
    by_cases hw : w = 1
    · subst hw
      rw [if_pos rfl, show rkD n n 1 = rkD n (n - 1 + 1) 1 by rw [Nat.sub_add_cancel hn1]] at h
      refine r_push zi_271_29 rfl ?_
      refine r_is3 zi_271_30 rfl ?_
      refine r_push zi_271_31 rfl ?_
      refine r_is4 zi_271_32 rfl ?_
      exact l_mr1 hn (n - 1) 1 0 (by omega) (by omega) h
    · rw [if_neg hw, ← Nat.zero_add (rkC n n 1)] at h
      refine r_push zi_271_29 rfl ?_
      refine r_is3 zi_271_30 rfl ?_
      refine r_push zi_271_31 rfl ?_
      refine r_is4 zi_271_32 rfl ?_
      exact l_mr0 hw hn n 1 0 (by omega) (by omega) h
  refine r_al0 zi_271_0 rfl ?_
  refine r_push zi_271_1 rfl ?_
  refine q_put zi_271_2 rfl cf_195_0 rfl ?_
  refine r_al0 zi_271_5 rfl ?_
  refine r_il1 zi_271_6 rfl ?_
  refine r_push zi_271_7 rfl ?_
  refine r_push zi_271_8 rfl ?_
  refine q_cIV zi_271_11 rfl rfl rfl rfl rfl rfl rfl cf_195_0.ob (s_isIn (fun i1 a1 => ?_) (fun i1 => ?_))
  · show zk _ _ 14 _ _ _ _
    refine r_if0 zi_271_14 rfl (fun c => absurd c (by decide)) (fun _ => ?_)
    refine r_al0 zi_271_17 rfl ?_
    refine r_il2 zi_271_18 rfl ?_
    refine r_push zi_271_19 rfl ?_
    refine r_push zi_271_20 rfl ?_
    refine q_cIV zi_271_21 rfl rfl rfl rfl rfl rfl rfl cf_195_0.ob (s_isIn (fun i2 a2 => ?_) (fun i2 => ?_))
    · show zk _ _ 24 _ _ _ _
      refine r_if1 zi_271_24 rfl (fun _ => ?_) (fun c => absurd c (by decide))
      first | (exact key _ _ (by assumption) (by assumption) (by assumption) (by assumption))
    · show zk _ _ 24 _ _ _ _
      refine r_if1 zi_271_24 rfl (fun c => absurd (by decide) c) (fun _ => ?_)
      refine r_push zi_271_27 rfl ?_
      refine r_retI zi_271_28 rfl ?_
      exact ⟨_, rfl, h0 (by grind)⟩
  · show zk _ _ 14 _ _ _ _
    refine r_if0 zi_271_14 rfl (fun _ => ?_) (fun c => absurd (by decide) c)
    refine r_push zi_271_27 rfl ?_
    refine r_retI zi_271_28 rfl ?_
    exact ⟨_, rfl, h0 (by grind)⟩

