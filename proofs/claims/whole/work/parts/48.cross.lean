/-! LETTERS THAT CROSS -/
abbrev zX (r : Nat → Nat) (i j : Nat) : Prop := r i / 100 < r j / 100 ∧ r j % 100 < r i % 100
theorem s_crosses {d a b : Nat} {σ : zS} {Q : Int32 → zS → Prop} (ha : a < 10000) (hb : b < 10000) (h1 : a / 100 < b / 100 ∧ b % 100 < a % 100 → Q 1 σ) (h0 : ¬ (a / 100 < b / 100 ∧ b % 100 < a % 100) → Q 0 σ) : zI1 d 84 [.int (nI a), .int (nI b)] σ Q := by
  show zk _ _ 0 [.int (nI a), .int (nI b)] [] _ _
  by_cases c1 : a / 100 < b / 100
  · by_cases c2 : b % 100 < a % 100
    · refine r_il0 zi_84_0 rfl ?_
      refine r_push zi_84_1 rfl ?_
      refine r_div zi_84_3 rfl (by decide) ?_
      rw [show (nI a / 100 : Int32) = nI (a / 100) from pk_div (d := 100) (by omega) (by omega) (by omega)]
      refine r_il1 zi_84_4 rfl ?_
      refine r_push zi_84_5 rfl ?_
      refine r_div zi_84_7 rfl (by decide) ?_
      rw [show (nI b / 100 : Int32) = nI (b / 100) from pk_div (d := 100) (by omega) (by omega) (by omega)]
      refine r_ic3 zi_84_8 rfl (fun c => absurd c (nI_ge (by omega) (by omega))) (fun _ => ?_)
      refine r_il0 zi_84_11 rfl ?_
      refine r_push zi_84_12 rfl ?_
      refine r_rem zi_84_14 rfl (by decide) ?_
      rw [show (nI a % 100 : Int32) = nI (a % 100) from zI_rem (d := 100) (by omega) (by omega) (by omega)]
      refine r_il1 zi_84_15 rfl ?_
      refine r_push zi_84_16 rfl ?_
      refine r_rem zi_84_18 rfl (by decide) ?_
      rw [show (nI b % 100 : Int32) = nI (b % 100) from zI_rem (d := 100) (by omega) (by omega) (by omega)]
      refine r_ic5 zi_84_19 rfl (fun c => absurd c (nI_ge (by omega) (by omega))) (fun _ => ?_)
      refine r_push zi_84_22 rfl ?_
      refine r_goto zi_84_23 rfl ?_
      refine r_retZ zi_84_27 rfl (by decide) ?_
      exact ⟨_, rfl, h1 ⟨c1, c2⟩⟩
    · refine r_il0 zi_84_0 rfl ?_
      refine r_push zi_84_1 rfl ?_
      refine r_div zi_84_3 rfl (by decide) ?_
      rw [show (nI a / 100 : Int32) = nI (a / 100) from pk_div (d := 100) (by omega) (by omega) (by omega)]
      refine r_il1 zi_84_4 rfl ?_
      refine r_push zi_84_5 rfl ?_
      refine r_div zi_84_7 rfl (by decide) ?_
      rw [show (nI b / 100 : Int32) = nI (b / 100) from pk_div (d := 100) (by omega) (by omega) (by omega)]
      refine r_ic3 zi_84_8 rfl (fun c => absurd c (nI_ge (by omega) (by omega))) (fun _ => ?_)
      refine r_il0 zi_84_11 rfl ?_
      refine r_push zi_84_12 rfl ?_
      refine r_rem zi_84_14 rfl (by decide) ?_
      rw [show (nI a % 100 : Int32) = nI (a % 100) from zI_rem (d := 100) (by omega) (by omega) (by omega)]
      refine r_il1 zi_84_15 rfl ?_
      refine r_push zi_84_16 rfl ?_
      refine r_rem zi_84_18 rfl (by decide) ?_
      rw [show (nI b % 100 : Int32) = nI (b % 100) from zI_rem (d := 100) (by omega) (by omega) (by omega)]
      refine r_ic5 zi_84_19 rfl (fun _ => ?_) (fun c => absurd (nI_le (by omega) (by omega)) c)
      refine r_push zi_84_26 rfl ?_
      refine r_retZ zi_84_27 rfl (by decide) ?_
      exact ⟨_, rfl, h0 (fun z => c2 z.2)⟩
  · refine r_il0 zi_84_0 rfl ?_
    refine r_push zi_84_1 rfl ?_
    refine r_div zi_84_3 rfl (by decide) ?_
    rw [show (nI a / 100 : Int32) = nI (a / 100) from pk_div (d := 100) (by omega) (by omega) (by omega)]
    refine r_il1 zi_84_4 rfl ?_
    refine r_push zi_84_5 rfl ?_
    refine r_div zi_84_7 rfl (by decide) ?_
    rw [show (nI b / 100 : Int32) = nI (b / 100) from pk_div (d := 100) (by omega) (by omega) (by omega)]
    refine r_ic3 zi_84_8 rfl (fun _ => ?_) (fun c => absurd (nI_le (by omega) (by omega)) c)
    refine r_push zi_84_26 rfl ?_
    refine r_retZ zi_84_27 rfl (by decide) ?_
    exact ⟨_, rfl, h0 (fun z => c1 z.1)⟩
theorem s_over {d i j : Nat} {σ : zS} {Q : Int32 → zS → Prop} {r : Nat → Nat} (hi : i < 10) (hj : j < 10) (hr : ∀ k, k < 10 → r k < 10000) (hs : ∀ k, k = i ∨ k = j → σ 233 k = nI (r k / 100)) (ht : ∀ k, k = i ∨ k = j → σ 234 k = nI (r k % 100)) (h1 : zX r i j → Q 1 σ) (h0 : ¬ zX r i j → Q 0 σ) : zI1 d 276 [.ref 195, .int (nI i), .int (nI j)] σ Q := by
  have e1 := hs i (Or.inl rfl)
  have e2 := hs j (Or.inr rfl)
  have e3 := ht i (Or.inl rfl)
  have e4 := ht j (Or.inr rfl)
  have b1 := hr i hi
  have b2 := hr j hj
  show zk _ _ 0 [.ref 195, .int (nI i), .int (nI j)] [] _ _
  by_cases c1 : r i / 100 < r j / 100
  · by_cases c2 : r j % 100 < r i % 100
    · refine r_al0 zi_276_0 rfl ?_
      refine q_getR zi_276_1 rfl cf_195_62 ?_
      refine r_il1 zi_276_4 rfl ?_
      refine r_ald zi_276_5 rfl i ca_233 (by first | rfl | (simp only [zI_add, zI_mul] <;> rfl)) (by first | omega | decide) ?_
      rw [e1]
      refine r_al0 zi_276_6 rfl ?_
      refine q_getR zi_276_7 rfl cf_195_62 ?_
      refine r_il2 zi_276_10 rfl ?_
      refine r_ald zi_276_11 rfl j ca_233 (by first | rfl | (simp only [zI_add, zI_mul] <;> rfl)) (by first | omega | decide) ?_
      rw [e2]
      refine r_ic3 zi_276_12 rfl (fun c => absurd c (nI_ge (by omega) (by omega))) (fun _ => ?_)
      refine r_al0 zi_276_15 rfl ?_
      refine q_getR zi_276_16 rfl cf_195_63 ?_
      refine r_il2 zi_276_19 rfl ?_
      refine r_ald zi_276_20 rfl j ca_234 (by first | rfl | (simp only [zI_add, zI_mul] <;> rfl)) (by first | omega | decide) ?_
      rw [e4]
      refine r_al0 zi_276_21 rfl ?_
      refine q_getR zi_276_22 rfl cf_195_63 ?_
      refine r_il1 zi_276_25 rfl ?_
      refine r_ald zi_276_26 rfl i ca_234 (by first | rfl | (simp only [zI_add, zI_mul] <;> rfl)) (by first | omega | decide) ?_
      rw [e3]
      refine r_ic3 zi_276_27 rfl (fun c => absurd c (nI_ge (by omega) (by omega))) (fun _ => ?_)
      refine r_push zi_276_30 rfl ?_
      refine r_goto zi_276_31 rfl ?_
      refine r_retZ zi_276_35 rfl (by decide) ?_
      exact ⟨_, rfl, h1 ⟨c1, c2⟩⟩
    · refine r_al0 zi_276_0 rfl ?_
      refine q_getR zi_276_1 rfl cf_195_62 ?_
      refine r_il1 zi_276_4 rfl ?_
      refine r_ald zi_276_5 rfl i ca_233 (by first | rfl | (simp only [zI_add, zI_mul] <;> rfl)) (by first | omega | decide) ?_
      rw [e1]
      refine r_al0 zi_276_6 rfl ?_
      refine q_getR zi_276_7 rfl cf_195_62 ?_
      refine r_il2 zi_276_10 rfl ?_
      refine r_ald zi_276_11 rfl j ca_233 (by first | rfl | (simp only [zI_add, zI_mul] <;> rfl)) (by first | omega | decide) ?_
      rw [e2]
      refine r_ic3 zi_276_12 rfl (fun c => absurd c (nI_ge (by omega) (by omega))) (fun _ => ?_)
      refine r_al0 zi_276_15 rfl ?_
      refine q_getR zi_276_16 rfl cf_195_63 ?_
      refine r_il2 zi_276_19 rfl ?_
      refine r_ald zi_276_20 rfl j ca_234 (by first | rfl | (simp only [zI_add, zI_mul] <;> rfl)) (by first | omega | decide) ?_
      rw [e4]
      refine r_al0 zi_276_21 rfl ?_
      refine q_getR zi_276_22 rfl cf_195_63 ?_
      refine r_il1 zi_276_25 rfl ?_
      refine r_ald zi_276_26 rfl i ca_234 (by first | rfl | (simp only [zI_add, zI_mul] <;> rfl)) (by first | omega | decide) ?_
      rw [e3]
      refine r_ic3 zi_276_27 rfl (fun _ => ?_) (fun c => absurd (nI_le (by omega) (by omega)) c)
      refine r_push zi_276_34 rfl ?_
      refine r_retZ zi_276_35 rfl (by decide) ?_
      exact ⟨_, rfl, h0 (fun z => c2 z.2)⟩
  · refine r_al0 zi_276_0 rfl ?_
    refine q_getR zi_276_1 rfl cf_195_62 ?_
    refine r_il1 zi_276_4 rfl ?_
    refine r_ald zi_276_5 rfl i ca_233 (by first | rfl | (simp only [zI_add, zI_mul] <;> rfl)) (by first | omega | decide) ?_
    rw [e1]
    refine r_al0 zi_276_6 rfl ?_
    refine q_getR zi_276_7 rfl cf_195_62 ?_
    refine r_il2 zi_276_10 rfl ?_
    refine r_ald zi_276_11 rfl j ca_233 (by first | rfl | (simp only [zI_add, zI_mul] <;> rfl)) (by first | omega | decide) ?_
    rw [e2]
    refine r_ic3 zi_276_12 rfl (fun _ => ?_) (fun c => absurd (nI_le (by omega) (by omega)) c)
    refine r_push zi_276_34 rfl ?_
    refine r_retZ zi_276_35 rfl (by decide) ?_
    exact ⟨_, rfl, h0 (fun z => c1 z.1)⟩
/-- how many a letter i is crossed by, and how many in all -/
def zxn (r : Nat → Nat) (i : Nat) : Nat → Nat
  | 0 => 0
  | j + 1 => zxn r i j + if zX r i j then 1 else 0
def zxt (r : Nat → Nat) (c : Nat) : Nat → Nat
  | 0 => 0
  | i + 1 => zxt r c i + zxn r i c
theorem zxn_le (r : Nat → Nat) (i : Nat) : ∀ n, zxn r i n ≤ n
  | 0 => Nat.le_refl 0
  | n + 1 => by have := zxn_le r i n; simp only [zxn]; split <;> omega
theorem l_coup1 {d c i n0 : Nat} {σ : zS} {R : Option Int32 → zS → Prop} {r : Nat → Nat} (hc : σ 36 1 = nI c) (hcN : c ≤ 10) (hr : ∀ k, k < c → r k < 10000 ∧ σ 37 k = nI (r k)) (hi : i < c) (h : zk (d + 1) 85 52 [.ref 36, .int (nI (n0 + zxn r i c)), .int (nI i), .int (nI c)] [] σ R) : ∀ (m j n : Nat), j + m = c → n = n0 + zxn r i j → zk (d + 1) 85 14 [.ref 36, .int (nI n), .int (nI i), .int (nI j)] [] σ R := by
  intro m
  induction m with
  | zero =>
    intro j n hj hn
    have e : j = c := by omega
    subst e
    refine r_il3 zi_85_14 rfl ?_
    refine r_al0 zi_85_15 rfl ?_
    refine q_getI zi_85_16 rfl cf_36_1 ?_
    rw [hc]
    refine r_ic3 zi_85_19 rfl (fun _ => ?_) (fun c => absurd (nI_le (by omega) (by omega)) c)
    rw [hn]; exact h
  | succ m ih =>
    intro j n hj hn
    have b1 := (hr i hi).1
    have b2 := (hr j (by omega)).1
    have e1 : σ (36 + 1) i = nI (r i) := (hr i hi).2
    have e2 : σ (36 + 1) j = nI (r j) := (hr j (by omega)).2
    by_cases hx : zX r i j
    · refine r_il3 zi_85_14 rfl ?_
      refine r_al0 zi_85_15 rfl ?_
      refine q_getI zi_85_16 rfl cf_36_1 ?_
      rw [hc]
      refine r_ic3 zi_85_19 rfl (fun c => absurd c (nI_ge (by omega) (by omega))) (fun _ => ?_)
      refine r_il1 zi_85_22 rfl ?_
      refine r_al0 zi_85_23 rfl ?_
      refine r_il2 zi_85_24 rfl ?_
      refine q_cIV zi_85_25 rfl rfl rfl rfl rfl rfl rfl cf_36_0.ob (s_trow zTo36 (by omega) hc hcN (i := i) (by omega) ?_)
      show zk _ _ 28 _ _ _ _
      rw [e1]
      refine r_al0 zi_85_28 rfl ?_
      refine r_il3 zi_85_29 rfl ?_
      refine q_cIV zi_85_30 rfl rfl rfl rfl rfl rfl rfl cf_36_0.ob (s_trow zTo36 (by omega) hc hcN (i := j) (by omega) ?_)
      show zk _ _ 33 _ _ _ _
      rw [e2]
      refine r_cIS zi_85_33 rfl rfl rfl rfl rfl rfl (s_crosses b1 b2 (fun _ => ?_) (fun z => absurd hx z))
      show zk _ _ 36 _ _ _ _
      refine r_if0 zi_85_36 rfl (fun c => absurd c (by decide)) (fun _ => ?_)
      refine r_push zi_85_39 rfl ?_
      refine r_goto zi_85_40 rfl ?_
      refine r_b0 zi_85_44 rfl ?_
      rw [show (nI n + 1 : Int32) = nI (n + 1) from nI_add _ _]
      refine r_is1 zi_85_45 rfl ?_
      refine r_in3 zi_85_46 rfl ?_
      rw [show (nI j + 1 : Int32) = nI (j + 1) from nI_add _ _]
      refine r_goto zi_85_49 rfl ?_
      exact ih (j + 1) _ (by omega) (by simp only [zxn]; rw [if_pos hx]; omega)
    · refine r_il3 zi_85_14 rfl ?_
      refine r_al0 zi_85_15 rfl ?_
      refine q_getI zi_85_16 rfl cf_36_1 ?_
      rw [hc]
      refine r_ic3 zi_85_19 rfl (fun c => absurd c (nI_ge (by omega) (by omega))) (fun _ => ?_)
      refine r_il1 zi_85_22 rfl ?_
      refine r_al0 zi_85_23 rfl ?_
      refine r_il2 zi_85_24 rfl ?_
      refine q_cIV zi_85_25 rfl rfl rfl rfl rfl rfl rfl cf_36_0.ob (s_trow zTo36 (by omega) hc hcN (i := i) (by omega) ?_)
      show zk _ _ 28 _ _ _ _
      rw [e1]
      refine r_al0 zi_85_28 rfl ?_
      refine r_il3 zi_85_29 rfl ?_
      refine q_cIV zi_85_30 rfl rfl rfl rfl rfl rfl rfl cf_36_0.ob (s_trow zTo36 (by omega) hc hcN (i := j) (by omega) ?_)
      show zk _ _ 33 _ _ _ _
      rw [e2]
      refine r_cIS zi_85_33 rfl rfl rfl rfl rfl rfl (s_crosses b1 b2 (fun z => absurd z hx) (fun _ => ?_))
      show zk _ _ 36 _ _ _ _
      refine r_if0 zi_85_36 rfl (fun _ => ?_) (fun c => absurd (by decide) c)
      refine r_push zi_85_43 rfl ?_
      refine r_b0 zi_85_44 rfl ?_
      rw [show (nI n + 0 : Int32) = nI (n + 0) from nI_add _ _]
      refine r_is1 zi_85_45 rfl ?_
      refine r_in3 zi_85_46 rfl ?_
      rw [show (nI j + 1 : Int32) = nI (j + 1) from nI_add _ _]
      refine r_goto zi_85_49 rfl ?_
      exact ih (j + 1) _ (by omega) (by simp only [zxn]; rw [if_neg hx]; omega)
theorem l_coup2 {d c : Nat} {σ : zS} {Q : Int32 → zS → Prop} {r : Nat → Nat} (hc : σ 36 1 = nI c) (hcN : c ≤ 10) (hr : ∀ k, k < c → r k < 10000 ∧ σ 37 k = nI (r k)) (h : Q (nI (zxt r c c)) σ) : ∀ (m i n : Nat) (u3 : Value), i + m = c → n = zxt r c i → zk (d + 1) 85 4 [.ref 36, .int (nI n), .int (nI i), u3] [] σ (fun r t => ∃ v, r = some v ∧ Q v t) := by
  intro m
  induction m with
  | zero =>
    intro i n u3 hi hn
    have e : i = c := by omega
    subst e
    refine r_il2 zi_85_4 rfl ?_
    refine r_al0 zi_85_5 rfl ?_
    refine q_getI zi_85_6 rfl cf_36_1 ?_
    rw [hc]
    refine r_ic3 zi_85_9 rfl (fun _ => ?_) (fun c => absurd (nI_le (by omega) (by omega)) c)
    refine r_il1 zi_85_58 rfl ?_
    refine r_retI zi_85_59 rfl ?_
    exact ⟨_, rfl, by rw [hn]; exact h⟩
  | succ m ih =>
    intro i n u3 hi hn
    refine r_il2 zi_85_4 rfl ?_
    refine r_al0 zi_85_5 rfl ?_
    refine q_getI zi_85_6 rfl cf_36_1 ?_
    rw [hc]
    refine r_ic3 zi_85_9 rfl (fun c => absurd c (nI_ge (by omega) (by omega))) (fun _ => ?_)
    refine r_push zi_85_12 rfl ?_
    refine r_is3 zi_85_13 rfl ?_
    refine l_coup1 (n0 := n) hc hcN hr (by omega) ?_ c 0 n (by omega) rfl
    obtain ⟨n2, hn2⟩ : ∃ n2, n2 = n + zxn r i c := ⟨_, rfl⟩
    rw [← hn2]
    show zk _ _ 52 _ _ _ _
    refine r_in2 zi_85_52 rfl ?_
    rw [show (nI i + 1 : Int32) = nI (i + 1) from nI_add _ _]
    refine r_goto zi_85_55 rfl ?_
    exact ih (i + 1) _ _ (by omega) (by rw [hn2, hn]; rfl)
theorem s_coup {d c : Nat} {σ : zS} {Q : Int32 → zS → Prop} {r : Nat → Nat} (hc : σ 36 1 = nI c) (hcN : c ≤ 10) (hr : ∀ k, k < c → r k < 10000 ∧ σ 37 k = nI (r k)) (h : Q (nI (zxt r c c)) σ) : zI1 (d + 1) 85 [.ref 36] σ Q := by
  show zk _ _ 0 [.ref 36, zun, zun, zun] [] _ _
  refine r_push zi_85_0 rfl ?_
  refine r_is1 zi_85_1 rfl ?_
  refine r_push zi_85_2 rfl ?_
  refine r_is2 zi_85_3 rfl ?_
  exact l_coup2 hc hcN hr h c 0 0 _ (by omega) rfl

