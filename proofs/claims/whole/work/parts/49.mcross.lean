/-! CROSS: the longest chain, model -/
def zcs (r : Nat → Nat) (i j : Nat) (C : Nat → Nat) : Nat → Nat := fun k => if zX r i j ∧ k = j then max (C j) (C i + 1) else C k
def zcj (r : Nat → Nat) (i : Nat) (C : Nat → Nat) : Nat → Nat → Nat
  | 0 => C
  | j + 1 => zcs r i j (zcj r i C j)
def zci (r : Nat → Nat) (c : Nat) (C : Nat → Nat) : Nat → Nat → Nat
  | 0 => C
  | i + 1 => zcj r i (zci r c C i) c
def zct (r : Nat → Nat) (c : Nat) : Nat → Nat → Nat
  | 0 => fun _ => 1
  | t + 1 => zci r c (zct r c t) c
theorem zcs_le {r : Nat → Nat} {i j B : Nat} {C : Nat → Nat} (h : ∀ k, C k ≤ B) : ∀ k, zcs r i j C k ≤ B + 1 := by
  intro k
  have h1 := h j
  have h2 := h i
  have h3 := h k
  unfold zcs
  split <;> omega
theorem zcj_le {r : Nat → Nat} {i B : Nat} {C : Nat → Nat} (h : ∀ k, C k ≤ B) : ∀ j k, zcj r i C j k ≤ B + j
  | 0 => h
  | j + 1 => zcs_le (zcj_le h j)
theorem zci_le {r : Nat → Nat} {c B : Nat} {C : Nat → Nat} (h : ∀ k, C k ≤ B) : ∀ i k, zci r c C i k ≤ B + c * i
  | 0 => h
  | i + 1 => fun k => by have := zcj_le (r := r) (i := i) (zci_le (r := r) (c := c) h i) c k; simp only [zci]; rw [Nat.mul_succ]; omega
theorem zct_le {r : Nat → Nat} {c : Nat} : ∀ t k, zct r c t k ≤ 1 + c * c * t
  | 0 => fun _ => Nat.le_refl 1
  | t + 1 => fun k => by have := zci_le (r := r) (c := c) (zct_le (r := r) (c := c) t) c k; simp only [zct]; rw [Nat.mul_succ]; omega
theorem zmaxI {a b : Nat} (ha : a < 2 ^ 31) (hb : b < 2 ^ 31) : (if nI b < nI a then nI a else nI b) = nI (max a b) := by
  by_cases h : b < a
  · rw [if_pos (nI_lt h ha), Nat.max_eq_left (by omega)]
  · rw [if_neg (nI_nlt (by omega) hb), Nat.max_eq_right (by omega)]
theorem l_mx1 {d c i t B : Nat} {σ : zS} {R : Option Int32 → zS → Prop} {r C : Nat → Nat} {w n most : Int32} (hc : σ 195 61 = nI c) (hcN : c ≤ 10) (hr : ∀ k, k < 10 → r k < 10000) (hs : ∀ k, k < c → σ 233 k = nI (r k / 100)) (ht : ∀ k, k < c → σ 234 k = nI (r k % 100)) (hi : i < c) (hC : ∀ k, C k ≤ B) (hB : B ≤ 100000)
    (h : ∀ τ, Fr [235] σ τ → (∀ k, k < c → τ 235 k = nI (zcj r i C c k)) → zk (d + 1) 277 127 [.ref 195, .int w, .int n, .int most, .int (nI t), .int (nI i), .int (nI c)] [] τ R) : ∀ (m j : Nat) (τ : zS), j + m = c → Fr [235] σ τ → (∀ k, k < c → τ 235 k = nI (zcj r i C j k)) → zk (d + 1) 277 74 [.ref 195, .int w, .int n, .int most, .int (nI t), .int (nI i), .int (nI j)] [] τ R := by
  intro m
  induction m with
  | zero =>
    intro j τ hj hf hk
    have e : j = c := by omega
    subst e
    have hc' : τ 195 61 = nI j := (hf 195 (by decide) 61).trans hc
    refine r_il6 zi_277_74 rfl ?_
    refine r_al0 zi_277_76 rfl ?_
    refine q_getI zi_277_77 rfl cf_195_61 ?_
    rw [hc']
    refine r_ic3 zi_277_80 rfl (fun _ => ?_) (fun c => absurd (nI_le (by omega) (by omega)) c)
    exact h _ hf hk
  | succ m ih =>
    intro j τ hj hf hk
    have hc' : τ 195 61 = nI c := (hf 195 (by decide) 61).trans hc
    have hs' : ∀ k, k = i ∨ k = j → τ 233 k = nI (r k / 100) := fun k z => (hf 233 (by decide) k).trans (hs k (by omega))
    have ht' : ∀ k, k = i ∨ k = j → τ 234 k = nI (r k % 100) := fun k z => (hf 234 (by decide) k).trans (ht k (by omega))
    by_cases hx : zX r i j
    · have ei := hk i hi
      have ej := hk j (by omega)
      have bi := zcj_le (r := r) (i := i) hC j i
      have bj := zcj_le (r := r) (i := i) hC j j
      generalize hci : zcj r i C j i = ci at *
      generalize hcj : zcj r i C j j = cj at *
      refine r_il6 zi_277_74 rfl ?_
      refine r_al0 zi_277_76 rfl ?_
      refine q_getI zi_277_77 rfl cf_195_61 ?_
      rw [hc']
      refine r_ic3 zi_277_80 rfl (fun c => absurd c (nI_ge (by omega) (by omega))) (fun _ => ?_)
      refine r_al0 zi_277_83 rfl ?_
      refine r_il5 zi_277_84 rfl ?_
      refine r_il6 zi_277_86 rfl ?_
      refine q_cIV zi_277_88 rfl rfl rfl rfl rfl rfl rfl cf_195_0.ob (s_over (by omega) (by omega) hr hs' ht' (fun _ => ?_) (fun z => absurd hx z))
      show zk _ _ 91 _ _ _ _
      refine r_if0 zi_277_91 rfl (fun c => absurd c (by decide)) (fun _ => ?_)
      refine r_al0 zi_277_94 rfl ?_
      refine q_getR zi_277_95 rfl cf_195_64 ?_
      refine r_il6 zi_277_98 rfl ?_
      refine r_al0 zi_277_100 rfl ?_
      refine r_al0 zi_277_101 rfl ?_
      refine q_getR zi_277_102 rfl cf_195_64 ?_
      refine r_il6 zi_277_105 rfl ?_
      refine r_ald zi_277_107 rfl j ca_235 (by first | rfl | (simp only [zI_add, zI_mul] <;> rfl)) (by first | omega | decide) ?_
      rw [ej]
      refine r_al0 zi_277_108 rfl ?_
      refine q_getR zi_277_109 rfl cf_195_64 ?_
      refine r_il5 zi_277_112 rfl ?_
      refine r_ald zi_277_114 rfl i ca_235 (by first | rfl | (simp only [zI_add, zI_mul] <;> rfl)) (by first | omega | decide) ?_
      rw [ei]
      refine r_push zi_277_115 rfl ?_
      refine r_b0 zi_277_116 rfl ?_
      rw [show (nI ci + 1 : Int32) = nI (ci + 1) from nI_add _ _]
      refine q_cIV zi_277_117 rfl rfl rfl rfl rfl rfl rfl cf_195_0.ob (s_greater ?_)
      show zk _ _ 120 _ _ _ _
      refine r_ast zi_277_120 rfl j ca_235 (by first | rfl | (simp only [zI_add, zI_mul] <;> rfl)) (by first | omega | decide) ?_
      refine r_in6 zi_277_121 rfl ?_
      rw [show (nI j + 1 : Int32) = nI (j + 1) from nI_add _ _]
      refine r_goto zi_277_124 rfl ?_
      refine ih (j + 1) _ (by omega) (hf.put (by decide)) (fun k hkc => ?_)
      rw [zmaxI (by omega) (by omega)]
      simp only [zcj, zcs, hcj, hci]
      by_cases hkj : k = j
      · rw [if_pos ⟨hx, hkj⟩, hkj, zup_eq]
      · rw [if_neg (fun z => hkj z.2), zup_nj hkj]; exact hk k hkc
    · refine r_il6 zi_277_74 rfl ?_
      refine r_al0 zi_277_76 rfl ?_
      refine q_getI zi_277_77 rfl cf_195_61 ?_
      rw [hc']
      refine r_ic3 zi_277_80 rfl (fun c => absurd c (nI_ge (by omega) (by omega))) (fun _ => ?_)
      refine r_al0 zi_277_83 rfl ?_
      refine r_il5 zi_277_84 rfl ?_
      refine r_il6 zi_277_86 rfl ?_
      refine q_cIV zi_277_88 rfl rfl rfl rfl rfl rfl rfl cf_195_0.ob (s_over (by omega) (by omega) hr hs' ht' (fun z => absurd z hx) (fun _ => ?_))
      show zk _ _ 91 _ _ _ _
      refine r_if0 zi_277_91 rfl (fun _ => ?_) (fun c => absurd (by decide) c)
      refine r_in6 zi_277_121 rfl ?_
      rw [show (nI j + 1 : Int32) = nI (j + 1) from nI_add _ _]
      refine r_goto zi_277_124 rfl ?_
      refine ih (j + 1) _ (by omega) hf (fun k hkc => ?_)
      simp only [zcj, zcs]
      rw [if_neg (fun z => hx z.1)]; exact hk k hkc
theorem l_mx2 {d c t B : Nat} {σ : zS} {R : Option Int32 → zS → Prop} {r C : Nat → Nat} {w n most : Int32} (hc : σ 195 61 = nI c) (hcN : c ≤ 10) (hr : ∀ k, k < 10 → r k < 10000) (hs : ∀ k, k < c → σ 233 k = nI (r k / 100)) (ht : ∀ k, k < c → σ 234 k = nI (r k % 100)) (hC : ∀ k, C k ≤ B) (hB : B ≤ 90000)
    (h : ∀ τ u6, Fr [235] σ τ → (∀ k, k < c → τ 235 k = nI (zci r c C c k)) → zk (d + 1) 277 133 [.ref 195, .int w, .int n, .int most, .int (nI t), .int (nI c), u6] [] τ R) : ∀ (m i : Nat) (τ : zS) (u6 : Value), i + m = c → Fr [235] σ τ → (∀ k, k < c → τ 235 k = nI (zci r c C i k)) → zk (d + 1) 277 62 [.ref 195, .int w, .int n, .int most, .int (nI t), .int (nI i), u6] [] τ R := by
  intro m
  induction m with
  | zero =>
    intro i τ u6 hi hf hk
    have e : i = c := by omega
    subst e
    have hc' : τ 195 61 = nI i := (hf 195 (by decide) 61).trans hc
    refine r_il5 zi_277_62 rfl ?_
    refine r_al0 zi_277_64 rfl ?_
    refine q_getI zi_277_65 rfl cf_195_61 ?_
    rw [hc']
    refine r_ic3 zi_277_68 rfl (fun _ => ?_) (fun c => absurd (nI_le (by omega) (by omega)) c)
    exact h _ _ hf hk
  | succ m ih =>
    intro i τ u6 hi hf hk
    have hc' : τ 195 61 = nI c := (hf 195 (by decide) 61).trans hc
    have hs' : ∀ k, k < c → τ 233 k = nI (r k / 100) := fun k z => (hf 233 (by decide) k).trans (hs k z)
    have ht' : ∀ k, k < c → τ 234 k = nI (r k % 100) := fun k z => (hf 234 (by decide) k).trans (ht k z)
    have hci : c * i ≤ 10 * 10 := Nat.mul_le_mul hcN (by omega)
    refine r_il5 zi_277_62 rfl ?_
    refine r_al0 zi_277_64 rfl ?_
    refine q_getI zi_277_65 rfl cf_195_61 ?_
    rw [hc']
    refine r_ic3 zi_277_68 rfl (fun c => absurd c (nI_ge (by omega) (by omega))) (fun _ => ?_)
    refine r_push zi_277_71 rfl ?_
    refine r_is6 zi_277_72 rfl ?_
    refine l_mx1 hc' hcN hr hs' ht' (by omega) (zci_le hC i) (by omega) (fun τ2 hf2 hk2 => ?_) c 0 _ (by omega) Fr.rf hk
    show zk _ _ 127 _ _ _ _
    refine r_in5 zi_277_127 rfl ?_
    rw [show (nI i + 1 : Int32) = nI (i + 1) from nI_add _ _]
    refine r_goto zi_277_130 rfl ?_
    exact ih (i + 1) _ _ (by omega) (hf.tr hf2) hk2
theorem l_mx3 {d c : Nat} {σ : zS} {R : Option Int32 → zS → Prop} {r : Nat → Nat} {w n most : Int32} (hc : σ 195 61 = nI c) (hcN : c ≤ 10) (hr : ∀ k, k < 10 → r k < 10000) (hs : ∀ k, k < c → σ 233 k = nI (r k / 100)) (ht : ∀ k, k < c → σ 234 k = nI (r k % 100))
    (h : ∀ τ u4 u5 u6, Fr [235] σ τ → (∀ k, k < c → τ 235 k = nI (zct r c c k)) → zk (d + 1) 277 139 [.ref 195, .int w, .int n, .int most, u4, u5, u6] [] τ R) : ∀ (m t : Nat) (τ : zS) (u5 u6 : Value), t + m = c → Fr [235] σ τ → (∀ k, k < c → τ 235 k = nI (zct r c t k)) → zk (d + 1) 277 50 [.ref 195, .int w, .int n, .int most, .int (nI t), u5, u6] [] τ R := by
  intro m
  induction m with
  | zero =>
    intro t τ u5 u6 hi hf hk
    have e : t = c := by omega
    subst e
    have hc' : τ 195 61 = nI t := (hf 195 (by decide) 61).trans hc
    refine r_il4 zi_277_50 rfl ?_
    refine r_al0 zi_277_52 rfl ?_
    refine q_getI zi_277_53 rfl cf_195_61 ?_
    rw [hc']
    refine r_ic3 zi_277_56 rfl (fun _ => ?_) (fun c => absurd (nI_le (by omega) (by omega)) c)
    exact h _ _ _ _ hf hk
  | succ m ih =>
    intro t τ u5 u6 hi hf hk
    have hc' : τ 195 61 = nI c := (hf 195 (by decide) 61).trans hc
    have hs' : ∀ k, k < c → τ 233 k = nI (r k / 100) := fun k z => (hf 233 (by decide) k).trans (hs k z)
    have ht' : ∀ k, k < c → τ 234 k = nI (r k % 100) := fun k z => (hf 234 (by decide) k).trans (ht k z)
    have hct : c * c * t ≤ 10 * 10 * 10 := Nat.mul_le_mul (Nat.mul_le_mul hcN hcN) (by omega)
    refine r_il4 zi_277_50 rfl ?_
    refine r_al0 zi_277_52 rfl ?_
    refine q_getI zi_277_53 rfl cf_195_61 ?_
    rw [hc']
    refine r_ic3 zi_277_56 rfl (fun c => absurd c (nI_ge (by omega) (by omega))) (fun _ => ?_)
    refine r_push zi_277_59 rfl ?_
    refine r_is5 zi_277_60 rfl ?_
    refine l_mx2 hc' hcN hr hs' ht' (zct_le t) (by omega) (fun τ2 u62 hf2 hk2 => ?_) c 0 _ _ (by omega) Fr.rf hk
    show zk _ _ 133 _ _ _ _
    refine r_in4 zi_277_133 rfl ?_
    rw [show (nI t + 1 : Int32) = nI (t + 1) from nI_add _ _]
    refine r_goto zi_277_136 rfl ?_
    exact ih (t + 1) _ _ _ (by omega) (hf.tr hf2) hk2

