/-! TOGETHER, model: the orders -/
def zAr (τ : zS) (A : List Nat) : Prop := ∀ i, i < A.length → τ 226 i = nI (A.getD i 0)
theorem getD_set_eq {A : List Nat} {i v : Nat} (h : i < A.length) : (A.set i v).getD i 0 = v := by simp [List.getD_eq_getElem?_getD, h]
theorem getD_set_ne {A : List Nat} {i j v : Nat} (h : i ≠ j) : (A.set i v).getD j 0 = A.getD j 0 := by simp [List.getD_eq_getElem?_getD, h]
theorem zAr_set {τ : zS} {A : List Nat} {i v : Nat} (h : zAr τ A) (hi : i < A.length) : zAr (up τ 226 i (nI v)) (A.set i v) := by
  intro j hj
  rw [List.length_set] at hj
  rw [up_rd]
  by_cases e : j = i
  · rw [if_pos ⟨rfl, e⟩, e, getD_set_eq hi]
  · rw [if_neg (fun z => e z.2), getD_set_ne (fun z => e z.symm)]; exact h j hj
def zAv (c : Nat) (A : List Nat) : Prop := A.length = c ∧ ∀ i, i < c → A.getD i 0 < 5
theorem zAv_set {c : Nat} {A : List Nat} (h : zAv c A) {i v : Nat} (hv : v < 5) : zAv c (A.set i v) := by
  refine ⟨by rw [List.length_set]; exact h.1, fun j hj => ?_⟩
  by_cases e : i = j
  · subst e; rw [getD_set_eq (by rw [h.1]; exact hj)]; exact hv
  · rw [getD_set_ne e]; exact h.2 j hj
def zCd (n : Nat) (v : Int32) : Prop := (n = 0 ∧ v < 0) ∨ ∃ q, n = q + 1 ∧ v = nI q
theorem l_mn1 {d c : Nat} {σ : zS} {R : Option Int32 → zS → Prop} {A : List Nat} (hc5 : c ≤ 5) (hA : zAr σ A) (hv : zAv c A) (h0 : zn1 A (c - 1) = none → R (some 0) σ) (h1 : ∀ i, zn1 A (c - 1) = some i → i + 1 < c → ¬ A.getD (i + 1) 0 < A.getD i 0 → zk d 269 41 [.ref 195, .int (nI i), zun, zun, zun, zun] [] σ R) : ∀ (n : Nat) (v : Int32), n ≤ c - 1 → zCd n v → zn1 A (c - 1) = zn1 A n → zk d 269 7 [.ref 195, .int v, zun, zun, zun, zun] [] σ R := by
  intro n
  induction n with
  | zero =>
    intro v hn hv2 hz
    have hv0 : v < 0 := by
      rcases hv2 with h | ⟨q, h, _⟩
      · exact h.2
      · omega
    refine r_il1 zi_269_7 rfl ?_
    refine r_if2 zi_269_8 rfl (fun _ => ?_) (fun c => absurd hv0 c)
    refine r_il1 zi_269_35 rfl ?_
    refine r_if3 zi_269_36 rfl (fun c => absurd c (by grind)) (fun _ => ?_)
    refine r_push zi_269_39 rfl ?_
    refine r_retZ zi_269_40 rfl (by decide) ?_
    exact h0 hz
  | succ n ih =>
    intro v hn hv2 hz
    have e : v = nI n := by
      rcases hv2 with ⟨h, _⟩ | ⟨q, h, h2⟩
      · omega
      · rw [h2, show q = n by omega]
    subst e
    have hnx : zCd n (nI n - 1) := by
      match n with
      | 0 => exact Or.inl ⟨rfl, by decide⟩
      | q + 1 => exact Or.inr ⟨q, rfl, nI_pred q⟩
    have e1 : zn1 A (n + 1) = if A.getD (n + 1) 0 < A.getD n 0 then zn1 A n else some n := rfl
    have a1 := hA n (by rw [hv.1]; omega)
    have a2 := hA (n + 1) (by rw [hv.1]; omega)
    have b1 := hv.2 n (by omega)
    have b2 := hv.2 (n + 1) (by omega)
    have hh := h1 n
    rw [e1] at hz
    by_cases hlt : A.getD (n + 1) 0 < A.getD n 0
    · rw [if_pos hlt] at hz
      have ih := ih (nI n - 1) (by omega) hnx hz
      generalize A.getD n 0 = x at *
      generalize A.getD (n + 1) 0 = y at *
      refine r_il1 zi_269_7 rfl ?_
      refine n_if2 (i := n) zi_269_8 rfl (by omega) (fun c => absurd c (by omega)) (fun _ => ?_)
      refine r_al0 zi_269_11 rfl ?_
      refine q_getR zi_269_12 rfl cf_195_52 ?_
      refine r_il1 zi_269_15 rfl ?_
      refine r_alde zi_269_16 rfl n ca_226 (by first | rfl | (simp only [zI_add, zI_mul] <;> rfl)) (by first | omega | decide) (u := nI x) (by first | exact a1 | ((repeat (first | rw [zup_ne (by first | decide | omega)] | rw [zup_nj (by first | decide | omega)] | rw [fil_ne (by first | decide | omega)])) <;> exact a1) | (simp [up_rd, fil_rd]; exact a1)) ?_
      refine r_al0 zi_269_17 rfl ?_
      refine q_getR zi_269_18 rfl cf_195_52 ?_
      refine r_il1 zi_269_21 rfl ?_
      refine r_push zi_269_22 rfl ?_
      refine r_b0 zi_269_23 rfl ?_
      rw [show (nI n + 1 : Int32) = nI (n + 1) from nI_add _ _]
      refine r_alde zi_269_24 rfl (n + 1) ca_226 (by first | rfl | (simp only [zI_add, zI_mul] <;> rfl)) (by first | omega | decide) (u := nI y) (by first | exact a2 | ((repeat (first | rw [zup_ne (by first | decide | omega)] | rw [zup_nj (by first | decide | omega)] | rw [fil_ne (by first | decide | omega)])) <;> exact a2) | (simp [up_rd, fil_rd]; exact a2)) ?_
      refine n_ic5 (i := x) (j := y) zi_269_25 rfl (by omega) (by omega) (fun c => absurd c (by omega)) (fun _ => ?_)
      refine r_il1 zi_269_28 rfl ?_
      refine r_push zi_269_29 rfl ?_
      refine r_b1 zi_269_30 rfl ?_
      refine r_is1 zi_269_31 rfl ?_
      refine r_goto zi_269_32 rfl ?_
      exact ih
    · rw [if_neg hlt] at hz
      have hh2 := hh hz (by omega) hlt
      clear hh
      generalize A.getD n 0 = x at *
      generalize A.getD (n + 1) 0 = y at *
      refine r_il1 zi_269_7 rfl ?_
      refine n_if2 (i := n) zi_269_8 rfl (by omega) (fun c => absurd c (by omega)) (fun _ => ?_)
      refine r_al0 zi_269_11 rfl ?_
      refine q_getR zi_269_12 rfl cf_195_52 ?_
      refine r_il1 zi_269_15 rfl ?_
      refine r_alde zi_269_16 rfl n ca_226 (by first | rfl | (simp only [zI_add, zI_mul] <;> rfl)) (by first | omega | decide) (u := nI x) (by first | exact a1 | ((repeat (first | rw [zup_ne (by first | decide | omega)] | rw [zup_nj (by first | decide | omega)] | rw [fil_ne (by first | decide | omega)])) <;> exact a1) | (simp [up_rd, fil_rd]; exact a1)) ?_
      refine r_al0 zi_269_17 rfl ?_
      refine q_getR zi_269_18 rfl cf_195_52 ?_
      refine r_il1 zi_269_21 rfl ?_
      refine r_push zi_269_22 rfl ?_
      refine r_b0 zi_269_23 rfl ?_
      rw [show (nI n + 1 : Int32) = nI (n + 1) from nI_add _ _]
      refine r_alde zi_269_24 rfl (n + 1) ca_226 (by first | rfl | (simp only [zI_add, zI_mul] <;> rfl)) (by first | omega | decide) (u := nI y) (by first | exact a2 | ((repeat (first | rw [zup_ne (by first | decide | omega)] | rw [zup_nj (by first | decide | omega)] | rw [fil_ne (by first | decide | omega)])) <;> exact a2) | (simp [up_rd, fil_rd]; exact a2)) ?_
      refine n_ic5 (i := x) (j := y) zi_269_25 rfl (by omega) (by omega) (fun _ => ?_) (fun c => absurd c (by omega))
      refine r_il1 zi_269_35 rfl ?_
      refine n_if3 (i := n) zi_269_36 rfl (by omega) (fun _ => ?_) (fun c => absurd c (by omega))
      exact hh2
theorem l_mn2 {d c i : Nat} {σ : zS} {R : Option Int32 → zS → Prop} {A : List Nat} (hc5 : c ≤ 5) (hA : zAr σ A) (hv : zAv c A) (hi : i + 1 < c) (hge : ¬ A.getD (i + 1) 0 < A.getD i 0) (h : ∀ k, zn2 A (A.getD i 0) (c - 1) = k → i < k → k < c → zk d 269 70 [.ref 195, .int (nI i), .int (nI k), zun, zun, zun] [] σ R) : ∀ (n : Nat), n + 1 ≤ c - 1 → i ≤ n → zn2 A (A.getD i 0) (c - 1) = zn2 A (A.getD i 0) (n + 1) → zk d 269 48 [.ref 195, .int (nI i), .int (nI (n + 1)), zun, zun, zun] [] σ R := by
  intro n
  induction n with
  | zero =>
    intro hn hin hz
    have e0 : i = 0 := by omega
    have e1 : zn2 A (A.getD i 0) (0 + 1) = if A.getD (0 + 1) 0 < A.getD i 0 then zn2 A (A.getD i 0) 0 else 0 + 1 := rfl
    rw [e1, if_neg (by rw [e0] at hge ⊢; exact hge)] at hz
    have a1 := hA i (by rw [hv.1]; omega)
    have a2 := hA (0 + 1) (by rw [hv.1]; omega)
    have b1 := hv.2 i (by omega)
    have b2 := hv.2 (0 + 1) (by omega)
    have hg2 : A.getD i 0 ≤ A.getD (0 + 1) 0 := by rw [e0] at hge ⊢; omega
    have hh := h (0 + 1) hz (by omega) (by omega)
    generalize A.getD i 0 = x at *
    generalize A.getD (0 + 1) 0 = y at *
    refine r_al0 zi_269_48 rfl ?_
    refine q_getR zi_269_49 rfl cf_195_52 ?_
    refine r_il2 zi_269_52 rfl ?_
    refine r_alde zi_269_53 rfl (0+1) ca_226 (by first | rfl | (simp only [zI_add, zI_mul] <;> rfl)) (by first | omega | decide) (u := nI y) (by first | exact a2 | ((repeat (first | rw [zup_ne (by first | decide | omega)] | rw [zup_nj (by first | decide | omega)] | rw [fil_ne (by first | decide | omega)])) <;> exact a2) | (simp [up_rd, fil_rd]; exact a2)) ?_
    refine r_al0 zi_269_54 rfl ?_
    refine q_getR zi_269_55 rfl cf_195_52 ?_
    refine r_il1 zi_269_58 rfl ?_
    refine r_alde zi_269_59 rfl i ca_226 (by first | rfl | (simp only [zI_add, zI_mul] <;> rfl)) (by first | omega | decide) (u := nI x) (by first | exact a1 | ((repeat (first | rw [zup_ne (by first | decide | omega)] | rw [zup_nj (by first | decide | omega)] | rw [fil_ne (by first | decide | omega)])) <;> exact a1) | (simp [up_rd, fil_rd]; exact a1)) ?_
    refine n_ic3 (i := y) (j := x) zi_269_60 rfl (by omega) (by omega) (fun _ => ?_) (fun c => absurd c (by omega))
    exact hh
  | succ n ih =>
    intro hn hin hz
    have e1 : zn2 A (A.getD i 0) (n + 1 + 1) = if A.getD (n + 1 + 1) 0 < A.getD i 0 then zn2 A (A.getD i 0) (n + 1) else n + 1 + 1 := rfl
    rw [e1] at hz
    have a1 := hA i (by rw [hv.1]; omega)
    have a2 := hA (n + 1 + 1) (by rw [hv.1]; omega)
    have b1 := hv.2 i (by omega)
    have b2 := hv.2 (n + 1 + 1) (by omega)
    by_cases hlt : A.getD (n + 1 + 1) 0 < A.getD i 0
    · rw [if_pos hlt] at hz
      have hne : i ≠ n + 1 := fun z => by subst z; exact hge hlt
      have ih2 := ih (by omega) (by omega) hz
      clear ih
      generalize A.getD i 0 = x at *
      generalize A.getD (n + 1 + 1) 0 = y at *
      refine r_al0 zi_269_48 rfl ?_
      refine q_getR zi_269_49 rfl cf_195_52 ?_
      refine r_il2 zi_269_52 rfl ?_
      refine r_alde zi_269_53 rfl (n+1+1) ca_226 (by first | rfl | (simp only [zI_add, zI_mul] <;> rfl)) (by first | omega | decide) (u := nI y) (by first | exact a2 | ((repeat (first | rw [zup_ne (by first | decide | omega)] | rw [zup_nj (by first | decide | omega)] | rw [fil_ne (by first | decide | omega)])) <;> exact a2) | (simp [up_rd, fil_rd]; exact a2)) ?_
      refine r_al0 zi_269_54 rfl ?_
      refine q_getR zi_269_55 rfl cf_195_52 ?_
      refine r_il1 zi_269_58 rfl ?_
      refine r_alde zi_269_59 rfl i ca_226 (by first | rfl | (simp only [zI_add, zI_mul] <;> rfl)) (by first | omega | decide) (u := nI x) (by first | exact a1 | ((repeat (first | rw [zup_ne (by first | decide | omega)] | rw [zup_nj (by first | decide | omega)] | rw [fil_ne (by first | decide | omega)])) <;> exact a1) | (simp [up_rd, fil_rd]; exact a1)) ?_
      refine n_ic3 (i := y) (j := x) zi_269_60 rfl (by omega) (by omega) (fun c => absurd c (by omega)) (fun _ => ?_)
      refine r_il2 zi_269_63 rfl ?_
      refine r_push zi_269_64 rfl ?_
      refine r_b1 zi_269_65 rfl ?_
      rw [show (nI (n+1+1) - 1 : Int32) = nI ((n+1+1) - 1) from pk_sub (a := (n+1+1)) (b := 1) (by omega)]
      refine r_is2 zi_269_66 rfl ?_
      refine r_goto zi_269_67 rfl ?_
      exact ih2
    · rw [if_neg hlt] at hz
      have hh := h (n + 1 + 1) hz (by omega) (by omega)
      generalize A.getD i 0 = x at *
      generalize A.getD (n + 1 + 1) 0 = y at *
      refine r_al0 zi_269_48 rfl ?_
      refine q_getR zi_269_49 rfl cf_195_52 ?_
      refine r_il2 zi_269_52 rfl ?_
      refine r_alde zi_269_53 rfl (n+1+1) ca_226 (by first | rfl | (simp only [zI_add, zI_mul] <;> rfl)) (by first | omega | decide) (u := nI y) (by first | exact a2 | ((repeat (first | rw [zup_ne (by first | decide | omega)] | rw [zup_nj (by first | decide | omega)] | rw [fil_ne (by first | decide | omega)])) <;> exact a2) | (simp [up_rd, fil_rd]; exact a2)) ?_
      refine r_al0 zi_269_54 rfl ?_
      refine q_getR zi_269_55 rfl cf_195_52 ?_
      refine r_il1 zi_269_58 rfl ?_
      refine r_alde zi_269_59 rfl i ca_226 (by first | rfl | (simp only [zI_add, zI_mul] <;> rfl)) (by first | omega | decide) (u := nI x) (by first | exact a1 | ((repeat (first | rw [zup_ne (by first | decide | omega)] | rw [zup_nj (by first | decide | omega)] | rw [fil_ne (by first | decide | omega)])) <;> exact a1) | (simp [up_rd, fil_rd]; exact a1)) ?_
      refine n_ic3 (i := y) (j := x) zi_269_60 rfl (by omega) (by omega) (fun _ => ?_) (fun c => absurd c (by omega))
      exact hh
theorem l_mn3 {d c : Nat} {σ : zS} {R : Option Int32 → zS → Prop} {u1 u2 : Value} (hc5 : c ≤ 5) : ∀ (f a b : Nat) (A : List Nat) (τ : zS) (u3 : Value), b < c → a ≤ c → b < a + f → Fr [226] σ τ → zAr τ A → zAv c A → (∀ υ, Fr [226] σ υ → zAr υ (zn3 f A a b) → zAv c (zn3 f A a b) → R (some 1) υ) → zk d 269 109 [.ref 195, u1, u2, u3, .int (nI b), .int (nI a)] [] τ R := by
  intro f
  induction f with
  | zero =>
    intro a b A τ u3 hb hac hab hF hA hv h
    refine r_il5 zi_269_109 rfl ?_
    refine r_il4 zi_269_111 rfl ?_
    refine n_ic3 (i := a) (j := b) zi_269_113 rfl (by omega) (by omega) (fun _ => ?_) (fun c => absurd c (by omega))
    refine r_push zi_269_158 rfl ?_
    refine r_retZ zi_269_159 rfl (by decide) ?_
    exact h _ hF hA hv
  | succ f ih =>
    intro a b A τ u3 hb hac hab hF hA hv h
    have e1 : zn3 (f + 1) A a b = if a < b then zn3 f ((A.set a (A.getD b 0)).set b (A.getD a 0)) (a + 1) (b - 1) else A := rfl
    rw [e1] at h
    by_cases hlt : a < b
    · rw [if_pos hlt] at h
      have a1 := hA a (by rw [hv.1]; omega)
      have a2 := hA b (by rw [hv.1]; omega)
      have b1 := hv.2 a (by omega)
      have b2 := hv.2 b (by omega)
      have hA1 := zAr_set (v := A.getD b 0) hA (show a < A.length by rw [hv.1]; omega)
      have hv1 := zAv_set hv (i := a) b2
      have hA2 := zAr_set (v := A.getD a 0) hA1 (show b < (A.set a (A.getD b 0)).length by rw [hv1.1]; omega)
      have hv2 := zAv_set hv1 (i := b) b1
      refine r_il5 zi_269_109 rfl ?_
      refine r_il4 zi_269_111 rfl ?_
      refine n_ic3 (i := a) (j := b) zi_269_113 rfl (by omega) (by omega) (fun c => absurd c (by omega)) (fun _ => ?_)
      refine r_al0 zi_269_116 rfl ?_
      refine q_getR zi_269_117 rfl cf_195_52 ?_
      refine r_il5 zi_269_120 rfl ?_
      refine r_alde zi_269_122 rfl a ca_226 (by first | rfl | (simp only [zI_add, zI_mul] <;> rfl)) (by first | omega | decide) (u := nI (A.getD a 0)) (by first | exact a1 | ((repeat (first | rw [zup_ne (by first | decide | omega)] | rw [zup_nj (by first | decide | omega)] | rw [fil_ne (by first | decide | omega)])) <;> exact a1) | (simp [up_rd, fil_rd]; exact a1)) ?_
      refine r_is3 zi_269_123 rfl ?_
      refine r_al0 zi_269_124 rfl ?_
      refine q_getR zi_269_125 rfl cf_195_52 ?_
      refine r_il5 zi_269_128 rfl ?_
      refine r_al0 zi_269_130 rfl ?_
      refine q_getR zi_269_131 rfl cf_195_52 ?_
      refine r_il4 zi_269_134 rfl ?_
      refine r_alde zi_269_136 rfl b ca_226 (by first | rfl | (simp only [zI_add, zI_mul] <;> rfl)) (by first | omega | decide) (u := nI (A.getD b 0)) (by first | exact a2 | ((repeat (first | rw [zup_ne (by first | decide | omega)] | rw [zup_nj (by first | decide | omega)] | rw [fil_ne (by first | decide | omega)])) <;> exact a2) | (simp [up_rd, fil_rd]; exact a2)) ?_
      refine r_ast zi_269_137 rfl a ca_226 (by first | rfl | (simp only [zI_add, zI_mul] <;> rfl)) (by first | omega | decide) ?_
      refine r_al0 zi_269_138 rfl ?_
      refine q_getR zi_269_139 rfl cf_195_52 ?_
      refine r_il4 zi_269_142 rfl ?_
      refine r_il3 zi_269_144 rfl ?_
      refine r_ast zi_269_145 rfl b ca_226 (by first | rfl | (simp only [zI_add, zI_mul] <;> rfl)) (by first | omega | decide) ?_
      refine r_il4 zi_269_146 rfl ?_
      refine r_push zi_269_148 rfl ?_
      refine r_b1 zi_269_149 rfl ?_
      rw [show (nI b - 1 : Int32) = nI (b - 1) from pk_sub (a := b) (b := 1) (by omega)]
      refine r_is4 zi_269_150 rfl ?_
      refine r_in5 zi_269_152 rfl ?_
      rw [show (nI a + 1 : Int32) = nI (a + 1) from nI_add _ _]
      refine r_goto zi_269_155 rfl ?_
      exact ih (a + 1) (b - 1) _ _ _ (by omega) (by omega) (by omega) ((hF.put (by decide)).put (by decide)) hA2 hv2 h
    · rw [if_neg hlt] at h
      refine r_il5 zi_269_109 rfl ?_
      refine r_il4 zi_269_111 rfl ?_
      refine n_ic3 (i := a) (j := b) zi_269_113 rfl (by omega) (by omega) (fun _ => ?_) (fun c => absurd c (by omega))
      refine r_push zi_269_158 rfl ?_
      refine r_retZ zi_269_159 rfl (by decide) ?_
      exact h _ hF hA hv
theorem s_mnext {d c : Nat} {σ : zS} {Q : Int32 → zS → Prop} {A : List Nat} (hc : σ 195 50 = nI c) (hc5 : c ≤ 5) (hA : zAr σ A) (hv : zAv c A) (h0 : znx c A = none → Q 0 σ) (h1 : ∀ B τ, znx c A = some B → Fr [226] σ τ → zAr τ B → zAv c B → Q 1 τ) : zI1 d 269 [.ref 195] σ Q := by
  show zk _ _ 0 [.ref 195, zun, zun, zun, zun, zun] [] _ _
  have hst : zCd (c - 1) (nI c - 2) := by
    match c with
    | 0 => exact Or.inl ⟨rfl, by decide⟩
    | 1 => exact Or.inl ⟨rfl, by decide⟩
    | q + 2 => exact Or.inr ⟨q, rfl, pk_sub (a := q + 2) (b := 2) (by omega)⟩
  refine r_al0 zi_269_0 rfl ?_
  refine q_getIe zi_269_1 rfl cf_195_50 (v := nI c) (by first | exact hc | ((repeat (first | rw [zup_ne (by first | decide | omega)] | rw [zup_nj (by first | decide | omega)] | rw [fil_ne (by first | decide | omega)])) <;> exact hc) | (simp [up_rd, fil_rd]; exact hc)) ?_
  refine r_push zi_269_4 rfl ?_
  refine r_b1 zi_269_5 rfl ?_
  refine r_is1 zi_269_6 rfl ?_
  refine l_mn1 hc5 hA hv (fun hz => ⟨_, rfl, h0 (by unfold znx; rw [hz])⟩) (fun i hz hi hge => ?_) (c - 1) _ (Nat.le_refl _) hst rfl
  have hx : znx c A = some (zn3 5 ((A.set i (A.getD (zn2 A (A.getD i 0) (c - 1)) 0)).set (zn2 A (A.getD i 0) (c - 1)) (A.getD i 0)) (i + 1) (c - 1)) := by unfold znx; rw [hz]
  have h1' := fun τ => h1 _ τ hx
  refine r_al0 zi_269_41 rfl ?_
  refine q_getIe zi_269_42 rfl cf_195_50 (v := nI c) (by first | exact hc | ((repeat (first | rw [zup_ne (by first | decide | omega)] | rw [zup_nj (by first | decide | omega)] | rw [fil_ne (by first | decide | omega)])) <;> exact hc) | (simp [up_rd, fil_rd]; exact hc)) ?_
  refine r_push zi_269_45 rfl ?_
  refine r_b1 zi_269_46 rfl ?_
  rw [show (nI c - 1 : Int32) = nI (c - 1) from pk_sub (a := c) (b := 1) (by omega)]
  refine r_is2 zi_269_47 rfl ?_
  have hl2 := l_mn2 (d := d) (R := fun r t => ∃ v, r = some v ∧ Q v t) hc5 hA hv hi hge (fun k hk hik hkc => ?_) (c - 2) (by omega) (by omega) (by rw [show c - 2 + 1 = c - 1 by omega])
  · rw [show c - 2 + 1 = c - 1 by omega] at hl2
    exact hl2
  rw [hk] at h1'
  have a1 := hA i (by rw [hv.1]; omega)
  have a2 := hA k (by rw [hv.1]; omega)
  have b1 := hv.2 i (by omega)
  have b2 := hv.2 k (by omega)
  have hA1 := zAr_set (v := A.getD k 0) hA (show i < A.length by rw [hv.1]; omega)
  have hv1 := zAv_set hv (i := i) b2
  have hA2 := zAr_set (v := A.getD i 0) hA1 (show k < (A.set i (A.getD k 0)).length by rw [hv1.1]; omega)
  have hv2 := zAv_set hv1 (i := k) b1
  have hF2 : Fr [226] σ (up (up σ 226 i (nI (A.getD k 0))) 226 k (nI (A.getD i 0))) := (Fr.rf.put (by decide)).put (by decide)
  have hc' : up (up σ 226 i (nI (A.getD k 0))) 226 k (nI (A.getD i 0)) 195 50 = nI c := by rw [zup_ne (by decide), zup_ne (by decide)]; exact hc
  refine r_al0 zi_269_70 rfl ?_
  refine q_getR zi_269_71 rfl cf_195_52 ?_
  refine r_il1 zi_269_74 rfl ?_
  refine r_alde zi_269_75 rfl i ca_226 (by first | rfl | (simp only [zI_add, zI_mul] <;> rfl)) (by first | omega | decide) (u := nI (A.getD i 0)) (by first | exact a1 | ((repeat (first | rw [zup_ne (by first | decide | omega)] | rw [zup_nj (by first | decide | omega)] | rw [fil_ne (by first | decide | omega)])) <;> exact a1) | (simp [up_rd, fil_rd]; exact a1)) ?_
  refine r_is3 zi_269_76 rfl ?_
  refine r_al0 zi_269_77 rfl ?_
  refine q_getR zi_269_78 rfl cf_195_52 ?_
  refine r_il1 zi_269_81 rfl ?_
  refine r_al0 zi_269_82 rfl ?_
  refine q_getR zi_269_83 rfl cf_195_52 ?_
  refine r_il2 zi_269_86 rfl ?_
  refine r_alde zi_269_87 rfl k ca_226 (by first | rfl | (simp only [zI_add, zI_mul] <;> rfl)) (by first | omega | decide) (u := nI (A.getD k 0)) (by first | exact a2 | ((repeat (first | rw [zup_ne (by first | decide | omega)] | rw [zup_nj (by first | decide | omega)] | rw [fil_ne (by first | decide | omega)])) <;> exact a2) | (simp [up_rd, fil_rd]; exact a2)) ?_
  refine r_ast zi_269_88 rfl i ca_226 (by first | rfl | (simp only [zI_add, zI_mul] <;> rfl)) (by first | omega | decide) ?_
  refine r_al0 zi_269_89 rfl ?_
  refine q_getR zi_269_90 rfl cf_195_52 ?_
  refine r_il2 zi_269_93 rfl ?_
  refine r_il3 zi_269_94 rfl ?_
  refine r_ast zi_269_95 rfl k ca_226 (by first | rfl | (simp only [zI_add, zI_mul] <;> rfl)) (by first | omega | decide) ?_
  refine r_al0 zi_269_96 rfl ?_
  refine q_getIe zi_269_97 rfl cf_195_50 (v := nI c) (by first | exact hc' | ((repeat (first | rw [zup_ne (by first | decide | omega)] | rw [zup_nj (by first | decide | omega)] | rw [fil_ne (by first | decide | omega)])) <;> exact hc') | (simp [up_rd, fil_rd]; exact hc')) ?_
  refine r_push zi_269_100 rfl ?_
  refine r_b1 zi_269_101 rfl ?_
  rw [show (nI c - 1 : Int32) = nI (c - 1) from pk_sub (a := c) (b := 1) (by omega)]
  refine r_is4 zi_269_102 rfl ?_
  refine r_il1 zi_269_104 rfl ?_
  refine r_push zi_269_105 rfl ?_
  refine r_b0 zi_269_106 rfl ?_
  rw [show (nI i + 1 : Int32) = nI (i + 1) from nI_add _ _]
  refine r_is5 zi_269_107 rfl ?_
  exact l_mn3 hc5 5 (i + 1) (c - 1) _ _ _ (by omega) (by omega) (by omega) hF2 hA2 hv2 (fun υ g1 g2 g3 => ⟨_, rfl, h1' υ g1 g2 g3⟩)
theorem zlq_app (W : Nat → Nat) : ∀ q p s, zlq W (q ++ [p]) s = zlw (W p) (zlq W q s).1 (zlq W q s).2
  | [], p, s => rfl
  | x :: q, p, s => zlq_app W q p _
theorem take_s {A : List Nat} {k : Nat} (h : k < A.length) : A.take (k + 1) = A.take k ++ [A.getD k 0] := by
  rw [List.take_add_one]
  simp [List.getD_eq_getElem?_getD, h]
theorem l_mt1 {d c : Nat} {σ : zS} {R : Option Int32 → zS → Prop} {W : Nat → Nat} {A : List Nat} {u1 u2 u3 u4 : Value} (hc : σ 195 50 = nI c) (hc5 : c ≤ 5) (hW : ∀ k, k < c → σ 225 k = nI (W k) ∧ W k ≤ 9999 ∧ 1 ≤ W k) (hA : zAr σ A) (hAl : A.length = c) (hAc : ∀ i, i < c → A.getD i 0 < c) (h : ∀ τ u5, Fm [227, 228] [54] σ τ → τ 195 54 = nI (zLl W A) → zk (d + 2) 270 93 [.ref 195, u1, u2, u3, u4, u5] [] τ R) : ∀ (m k : Nat) (τ : zS), k + m = c → Fm [227, 228] [54] σ τ → τ 195 54 = nI (zlq W (A.take k) (0, fun _ => 0)).1 → zRw τ 227 (zlq W (A.take k) (0, fun _ => 0)).1 (zlq W (A.take k) (0, fun _ => 0)).2 → zk (d + 2) 270 62 [.ref 195, u1, u2, u3, u4, .int (nI k)] [] τ R := by
  intro m
  induction m with
  | zero =>
    intro k τ hk hF hL hr
    have e : k = c := by omega
    subst e
    rw [show A.take k = A by rw [← hAl]; exact List.take_length] at hL
    have hc' := (hF.fl (f := 50) (by decide) (by decide)).trans hc
    refine r_il5 zi_270_62 rfl ?_
    refine r_al0 zi_270_64 rfl ?_
    refine q_getIe zi_270_65 rfl cf_195_50 (v := nI k) (by first | exact hc' | ((repeat (first | rw [zup_ne (by first | decide | omega)] | rw [zup_nj (by first | decide | omega)] | rw [fil_ne (by first | decide | omega)])) <;> exact hc') | (simp [up_rd, fil_rd]; exact hc')) ?_
    refine n_ic3 (i := k) (j := k) zi_270_68 rfl (by omega) (by omega) (fun _ => ?_) (fun c => absurd c (by omega))
    exact h _ _ hF hL
  | succ m ih =>
    intro k τ hk hF hL hr
    have hc' := (hF.fl (f := 50) (by decide) (by decide)).trans hc
    have h82 := (hF.at (a := 226) (by decide) (by decide) k).trans (hA k (by omega))
    have hak := hAc k (by omega)
    obtain ⟨w1, w2, w3⟩ := hW _ hak
    have h83 := (hF.at (a := 225) (by decide) (by decide) (A.getD k 0)).trans w1
    have hle := zlq_le W (A.take k) (0, fun _ => 0)
    rw [List.length_take] at hle
    have hle2 : (zlq W (A.take k) (0, fun _ => 0)).1 ≤ 16 := by
      have : (zlq W (A.take k) (0, fun _ => 0)).1 ≤ 0 + 4 * min k A.length := hle
      omega
    have ih := ih (k + 1)
    rw [take_s (by omega), zlq_app] at ih
    refine r_il5 zi_270_62 rfl ?_
    refine r_al0 zi_270_64 rfl ?_
    refine q_getIe zi_270_65 rfl cf_195_50 (v := nI c) (by first | exact hc' | ((repeat (first | rw [zup_ne (by first | decide | omega)] | rw [zup_nj (by first | decide | omega)] | rw [fil_ne (by first | decide | omega)])) <;> exact hc') | (simp [up_rd, fil_rd]; exact hc')) ?_
    refine n_ic3 (i := k) (j := c) zi_270_68 rfl (by omega) (by omega) (fun c => absurd c (by omega)) (fun _ => ?_)
    refine r_al0 zi_270_71 rfl ?_
    refine r_al0 zi_270_72 rfl ?_
    refine q_getR zi_270_73 rfl cf_195_51 ?_
    refine r_al0 zi_270_76 rfl ?_
    refine q_getR zi_270_77 rfl cf_195_52 ?_
    refine r_il5 zi_270_80 rfl ?_
    refine r_alde zi_270_82 rfl k ca_226 (by first | rfl | (simp only [zI_add, zI_mul] <;> rfl)) (by first | omega | decide) (u := nI (A.getD k 0)) (by first | exact h82 | ((repeat (first | rw [zup_ne (by first | decide | omega)] | rw [zup_nj (by first | decide | omega)] | rw [fil_ne (by first | decide | omega)])) <;> exact h82) | (simp [up_rd, fil_rd]; exact h82)) ?_
    refine r_alde zi_270_83 rfl (A.getD k 0) ca_225 (by first | rfl | (simp only [zI_add, zI_mul] <;> rfl)) (by first | omega | decide) (u := nI (W (A.getD k 0))) (by first | exact h83 | ((repeat (first | rw [zup_ne (by first | decide | omega)] | rw [zup_nj (by first | decide | omega)] | rw [fil_ne (by first | decide | omega)])) <;> exact h83) | (simp [up_rd, fil_rd]; exact h83)) ?_
    refine q_cVV zi_270_84 rfl rfl rfl rfl rfl rfl rfl cf_195_0.ob (s_mlaid w3 w2 hle2 hL hr (fun τ2 hF2 hL2 hr2 => ?_))
    show zk _ _ 87 _ _ _ _
    refine r_in5 zi_270_87 rfl ?_
    rw [show (nI k + 1 : Int32) = nI (k + 1) from nI_add _ _]
    refine r_goto zi_270_90 rfl ?_
    exact ih _ (by omega) (hF.tr hF2) hL2 hr2
theorem l_mt2 {d c : Nat} {σ : zS} {Q : Int32 → zS → Prop} {W : Nat → Nat} {what : Int32} {full : List Nat} (hc : σ 195 50 = nI c) (hc5 : c ≤ 5) (hW : ∀ k, k < c → σ 225 k = nI (W k) ∧ W k ≤ 9999 ∧ 1 ≤ W k) (hfl : full.length ≤ 120) (h : ∀ τ, Fm [226, 227, 228] [54] σ τ → Q (if what = 0 then nI (zMn 100000000 full) else nI (full.count (zMn 100000000 full))) τ) : ∀ (f : Nat) (A : List Nat) (P : List Nat) (τ : zS) (w : Int32) (u5 : Value), P.length + f = 121 → ((w = 1 ∧ P ++ (znl f c A).map (zLl W) = full ∧ zAr τ A ∧ zAv c A ∧ (znl f c A).all (fun A => decide (A.length = c) && A.all (fun x => decide (x < c))) = true) ∨ (w = 0 ∧ P = full)) → Fm [226, 227, 228] [54] σ τ → zk (d + 3) 270 49 [.ref 195, .int what, .int (nI (zMn 100000000 P)), .int (nI (P.count (zMn 100000000 P))), .int w, u5] [] τ (fun r t => ∃ v, r = some v ∧ Q v t) := by
  have fin : ∀ (P : List Nat) (τ : zS) (u5 : Value), P = full → Fm [226, 227, 228] [54] σ τ → zk (d + 3) 270 49 [.ref 195, .int what, .int (nI (zMn 100000000 P)), .int (nI (P.count (zMn 100000000 P))), .int 0, u5] [] τ (fun r t => ∃ v, r = some v ∧ Q v t) := by
    intro P τ u5 hP hF
    subst hP
    have hq := h τ hF
    by_cases hw : what = 0
    · rw [if_pos hw] at hq
      refine r_il4 zi_270_49 rfl ?_
      refine r_if0 zi_270_51 rfl (fun _ => ?_) (fun c => absurd (by decide) c)
      refine r_il1 zi_270_134 rfl ?_
      refine r_if1 zi_270_135 rfl (fun c => absurd hw c) (fun _ => ?_)
      refine r_il2 zi_270_138 rfl ?_
      refine r_goto zi_270_139 rfl ?_
      refine r_retI zi_270_143 rfl ?_
      exact ⟨_, rfl, hq⟩
    · rw [if_neg hw] at hq
      refine r_il4 zi_270_49 rfl ?_
      refine r_if0 zi_270_51 rfl (fun _ => ?_) (fun c => absurd (by decide) c)
      refine r_il1 zi_270_134 rfl ?_
      refine r_if1 zi_270_135 rfl (fun _ => ?_) (fun c => absurd c hw)
      refine r_il3 zi_270_142 rfl ?_
      refine r_retI zi_270_143 rfl ?_
      exact ⟨_, rfl, hq⟩
  intro f
  induction f with
  | zero =>
    intro A P τ w u5 hf hcase hF
    rcases hcase with ⟨_, hP, _⟩ | ⟨hw, hP⟩
    · exfalso
      have : full.length = P.length + 0 := by rw [← hP, List.length_append]; rfl
      omega
    · subst hw; exact fin P τ u5 hP hF
  | succ f ih =>
    intro A P τ w u5 hf hcase hF
    rcases hcase with ⟨hw, hP, hA, hv, hall⟩ | ⟨hw, hP⟩
    · subst hw
      have hc' := (hF.fl (f := 50) (by decide) (by decide)).trans hc
      have hW' : ∀ k, k < c → τ 225 k = nI (W k) ∧ W k ≤ 9999 ∧ 1 ≤ W k := fun k hk => ⟨(hF.at (a := 225) (by decide) (by decide) k).trans (hW k hk).1, (hW k hk).2⟩
      have e1 : znl (f + 1) c A = A :: (match znx c A with
        | none => []
        | some B => znl f c B) := rfl
      rw [e1] at hP hall
      rw [List.all_cons, Bool.and_eq_true, Bool.and_eq_true] at hall
      obtain ⟨⟨ha1, ha2⟩, ha3⟩ := hall
      have hAc : ∀ i, i < c → A.getD i 0 < c := fun i hi => by
        have hl : i < A.length := by rw [hv.1]; exact hi
        have := List.all_eq_true.mp ha2 A[i] (List.getElem_mem hl)
        rw [List.getD_eq_getElem?_getD, List.getElem?_eq_getElem hl]
        exact of_decide_eq_true this
      have hLe := zlq_le W A (0, fun _ => 0)
      have hL20 : zLl W A ≤ 20 := by
        have : (zlq W A (0, fun _ => 0)).1 ≤ 0 + 4 * A.length := hLe
        rw [hv.1] at this
        show (zlq W A (0, fun _ => 0)).1 ≤ 20
        omega
      have hct := zct_s (x := zLl W A) (fun y hy => (zMn_le P 100000000).2 y hy) (rfl : P.count (zMn 100000000 P) = _)
      have hMf := (zMn_le P 100000000).1
      have hcl : P.count (zMn 100000000 P) ≤ P.length := List.count_le_length
      have hlen : P.length ≤ 121 := by omega
      have hP2 : (P ++ [zLl W A]).length + f = 121 := by rw [List.length_append]; show P.length + 1 + f = 121; omega
      have ih := fun B => ih B (P ++ [zLl W A])
      rw [zMn_s, ← hct] at ih
      rw [List.map_cons] at hP
      have hgo : ∀ τ2 : zS, Fm [226, 227, 228] [54] σ τ2 → zAr τ2 A → τ2 195 50 = nI c → ∀ (b : Nat) (u5 : Value), b = (if zLl W A < zMn 100000000 P then 0 else P.count (zMn 100000000 P)) + (if zLl W A = min (zMn 100000000 P) (zLl W A) then 1 else 0) → zk (d + 3) 270 125 [.ref 195, .int what, .int (nI (min (zMn 100000000 P) (zLl W A))), .int (nI b), .int 1, u5] [] τ2 (fun r t => ∃ v, r = some v ∧ Q v t) := by
        intro τ2 hF2 hA2 hc2 b u5 hb
        subst hb
        refine r_al0 zi_270_125 rfl ?_
        refine q_cIV zi_270_126 rfl rfl rfl rfl rfl rfl rfl cf_195_0.ob (s_mnext hc2 hc5 hA2 hv (fun hz => ?_) (fun B τ3 hz hF3 hB hBv => ?_))
        · show zk _ _ 129 _ _ _ _
          refine r_is4 zi_270_129 rfl ?_
          refine r_goto zi_270_131 rfl ?_
          first
          | (rw [hz] at hP; exact ih A τ2 0 _ hP2 (Or.inr ⟨rfl, hP⟩) hF2)
          | (rw [hz] at hP ha3; exact ih B τ3 1 _ hP2 (Or.inl ⟨rfl, by rw [List.append_assoc]; exact hP, hB, hBv, ha3⟩) (hF2.tr ((Fm.of (fs := [54]) hF3 (by decide)).sub (by simp) (by simp))))
        · show zk _ _ 129 _ _ _ _
          refine r_is4 zi_270_129 rfl ?_
          refine r_goto zi_270_131 rfl ?_
          first
          | (rw [hz] at hP; exact ih A τ2 0 _ hP2 (Or.inr ⟨rfl, hP⟩) hF2)
          | (rw [hz] at hP ha3; exact ih B τ3 1 _ hP2 (Or.inl ⟨rfl, by rw [List.append_assoc]; exact hP, hB, hBv, ha3⟩) (hF2.tr ((Fm.of (fs := [54]) hF3 (by decide)).sub (by simp) (by simp))))
      generalize hx : zLl W A = x at *
      generalize P.count (zMn 100000000 P) = n at *
      generalize zMn 100000000 P = fm at *
      have hmn := zminI (a := fm) (b := x) (by omega) (by omega)
      refine r_il4 zi_270_49 rfl ?_
      refine r_if0 zi_270_51 rfl (fun c => absurd c (by decide)) (fun _ => ?_)
      refine r_al0 zi_270_54 rfl ?_
      refine r_push zi_270_55 rfl ?_
      refine q_put zi_270_56 rfl cf_195_54 rfl ?_
      refine r_push zi_270_59 rfl ?_
      refine r_is5 zi_270_60 rfl ?_
      refine l_mt1 (A := A) (by rw [zup_nj (by decide)]; exact hc') hc5 (fun k hk => by rw [zup_ne (by decide)]; exact hW' k hk) (fun i hi => by rw [zup_ne (by decide)]; exact hA i hi) hv.1 hAc (fun τ2 u5 hF2 hL2 => ?_) c 0 _ (by omega) Fm.rf zup_eq (fun x hx => by cases hx)
      rw [hx] at hL2
      have hFF : Fm [226, 227, 228] [54] σ τ2 := (hF.pf (by decide)).tr (hF2.sub (by simp) (by simp))
      have hgo := hgo τ2 hFF (fun i hi => (hF2.at (a := 226) (by decide) (by decide) i).trans ((zup_ne (by decide)).trans (hA i hi))) ((hFF.fl (f := 50) (by decide) (by decide)).trans hc)
      show zk _ _ 93 _ _ _ _
      refine r_al0 zi_270_93 rfl ?_
      refine q_getIe zi_270_94 rfl cf_195_54 (v := nI x) (by first | exact hL2 | ((repeat (first | rw [zup_ne (by first | decide | omega)] | rw [zup_nj (by first | decide | omega)] | rw [fil_ne (by first | decide | omega)])) <;> exact hL2) | (simp [up_rd, fil_rd]; exact hL2)) ?_
      refine r_il2 zi_270_97 rfl ?_
      refine n_ic3 (i := x) (j := fm) zi_270_98 rfl (by omega) (by omega) (fun c1 => ?_) (fun c1 => ?_)
      · refine r_al0 zi_270_103 rfl ?_
        refine q_getIe zi_270_104 rfl cf_195_54 (v := nI x) (by first | exact hL2 | ((repeat (first | rw [zup_ne (by first | decide | omega)] | rw [zup_nj (by first | decide | omega)] | rw [fil_ne (by first | decide | omega)])) <;> exact hL2) | (simp [up_rd, fil_rd]; exact hL2)) ?_
        refine r_il2 zi_270_107 rfl ?_
        refine n_ic4 (i := x) (j := fm) zi_270_108 rfl (by omega) (by omega) (fun c2 => ?_) (fun c2 => ?_)
        · refine r_al0 zi_270_115 rfl ?_
          refine r_il2 zi_270_116 rfl ?_
          refine r_al0 zi_270_117 rfl ?_
          refine q_getIe zi_270_118 rfl cf_195_54 (v := nI x) (by first | exact hL2 | ((repeat (first | rw [zup_ne (by first | decide | omega)] | rw [zup_nj (by first | decide | omega)] | rw [fil_ne (by first | decide | omega)])) <;> exact hL2) | (simp [up_rd, fil_rd]; exact hL2)) ?_
          refine q_cIV zi_270_121 rfl rfl rfl rfl rfl rfl rfl cf_195_0.ob (s_lesser ?_)
          show zk _ _ 124 _ _ _ _
          rw [hmn]
          refine r_is2 zi_270_124 rfl ?_
          first
          | exact hgo n _ (by (repeat (first | rw [if_pos (by omega)] | rw [if_neg (by omega)])) <;> first | omega | rfl)
          | exact hgo (n + 1) _ (by (repeat (first | rw [if_pos (by omega)] | rw [if_neg (by omega)])) <;> first | omega | rfl)
          | exact hgo 1 _ (by (repeat (first | rw [if_pos (by omega)] | rw [if_neg (by omega)])) <;> first | omega | rfl)
          | (exfalso; omega)
        · refine r_il3 zi_270_111 rfl ?_
          refine r_push zi_270_112 rfl ?_
          refine r_b0 zi_270_113 rfl ?_
          rw [show (nI n + 1 : Int32) = nI (n + 1) from nI_add _ _]
          refine r_is3 zi_270_114 rfl ?_
          refine r_al0 zi_270_115 rfl ?_
          refine r_il2 zi_270_116 rfl ?_
          refine r_al0 zi_270_117 rfl ?_
          refine q_getIe zi_270_118 rfl cf_195_54 (v := nI x) (by first | exact hL2 | ((repeat (first | rw [zup_ne (by first | decide | omega)] | rw [zup_nj (by first | decide | omega)] | rw [fil_ne (by first | decide | omega)])) <;> exact hL2) | (simp [up_rd, fil_rd]; exact hL2)) ?_
          refine q_cIV zi_270_121 rfl rfl rfl rfl rfl rfl rfl cf_195_0.ob (s_lesser ?_)
          show zk _ _ 124 _ _ _ _
          rw [hmn]
          refine r_is2 zi_270_124 rfl ?_
          first
          | exact hgo n _ (by (repeat (first | rw [if_pos (by omega)] | rw [if_neg (by omega)])) <;> first | omega | rfl)
          | exact hgo (n + 1) _ (by (repeat (first | rw [if_pos (by omega)] | rw [if_neg (by omega)])) <;> first | omega | rfl)
          | exact hgo 1 _ (by (repeat (first | rw [if_pos (by omega)] | rw [if_neg (by omega)])) <;> first | omega | rfl)
          | (exfalso; omega)
      · refine r_push zi_270_101 rfl ?_
        refine r_is3 zi_270_102 rfl ?_
        refine r_al0 zi_270_103 rfl ?_
        refine q_getIe zi_270_104 rfl cf_195_54 (v := nI x) (by first | exact hL2 | ((repeat (first | rw [zup_ne (by first | decide | omega)] | rw [zup_nj (by first | decide | omega)] | rw [fil_ne (by first | decide | omega)])) <;> exact hL2) | (simp [up_rd, fil_rd]; exact hL2)) ?_
        refine r_il2 zi_270_107 rfl ?_
        refine n_ic4 (i := x) (j := fm) zi_270_108 rfl (by omega) (by omega) (fun c5 => ?_) (fun c5 => ?_)
        · refine r_al0 zi_270_115 rfl ?_
          refine r_il2 zi_270_116 rfl ?_
          refine r_al0 zi_270_117 rfl ?_
          refine q_getIe zi_270_118 rfl cf_195_54 (v := nI x) (by first | exact hL2 | ((repeat (first | rw [zup_ne (by first | decide | omega)] | rw [zup_nj (by first | decide | omega)] | rw [fil_ne (by first | decide | omega)])) <;> exact hL2) | (simp [up_rd, fil_rd]; exact hL2)) ?_
          refine q_cIV zi_270_121 rfl rfl rfl rfl rfl rfl rfl cf_195_0.ob (s_lesser ?_)
          show zk _ _ 124 _ _ _ _
          rw [hmn]
          refine r_is2 zi_270_124 rfl ?_
          first
          | exact hgo n _ (by (repeat (first | rw [if_pos (by omega)] | rw [if_neg (by omega)])) <;> first | omega | rfl)
          | exact hgo (n + 1) _ (by (repeat (first | rw [if_pos (by omega)] | rw [if_neg (by omega)])) <;> first | omega | rfl)
          | exact hgo 1 _ (by (repeat (first | rw [if_pos (by omega)] | rw [if_neg (by omega)])) <;> first | omega | rfl)
          | (exfalso; omega)
        · refine r_il3 zi_270_111 rfl ?_
          refine r_push zi_270_112 rfl ?_
          refine r_b0 zi_270_113 rfl ?_
          refine r_is3 zi_270_114 rfl ?_
          refine r_al0 zi_270_115 rfl ?_
          refine r_il2 zi_270_116 rfl ?_
          refine r_al0 zi_270_117 rfl ?_
          refine q_getIe zi_270_118 rfl cf_195_54 (v := nI x) (by first | exact hL2 | ((repeat (first | rw [zup_ne (by first | decide | omega)] | rw [zup_nj (by first | decide | omega)] | rw [fil_ne (by first | decide | omega)])) <;> exact hL2) | (simp [up_rd, fil_rd]; exact hL2)) ?_
          refine q_cIV zi_270_121 rfl rfl rfl rfl rfl rfl rfl cf_195_0.ob (s_lesser ?_)
          show zk _ _ 124 _ _ _ _
          rw [hmn]
          refine r_is2 zi_270_124 rfl ?_
          first
          | exact hgo n _ (by (repeat (first | rw [if_pos (by omega)] | rw [if_neg (by omega)])) <;> first | omega | rfl)
          | exact hgo (n + 1) _ (by (repeat (first | rw [if_pos (by omega)] | rw [if_neg (by omega)])) <;> first | omega | rfl)
          | exact hgo 1 _ (by (repeat (first | rw [if_pos (by omega)] | rw [if_neg (by omega)])) <;> first | omega | rfl)
          | (exfalso; omega)
    · subst hw; exact fin P τ u5 hP hF
theorem l_mt0 {d c : Nat} {σ : zS} {R : Option Int32 → zS → Prop} {u1 u3 u4 u5 : Value} (hc : σ 195 50 = nI c) (hc5 : c ≤ 5) (h : ∀ τ, Fr [226] σ τ → (∀ i, i < c → τ 226 i = nI i) → zk d 270 40 [.ref 195, u1, .int (nI c), u3, u4, u5] [] τ R) : ∀ (m i : Nat) (τ : zS), i + m = c → Fr [226] σ τ → (∀ j, j < i → τ 226 j = nI j) → zk d 270 19 [.ref 195, u1, .int (nI i), u3, u4, u5] [] τ R := by
  intro m
  induction m with
  | zero =>
    intro i τ hi hF hv
    have e : i = c := by omega
    subst e
    have hc' := (hF 195 (by decide) 50).trans hc
    refine r_il2 zi_270_19 rfl ?_
    refine r_al0 zi_270_20 rfl ?_
    refine q_getIe zi_270_21 rfl cf_195_50 (v := nI i) (by first | exact hc' | ((repeat (first | rw [zup_ne (by first | decide | omega)] | rw [zup_nj (by first | decide | omega)] | rw [fil_ne (by first | decide | omega)])) <;> exact hc') | (simp [up_rd, fil_rd]; exact hc')) ?_
    refine n_ic3 (i := i) (j := i) zi_270_24 rfl (by omega) (by omega) (fun _ => ?_) (fun c => absurd c (by omega))
    exact h _ hF hv
  | succ m ih =>
    intro i τ hi hF hv
    have hc' := (hF 195 (by decide) 50).trans hc
    refine r_il2 zi_270_19 rfl ?_
    refine r_al0 zi_270_20 rfl ?_
    refine q_getIe zi_270_21 rfl cf_195_50 (v := nI c) (by first | exact hc' | ((repeat (first | rw [zup_ne (by first | decide | omega)] | rw [zup_nj (by first | decide | omega)] | rw [fil_ne (by first | decide | omega)])) <;> exact hc') | (simp [up_rd, fil_rd]; exact hc')) ?_
    refine n_ic3 (i := i) (j := c) zi_270_24 rfl (by omega) (by omega) (fun c => absurd c (by omega)) (fun _ => ?_)
    refine r_al0 zi_270_27 rfl ?_
    refine q_getR zi_270_28 rfl cf_195_52 ?_
    refine r_il2 zi_270_31 rfl ?_
    refine r_il2 zi_270_32 rfl ?_
    refine r_ast zi_270_33 rfl i ca_226 (by first | rfl | (simp only [zI_add, zI_mul] <;> rfl)) (by first | omega | decide) ?_
    refine r_in2 zi_270_34 rfl ?_
    rw [show (nI i + 1 : Int32) = nI (i + 1) from nI_add _ _]
    refine r_goto zi_270_37 rfl ?_
    refine ih (i + 1) _ (by omega) (hF.put (by decide)) (fun j hj => ?_)
    rw [up_rd]
    by_cases e : j = i
    · rw [if_pos ⟨rfl, e⟩, e]
    · rw [if_neg (fun z => e z.2)]; exact hv j (by omega)
theorem s_mtog {d c : Nat} {σ : zS} {Q : Int32 → zS → Prop} {W : Nat → Nat} {what : Int32} (hc : σ 195 50 = nI c) (hc5 : c ≤ 5) (hW : ∀ k, k < c → σ 225 k = nI (W k) ∧ W k ≤ 9999 ∧ 1 ≤ W k) (h1 : 0 ≤ what → what ≤ 1 → ∀ τ, Fm [226, 227, 228] [54] (up σ 195 0 0) τ → Q (nI (ztg W c what)) τ) (h0 : ¬ (0 ≤ what ∧ what ≤ 1) → Q (-1) (up σ 195 0 0)) : zI1 (d + 3) 270 [.ref 195, .int what] σ Q := by
  have hc0 : up σ 195 0 0 195 50 = nI c := by rw [zup_nj (by decide)]; exact hc
  have hzf := zfc_le c (by omega)
  have hpm := List.isPerm_iff.mp (zord_perm c (by omega))
  obtain ⟨hl1, hl2⟩ := znl_len c (by omega)
  have hfull : ((znl 121 c (List.range c)).map (zLl W)).length ≤ 120 := by rw [List.length_map, hl1]; exact hzf.1
  have hperm : (zkL W c (zfc c)).Perm ((znl 121 c (List.range c)).map (zLl W)) := by
    rw [← hl2]
    have := hpm.map (zLl W)
    rw [List.map_map] at this
    exact this
  have hb : ∀ x, x ∈ zkL W c (zfc c) → x ≤ 20 := fun x hx => by
    obtain ⟨o, ho, rfl⟩ := List.mem_map.mp hx
    have := zlq_le W (zpq c (zfl c) o) (0, fun _ => 0)
    rw [zpq_len] at this
    show (zlq W _ (0, fun _ => 0)).1 ≤ 20
    have h2 : (zlq W (zpq c (zfl c) o) (0, fun _ => 0)).1 ≤ 0 + 4 * c := this
    omega
  have hne : zkL W c (zfc c) ≠ [] := by
    intro z
    have := congrArg List.length z
    rw [List.length_map, List.length_range] at this
    have h2 : zfc c = 0 := this
    omega
  have hmn := zMn_perm hperm (i := 21) (j := 100000000) hne (fun x hx => by have := hb x hx; omega) (fun x hx => by have := hb x hx; omega)
  have hans : ∀ τ, 0 ≤ what → what ≤ 1 → Fm [226, 227, 228] [54] (up σ 195 0 0) τ → Q (if what = 0 then nI (zMn 100000000 ((znl 121 c (List.range c)).map (zLl W))) else nI (((znl 121 c (List.range c)).map (zLl W)).count (zMn 100000000 ((znl 121 c (List.range c)).map (zLl W))))) τ := fun τ a b hF => by
    have hq := h1 a b τ hF
    unfold ztg at hq
    rw [← hmn, ← hperm.count_eq]
    by_cases hw : what = 0
    · rw [if_pos hw] at hq ⊢; exact hq
    · rw [if_neg hw] at hq ⊢; exact hq
  have hrange : ∀ i, i < c → (List.range c).getD i 0 = i := fun i hi => by simp [List.getD_eq_getElem?_getD, hi]
  show zk _ _ 0 [.ref 195, .int what, zun, zun, zun, zun] [] _ _
  by_cases hk : 0 ≤ what ∧ what ≤ 1
  · refine r_al0 zi_270_0 rfl ?_
    refine r_push zi_270_1 rfl ?_
    refine q_put zi_270_2 rfl cf_195_0 rfl ?_
    refine r_al0 zi_270_5 rfl ?_
    refine r_il1 zi_270_6 rfl ?_
    refine r_push zi_270_7 rfl ?_
    refine r_push zi_270_8 rfl ?_
    refine q_cIV zi_270_9 rfl rfl rfl rfl rfl rfl rfl cf_195_0.ob (s_isIn (fun _ _ => ?_) (fun z => absurd hk z))
    show zk _ _ 12 _ _ _ _
    refine r_if1 zi_270_12 rfl (fun _ => ?_) (fun c => absurd c (by decide))
    refine r_push zi_270_17 rfl ?_
    refine r_is2 zi_270_18 rfl ?_
    refine l_mt0 hc0 hc5 (fun τ hF hv => ?_) c 0 _ (by omega) Fr.rf (fun j hj => by omega)
    show zk _ _ 40 _ _ _ _
    refine r_push zi_270_40 rfl ?_
    refine r_is2 zi_270_43 rfl ?_
    refine r_push zi_270_44 rfl ?_
    refine r_is3 zi_270_45 rfl ?_
    refine r_push zi_270_46 rfl ?_
    refine r_is4 zi_270_47 rfl ?_
    exact l_mt2 (σ := up σ 195 0 0) hc0 hc5 (fun k hk => by rw [zup_ne (by decide)]; exact hW k hk) hfull (fun τ hF => hans τ hk.1 hk.2 hF) 121 (List.range c) [] τ 1 _ rfl (Or.inl ⟨rfl, rfl, fun i hi => by
      rw [List.length_range] at hi
      rw [hrange i hi]; exact hv i hi, ⟨List.length_range, fun i hi => by rw [hrange i hi]; omega⟩, znl_ok c (by omega)⟩) ((Fm.of (fs := [54]) hF (by decide)).sub (by simp) (by simp))
  · refine r_al0 zi_270_0 rfl ?_
    refine r_push zi_270_1 rfl ?_
    refine q_put zi_270_2 rfl cf_195_0 rfl ?_
    refine r_al0 zi_270_5 rfl ?_
    refine r_il1 zi_270_6 rfl ?_
    refine r_push zi_270_7 rfl ?_
    refine r_push zi_270_8 rfl ?_
    refine q_cIV zi_270_9 rfl rfl rfl rfl rfl rfl rfl cf_195_0.ob (s_isIn (fun z z2 => absurd ⟨z, z2⟩ hk) (fun _ => ?_))
    show zk _ _ 12 _ _ _ _
    refine r_if1 zi_270_12 rfl (fun c => absurd (by decide) c) (fun _ => ?_)
    refine r_push zi_270_15 rfl ?_
    refine r_retI zi_270_16 rfl ?_
    exact ⟨_, rfl, h0 hk⟩

