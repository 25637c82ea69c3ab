/-! CLASS: fewestRoads, cross -/
theorem zmaxK {a b : Nat} (ha : a < 2 ^ 31) (hb : b < 2 ^ 31) : (if nI a < nI b then nI b else nI a) = nI (max a b) := by
  by_cases h : a < b
  · rw [if_pos (nI_lt h hb), Nat.max_eq_right (by omega)]
  · rw [if_neg (nI_nlt (by omega) ha), Nat.max_eq_left (by omega)]
theorem l_kx1 {d c i t B : Nat} {σ : zS} {R : Option Int32 → zS → Prop} {r C : Nat → Nat} (hc : σ 36 1 = nI c) (hcN : c ≤ 10) (hr : ∀ k, k < c → r k < 10000 ∧ σ 37 k = nI (r k)) (hi : i < c) (hC : ∀ k, C k ≤ B) (hB : B ≤ 100000)
    (h : ∀ τ l, Fr [192] σ τ → (∀ k, k < c → τ 192 k = nI (zcj r i C c k)) → zIM c (zcj r i C c) l → zk (d + 1) 86 133 [.ref 177, .ref 36, .int (nI l), .int (nI t), .int (nI i), .int (nI c)] [] τ R) : ∀ (m j l : Nat) (τ : zS), j + m = c → Fr [192] σ τ → (∀ k, k < c → τ 192 k = nI (zcj r i C j k)) → zIM c (zcj r i C j) l → zk (d + 1) 86 52 [.ref 177, .ref 36, .int (nI l), .int (nI t), .int (nI i), .int (nI j)] [] τ R := by
  intro m
  induction m with
  | zero =>
    intro j l τ hj hf hk hl
    have e : j = c := by omega
    subst e
    have hc' : τ 36 1 = nI j := (hf 36 (by decide) 1).trans hc
    refine r_il5 zi_86_52 rfl ?_
    refine r_al1 zi_86_54 rfl ?_
    refine q_getI zi_86_55 rfl cf_36_1 ?_
    rw [hc']
    refine r_ic3 zi_86_58 rfl (fun _ => ?_) (fun c => absurd (nI_le (by omega) (by omega)) c)
    exact h _ _ hf hk hl
  | succ m ih =>
    intro j l τ hj hf hk hl
    have hc' : τ 36 1 = nI c := (hf 36 (by decide) 1).trans hc
    have b1 := (hr i hi).1
    have b2 := (hr j (by omega)).1
    have e1 : τ (36 + 1) i = nI (r i) := (hf 37 (by decide) i).trans (hr i hi).2
    have e2 : τ (36 + 1) j = nI (r j) := (hf 37 (by decide) j).trans (hr j (by omega)).2
    by_cases hx : zX r i j
    · have ei := hk i hi
      have ej := hk j (by omega)
      have bi := zcj_le (r := r) (i := i) hC j i
      have bj := zcj_le (r := r) (i := i) hC j j
      have hst := zIM_st (r := r) (by omega : j < c) hx hl
      have bl : l ≤ B + 20 := by
        rcases hl.2 with ⟨e, _⟩ | ⟨k, _, e⟩
        · omega
        · have := zcj_le (r := r) (i := i) hC j k; omega
      have hval : ∀ k, zcj r i C (j + 1) k = if zX r i j ∧ k = j then max (zcj r i C j j) (zcj r i C j i + 1) else zcj r i C j k := fun k => rfl
      change zIM c (zcj r i C (j + 1)) _ at hst
      generalize hci : zcj r i C j i = ci at *
      generalize hcj : zcj r i C j j = cj at *
      have hm1 := zmaxK (a := cj) (b := ci + 1) (by omega) (by omega)
      have hm2 := zmaxK (a := l) (b := max cj (ci + 1)) (by omega) (by omega)
      refine r_il5 zi_86_52 rfl ?_
      refine r_al1 zi_86_54 rfl ?_
      refine q_getI zi_86_55 rfl cf_36_1 ?_
      rw [hc']
      refine r_ic3 zi_86_58 rfl (fun c => absurd c (nI_ge (by omega) (by omega))) (fun _ => ?_)
      refine r_il5 zi_86_61 rfl ?_
      refine r_al0 zi_86_63 rfl ?_
      refine q_getR zi_86_64 rfl cf_177_18 ?_
      refine r_alen zi_86_67 rfl ca_192 ?_
      refine r_ic3 zi_86_68 rfl (fun c => absurd c (nI_ge (b := 10) (by omega) (by omega))) (fun _ => ?_)
      refine r_al1 zi_86_71 rfl ?_
      refine r_il4 zi_86_72 rfl ?_
      refine q_cIV zi_86_74 rfl rfl rfl rfl rfl rfl rfl cf_36_0.ob (s_trow zTo36 (by omega) hc' hcN (i := i) (by omega) ?_)
      show zk _ _ 77 _ _ _ _
      rw [e1]
      refine r_al1 zi_86_77 rfl ?_
      refine r_il5 zi_86_78 rfl ?_
      refine q_cIV zi_86_80 rfl rfl rfl rfl rfl rfl rfl cf_36_0.ob (s_trow zTo36 (by omega) hc' hcN (i := j) (by omega) ?_)
      show zk _ _ 83 _ _ _ _
      rw [e2]
      refine r_cIS zi_86_83 rfl rfl rfl rfl rfl rfl (s_crosses b1 b2 (fun _ => ?_) (fun z => absurd hx z))
      show zk _ _ 86 _ _ _ _
      refine r_if0 zi_86_86 rfl (fun c => absurd c (by decide)) (fun _ => ?_)
      refine r_al0 zi_86_89 rfl ?_
      refine q_getR zi_86_90 rfl cf_177_18 ?_
      refine r_il5 zi_86_93 rfl ?_
      refine r_al0 zi_86_95 rfl ?_
      refine q_getR zi_86_96 rfl cf_177_18 ?_
      refine r_il5 zi_86_99 rfl ?_
      refine r_ald zi_86_101 rfl j ca_192 (by first | rfl | (simp only [zI_add, zI_mul] <;> rfl)) (by first | omega | decide) ?_
      rw [ej]
      refine r_al0 zi_86_102 rfl ?_
      refine q_getR zi_86_103 rfl cf_177_18 ?_
      refine r_il4 zi_86_106 rfl ?_
      refine r_ald zi_86_108 rfl i ca_192 (by first | rfl | (simp only [zI_add, zI_mul] <;> rfl)) (by first | omega | decide) ?_
      rw [ei]
      refine r_push zi_86_109 rfl ?_
      refine r_b0 zi_86_110 rfl ?_
      rw [show (nI ci + 1 : Int32) = nI (ci + 1) from nI_add _ _]
      refine r_max zi_86_111 rfl ?_
      rw [hm1]
      refine r_ast zi_86_114 rfl j ca_192 (by first | rfl | (simp only [zI_add, zI_mul] <;> rfl)) (by first | omega | decide) ?_
      refine r_il2 zi_86_115 rfl ?_
      refine r_al0 zi_86_116 rfl ?_
      refine q_getR zi_86_117 rfl cf_177_18 ?_
      refine r_il5 zi_86_120 rfl ?_
      refine r_ald zi_86_122 rfl j ca_192 (by first | rfl | (simp only [zI_add, zI_mul] <;> rfl)) (by first | omega | decide) ?_
      rw [zup_eq]
      refine r_max zi_86_123 rfl ?_
      rw [hm2]
      refine r_is2 zi_86_126 rfl ?_
      refine r_in5 zi_86_127 rfl ?_
      rw [show (nI j + 1 : Int32) = nI (j + 1) from nI_add _ _]
      refine r_goto zi_86_130 rfl ?_
      refine ih (j + 1) _ _ (by omega) (hf.put (by decide)) (fun k hkc => ?_) hst
      rw [hval]
      by_cases hkj : k = j
      · rw [if_pos ⟨hx, hkj⟩, hkj, zup_eq]
      · rw [if_neg (fun z => hkj z.2), zup_nj hkj]; exact hk k hkc
    · have hsame : zcj r i C (j + 1) = zcj r i C j := funext fun k => if_neg (fun z => hx z.1)
      refine r_il5 zi_86_52 rfl ?_
      refine r_al1 zi_86_54 rfl ?_
      refine q_getI zi_86_55 rfl cf_36_1 ?_
      rw [hc']
      refine r_ic3 zi_86_58 rfl (fun c => absurd c (nI_ge (by omega) (by omega))) (fun _ => ?_)
      refine r_il5 zi_86_61 rfl ?_
      refine r_al0 zi_86_63 rfl ?_
      refine q_getR zi_86_64 rfl cf_177_18 ?_
      refine r_alen zi_86_67 rfl ca_192 ?_
      refine r_ic3 zi_86_68 rfl (fun c => absurd c (nI_ge (b := 10) (by omega) (by omega))) (fun _ => ?_)
      refine r_al1 zi_86_71 rfl ?_
      refine r_il4 zi_86_72 rfl ?_
      refine q_cIV zi_86_74 rfl rfl rfl rfl rfl rfl rfl cf_36_0.ob (s_trow zTo36 (by omega) hc' hcN (i := i) (by omega) ?_)
      show zk _ _ 77 _ _ _ _
      rw [e1]
      refine r_al1 zi_86_77 rfl ?_
      refine r_il5 zi_86_78 rfl ?_
      refine q_cIV zi_86_80 rfl rfl rfl rfl rfl rfl rfl cf_36_0.ob (s_trow zTo36 (by omega) hc' hcN (i := j) (by omega) ?_)
      show zk _ _ 83 _ _ _ _
      rw [e2]
      refine r_cIS zi_86_83 rfl rfl rfl rfl rfl rfl (s_crosses b1 b2 (fun z => absurd z hx) (fun _ => ?_))
      show zk _ _ 86 _ _ _ _
      refine r_if0 zi_86_86 rfl (fun _ => ?_) (fun c => absurd (by decide) c)
      refine r_in5 zi_86_127 rfl ?_
      rw [show (nI j + 1 : Int32) = nI (j + 1) from nI_add _ _]
      refine r_goto zi_86_130 rfl ?_
      exact ih (j + 1) _ _ (by omega) hf (by rw [hsame]; exact hk) (by rw [hsame]; exact hl)

