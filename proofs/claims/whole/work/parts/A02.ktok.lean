/-! CLASS: strings; the tape's signs and words -/
theorem ztx_l : ztx.length = 145 := by decide +kernel
theorem r_ldcS {d y pc : Nat} {S : List Value} {σ : zS} {Q : Option Int32 → zS → Prop} {a b c n : Nat} {x : Int32} {t : List (Int32 × Nat)} {L : List Value} (hz : zcode y pc = some (38, a, b, c, n, x, t)) (hS : Nat.ble S.length 12 = true) (kk : zk d y n L (.long 0 :: S) σ Q) : zk d y pc L S σ Q := zk_step hz rfl hS rfl kk
theorem r_slen {d y pc : Nat} {S : List Value} {σ : zS} {Q : Option Int32 → zS → Prop} {a b c n : Nat} {x : Int32} {t : List (Int32 × Nat)} {L : List Value} (hz : zcode y pc = some (39, a, b, c, n, x, t)) (hS : Nat.ble S.length 6 = true) (hok : S.all zokv = true) (h4 : 4 ≤ d) (kk : zk d y n L (.int 145 :: S) σ Q) : zk d y pc L (.long 0 :: S) σ Q := by
  obtain ⟨f, r, σ2, h1, h2⟩ := kk
  refine ⟨f + 1, r, σ2, ?_, h2⟩
  have h6 : S.length ≤ 6 := Nat.le_of_ble_eq_true hS
  have e : zstr (39, a, b, c, n, x, t) (.long 0 :: S) = some (.int 145 :: S) := by
    show (if S.length ≤ 6 ∧ S.all zokv = true then some (.int (Int32.ofNat ztx.length) :: S) else none) = _
    rw [if_pos ⟨h6, hok⟩, ztx_l]
    rfl
  rw [zrun, hz]
  dsimp only
  rw [if_neg (by simp only [List.length_cons]; omega), if_neg (by decide), if_neg (by decide), if_pos (by decide), if_pos h4, e]
  exact h1
theorem r_chr {d y pc : Nat} {S : List Value} {σ : zS} {Q : Option Int32 → zS → Prop} {a b c n : Nat} {x : Int32} {t : List (Int32 × Nat)} {L : List Value} {v u : Int32} (hz : zcode y pc = some (40, a, b, c, n, x, t)) (hS : Nat.ble S.length 6 = true) (hok : S.all zokv = true) (h4 : 4 ≤ d) (j : Nat) (hv : v = nI j) (hj : j < 145) (hu : ztx.getD j 0 = u) (kk : zk d y n L (.int u :: S) σ Q) : zk d y pc L (.int v :: .long 0 :: S) σ Q := by
  subst hv
  obtain ⟨f, r, σ2, h1, h2⟩ := kk
  refine ⟨f + 1, r, σ2, ?_, h2⟩
  have h6 : S.length ≤ 6 := Nat.le_of_ble_eq_true hS
  have e : zstr (40, a, b, c, n, x, t) (.int (nI j) :: .long 0 :: S) = some (.int u :: S) := by
    show (if S.length ≤ 6 ∧ S.all zokv = true ∧ zin (nI j) ztx.length = true then some (.int (ztx.getD (nI j).toNatClampNeg 0) :: S) else none) = _
    rw [if_pos ⟨h6, hok, by rw [ztx_l]; exact zin_nI hj (by decide)⟩, nI_clamp (by omega), hu]
  rw [zrun, hz]
  dsimp only
  rw [if_neg (by simp only [List.length_cons]; omega), if_neg (by decide), if_neg (by decide), if_pos (by decide), if_pos h4, e]
  exact h1
theorem s_tkL {d v : Nat} {σ : zS} {Q : Int32 → zS → Prop} (hv : v ≤ 255) (h1 : tkL v = true → Q 1 σ) (h0 : ¬ tkL v = true → Q 0 σ) : zI1 d 107 [.int (nI v)] σ Q := by
  simp only [tkL, decide_eq_true_eq] at h1 h0
  show zk _ _ 0 [.int (nI v)] [] _ _
  refine r_il0 zi_107_0 rfl ?_
  refine r_push zi_107_1 rfl ?_
  refine n_ic2 (i := v) (j := 97) zi_107_3 rfl (by omega) (by omega) (fun c1 => ?_) (fun c1 => ?_)
  · refine r_il0 zi_107_12 rfl ?_
    refine r_push zi_107_13 rfl ?_
    refine n_ic2 (i := v) (j := 65) zi_107_15 rfl (by omega) (by omega) (fun c2 => ?_) (fun c2 => ?_)
    · refine r_push zi_107_28 rfl ?_
      refine r_retZ zi_107_29 rfl (by decide) ?_
      first | exact ⟨_, rfl, h1 (by omega)⟩ | exact ⟨_, rfl, h0 (by omega)⟩
    · refine r_il0 zi_107_18 rfl ?_
      refine r_push zi_107_19 rfl ?_
      refine n_ic4 (i := v) (j := 90) zi_107_21 rfl (by omega) (by omega) (fun c3 => ?_) (fun c3 => ?_)
      · refine r_push zi_107_28 rfl ?_
        refine r_retZ zi_107_29 rfl (by decide) ?_
        first | exact ⟨_, rfl, h1 (by omega)⟩ | exact ⟨_, rfl, h0 (by omega)⟩
      · refine r_push zi_107_24 rfl ?_
        refine r_goto zi_107_25 rfl ?_
        refine r_retZ zi_107_29 rfl (by decide) ?_
        first | exact ⟨_, rfl, h1 (by omega)⟩ | exact ⟨_, rfl, h0 (by omega)⟩
  · refine r_il0 zi_107_6 rfl ?_
    refine r_push zi_107_7 rfl ?_
    refine n_ic5 (i := v) (j := 122) zi_107_9 rfl (by omega) (by omega) (fun c4 => ?_) (fun c4 => ?_)
    · refine r_push zi_107_24 rfl ?_
      refine r_goto zi_107_25 rfl ?_
      refine r_retZ zi_107_29 rfl (by decide) ?_
      first | exact ⟨_, rfl, h1 (by omega)⟩ | exact ⟨_, rfl, h0 (by omega)⟩
    · refine r_il0 zi_107_12 rfl ?_
      refine r_push zi_107_13 rfl ?_
      refine n_ic2 (i := v) (j := 65) zi_107_15 rfl (by omega) (by omega) (fun c5 => ?_) (fun c5 => ?_)
      · refine r_push zi_107_28 rfl ?_
        refine r_retZ zi_107_29 rfl (by decide) ?_
        first | exact ⟨_, rfl, h1 (by omega)⟩ | exact ⟨_, rfl, h0 (by omega)⟩
      · refine r_il0 zi_107_18 rfl ?_
        refine r_push zi_107_19 rfl ?_
        refine n_ic4 (i := v) (j := 90) zi_107_21 rfl (by omega) (by omega) (fun c6 => ?_) (fun c6 => ?_)
        · refine r_push zi_107_28 rfl ?_
          refine r_retZ zi_107_29 rfl (by decide) ?_
          first | exact ⟨_, rfl, h1 (by omega)⟩ | exact ⟨_, rfl, h0 (by omega)⟩
        · refine r_push zi_107_24 rfl ?_
          refine r_goto zi_107_25 rfl ?_
          refine r_retZ zi_107_29 rfl (by decide) ?_
          first | exact ⟨_, rfl, h1 (by omega)⟩ | exact ⟨_, rfl, h0 (by omega)⟩
theorem s_tkD {d v : Nat} {σ : zS} {Q : Int32 → zS → Prop} (hv : v ≤ 255) (h1 : tkD v = true → Q 1 σ) (h0 : ¬ tkD v = true → Q 0 σ) : zI1 d 108 [.int (nI v)] σ Q := by
  simp only [tkD, decide_eq_true_eq] at h1 h0
  show zk _ _ 0 [.int (nI v)] [] _ _
  refine r_il0 zi_108_0 rfl ?_
  refine r_push zi_108_1 rfl ?_
  refine n_ic2 (i := v) (j := 48) zi_108_3 rfl (by omega) (by omega) (fun c1 => ?_) (fun c1 => ?_)
  · refine r_push zi_108_16 rfl ?_
    refine r_retZ zi_108_17 rfl (by decide) ?_
    first | exact ⟨_, rfl, h1 (by omega)⟩ | exact ⟨_, rfl, h0 (by omega)⟩
  · refine r_il0 zi_108_6 rfl ?_
    refine r_push zi_108_7 rfl ?_
    refine n_ic4 (i := v) (j := 57) zi_108_9 rfl (by omega) (by omega) (fun c2 => ?_) (fun c2 => ?_)
    · refine r_push zi_108_16 rfl ?_
      refine r_retZ zi_108_17 rfl (by decide) ?_
      first | exact ⟨_, rfl, h1 (by omega)⟩ | exact ⟨_, rfl, h0 (by omega)⟩
    · refine r_push zi_108_12 rfl ?_
      refine r_goto zi_108_13 rfl ?_
      refine r_retZ zi_108_17 rfl (by decide) ?_
      first | exact ⟨_, rfl, h1 (by omega)⟩ | exact ⟨_, rfl, h0 (by omega)⟩
theorem s_tkS {d v : Nat} {σ : zS} {Q : Int32 → zS → Prop} (hv : v ≤ 255) (h1 : tkS v = true → Q 1 σ) (h0 : ¬ tkS v = true → Q 0 σ) : zI1 d 109 [.int (nI v)] σ Q := by
  simp only [tkS, decide_eq_true_eq] at h1 h0
  show zk _ _ 0 [.int (nI v)] [] _ _
  refine r_il0 zi_109_0 rfl ?_
  refine r_push zi_109_1 rfl ?_
  refine n_ic0 (i := v) (j := 59) zi_109_3 rfl (by omega) (by omega) (fun c1 => ?_) (fun c1 => ?_)
  · refine r_push zi_109_42 rfl ?_
    refine r_goto zi_109_43 rfl ?_
    refine r_retZ zi_109_47 rfl (by decide) ?_
    first | exact ⟨_, rfl, h1 (by omega)⟩ | exact ⟨_, rfl, h0 (by omega)⟩
  · refine r_il0 zi_109_6 rfl ?_
    refine r_push zi_109_7 rfl ?_
    refine n_ic2 (i := v) (j := 60) zi_109_9 rfl (by omega) (by omega) (fun c2 => ?_) (fun c2 => ?_)
    · refine r_il0 zi_109_18 rfl ?_
      refine r_push zi_109_19 rfl ?_
      refine n_ic2 (i := v) (j := 40) zi_109_21 rfl (by omega) (by omega) (fun c3 => ?_) (fun c3 => ?_)
      · refine r_il0 zi_109_30 rfl ?_
        refine r_push zi_109_31 rfl ?_
        refine n_ic0 (i := v) (j := 45) zi_109_33 rfl (by omega) (by omega) (fun c4 => ?_) (fun c4 => ?_)
        · refine r_push zi_109_42 rfl ?_
          refine r_goto zi_109_43 rfl ?_
          refine r_retZ zi_109_47 rfl (by decide) ?_
          first | exact ⟨_, rfl, h1 (by omega)⟩ | exact ⟨_, rfl, h0 (by omega)⟩
        · refine r_il0 zi_109_36 rfl ?_
          refine r_push zi_109_37 rfl ?_
          refine n_ic1 (i := v) (j := 47) zi_109_39 rfl (by omega) (by omega) (fun c5 => ?_) (fun c5 => ?_)
          · refine r_push zi_109_46 rfl ?_
            refine r_retZ zi_109_47 rfl (by decide) ?_
            first | exact ⟨_, rfl, h1 (by omega)⟩ | exact ⟨_, rfl, h0 (by omega)⟩
          · refine r_push zi_109_42 rfl ?_
            refine r_goto zi_109_43 rfl ?_
            refine r_retZ zi_109_47 rfl (by decide) ?_
            first | exact ⟨_, rfl, h1 (by omega)⟩ | exact ⟨_, rfl, h0 (by omega)⟩
      · refine r_il0 zi_109_24 rfl ?_
        refine r_push zi_109_25 rfl ?_
        refine n_ic5 (i := v) (j := 43) zi_109_27 rfl (by omega) (by omega) (fun c6 => ?_) (fun c6 => ?_)
        · refine r_push zi_109_42 rfl ?_
          refine r_goto zi_109_43 rfl ?_
          refine r_retZ zi_109_47 rfl (by decide) ?_
          first | exact ⟨_, rfl, h1 (by omega)⟩ | exact ⟨_, rfl, h0 (by omega)⟩
        · refine r_il0 zi_109_30 rfl ?_
          refine r_push zi_109_31 rfl ?_
          refine n_ic0 (i := v) (j := 45) zi_109_33 rfl (by omega) (by omega) (fun c7 => ?_) (fun c7 => ?_)
          · refine r_push zi_109_42 rfl ?_
            refine r_goto zi_109_43 rfl ?_
            refine r_retZ zi_109_47 rfl (by decide) ?_
            first | exact ⟨_, rfl, h1 (by omega)⟩ | exact ⟨_, rfl, h0 (by omega)⟩
          · refine r_il0 zi_109_36 rfl ?_
            refine r_push zi_109_37 rfl ?_
            refine n_ic1 (i := v) (j := 47) zi_109_39 rfl (by omega) (by omega) (fun c8 => ?_) (fun c8 => ?_)
            · refine r_push zi_109_46 rfl ?_
              refine r_retZ zi_109_47 rfl (by decide) ?_
              first | exact ⟨_, rfl, h1 (by omega)⟩ | exact ⟨_, rfl, h0 (by omega)⟩
            · refine r_push zi_109_42 rfl ?_
              refine r_goto zi_109_43 rfl ?_
              refine r_retZ zi_109_47 rfl (by decide) ?_
              first | exact ⟨_, rfl, h1 (by omega)⟩ | exact ⟨_, rfl, h0 (by omega)⟩
    · refine r_il0 zi_109_12 rfl ?_
      refine r_push zi_109_13 rfl ?_
      refine n_ic5 (i := v) (j := 62) zi_109_15 rfl (by omega) (by omega) (fun c9 => ?_) (fun c9 => ?_)
      · refine r_push zi_109_42 rfl ?_
        refine r_goto zi_109_43 rfl ?_
        refine r_retZ zi_109_47 rfl (by decide) ?_
        first | exact ⟨_, rfl, h1 (by omega)⟩ | exact ⟨_, rfl, h0 (by omega)⟩
      · refine r_il0 zi_109_18 rfl ?_
        refine r_push zi_109_19 rfl ?_
        refine n_ic2 (i := v) (j := 40) zi_109_21 rfl (by omega) (by omega) (fun c10 => ?_) (fun c10 => ?_)
        · refine r_il0 zi_109_30 rfl ?_
          refine r_push zi_109_31 rfl ?_
          refine n_ic0 (i := v) (j := 45) zi_109_33 rfl (by omega) (by omega) (fun c11 => ?_) (fun c11 => ?_)
          · refine r_push zi_109_42 rfl ?_
            refine r_goto zi_109_43 rfl ?_
            refine r_retZ zi_109_47 rfl (by decide) ?_
            first | exact ⟨_, rfl, h1 (by omega)⟩ | exact ⟨_, rfl, h0 (by omega)⟩
          · refine r_il0 zi_109_36 rfl ?_
            refine r_push zi_109_37 rfl ?_
            refine n_ic1 (i := v) (j := 47) zi_109_39 rfl (by omega) (by omega) (fun c12 => ?_) (fun c12 => ?_)
            · refine r_push zi_109_46 rfl ?_
              refine r_retZ zi_109_47 rfl (by decide) ?_
              first | exact ⟨_, rfl, h1 (by omega)⟩ | exact ⟨_, rfl, h0 (by omega)⟩
            · refine r_push zi_109_42 rfl ?_
              refine r_goto zi_109_43 rfl ?_
              refine r_retZ zi_109_47 rfl (by decide) ?_
              first | exact ⟨_, rfl, h1 (by omega)⟩ | exact ⟨_, rfl, h0 (by omega)⟩
        · refine r_il0 zi_109_24 rfl ?_
          refine r_push zi_109_25 rfl ?_
          refine n_ic5 (i := v) (j := 43) zi_109_27 rfl (by omega) (by omega) (fun c13 => ?_) (fun c13 => ?_)
          · refine r_push zi_109_42 rfl ?_
            refine r_goto zi_109_43 rfl ?_
            refine r_retZ zi_109_47 rfl (by decide) ?_
            first | exact ⟨_, rfl, h1 (by omega)⟩ | exact ⟨_, rfl, h0 (by omega)⟩
          · refine r_il0 zi_109_30 rfl ?_
            refine r_push zi_109_31 rfl ?_
            refine n_ic0 (i := v) (j := 45) zi_109_33 rfl (by omega) (by omega) (fun c14 => ?_) (fun c14 => ?_)
            · refine r_push zi_109_42 rfl ?_
              refine r_goto zi_109_43 rfl ?_
              refine r_retZ zi_109_47 rfl (by decide) ?_
              first | exact ⟨_, rfl, h1 (by omega)⟩ | exact ⟨_, rfl, h0 (by omega)⟩
            · refine r_il0 zi_109_36 rfl ?_
              refine r_push zi_109_37 rfl ?_
              refine n_ic1 (i := v) (j := 47) zi_109_39 rfl (by omega) (by omega) (fun c15 => ?_) (fun c15 => ?_)
              · refine r_push zi_109_46 rfl ?_
                refine r_retZ zi_109_47 rfl (by decide) ?_
                first | exact ⟨_, rfl, h1 (by omega)⟩ | exact ⟨_, rfl, h0 (by omega)⟩
              · refine r_push zi_109_42 rfl ?_
                refine r_goto zi_109_43 rfl ?_
                refine r_retZ zi_109_47 rfl (by decide) ?_
                first | exact ⟨_, rfl, h1 (by omega)⟩ | exact ⟨_, rfl, h0 (by omega)⟩
theorem s_tadd {d c : Nat} {σ : zS} {Q : zS → Prop} {k s : Int32} (hc : σ 170 2 = nI c) (hc4 : c ≤ 400) (h : Q (up (up (up σ 171 c k) 172 c s) 170 2 (nI (c + 1)))) : zV1 d 102 [.ref 170, .int k, .int s] σ Q := by
  show zk _ _ 0 [.ref 170, .int k, .int s] [] _ _
  refine r_al0 zi_102_0 rfl ?_
  refine q_getIe zi_102_1 rfl cf_170_2 (v := nI c) (by first | exact hc | ((repeat (first | rw [zup_ne (by first | decide | omega)] | rw [zup_nj (by first | decide | omega)] | rw [fil_ne (by first | decide | omega)])) <;> exact hc) | (simp [up_rd, fil_rd]; exact hc)) ?_
  refine n_if2 (i := c) zi_102_4 rfl (by omega) (fun c => absurd c (by omega)) (fun _ => ?_)
  refine r_al0 zi_102_7 rfl ?_
  refine q_getIe zi_102_8 rfl cf_170_2 (v := nI c) (by first | exact hc | ((repeat (first | rw [zup_ne (by first | decide | omega)] | rw [zup_nj (by first | decide | omega)] | rw [fil_ne (by first | decide | omega)])) <;> exact hc) | (simp [up_rd, fil_rd]; exact hc)) ?_
  refine r_push zi_102_11 rfl ?_
  refine n_ic4 (i := c) (j := 400) zi_102_14 rfl (by omega) (by omega) (fun c => absurd c (by omega)) (fun _ => ?_)
  refine r_al0 zi_102_17 rfl ?_
  refine q_getR zi_102_18 rfl cf_170_0 ?_
  refine r_al0 zi_102_21 rfl ?_
  refine q_getIe zi_102_22 rfl cf_170_2 (v := nI c) (by first | exact hc | ((repeat (first | rw [zup_ne (by first | decide | omega)] | rw [zup_nj (by first | decide | omega)] | rw [fil_ne (by first | decide | omega)])) <;> exact hc) | (simp [up_rd, fil_rd]; exact hc)) ?_
  refine r_il1 zi_102_25 rfl ?_
  refine r_ast zi_102_26 rfl c ca_171 (by first | rfl | (simp only [zI_add, zI_mul] <;> rfl)) (by first | omega | decide) ?_
  refine r_al0 zi_102_27 rfl ?_
  refine q_getR zi_102_28 rfl cf_170_1 ?_
  refine r_al0 zi_102_31 rfl ?_
  refine q_getIe zi_102_32 rfl cf_170_2 (v := nI c) (by first | exact hc | ((repeat (first | rw [zup_ne (by first | decide | omega)] | rw [zup_nj (by first | decide | omega)] | rw [fil_ne (by first | decide | omega)])) <;> exact hc) | (simp [up_rd, fil_rd]; exact hc)) ?_
  refine r_il2 zi_102_35 rfl ?_
  refine r_ast zi_102_36 rfl c ca_172 (by first | rfl | (simp only [zI_add, zI_mul] <;> rfl)) (by first | omega | decide) ?_
  refine r_al0 zi_102_37 rfl ?_
  refine r_dupR zi_102_38 rfl ?_
  refine q_getIe zi_102_39 rfl cf_170_2 (v := nI c) (by first | exact hc | ((repeat (first | rw [zup_ne (by first | decide | omega)] | rw [zup_nj (by first | decide | omega)] | rw [fil_ne (by first | decide | omega)])) <;> exact hc) | (simp [up_rd, fil_rd]; exact hc)) ?_
  refine r_push zi_102_42 rfl ?_
  refine r_b0 zi_102_43 rfl ?_
  rw [show (nI c + 1 : Int32) = nI (c + 1) from nI_add _ _]
  refine q_put zi_102_44 rfl cf_170_2 rfl ?_
  refine r_ret zi_102_47 rfl ?_
  exact ⟨rfl, h⟩
/-- a keyword's number -/
theorem l_tkey {d s e : Nat} {t : Nat → Nat} {σ : zS} {Q : Int32 → zS → Prop} (hT : ∀ i, i < 400 → σ 194 i = nI (t i) ∧ t i ≤ 255) (hse : s ≤ e) (he : e ≤ 400) (hq : Q (nI (tkw t s e)) σ) : ∀ (m i w a : Nat) (g : Bool) (u7 : Value), i + m = 145 → w ≤ i → a ≤ s + i → tkf t e s (tkC.drop i) w a g = tkw t s e → zk (d + 4) 105 13 [.ref 194, .int (nI s), .int (nI e), .int (nI (10000 + w)), .int (nI a), .int (if g = true then 1 else 0), .int (nI i), u7] [] σ (fun r t => ∃ v, r = some v ∧ Q v t) := by
  intro m
  induction m with
  | zero =>
    intro i w a g u7 hi hw ha hf
    have e0 : tkC.drop i = [] := List.drop_eq_nil_of_le (by rw [tkC_l]; omega)
    rw [e0] at hf
    have hq2 : Q 30000 σ := by rw [← hf] at hq; exact hq
    have hi2 : i = 145 := by omega
    subst hi2
    refine r_il6 zi_105_13 rfl ?_
    refine r_ldcS zi_105_15 rfl ?_
    refine r_slen zi_105_17 rfl rfl (by omega) ?_
    refine r_ic3 zi_105_20 rfl (fun _ => ?_) (fun c => absurd (by decide) c)
    refine r_push zi_105_112 rfl ?_
    refine r_retI zi_105_115 rfl ?_
    exact ⟨_, rfl, hq2⟩
  | succ m ih =>
    intro i w a g u7 hi hw ha hf
    have hil : i < tkC.length := by rw [tkC_l]; omega
    have e0 : tkC.drop i = tkC[i] :: tkC.drop (i + 1) := List.drop_eq_getElem_cons hil
    have hch : ztx.getD i 0 = nI tkC[i] := by
      rw [tkC_x, List.getD_eq_getElem?_getD, List.getElem?_map, List.getElem?_eq_getElem hil]
      rfl
    have hc8 : tkC[i] < 256 := (show ∀ x, x ∈ tkC → x < 256 by decide +kernel) _ (List.getElem_mem hil)
    rw [e0] at hf
    generalize tkC[i] = c at *
    have ih := fun w a g u => ih (i + 1) w a g u (by omega)
    generalize tkC.drop (i + 1) = r at *
    replace hf : (if c = 32 then (if g = true ∧ a = e then 10000 + w else tkf t e s r (w + 1) s true) else tkf t e s r w (a + 1) (g && decide (a < e ∧ t a = c))) = tkw t s e := hf
    by_cases c32 : c = 32
    · rw [if_pos c32] at hf
      subst c32
      by_cases gg : g = true
      · subst gg
        rw [if_pos rfl]
        by_cases ae : a = e
        · rw [if_pos ⟨rfl, ae⟩] at hf
          rw [← hf] at hq
          subst ae
          refine r_il6 zi_105_13 rfl ?_
          refine r_ldcS zi_105_15 rfl ?_
          refine r_slen zi_105_17 rfl rfl (by omega) ?_
          refine n_ic3 (i := i) (j := 145) zi_105_20 rfl (by omega) (by omega) (fun c => absurd c (by omega)) (fun _ => ?_)
          refine r_ldcS zi_105_23 rfl ?_
          refine r_il6 zi_105_25 rfl ?_
          refine r_chr zi_105_27 rfl rfl (by omega) i rfl (by omega) (u := nI 32) (by first | exact hch | ((repeat (first | rw [zup_ne (by first | decide | omega)] | rw [zup_nj (by first | decide | omega)] | rw [fil_ne (by first | decide | omega)])) <;> exact hch) | (simp [up_rd, fil_rd]; exact hch)) ?_
          refine r_is7 zi_105_30 rfl ?_
          refine r_il7 zi_105_32 rfl ?_
          refine r_push zi_105_34 rfl ?_
          refine n_ic1 (i := 32) (j := 32) zi_105_36 rfl (by omega) (by omega) (fun c => absurd c (by omega)) (fun _ => ?_)
          refine r_il5 zi_105_39 rfl ?_
          refine r_if0 zi_105_41 rfl (fun c => absurd c (by decide)) (fun _ => ?_)
          refine r_il4 zi_105_44 rfl ?_
          refine r_il2 zi_105_46 rfl ?_
          refine n_ic1 (i := a) (j := a) zi_105_47 rfl (by omega) (by omega) (fun c => absurd c (by omega)) (fun _ => ?_)
          refine r_il3 zi_105_50 rfl ?_
          refine r_retI zi_105_51 rfl ?_
          exact ⟨_, rfl, hq⟩
        · rw [if_neg (fun z => ae z.2)] at hf
          refine r_il6 zi_105_13 rfl ?_
          refine r_ldcS zi_105_15 rfl ?_
          refine r_slen zi_105_17 rfl rfl (by omega) ?_
          refine n_ic3 (i := i) (j := 145) zi_105_20 rfl (by omega) (by omega) (fun c => absurd c (by omega)) (fun _ => ?_)
          refine r_ldcS zi_105_23 rfl ?_
          refine r_il6 zi_105_25 rfl ?_
          refine r_chr zi_105_27 rfl rfl (by omega) i rfl (by omega) (u := nI 32) (by first | exact hch | ((repeat (first | rw [zup_ne (by first | decide | omega)] | rw [zup_nj (by first | decide | omega)] | rw [fil_ne (by first | decide | omega)])) <;> exact hch) | (simp [up_rd, fil_rd]; exact hch)) ?_
          refine r_is7 zi_105_30 rfl ?_
          refine r_il7 zi_105_32 rfl ?_
          refine r_push zi_105_34 rfl ?_
          refine n_ic1 (i := 32) (j := 32) zi_105_36 rfl (by omega) (by omega) (fun c => absurd c (by omega)) (fun _ => ?_)
          refine r_il5 zi_105_39 rfl ?_
          refine r_if0 zi_105_41 rfl (fun c => absurd c (by decide)) (fun _ => ?_)
          refine r_il4 zi_105_44 rfl ?_
          refine r_il2 zi_105_46 rfl ?_
          refine n_ic1 (i := a) (j := e) zi_105_47 rfl (by omega) (by omega) (fun _ => ?_) (fun c => absurd c (by omega))
          refine r_in3 zi_105_52 rfl ?_
          rw [show (nI (10000+w) + 1 : Int32) = nI ((10000+w) + 1) from nI_add _ _]
          refine r_il1 zi_105_55 rfl ?_
          refine r_is4 zi_105_56 rfl ?_
          refine r_push zi_105_58 rfl ?_
          refine r_is5 zi_105_59 rfl ?_
          refine r_goto zi_105_61 rfl ?_
          refine r_in6 zi_105_106 rfl ?_
          rw [show (nI i + 1 : Int32) = nI (i + 1) from nI_add _ _]
          refine r_goto zi_105_109 rfl ?_
          exact ih (w + 1) s true _ (by omega) (by omega) hf
      · have g0 : g = false := by cases g; rfl; exact absurd rfl gg
        subst g0
        rw [if_neg (fun z => absurd z.1 (by decide))] at hf
        rw [if_neg (by decide)]
        refine r_il6 zi_105_13 rfl ?_
        refine r_ldcS zi_105_15 rfl ?_
        refine r_slen zi_105_17 rfl rfl (by omega) ?_
        refine n_ic3 (i := i) (j := 145) zi_105_20 rfl (by omega) (by omega) (fun c => absurd c (by omega)) (fun _ => ?_)
        refine r_ldcS zi_105_23 rfl ?_
        refine r_il6 zi_105_25 rfl ?_
        refine r_chr zi_105_27 rfl rfl (by omega) i rfl (by omega) (u := nI 32) (by first | exact hch | ((repeat (first | rw [zup_ne (by first | decide | omega)] | rw [zup_nj (by first | decide | omega)] | rw [fil_ne (by first | decide | omega)])) <;> exact hch) | (simp [up_rd, fil_rd]; exact hch)) ?_
        refine r_is7 zi_105_30 rfl ?_
        refine r_il7 zi_105_32 rfl ?_
        refine r_push zi_105_34 rfl ?_
        refine n_ic1 (i := 32) (j := 32) zi_105_36 rfl (by omega) (by omega) (fun c => absurd c (by omega)) (fun _ => ?_)
        refine r_il5 zi_105_39 rfl ?_
        refine r_if0 zi_105_41 rfl (fun _ => ?_) (fun c => absurd (by decide) c)
        refine r_in3 zi_105_52 rfl ?_
        rw [show (nI (10000+w) + 1 : Int32) = nI ((10000+w) + 1) from nI_add _ _]
        refine r_il1 zi_105_55 rfl ?_
        refine r_is4 zi_105_56 rfl ?_
        refine r_push zi_105_58 rfl ?_
        refine r_is5 zi_105_59 rfl ?_
        refine r_goto zi_105_61 rfl ?_
        refine r_in6 zi_105_106 rfl ?_
        rw [show (nI i + 1 : Int32) = nI (i + 1) from nI_add _ _]
        refine r_goto zi_105_109 rfl ?_
        exact ih (w + 1) s true _ (by omega) (by omega) hf
    · rw [if_neg c32] at hf
      have ih := fun g u => ih w (a + 1) g u (by omega) (by omega)
      by_cases gg : g = true
      · subst gg
        rw [if_pos rfl]
        rw [Bool.true_and] at hf
        by_cases ae : a < e
        · obtain ⟨hta, hta2⟩ := hT a (by omega)
          by_cases q : t a = c
          · rw [decide_eq_true (⟨ae, q⟩ : a < e ∧ t a = c)] at hf
            refine r_il6 zi_105_13 rfl ?_
            refine r_ldcS zi_105_15 rfl ?_
            refine r_slen zi_105_17 rfl rfl (by omega) ?_
            refine n_ic3 (i := i) (j := 145) zi_105_20 rfl (by omega) (by omega) (fun c => absurd c (by omega)) (fun _ => ?_)
            refine r_ldcS zi_105_23 rfl ?_
            refine r_il6 zi_105_25 rfl ?_
            refine r_chr zi_105_27 rfl rfl (by omega) i rfl (by omega) (u := nI c) (by first | exact hch | ((repeat (first | rw [zup_ne (by first | decide | omega)] | rw [zup_nj (by first | decide | omega)] | rw [fil_ne (by first | decide | omega)])) <;> exact hch) | (simp [up_rd, fil_rd]; exact hch)) ?_
            refine r_is7 zi_105_30 rfl ?_
            refine r_il7 zi_105_32 rfl ?_
            refine r_push zi_105_34 rfl ?_
            refine n_ic1 (i := c) (j := 32) zi_105_36 rfl (by omega) (by omega) (fun _ => ?_) (fun c => absurd c (by omega))
            refine r_il5 zi_105_64 rfl ?_
            refine r_if0 zi_105_66 rfl (fun c => absurd c (by decide)) (fun _ => ?_)
            refine r_il4 zi_105_69 rfl ?_
            refine n_if2 (i := a) zi_105_71 rfl (by omega) (fun c => absurd c (by omega)) (fun _ => ?_)
            refine r_il4 zi_105_74 rfl ?_
            refine r_il2 zi_105_76 rfl ?_
            refine n_ic3 (i := a) (j := e) zi_105_77 rfl (by omega) (by omega) (fun c => absurd c (by omega)) (fun _ => ?_)
            refine r_il4 zi_105_80 rfl ?_
            refine r_al0 zi_105_82 rfl ?_
            refine r_alen zi_105_83 rfl ca_194 ?_
            refine n_ic3 (i := a) (j := 400) zi_105_84 rfl (by omega) (by omega) (fun c => absurd c (by omega)) (fun _ => ?_)
            refine r_al0 zi_105_87 rfl ?_
            refine r_il4 zi_105_88 rfl ?_
            refine r_alde zi_105_90 rfl a ca_194 (by first | rfl | (simp only [zI_add, zI_mul] <;> rfl)) (by first | omega | decide) (u := nI (t a)) (by first | exact hta | ((repeat (first | rw [zup_ne (by first | decide | omega)] | rw [zup_nj (by first | decide | omega)] | rw [fil_ne (by first | decide | omega)])) <;> exact hta) | (simp [up_rd, fil_rd]; exact hta)) ?_
            refine r_il7 zi_105_91 rfl ?_
            refine n_ic1 (i := t a) (j := c) zi_105_93 rfl (by omega) (by omega) (fun c => absurd c (by omega)) (fun _ => ?_)
            refine r_push zi_105_96 rfl ?_
            refine r_goto zi_105_97 rfl ?_
            refine r_is5 zi_105_101 rfl ?_
            refine r_in4 zi_105_103 rfl ?_
            rw [show (nI a + 1 : Int32) = nI (a + 1) from nI_add _ _]
            refine r_in6 zi_105_106 rfl ?_
            rw [show (nI i + 1 : Int32) = nI (i + 1) from nI_add _ _]
            refine r_goto zi_105_109 rfl ?_
            exact ih true _ hf
          · rw [decide_eq_false (fun z : a < e ∧ t a = c => q z.2)] at hf
            refine r_il6 zi_105_13 rfl ?_
            refine r_ldcS zi_105_15 rfl ?_
            refine r_slen zi_105_17 rfl rfl (by omega) ?_
            refine n_ic3 (i := i) (j := 145) zi_105_20 rfl (by omega) (by omega) (fun c => absurd c (by omega)) (fun _ => ?_)
            refine r_ldcS zi_105_23 rfl ?_
            refine r_il6 zi_105_25 rfl ?_
            refine r_chr zi_105_27 rfl rfl (by omega) i rfl (by omega) (u := nI c) (by first | exact hch | ((repeat (first | rw [zup_ne (by first | decide | omega)] | rw [zup_nj (by first | decide | omega)] | rw [fil_ne (by first | decide | omega)])) <;> exact hch) | (simp [up_rd, fil_rd]; exact hch)) ?_
            refine r_is7 zi_105_30 rfl ?_
            refine r_il7 zi_105_32 rfl ?_
            refine r_push zi_105_34 rfl ?_
            refine n_ic1 (i := c) (j := 32) zi_105_36 rfl (by omega) (by omega) (fun _ => ?_) (fun c => absurd c (by omega))
            refine r_il5 zi_105_64 rfl ?_
            refine r_if0 zi_105_66 rfl (fun c => absurd c (by decide)) (fun _ => ?_)
            refine r_il4 zi_105_69 rfl ?_
            refine n_if2 (i := a) zi_105_71 rfl (by omega) (fun c => absurd c (by omega)) (fun _ => ?_)
            refine r_il4 zi_105_74 rfl ?_
            refine r_il2 zi_105_76 rfl ?_
            refine n_ic3 (i := a) (j := e) zi_105_77 rfl (by omega) (by omega) (fun c => absurd c (by omega)) (fun _ => ?_)
            refine r_il4 zi_105_80 rfl ?_
            refine r_al0 zi_105_82 rfl ?_
            refine r_alen zi_105_83 rfl ca_194 ?_
            refine n_ic3 (i := a) (j := 400) zi_105_84 rfl (by omega) (by omega) (fun c => absurd c (by omega)) (fun _ => ?_)
            refine r_al0 zi_105_87 rfl ?_
            refine r_il4 zi_105_88 rfl ?_
            refine r_alde zi_105_90 rfl a ca_194 (by first | rfl | (simp only [zI_add, zI_mul] <;> rfl)) (by first | omega | decide) (u := nI (t a)) (by first | exact hta | ((repeat (first | rw [zup_ne (by first | decide | omega)] | rw [zup_nj (by first | decide | omega)] | rw [fil_ne (by first | decide | omega)])) <;> exact hta) | (simp [up_rd, fil_rd]; exact hta)) ?_
            refine r_il7 zi_105_91 rfl ?_
            refine n_ic1 (i := t a) (j := c) zi_105_93 rfl (by omega) (by omega) (fun _ => ?_) (fun c => absurd c (by omega))
            refine r_push zi_105_100 rfl ?_
            refine r_is5 zi_105_101 rfl ?_
            refine r_in4 zi_105_103 rfl ?_
            rw [show (nI a + 1 : Int32) = nI (a + 1) from nI_add _ _]
            refine r_in6 zi_105_106 rfl ?_
            rw [show (nI i + 1 : Int32) = nI (i + 1) from nI_add _ _]
            refine r_goto zi_105_109 rfl ?_
            exact ih false _ hf
        · rw [decide_eq_false (fun z : a < e ∧ t a = c => ae z.1)] at hf
          refine r_il6 zi_105_13 rfl ?_
          refine r_ldcS zi_105_15 rfl ?_
          refine r_slen zi_105_17 rfl rfl (by omega) ?_
          refine n_ic3 (i := i) (j := 145) zi_105_20 rfl (by omega) (by omega) (fun c => absurd c (by omega)) (fun _ => ?_)
          refine r_ldcS zi_105_23 rfl ?_
          refine r_il6 zi_105_25 rfl ?_
          refine r_chr zi_105_27 rfl rfl (by omega) i rfl (by omega) (u := nI c) (by first | exact hch | ((repeat (first | rw [zup_ne (by first | decide | omega)] | rw [zup_nj (by first | decide | omega)] | rw [fil_ne (by first | decide | omega)])) <;> exact hch) | (simp [up_rd, fil_rd]; exact hch)) ?_
          refine r_is7 zi_105_30 rfl ?_
          refine r_il7 zi_105_32 rfl ?_
          refine r_push zi_105_34 rfl ?_
          refine n_ic1 (i := c) (j := 32) zi_105_36 rfl (by omega) (by omega) (fun _ => ?_) (fun c => absurd c (by omega))
          refine r_il5 zi_105_64 rfl ?_
          refine r_if0 zi_105_66 rfl (fun c => absurd c (by decide)) (fun _ => ?_)
          refine r_il4 zi_105_69 rfl ?_
          refine n_if2 (i := a) zi_105_71 rfl (by omega) (fun c => absurd c (by omega)) (fun _ => ?_)
          refine r_il4 zi_105_74 rfl ?_
          refine r_il2 zi_105_76 rfl ?_
          refine n_ic3 (i := a) (j := e) zi_105_77 rfl (by omega) (by omega) (fun _ => ?_) (fun c => absurd c (by omega))
          refine r_push zi_105_100 rfl ?_
          refine r_is5 zi_105_101 rfl ?_
          refine r_in4 zi_105_103 rfl ?_
          rw [show (nI a + 1 : Int32) = nI (a + 1) from nI_add _ _]
          refine r_in6 zi_105_106 rfl ?_
          rw [show (nI i + 1 : Int32) = nI (i + 1) from nI_add _ _]
          refine r_goto zi_105_109 rfl ?_
          exact ih false _ hf
      · have g0 : g = false := by cases g; rfl; exact absurd rfl gg
        subst g0
        rw [Bool.false_and] at hf
        rw [if_neg (by decide)]
        refine r_il6 zi_105_13 rfl ?_
        refine r_ldcS zi_105_15 rfl ?_
        refine r_slen zi_105_17 rfl rfl (by omega) ?_
        refine n_ic3 (i := i) (j := 145) zi_105_20 rfl (by omega) (by omega) (fun c => absurd c (by omega)) (fun _ => ?_)
        refine r_ldcS zi_105_23 rfl ?_
        refine r_il6 zi_105_25 rfl ?_
        refine r_chr zi_105_27 rfl rfl (by omega) i rfl (by omega) (u := nI c) (by first | exact hch | ((repeat (first | rw [zup_ne (by first | decide | omega)] | rw [zup_nj (by first | decide | omega)] | rw [fil_ne (by first | decide | omega)])) <;> exact hch) | (simp [up_rd, fil_rd]; exact hch)) ?_
        refine r_is7 zi_105_30 rfl ?_
        refine r_il7 zi_105_32 rfl ?_
        refine r_push zi_105_34 rfl ?_
        refine n_ic1 (i := c) (j := 32) zi_105_36 rfl (by omega) (by omega) (fun _ => ?_) (fun c => absurd c (by omega))
        refine r_il5 zi_105_64 rfl ?_
        refine r_if0 zi_105_66 rfl (fun _ => ?_) (fun c => absurd (by decide) c)
        refine r_push zi_105_100 rfl ?_
        refine r_is5 zi_105_101 rfl ?_
        refine r_in4 zi_105_103 rfl ?_
        rw [show (nI a + 1 : Int32) = nI (a + 1) from nI_add _ _]
        refine r_in6 zi_105_106 rfl ?_
        rw [show (nI i + 1 : Int32) = nI (i + 1) from nI_add _ _]
        refine r_goto zi_105_109 rfl ?_
        exact ih false _ hf
theorem s_tkey {d s e : Nat} {t : Nat → Nat} {σ : zS} {Q : Int32 → zS → Prop} (hT : ∀ i, i < 400 → σ 194 i = nI (t i) ∧ t i ≤ 255) (hse : s ≤ e) (he : e ≤ 400) (hq : Q (nI (tkw t s e)) σ) : zI1 (d + 4) 105 [.ref 194, .int (nI s), .int (nI e)] σ Q := by
  show zk _ _ 0 [.ref 194, .int (nI s), .int (nI e), zun, zun, zun, zun, zun] [] _ _
  refine r_push zi_105_0 rfl ?_
  refine r_is3 zi_105_3 rfl ?_
  refine r_il1 zi_105_4 rfl ?_
  refine r_is4 zi_105_5 rfl ?_
  refine r_push zi_105_7 rfl ?_
  refine r_is5 zi_105_8 rfl ?_
  refine r_push zi_105_10 rfl ?_
  refine r_is6 zi_105_11 rfl ?_
  exact l_tkey hT hse he hq 145 0 0 s true _ (by omega) (by omega) (by omega) rfl
theorem l_tnum {d s e : Nat} {t : Nat → Nat} {σ : zS} {Q : Int32 → zS → Prop} (hT : ∀ i, i < 400 → σ 194 i = nI (t i) ∧ t i ≤ 255) (hD : ∀ i, s ≤ i → i < e → tkD (t i) = true) (hse : s ≤ e) (he : e ≤ 400) (h4 : e - s ≤ 4) (hq : Q (nI (tkn t s (e - s))) σ) : ∀ (m i : Nat), i + m = e - s → zk d 106 20 [.ref 194, .int (nI s), .int (nI e), .int (nI (tkn t s i)), .int (nI (s + i))] [] σ (fun r t => ∃ v, r = some v ∧ Q v t) := by
  intro m
  induction m with
  | zero =>
    intro i hi
    have e0 : i = e - s := by omega
    subst e0
    refine r_il4 zi_106_20 rfl ?_
    refine r_il2 zi_106_22 rfl ?_
    refine n_ic3 (i := (s+(e-s))) (j := e) zi_106_23 rfl (by omega) (by omega) (fun _ => ?_) (fun c => absurd c (by omega))
    refine r_il3 zi_106_52 rfl ?_
    refine r_retI zi_106_53 rfl ?_
    exact ⟨_, rfl, hq⟩
  | succ m ih =>
    intro i hi
    have ih := ih (i + 1) (by omega)
    obtain ⟨ht, ht2⟩ := hT (s + i) (by omega)
    have h9 := hD (s + i) (by omega) (by omega)
    have hb := tkn_b (t := t) (s := s) i (fun j hj => hD (s + j) (by omega) (by omega))
    have hb2 : tkn t s i < 10000 := Nat.lt_of_lt_of_le hb (show 10 ^ i ≤ 10 ^ 4 from Nat.pow_le_pow_right (by decide) (by omega))
    have e1 : tkn t s (i + 1) = 10 * tkn t s i + (t (s + i) - 48) := rfl
    simp only [tkD, decide_eq_true_eq] at h9
    generalize tkn t s i = v at *
    have e2 : tkn t s (i + 1) = v * 10 + t (s + i) - 48 := by omega
    rw [e2] at ih
    refine r_il4 zi_106_20 rfl ?_
    refine r_il2 zi_106_22 rfl ?_
    refine n_ic3 (i := (s+i)) (j := e) zi_106_23 rfl (by omega) (by omega) (fun c => absurd c (by omega)) (fun _ => ?_)
    refine r_il4 zi_106_26 rfl ?_
    refine r_al0 zi_106_28 rfl ?_
    refine r_alen zi_106_29 rfl ca_194 ?_
    refine n_ic3 (i := (s+i)) (j := 400) zi_106_30 rfl (by omega) (by omega) (fun c => absurd c (by omega)) (fun _ => ?_)
    refine r_il3 zi_106_33 rfl ?_
    refine r_push zi_106_34 rfl ?_
    refine r_b2 zi_106_36 rfl ?_
    rw [show (nI v * 10 : Int32) = nI (v * 10) from pk_mul _ _]
    refine r_al0 zi_106_37 rfl ?_
    refine r_il4 zi_106_38 rfl ?_
    refine r_alde zi_106_40 rfl (s+i) ca_194 (by first | rfl | (simp only [zI_add, zI_mul] <;> rfl)) (by first | omega | decide) (u := nI (t (s+i))) (by first | exact ht | ((repeat (first | rw [zup_ne (by first | decide | omega)] | rw [zup_nj (by first | decide | omega)] | rw [fil_ne (by first | decide | omega)])) <;> exact ht) | (simp [up_rd, fil_rd]; exact ht)) ?_
    refine r_b0 zi_106_41 rfl ?_
    rw [show (nI (v * 10) + nI (t (s+i)) : Int32) = nI ((v * 10) + t (s+i)) from nI_add _ _]
    refine r_push zi_106_42 rfl ?_
    refine r_b1 zi_106_44 rfl ?_
    rw [show (nI ((v * 10) + t (s+i)) - 48 : Int32) = nI (((v * 10) + t (s+i)) - 48) from pk_sub (a := ((v * 10) + t (s+i))) (b := 48) (by omega)]
    refine r_is3 zi_106_45 rfl ?_
    refine r_in4 zi_106_46 rfl ?_
    rw [show (nI (s+i) + 1 : Int32) = nI ((s+i) + 1) from nI_add _ _]
    refine r_goto zi_106_49 rfl ?_
    exact ih
theorem s_tnum {d s e : Nat} {t : Nat → Nat} {σ : zS} {Q : Int32 → zS → Prop} (hT : ∀ i, i < 400 → σ 194 i = nI (t i) ∧ t i ≤ 255) (hD : ∀ i, s ≤ i → i < e → tkD (t i) = true) (hse : s ≤ e) (he : e ≤ 400) (hq : Q (nI (if 4 < e - s then 30000 else tkn t s (e - s))) σ) : zI1 d 106 [.ref 194, .int (nI s), .int (nI e)] σ Q := by
  show zk _ _ 0 [.ref 194, .int (nI s), .int (nI e), zun, zun] [] _ _
  by_cases h4 : 4 < e - s
  · rw [if_pos h4] at hq
    refine r_il2 zi_106_0 rfl ?_
    refine r_il1 zi_106_1 rfl ?_
    refine r_b1 zi_106_2 rfl ?_
    rw [show (nI e - nI s : Int32) = nI (e - s) from pk_sub (a := e) (b := s) (by omega)]
    refine r_push zi_106_3 rfl ?_
    refine n_ic5 (i := (e - s)) (j := 4) zi_106_4 rfl (by omega) (by omega) (fun c => absurd c (by omega)) (fun _ => ?_)
    refine r_push zi_106_7 rfl ?_
    refine r_retI zi_106_10 rfl ?_
    exact ⟨_, rfl, hq⟩
  · rw [if_neg h4] at hq
    have e0 : (if nI s < 0 then 0 else nI s) = nI s := by rw [if_neg (by have := nI_pos' (n := s) (by omega); grind)]
    have e1 : (if (0 : Int32) < nI s then nI s else 0) = nI s := by
      by_cases z : (0 : Int32) < nI s
      · rw [if_pos z]
      · rw [if_neg z]; have := nI_pos' (n := s) (by omega); grind
    refine r_il2 zi_106_0 rfl ?_
    refine r_il1 zi_106_1 rfl ?_
    refine r_b1 zi_106_2 rfl ?_
    rw [show (nI e - nI s : Int32) = nI (e - s) from pk_sub (a := e) (b := s) (by omega)]
    refine r_push zi_106_3 rfl ?_
    refine n_ic5 (i := (e - s)) (j := 4) zi_106_4 rfl (by omega) (by omega) (fun _ => ?_) (fun c => absurd c (by omega))
    refine r_push zi_106_11 rfl ?_
    refine r_is3 zi_106_12 rfl ?_
    refine r_push zi_106_13 rfl ?_
    refine r_il1 zi_106_14 rfl ?_
    refine r_max zi_106_15 rfl ?_
    refine r_is4 zi_106_18 rfl ?_
    rw [e1]; exact l_tnum hT hD hse he (by omega) hq (e - s) 0 (by omega)

