/-! THE LAW's codes run, both sides -/
def zTx (T N : Nat) : Prop := zFR T 7 0 (T + 1) ∧ zFR T 7 1 (T + 2) ∧ zFI T 7 2 ∧ zFI T 7 3 ∧ zIs (T + 1) (.inl 64) ∧ zIs (T + 2) (.inl N)
theorem zTx15 : zTx 15 400 := ⟨cf_15_0, cf_15_1, cf_15_2, cf_15_3, ca_16, ca_17⟩
theorem zTx18 : zTx 18 0 := ⟨cf_18_0, cf_18_1, cf_18_2, cf_18_3, ca_19, ca_20⟩
theorem zTx21 : zTx 21 0 := ⟨cf_21_0, cf_21_1, cf_21_2, cf_21_3, ca_22, ca_23⟩
theorem zTx24 : zTx 24 0 := ⟨cf_24_0, cf_24_1, cf_24_2, cf_24_3, ca_25, ca_26⟩
theorem zTx52 : zTx 52 400 := ⟨cf_52_0, cf_52_1, cf_52_2, cf_52_3, ca_53, ca_54⟩
theorem zTx55 : zTx 55 0 := ⟨cf_55_0, cf_55_1, cf_55_2, cf_55_3, ca_56, ca_57⟩
theorem zTx58 : zTx 58 0 := ⟨cf_58_0, cf_58_1, cf_58_2, cf_58_3, ca_59, ca_60⟩
theorem zTx61 : zTx 61 0 := ⟨cf_61_0, cf_61_1, cf_61_2, cf_61_3, ca_62, ca_63⟩
theorem zTx173 : zTx 173 400 := ⟨cf_173_0, cf_173_1, cf_173_2, cf_173_3, ca_174, ca_175⟩
theorem s_cell {d T N l j : Nat} {σ : zS} {Q : Int32 → zS → Prop} (hT : zTx T N) (hl : l < 16) (hj : j < 4) (hq : Q (σ (T + 1) (l * 4 + j)) σ) : zI1 d 97 [.ref T, .int (nI l), .int (nI j)] σ Q := by
  show zk _ _ 0 [.ref T, .int (nI l), .int (nI j)] [] _ _
  refine r_il1 zi_97_0 rfl ?_
  refine n_if2 (i := l) zi_97_1 rfl (by omega) (fun c => absurd c (by omega)) (fun _ => ?_)
  refine r_il1 zi_97_4 rfl ?_
  refine r_push zi_97_5 rfl ?_
  refine n_ic3 (i := l) (j := 16) zi_97_7 rfl (by omega) (by omega) (fun c => absurd c (by omega)) (fun _ => ?_)
  refine r_il2 zi_97_10 rfl ?_
  refine n_if2 (i := j) zi_97_11 rfl (by omega) (fun c => absurd c (by omega)) (fun _ => ?_)
  refine r_il2 zi_97_14 rfl ?_
  refine r_push zi_97_15 rfl ?_
  refine n_ic3 (i := j) (j := 4) zi_97_16 rfl (by omega) (by omega) (fun c => absurd c (by omega)) (fun _ => ?_)
  refine r_al0 zi_97_19 rfl ?_
  refine q_getR zi_97_20 rfl hT.1 ?_
  refine r_il1 zi_97_23 rfl ?_
  refine r_push zi_97_24 rfl ?_
  refine r_b2 zi_97_25 rfl ?_
  rw [show (nI l * 4 : Int32) = nI (l * 4) from pk_mul _ _]
  refine r_il2 zi_97_26 rfl ?_
  refine r_b0 zi_97_27 rfl ?_
  rw [show (nI (l * 4) + nI j : Int32) = nI ((l * 4) + j) from nI_add _ _]
  refine r_ald zi_97_28 rfl ((l * 4) + j) hT.2.2.2.2.1 (by first | rfl | (simp only [zI_add, zI_mul] <;> rfl)) (by first | omega | decide) ?_
  refine r_goto zi_97_29 rfl ?_
  refine r_retI zi_97_33 rfl ?_
  exact ⟨_, rfl, hq⟩
theorem s_codeAt {d T N i : Nat} {σ : zS} {Q : Int32 → zS → Prop} (hT : zTx T N) (hi : i < N) (hN : N ≤ 400) (hq : Q (σ (T + 2) i) σ) : zI1 d 99 [.ref T, .int (nI i)] σ Q := by
  show zk _ _ 0 [.ref T, .int (nI i)] [] _ _
  refine r_il1 zi_99_0 rfl ?_
  refine n_if2 (i := i) zi_99_1 rfl (by omega) (fun c => absurd c (by omega)) (fun _ => ?_)
  refine r_il1 zi_99_4 rfl ?_
  refine r_al0 zi_99_5 rfl ?_
  refine q_getR zi_99_6 rfl hT.2.1 ?_
  refine r_alen zi_99_9 rfl hT.2.2.2.2.2 ?_
  refine n_ic3 (i := i) (j := N) zi_99_10 rfl (by omega) (by omega) (fun c => absurd c (by omega)) (fun _ => ?_)
  refine r_al0 zi_99_13 rfl ?_
  refine q_getR zi_99_14 rfl hT.2.1 ?_
  refine r_il1 zi_99_17 rfl ?_
  refine r_ald zi_99_18 rfl i hT.2.2.2.2.2 (by first | rfl | (simp only [zI_add, zI_mul] <;> rfl)) (by first | omega | decide) ?_
  refine r_goto zi_99_19 rfl ?_
  refine r_retI zi_99_23 rfl ?_
  exact ⟨_, rfl, hq⟩
def zLa (L k : Nat) : Prop := zFR L 2 0 15 ∧ zFR L 2 1 k ∧ zFR L 2 2 (L + 1) ∧ zFR L 2 3 (L + 2) ∧ zIs (L + 1) (.inl 10) ∧ zIs (L + 2) (.inl 32) ∧ 17 < L
theorem zLa88 : zLa 88 2 := ⟨cf_88_0, cf_88_1, cf_88_2, cf_88_3, ca_89, ca_90, by decide⟩
theorem zLa92 : zLa 92 75 := ⟨cf_92_0, cf_92_1, cf_92_2, cf_92_3, ca_93, ca_94, by decide⟩
theorem zKs_bin {o a : Nat} {ks kz : List Nat} (h : zKs o a ks = some kz) (h0 : o ≠ 0) (h1 : o ≠ 1) (h9 : o ≠ 9) : ∃ k2 k1 r k, ks = k2 :: k1 :: r ∧ zkb2 o k1 k2 = some k ∧ kz = k :: r := by
  unfold zKs at h
  rw [if_neg h0, if_neg h1, if_neg h9] at h
  match ks, h with
  | k2 :: k1 :: r, h =>
    dsimp only at h
    cases hz : zkb2 o k1 k2 with
    | none => rw [hz] at h; cases h
    | some k => rw [hz] at h; cases h; exact ⟨k2, k1, r, k, rfl, hz, rfl⟩
  | [_], h => cases h
  | [], h => cases h
theorem zkb2_o {o k1 k2 k : Nat} (h : zkb2 o k1 k2 = some k) : (o = 2 ∨ o = 3 ∨ o = 4 ∨ o = 5 ∨ o = 6 ∨ o = 7 ∨ o = 8 ∨ o = 10 ∨ o = 11) ∧ ∀ a, zen o a = zen o 0 := by
  have ho : o = 2 ∨ o = 3 ∨ o = 4 ∨ o = 5 ∨ o = 6 ∨ o = 7 ∨ o = 8 ∨ o = 10 ∨ o = 11 := by
    unfold zkb2 at h
    split at h
    · omega
    · split at h
      · omega
      · split at h
        · omega
        · split at h
          · omega
          · cases h
  refine ⟨ho, fun a => ?_⟩
  rcases ho with e | e | e | e | e | e | e | e | e <;> subst e <;> rfl
theorem zen_b {o : Nat} (h : o = 2 ∨ o = 3 ∨ o = 4 ∨ o = 5 ∨ o = 6 ∨ o = 7 ∨ o = 8 ∨ o = 10 ∨ o = 11) : 10014 ≤ zen o 0 ∧ zen o 0 ≤ 20062 ∧ zen o 0 ≠ 10016 := by
  rcases h with e | e | e | e | e | e | e | e | e <;> subst e <;> decide
theorem zKc_s {O A : Nat → Nat} {n i : Nat} {ks kf : List Nat} (h : zKc O A (n + 1) i ks = some kf) : ∃ kz, zKs (O i) (A i) ks = some kz ∧ zKc O A n (i + 1) kz = some kf := by
  have h' : (match zKs (O i) (A i) ks with
    | none => none
    | some ks => zKc O A n (i + 1) ks) = some kf := h
  cases hz : zKs (O i) (A i) ks with
  | none => rw [hz] at h'; cases h'
  | some kz => rw [hz] at h'; exact ⟨kz, rfl, h'⟩
theorem zes_bin {F : Nat → Int32} {o a : Nat} {x y : Int32} {s : List Int32} (h : o = 2 ∨ o = 3 ∨ o = 4 ∨ o = 5 ∨ o = 6 ∨ o = 7 ∨ o = 8 ∨ o = 10 ∨ o = 11) : zes F o a (y :: x :: s) = ztwo o x y :: s := by
  unfold zes
  rw [if_neg (by omega), if_neg (by omega), if_neg (by omega)]
theorem l_kval {d L k to kf : Nat} {σ : zS} {Q : Int32 → zS → Prop} {O A : Nat → Nat} {F : Nat → Int32} {u1 : Value} (hL : zLa L k) (hto : to ≤ 400) (hF : ∀ j, j < 10 → σ (L + 1) j = F j) (res : Int32) (hq : ∀ τ, Fr [L + 2] σ τ → Q res τ) : ∀ (n i : Nat) (ks : List Nat) (st : List Int32) (τ : zS) (u5 u6 : Value), i + n = to → (∀ j, i ≤ j → j < to → σ 17 j = nI (zen (O j) (A j))) → zKc O A n i ks = some [kf] → zTy ks st → ks.length ≤ 32 → Fr [L + 2] σ τ → zSt (τ (L + 2)) st → zev O A F n i st = [res] → zk (d + 1) 27 5 [.ref L, u1, .int (nI to), .int (nI st.length), .int (nI i), u5, u6] [] τ (fun r t => ∃ v, r = some v ∧ Q v t) := by
  have hLn := hL.2.2.2.2.2.2
  intro n
  induction n with
  | zero =>
    intro i ks st τ u5 u6 hi hcd hk hty hl hFr hS he
    have ei : i = to := by omega
    subst ei
    have est : st = [res] := he
    subst est
    have h0 : τ (L + 2) 0 = res := hS.1
    refine r_il4 zi_27_5 rfl ?_
    refine r_il2 zi_27_7 rfl ?_
    refine n_ic3 (i := i) (j := i) zi_27_8 rfl (by omega) (by omega) (fun _ => ?_) (fun c => absurd c (by omega))
    refine r_al0 zi_27_162 rfl ?_
    refine q_getR zi_27_163 rfl hL.2.2.2.1 ?_
    refine r_push zi_27_166 rfl ?_
    refine r_alde zi_27_167 rfl 0 hL.2.2.2.2.2.1 (by first | rfl | (simp only [zI_add, zI_mul] <;> rfl)) (by first | omega | decide) (u := res) (by first | exact h0 | ((repeat (first | rw [zup_ne (by first | decide | omega)] | rw [zup_nj (by first | decide | omega)] | rw [fil_ne (by first | decide | omega)])) <;> exact h0) | (simp [up_rd, fil_rd]; exact h0)) ?_
    refine r_retI zi_27_168 rfl ?_
    exact ⟨_, rfl, hq τ hFr⟩
  | succ n ih =>
    intro i ks st τ u5 u6 hi hcd hk hty hl hFr hS he
    obtain ⟨kz, hk1, hk2⟩ := zKc_s hk
    have hty2 := zKs_ty (F := F) hk1 hty
    have hl2 := zKs_len hk1 hl
    have hlen := zTy_len _ _ hty
    have he2 : zev O A F n (i + 1) (zes F (O i) (A i) st) = [res] := he
    have hc : τ (15 + 2) i = nI (zen (O i) (A i)) := (hFr 17 (by simp; omega) i).trans (hcd i (Nat.le_refl _) (by omega))
    have ih := fun kz st' τ' u5 u6 a b c e f g => ih (i + 1) kz st' τ' u5 u6 (by omega) (fun j h1 h2 => hcd j (by omega) h2) a b c e f g
    by_cases h0 : O i = 0
    · have hks : A i ≤ 9999 ∧ ks.length < 32 := by
        unfold zKs at hk1
        rw [if_pos h0] at hk1
        by_cases z : A i ≤ 9999 ∧ ks.length < 32
        · exact z
        · rw [if_neg z] at hk1; cases hk1
      have hz : zen (O i) (A i) = A i := by rw [h0]; rfl
      have hes : zes F (O i) (A i) st = nI (A i) :: st := by unfold zes; rw [if_pos h0]
      rw [hes] at hty2 he2
      rw [hz] at hc
      generalize A i = a at *
      refine r_il4 zi_27_5 rfl ?_
      refine r_il2 zi_27_7 rfl ?_
      refine n_ic3 (i := i) (j := to) zi_27_8 rfl (by omega) (by omega) (fun c => absurd c (by omega)) (fun _ => ?_)
      refine r_al0 zi_27_11 rfl ?_
      refine q_getR zi_27_12 rfl hL.1 ?_
      refine r_il4 zi_27_15 rfl ?_
      refine q_cIV zi_27_17 rfl rfl rfl rfl rfl rfl rfl zTx15.1.ob (s_codeAt zTx15 (by omega) (by omega) ?_)
      show zk _ _ 20 _ _ _ _
      rw [hc]
      refine r_is5 zi_27_20 rfl ?_
      refine r_il5 zi_27_22 rfl ?_
      refine r_push zi_27_24 rfl ?_
      refine r_b1 zi_27_27 rfl ?_
      refine r_is6 zi_27_28 rfl ?_
      refine r_il5 zi_27_30 rfl ?_
      refine r_push zi_27_32 rfl ?_
      refine n_ic2 (i := a) (j := 10000) zi_27_35 rfl (by omega) (by omega) (fun _ => ?_) (fun c => absurd c (by omega))
      refine r_il3 zi_27_50 rfl ?_
      refine r_push zi_27_51 rfl ?_
      refine n_ic3 (i := st.length) (j := 32) zi_27_53 rfl (by omega) (by omega) (fun c => absurd c (by omega)) (fun _ => ?_)
      refine r_al0 zi_27_56 rfl ?_
      refine q_getR zi_27_57 rfl hL.2.2.2.1 ?_
      refine r_il3 zi_27_60 rfl ?_
      refine r_il5 zi_27_61 rfl ?_
      refine r_push zi_27_63 rfl ?_
      refine n_ic3 (i := a) (j := 10000) zi_27_66 rfl (by omega) (by omega) (fun c => absurd c (by omega)) (fun _ => ?_)
      refine r_il5 zi_27_69 rfl ?_
      refine r_goto zi_27_71 rfl ?_
      refine r_ast zi_27_81 rfl st.length hL.2.2.2.2.2.1 (by first | rfl | (simp only [zI_add, zI_mul] <;> rfl)) (by first | omega | decide) ?_
      refine r_in3 zi_27_82 rfl ?_
      rw [show (nI st.length + 1 : Int32) = nI (st.length + 1) from nI_add _ _]
      refine r_goto zi_27_85 rfl ?_
      refine r_in4 zi_27_156 rfl ?_
      rw [show (nI i + 1 : Int32) = nI (i + 1) from nI_add _ _]
      refine r_goto zi_27_159 rfl ?_
      exact ih kz (nI a :: st) _ _ _ hk2 hty2 hl2 (hFr.put (by simp)) (zSt_push hS) he2
    · by_cases h1 : O i = 1
      · have hks : A i < 10 ∧ ks.length < 32 := by
          unfold zKs at hk1
          rw [if_neg h0, if_pos h1] at hk1
          by_cases z : A i < 10 ∧ ks.length < 32
          · exact z
          · rw [if_neg z] at hk1; cases hk1
        have hz : zen (O i) (A i) = 10003 + A i := by rw [h1]; rfl
        have hes : zes F (O i) (A i) st = F (A i) :: st := by unfold zes; rw [if_neg h0, if_pos h1]
        have hfa : τ (L + 1) (A i) = F (A i) := (hFr (L + 1) (by simp) (A i)).trans (hF _ hks.1)
        rw [hes] at hty2 he2
        rw [hz] at hc
        generalize A i = a at *
        refine r_il4 zi_27_5 rfl ?_
        refine r_il2 zi_27_7 rfl ?_
        refine n_ic3 (i := i) (j := to) zi_27_8 rfl (by omega) (by omega) (fun c => absurd c (by omega)) (fun _ => ?_)
        refine r_al0 zi_27_11 rfl ?_
        refine q_getR zi_27_12 rfl hL.1 ?_
        refine r_il4 zi_27_15 rfl ?_
        refine q_cIV zi_27_17 rfl rfl rfl rfl rfl rfl rfl zTx15.1.ob (s_codeAt zTx15 (by omega) (by omega) ?_)
        show zk _ _ 20 _ _ _ _
        rw [hc]
        refine r_is5 zi_27_20 rfl ?_
        refine r_il5 zi_27_22 rfl ?_
        refine r_push zi_27_24 rfl ?_
        refine r_b1 zi_27_27 rfl ?_
        rw [show (nI (10003 + a) - 10003 : Int32) = nI ((10003 + a) - 10003) from pk_sub (a := (10003 + a)) (b := 10003) (by omega)]
        rw [show 10003 + a - 10003 = a by omega]
        refine r_is6 zi_27_28 rfl ?_
        refine r_il5 zi_27_30 rfl ?_
        refine r_push zi_27_32 rfl ?_
        refine n_ic2 (i := (10003 + a)) (j := 10000) zi_27_35 rfl (by omega) (by omega) (fun c => absurd c (by omega)) (fun _ => ?_)
        refine r_il6 zi_27_38 rfl ?_
        refine n_if2 (i := a) zi_27_40 rfl (by omega) (fun c => absurd c (by omega)) (fun _ => ?_)
        refine r_il6 zi_27_43 rfl ?_
        refine r_push zi_27_45 rfl ?_
        refine n_ic3 (i := a) (j := 10) zi_27_47 rfl (by omega) (by omega) (fun c => absurd c (by omega)) (fun _ => ?_)
        refine r_il3 zi_27_50 rfl ?_
        refine r_push zi_27_51 rfl ?_
        refine n_ic3 (i := st.length) (j := 32) zi_27_53 rfl (by omega) (by omega) (fun c => absurd c (by omega)) (fun _ => ?_)
        refine r_al0 zi_27_56 rfl ?_
        refine q_getR zi_27_57 rfl hL.2.2.2.1 ?_
        refine r_il3 zi_27_60 rfl ?_
        refine r_il5 zi_27_61 rfl ?_
        refine r_push zi_27_63 rfl ?_
        refine n_ic3 (i := (10003 + a)) (j := 10000) zi_27_66 rfl (by omega) (by omega) (fun _ => ?_) (fun c => absurd c (by omega))
        refine r_al0 zi_27_74 rfl ?_
        refine q_getR zi_27_75 rfl hL.2.2.1 ?_
        refine r_il6 zi_27_78 rfl ?_
        refine r_alde zi_27_80 rfl a hL.2.2.2.2.1 (by first | rfl | (simp only [zI_add, zI_mul] <;> rfl)) (by first | omega | decide) (u := F a) (by first | exact hfa | ((repeat (first | rw [zup_ne (by first | decide | omega)] | rw [zup_nj (by first | decide | omega)] | rw [fil_ne (by first | decide | omega)])) <;> exact hfa) | (simp [up_rd, fil_rd]; exact hfa)) ?_
        refine r_ast zi_27_81 rfl st.length hL.2.2.2.2.2.1 (by first | rfl | (simp only [zI_add, zI_mul] <;> rfl)) (by first | omega | decide) ?_
        refine r_in3 zi_27_82 rfl ?_
        rw [show (nI st.length + 1 : Int32) = nI (st.length + 1) from nI_add _ _]
        refine r_goto zi_27_85 rfl ?_
        refine r_in4 zi_27_156 rfl ?_
        rw [show (nI i + 1 : Int32) = nI (i + 1) from nI_add _ _]
        refine r_goto zi_27_159 rfl ?_
        exact ih kz (F a :: st) _ _ _ hk2 hty2 hl2 (hFr.put (by simp)) (zSt_push hS) he2
      · by_cases h9 : O i = 9
        · have hz : zen (O i) (A i) = 10016 := by rw [h9]; rfl
          rw [hz] at hc
          match st, ks, hty, hS, hlen, hty2, he2, hk1 with
          | x :: s, _ :: r, hty, hS, hlen, hty2, he2, hk1 =>
            have hes : zes F (O i) (A i) (x :: s) = (1 - x) :: s := by unfold zes; rw [if_neg h0, if_neg h1, if_pos h9]
            rw [hes] at hty2 he2
            have hsl : s.length < 32 := by
              have : r.length + 1 = s.length + 1 := hlen
              change r.length + 1 ≤ 32 at hl
              omega
            have hx := hS.1
            show zk (d + 1) _ 5 [_, _, _, .int (nI (s.length + 1)), _, _, _] _ _ _
            refine r_il4 zi_27_5 rfl ?_
            refine r_il2 zi_27_7 rfl ?_
            refine n_ic3 (i := i) (j := to) zi_27_8 rfl (by omega) (by omega) (fun c => absurd c (by omega)) (fun _ => ?_)
            refine r_al0 zi_27_11 rfl ?_
            refine q_getR zi_27_12 rfl hL.1 ?_
            refine r_il4 zi_27_15 rfl ?_
            refine q_cIV zi_27_17 rfl rfl rfl rfl rfl rfl rfl zTx15.1.ob (s_codeAt zTx15 (by omega) (by omega) ?_)
            show zk _ _ 20 _ _ _ _
            rw [hc]
            show zk _ _ 20 _ [.int 10016] _ _
            refine r_is5 zi_27_20 rfl ?_
            refine r_il5 zi_27_22 rfl ?_
            refine r_push zi_27_24 rfl ?_
            refine r_b1 zi_27_27 rfl ?_
            refine r_is6 zi_27_28 rfl ?_
            refine r_il5 zi_27_30 rfl ?_
            refine r_push zi_27_32 rfl ?_
            refine r_ic2 zi_27_35 rfl (fun c => absurd c (by decide)) (fun _ => ?_)
            refine r_il6 zi_27_38 rfl ?_
            refine r_if2 zi_27_40 rfl (fun c => absurd c (by decide)) (fun _ => ?_)
            refine r_il6 zi_27_43 rfl ?_
            refine r_push zi_27_45 rfl ?_
            refine r_ic3 zi_27_47 rfl (fun _ => ?_) (fun c => absurd (by decide) c)
            refine r_il5 zi_27_88 rfl ?_
            refine r_push zi_27_90 rfl ?_
            refine r_ic1 zi_27_93 rfl (fun c => absurd (by decide) c) (fun _ => ?_)
            refine r_il3 zi_27_96 rfl ?_
            refine n_if5 (i := (s.length+1)) zi_27_97 rfl (by omega) (fun c => absurd c (by omega)) (fun _ => ?_)
            refine r_al0 zi_27_100 rfl ?_
            refine q_getR zi_27_101 rfl hL.2.2.2.1 ?_
            refine r_il3 zi_27_104 rfl ?_
            refine r_push zi_27_105 rfl ?_
            refine r_b1 zi_27_106 rfl ?_
            rw [show (nI (s.length+1) - 1 : Int32) = nI ((s.length+1) - 1) from pk_sub (a := (s.length+1)) (b := 1) (by omega)]
            refine r_push zi_27_107 rfl ?_
            refine r_al0 zi_27_108 rfl ?_
            refine q_getR zi_27_109 rfl hL.2.2.2.1 ?_
            refine r_il3 zi_27_112 rfl ?_
            refine r_push zi_27_113 rfl ?_
            refine r_b1 zi_27_114 rfl ?_
            rw [show (nI (s.length+1) - 1 : Int32) = nI ((s.length+1) - 1) from pk_sub (a := (s.length+1)) (b := 1) (by omega)]
            refine r_alde zi_27_115 rfl s.length hL.2.2.2.2.2.1 rfl hsl (u := x) (by first | exact hx | ((repeat (first | rw [zup_ne (by first | decide | omega)] | rw [zup_nj (by first | decide | omega)] | rw [fil_ne (by first | decide | omega)])) <;> exact hx) | (simp [up_rd, fil_rd]; exact hx)) ?_
            refine r_b1 zi_27_116 rfl ?_
            refine r_ast zi_27_117 rfl s.length hL.2.2.2.2.2.1 rfl hsl ?_
            refine r_goto zi_27_118 rfl ?_
            refine r_in4 zi_27_156 rfl ?_
            rw [show (nI i + 1 : Int32) = nI (i + 1) from nI_add _ _]
            refine r_goto zi_27_159 rfl ?_
            exact ih kz ((1 - x) :: s) _ _ _ hk2 hty2 hl2 (hFr.put (by simp)) ⟨zup_eq, zSt_c s (fun p hp => zup_nj (by omega)) hS.2⟩ he2
          | [], [], _, _, _, _, _, hk1 => exfalso; unfold zKs at hk1; rw [if_neg h0, if_neg h1, if_pos h9] at hk1; cases hk1
        · obtain ⟨k2, k1, r, kk, e1, e2, e3⟩ := zKs_bin hk1 h0 h1 h9
          obtain ⟨ho, hzen⟩ := zkb2_o e2
          have hzb := zen_b ho
          subst e1
          obtain ⟨y, x, s, est, hy, hx, hr⟩ := zTy_2 hty
          subst est
          rw [hzen] at hc
          rw [zes_bin ho] at hty2 he2
          have hsl : s.length + 1 < 32 := by
            have : r.length + 1 + 1 = s.length + 1 + 1 := hlen
            change r.length + 1 + 1 ≤ 32 at hl
            omega
          have hxv : τ (L + 2) s.length = x := hS.2.1
          have hyv : τ (L + 2) (s.length + 1) = y := hS.1
          have hjn := fun (d : Nat) (σ : zS) (Q : Int32 → zS → Prop) => s_joined (d := d) (σ := σ) (Q := Q) e2 hx hy
          generalize O i = o at *
          generalize hzo : zen o 0 = t at *
          show zk (d + 1) _ 5 [_, _, _, .int (nI (s.length + 1 + 1)), _, _, _] _ _ _
          refine r_il4 zi_27_5 rfl ?_
          refine r_il2 zi_27_7 rfl ?_
          refine n_ic3 (i := i) (j := to) zi_27_8 rfl (by omega) (by omega) (fun c => absurd c (by omega)) (fun _ => ?_)
          refine r_al0 zi_27_11 rfl ?_
          refine q_getR zi_27_12 rfl hL.1 ?_
          refine r_il4 zi_27_15 rfl ?_
          refine q_cIV zi_27_17 rfl rfl rfl rfl rfl rfl rfl zTx15.1.ob (s_codeAt zTx15 (by omega) (by omega) ?_)
          show zk _ _ 20 _ _ _ _
          rw [hc]
          refine r_is5 zi_27_20 rfl ?_
          refine r_il5 zi_27_22 rfl ?_
          refine r_push zi_27_24 rfl ?_
          refine r_b1 zi_27_27 rfl ?_
          rw [show (nI t - 10003 : Int32) = nI (t - 10003) from pk_sub (a := t) (b := 10003) (by omega)]
          refine r_is6 zi_27_28 rfl ?_
          refine r_il5 zi_27_30 rfl ?_
          refine r_push zi_27_32 rfl ?_
          refine n_ic2 (i := t) (j := 10000) zi_27_35 rfl (by omega) (by omega) (fun c => absurd c (by omega)) (fun _ => ?_)
          refine r_il6 zi_27_38 rfl ?_
          refine n_if2 (i := (t - 10003)) zi_27_40 rfl (by omega) (fun c => absurd c (by omega)) (fun _ => ?_)
          refine r_il6 zi_27_43 rfl ?_
          refine r_push zi_27_45 rfl ?_
          refine n_ic3 (i := (t - 10003)) (j := 10) zi_27_47 rfl (by omega) (by omega) (fun _ => ?_) (fun c => absurd c (by omega))
          refine r_il5 zi_27_88 rfl ?_
          refine r_push zi_27_90 rfl ?_
          refine n_ic1 (i := t) (j := 10016) zi_27_93 rfl (by omega) (by omega) (fun _ => ?_) (fun c => absurd c (by omega))
          refine r_il3 zi_27_121 rfl ?_
          refine r_push zi_27_122 rfl ?_
          refine n_ic5 (i := (s.length+1+1)) (j := 1) zi_27_123 rfl (by omega) (by omega) (fun c => absurd c (by omega)) (fun _ => ?_)
          refine r_in3 zi_27_126 rfl ?_
          rw [show (nI (s.length+1+1) + -1 : Int32) = nI (s.length + 1) from pk_m1 _]
          refine r_al0 zi_27_129 rfl ?_
          refine q_getR zi_27_130 rfl hL.2.2.2.1 ?_
          refine r_il3 zi_27_133 rfl ?_
          refine r_push zi_27_134 rfl ?_
          refine r_b1 zi_27_135 rfl ?_
          refine r_il5 zi_27_136 rfl ?_
          refine r_al0 zi_27_138 rfl ?_
          refine q_getR zi_27_139 rfl hL.2.2.2.1 ?_
          refine r_il3 zi_27_142 rfl ?_
          refine r_push zi_27_143 rfl ?_
          refine r_b1 zi_27_144 rfl ?_
          rw [show (nI (s.length + 1) - 1 : Int32) = nI ((s.length + 1) - 1) from pk_sub (a := (s.length + 1)) (b := 1) (by omega)]
          refine r_alde zi_27_145 rfl s.length hL.2.2.2.2.2.1 rfl (by omega) (u := x) (by first | exact hxv | ((repeat (first | rw [zup_ne (by first | decide | omega)] | rw [zup_nj (by first | decide | omega)] | rw [fil_ne (by first | decide | omega)])) <;> exact hxv) | (simp [up_rd, fil_rd]; exact hxv)) ?_
          refine r_al0 zi_27_146 rfl ?_
          refine q_getR zi_27_147 rfl hL.2.2.2.1 ?_
          refine r_il3 zi_27_150 rfl ?_
          refine r_alde zi_27_151 rfl (s.length + 1) hL.2.2.2.2.2.1 rfl hsl (u := y) (by first | exact hyv | ((repeat (first | rw [zup_ne (by first | decide | omega)] | rw [zup_nj (by first | decide | omega)] | rw [fil_ne (by first | decide | omega)])) <;> exact hyv) | (simp [up_rd, fil_rd]; exact hyv)) ?_
          refine r_cIS zi_27_152 rfl rfl rfl rfl rfl rfl (hjn _ _ _ ?_)
          show zk _ _ 155 _ _ _ _
          refine r_ast zi_27_155 rfl s.length hL.2.2.2.2.2.1 rfl (by omega) ?_
          refine r_in4 zi_27_156 rfl ?_
          rw [show (nI i + 1 : Int32) = nI (i + 1) from nI_add _ _]
          refine r_goto zi_27_159 rfl ?_
          rw [e3] at hk2 hty2 hl2
          exact ih _ (ztwo o x y :: s) _ _ _ hk2 hty2 hl2 (hFr.put (by simp)) (zSt_join hS) he2
theorem s_kvalue {d L k fr to kf : Nat} {σ : zS} {Q : Int32 → zS → Prop} {O A : Nat → Nat} {F : Nat → Int32} (hL : zLa L k) (hft : fr ≤ to) (hto : to ≤ 400) (hF : ∀ j, j < 10 → σ (L + 1) j = F j) (hcd : ∀ j, fr ≤ j → j < to → σ 17 j = nI (zen (O j) (A j))) (hk : zKc O A (to - fr) fr [] = some [kf]) (hq : ∀ τ, Fr [L + 2] σ τ → Q ((zev O A F (to - fr) fr []).headD 0) τ) : zI1 (d + 1) 27 [.ref L, .int (nI fr), .int (nI to)] σ Q := by
  have hev : ∀ (n i : Nat) (ks : List Nat) (st : List Int32), zKc O A n i ks = some [kf] → zTy ks st → zTy [kf] (zev O A F n i st) := by
    intro n
    induction n with
    | zero => intro i ks st h ht; have : ks = [kf] := by injection h
              subst this; exact ht
    | succ n ih => intro i ks st h ht; obtain ⟨kz, g1, g2⟩ := zKc_s h; exact ih (i + 1) kz _ g2 (zKs_ty g1 ht)
  obtain ⟨v, hv, _⟩ := zTy_1 (hev (to - fr) fr [] [] hk trivial)
  rw [hv] at hq
  show zk _ _ 0 [.ref L, .int (nI fr), .int (nI to), zun, zun, zun, zun] [] _ _
  refine r_push zi_27_0 rfl ?_
  refine r_is3 zi_27_1 rfl ?_
  refine r_il1 zi_27_2 rfl ?_
  refine r_is4 zi_27_3 rfl ?_
  exact l_kval hL hto hF v hq (to - fr) fr [] [] σ _ _ (by omega) hcd hk trivial (by decide) Fr.rf trivial hv

