/-! QUEUE, class -/
def zQr (A N : Nat → Nat) (j : Nat) : Nat := A j * 100 + N j
abbrev zQh (σ : zS) (c : Nat) (A N : Nat → Nat) : Prop := ∀ j, j < c → σ 35 j = nI (zQr A N j) ∧ A j ≤ 99 ∧ N j ≤ 20
theorem l_ks1 {d c i : Nat} {σ : zS} {R : Option Int32 → zS → Prop} {A N P : Nat → Nat} (hc : σ 34 1 = nI c) (hc10 : c ≤ 10) (hT : zQh σ c A N) (hi : i < c) (hP : ∀ t, t < i → P t < i) (h : ∀ τ, Fr [189] σ τ → (∀ x, x < zat A P (A i) i → τ 189 x = nI (zQr A N (P x))) → (∀ x, zat A P (A i) i < x → x ≤ i → τ 189 x = nI (zQr A N (P (x - 1)))) → zk (d + 1) 81 75 [.ref 177, .ref 34, .int (nI i), .int (nI (zat A P (A i) i))] [] τ R) : ∀ (a : Nat) (τ : zS), a ≤ i → zat A P (A i) i = zat A P (A i) a → Fr [189] σ τ → (∀ x, x < a → τ 189 x = nI (zQr A N (P x))) → (∀ x, a < x → x ≤ i → τ 189 x = nI (zQr A N (P (x - 1)))) → zk (d + 1) 81 29 [.ref 177, .ref 34, .int (nI i), .int (nI a)] [] τ R := by
  have hri := hT i hi
  intro a
  induction a with
  | zero =>
    intro τ ha he hF h1 h2
    have e0 : zat A P (A i) i = 0 := he
    rw [e0] at h
    refine r_il3 zi_81_29 rfl ?_
    refine r_if5 zi_81_30 rfl (fun _ => ?_) (fun c => absurd (by decide) c)
    exact h _ hF h1 h2
  | succ a ih =>
    intro τ ha he hF h1 h2
    have e1 : zat A P (A i) (a + 1) = if A i < A (P a) then zat A P (A i) a else a + 1 := rfl
    have hpa := hT (P a) (by have := hP a (by omega); omega)
    have h40 := h1 (a + 1 - 1) (by omega)
    rw [show a + 1 - 1 = a by omega] at h40
    have hc' := (hF 34 (by decide) 1).trans hc
    have hri' := (hF 35 (by decide) i).trans hri.1
    have q1 : zQr A N (P a) / 100 = A (P a) := by unfold zQr; omega
    have q2 : zQr A N i / 100 = A i := by unfold zQr; omega
    have b1 : zQr A N (P a) ≤ 10000 := by unfold zQr; omega
    have b2 : zQr A N i ≤ 10000 := by unfold zQr; omega
    rw [e1] at he
    by_cases hlt : A i < A (P a)
    · rw [if_pos hlt] at he
      have h67 := h40
      refine r_il3 zi_81_29 rfl ?_
      refine n_if5 (i := (a+1)) zi_81_30 rfl (by omega) (fun c => absurd c (by omega)) (fun _ => ?_)
      refine r_al0 zi_81_33 rfl ?_
      refine q_getR zi_81_34 rfl cf_177_13 ?_
      refine r_il3 zi_81_37 rfl ?_
      refine r_push zi_81_38 rfl ?_
      refine r_b1 zi_81_39 rfl ?_
      rw [show (nI (a+1) - 1 : Int32) = nI ((a+1) - 1) from pk_sub (a := (a+1)) (b := 1) (by omega)]
      refine r_alde zi_81_40 rfl ((a+1) - 1) ca_189 (by first | rfl | (simp only [zI_add, zI_mul] <;> rfl)) (by first | omega | decide) (u := nI (zQr A N (P a))) (by rw [show a + 1 - 1 = a by omega]; exact h40) ?_
      refine r_push zi_81_41 rfl ?_
      refine r_div zi_81_43 rfl (by decide) ?_
      rw [show (nI (zQr A N (P a)) / 100 : Int32) = nI ((zQr A N (P a)) / 100) from pk_div (d := 100) (by omega) (by omega) (by omega)]
      refine r_al1 zi_81_44 rfl ?_
      refine r_il2 zi_81_45 rfl ?_
      refine q_cIV zi_81_46 rfl rfl rfl rfl rfl rfl rfl cf_34_0.ob (s_trow (k := 34) zTo34 (by omega) hc' hc10 (i := i) (by omega) ?_)
      show zk _ _ 49 _ _ _ _
      rw [hri']
      refine r_push zi_81_49 rfl ?_
      refine r_div zi_81_51 rfl (by decide) ?_
      rw [show (nI (zQr A N i) / 100 : Int32) = nI ((zQr A N i) / 100) from pk_div (d := 100) (by omega) (by omega) (by omega)]
      refine n_ic5 (i := ((zQr A N (P a)) / 100)) (j := ((zQr A N i) / 100)) zi_81_52 rfl (by omega) (by omega) (fun c => absurd c (by omega)) (fun _ => ?_)
      refine r_al0 zi_81_55 rfl ?_
      refine q_getR zi_81_56 rfl cf_177_13 ?_
      refine r_il3 zi_81_59 rfl ?_
      refine r_al0 zi_81_60 rfl ?_
      refine q_getR zi_81_61 rfl cf_177_13 ?_
      refine r_il3 zi_81_64 rfl ?_
      refine r_push zi_81_65 rfl ?_
      refine r_b1 zi_81_66 rfl ?_
      rw [show (nI (a+1) - 1 : Int32) = nI ((a+1) - 1) from pk_sub (a := (a+1)) (b := 1) (by omega)]
      refine r_alde zi_81_67 rfl ((a+1) - 1) ca_189 (by first | rfl | (simp only [zI_add, zI_mul] <;> rfl)) (by first | omega | decide) (u := nI (zQr A N (P a))) (by rw [show a + 1 - 1 = a by omega]; exact h40) ?_
      refine r_ast zi_81_68 rfl (a+1) ca_189 (by first | rfl | (simp only [zI_add, zI_mul] <;> rfl)) (by first | omega | decide) ?_
      refine r_in3 zi_81_69 rfl ?_
      rw [show (nI (a+1) + -1 : Int32) = nI a from pk_m1 _]
      refine r_goto zi_81_72 rfl ?_
      refine ih _ (by omega) he (hF.put (by decide)) (fun x hx => ?_) (fun x hx hxi => ?_)
      · rw [zup_nj (by omega)]; exact h1 x (by omega)
      · rw [up_rd]
        by_cases e : x = a + 1
        · rw [if_pos ⟨rfl, e⟩, e, show a + 1 - 1 = a by omega]
        · rw [if_neg (fun z => e z.2)]; exact h2 x (by omega) hxi
    · rw [if_neg hlt] at he
      rw [he] at h
      refine r_il3 zi_81_29 rfl ?_
      refine n_if5 (i := (a+1)) zi_81_30 rfl (by omega) (fun c => absurd c (by omega)) (fun _ => ?_)
      refine r_al0 zi_81_33 rfl ?_
      refine q_getR zi_81_34 rfl cf_177_13 ?_
      refine r_il3 zi_81_37 rfl ?_
      refine r_push zi_81_38 rfl ?_
      refine r_b1 zi_81_39 rfl ?_
      rw [show (nI (a+1) - 1 : Int32) = nI ((a+1) - 1) from pk_sub (a := (a+1)) (b := 1) (by omega)]
      refine r_alde zi_81_40 rfl ((a+1) - 1) ca_189 (by first | rfl | (simp only [zI_add, zI_mul] <;> rfl)) (by first | omega | decide) (u := nI (zQr A N (P a))) (by rw [show a + 1 - 1 = a by omega]; exact h40) ?_
      refine r_push zi_81_41 rfl ?_
      refine r_div zi_81_43 rfl (by decide) ?_
      rw [show (nI (zQr A N (P a)) / 100 : Int32) = nI ((zQr A N (P a)) / 100) from pk_div (d := 100) (by omega) (by omega) (by omega)]
      refine r_al1 zi_81_44 rfl ?_
      refine r_il2 zi_81_45 rfl ?_
      refine q_cIV zi_81_46 rfl rfl rfl rfl rfl rfl rfl cf_34_0.ob (s_trow (k := 34) zTo34 (by omega) hc' hc10 (i := i) (by omega) ?_)
      show zk _ _ 49 _ _ _ _
      rw [hri']
      refine r_push zi_81_49 rfl ?_
      refine r_div zi_81_51 rfl (by decide) ?_
      rw [show (nI (zQr A N i) / 100 : Int32) = nI ((zQr A N i) / 100) from pk_div (d := 100) (by omega) (by omega) (by omega)]
      refine n_ic5 (i := ((zQr A N (P a)) / 100)) (j := ((zQr A N i) / 100)) zi_81_52 rfl (by omega) (by omega) (fun _ => ?_) (fun c => absurd c (by omega))
      exact h _ hF h1 h2
theorem l_ks2 {d c : Nat} {σ : zS} {Q : zS → Prop} {A N : Nat → Nat} (hc : σ 34 1 = nI c) (hc10 : c ≤ 10) (hT : zQh σ c A N) (h : ∀ τ, Fr [177, 189] σ τ → τ 177 16 = nI c → (∀ x, x < c → τ 189 x = nI (zQr A N (zPm A c x))) → Q τ) : ∀ (m i : Nat) (τ : zS) (u3 : Value), i + m = c → Fr [177, 189] σ τ → τ 177 16 = nI i → (∀ x, x < i → τ 189 x = nI (zQr A N (zPm A i x))) → zk (d + 1) 81 7 [.ref 177, .ref 34, .int (nI i), u3] [] τ (fun r t => r = none ∧ Q t) := by
  intro m
  induction m with
  | zero =>
    intro i τ u3 hi hF hn hx
    have e : i = c := by omega
    subst e
    have hc' := (hF 34 (by decide) 1).trans hc
    refine r_il2 zi_81_7 rfl ?_
    refine r_al1 zi_81_8 rfl ?_
    refine q_getIe zi_81_9 rfl cf_34_1 (v := nI i) (by first | exact hc' | ((repeat (first | rw [zup_ne (by first | decide | omega)] | rw [zup_nj (by first | decide | omega)] | rw [fil_ne (by first | decide | omega)])) <;> exact hc') | (simp [up_rd, fil_rd]; exact hc')) ?_
    refine n_ic3 (i := i) (j := i) zi_81_12 rfl (by omega) (by omega) (fun _ => ?_) (fun c => absurd c (by omega))
    refine r_ret zi_81_102 rfl ?_
    exact ⟨rfl, h _ hF hn hx⟩
  | succ m ih =>
    intro i τ u3 hi hF hn hx
    have hc' := (hF 34 (by decide) 1).trans hc
    have hT' : zQh τ c A N := fun j hj => ⟨(hF 35 (by decide) j).trans (hT j hj).1, (hT j hj).2⟩
    have hS := (zSo_m A i (by omega)).1
    have hri := hT i (by omega)
    have hle := zat_le (A := A) (P := zPm A i) (v := A i) i
    have b2 : zQr A N i ≤ 10000 := by unfold zQr; omega
    refine r_il2 zi_81_7 rfl ?_
    refine r_al1 zi_81_8 rfl ?_
    refine q_getIe zi_81_9 rfl cf_34_1 (v := nI c) (by first | exact hc' | ((repeat (first | rw [zup_ne (by first | decide | omega)] | rw [zup_nj (by first | decide | omega)] | rw [fil_ne (by first | decide | omega)])) <;> exact hc') | (simp [up_rd, fil_rd]; exact hc')) ?_
    refine n_ic3 (i := i) (j := c) zi_81_12 rfl (by omega) (by omega) (fun c => absurd c (by omega)) (fun _ => ?_)
    refine r_il2 zi_81_15 rfl ?_
    refine r_al0 zi_81_16 rfl ?_
    refine q_getR zi_81_17 rfl cf_177_13 ?_
    refine r_alen zi_81_20 rfl ca_189 ?_
    refine n_ic3 (i := i) (j := 10) zi_81_21 rfl (by omega) (by omega) (fun c => absurd c (by omega)) (fun _ => ?_)
    refine r_al0 zi_81_24 rfl ?_
    refine q_getIe zi_81_25 rfl cf_177_16 (v := nI i) (by first | exact hn | ((repeat (first | rw [zup_ne (by first | decide | omega)] | rw [zup_nj (by first | decide | omega)] | rw [fil_ne (by first | decide | omega)])) <;> exact hn) | (simp [up_rd, fil_rd]; exact hn)) ?_
    refine r_is3 zi_81_28 rfl ?_
    refine l_ks1 (P := zPm A i) hc' hc10 hT' (by omega) hS (fun τ2 hF2 h1 h2 => ?_) i τ (Nat.le_refl _) rfl Fr.rf hx (fun x h1 h2 => by omega)
    show zk _ _ 75 _ _ _ _
    refine r_al0 zi_81_75 rfl ?_
    refine q_getR zi_81_76 rfl cf_177_13 ?_
    refine r_il3 zi_81_79 rfl ?_
    refine r_al1 zi_81_80 rfl ?_
    refine r_il2 zi_81_81 rfl ?_
    refine q_cIV zi_81_82 rfl rfl rfl rfl rfl rfl rfl cf_34_0.ob (s_trow (k := 34) zTo34 (by omega) ((hF2 34 (by decide) 1).trans hc') hc10 (i := i) (by omega) ?_)
    show zk _ _ 85 _ _ _ _
    rw [(hF2 35 (by decide) i).trans (hT' i (by omega)).1]
    refine r_ast zi_81_85 rfl (zat A (zPm A i) (A i) i) ca_189 (by first | rfl | (simp only [zI_add, zI_mul] <;> rfl)) (by first | omega | decide) ?_
    refine r_al0 zi_81_86 rfl ?_
    refine r_dupR zi_81_87 rfl ?_
    refine q_getIe zi_81_88 rfl cf_177_16 (v := nI i) (by rw [zup_ne (by decide)]; exact (hF2 177 (by decide) 16).trans hn) ?_
    refine r_push zi_81_91 rfl ?_
    refine r_b0 zi_81_92 rfl ?_
    rw [show (nI i + 1 : Int32) = nI (i + 1) from nI_add _ _]
    refine q_put zi_81_93 rfl cf_177_16 rfl ?_
    refine r_in2 zi_81_96 rfl ?_
    rw [show (nI i + 1 : Int32) = nI (i + 1) from nI_add _ _]
    refine r_goto zi_81_99 rfl ?_
    refine ih (i + 1) _ _ (by omega) (((hF.tr (hF2.sub (by simp))).put (by decide)).put (by decide)) zup_eq (fun x hx2 => ?_)
    rw [zup_ne (by decide), up_rd]
    show _ = nI (zQr A N (zPi (zPm A i) (zat A (zPm A i) (A i) i) i x))
    unfold zPi
    by_cases e1 : x < zat A (zPm A i) (A i) i
    · rw [if_neg (fun z => by omega), if_pos e1]; exact h1 x e1
    · by_cases e2 : x = zat A (zPm A i) (A i) i
      · rw [if_pos ⟨rfl, e2⟩, if_neg e1, if_pos e2]
      · rw [if_neg (fun z => e2 z.2), if_neg e1, if_neg e2]; exact h2 x (by omega) (by omega)
theorem s_ksort {d c : Nat} {σ : zS} {Q : zS → Prop} {A N : Nat → Nat} (hc : σ 34 1 = nI c) (hc10 : c ≤ 10) (hT : zQh σ c A N) (h : ∀ τ, Fr [177, 189] σ τ → τ 177 16 = nI c → (∀ x, x < c → τ 189 x = nI (zQr A N (zPm A c x))) → Q τ) : zV1 (d + 1) 81 [.ref 177, .ref 34] σ Q := by
  show zk _ _ 0 [.ref 177, .ref 34, zun, zun] [] _ _
  refine r_al0 zi_81_0 rfl ?_
  refine r_push zi_81_1 rfl ?_
  refine q_put zi_81_2 rfl cf_177_16 rfl ?_
  refine r_push zi_81_5 rfl ?_
  refine r_is2 zi_81_6 rfl ?_
  exact l_ks2 (σ := σ) hc hc10 hT h c 0 _ _ (by omega) (Fr.rf.put (by decide)) zup_eq (fun x hx => by omega)
theorem l_ksv {d k i : Nat} {σ : zS} {R : Option Int32 → zS → Prop} {F : Nat → Nat} (hk1 : 1 ≤ k) (hk3 : k ≤ 3) (hF : ∀ s, s < 3 → σ 191 s = nI (F s) ∧ F s ≤ 10000) (h : ∀ u5, zk d 80 82 [.ref 177, .ref 34, .int (nI k), .int (nI i), .int (nI (zsv F k)), u5] [] σ R) : ∀ (m s : Nat), s + 1 + m = k → zk d 80 34 [.ref 177, .ref 34, .int (nI k), .int (nI i), .int (nI (zsv F (s + 1))), .int (nI (s + 1))] [] σ R := by
  intro m
  induction m with
  | zero =>
    intro s hs
    have e : k = s + 1 := by omega
    subst e
    refine r_il5 zi_80_34 rfl ?_
    refine r_il2 zi_80_36 rfl ?_
    refine n_ic3 (i := (s+1)) (j := (s+1)) zi_80_37 rfl (by omega) (by omega) (fun _ => ?_) (fun c => absurd c (by omega))
    exact h _
  | succ m ih =>
    intro s hs
    have hlt := zsv_lt (F := F) s
    have e1 : zsv F (s + 1 + 1) = if F (s + 1) < F (zsv F (s + 1)) then s + 1 else zsv F (s + 1) := rfl
    have ih := ih (s + 1) (by omega)
    rw [e1] at ih
    have f1 := hF (s + 1) (by omega)
    have f2 := hF (zsv F (s + 1)) (by omega)
    generalize zsv F (s + 1) = z at *
    obtain ⟨f11, f12⟩ := f1
    obtain ⟨f21, f22⟩ := f2
    refine r_il5 zi_80_34 rfl ?_
    refine r_il2 zi_80_36 rfl ?_
    refine n_ic3 (i := (s+1)) (j := k) zi_80_37 rfl (by omega) (by omega) (fun c => absurd c (by omega)) (fun _ => ?_)
    refine r_il5 zi_80_40 rfl ?_
    refine r_al0 zi_80_42 rfl ?_
    refine q_getR zi_80_43 rfl cf_177_15 ?_
    refine r_alen zi_80_46 rfl ca_191 ?_
    refine n_ic3 (i := (s+1)) (j := 3) zi_80_47 rfl (by omega) (by omega) (fun c => absurd c (by omega)) (fun _ => ?_)
    refine r_al0 zi_80_50 rfl ?_
    refine q_getR zi_80_51 rfl cf_177_15 ?_
    refine r_il5 zi_80_54 rfl ?_
    refine r_alde zi_80_56 rfl (s+1) ca_191 (by first | rfl | (simp only [zI_add, zI_mul] <;> rfl)) (by first | omega | decide) (u := nI (F (s + 1))) (by first | exact f11 | ((repeat (first | rw [zup_ne (by first | decide | omega)] | rw [zup_nj (by first | decide | omega)] | rw [fil_ne (by first | decide | omega)])) <;> exact f11) | (simp [up_rd, fil_rd]; exact f11)) ?_
    refine r_al0 zi_80_57 rfl ?_
    refine q_getR zi_80_58 rfl cf_177_15 ?_
    refine r_il4 zi_80_61 rfl ?_
    refine r_alde zi_80_63 rfl z ca_191 (by first | rfl | (simp only [zI_add, zI_mul] <;> rfl)) (by first | omega | decide) (u := nI (F z)) (by first | exact f21 | ((repeat (first | rw [zup_ne (by first | decide | omega)] | rw [zup_nj (by first | decide | omega)] | rw [fil_ne (by first | decide | omega)])) <;> exact f21) | (simp [up_rd, fil_rd]; exact f21)) ?_
    refine n_ic3 (i := (F (s + 1))) (j := (F z)) zi_80_64 rfl (by omega) (by omega) (fun c1 => ?_) (fun c1 => ?_)
    · refine r_il4 zi_80_72 rfl ?_
      refine r_is4 zi_80_74 rfl ?_
      refine r_in5 zi_80_76 rfl ?_
      rw [show (nI (s+1) + 1 : Int32) = nI ((s+1) + 1) from nI_add _ _]
      refine r_goto zi_80_79 rfl ?_
      first
      | (rw [if_pos (by assumption)] at ih; exact ih)
      | (rw [if_neg (by omega)] at ih; exact ih)
    · refine r_il5 zi_80_67 rfl ?_
      refine r_goto zi_80_69 rfl ?_
      refine r_is4 zi_80_74 rfl ?_
      refine r_in5 zi_80_76 rfl ?_
      rw [show (nI (s+1) + 1 : Int32) = nI ((s+1) + 1) from nI_add _ _]
      refine r_goto zi_80_79 rfl ?_
      first
      | (rw [if_pos (by assumption)] at ih; exact ih)
      | (rw [if_neg (by omega)] at ih; exact ih)
theorem l_kserve {d c k : Nat} {σ : zS} {Q : zS → Prop} {A N P : Nat → Nat} (hk1 : 1 ≤ k) (hk3 : k ≤ 3) (hc10 : c ≤ 10) (hA : ∀ j, j < c → A j ≤ 99) (hN : ∀ j, j < c → N j ≤ 20) (hP : ∀ t, t < c → P t < c) (h : ∀ τ, Fr [177, 189, 190, 191] σ τ → τ 177 16 = nI c → τ 177 17 = nI (zqT A N P k c) → (∀ x, x < c → τ 189 x = nI (A (P x)) ∧ τ 190 x = nI (zqb A N P k x)) → Q τ) : ∀ (m t : Nat) (τ : zS) (u4 u5 : Value), t + m = c → Fr [177, 189, 190, 191] σ τ → τ 177 16 = nI c → τ 177 17 = nI (zqT A N P k t) → (∀ s, s < 3 → τ 191 s = nI (zqF A N P k t s)) → (∀ x, x < t → τ 189 x = nI (A (P x)) ∧ τ 190 x = nI (zqb A N P k x)) → (∀ x, t ≤ x → x < c → τ 189 x = nI (zQr A N (P x))) → zk (d + 2) 80 20 [.ref 177, .ref 34, .int (nI k), .int (nI t), u4, u5] [] τ (fun r t => r = none ∧ Q t) := by
  intro m
  induction m with
  | zero =>
    intro t τ u4 u5 ht hF hn hT hf hx hy
    have e : t = c := by omega
    subst e
    refine r_il3 zi_80_20 rfl ?_
    refine r_al0 zi_80_21 rfl ?_
    refine q_getIe zi_80_22 rfl cf_177_16 (v := nI t) (by first | exact hn | ((repeat (first | rw [zup_ne (by first | decide | omega)] | rw [zup_nj (by first | decide | omega)] | rw [fil_ne (by first | decide | omega)])) <;> exact hn) | (simp [up_rd, fil_rd]; exact hn)) ?_
    refine n_ic3 (i := t) (j := t) zi_80_25 rfl (by omega) (by omega) (fun _ => ?_) (fun c => absurd c (by omega))
    refine r_ret zi_80_165 rfl ?_
    exact ⟨rfl, h _ hF hn hT hx⟩
  | succ m ih =>
    intro t τ u4 u5 ht hF hn hT hf hx hy
    obtain ⟨bF, bT⟩ := zqF_le (k := k) hA hN hP t (by omega)
    have a1 := hA (P t) (hP t (by omega))
    have a2 := hN (P t) (hP t (by omega))
    have hyt := hy t (Nat.le_refl _) (by omega)
    have hsv : zsv (zqF A N P k t) k < 3 := by
      obtain ⟨q, hq⟩ : ∃ q, k = q + 1 := ⟨k - 1, by omega⟩
      have := zsv_lt (F := zqF A N P k t) q
      rw [← hq] at this; omega
    have hfs := hf _ hsv
    have bs := bF (zsv (zqF A N P k t) k)
    have q1 : zQr A N (P t) / 100 = A (P t) := by unfold zQr; omega
    have q2 : zQr A N (P t) % 100 = N (P t) := by unfold zQr; omega
    have b2 : zQr A N (P t) ≤ 10000 := by unfold zQr; omega
    have eF : zqF A N P k (t + 1) = zpd (zqF A N P k t) (zsv (zqF A N P k t) k) (max (A (P t)) (zqF A N P k t (zsv (zqF A N P k t) k)) + N (P t)) := rfl
    have eT : zqT A N P k (t + 1) = max (zqT A N P k t) (max (A (P t)) (zqF A N P k t (zsv (zqF A N P k t) k)) + N (P t)) := rfl
    have eb : zqb A N P k t = max (A (P t)) (zqF A N P k t (zsv (zqF A N P k t) k)) := rfl
    have hsvl := fun (R : Option Int32 → zS → Prop) hh => l_ksv (d := d + 2) (i := t) (σ := τ) (R := R) (F := zqF A N P k t) hk1 hk3 (fun s hs => ⟨hf s hs, by have := bF s; omega⟩) hh (k - 1) 0 (by omega)
    have ih := ih (t + 1)
    rw [eF, eT] at ih
    generalize zsv (zqF A N P k t) k = sv at *
    have hm1 := zmaxK (a := A (P t)) (b := zqF A N P k t sv) (by omega) (by omega)
    have hm2 := zmaxK (a := zqT A N P k t) (b := max (A (P t)) (zqF A N P k t sv) + N (P t)) (by omega) (by omega)
    refine r_il3 zi_80_20 rfl ?_
    refine r_al0 zi_80_21 rfl ?_
    refine q_getIe zi_80_22 rfl cf_177_16 (v := nI c) (by first | exact hn | ((repeat (first | rw [zup_ne (by first | decide | omega)] | rw [zup_nj (by first | decide | omega)] | rw [fil_ne (by first | decide | omega)])) <;> exact hn) | (simp [up_rd, fil_rd]; exact hn)) ?_
    refine n_ic3 (i := t) (j := c) zi_80_25 rfl (by omega) (by omega) (fun c => absurd c (by omega)) (fun _ => ?_)
    refine r_push zi_80_28 rfl ?_
    refine r_is4 zi_80_29 rfl ?_
    refine r_push zi_80_31 rfl ?_
    refine r_is5 zi_80_32 rfl ?_
    refine hsvl _ (fun u5 => ?_)
    show zk _ _ 82 _ _ _ _
    refine r_al0 zi_80_82 rfl ?_
    refine q_getR zi_80_83 rfl cf_177_14 ?_
    refine r_il3 zi_80_86 rfl ?_
    refine r_al0 zi_80_87 rfl ?_
    refine q_getR zi_80_88 rfl cf_177_13 ?_
    refine r_il3 zi_80_91 rfl ?_
    refine r_alde zi_80_92 rfl t ca_189 (by first | rfl | (simp only [zI_add, zI_mul] <;> rfl)) (by first | omega | decide) (u := nI (zQr A N (P t))) (by first | exact hyt | ((repeat (first | rw [zup_ne (by first | decide | omega)] | rw [zup_nj (by first | decide | omega)] | rw [fil_ne (by first | decide | omega)])) <;> exact hyt) | (simp [up_rd, fil_rd]; exact hyt)) ?_
    refine r_push zi_80_93 rfl ?_
    refine r_div zi_80_95 rfl (by decide) ?_
    rw [show (nI (zQr A N (P t)) / 100 : Int32) = nI ((zQr A N (P t)) / 100) from pk_div (d := 100) (by omega) (by omega) (by omega)]
    rw [q1]
    refine r_al0 zi_80_96 rfl ?_
    refine q_getR zi_80_97 rfl cf_177_15 ?_
    refine r_il4 zi_80_100 rfl ?_
    refine r_alde zi_80_102 rfl sv ca_191 (by first | rfl | (simp only [zI_add, zI_mul] <;> rfl)) (by first | omega | decide) (u := nI (zqF A N P k t sv)) (by first | exact hfs | ((repeat (first | rw [zup_ne (by first | decide | omega)] | rw [zup_nj (by first | decide | omega)] | rw [fil_ne (by first | decide | omega)])) <;> exact hfs) | (simp [up_rd, fil_rd]; exact hfs)) ?_
    refine r_max zi_80_103 rfl ?_
    rw [hm1]
    refine r_ast zi_80_106 rfl t ca_190 (by first | rfl | (simp only [zI_add, zI_mul] <;> rfl)) (by first | omega | decide) ?_
    refine r_al0 zi_80_107 rfl ?_
    refine q_getR zi_80_108 rfl cf_177_15 ?_
    refine r_il4 zi_80_111 rfl ?_
    refine r_al0 zi_80_113 rfl ?_
    refine q_getR zi_80_114 rfl cf_177_14 ?_
    refine r_il3 zi_80_117 rfl ?_
    refine r_alde zi_80_118 rfl t ca_190 (by first | rfl | (simp only [zI_add, zI_mul] <;> rfl)) (by first | omega | decide) (u := nI (max (A (P t)) (zqF A N P k t sv))) (by first | exact zup_eq | ((repeat (first | rw [zup_ne (by first | decide | omega)] | rw [zup_nj (by first | decide | omega)] | rw [fil_ne (by first | decide | omega)])) <;> exact zup_eq) | (simp [up_rd, fil_rd]; exact zup_eq)) ?_
    refine r_al0 zi_80_119 rfl ?_
    refine q_getR zi_80_120 rfl cf_177_13 ?_
    refine r_il3 zi_80_123 rfl ?_
    refine r_alde zi_80_124 rfl t ca_189 (by first | rfl | (simp only [zI_add, zI_mul] <;> rfl)) (by first | omega | decide) (u := nI (zQr A N (P t))) (by first | exact hyt | ((repeat (first | rw [zup_ne (by first | decide | omega)] | rw [zup_nj (by first | decide | omega)] | rw [fil_ne (by first | decide | omega)])) <;> exact hyt) | (simp [up_rd, fil_rd]; exact hyt)) ?_
    refine r_push zi_80_125 rfl ?_
    refine r_rem zi_80_127 rfl (by decide) ?_
    rw [show (nI (zQr A N (P t)) % 100 : Int32) = nI ((zQr A N (P t)) % 100) from zI_rem (d := 100) (by omega) (by omega) (by omega)]
    rw [q2]
    refine r_b0 zi_80_128 rfl ?_
    rw [show (nI (max (A (P t)) (zqF A N P k t sv)) + nI (N (P t)) : Int32) = nI ((max (A (P t)) (zqF A N P k t sv)) + (N (P t))) from nI_add _ _]
    refine r_ast zi_80_129 rfl sv ca_191 (by first | rfl | (simp only [zI_add, zI_mul] <;> rfl)) (by first | omega | decide) ?_
    refine r_al0 zi_80_130 rfl ?_
    refine q_getR zi_80_131 rfl cf_177_13 ?_
    refine r_il3 zi_80_134 rfl ?_
    refine r_dup2 zi_80_135 rfl ?_
    refine r_alde zi_80_136 rfl t ca_189 (by first | rfl | (simp only [zI_add, zI_mul] <;> rfl)) (by first | omega | decide) (u := nI (zQr A N (P t))) (by first | exact hyt | ((repeat (first | rw [zup_ne (by first | decide | omega)] | rw [zup_nj (by first | decide | omega)] | rw [fil_ne (by first | decide | omega)])) <;> exact hyt) | (simp [up_rd, fil_rd]; exact hyt)) ?_
    refine r_push zi_80_137 rfl ?_
    refine r_div zi_80_139 rfl (by decide) ?_
    rw [show (nI (zQr A N (P t)) / 100 : Int32) = nI ((zQr A N (P t)) / 100) from pk_div (d := 100) (by omega) (by omega) (by omega)]
    rw [q1]
    refine r_ast zi_80_140 rfl t ca_189 (by first | rfl | (simp only [zI_add, zI_mul] <;> rfl)) (by first | omega | decide) ?_
    refine r_al0 zi_80_141 rfl ?_
    refine r_al0 zi_80_142 rfl ?_
    refine q_getIe zi_80_143 rfl cf_177_17 (v := nI (zqT A N P k t)) (by first | exact hT | ((repeat (first | rw [zup_ne (by first | decide | omega)] | rw [zup_nj (by first | decide | omega)] | rw [fil_ne (by first | decide | omega)])) <;> exact hT) | (simp [up_rd, fil_rd]; exact hT)) ?_
    refine r_al0 zi_80_146 rfl ?_
    refine q_getR zi_80_147 rfl cf_177_15 ?_
    refine r_il4 zi_80_150 rfl ?_
    refine r_alde zi_80_152 rfl sv ca_191 (by first | rfl | (simp only [zI_add, zI_mul] <;> rfl)) (by first | omega | decide) (u := nI (max (A (P t)) (zqF A N P k t sv) + N (P t))) (by rw [zup_ne (by decide), zup_eq]) ?_
    refine r_max zi_80_153 rfl ?_
    rw [hm2]
    refine q_put zi_80_156 rfl cf_177_17 rfl ?_
    refine r_in3 zi_80_159 rfl ?_
    rw [show (nI t + 1 : Int32) = nI (t + 1) from nI_add _ _]
    refine r_goto zi_80_162 rfl ?_
    refine ih _ _ _ (by omega) ((((hF.put (k := 190) (by decide)).put (k := 191) (by decide)).put (k := 189) (by decide)).put (k := 177) (by decide)) (by rw [zup_nj (by decide), zup_ne (by decide), zup_ne (by decide), zup_ne (by decide)]; exact hn) zup_eq (fun s hs => ?_) (fun x hx2 => ?_) (fun x hx2 hxc => ?_)
    · rw [zup_ne (by decide), zup_ne (by decide), up_rd]
      unfold zpd
      by_cases e : s = sv
      · rw [if_pos ⟨rfl, e⟩, if_pos e]
      · rw [if_neg (fun z => e z.2), if_neg e, zup_ne (by decide)]; exact hf s hs
    · by_cases e : x = t
      · rw [e, eb]
        refine ⟨by rw [zup_ne (by decide), zup_eq], by rw [zup_ne (by decide), zup_ne (by decide), zup_ne (by decide), zup_eq]⟩
      · obtain ⟨g1, g2⟩ := hx x (by omega)
        refine ⟨by rw [zup_ne (by decide), zup_nj e, zup_ne (by decide), zup_ne (by decide)]; exact g1, by rw [zup_ne (by decide), zup_ne (by decide), zup_ne (by decide), zup_nj e]; exact g2⟩
    · rw [zup_ne (by decide), zup_nj (by omega), zup_ne (by decide), zup_ne (by decide)]; exact hy x (by omega) hxc
theorem l_kwt {d c : Nat} {σ : zS} {Q : Int32 → zS → Prop} {X Y : Nat → Nat} (hn : σ 177 16 = nI c) (hc10 : c ≤ 10) (hx : ∀ t, t < c → σ 189 t = nI (X t) ∧ σ 190 t = nI (Y t) ∧ X t ≤ Y t ∧ Y t ≤ 1000) (hq : Q (nI (zqW X Y c)) σ) : ∀ (m i : Nat), i + m = c → zk d 82 4 [.ref 177, .int (nI (zsum (fun j => Y j - X j) i)), .int (nI i)] [] σ (fun r t => ∃ v, r = some v ∧ Q v t) := by
  intro m
  induction m with
  | zero =>
    intro i hi
    have e : i = c := by omega
    subst e
    refine r_il2 zi_82_4 rfl ?_
    refine r_al0 zi_82_5 rfl ?_
    refine q_getIe zi_82_6 rfl cf_177_16 (v := nI i) (by first | exact hn | ((repeat (first | rw [zup_ne (by first | decide | omega)] | rw [zup_nj (by first | decide | omega)] | rw [fil_ne (by first | decide | omega)])) <;> exact hn) | (simp [up_rd, fil_rd]; exact hn)) ?_
    refine n_ic3 (i := i) (j := i) zi_82_9 rfl (by omega) (by omega) (fun _ => ?_) (fun c => absurd c (by omega))
    refine r_il1 zi_82_34 rfl ?_
    refine r_retI zi_82_35 rfl ?_
    exact ⟨_, rfl, hq⟩
  | succ m ih =>
    intro i hi
    obtain ⟨x1, x2, x3, x4⟩ := hx i (by omega)
    have ih := ih (i + 1) (by omega)
    simp only [zsum] at ih
    generalize zsum (fun j => Y j - X j) i = s at *
    refine r_il2 zi_82_4 rfl ?_
    refine r_al0 zi_82_5 rfl ?_
    refine q_getIe zi_82_6 rfl cf_177_16 (v := nI c) (by first | exact hn | ((repeat (first | rw [zup_ne (by first | decide | omega)] | rw [zup_nj (by first | decide | omega)] | rw [fil_ne (by first | decide | omega)])) <;> exact hn) | (simp [up_rd, fil_rd]; exact hn)) ?_
    refine n_ic3 (i := i) (j := c) zi_82_9 rfl (by omega) (by omega) (fun c => absurd c (by omega)) (fun _ => ?_)
    refine r_il1 zi_82_12 rfl ?_
    refine r_al0 zi_82_13 rfl ?_
    refine q_getR zi_82_14 rfl cf_177_14 ?_
    refine r_il2 zi_82_17 rfl ?_
    refine r_alde zi_82_18 rfl i ca_190 (by first | rfl | (simp only [zI_add, zI_mul] <;> rfl)) (by first | omega | decide) (u := nI (Y i)) (by first | exact x2 | ((repeat (first | rw [zup_ne (by first | decide | omega)] | rw [zup_nj (by first | decide | omega)] | rw [fil_ne (by first | decide | omega)])) <;> exact x2) | (simp [up_rd, fil_rd]; exact x2)) ?_
    refine r_al0 zi_82_19 rfl ?_
    refine q_getR zi_82_20 rfl cf_177_13 ?_
    refine r_il2 zi_82_23 rfl ?_
    refine r_alde zi_82_24 rfl i ca_189 (by first | rfl | (simp only [zI_add, zI_mul] <;> rfl)) (by first | omega | decide) (u := nI (X i)) (by first | exact x1 | ((repeat (first | rw [zup_ne (by first | decide | omega)] | rw [zup_nj (by first | decide | omega)] | rw [fil_ne (by first | decide | omega)])) <;> exact x1) | (simp [up_rd, fil_rd]; exact x1)) ?_
    refine r_b1 zi_82_25 rfl ?_
    rw [show (nI (Y i) - nI (X i) : Int32) = nI ((Y i) - (X i)) from pk_sub (a := (Y i)) (b := (X i)) (by omega)]
    refine r_b0 zi_82_26 rfl ?_
    rw [show (nI s + nI ((Y i) - (X i)) : Int32) = nI (s + ((Y i) - (X i))) from nI_add _ _]
    refine r_is1 zi_82_27 rfl ?_
    refine r_in2 zi_82_28 rfl ?_
    rw [show (nI i + 1 : Int32) = nI (i + 1) from nI_add _ _]
    refine r_goto zi_82_31 rfl ?_
    exact ih
theorem l_kmw1 {d c i b : Nat} {σ : zS} {R : Option Int32 → zS → Prop} {X Y : Nat → Nat} (hn : σ 177 16 = nI c) (hc10 : c ≤ 10) (hi : i < c) (hx : ∀ t, t < c → σ 189 t = nI (X t) ∧ σ 190 t = nI (Y t) ∧ X t ≤ Y t ∧ Y t ≤ 1000) (h : zk d 83 72 [.ref 177, .int (nI b), .int (nI i), .int (nI (zqn X Y c i)), .int (nI c)] [] σ R) : ∀ (m j : Nat), j + m = c → zk d 83 17 [.ref 177, .int (nI b), .int (nI i), .int (nI (zsum (fun j => if X j ≤ X i ∧ X i < Y j then 1 else 0) j)), .int (nI j)] [] σ R := by
  intro m
  induction m with
  | zero =>
    intro j hj
    have e : j = c := by omega
    subst e
    refine r_il4 zi_83_17 rfl ?_
    refine r_al0 zi_83_19 rfl ?_
    refine q_getIe zi_83_20 rfl cf_177_16 (v := nI j) (by first | exact hn | ((repeat (first | rw [zup_ne (by first | decide | omega)] | rw [zup_nj (by first | decide | omega)] | rw [fil_ne (by first | decide | omega)])) <;> exact hn) | (simp [up_rd, fil_rd]; exact hn)) ?_
    refine n_ic3 (i := j) (j := j) zi_83_23 rfl (by omega) (by omega) (fun _ => ?_) (fun c => absurd c (by omega))
    exact h
  | succ m ih =>
    intro j hj
    obtain ⟨x1, x2, x3, x4⟩ := hx j (by omega)
    obtain ⟨y1, y2, y3, y4⟩ := hx i hi
    have ih := ih (j + 1) (by omega)
    simp only [zsum] at ih
    generalize zsum (fun j => if X j ≤ X i ∧ X i < Y j then 1 else 0) j = s at *
    refine r_il4 zi_83_17 rfl ?_
    refine r_al0 zi_83_19 rfl ?_
    refine q_getIe zi_83_20 rfl cf_177_16 (v := nI c) (by first | exact hn | ((repeat (first | rw [zup_ne (by first | decide | omega)] | rw [zup_nj (by first | decide | omega)] | rw [fil_ne (by first | decide | omega)])) <;> exact hn) | (simp [up_rd, fil_rd]; exact hn)) ?_
    refine n_ic3 (i := j) (j := c) zi_83_23 rfl (by omega) (by omega) (fun c => absurd c (by omega)) (fun _ => ?_)
    refine r_il3 zi_83_26 rfl ?_
    refine r_al0 zi_83_27 rfl ?_
    refine q_getR zi_83_28 rfl cf_177_13 ?_
    refine r_il4 zi_83_31 rfl ?_
    refine r_alde zi_83_33 rfl j ca_189 (by first | rfl | (simp only [zI_add, zI_mul] <;> rfl)) (by first | omega | decide) (u := nI (X j)) (by first | exact x1 | ((repeat (first | rw [zup_ne (by first | decide | omega)] | rw [zup_nj (by first | decide | omega)] | rw [fil_ne (by first | decide | omega)])) <;> exact x1) | (simp [up_rd, fil_rd]; exact x1)) ?_
    refine r_al0 zi_83_34 rfl ?_
    refine q_getR zi_83_35 rfl cf_177_13 ?_
    refine r_il2 zi_83_38 rfl ?_
    refine r_alde zi_83_39 rfl i ca_189 (by first | rfl | (simp only [zI_add, zI_mul] <;> rfl)) (by first | omega | decide) (u := nI (X i)) (by first | exact y1 | ((repeat (first | rw [zup_ne (by first | decide | omega)] | rw [zup_nj (by first | decide | omega)] | rw [fil_ne (by first | decide | omega)])) <;> exact y1) | (simp [up_rd, fil_rd]; exact y1)) ?_
    refine n_ic4 (i := (X j)) (j := (X i)) zi_83_40 rfl (by omega) (by omega) (fun c1 => ?_) (fun c1 => ?_)
    · refine r_push zi_83_63 rfl ?_
      refine r_b0 zi_83_64 rfl ?_
      rw [show (nI s + 0 : Int32) = nI (s + 0) from nI_add _ _]
      refine r_is3 zi_83_65 rfl ?_
      refine r_in4 zi_83_66 rfl ?_
      rw [show (nI j + 1 : Int32) = nI (j + 1) from nI_add _ _]
      refine r_goto zi_83_69 rfl ?_
      first
      | (rw [if_pos (by omega)] at ih; exact ih)
      | (rw [if_neg (by omega)] at ih; exact ih)
    · refine r_al0 zi_83_43 rfl ?_
      refine q_getR zi_83_44 rfl cf_177_14 ?_
      refine r_il4 zi_83_47 rfl ?_
      refine r_alde zi_83_49 rfl j ca_190 (by first | rfl | (simp only [zI_add, zI_mul] <;> rfl)) (by first | omega | decide) (u := nI (Y j)) (by first | exact x2 | ((repeat (first | rw [zup_ne (by first | decide | omega)] | rw [zup_nj (by first | decide | omega)] | rw [fil_ne (by first | decide | omega)])) <;> exact x2) | (simp [up_rd, fil_rd]; exact x2)) ?_
      refine r_al0 zi_83_50 rfl ?_
      refine q_getR zi_83_51 rfl cf_177_13 ?_
      refine r_il2 zi_83_54 rfl ?_
      refine r_alde zi_83_55 rfl i ca_189 (by first | rfl | (simp only [zI_add, zI_mul] <;> rfl)) (by first | omega | decide) (u := nI (X i)) (by first | exact y1 | ((repeat (first | rw [zup_ne (by first | decide | omega)] | rw [zup_nj (by first | decide | omega)] | rw [fil_ne (by first | decide | omega)])) <;> exact y1) | (simp [up_rd, fil_rd]; exact y1)) ?_
      refine n_ic5 (i := (Y j)) (j := (X i)) zi_83_56 rfl (by omega) (by omega) (fun c2 => ?_) (fun c2 => ?_)
      · refine r_push zi_83_63 rfl ?_
        refine r_b0 zi_83_64 rfl ?_
        rw [show (nI s + 0 : Int32) = nI (s + 0) from nI_add _ _]
        refine r_is3 zi_83_65 rfl ?_
        refine r_in4 zi_83_66 rfl ?_
        rw [show (nI j + 1 : Int32) = nI (j + 1) from nI_add _ _]
        refine r_goto zi_83_69 rfl ?_
        first
        | (rw [if_pos (by omega)] at ih; exact ih)
        | (rw [if_neg (by omega)] at ih; exact ih)
      · refine r_push zi_83_59 rfl ?_
        refine r_goto zi_83_60 rfl ?_
        refine r_b0 zi_83_64 rfl ?_
        rw [show (nI s + 1 : Int32) = nI (s + 1) from nI_add _ _]
        refine r_is3 zi_83_65 rfl ?_
        refine r_in4 zi_83_66 rfl ?_
        rw [show (nI j + 1 : Int32) = nI (j + 1) from nI_add _ _]
        refine r_goto zi_83_69 rfl ?_
        first
        | (rw [if_pos (by omega)] at ih; exact ih)
        | (rw [if_neg (by omega)] at ih; exact ih)
theorem l_kmw2 {d c : Nat} {σ : zS} {Q : Int32 → zS → Prop} {X Y : Nat → Nat} (hn : σ 177 16 = nI c) (hc10 : c ≤ 10) (hx : ∀ t, t < c → σ 189 t = nI (X t) ∧ σ 190 t = nI (Y t) ∧ X t ≤ Y t ∧ Y t ≤ 1000) (hq : Q (nI (zqM X Y c)) σ) : ∀ (m i : Nat) (u3 u4 : Value), i + m = c → zk d 83 4 [.ref 177, .int (nI (zmx (zqn X Y c) i)), .int (nI i), u3, u4] [] σ (fun r t => ∃ v, r = some v ∧ Q v t) := by
  intro m
  induction m with
  | zero =>
    intro i u3 u4 hi
    have e : i = c := by omega
    subst e
    refine r_il2 zi_83_4 rfl ?_
    refine r_al0 zi_83_5 rfl ?_
    refine q_getIe zi_83_6 rfl cf_177_16 (v := nI i) (by first | exact hn | ((repeat (first | rw [zup_ne (by first | decide | omega)] | rw [zup_nj (by first | decide | omega)] | rw [fil_ne (by first | decide | omega)])) <;> exact hn) | (simp [up_rd, fil_rd]; exact hn)) ?_
    refine n_ic3 (i := i) (j := i) zi_83_9 rfl (by omega) (by omega) (fun _ => ?_) (fun c => absurd c (by omega))
    refine r_il1 zi_83_84 rfl ?_
    refine r_retI zi_83_85 rfl ?_
    exact ⟨_, rfl, hq⟩
  | succ m ih =>
    intro i u3 u4 hi
    have b1 : ∀ k, zqn X Y c k ≤ c * 1 := fun k => zsum_c 1 c (fun j _ => by split <;> omega)
    have b2 : zmx (zqn X Y c) i ≤ c * 1 := zmx_leB i (fun k _ => b1 k)
    have b3 := b1 i
    have hm := zmaxK (a := zmx (zqn X Y c) i) (b := zqn X Y c i) (by omega) (by omega)
    have ih := ih (i + 1)
    simp only [zmx] at ih
    refine r_il2 zi_83_4 rfl ?_
    refine r_al0 zi_83_5 rfl ?_
    refine q_getIe zi_83_6 rfl cf_177_16 (v := nI c) (by first | exact hn | ((repeat (first | rw [zup_ne (by first | decide | omega)] | rw [zup_nj (by first | decide | omega)] | rw [fil_ne (by first | decide | omega)])) <;> exact hn) | (simp [up_rd, fil_rd]; exact hn)) ?_
    refine n_ic3 (i := i) (j := c) zi_83_9 rfl (by omega) (by omega) (fun c => absurd c (by omega)) (fun _ => ?_)
    refine r_push zi_83_12 rfl ?_
    refine r_is3 zi_83_13 rfl ?_
    refine r_push zi_83_14 rfl ?_
    refine r_is4 zi_83_15 rfl ?_
    refine l_kmw1 hn hc10 (by omega) hx ?_ c 0 (by omega)
    show zk _ _ 72 _ _ _ _
    refine r_il1 zi_83_72 rfl ?_
    refine r_il3 zi_83_73 rfl ?_
    refine r_max zi_83_74 rfl ?_
    rw [hm]
    refine r_is1 zi_83_77 rfl ?_
    refine r_in2 zi_83_78 rfl ?_
    rw [show (nI i + 1 : Int32) = nI (i + 1) from nI_add _ _]
    refine r_goto zi_83_81 rfl ?_
    exact ih _ _ (by omega)
theorem s_kwt {d c : Nat} {σ : zS} {Q : Int32 → zS → Prop} {X Y : Nat → Nat} (hn : σ 177 16 = nI c) (hc10 : c ≤ 10) (hx : ∀ t, t < c → σ 189 t = nI (X t) ∧ σ 190 t = nI (Y t) ∧ X t ≤ Y t ∧ Y t ≤ 1000) (hq : Q (nI (zqW X Y c)) σ) : zI1 d 82 [.ref 177] σ Q := by
  show zk _ _ 0 [.ref 177, zun, zun] [] _ _
  refine r_push zi_82_0 rfl ?_
  refine r_is1 zi_82_1 rfl ?_
  refine r_push zi_82_2 rfl ?_
  refine r_is2 zi_82_3 rfl ?_
  exact l_kwt hn hc10 hx hq c 0 (by omega)
theorem s_kmw {d c : Nat} {σ : zS} {Q : Int32 → zS → Prop} {X Y : Nat → Nat} (hn : σ 177 16 = nI c) (hc10 : c ≤ 10) (hx : ∀ t, t < c → σ 189 t = nI (X t) ∧ σ 190 t = nI (Y t) ∧ X t ≤ Y t ∧ Y t ≤ 1000) (hq : Q (nI (zqM X Y c)) σ) : zI1 d 83 [.ref 177] σ Q := by
  show zk _ _ 0 [.ref 177, zun, zun, zun, zun] [] _ _
  refine r_push zi_83_0 rfl ?_
  refine r_is1 zi_83_1 rfl ?_
  refine r_push zi_83_2 rfl ?_
  refine r_is2 zi_83_3 rfl ?_
  exact l_kmw2 hn hc10 hx hq c 0 _ _ (by omega)
/-- what queue answers -/
def zqa (A N : Nat → Nat) (c k : Nat) (what : Int32) : Nat := if what = 0 then zqW (fun t => A (zPm A c t)) (zqb A N (zPm A c) k) c else if what = 1 then zqT A N (zPm A c) k c else zqM (fun t => A (zPm A c t)) (zqb A N (zPm A c) k) c
def zqOK (k what : Int32) : Prop := 1 ≤ k ∧ k ≤ 3 ∧ 0 ≤ what ∧ what ≤ 2
theorem s_kqueue {d c : Nat} {σ : zS} {Q : Int32 → zS → Prop} {A N : Nat → Nat} {k what : Int32} (hc : σ 34 1 = nI c) (hc10 : c ≤ 10) (hT : zQh σ c A N) (h1 : ∀ K, 1 ≤ K → K ≤ 3 → k = nI K → ∀ τ, Fr [177, 189, 190, 191] σ τ → Q (nI (zqa A N c K what)) τ) (h0 : ¬ zqOK k what → Q (-1) σ) : zI1 (d + 3) 146 [.ref 0, .int k, .int what] σ Q := by
  show zk _ _ 0 [.ref 0, .int k, .int what] [] _ _
  by_cases hk : zqOK k what
  · obtain ⟨a1, a2, a3, a4⟩ := id hk
    obtain ⟨K, hK, rfl⟩ := zI_ofle (n := 3) (v := k) (by grind) a2 (by omega)
    have hK1 : 1 ≤ K := (nI_leI (a := 1) (by omega) (by omega)).mp a1
    have hq := h1 K hK1 hK rfl
    unfold zqa at hq
    have hS := zSo_m A c (by omega)
    have hA : ∀ j, j < c → A j ≤ 99 := fun j hj => (hT j hj).2.1
    have hN : ∀ j, j < c → N j ≤ 20 := fun j hj => (hT j hj).2.2
    have hb := zqF_le (k := K) hA hN hS.1
    have hserve : ∀ (Q2 : zS → Prop), (∀ τ, Fr [177, 189, 190, 191] σ τ → τ 177 16 = nI c → τ 177 17 = nI (zqT A N (zPm A c) K c) → (∀ x, x < c → τ 189 x = nI (A (zPm A c x)) ∧ τ 190 x = nI (zqb A N (zPm A c) K x)) → Q2 τ) → zV1 (d + 2) 80 [.ref 177, .ref 34, .int (nI K)] σ Q2 := by
      intro Q2 hq2
      show zk _ _ 0 [.ref 177, .ref 34, .int (nI K), zun, zun, zun] [] _ _
      refine r_al0 zi_80_0 rfl ?_
      refine r_al1 zi_80_1 rfl ?_
      refine q_cVV zi_80_2 rfl rfl rfl rfl rfl rfl rfl cf_177_0.ob (s_ksort hc hc10 hT (fun τ hF hn hx => ?_))
      show zk _ _ 5 _ _ _ _
      refine r_al0 zi_80_5 rfl ?_
      refine q_getR zi_80_6 rfl cf_177_15 ?_
      refine r_push zi_80_9 rfl ?_
      refine r_cVS zi_80_10 rfl rfl rfl rfl rfl rfl (s_afill ca_191 (by omega) ?_)
      show zk _ _ 13 _ _ _ _
      refine r_al0 zi_80_13 rfl ?_
      refine r_push zi_80_14 rfl ?_
      refine q_put zi_80_15 rfl cf_177_17 rfl ?_
      refine r_push zi_80_18 rfl ?_
      refine r_is3 zi_80_19 rfl ?_
      exact l_kserve (σ := σ) hK1 hK hc10 hA hN hS.1 hq2 c 0 _ _ _ (by omega) (((hF.sub (by simp)).fil (by decide)).put (by decide)) (by rw [zup_nj (by decide), fil_ne (by decide)]; exact hn) zup_eq (fun s hs => by rw [zup_ne (by decide)]; exact fil_in hs) (fun x hx2 => by omega) (fun x _ hx2 => by rw [zup_ne (by decide), fil_ne (by decide)]; exact hx x hx2)
    have hXY : ∀ τ : zS, (∀ x, x < c → τ 189 x = nI (A (zPm A c x)) ∧ τ 190 x = nI (zqb A N (zPm A c) K x)) → ∀ t, t < c → τ 189 t = nI (A (zPm A c t)) ∧ τ 190 t = nI (zqb A N (zPm A c) K t) ∧ A (zPm A c t) ≤ zqb A N (zPm A c) K t ∧ zqb A N (zPm A c) K t ≤ 1000 := fun τ hx t ht => by
      obtain ⟨g1, g2⟩ := hx t ht
      have g3 := (hb t (by omega)).1 (zsv (zqF A N (zPm A c) K t) K)
      have g4 := hA _ (hS.1 t ht)
      exact ⟨g1, g2, Nat.le_max_left _ _, by unfold zqb; omega⟩
    refine r_il1 zi_146_0 rfl ?_
    refine r_push zi_146_1 rfl ?_
    refine r_push zi_146_2 rfl ?_
    refine r_cIS zi_146_3 rfl rfl rfl rfl rfl rfl (s_within (fun _ _ => ?_) (fun z => absurd ⟨a1, a2⟩ z))
    show zk _ _ 6 _ _ _ _
    refine r_if0 zi_146_6 rfl (fun c => absurd c (by decide)) (fun _ => ?_)
    refine r_il2 zi_146_9 rfl ?_
    refine r_push zi_146_10 rfl ?_
    refine r_push zi_146_11 rfl ?_
    refine r_cIS zi_146_12 rfl rfl rfl rfl rfl rfl (s_within (fun _ _ => ?_) (fun z => absurd ⟨a3, a4⟩ z))
    show zk _ _ 15 _ _ _ _
    refine r_if1 zi_146_15 rfl (fun _ => ?_) (fun c => absurd c (by decide))
    refine r_al0 zi_146_20 rfl ?_
    refine q_getR zi_146_21 rfl cf_0_8 ?_
    refine r_al0 zi_146_24 rfl ?_
    refine q_getR zi_146_25 rfl cf_0_0 ?_
    refine q_getR zi_146_28 rfl cf_1_9 ?_
    refine r_il1 zi_146_31 rfl ?_
    refine q_cVV zi_146_32 rfl rfl rfl rfl rfl rfl rfl cf_177_0.ob (hserve _ (fun τ hF hn ht hx => ?_))
    show zk _ _ 35 _ _ _ _
    refine r_il2 zi_146_35 rfl ?_
    refine r_sw zi_146_36 rfl ?_
    by_cases c4_0 : what = 0
    · rw [c4_0]
      show zk _ _ 64 _ _ _ _
      refine r_al0 zi_146_64 rfl ?_
      refine q_getR zi_146_65 rfl cf_0_8 ?_
      refine q_cIV zi_146_68 rfl rfl rfl rfl rfl rfl rfl cf_177_0.ob (s_kwt hn hc10 (hXY τ hx) ?_)
      show zk _ _ 71 _ _ _ _
      refine r_retI zi_146_71 rfl ?_
      have hq := hq τ hF
      rw [if_pos (by assumption)] at hq
      exact ⟨_, rfl, hq⟩
    by_cases c4_1 : what = 1
    · rw [c4_1]
      show zk _ _ 72 _ _ _ _
      refine r_al0 zi_146_72 rfl ?_
      refine q_getR zi_146_73 rfl cf_0_8 ?_
      refine q_getI zi_146_76 rfl cf_177_17 ?_
      rw [ht]
      refine r_retI zi_146_79 rfl ?_
      have hq := hq τ hF
      rw [if_neg (by assumption), if_pos (by assumption)] at hq
      exact ⟨_, rfl, hq⟩
    rw [show zsw [(0, 64), (1, 72)] 80 what = 80 from by simp [zsw, c4_0, c4_1]]
    refine r_al0 zi_146_80 rfl ?_
    refine q_getR zi_146_81 rfl cf_0_8 ?_
    refine q_cIV zi_146_84 rfl rfl rfl rfl rfl rfl rfl cf_177_0.ob (s_kmw hn hc10 (hXY τ hx) ?_)
    show zk _ _ 87 _ _ _ _
    refine r_retI zi_146_87 rfl ?_
    have hq := hq τ hF
    rw [if_neg (by assumption), if_neg (by assumption)] at hq
    exact ⟨_, rfl, hq⟩
  · have h0 := h0 hk
    refine r_il1 zi_146_0 rfl ?_
    refine r_push zi_146_1 rfl ?_
    refine r_push zi_146_2 rfl ?_
    refine r_cIS zi_146_3 rfl rfl rfl rfl rfl rfl (s_within (fun i1 a1 => ?_) (fun i1 => ?_))
    · show zk _ _ 6 _ _ _ _
      refine r_if0 zi_146_6 rfl (fun c => absurd c (by decide)) (fun _ => ?_)
      refine r_il2 zi_146_9 rfl ?_
      refine r_push zi_146_10 rfl ?_
      refine r_push zi_146_11 rfl ?_
      refine r_cIS zi_146_12 rfl rfl rfl rfl rfl rfl (s_within (fun i2 a2 => ?_) (fun i2 => ?_))
      · show zk _ _ 15 _ _ _ _
        refine r_if1 zi_146_15 rfl (fun _ => ?_) (fun c => absurd c (by decide))
        exact absurd ⟨by assumption, by assumption, by assumption, by assumption⟩ hk
      · show zk _ _ 15 _ _ _ _
        refine r_if1 zi_146_15 rfl (fun c => absurd (by decide) c) (fun _ => ?_)
        refine r_push zi_146_18 rfl ?_
        refine r_retI zi_146_19 rfl ?_
        exact ⟨_, rfl, h0⟩
    · show zk _ _ 6 _ _ _ _
      refine r_if0 zi_146_6 rfl (fun _ => ?_) (fun c => absurd (by decide) c)
      refine r_push zi_146_18 rfl ?_
      refine r_retI zi_146_19 rfl ?_
      exact ⟨_, rfl, h0⟩

