/-! SUBJECT, both sides -/
def suOK (p z : Int32) (n : Nat) : Prop := 0 ≤ p ∧ p < 12 ∧ 0 ≤ z ∧ z ≤ 9 ∧ n < 18
theorem s_ksubject {d n : Nat} {σ : zS} {Q : Int32 → zS → Prop} {p z : Int32} (hn : σ 2 11 = nI n) (hn18 : n ≤ 18) (h1 : suOK p z n → Q (nI n) (up (up (up (up (up σ 6 n p) 7 n z) 9 n 1) 2 11 (nI (n + 1))) 95 2 0)) (h0 : ¬ suOK p z n → Q (-1) σ) : zI1 (d + 1) 122 [.ref 0, .int p, .int z] σ Q := by
  show zk _ _ 0 [.ref 0, .int p, .int z, zun, zun] [] _ _
  by_cases hk : suOK p z n
  · replace h1 := h1 hk
    clear h0
    obtain ⟨k1, k2, k3, k4, k5⟩ := hk
    refine r_al0 zi_122_0 rfl ?_
    refine q_getR zi_122_1 rfl cf_0_0 ?_
    refine q_getR zi_122_4 rfl cf_1_0 ?_
    refine r_as3 zi_122_7 rfl ?_
    refine r_al3 zi_122_8 rfl ?_
    refine q_getIe zi_122_9 rfl cf_2_11 (v := nI n) (by first | exact hn | ((repeat (first | rw [zup_ne (by first | decide | omega)] | rw [zup_nj (by first | decide | omega)] | rw [fil_ne (by first | decide | omega)])) <;> exact hn) | (simp [up_rd, fil_rd]; exact hn)) ?_
    refine r_is4 zi_122_12 rfl ?_
    refine r_il1 zi_122_14 rfl ?_
    refine r_cIS zi_122_15 rfl rfl rfl rfl rfl rfl (s_kplace (fun _ _ => ?_) (fun z => absurd ⟨k1, k2⟩ z))
    show zk _ _ 18 _ _ _ _
    refine r_if0 zi_122_18 rfl (fun c => absurd c (by decide)) (fun _ => ?_)
    refine r_il2 zi_122_21 rfl ?_
    refine r_push zi_122_22 rfl ?_
    refine r_push zi_122_23 rfl ?_
    refine r_cIS zi_122_25 rfl rfl rfl rfl rfl rfl (s_within (fun _ _ => ?_) (fun z => absurd ⟨k3, k4⟩ z))
    show zk _ _ 28 _ _ _ _
    refine r_if0 zi_122_28 rfl (fun c => absurd c (by decide)) (fun _ => ?_)
    refine r_il4 zi_122_31 rfl ?_
    refine n_if2 (i := n) zi_122_33 rfl (by omega) (fun c => absurd c (by omega)) (fun _ => ?_)
    refine r_il4 zi_122_36 rfl ?_
    refine r_push zi_122_38 rfl ?_
    refine n_ic2 (i := n) (j := 18) zi_122_40 rfl (by omega) (by omega) (fun _ => ?_) (fun c => absurd c (by omega))
    refine r_al3 zi_122_45 rfl ?_
    refine q_getR zi_122_46 rfl cf_2_3 ?_
    refine r_il4 zi_122_49 rfl ?_
    refine r_il1 zi_122_51 rfl ?_
    refine r_ast zi_122_52 rfl n ca_6 (by first | rfl | (simp only [zI_add, zI_mul] <;> rfl)) (by first | omega | decide) ?_
    refine r_al3 zi_122_53 rfl ?_
    refine q_getR zi_122_54 rfl cf_2_4 ?_
    refine r_il4 zi_122_57 rfl ?_
    refine r_il2 zi_122_59 rfl ?_
    refine r_ast zi_122_60 rfl n ca_7 (by first | rfl | (simp only [zI_add, zI_mul] <;> rfl)) (by first | omega | decide) ?_
    refine r_al3 zi_122_61 rfl ?_
    refine q_getR zi_122_62 rfl cf_2_6 ?_
    refine r_il4 zi_122_65 rfl ?_
    refine r_push zi_122_67 rfl ?_
    refine r_ast zi_122_68 rfl n ca_9 (by first | rfl | (simp only [zI_add, zI_mul] <;> rfl)) (by first | omega | decide) ?_
    refine r_al3 zi_122_69 rfl ?_
    refine r_il4 zi_122_70 rfl ?_
    refine r_push zi_122_72 rfl ?_
    refine r_b0 zi_122_73 rfl ?_
    rw [show (nI n + 1 : Int32) = nI (n + 1) from nI_add _ _]
    refine q_put zi_122_74 rfl cf_2_11 rfl ?_
    refine r_al0 zi_122_77 rfl ?_
    refine q_getR zi_122_78 rfl cf_0_6 ?_
    refine q_cVV zi_122_81 rfl rfl rfl rfl rfl rfl rfl cf_95_0.ob (s_forget ?_)
    show zk _ _ 84 _ _ _ _
    refine r_il4 zi_122_84 rfl ?_
    refine r_retI zi_122_86 rfl ?_
    exact ⟨_, rfl, h1⟩
  · replace h0 := h0 hk
    clear h1
    refine r_al0 zi_122_0 rfl ?_
    refine q_getR zi_122_1 rfl cf_0_0 ?_
    refine q_getR zi_122_4 rfl cf_1_0 ?_
    refine r_as3 zi_122_7 rfl ?_
    refine r_al3 zi_122_8 rfl ?_
    refine q_getIe zi_122_9 rfl cf_2_11 (v := nI n) (by first | exact hn | ((repeat (first | rw [zup_ne (by first | decide | omega)] | rw [zup_nj (by first | decide | omega)] | rw [fil_ne (by first | decide | omega)])) <;> exact hn) | (simp [up_rd, fil_rd]; exact hn)) ?_
    refine r_is4 zi_122_12 rfl ?_
    refine r_il1 zi_122_14 rfl ?_
    refine r_cIS zi_122_15 rfl rfl rfl rfl rfl rfl (s_kplace (fun i1 a1 => ?_) (fun i1 => ?_))
    · show zk _ _ 18 _ _ _ _
      refine r_if0 zi_122_18 rfl (fun c => absurd c (by decide)) (fun _ => ?_)
      refine r_il2 zi_122_21 rfl ?_
      refine r_push zi_122_22 rfl ?_
      refine r_push zi_122_23 rfl ?_
      refine r_cIS zi_122_25 rfl rfl rfl rfl rfl rfl (s_within (fun i2 a2 => ?_) (fun i2 => ?_))
      · show zk _ _ 28 _ _ _ _
        refine r_if0 zi_122_28 rfl (fun c => absurd c (by decide)) (fun _ => ?_)
        refine r_il4 zi_122_31 rfl ?_
        refine n_if2 (i := n) zi_122_33 rfl (by omega) (fun c3 => ?_) (fun c3 => ?_)
        · refine r_push zi_122_43 rfl ?_
          refine r_retI zi_122_44 rfl ?_
          exact ⟨_, rfl, h0⟩
        · refine r_il4 zi_122_36 rfl ?_
          refine r_push zi_122_38 rfl ?_
          refine n_ic2 (i := n) (j := 18) zi_122_40 rfl (by omega) (by omega) (fun c4 => ?_) (fun c4 => ?_)
          · exact absurd ⟨by assumption, by assumption, by assumption, by assumption, by omega⟩ hk
          · refine r_push zi_122_43 rfl ?_
            refine r_retI zi_122_44 rfl ?_
            exact ⟨_, rfl, h0⟩
      · show zk _ _ 28 _ _ _ _
        refine r_if0 zi_122_28 rfl (fun _ => ?_) (fun c => absurd (by decide) c)
        refine r_push zi_122_43 rfl ?_
        refine r_retI zi_122_44 rfl ?_
        exact ⟨_, rfl, h0⟩
    · show zk _ _ 18 _ _ _ _
      refine r_if0 zi_122_18 rfl (fun _ => ?_) (fun c => absurd (by decide) c)
      refine r_push zi_122_43 rfl ?_
      refine r_retI zi_122_44 rfl ?_
      exact ⟨_, rfl, h0⟩
theorem l_msub {d n : Nat} {σ : zS} {R : Option Int32 → zS → Prop} {p z : Int32} (hn : σ 195 6 = nI n) (hn18 : n < 18) (hq : ∀ τ u, (∀ a b, a ≠ 196 → τ a b = σ a b) → (∀ k, k < 5 → τ 196 (30 + 18 * k + n) = 0) → (∀ b, (∀ k, k < 5 → b ≠ 30 + 18 * k + n) → τ 196 b = σ 196 b) → zk d 182 74 [.ref 195, .int p, .int z, u] [] τ R) : ∀ (m j : Nat) (τ : zS), j + m = 5 → (∀ a b, a ≠ 196 → τ a b = σ a b) → (∀ k, k < j → τ 196 (30 + 18 * k + n) = 0) → (∀ b, (∀ k, k < 5 → b ≠ 30 + 18 * k + n) → τ 196 b = σ 196 b) → zk d 182 48 [.ref 195, .int p, .int z, .int (nI (30 + 18 * j))] [] τ R := by
  intro m
  induction m with
  | zero =>
    intro j τ hj h1 h2 h3
    refine r_il3 zi_182_48 rfl ?_
    refine r_push zi_182_49 rfl ?_
    refine n_ic3 (i := (30 + 18 * j)) (j := 120) zi_182_51 rfl (by omega) (by omega) (fun _ => ?_) (fun c => absurd c (by omega))
    exact hq τ _ h1 (fun k hk => h2 k (by omega)) h3
  | succ m ih =>
    intro j τ hj h1 h2 h3
    have en : τ 195 6 = nI n := (h1 195 6 (by decide)).trans hn
    have hfin : zk d 182 48 [.ref 195, .int p, .int z, .int (nI (30 + 18 * j + 18))] [] (up τ 196 (30 + 18 * j + n) 0) R := by
      rw [show 30 + 18 * j + 18 = 30 + 18 * (j + 1) by omega]
      refine ih (j + 1) _ (by omega) (fun a b hab => (zup_ne hab).trans (h1 a b hab)) (fun k hk => ?_) (fun b hb => (zup_nj (hb j (by omega))).trans (h3 b hb))
      by_cases e : k = j
      · rw [e, zup_eq]
      · rw [zup_nj (by omega)]; exact h2 k (by omega)
    refine r_il3 zi_182_48 rfl ?_
    refine r_push zi_182_49 rfl ?_
    refine n_ic3 (i := (30 + 18 * j)) (j := 120) zi_182_51 rfl (by omega) (by omega) (fun c => absurd c (by omega)) (fun _ => ?_)
    refine r_al0 zi_182_54 rfl ?_
    refine q_getR zi_182_55 rfl cf_195_1 ?_
    refine r_il3 zi_182_58 rfl ?_
    refine r_al0 zi_182_59 rfl ?_
    refine q_getIe zi_182_60 rfl cf_195_6 (v := nI n) (by first | exact en | ((repeat (first | rw [zup_ne (by first | decide | omega)] | rw [zup_nj (by first | decide | omega)] | rw [fil_ne (by first | decide | omega)])) <;> exact en) | (simp [up_rd, fil_rd]; exact en)) ?_
    refine r_b0 zi_182_63 rfl ?_
    rw [show (nI (30 + 18 * j) + nI n : Int32) = nI ((30 + 18 * j) + n) from nI_add _ _]
    refine r_push zi_182_64 rfl ?_
    refine r_ast zi_182_65 rfl ((30 + 18 * j) + n) ca_196 (by first | rfl | (simp only [zI_add, zI_mul] <;> rfl)) (by first | omega | decide) ?_
    refine r_il3 zi_182_66 rfl ?_
    refine r_push zi_182_67 rfl ?_
    refine r_b0 zi_182_69 rfl ?_
    rw [show (nI (30 + 18 * j) + 18 : Int32) = nI ((30 + 18 * j) + 18) from nI_add _ _]
    refine r_is3 zi_182_70 rfl ?_
    refine r_goto zi_182_71 rfl ?_
    exact hfin
theorem s_msubject {d n : Nat} {σ : zS} {Q : Int32 → zS → Prop} {p z : Int32} (hn : σ 195 6 = nI n) (hn18 : n ≤ 18) (h1 : suOK p z n → ∀ τ, (∀ a b, a ≠ 196 → a ≠ 200 → ¬ (a = 195 ∧ (b = 0 ∨ b = 3 ∨ b = 6)) → τ a b = σ a b) → (∀ b, τ 200 b = if b = n then z else σ 200 b) → τ 196 (30 + n) = p → (∀ k, 1 ≤ k → k < 5 → τ 196 (30 + 18 * k + n) = 0) → (∀ b, (∀ k, k < 5 → b ≠ 30 + 18 * k + n) → τ 196 b = σ 196 b) → τ 195 3 = 0 → τ 195 6 = nI (n + 1) → Q (nI n) τ) (h0 : ¬ suOK p z n → Q (-1) (up σ 195 0 0)) : zI1 (d + 1) 182 [.ref 195, .int p, .int z] σ Q := by
  have hn' : up σ 195 0 0 195 6 = nI n := (zup_n2 (by omega)).trans hn
  show zk _ _ 0 [.ref 195, .int p, .int z, zun] [] _ _
  by_cases hk : suOK p z n
  · replace h1 := h1 hk
    clear h0
    obtain ⟨k1, k2, k3, k4, k5⟩ := hk
    have e2 : up (up σ 195 0 0) 200 n z 195 6 = nI n := (zup_n2 (by omega)).trans hn'
    refine r_al0 zi_182_0 rfl ?_
    refine r_push zi_182_1 rfl ?_
    refine q_put zi_182_2 rfl cf_195_0 rfl ?_
    refine r_al0 zi_182_5 rfl ?_
    refine r_il1 zi_182_6 rfl ?_
    refine q_cIV zi_182_7 rfl rfl rfl rfl rfl rfl rfl cf_195_0.ob (s_mplace (fun _ _ => ?_) (fun z => absurd ⟨k1, k2⟩ z))
    show zk _ _ 10 _ _ _ _
    refine r_if0 zi_182_10 rfl (fun c => absurd c (by decide)) (fun _ => ?_)
    refine r_al0 zi_182_13 rfl ?_
    refine r_il2 zi_182_14 rfl ?_
    refine r_push zi_182_15 rfl ?_
    refine r_push zi_182_16 rfl ?_
    refine q_cIV zi_182_18 rfl rfl rfl rfl rfl rfl rfl cf_195_0.ob (s_isIn (fun _ _ => ?_) (fun z => absurd ⟨k3, k4⟩ z))
    show zk _ _ 21 _ _ _ _
    refine r_if0 zi_182_21 rfl (fun c => absurd c (by decide)) (fun _ => ?_)
    refine r_al0 zi_182_24 rfl ?_
    refine q_getIe zi_182_25 rfl cf_195_6 (v := nI n) (by first | exact hn' | ((repeat (first | rw [zup_ne (by first | decide | omega)] | rw [zup_nj (by first | decide | omega)] | rw [fil_ne (by first | decide | omega)])) <;> exact hn') | (simp [up_rd, fil_rd]; exact hn')) ?_
    refine r_push zi_182_28 rfl ?_
    refine n_ic1 (i := n) (j := 18) zi_182_30 rfl (by omega) (by omega) (fun _ => ?_) (fun c => absurd c (by omega))
    refine r_al0 zi_182_35 rfl ?_
    refine q_getR zi_182_36 rfl cf_195_8 ?_
    refine r_al0 zi_182_39 rfl ?_
    refine q_getIe zi_182_40 rfl cf_195_6 (v := nI n) (by first | exact hn' | ((repeat (first | rw [zup_ne (by first | decide | omega)] | rw [zup_nj (by first | decide | omega)] | rw [fil_ne (by first | decide | omega)])) <;> exact hn') | (simp [up_rd, fil_rd]; exact hn')) ?_
    refine r_il2 zi_182_43 rfl ?_
    refine r_ast zi_182_44 rfl n ca_200 (by first | rfl | (simp only [zI_add, zI_mul] <;> rfl)) (by first | omega | decide) ?_
    refine r_push zi_182_45 rfl ?_
    refine r_is3 zi_182_47 rfl ?_
    refine l_msub (σ := up (up σ 195 0 0) 200 n z) e2 k5 (fun τ u t1 t2 t3 => ?_) 5 0 _ (by omega) (fun _ _ _ => rfl) (fun k hk => by omega) (fun _ _ => rfl)
    have en : τ 195 6 = nI n := (t1 195 6 (by decide)).trans e2
    have hfin : Q (nI n) (up (up (up τ 196 (30 + n) p) 195 6 (nI (n + 1))) 195 3 0) := by
      refine h1 _ (fun a b g1 g2 g3 => ?_) (fun b => ?_) ?_ (fun k g1 g2 => ?_) (fun b hb => ?_) zup_eq ((zup_n2 (by omega)).trans zup_eq)
      · rw [zup_n2 (by omega), zup_n2 (by omega), zup_n2 (by omega), t1 a b g1, zup_n2 (by omega), zup_n2 (by omega)]
      · rw [zup_n2 (by omega), zup_n2 (by omega), zup_n2 (by omega), t1 200 b (by decide)]
        by_cases e : b = n
        · rw [e, zup_eq, if_pos rfl]
        · rw [zup_n2 (by omega), zup_n2 (by omega), if_neg e]
      · rw [zup_n2 (by omega), zup_n2 (by omega), zup_eq]
      · rw [zup_n2 (by omega), zup_n2 (by omega), zup_n2 (by omega)]; exact t2 k g2
      · have := hb 0 (by omega)
        rw [zup_n2 (by omega), zup_n2 (by omega), zup_n2 (by omega), t3 b hb, zup_n2 (by omega), zup_n2 (by omega)]
    refine r_al0 zi_182_74 rfl ?_
    refine q_getR zi_182_75 rfl cf_195_1 ?_
    refine r_push zi_182_78 rfl ?_
    refine r_al0 zi_182_80 rfl ?_
    refine q_getIe zi_182_81 rfl cf_195_6 (v := nI n) (by first | exact en | ((repeat (first | rw [zup_ne (by first | decide | omega)] | rw [zup_nj (by first | decide | omega)] | rw [fil_ne (by first | decide | omega)])) <;> exact en) | (simp [up_rd, fil_rd]; exact en)) ?_
    refine r_b0 zi_182_84 rfl ?_
    rw [show (30 + nI n : Int32) = nI (30 + n) from nI_add _ _]
    refine r_il1 zi_182_85 rfl ?_
    refine r_ast zi_182_86 rfl (30 + n) ca_196 (by first | rfl | (simp only [zI_add, zI_mul] <;> rfl)) (by first | omega | decide) ?_
    refine r_al0 zi_182_87 rfl ?_
    refine r_al0 zi_182_88 rfl ?_
    refine q_getIe zi_182_89 rfl cf_195_6 (v := nI n) (by first | exact ((zup_n2 (by omega)).trans en) | ((repeat (first | rw [zup_ne (by first | decide | omega)] | rw [zup_nj (by first | decide | omega)] | rw [fil_ne (by first | decide | omega)])) <;> exact ((zup_n2 (by omega)).trans en)) | (simp [up_rd, fil_rd]; exact ((zup_n2 (by omega)).trans en))) ?_
    refine r_push zi_182_92 rfl ?_
    refine r_b0 zi_182_93 rfl ?_
    rw [show (nI n + 1 : Int32) = nI (n + 1) from nI_add _ _]
    refine q_put zi_182_94 rfl cf_195_6 rfl ?_
    refine r_al0 zi_182_97 rfl ?_
    refine r_push zi_182_98 rfl ?_
    refine q_put zi_182_99 rfl cf_195_3 rfl ?_
    refine r_al0 zi_182_102 rfl ?_
    refine q_getIe zi_182_103 rfl cf_195_6 (v := nI (n + 1)) (by first | exact ((zup_n2 (by omega)).trans zup_eq) | ((repeat (first | rw [zup_ne (by first | decide | omega)] | rw [zup_nj (by first | decide | omega)] | rw [fil_ne (by first | decide | omega)])) <;> exact ((zup_n2 (by omega)).trans zup_eq)) | (simp [up_rd, fil_rd]; exact ((zup_n2 (by omega)).trans zup_eq))) ?_
    refine r_push zi_182_106 rfl ?_
    refine r_b1 zi_182_107 rfl ?_
    rw [show (nI (n + 1) - 1 : Int32) = nI ((n + 1) - 1) from pk_sub (a := (n + 1)) (b := 1) (by omega)]
    refine r_retI zi_182_108 rfl ?_
    exact ⟨_, rfl, hfin⟩
  · replace h0 := h0 hk
    clear h1
    refine r_al0 zi_182_0 rfl ?_
    refine r_push zi_182_1 rfl ?_
    refine q_put zi_182_2 rfl cf_195_0 rfl ?_
    refine r_al0 zi_182_5 rfl ?_
    refine r_il1 zi_182_6 rfl ?_
    refine q_cIV zi_182_7 rfl rfl rfl rfl rfl rfl rfl cf_195_0.ob (s_mplace (fun i1 a1 => ?_) (fun i1 => ?_))
    · show zk _ _ 10 _ _ _ _
      refine r_if0 zi_182_10 rfl (fun c => absurd c (by decide)) (fun _ => ?_)
      refine r_al0 zi_182_13 rfl ?_
      refine r_il2 zi_182_14 rfl ?_
      refine r_push zi_182_15 rfl ?_
      refine r_push zi_182_16 rfl ?_
      refine q_cIV zi_182_18 rfl rfl rfl rfl rfl rfl rfl cf_195_0.ob (s_isIn (fun i2 a2 => ?_) (fun i2 => ?_))
      · show zk _ _ 21 _ _ _ _
        refine r_if0 zi_182_21 rfl (fun c => absurd c (by decide)) (fun _ => ?_)
        refine r_al0 zi_182_24 rfl ?_
        refine q_getIe zi_182_25 rfl cf_195_6 (v := nI n) (by first | exact hn' | ((repeat (first | rw [zup_ne (by first | decide | omega)] | rw [zup_nj (by first | decide | omega)] | rw [fil_ne (by first | decide | omega)])) <;> exact hn') | (simp [up_rd, fil_rd]; exact hn')) ?_
        refine r_push zi_182_28 rfl ?_
        refine n_ic1 (i := n) (j := 18) zi_182_30 rfl (by omega) (by omega) (fun c3 => ?_) (fun c3 => ?_)
        · exact absurd ⟨by assumption, by assumption, by assumption, by assumption, by omega⟩ hk
        · refine r_push zi_182_33 rfl ?_
          refine r_retI zi_182_34 rfl ?_
          exact ⟨_, rfl, h0⟩
      · show zk _ _ 21 _ _ _ _
        refine r_if0 zi_182_21 rfl (fun _ => ?_) (fun c => absurd (by decide) c)
        refine r_push zi_182_33 rfl ?_
        refine r_retI zi_182_34 rfl ?_
        exact ⟨_, rfl, h0⟩
    · show zk _ _ 10 _ _ _ _
      refine r_if0 zi_182_10 rfl (fun _ => ?_) (fun c => absurd (by decide) c)
      refine r_push zi_182_33 rfl ?_
      refine r_retI zi_182_34 rfl ?_
      exact ⟨_, rfl, h0⟩

