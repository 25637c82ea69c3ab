/-! THE MODEL'S IMAGE -/
def mIm (g : Bool) (σ : zS) (i : Nat) (τ : zS) : Prop := τ 195 68 = nI i ∧ (∀ a b, a ≠ 237 → ¬ (a = 195 ∧ b = 68) → (∀ j, j < i → ¬ vIm a b j) → τ a b = σ a b) ∧ (∀ a b j, j < i → vIm a b j → τ a b = (if g = true then σ a b else σ 237 j)) ∧ (∀ j, (g = true → i ≤ j) → τ 237 j = σ 237 j) ∧ (g = true → ∀ a b j, j < i → vIm a b j → τ 237 j = σ a b)
theorem vIm_n {a b j : Nat} (h : vIm a b j) : a ≠ 237 ∧ ¬ (a = 195 ∧ b = 68) ∧ j < 1818 := by unfold vIm at h; omega
theorem mIm_t {i a0 b0 : Nat} {σ τ : zS} (h : mIm true σ i τ) (hv : vIm a0 b0 i) (h2 : ∀ a b, vIm a b i → a = a0 ∧ b = b0) (h3 : ∀ j, vIm a0 b0 j → j = i) : mIm true σ (i + 1) (up (up (up τ 195 68 (nI (i + 1))) 237 i (τ a0 b0)) a0 b0 (τ a0 b0)) := by
  obtain ⟨n1, n2, n3⟩ := vIm_n hv
  obtain ⟨k1, k2, k3, k4, k5⟩ := h
  have e0 : τ a0 b0 = σ a0 b0 := k2 a0 b0 n1 n2 (fun j hj z => by have := h3 j z; omega)
  refine ⟨by rw [zup_n2 (by omega), zup_n2 (by omega), zup_eq], fun a b g1 g2 g3 => ?_, fun a b j hj hjv => ?_, fun j hj => ?_, fun _ a b j hj hjv => ?_⟩
  · rw [zup_n2 (fun z => g3 i (by omega) (by rw [z.1, z.2]; exact hv)), zup_n2 (by omega), zup_n2 g2]
    exact k2 a b g1 g2 (fun j hj => g3 j (by omega))
  · obtain ⟨m1, m2, m3⟩ := vIm_n hjv
    rw [if_pos rfl]
    by_cases e : j = i
    · subst e
      obtain ⟨q1, q2⟩ := h2 a b hjv
      rw [q1, q2, zup_eq]; exact e0
    · rw [zup_n2 (fun z => e (h3 j (by rw [← z.1, ← z.2]; exact hjv))), zup_n2 (by omega), zup_n2 m2]
      exact (k3 a b j (by omega) hjv).trans (if_pos rfl)
  · have := hj rfl
    rw [zup_n2 (by omega), zup_n2 (by omega), zup_n2 (by omega)]
    exact k4 j (fun _ => by omega)
  · rw [zup_n2 (by omega)]
    by_cases e : j = i
    · subst e
      obtain ⟨q1, q2⟩ := h2 a b hjv
      rw [q1, q2, zup_eq]; exact e0
    · rw [zup_n2 (by omega), zup_n2 (by omega)]
      exact k5 rfl a b j (by omega) hjv
theorem mIm_r {i a0 b0 : Nat} {σ τ : zS} (h : mIm false σ i τ) (hv : vIm a0 b0 i) (h2 : ∀ a b, vIm a b i → a = a0 ∧ b = b0) (h3 : ∀ j, vIm a0 b0 j → j = i) : mIm false σ (i + 1) (up (up τ 195 68 (nI (i + 1))) a0 b0 (τ 237 i)) := by
  obtain ⟨n1, n2, n3⟩ := vIm_n hv
  obtain ⟨k1, k2, k3, k4, k5⟩ := h
  refine ⟨by rw [zup_n2 (by omega), zup_eq], fun a b g1 g2 g3 => ?_, fun a b j hj hjv => ?_, fun j hj => ?_, fun z => by cases z⟩
  · rw [zup_n2 (fun z => g3 i (by omega) (by rw [z.1, z.2]; exact hv)), zup_n2 g2]
    exact k2 a b g1 g2 (fun j hj => g3 j (by omega))
  · obtain ⟨m1, m2, m3⟩ := vIm_n hjv
    rw [if_neg (by decide)]
    by_cases e : j = i
    · subst e
      obtain ⟨q1, q2⟩ := h2 a b hjv
      rw [q1, q2, zup_eq]; exact k4 j (fun z => by cases z)
    · rw [zup_n2 (fun z => e (h3 j (by rw [← z.1, ← z.2]; exact hjv))), zup_n2 m2]
      exact (k3 a b j (by omega) hjv).trans (if_neg (by decide))
  · rw [zup_n2 (by omega), zup_n2 (by omega)]
    exact k4 j (fun z => by cases z)
theorem s_mkeeps {d i a0 b0 : Nat} {g : Bool} {σ τ : zS} {Q : Int32 → zS → Prop} (h : mIm g σ i τ) (hg : σ 195 66 = if g = true then 1 else 0) (hv : vIm a0 b0 i) (h2 : ∀ a b, vIm a b i → a = a0 ∧ b = b0) (h3 : ∀ j, vIm a0 b0 j → j = i) (hq : ∀ τ' v, mIm g σ (i + 1) (up τ' a0 b0 v) → Q v τ') : zI1 d 285 [.ref 195, .int (τ a0 b0)] τ Q := by
  have h1 := h.1
  have hn := (vIm_n hv).2.2
  have e66 : up τ 195 68 (nI (i + 1)) 195 66 = if g = true then 1 else 0 := (zup_nj (by decide)).trans ((h.2.1 195 66 (by decide) (by decide) (fun j _ z => by unfold vIm at z; omega)).trans hg)
  show zk _ _ 0 [.ref 195, .int (τ a0 b0)] [] _ _
  cases g with
  | true =>
    have hq := hq (up (up τ 195 68 (nI (i + 1))) 237 i (τ a0 b0)) _ (mIm_t h hv h2 h3)
    generalize τ a0 b0 = v at *
    refine r_al0 zi_285_0 rfl ?_
    refine r_al0 zi_285_1 rfl ?_
    refine q_getIe zi_285_2 rfl cf_195_68 (v := nI i) (by first | exact h1 | ((repeat (first | rw [zup_ne (by first | decide | omega)] | rw [zup_nj (by first | decide | omega)] | rw [fil_ne (by first | decide | omega)])) <;> exact h1) | (simp [up_rd, fil_rd]; exact h1)) ?_
    refine r_push zi_285_5 rfl ?_
    refine r_b0 zi_285_6 rfl ?_
    rw [show (nI i + 1 : Int32) = nI (i + 1) from nI_add _ _]
    refine q_put zi_285_7 rfl cf_195_68 rfl ?_
    refine r_al0 zi_285_10 rfl ?_
    refine q_getIe zi_285_11 rfl cf_195_66 (v := nI 1) (by first | exact e66 | ((repeat (first | rw [zup_ne (by first | decide | omega)] | rw [zup_nj (by first | decide | omega)] | rw [fil_ne (by first | decide | omega)])) <;> exact e66) | (simp [up_rd, fil_rd]; exact e66)) ?_
    refine n_if1 (i := 1) zi_285_14 rfl (by omega) (fun _ => ?_) (fun c => absurd c (by omega))
    refine r_al0 zi_285_29 rfl ?_
    refine q_getR zi_285_30 rfl cf_195_69 ?_
    refine r_al0 zi_285_33 rfl ?_
    refine q_getIe zi_285_34 rfl cf_195_68 (v := nI (i + 1)) (by first | exact zup_eq | ((repeat (first | rw [zup_ne (by first | decide | omega)] | rw [zup_nj (by first | decide | omega)] | rw [fil_ne (by first | decide | omega)])) <;> exact zup_eq) | (simp [up_rd, fil_rd]; exact zup_eq)) ?_
    refine r_push zi_285_37 rfl ?_
    refine r_b1 zi_285_38 rfl ?_
    rw [show (nI (i + 1) - 1 : Int32) = nI ((i + 1) - 1) from pk_sub (a := (i + 1)) (b := 1) (by omega)]
    refine r_il1 zi_285_39 rfl ?_
    refine r_ast zi_285_40 rfl ((i + 1) - 1) ca_237 (by first | rfl | (simp only [zI_add, zI_mul] <;> rfl)) (by first | omega | decide) ?_
    refine r_il1 zi_285_41 rfl ?_
    refine r_retI zi_285_42 rfl ?_
    exact ⟨_, rfl, hq⟩
  | false =>
    have hq := hq (up τ 195 68 (nI (i + 1))) _ (mIm_r h hv h2 h3)
    generalize τ a0 b0 = v at *
    refine r_al0 zi_285_0 rfl ?_
    refine r_al0 zi_285_1 rfl ?_
    refine q_getIe zi_285_2 rfl cf_195_68 (v := nI i) (by first | exact h1 | ((repeat (first | rw [zup_ne (by first | decide | omega)] | rw [zup_nj (by first | decide | omega)] | rw [fil_ne (by first | decide | omega)])) <;> exact h1) | (simp [up_rd, fil_rd]; exact h1)) ?_
    refine r_push zi_285_5 rfl ?_
    refine r_b0 zi_285_6 rfl ?_
    rw [show (nI i + 1 : Int32) = nI (i + 1) from nI_add _ _]
    refine q_put zi_285_7 rfl cf_195_68 rfl ?_
    refine r_al0 zi_285_10 rfl ?_
    refine q_getIe zi_285_11 rfl cf_195_66 (v := nI 0) (by first | exact e66 | ((repeat (first | rw [zup_ne (by first | decide | omega)] | rw [zup_nj (by first | decide | omega)] | rw [fil_ne (by first | decide | omega)])) <;> exact e66) | (simp [up_rd, fil_rd]; exact e66)) ?_
    refine n_if1 (i := 0) zi_285_14 rfl (by omega) (fun c => absurd c (by omega)) (fun _ => ?_)
    refine r_al0 zi_285_17 rfl ?_
    refine q_getR zi_285_18 rfl cf_195_69 ?_
    refine r_al0 zi_285_21 rfl ?_
    refine q_getIe zi_285_22 rfl cf_195_68 (v := nI (i + 1)) (by first | exact zup_eq | ((repeat (first | rw [zup_ne (by first | decide | omega)] | rw [zup_nj (by first | decide | omega)] | rw [fil_ne (by first | decide | omega)])) <;> exact zup_eq) | (simp [up_rd, fil_rd]; exact zup_eq)) ?_
    refine r_push zi_285_25 rfl ?_
    refine r_b1 zi_285_26 rfl ?_
    rw [show (nI (i + 1) - 1 : Int32) = nI ((i + 1) - 1) from pk_sub (a := (i + 1)) (b := 1) (by omega)]
    refine r_alde zi_285_27 rfl ((i + 1) - 1) ca_237 (by first | rfl | (simp only [zI_add, zI_mul] <;> rfl)) (by first | omega | decide) (u := τ 237 i) (by first | exact zup_ne (by decide) | ((repeat (first | rw [zup_ne (by first | decide | omega)] | rw [zup_nj (by first | decide | omega)] | rw [fil_ne (by first | decide | omega)])) <;> exact zup_ne (by decide)) | (simp [up_rd, fil_rd]; exact zup_ne (by decide))) ?_
    refine r_retI zi_285_28 rfl ?_
    exact ⟨_, rfl, hq⟩
theorem l_im0 {d : Nat} {g : Bool} {σ : zS} {R : Option Int32 → zS → Prop} {w : Int32} (hg : σ 195 66 = if g = true then 1 else 0) (hq : ∀ τ u, mIm g σ 170 τ → zk (d + 1) 288 64 [.ref 195, .int w, u] [] τ R) : ∀ (m i : Nat) (τ : zS), i + m = 170 → mIm g σ (0 + i) τ → zk (d + 1) 288 35 [.ref 195, .int w, .int (nI i)] [] τ R := by
  intro m
  induction m with
  | zero =>
    intro i τ hi h
    have e : i = 170 := by omega
    subst e
    refine r_il2 zi_288_35 rfl ?_
    refine r_push zi_288_36 rfl ?_
    refine n_ic3 (i := 170) (j := 170) zi_288_39 rfl (by omega) (by omega) (fun _ => ?_) (fun c => absurd c (by omega))
    exact hq τ _ h
  | succ m ih =>
    intro i τ hi h
    refine r_il2 zi_288_35 rfl ?_
    refine r_push zi_288_36 rfl ?_
    refine n_ic3 (i := i) (j := 170) zi_288_39 rfl (by omega) (by omega) (fun c => absurd c (by omega)) (fun _ => ?_)
    refine r_al0 zi_288_42 rfl ?_
    refine q_getR zi_288_43 rfl cf_195_1 ?_
    refine r_il2 zi_288_46 rfl ?_
    refine r_al0 zi_288_47 rfl ?_
    refine r_al0 zi_288_48 rfl ?_
    refine q_getR zi_288_49 rfl cf_195_1 ?_
    refine r_il2 zi_288_52 rfl ?_
    refine r_alde zi_288_53 rfl i ca_196 (by first | rfl | (simp only [zI_add, zI_mul] <;> rfl)) (by first | omega | decide) (u := τ 196 i) (by first | exact rfl | ((repeat (first | rw [zup_ne (by first | decide | omega)] | rw [zup_nj (by first | decide | omega)] | rw [fil_ne (by first | decide | omega)])) <;> exact rfl) | (simp [up_rd, fil_rd]; exact rfl)) ?_
    refine q_cIV zi_288_54 rfl rfl rfl rfl rfl rfl rfl cf_195_0.ob (s_mkeeps (a0 := 196) (b0 := i) (i := 0 + i) h hg (by unfold vIm; left; omega) (fun a b z => by unfold vIm at z; omega) (fun j z => by unfold vIm at z; omega) (fun τ0' v0 g0 => ?_))
    show zk _ _ 57 _ _ _ _
    refine r_ast zi_288_57 rfl i ca_196 (by first | rfl | (simp only [zI_add, zI_mul] <;> rfl)) (by first | omega | decide) ?_
    refine zk_bk (P := mIm g σ (0 + i + 1)) g0 (fun τ0 h0 => ?_)
    refine r_in2 zi_288_58 rfl ?_
    rw [show (nI i + 1 : Int32) = nI (i + 1) from nI_add _ _]
    refine r_goto zi_288_61 rfl ?_
    exact ih (i + 1) _ (by omega) h0
theorem l_im9 {d : Nat} {g : Bool} {σ : zS} {R : Option Int32 → zS → Prop} {w : Int32} (hg : σ 195 66 = if g = true then 1 else 0) (hq : ∀ τ u, mIm g σ 953 τ → zk (d + 1) 288 99 [.ref 195, .int w, u] [] τ R) : ∀ (m i : Nat) (τ : zS), i + m = 600 → mIm g σ (353 + i) τ → zk (d + 1) 288 70 [.ref 195, .int w, .int (nI i)] [] τ R := by
  intro m
  induction m with
  | zero =>
    intro i τ hi h
    have e : i = 600 := by omega
    subst e
    refine r_il2 zi_288_70 rfl ?_
    refine r_push zi_288_71 rfl ?_
    refine n_ic3 (i := 600) (j := 600) zi_288_74 rfl (by omega) (by omega) (fun _ => ?_) (fun c => absurd c (by omega))
    exact hq τ _ h
  | succ m ih =>
    intro i τ hi h
    refine r_il2 zi_288_70 rfl ?_
    refine r_push zi_288_71 rfl ?_
    refine n_ic3 (i := i) (j := 600) zi_288_74 rfl (by omega) (by omega) (fun c => absurd c (by omega)) (fun _ => ?_)
    refine r_al0 zi_288_77 rfl ?_
    refine q_getR zi_288_78 rfl cf_195_9 ?_
    refine r_il2 zi_288_81 rfl ?_
    refine r_al0 zi_288_82 rfl ?_
    refine r_al0 zi_288_83 rfl ?_
    refine q_getR zi_288_84 rfl cf_195_9 ?_
    refine r_il2 zi_288_87 rfl ?_
    refine r_alde zi_288_88 rfl i ca_201 (by first | rfl | (simp only [zI_add, zI_mul] <;> rfl)) (by first | omega | decide) (u := τ 201 i) (by first | exact rfl | ((repeat (first | rw [zup_ne (by first | decide | omega)] | rw [zup_nj (by first | decide | omega)] | rw [fil_ne (by first | decide | omega)])) <;> exact rfl) | (simp [up_rd, fil_rd]; exact rfl)) ?_
    refine q_cIV zi_288_89 rfl rfl rfl rfl rfl rfl rfl cf_195_0.ob (s_mkeeps (a0 := 201) (b0 := i) (i := 353 + i) h hg (by unfold vIm; (iterate 13 right); left; omega) (fun a b z => by unfold vIm at z; omega) (fun j z => by unfold vIm at z; omega) (fun τ0' v0 g0 => ?_))
    show zk _ _ 92 _ _ _ _
    refine r_ast zi_288_92 rfl i ca_201 (by first | rfl | (simp only [zI_add, zI_mul] <;> rfl)) (by first | omega | decide) ?_
    refine zk_bk (P := mIm g σ (353 + i + 1)) g0 (fun τ0 h0 => ?_)
    refine r_in2 zi_288_93 rfl ?_
    rw [show (nI i + 1 : Int32) = nI (i + 1) from nI_add _ _]
    refine r_goto zi_288_96 rfl ?_
    exact ih (i + 1) _ (by omega) h0
theorem l_im1 {d : Nat} {g : Bool} {σ : zS} {R : Option Int32 → zS → Prop} {w : Int32} (hg : σ 195 66 = if g = true then 1 else 0) (hq : ∀ τ u, mIm g σ 202 τ → zk (d + 1) 287 142 [.ref 195, u] [] τ R) : ∀ (m i : Nat) (τ : zS), i + m = 12 → mIm g σ (178 + 2 * i) τ → zk (d + 1) 287 98 [.ref 195, .int (nI i)] [] τ R := by
  intro m
  induction m with
  | zero =>
    intro i τ hi h
    have e : i = 12 := by omega
    subst e
    refine r_il1 zi_287_98 rfl ?_
    refine r_push zi_287_99 rfl ?_
    refine n_ic3 (i := 12) (j := 12) zi_287_101 rfl (by omega) (by omega) (fun _ => ?_) (fun c => absurd c (by omega))
    exact hq τ _ h
  | succ m ih =>
    intro i τ hi h
    refine r_il1 zi_287_98 rfl ?_
    refine r_push zi_287_99 rfl ?_
    refine n_ic3 (i := i) (j := 12) zi_287_101 rfl (by omega) (by omega) (fun c => absurd c (by omega)) (fun _ => ?_)
    refine r_al0 zi_287_104 rfl ?_
    refine q_getR zi_287_105 rfl cf_195_7 ?_
    refine r_il1 zi_287_108 rfl ?_
    refine r_al0 zi_287_109 rfl ?_
    refine r_al0 zi_287_110 rfl ?_
    refine q_getR zi_287_111 rfl cf_195_7 ?_
    refine r_il1 zi_287_114 rfl ?_
    refine r_alde zi_287_115 rfl i ca_199 (by first | rfl | (simp only [zI_add, zI_mul] <;> rfl)) (by first | omega | decide) (u := τ 199 i) (by first | exact rfl | ((repeat (first | rw [zup_ne (by first | decide | omega)] | rw [zup_nj (by first | decide | omega)] | rw [fil_ne (by first | decide | omega)])) <;> exact rfl) | (simp [up_rd, fil_rd]; exact rfl)) ?_
    refine q_cIV zi_287_116 rfl rfl rfl rfl rfl rfl rfl cf_195_0.ob (s_mkeeps (a0 := 199) (b0 := i) (i := 178 + 2 * i) h hg (by unfold vIm; (iterate 2 right); left; omega) (fun a b z => by unfold vIm at z; omega) (fun j z => by unfold vIm at z; omega) (fun τ0' v0 g0 => ?_))
    show zk _ _ 119 _ _ _ _
    refine r_ast zi_287_119 rfl i ca_199 (by first | rfl | (simp only [zI_add, zI_mul] <;> rfl)) (by first | omega | decide) ?_
    refine zk_bk (P := mIm g σ (178 + 2 * i + 1)) g0 (fun τ0 h0 => ?_)
    refine r_al0 zi_287_120 rfl ?_
    refine q_getR zi_287_121 rfl cf_195_38 ?_
    refine r_il1 zi_287_124 rfl ?_
    refine r_al0 zi_287_125 rfl ?_
    refine r_al0 zi_287_126 rfl ?_
    refine q_getR zi_287_127 rfl cf_195_38 ?_
    refine r_il1 zi_287_130 rfl ?_
    refine r_alde zi_287_131 rfl i ca_214 (by first | rfl | (simp only [zI_add, zI_mul] <;> rfl)) (by first | omega | decide) (u := τ0 214 i) (by first | exact rfl | ((repeat (first | rw [zup_ne (by first | decide | omega)] | rw [zup_nj (by first | decide | omega)] | rw [fil_ne (by first | decide | omega)])) <;> exact rfl) | (simp [up_rd, fil_rd]; exact rfl)) ?_
    refine q_cIV zi_287_132 rfl rfl rfl rfl rfl rfl rfl cf_195_0.ob (s_mkeeps (a0 := 214) (b0 := i) (i := 178 + 2 * i + 1) h0 hg (by unfold vIm; (iterate 3 right); left; omega) (fun a b z => by unfold vIm at z; omega) (fun j z => by unfold vIm at z; omega) (fun τ1' v1 g1 => ?_))
    show zk _ _ 135 _ _ _ _
    refine r_ast zi_287_135 rfl i ca_214 (by first | rfl | (simp only [zI_add, zI_mul] <;> rfl)) (by first | omega | decide) ?_
    refine zk_bk (P := mIm g σ (178 + 2 * i + 2)) g1 (fun τ1 h1 => ?_)
    refine r_in1 zi_287_136 rfl ?_
    rw [show (nI i + 1 : Int32) = nI (i + 1) from nI_add _ _]
    refine r_goto zi_287_139 rfl ?_
    exact ih (i + 1) _ (by omega) h1
theorem l_im2 {d : Nat} {g : Bool} {σ : zS} {R : Option Int32 → zS → Prop} {w : Int32} (hg : σ 195 66 = if g = true then 1 else 0) (hq : ∀ τ u, mIm g σ 220 τ → zk (d + 1) 287 172 [.ref 195, u] [] τ R) : ∀ (m i : Nat) (τ : zS), i + m = 18 → mIm g σ (202 + i) τ → zk (d + 1) 287 144 [.ref 195, .int (nI i)] [] τ R := by
  intro m
  induction m with
  | zero =>
    intro i τ hi h
    have e : i = 18 := by omega
    subst e
    refine r_il1 zi_287_144 rfl ?_
    refine r_push zi_287_145 rfl ?_
    refine n_ic3 (i := 18) (j := 18) zi_287_147 rfl (by omega) (by omega) (fun _ => ?_) (fun c => absurd c (by omega))
    exact hq τ _ h
  | succ m ih =>
    intro i τ hi h
    refine r_il1 zi_287_144 rfl ?_
    refine r_push zi_287_145 rfl ?_
    refine n_ic3 (i := i) (j := 18) zi_287_147 rfl (by omega) (by omega) (fun c => absurd c (by omega)) (fun _ => ?_)
    refine r_al0 zi_287_150 rfl ?_
    refine q_getR zi_287_151 rfl cf_195_8 ?_
    refine r_il1 zi_287_154 rfl ?_
    refine r_al0 zi_287_155 rfl ?_
    refine r_al0 zi_287_156 rfl ?_
    refine q_getR zi_287_157 rfl cf_195_8 ?_
    refine r_il1 zi_287_160 rfl ?_
    refine r_alde zi_287_161 rfl i ca_200 (by first | rfl | (simp only [zI_add, zI_mul] <;> rfl)) (by first | omega | decide) (u := τ 200 i) (by first | exact rfl | ((repeat (first | rw [zup_ne (by first | decide | omega)] | rw [zup_nj (by first | decide | omega)] | rw [fil_ne (by first | decide | omega)])) <;> exact rfl) | (simp [up_rd, fil_rd]; exact rfl)) ?_
    refine q_cIV zi_287_162 rfl rfl rfl rfl rfl rfl rfl cf_195_0.ob (s_mkeeps (a0 := 200) (b0 := i) (i := 202 + i) h hg (by unfold vIm; (iterate 4 right); left; omega) (fun a b z => by unfold vIm at z; omega) (fun j z => by unfold vIm at z; omega) (fun τ0' v0 g0 => ?_))
    show zk _ _ 165 _ _ _ _
    refine r_ast zi_287_165 rfl i ca_200 (by first | rfl | (simp only [zI_add, zI_mul] <;> rfl)) (by first | omega | decide) ?_
    refine zk_bk (P := mIm g σ (202 + i + 1)) g0 (fun τ0 h0 => ?_)
    refine r_in1 zi_287_166 rfl ?_
    rw [show (nI i + 1 : Int32) = nI (i + 1) from nI_add _ _]
    refine r_goto zi_287_169 rfl ?_
    exact ih (i + 1) _ (by omega) h0
theorem l_im3 {d : Nat} {g : Bool} {σ : zS} {R : Option Int32 → zS → Prop} {w : Int32} (hg : σ 195 66 = if g = true then 1 else 0) (hq : ∀ τ u, mIm g σ 228 τ → zk (d + 1) 287 202 [.ref 195, u] [] τ R) : ∀ (m i : Nat) (τ : zS), i + m = 8 → mIm g σ (220 + i) τ → zk (d + 1) 287 174 [.ref 195, .int (nI i)] [] τ R := by
  intro m
  induction m with
  | zero =>
    intro i τ hi h
    have e : i = 8 := by omega
    subst e
    refine r_il1 zi_287_174 rfl ?_
    refine r_push zi_287_175 rfl ?_
    refine n_ic3 (i := 8) (j := 8) zi_287_177 rfl (by omega) (by omega) (fun _ => ?_) (fun c => absurd c (by omega))
    exact hq τ _ h
  | succ m ih =>
    intro i τ hi h
    refine r_il1 zi_287_174 rfl ?_
    refine r_push zi_287_175 rfl ?_
    refine n_ic3 (i := i) (j := 8) zi_287_177 rfl (by omega) (by omega) (fun c => absurd c (by omega)) (fun _ => ?_)
    refine r_al0 zi_287_180 rfl ?_
    refine q_getR zi_287_181 rfl cf_195_49 ?_
    refine r_il1 zi_287_184 rfl ?_
    refine r_al0 zi_287_185 rfl ?_
    refine r_al0 zi_287_186 rfl ?_
    refine q_getR zi_287_187 rfl cf_195_49 ?_
    refine r_il1 zi_287_190 rfl ?_
    refine r_alde zi_287_191 rfl i ca_224 (by first | rfl | (simp only [zI_add, zI_mul] <;> rfl)) (by first | omega | decide) (u := τ 224 i) (by first | exact rfl | ((repeat (first | rw [zup_ne (by first | decide | omega)] | rw [zup_nj (by first | decide | omega)] | rw [fil_ne (by first | decide | omega)])) <;> exact rfl) | (simp [up_rd, fil_rd]; exact rfl)) ?_
    refine q_cIV zi_287_192 rfl rfl rfl rfl rfl rfl rfl cf_195_0.ob (s_mkeeps (a0 := 224) (b0 := i) (i := 220 + i) h hg (by unfold vIm; (iterate 5 right); left; omega) (fun a b z => by unfold vIm at z; omega) (fun j z => by unfold vIm at z; omega) (fun τ0' v0 g0 => ?_))
    show zk _ _ 195 _ _ _ _
    refine r_ast zi_287_195 rfl i ca_224 (by first | rfl | (simp only [zI_add, zI_mul] <;> rfl)) (by first | omega | decide) ?_
    refine zk_bk (P := mIm g σ (220 + i + 1)) g0 (fun τ0 h0 => ?_)
    refine r_in1 zi_287_196 rfl ?_
    rw [show (nI i + 1 : Int32) = nI (i + 1) from nI_add _ _]
    refine r_goto zi_287_199 rfl ?_
    exact ih (i + 1) _ (by omega) h0
theorem l_im4 {d : Nat} {g : Bool} {σ : zS} {R : Option Int32 → zS → Prop} {w : Int32} (hg : σ 195 66 = if g = true then 1 else 0) (hq : ∀ τ u, mIm g σ 233 τ → zk (d + 1) 287 231 [.ref 195, u] [] τ R) : ∀ (m i : Nat) (τ : zS), i + m = 5 → mIm g σ (228 + i) τ → zk (d + 1) 287 204 [.ref 195, .int (nI i)] [] τ R := by
  intro m
  induction m with
  | zero =>
    intro i τ hi h
    have e : i = 5 := by omega
    subst e
    refine r_il1 zi_287_204 rfl ?_
    refine r_push zi_287_205 rfl ?_
    refine n_ic3 (i := 5) (j := 5) zi_287_206 rfl (by omega) (by omega) (fun _ => ?_) (fun c => absurd c (by omega))
    exact hq τ _ h
  | succ m ih =>
    intro i τ hi h
    refine r_il1 zi_287_204 rfl ?_
    refine r_push zi_287_205 rfl ?_
    refine n_ic3 (i := i) (j := 5) zi_287_206 rfl (by omega) (by omega) (fun c => absurd c (by omega)) (fun _ => ?_)
    refine r_al0 zi_287_209 rfl ?_
    refine q_getR zi_287_210 rfl cf_195_51 ?_
    refine r_il1 zi_287_213 rfl ?_
    refine r_al0 zi_287_214 rfl ?_
    refine r_al0 zi_287_215 rfl ?_
    refine q_getR zi_287_216 rfl cf_195_51 ?_
    refine r_il1 zi_287_219 rfl ?_
    refine r_alde zi_287_220 rfl i ca_225 (by first | rfl | (simp only [zI_add, zI_mul] <;> rfl)) (by first | omega | decide) (u := τ 225 i) (by first | exact rfl | ((repeat (first | rw [zup_ne (by first | decide | omega)] | rw [zup_nj (by first | decide | omega)] | rw [fil_ne (by first | decide | omega)])) <;> exact rfl) | (simp [up_rd, fil_rd]; exact rfl)) ?_
    refine q_cIV zi_287_221 rfl rfl rfl rfl rfl rfl rfl cf_195_0.ob (s_mkeeps (a0 := 225) (b0 := i) (i := 228 + i) h hg (by unfold vIm; (iterate 6 right); left; omega) (fun a b z => by unfold vIm at z; omega) (fun j z => by unfold vIm at z; omega) (fun τ0' v0 g0 => ?_))
    show zk _ _ 224 _ _ _ _
    refine r_ast zi_287_224 rfl i ca_225 (by first | rfl | (simp only [zI_add, zI_mul] <;> rfl)) (by first | omega | decide) ?_
    refine zk_bk (P := mIm g σ (228 + i + 1)) g0 (fun τ0 h0 => ?_)
    refine r_in1 zi_287_225 rfl ?_
    rw [show (nI i + 1 : Int32) = nI (i + 1) from nI_add _ _]
    refine r_goto zi_287_228 rfl ?_
    exact ih (i + 1) _ (by omega) h0
theorem l_im5 {d : Nat} {g : Bool} {σ : zS} {R : Option Int32 → zS → Prop} {w : Int32} (hg : σ 195 66 = if g = true then 1 else 0) (hq : ∀ τ u, mIm g σ 273 τ → zk (d + 1) 287 309 [.ref 195, u] [] τ R) : ∀ (m i : Nat) (τ : zS), i + m = 10 → mIm g σ (233 + 4 * i) τ → zk (d + 1) 287 233 [.ref 195, .int (nI i)] [] τ R := by
  intro m
  induction m with
  | zero =>
    intro i τ hi h
    have e : i = 10 := by omega
    subst e
    refine r_il1 zi_287_233 rfl ?_
    refine r_push zi_287_234 rfl ?_
    refine n_ic3 (i := 10) (j := 10) zi_287_236 rfl (by omega) (by omega) (fun _ => ?_) (fun c => absurd c (by omega))
    exact hq τ _ h
  | succ m ih =>
    intro i τ hi h
    refine r_il1 zi_287_233 rfl ?_
    refine r_push zi_287_234 rfl ?_
    refine n_ic3 (i := i) (j := 10) zi_287_236 rfl (by omega) (by omega) (fun c => absurd c (by omega)) (fun _ => ?_)
    refine r_al0 zi_287_239 rfl ?_
    refine q_getR zi_287_240 rfl cf_195_57 ?_
    refine r_il1 zi_287_243 rfl ?_
    refine r_al0 zi_287_244 rfl ?_
    refine r_al0 zi_287_245 rfl ?_
    refine q_getR zi_287_246 rfl cf_195_57 ?_
    refine r_il1 zi_287_249 rfl ?_
    refine r_alde zi_287_250 rfl i ca_229 (by first | rfl | (simp only [zI_add, zI_mul] <;> rfl)) (by first | omega | decide) (u := τ 229 i) (by first | exact rfl | ((repeat (first | rw [zup_ne (by first | decide | omega)] | rw [zup_nj (by first | decide | omega)] | rw [fil_ne (by first | decide | omega)])) <;> exact rfl) | (simp [up_rd, fil_rd]; exact rfl)) ?_
    refine q_cIV zi_287_251 rfl rfl rfl rfl rfl rfl rfl cf_195_0.ob (s_mkeeps (a0 := 229) (b0 := i) (i := 233 + 4 * i) h hg (by unfold vIm; (iterate 7 right); left; omega) (fun a b z => by unfold vIm at z; omega) (fun j z => by unfold vIm at z; omega) (fun τ0' v0 g0 => ?_))
    show zk _ _ 254 _ _ _ _
    refine r_ast zi_287_254 rfl i ca_229 (by first | rfl | (simp only [zI_add, zI_mul] <;> rfl)) (by first | omega | decide) ?_
    refine zk_bk (P := mIm g σ (233 + 4 * i + 1)) g0 (fun τ0 h0 => ?_)
    refine r_al0 zi_287_255 rfl ?_
    refine q_getR zi_287_256 rfl cf_195_58 ?_
    refine r_il1 zi_287_259 rfl ?_
    refine r_al0 zi_287_260 rfl ?_
    refine r_al0 zi_287_261 rfl ?_
    refine q_getR zi_287_262 rfl cf_195_58 ?_
    refine r_il1 zi_287_265 rfl ?_
    refine r_alde zi_287_266 rfl i ca_230 (by first | rfl | (simp only [zI_add, zI_mul] <;> rfl)) (by first | omega | decide) (u := τ0 230 i) (by first | exact rfl | ((repeat (first | rw [zup_ne (by first | decide | omega)] | rw [zup_nj (by first | decide | omega)] | rw [fil_ne (by first | decide | omega)])) <;> exact rfl) | (simp [up_rd, fil_rd]; exact rfl)) ?_
    refine q_cIV zi_287_267 rfl rfl rfl rfl rfl rfl rfl cf_195_0.ob (s_mkeeps (a0 := 230) (b0 := i) (i := 233 + 4 * i + 1) h0 hg (by unfold vIm; (iterate 8 right); left; omega) (fun a b z => by unfold vIm at z; omega) (fun j z => by unfold vIm at z; omega) (fun τ1' v1 g1 => ?_))
    show zk _ _ 270 _ _ _ _
    refine r_ast zi_287_270 rfl i ca_230 (by first | rfl | (simp only [zI_add, zI_mul] <;> rfl)) (by first | omega | decide) ?_
    refine zk_bk (P := mIm g σ (233 + 4 * i + 2)) g1 (fun τ1 h1 => ?_)
    refine r_al0 zi_287_271 rfl ?_
    refine q_getR zi_287_272 rfl cf_195_62 ?_
    refine r_il1 zi_287_275 rfl ?_
    refine r_al0 zi_287_276 rfl ?_
    refine r_al0 zi_287_277 rfl ?_
    refine q_getR zi_287_278 rfl cf_195_62 ?_
    refine r_il1 zi_287_281 rfl ?_
    refine r_alde zi_287_282 rfl i ca_233 (by first | rfl | (simp only [zI_add, zI_mul] <;> rfl)) (by first | omega | decide) (u := τ1 233 i) (by first | exact rfl | ((repeat (first | rw [zup_ne (by first | decide | omega)] | rw [zup_nj (by first | decide | omega)] | rw [fil_ne (by first | decide | omega)])) <;> exact rfl) | (simp [up_rd, fil_rd]; exact rfl)) ?_
    refine q_cIV zi_287_283 rfl rfl rfl rfl rfl rfl rfl cf_195_0.ob (s_mkeeps (a0 := 233) (b0 := i) (i := 233 + 4 * i + 2) h1 hg (by unfold vIm; (iterate 9 right); left; omega) (fun a b z => by unfold vIm at z; omega) (fun j z => by unfold vIm at z; omega) (fun τ2' v2 g2 => ?_))
    show zk _ _ 286 _ _ _ _
    refine r_ast zi_287_286 rfl i ca_233 (by first | rfl | (simp only [zI_add, zI_mul] <;> rfl)) (by first | omega | decide) ?_
    refine zk_bk (P := mIm g σ (233 + 4 * i + 3)) g2 (fun τ2 h2 => ?_)
    refine r_al0 zi_287_287 rfl ?_
    refine q_getR zi_287_288 rfl cf_195_63 ?_
    refine r_il1 zi_287_291 rfl ?_
    refine r_al0 zi_287_292 rfl ?_
    refine r_al0 zi_287_293 rfl ?_
    refine q_getR zi_287_294 rfl cf_195_63 ?_
    refine r_il1 zi_287_297 rfl ?_
    refine r_alde zi_287_298 rfl i ca_234 (by first | rfl | (simp only [zI_add, zI_mul] <;> rfl)) (by first | omega | decide) (u := τ2 234 i) (by first | exact rfl | ((repeat (first | rw [zup_ne (by first | decide | omega)] | rw [zup_nj (by first | decide | omega)] | rw [fil_ne (by first | decide | omega)])) <;> exact rfl) | (simp [up_rd, fil_rd]; exact rfl)) ?_
    refine q_cIV zi_287_299 rfl rfl rfl rfl rfl rfl rfl cf_195_0.ob (s_mkeeps (a0 := 234) (b0 := i) (i := 233 + 4 * i + 3) h2 hg (by unfold vIm; (iterate 10 right); left; omega) (fun a b z => by unfold vIm at z; omega) (fun j z => by unfold vIm at z; omega) (fun τ3' v3 g3 => ?_))
    show zk _ _ 302 _ _ _ _
    refine r_ast zi_287_302 rfl i ca_234 (by first | rfl | (simp only [zI_add, zI_mul] <;> rfl)) (by first | omega | decide) ?_
    refine zk_bk (P := mIm g σ (233 + 4 * i + 4)) g3 (fun τ3 h3 => ?_)
    refine r_in1 zi_287_303 rfl ?_
    rw [show (nI i + 1 : Int32) = nI (i + 1) from nI_add _ _]
    refine r_goto zi_287_306 rfl ?_
    exact ih (i + 1) _ (by omega) h3
theorem l_im6 {d : Nat} {g : Bool} {σ : zS} {R : Option Int32 → zS → Prop} {w : Int32} (hg : σ 195 66 = if g = true then 1 else 0) (hq : ∀ τ u, mIm g σ 305 τ → zk (d + 1) 287 339 [.ref 195, u] [] τ R) : ∀ (m i : Nat) (τ : zS), i + m = 32 → mIm g σ (273 + i) τ → zk (d + 1) 287 311 [.ref 195, .int (nI i)] [] τ R := by
  intro m
  induction m with
  | zero =>
    intro i τ hi h
    have e : i = 32 := by omega
    subst e
    refine r_il1 zi_287_311 rfl ?_
    refine r_push zi_287_312 rfl ?_
    refine n_ic3 (i := 32) (j := 32) zi_287_314 rfl (by omega) (by omega) (fun _ => ?_) (fun c => absurd c (by omega))
    exact hq τ _ h
  | succ m ih =>
    intro i τ hi h
    refine r_il1 zi_287_311 rfl ?_
    refine r_push zi_287_312 rfl ?_
    refine n_ic3 (i := i) (j := 32) zi_287_314 rfl (by omega) (by omega) (fun c => absurd c (by omega)) (fun _ => ?_)
    refine r_al0 zi_287_317 rfl ?_
    refine q_getR zi_287_318 rfl cf_195_34 ?_
    refine r_il1 zi_287_321 rfl ?_
    refine r_al0 zi_287_322 rfl ?_
    refine r_al0 zi_287_323 rfl ?_
    refine q_getR zi_287_324 rfl cf_195_34 ?_
    refine r_il1 zi_287_327 rfl ?_
    refine r_alde zi_287_328 rfl i ca_212 (by first | rfl | (simp only [zI_add, zI_mul] <;> rfl)) (by first | omega | decide) (u := τ 212 i) (by first | exact rfl | ((repeat (first | rw [zup_ne (by first | decide | omega)] | rw [zup_nj (by first | decide | omega)] | rw [fil_ne (by first | decide | omega)])) <;> exact rfl) | (simp [up_rd, fil_rd]; exact rfl)) ?_
    refine q_cIV zi_287_329 rfl rfl rfl rfl rfl rfl rfl cf_195_0.ob (s_mkeeps (a0 := 212) (b0 := i) (i := 273 + i) h hg (by unfold vIm; (iterate 11 right); left; omega) (fun a b z => by unfold vIm at z; omega) (fun j z => by unfold vIm at z; omega) (fun τ0' v0 g0 => ?_))
    show zk _ _ 332 _ _ _ _
    refine r_ast zi_287_332 rfl i ca_212 (by first | rfl | (simp only [zI_add, zI_mul] <;> rfl)) (by first | omega | decide) ?_
    refine zk_bk (P := mIm g σ (273 + i + 1)) g0 (fun τ0 h0 => ?_)
    refine r_in1 zi_287_333 rfl ?_
    rw [show (nI i + 1 : Int32) = nI (i + 1) from nI_add _ _]
    refine r_goto zi_287_336 rfl ?_
    exact ih (i + 1) _ (by omega) h0
theorem l_im7 {d : Nat} {g : Bool} {σ : zS} {R : Option Int32 → zS → Prop} {w : Int32} (hg : σ 195 66 = if g = true then 1 else 0) (hq : ∀ τ u, mIm g σ 353 τ → zk (d + 1) 287 369 [.ref 195, u] [] τ R) : ∀ (m i : Nat) (τ : zS), i + m = 48 → mIm g σ (305 + i) τ → zk (d + 1) 287 341 [.ref 195, .int (nI i)] [] τ R := by
  intro m
  induction m with
  | zero =>
    intro i τ hi h
    have e : i = 48 := by omega
    subst e
    refine r_il1 zi_287_341 rfl ?_
    refine r_push zi_287_342 rfl ?_
    refine n_ic3 (i := 48) (j := 48) zi_287_344 rfl (by omega) (by omega) (fun _ => ?_) (fun c => absurd c (by omega))
    exact hq τ _ h
  | succ m ih =>
    intro i τ hi h
    refine r_il1 zi_287_341 rfl ?_
    refine r_push zi_287_342 rfl ?_
    refine n_ic3 (i := i) (j := 48) zi_287_344 rfl (by omega) (by omega) (fun c => absurd c (by omega)) (fun _ => ?_)
    refine r_al0 zi_287_347 rfl ?_
    refine q_getR zi_287_348 rfl cf_195_36 ?_
    refine r_il1 zi_287_351 rfl ?_
    refine r_al0 zi_287_352 rfl ?_
    refine r_al0 zi_287_353 rfl ?_
    refine q_getR zi_287_354 rfl cf_195_36 ?_
    refine r_il1 zi_287_357 rfl ?_
    refine r_alde zi_287_358 rfl i ca_213 (by first | rfl | (simp only [zI_add, zI_mul] <;> rfl)) (by first | omega | decide) (u := τ 213 i) (by first | exact rfl | ((repeat (first | rw [zup_ne (by first | decide | omega)] | rw [zup_nj (by first | decide | omega)] | rw [fil_ne (by first | decide | omega)])) <;> exact rfl) | (simp [up_rd, fil_rd]; exact rfl)) ?_
    refine q_cIV zi_287_359 rfl rfl rfl rfl rfl rfl rfl cf_195_0.ob (s_mkeeps (a0 := 213) (b0 := i) (i := 305 + i) h hg (by unfold vIm; (iterate 12 right); left; omega) (fun a b z => by unfold vIm at z; omega) (fun j z => by unfold vIm at z; omega) (fun τ0' v0 g0 => ?_))
    show zk _ _ 362 _ _ _ _
    refine r_ast zi_287_362 rfl i ca_213 (by first | rfl | (simp only [zI_add, zI_mul] <;> rfl)) (by first | omega | decide) ?_
    refine zk_bk (P := mIm g σ (305 + i + 1)) g0 (fun τ0 h0 => ?_)
    refine r_in1 zi_287_363 rfl ?_
    rw [show (nI i + 1 : Int32) = nI (i + 1) from nI_add _ _]
    refine r_goto zi_287_366 rfl ?_
    exact ih (i + 1) _ (by omega) h0
theorem l_imA {d : Nat} {g : Bool} {σ : zS} {R : Option Int32 → zS → Prop} {w : Int32} (hg : σ 195 66 = if g = true then 1 else 0) (hq : ∀ τ u, mIm g σ 1018 τ → zk (d + 1) 286 94 [.ref 195, u] [] τ R) : ∀ (m i : Nat) (τ : zS), i + m = 16 → mIm g σ (954 + 4 * i) τ → zk (d + 1) 286 18 [.ref 195, .int (nI i)] [] τ R := by
  intro m
  induction m with
  | zero =>
    intro i τ hi h
    have e : i = 16 := by omega
    subst e
    refine r_il1 zi_286_18 rfl ?_
    refine r_push zi_286_19 rfl ?_
    refine n_ic3 (i := 16) (j := 16) zi_286_21 rfl (by omega) (by omega) (fun _ => ?_) (fun c => absurd c (by omega))
    exact hq τ _ h
  | succ m ih =>
    intro i τ hi h
    refine r_il1 zi_286_18 rfl ?_
    refine r_push zi_286_19 rfl ?_
    refine n_ic3 (i := i) (j := 16) zi_286_21 rfl (by omega) (by omega) (fun c => absurd c (by omega)) (fun _ => ?_)
    refine r_al0 zi_286_24 rfl ?_
    refine q_getR zi_286_25 rfl cf_195_18 ?_
    refine r_il1 zi_286_28 rfl ?_
    refine r_al0 zi_286_29 rfl ?_
    refine r_al0 zi_286_30 rfl ?_
    refine q_getR zi_286_31 rfl cf_195_18 ?_
    refine r_il1 zi_286_34 rfl ?_
    refine r_alde zi_286_35 rfl i ca_205 (by first | rfl | (simp only [zI_add, zI_mul] <;> rfl)) (by first | omega | decide) (u := τ 205 i) (by first | exact rfl | ((repeat (first | rw [zup_ne (by first | decide | omega)] | rw [zup_nj (by first | decide | omega)] | rw [fil_ne (by first | decide | omega)])) <;> exact rfl) | (simp [up_rd, fil_rd]; exact rfl)) ?_
    refine q_cIV zi_286_36 rfl rfl rfl rfl rfl rfl rfl cf_195_0.ob (s_mkeeps (a0 := 205) (b0 := i) (i := 954 + 4 * i) h hg (by unfold vIm; (iterate 15 right); left; omega) (fun a b z => by unfold vIm at z; omega) (fun j z => by unfold vIm at z; omega) (fun τ0' v0 g0 => ?_))
    show zk _ _ 39 _ _ _ _
    refine r_ast zi_286_39 rfl i ca_205 (by first | rfl | (simp only [zI_add, zI_mul] <;> rfl)) (by first | omega | decide) ?_
    refine zk_bk (P := mIm g σ (954 + 4 * i + 1)) g0 (fun τ0 h0 => ?_)
    refine r_al0 zi_286_40 rfl ?_
    refine q_getR zi_286_41 rfl cf_195_19 ?_
    refine r_il1 zi_286_44 rfl ?_
    refine r_al0 zi_286_45 rfl ?_
    refine r_al0 zi_286_46 rfl ?_
    refine q_getR zi_286_47 rfl cf_195_19 ?_
    refine r_il1 zi_286_50 rfl ?_
    refine r_alde zi_286_51 rfl i ca_206 (by first | rfl | (simp only [zI_add, zI_mul] <;> rfl)) (by first | omega | decide) (u := τ0 206 i) (by first | exact rfl | ((repeat (first | rw [zup_ne (by first | decide | omega)] | rw [zup_nj (by first | decide | omega)] | rw [fil_ne (by first | decide | omega)])) <;> exact rfl) | (simp [up_rd, fil_rd]; exact rfl)) ?_
    refine q_cIV zi_286_52 rfl rfl rfl rfl rfl rfl rfl cf_195_0.ob (s_mkeeps (a0 := 206) (b0 := i) (i := 954 + 4 * i + 1) h0 hg (by unfold vIm; (iterate 16 right); left; omega) (fun a b z => by unfold vIm at z; omega) (fun j z => by unfold vIm at z; omega) (fun τ1' v1 g1 => ?_))
    show zk _ _ 55 _ _ _ _
    refine r_ast zi_286_55 rfl i ca_206 (by first | rfl | (simp only [zI_add, zI_mul] <;> rfl)) (by first | omega | decide) ?_
    refine zk_bk (P := mIm g σ (954 + 4 * i + 2)) g1 (fun τ1 h1 => ?_)
    refine r_al0 zi_286_56 rfl ?_
    refine q_getR zi_286_57 rfl cf_195_20 ?_
    refine r_il1 zi_286_60 rfl ?_
    refine r_al0 zi_286_61 rfl ?_
    refine r_al0 zi_286_62 rfl ?_
    refine q_getR zi_286_63 rfl cf_195_20 ?_
    refine r_il1 zi_286_66 rfl ?_
    refine r_alde zi_286_67 rfl i ca_207 (by first | rfl | (simp only [zI_add, zI_mul] <;> rfl)) (by first | omega | decide) (u := τ1 207 i) (by first | exact rfl | ((repeat (first | rw [zup_ne (by first | decide | omega)] | rw [zup_nj (by first | decide | omega)] | rw [fil_ne (by first | decide | omega)])) <;> exact rfl) | (simp [up_rd, fil_rd]; exact rfl)) ?_
    refine q_cIV zi_286_68 rfl rfl rfl rfl rfl rfl rfl cf_195_0.ob (s_mkeeps (a0 := 207) (b0 := i) (i := 954 + 4 * i + 2) h1 hg (by unfold vIm; (iterate 17 right); left; omega) (fun a b z => by unfold vIm at z; omega) (fun j z => by unfold vIm at z; omega) (fun τ2' v2 g2 => ?_))
    show zk _ _ 71 _ _ _ _
    refine r_ast zi_286_71 rfl i ca_207 (by first | rfl | (simp only [zI_add, zI_mul] <;> rfl)) (by first | omega | decide) ?_
    refine zk_bk (P := mIm g σ (954 + 4 * i + 3)) g2 (fun τ2 h2 => ?_)
    refine r_al0 zi_286_72 rfl ?_
    refine q_getR zi_286_73 rfl cf_195_21 ?_
    refine r_il1 zi_286_76 rfl ?_
    refine r_al0 zi_286_77 rfl ?_
    refine r_al0 zi_286_78 rfl ?_
    refine q_getR zi_286_79 rfl cf_195_21 ?_
    refine r_il1 zi_286_82 rfl ?_
    refine r_alde zi_286_83 rfl i ca_208 (by first | rfl | (simp only [zI_add, zI_mul] <;> rfl)) (by first | omega | decide) (u := τ2 208 i) (by first | exact rfl | ((repeat (first | rw [zup_ne (by first | decide | omega)] | rw [zup_nj (by first | decide | omega)] | rw [fil_ne (by first | decide | omega)])) <;> exact rfl) | (simp [up_rd, fil_rd]; exact rfl)) ?_
    refine q_cIV zi_286_84 rfl rfl rfl rfl rfl rfl rfl cf_195_0.ob (s_mkeeps (a0 := 208) (b0 := i) (i := 954 + 4 * i + 3) h2 hg (by unfold vIm; (iterate 18 right); left; omega) (fun a b z => by unfold vIm at z; omega) (fun j z => by unfold vIm at z; omega) (fun τ3' v3 g3 => ?_))
    show zk _ _ 87 _ _ _ _
    refine r_ast zi_286_87 rfl i ca_208 (by first | rfl | (simp only [zI_add, zI_mul] <;> rfl)) (by first | omega | decide) ?_
    refine zk_bk (P := mIm g σ (954 + 4 * i + 4)) g3 (fun τ3 h3 => ?_)
    refine r_in1 zi_286_88 rfl ?_
    rw [show (nI i + 1 : Int32) = nI (i + 1) from nI_add _ _]
    refine r_goto zi_286_91 rfl ?_
    exact ih (i + 1) _ (by omega) h3
theorem l_imB {d : Nat} {g : Bool} {σ : zS} {R : Option Int32 → zS → Prop} {w : Int32} (hg : σ 195 66 = if g = true then 1 else 0) (hq : ∀ τ u, mIm g σ 1818 τ → zk (d + 1) 286 141 [.ref 195, u] [] τ R) : ∀ (m i : Nat) (τ : zS), i + m = 400 → mIm g σ (1018 + 2 * i) τ → zk (d + 1) 286 96 [.ref 195, .int (nI i)] [] τ R := by
  intro m
  induction m with
  | zero =>
    intro i τ hi h
    have e : i = 400 := by omega
    subst e
    refine r_il1 zi_286_96 rfl ?_
    refine r_push zi_286_97 rfl ?_
    refine n_ic3 (i := 400) (j := 400) zi_286_100 rfl (by omega) (by omega) (fun _ => ?_) (fun c => absurd c (by omega))
    exact hq τ _ h
  | succ m ih =>
    intro i τ hi h
    refine r_il1 zi_286_96 rfl ?_
    refine r_push zi_286_97 rfl ?_
    refine n_ic3 (i := i) (j := 400) zi_286_100 rfl (by omega) (by omega) (fun c => absurd c (by omega)) (fun _ => ?_)
    refine r_al0 zi_286_103 rfl ?_
    refine q_getR zi_286_104 rfl cf_195_22 ?_
    refine r_il1 zi_286_107 rfl ?_
    refine r_al0 zi_286_108 rfl ?_
    refine r_al0 zi_286_109 rfl ?_
    refine q_getR zi_286_110 rfl cf_195_22 ?_
    refine r_il1 zi_286_113 rfl ?_
    refine r_alde zi_286_114 rfl i ca_209 (by first | rfl | (simp only [zI_add, zI_mul] <;> rfl)) (by first | omega | decide) (u := τ 209 i) (by first | exact rfl | ((repeat (first | rw [zup_ne (by first | decide | omega)] | rw [zup_nj (by first | decide | omega)] | rw [fil_ne (by first | decide | omega)])) <;> exact rfl) | (simp [up_rd, fil_rd]; exact rfl)) ?_
    refine q_cIV zi_286_115 rfl rfl rfl rfl rfl rfl rfl cf_195_0.ob (s_mkeeps (a0 := 209) (b0 := i) (i := 1018 + 2 * i) h hg (by unfold vIm; (iterate 19 right); left; omega) (fun a b z => by unfold vIm at z; omega) (fun j z => by unfold vIm at z; omega) (fun τ0' v0 g0 => ?_))
    show zk _ _ 118 _ _ _ _
    refine r_ast zi_286_118 rfl i ca_209 (by first | rfl | (simp only [zI_add, zI_mul] <;> rfl)) (by first | omega | decide) ?_
    refine zk_bk (P := mIm g σ (1018 + 2 * i + 1)) g0 (fun τ0 h0 => ?_)
    refine r_al0 zi_286_119 rfl ?_
    refine q_getR zi_286_120 rfl cf_195_23 ?_
    refine r_il1 zi_286_123 rfl ?_
    refine r_al0 zi_286_124 rfl ?_
    refine r_al0 zi_286_125 rfl ?_
    refine q_getR zi_286_126 rfl cf_195_23 ?_
    refine r_il1 zi_286_129 rfl ?_
    refine r_alde zi_286_130 rfl i ca_210 (by first | rfl | (simp only [zI_add, zI_mul] <;> rfl)) (by first | omega | decide) (u := τ0 210 i) (by first | exact rfl | ((repeat (first | rw [zup_ne (by first | decide | omega)] | rw [zup_nj (by first | decide | omega)] | rw [fil_ne (by first | decide | omega)])) <;> exact rfl) | (simp [up_rd, fil_rd]; exact rfl)) ?_
    refine q_cIV zi_286_131 rfl rfl rfl rfl rfl rfl rfl cf_195_0.ob (s_mkeeps (a0 := 210) (b0 := i) (i := 1018 + 2 * i + 1) h0 hg (by unfold vIm; (iterate 20 right); omega) (fun a b z => by unfold vIm at z; omega) (fun j z => by unfold vIm at z; omega) (fun τ1' v1 g1 => ?_))
    show zk _ _ 134 _ _ _ _
    refine r_ast zi_286_134 rfl i ca_210 (by first | rfl | (simp only [zI_add, zI_mul] <;> rfl)) (by first | omega | decide) ?_
    refine zk_bk (P := mIm g σ (1018 + 2 * i + 2)) g1 (fun τ1 h1 => ?_)
    refine r_in1 zi_286_135 rfl ?_
    rw [show (nI i + 1 : Int32) = nI (i + 1) from nI_add _ _]
    refine r_goto zi_286_138 rfl ?_
    exact ih (i + 1) _ (by omega) h1
theorem s_mkTold {d : Nat} {g : Bool} {σ τ : zS} {Q : zS → Prop} (hg : σ 195 66 = if g = true then 1 else 0) (h : mIm g σ 170 τ) (hq : ∀ υ, mIm g σ 353 υ → Q υ) : zV1 (d + 1) 287 [.ref 195] τ Q := by
  show zk _ _ 0 [.ref 195, zun] [] _ _
  have c7 : ∀ υ u, mIm g σ 353 υ → zk (d + 1) 287 369 [.ref 195, u] [] υ (fun r t => r = none ∧ Q t) := fun υ u k => by
    refine r_ret zi_287_369 rfl ?_
    exact ⟨rfl, hq υ k⟩
  have b7 : ∀ υ u, mIm g σ 305 υ → zk (d + 1) 287 339 [.ref 195, u] [] υ (fun r t => r = none ∧ Q t) := fun υ u k => by
    refine r_push zi_287_339 rfl ?_
    refine r_is1 zi_287_340 rfl ?_
    exact l_im7 (w := 0) hg c7 48 0 υ rfl k
  have b6 : ∀ υ u, mIm g σ 273 υ → zk (d + 1) 287 309 [.ref 195, u] [] υ (fun r t => r = none ∧ Q t) := fun υ u k => by
    refine r_push zi_287_309 rfl ?_
    refine r_is1 zi_287_310 rfl ?_
    exact l_im6 (w := 0) hg b7 32 0 υ rfl k
  have b5 : ∀ υ u, mIm g σ 233 υ → zk (d + 1) 287 231 [.ref 195, u] [] υ (fun r t => r = none ∧ Q t) := fun υ u k => by
    refine r_push zi_287_231 rfl ?_
    refine r_is1 zi_287_232 rfl ?_
    exact l_im5 (w := 0) hg b6 10 0 υ rfl k
  have b4 : ∀ υ u, mIm g σ 228 υ → zk (d + 1) 287 202 [.ref 195, u] [] υ (fun r t => r = none ∧ Q t) := fun υ u k => by
    refine r_push zi_287_202 rfl ?_
    refine r_is1 zi_287_203 rfl ?_
    exact l_im4 (w := 0) hg b5 5 0 υ rfl k
  have b3 : ∀ υ u, mIm g σ 220 υ → zk (d + 1) 287 172 [.ref 195, u] [] υ (fun r t => r = none ∧ Q t) := fun υ u k => by
    refine r_push zi_287_172 rfl ?_
    refine r_is1 zi_287_173 rfl ?_
    exact l_im3 (w := 0) hg b4 8 0 υ rfl k
  have b2 : ∀ υ u, mIm g σ 202 υ → zk (d + 1) 287 142 [.ref 195, u] [] υ (fun r t => r = none ∧ Q t) := fun υ u k => by
    refine r_push zi_287_142 rfl ?_
    refine r_is1 zi_287_143 rfl ?_
    exact l_im2 (w := 0) hg b3 18 0 υ rfl k
  have b1 : ∀ υ u, mIm g σ 178 υ → zk (d + 1) 287 96 [.ref 195, u] [] υ (fun r t => r = none ∧ Q t) := fun υ u k => by
    refine r_push zi_287_96 rfl ?_
    refine r_is1 zi_287_97 rfl ?_
    exact l_im1 (w := 0) hg b2 12 0 υ rfl k
  refine r_al0 zi_287_0 rfl ?_
  refine r_al0 zi_287_1 rfl ?_
  refine r_al0 zi_287_2 rfl ?_
  refine q_getIe zi_287_3 rfl cf_195_6 (v := τ 195 6) (by first | exact rfl | ((repeat (first | rw [zup_ne (by first | decide | omega)] | rw [zup_nj (by first | decide | omega)] | rw [fil_ne (by first | decide | omega)])) <;> exact rfl) | (simp [up_rd, fil_rd]; exact rfl)) ?_
  refine q_cIV zi_287_6 rfl rfl rfl rfl rfl rfl rfl cf_195_0.ob (s_mkeeps (a0 := 195) (b0 := 6) (i := 170) h hg (Or.inr (Or.inl ⟨rfl, by decide⟩)) (fun a b z => by unfold vIm at z; omega) (fun j z => by unfold vIm at z; omega) (fun τ0' v0 g0 => ?_))
  show zk _ _ 9 _ _ _ _
  refine q_put zi_287_9 rfl cf_195_6 rfl ?_
  refine zk_bk (P := mIm g σ 171) g0 (fun τ0 h0 => ?_)
  refine r_al0 zi_287_12 rfl ?_
  refine r_al0 zi_287_13 rfl ?_
  refine r_al0 zi_287_14 rfl ?_
  refine q_getIe zi_287_15 rfl cf_195_33 (v := τ0 195 33) (by first | exact rfl | ((repeat (first | rw [zup_ne (by first | decide | omega)] | rw [zup_nj (by first | decide | omega)] | rw [fil_ne (by first | decide | omega)])) <;> exact rfl) | (simp [up_rd, fil_rd]; exact rfl)) ?_
  refine q_cIV zi_287_18 rfl rfl rfl rfl rfl rfl rfl cf_195_0.ob (s_mkeeps (a0 := 195) (b0 := 33) (i := 171) h0 hg (Or.inr (Or.inl ⟨rfl, by decide⟩)) (fun a b z => by unfold vIm at z; omega) (fun j z => by unfold vIm at z; omega) (fun τ1' v1 g1 => ?_))
  show zk _ _ 21 _ _ _ _
  refine q_put zi_287_21 rfl cf_195_33 rfl ?_
  refine zk_bk (P := mIm g σ 172) g1 (fun τ1 h1 => ?_)
  refine r_al0 zi_287_24 rfl ?_
  refine r_al0 zi_287_25 rfl ?_
  refine r_al0 zi_287_26 rfl ?_
  refine q_getIe zi_287_27 rfl cf_195_35 (v := τ1 195 35) (by first | exact rfl | ((repeat (first | rw [zup_ne (by first | decide | omega)] | rw [zup_nj (by first | decide | omega)] | rw [fil_ne (by first | decide | omega)])) <;> exact rfl) | (simp [up_rd, fil_rd]; exact rfl)) ?_
  refine q_cIV zi_287_30 rfl rfl rfl rfl rfl rfl rfl cf_195_0.ob (s_mkeeps (a0 := 195) (b0 := 35) (i := 172) h1 hg (Or.inr (Or.inl ⟨rfl, by decide⟩)) (fun a b z => by unfold vIm at z; omega) (fun j z => by unfold vIm at z; omega) (fun τ2' v2 g2 => ?_))
  show zk _ _ 33 _ _ _ _
  refine q_put zi_287_33 rfl cf_195_35 rfl ?_
  refine zk_bk (P := mIm g σ 173) g2 (fun τ2 h2 => ?_)
  refine r_al0 zi_287_36 rfl ?_
  refine r_al0 zi_287_37 rfl ?_
  refine r_al0 zi_287_38 rfl ?_
  refine q_getIe zi_287_39 rfl cf_195_37 (v := τ2 195 37) (by first | exact rfl | ((repeat (first | rw [zup_ne (by first | decide | omega)] | rw [zup_nj (by first | decide | omega)] | rw [fil_ne (by first | decide | omega)])) <;> exact rfl) | (simp [up_rd, fil_rd]; exact rfl)) ?_
  refine q_cIV zi_287_42 rfl rfl rfl rfl rfl rfl rfl cf_195_0.ob (s_mkeeps (a0 := 195) (b0 := 37) (i := 173) h2 hg (Or.inr (Or.inl ⟨rfl, by decide⟩)) (fun a b z => by unfold vIm at z; omega) (fun j z => by unfold vIm at z; omega) (fun τ3' v3 g3 => ?_))
  show zk _ _ 45 _ _ _ _
  refine q_put zi_287_45 rfl cf_195_37 rfl ?_
  refine zk_bk (P := mIm g σ 174) g3 (fun τ3 h3 => ?_)
  refine r_al0 zi_287_48 rfl ?_
  refine r_al0 zi_287_49 rfl ?_
  refine r_al0 zi_287_50 rfl ?_
  refine q_getIe zi_287_51 rfl cf_195_48 (v := τ3 195 48) (by first | exact rfl | ((repeat (first | rw [zup_ne (by first | decide | omega)] | rw [zup_nj (by first | decide | omega)] | rw [fil_ne (by first | decide | omega)])) <;> exact rfl) | (simp [up_rd, fil_rd]; exact rfl)) ?_
  refine q_cIV zi_287_54 rfl rfl rfl rfl rfl rfl rfl cf_195_0.ob (s_mkeeps (a0 := 195) (b0 := 48) (i := 174) h3 hg (Or.inr (Or.inl ⟨rfl, by decide⟩)) (fun a b z => by unfold vIm at z; omega) (fun j z => by unfold vIm at z; omega) (fun τ4' v4 g4 => ?_))
  show zk _ _ 57 _ _ _ _
  refine q_put zi_287_57 rfl cf_195_48 rfl ?_
  refine zk_bk (P := mIm g σ 175) g4 (fun τ4 h4 => ?_)
  refine r_al0 zi_287_60 rfl ?_
  refine r_al0 zi_287_61 rfl ?_
  refine r_al0 zi_287_62 rfl ?_
  refine q_getIe zi_287_63 rfl cf_195_50 (v := τ4 195 50) (by first | exact rfl | ((repeat (first | rw [zup_ne (by first | decide | omega)] | rw [zup_nj (by first | decide | omega)] | rw [fil_ne (by first | decide | omega)])) <;> exact rfl) | (simp [up_rd, fil_rd]; exact rfl)) ?_
  refine q_cIV zi_287_66 rfl rfl rfl rfl rfl rfl rfl cf_195_0.ob (s_mkeeps (a0 := 195) (b0 := 50) (i := 175) h4 hg (Or.inr (Or.inl ⟨rfl, by decide⟩)) (fun a b z => by unfold vIm at z; omega) (fun j z => by unfold vIm at z; omega) (fun τ5' v5 g5 => ?_))
  show zk _ _ 69 _ _ _ _
  refine q_put zi_287_69 rfl cf_195_50 rfl ?_
  refine zk_bk (P := mIm g σ 176) g5 (fun τ5 h5 => ?_)
  refine r_al0 zi_287_72 rfl ?_
  refine r_al0 zi_287_73 rfl ?_
  refine r_al0 zi_287_74 rfl ?_
  refine q_getIe zi_287_75 rfl cf_195_56 (v := τ5 195 56) (by first | exact rfl | ((repeat (first | rw [zup_ne (by first | decide | omega)] | rw [zup_nj (by first | decide | omega)] | rw [fil_ne (by first | decide | omega)])) <;> exact rfl) | (simp [up_rd, fil_rd]; exact rfl)) ?_
  refine q_cIV zi_287_78 rfl rfl rfl rfl rfl rfl rfl cf_195_0.ob (s_mkeeps (a0 := 195) (b0 := 56) (i := 176) h5 hg (Or.inr (Or.inl ⟨rfl, by decide⟩)) (fun a b z => by unfold vIm at z; omega) (fun j z => by unfold vIm at z; omega) (fun τ6' v6 g6 => ?_))
  show zk _ _ 81 _ _ _ _
  refine q_put zi_287_81 rfl cf_195_56 rfl ?_
  refine zk_bk (P := mIm g σ 177) g6 (fun τ6 h6 => ?_)
  refine r_al0 zi_287_84 rfl ?_
  refine r_al0 zi_287_85 rfl ?_
  refine r_al0 zi_287_86 rfl ?_
  refine q_getIe zi_287_87 rfl cf_195_61 (v := τ6 195 61) (by first | exact rfl | ((repeat (first | rw [zup_ne (by first | decide | omega)] | rw [zup_nj (by first | decide | omega)] | rw [fil_ne (by first | decide | omega)])) <;> exact rfl) | (simp [up_rd, fil_rd]; exact rfl)) ?_
  refine q_cIV zi_287_90 rfl rfl rfl rfl rfl rfl rfl cf_195_0.ob (s_mkeeps (a0 := 195) (b0 := 61) (i := 177) h6 hg (Or.inr (Or.inl ⟨rfl, by decide⟩)) (fun a b z => by unfold vIm at z; omega) (fun j z => by unfold vIm at z; omega) (fun τ7' v7 g7 => ?_))
  show zk _ _ 93 _ _ _ _
  refine q_put zi_287_93 rfl cf_195_61 rfl ?_
  exact b1 _ _ g7
theorem s_mkLaw {d : Nat} {g : Bool} {σ τ : zS} {Q : zS → Prop} (hg : σ 195 66 = if g = true then 1 else 0) (h : mIm g σ 953 τ) (hq : ∀ υ, mIm g σ 1818 υ → Q υ) : zV1 (d + 1) 286 [.ref 195] τ Q := by
  show zk _ _ 0 [.ref 195, zun] [] _ _
  have c2 : ∀ υ u, mIm g σ 1818 υ → zk (d + 1) 286 141 [.ref 195, u] [] υ (fun r t => r = none ∧ Q t) := fun υ u k => by
    refine r_ret zi_286_141 rfl ?_
    exact ⟨rfl, hq υ k⟩
  have b2 : ∀ υ u, mIm g σ 1018 υ → zk (d + 1) 286 94 [.ref 195, u] [] υ (fun r t => r = none ∧ Q t) := fun υ u k => by
    refine r_push zi_286_94 rfl ?_
    refine r_is1 zi_286_95 rfl ?_
    exact l_imB (w := 0) hg c2 400 0 υ rfl k
  have b1 : ∀ υ u, mIm g σ 954 υ → zk (d + 1) 286 16 [.ref 195, u] [] υ (fun r t => r = none ∧ Q t) := fun υ u k => by
    refine r_push zi_286_16 rfl ?_
    refine r_is1 zi_286_17 rfl ?_
    exact l_imA (w := 0) hg b2 16 0 υ rfl k
  refine r_al0 zi_286_0 rfl ?_
  refine q_getR zi_286_1 rfl cf_195_17 ?_
  refine r_push zi_286_4 rfl ?_
  refine r_al0 zi_286_5 rfl ?_
  refine r_al0 zi_286_6 rfl ?_
  refine q_getR zi_286_7 rfl cf_195_17 ?_
  refine r_push zi_286_10 rfl ?_
  refine r_alde zi_286_11 rfl 0 ca_204 (by first | rfl | (simp only [zI_add, zI_mul] <;> rfl)) (by first | omega | decide) (u := τ 204 0) (by first | exact rfl | ((repeat (first | rw [zup_ne (by first | decide | omega)] | rw [zup_nj (by first | decide | omega)] | rw [fil_ne (by first | decide | omega)])) <;> exact rfl) | (simp [up_rd, fil_rd]; exact rfl)) ?_
  refine q_cIV zi_286_12 rfl rfl rfl rfl rfl rfl rfl cf_195_0.ob (s_mkeeps (a0 := 204) (b0 := 0) (i := 953) h hg (by unfold vIm; (iterate 14 right); left; omega) (fun a b z => by unfold vIm at z; omega) (fun j z => by unfold vIm at z; omega) (fun τ0 v0 g0 => ?_))
  show zk _ _ 15 _ _ _ _
  refine r_ast zi_286_15 rfl 0 ca_204 (by first | rfl | (simp only [zI_add, zI_mul] <;> rfl)) (by first | omega | decide) ?_
  exact b1 _ _ g0
def imB (σ : zS) (v : Int32) : zS := up (up (up (up σ 195 0 0) 195 66 v) 195 67 1) 195 68 0
theorem s_mimgo {d : Nat} {g : Bool} {σ : zS} {v : Int32} {R : Option Int32 → zS → Prop} (hg : v = if g = true then 1 else 0) (hq : ∀ τ u, mIm g (imB σ v) 1818 τ → zk (d + 2) 288 103 [.ref 195, .int v, u] [] τ R) : ∀ u, zk (d + 2) 288 33 [.ref 195, .int v, u] [] (imB σ v) R := fun u => by
  have h66 : imB σ v 195 66 = if g = true then 1 else 0 := ((zup_nj (by decide)).trans ((zup_nj (by decide)).trans zup_eq)).trans hg
  have h0 : mIm g (imB σ v) 0 (imB σ v) := ⟨zup_eq, fun _ _ _ _ _ => rfl, fun _ _ _ z => absurd z (Nat.not_lt_zero _), fun _ _ => rfl, fun _ _ _ _ z => absurd z (Nat.not_lt_zero _)⟩
  generalize imB σ v = σ1 at *
  have c9 : ∀ υ u, mIm g σ1 953 υ → zk (d + 2) 288 99 [.ref 195, .int v, u] [] υ R := fun υ u k => by
    refine r_al0 zi_288_99 rfl ?_
    refine q_cVV zi_288_100 rfl rfl rfl rfl rfl rfl rfl cf_195_0.ob (s_mkLaw h66 k (fun ω kk => ?_))
    show zk _ _ 103 _ _ _ _
    exact hq ω _ kk
  have c1 : ∀ υ u, mIm g σ1 170 υ → zk (d + 2) 288 64 [.ref 195, .int v, u] [] υ R := fun υ u k => by
    refine r_al0 zi_288_64 rfl ?_
    refine q_cVV zi_288_65 rfl rfl rfl rfl rfl rfl rfl cf_195_0.ob (s_mkTold h66 k (fun ω kk => ?_))
    show zk _ _ 68 _ _ _ _
    refine r_push zi_288_68 rfl ?_
    refine r_is2 zi_288_69 rfl ?_
    exact l_im9 h66 c9 600 0 ω rfl kk
  refine r_push zi_288_33 rfl ?_
  refine r_is2 zi_288_34 rfl ?_
  exact l_im0 h66 c1 170 0 _ rfl h0
theorem s_mimage {d : Nat} {σ : zS} {Q : Int32 → zS → Prop} {v : Int32} (hv : v = 0 ∨ v = 1) (hp : σ 195 67 = 0 ∨ σ 195 67 = 1) (h1 : v = 1 → ∀ τ, mIm true (imB σ 1) 1818 τ → Q 1 τ) (h0 : v = 0 → σ 195 67 = 1 → ∀ τ, mIm false (imB σ 0) 1818 τ → Q 1 (up τ 195 3 0)) (h2 : v = 0 → σ 195 67 = 0 → Q 0 (up σ 195 0 0)) : zI1 (d + 2) 288 [.ref 195, .int v] σ Q := by
  have e67 : up σ 195 0 0 195 67 = σ 195 67 := zup_nj (by decide)
  show zk _ _ 0 [.ref 195, .int v, zun] [] _ _
  rcases hv with hv | hv
  · replace h0 := h0 hv
    replace h2 := h2 hv
    subst hv
    clear h1
    rcases hp with hp | hp
    · have h2 := h2 hp
      have e67 := e67.trans hp
      refine r_al0 zi_288_0 rfl ?_
      refine r_push zi_288_1 rfl ?_
      refine q_put zi_288_2 rfl cf_195_0 rfl ?_
      refine r_il1 zi_288_5 rfl ?_
      refine r_if1 zi_288_6 rfl (fun c => absurd (by decide) c) (fun _ => ?_)
      refine r_al0 zi_288_9 rfl ?_
      refine q_getIe zi_288_10 rfl cf_195_67 (v := nI 0) (by first | exact e67 | ((repeat (first | rw [zup_ne (by first | decide | omega)] | rw [zup_nj (by first | decide | omega)] | rw [fil_ne (by first | decide | omega)])) <;> exact e67) | (simp [up_rd, fil_rd]; exact e67)) ?_
      refine n_if1 (i := 0) zi_288_13 rfl (by omega) (fun c => absurd c (by omega)) (fun _ => ?_)
      refine r_push zi_288_16 rfl ?_
      refine r_retZ zi_288_17 rfl (by decide) ?_
      exact ⟨_, rfl, h2⟩
    · have h0 := h0 hp
      have e67 := e67.trans hp
      have fin : ∀ τ u, mIm false (imB σ 0) 1818 τ → zk (d + 2) 288 103 [.ref 195, .int 0, u] [] τ (fun r t => ∃ v, r = some v ∧ Q v t) := fun τ u k => by
        have h0 := h0 τ k
        refine r_il1 zi_288_103 rfl ?_
        refine r_if1 zi_288_104 rfl (fun c => absurd (by decide) c) (fun _ => ?_)
        refine r_al0 zi_288_107 rfl ?_
        refine r_push zi_288_108 rfl ?_
        refine q_put zi_288_109 rfl cf_195_3 rfl ?_
        refine r_push zi_288_112 rfl ?_
        refine r_retZ zi_288_113 rfl (by decide) ?_
        exact ⟨_, rfl, h0⟩
      have go := s_mimgo (d := d) (g := false) (σ := σ) (v := 0) rfl fin
      unfold imB at go
      refine r_al0 zi_288_0 rfl ?_
      refine r_push zi_288_1 rfl ?_
      refine q_put zi_288_2 rfl cf_195_0 rfl ?_
      refine r_il1 zi_288_5 rfl ?_
      refine r_if1 zi_288_6 rfl (fun c => absurd (by decide) c) (fun _ => ?_)
      refine r_al0 zi_288_9 rfl ?_
      refine q_getIe zi_288_10 rfl cf_195_67 (v := nI 1) (by first | exact e67 | ((repeat (first | rw [zup_ne (by first | decide | omega)] | rw [zup_nj (by first | decide | omega)] | rw [fil_ne (by first | decide | omega)])) <;> exact e67) | (simp [up_rd, fil_rd]; exact e67)) ?_
      refine n_if1 (i := 1) zi_288_13 rfl (by omega) (fun _ => ?_) (fun c => absurd c (by omega))
      refine r_al0 zi_288_18 rfl ?_
      refine r_il1 zi_288_19 rfl ?_
      refine q_put zi_288_20 rfl cf_195_66 rfl ?_
      refine r_al0 zi_288_23 rfl ?_
      refine r_push zi_288_24 rfl ?_
      refine q_put zi_288_25 rfl cf_195_67 rfl ?_
      refine r_al0 zi_288_28 rfl ?_
      refine r_push zi_288_29 rfl ?_
      refine q_put zi_288_30 rfl cf_195_68 rfl ?_
      exact go _
  · replace h1 := h1 hv
    subst hv
    clear h0 h2
    have fin : ∀ τ u, mIm true (imB σ 1) 1818 τ → zk (d + 2) 288 103 [.ref 195, .int 1, u] [] τ (fun r t => ∃ v, r = some v ∧ Q v t) := fun τ u k => by
      have h1 := h1 τ k
      refine r_il1 zi_288_103 rfl ?_
      refine r_if1 zi_288_104 rfl (fun _ => ?_) (fun c => absurd c (by decide))
      refine r_push zi_288_112 rfl ?_
      refine r_retZ zi_288_113 rfl (by decide) ?_
      exact ⟨_, rfl, h1⟩
    have go := s_mimgo (d := d) (g := true) (σ := σ) (v := 1) rfl fin
    unfold imB at go
    refine r_al0 zi_288_0 rfl ?_
    refine r_push zi_288_1 rfl ?_
    refine q_put zi_288_2 rfl cf_195_0 rfl ?_
    refine r_il1 zi_288_5 rfl ?_
    refine r_if1 zi_288_6 rfl (fun _ => ?_) (fun c => absurd c (by decide))
    refine r_al0 zi_288_18 rfl ?_
    refine r_il1 zi_288_19 rfl ?_
    refine q_put zi_288_20 rfl cf_195_66 rfl ?_
    refine r_al0 zi_288_23 rfl ?_
    refine r_push zi_288_24 rfl ?_
    refine q_put zi_288_25 rfl cf_195_67 rfl ?_
    refine r_al0 zi_288_28 rfl ?_
    refine r_push zi_288_29 rfl ?_
    refine q_put zi_288_30 rfl cf_195_68 rfl ?_
    exact go _

