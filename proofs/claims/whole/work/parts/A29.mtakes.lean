/-! MODEL: a text is taken -/
theorem l_cpy {τ σ : zS} {a o s l : Nat} {v : Int32} (h : ∀ q, q < l → τ a (o + q) = σ a (s + q)) (hv : v = σ a (s + l)) : ∀ q, q < l + 1 → up τ a (o + l) v a (o + q) = σ a (s + q) := fun q hq => by
  by_cases e : q = l
  · rw [e, zup_eq, hv]
  · rw [zup_nj (by omega)]; exact h q (by omega)
/-- the law's lines and codes, taken -/
def mK1 (σ : zS) (l : Nat) (τ : zS) : Prop := (∀ a c, ¬ (205 ≤ a ∧ a ≤ 208 ∧ c < 16) → τ a c = σ a c) ∧ (∀ q, q < l → τ 205 q = σ 205 (32 + q)) ∧ (∀ q, q < l → τ 206 q = σ 206 (32 + q)) ∧ (∀ q, q < l → τ 207 q = σ 207 (32 + q)) ∧ (∀ q, q < l → τ 208 q = σ 208 (32 + q))
theorem mK1_s {σ τ : zS} {l : Nat} (h : mK1 σ l τ) (hl : l < 16) : mK1 σ (l + 1) (up (up (up (up τ 205 l (σ 205 (32 + l))) 206 l (σ 206 (32 + l))) 207 l (σ 207 (32 + l))) 208 l (σ 208 (32 + l))) := by
  obtain ⟨h1, h2, h3, h4, h5⟩ := h
  refine ⟨fun a c hn => ?_, fun q hq => ?_, fun q hq => ?_, fun q hq => ?_, fun q hq => ?_⟩
  · rw [zup_n2 (by omega), zup_n2 (by omega), zup_n2 (by omega), zup_n2 (by omega)]; exact h1 a c hn
  · rw [zup_ne (by decide), zup_ne (by decide), zup_ne (by decide)]
    by_cases e : q = l
    · rw [e, zup_eq]
    · rw [zup_nj e]; exact h2 q (by omega)
  · rw [zup_ne (by decide), zup_ne (by decide)]
    by_cases e : q = l
    · rw [e, zup_eq]
    · rw [zup_nj e, zup_ne (by decide)]; exact h3 q (by omega)
  · rw [zup_ne (by decide)]
    by_cases e : q = l
    · rw [e, zup_eq]
    · rw [zup_nj e, zup_ne (by decide), zup_ne (by decide)]; exact h4 q (by omega)
  · by_cases e : q = l
    · rw [e, zup_eq]
    · rw [zup_nj e, zup_ne (by decide), zup_ne (by decide), zup_ne (by decide)]; exact h5 q (by omega)
def mK2 (σ : zS) (l : Nat) (τ : zS) : Prop := (∀ a c, ¬ ((a = 209 ∨ a = 210) ∧ c < 400) → τ a c = σ a c) ∧ (∀ q, q < l → τ 209 q = σ 209 (800 + q)) ∧ (∀ q, q < l → τ 210 q = σ 210 (800 + q))
theorem mK2_s {σ τ : zS} {l : Nat} (h : mK2 σ l τ) (hl : l < 400) : mK2 σ (l + 1) (up (up τ 209 l (σ 209 (800 + l))) 210 l (σ 210 (800 + l))) := by
  obtain ⟨h1, h2, h3⟩ := h
  refine ⟨fun a c hn => ?_, fun q hq => ?_, fun q hq => ?_⟩
  · rw [zup_n2 (by omega), zup_n2 (by omega)]; exact h1 a c hn
  · rw [zup_ne (by decide)]
    by_cases e : q = l
    · rw [e, zup_eq]
    · rw [zup_nj e]; exact h2 q (by omega)
  · by_cases e : q = l
    · rw [e, zup_eq]
    · rw [zup_nj e, zup_ne (by decide)]; exact h3 q (by omega)
theorem s_tlaw {d L C : Nat} {σ : zS} {Q : zS → Prop} (hL : L ≤ 16) (hC : C ≤ 400) (h24 : σ 195 24 = 0) (h25 : σ 195 25 = nI C) (hq : ∀ τ υ, mK1 σ L τ → mK2 τ C υ → Q (up υ 204 0 (nI L))) : zV1 d 208 [.ref 195, .int (nI L)] σ Q := by
  have lp2 : ∀ τ, mK1 σ L τ → ∀ (m l : Nat) (υ : zS), l + m = C → mK2 τ l υ → zk d 208 107 [.ref 195, .int (nI L), .int (nI l)] [] υ (fun r t => r = none ∧ Q t) := by
    intro τ h1 m
    have g24 : ∀ υ l, mK2 τ l υ → υ 195 24 = nI 0 := fun υ l x => (x.1 195 24 (by omega)).trans ((h1.1 195 24 (by omega)).trans h24)
    have g25 : ∀ υ l, mK2 τ l υ → υ 195 25 = nI C := fun υ l x => (x.1 195 25 (by omega)).trans ((h1.1 195 25 (by omega)).trans h25)
    induction m with
    | zero =>
      intro l υ hl hK
      have e : l = C := by omega
      subst e
      have hq := hq τ υ h1 hK
      refine r_il2 zi_208_107 rfl ?_
      refine r_al0 zi_208_108 rfl ?_
      refine q_getIe zi_208_109 rfl cf_195_25 (v := nI l) (by first | exact g25 _ _ hK | ((repeat (first | rw [zup_ne (by first | decide | omega)] | rw [zup_nj (by first | decide | omega)] | rw [fil_ne (by first | decide | omega)])) <;> exact g25 _ _ hK) | (simp [up_rd, fil_rd]; exact g25 _ _ hK)) ?_
      refine n_ic3 (i := l) (j := l) zi_208_112 rfl (by omega) (by omega) (fun _ => ?_) (fun c => absurd c (by omega))
      refine r_al0 zi_208_171 rfl ?_
      refine q_getR zi_208_172 rfl cf_195_17 ?_
      refine r_al0 zi_208_175 rfl ?_
      refine q_getIe zi_208_176 rfl cf_195_24 (v := nI 0) (by first | exact g24 _ _ hK | ((repeat (first | rw [zup_ne (by first | decide | omega)] | rw [zup_nj (by first | decide | omega)] | rw [fil_ne (by first | decide | omega)])) <;> exact g24 _ _ hK) | (simp [up_rd, fil_rd]; exact g24 _ _ hK)) ?_
      refine r_il1 zi_208_179 rfl ?_
      refine r_ast zi_208_180 rfl 0 ca_204 (by first | rfl | (simp only [zI_add, zI_mul] <;> rfl)) (by first | omega | decide) ?_
      refine r_ret zi_208_181 rfl ?_
      exact ⟨rfl, hq⟩
    | succ m ih =>
      intro l υ hl hK
      have hl4 : l < 400 := by omega
      have hlC : l < C := by omega
      have ih := ih (l + 1) _ (by omega) (mK2_s hK hl4)
      have e1 : υ 209 (800 + l) = τ 209 (800 + l) := hK.1 209 _ (by omega)
      have e2 : ∀ v : Int32, up υ 209 l v 210 (800 + l) = τ 210 (800 + l) := fun v => (zup_ne (by decide)).trans (hK.1 210 _ (by omega))
      have e3 : ∀ v : Int32, up υ 209 l v 195 24 = nI 0 := fun v => (zup_ne (by decide)).trans (g24 _ _ hK)
      refine r_il2 zi_208_107 rfl ?_
      refine r_al0 zi_208_108 rfl ?_
      refine q_getIe zi_208_109 rfl cf_195_25 (v := nI C) (by first | exact g25 _ _ hK | ((repeat (first | rw [zup_ne (by first | decide | omega)] | rw [zup_nj (by first | decide | omega)] | rw [fil_ne (by first | decide | omega)])) <;> exact g25 _ _ hK) | (simp [up_rd, fil_rd]; exact g25 _ _ hK)) ?_
      refine n_ic3 (i := l) (j := C) zi_208_112 rfl (by omega) (by omega) (fun c => absurd c (by omega)) (fun _ => ?_)
      refine r_al0 zi_208_115 rfl ?_
      refine q_getR zi_208_116 rfl cf_195_22 ?_
      refine r_push zi_208_119 rfl ?_
      refine r_al0 zi_208_122 rfl ?_
      refine q_getIe zi_208_123 rfl cf_195_24 (v := nI 0) (by first | exact g24 _ _ hK | ((repeat (first | rw [zup_ne (by first | decide | omega)] | rw [zup_nj (by first | decide | omega)] | rw [fil_ne (by first | decide | omega)])) <;> exact g24 _ _ hK) | (simp [up_rd, fil_rd]; exact g24 _ _ hK)) ?_
      refine r_b2 zi_208_126 rfl ?_
      rw [show (400 * nI 0 : Int32) = nI (400 * 0) from pk_mul _ _]
      refine r_il2 zi_208_127 rfl ?_
      refine r_b0 zi_208_128 rfl ?_
      rw [show (nI (400 * 0) + nI l : Int32) = nI ((400 * 0) + l) from nI_add _ _]
      refine r_al0 zi_208_129 rfl ?_
      refine q_getR zi_208_130 rfl cf_195_22 ?_
      refine r_push zi_208_133 rfl ?_
      refine r_il2 zi_208_136 rfl ?_
      refine r_b0 zi_208_137 rfl ?_
      rw [show (800 + nI l : Int32) = nI (800 + l) from nI_add _ _]
      refine r_alde zi_208_138 rfl (800 + l) ca_209 (by first | rfl | (simp only [zI_add, zI_mul] <;> rfl)) (by first | omega | decide) (u := τ 209 (800 + l)) (by first | exact e1 | ((repeat (first | rw [zup_ne (by first | decide | omega)] | rw [zup_nj (by first | decide | omega)] | rw [fil_ne (by first | decide | omega)])) <;> exact e1) | (simp [up_rd, fil_rd]; exact e1)) ?_
      refine r_ast zi_208_139 rfl l ca_209 (congrArg nI (by omega)) (by omega) ?_
      refine r_al0 zi_208_140 rfl ?_
      refine q_getR zi_208_141 rfl cf_195_23 ?_
      refine r_push zi_208_144 rfl ?_
      refine r_al0 zi_208_147 rfl ?_
      refine q_getIe zi_208_148 rfl cf_195_24 (v := nI 0) (by first | exact e3 _ | ((repeat (first | rw [zup_ne (by first | decide | omega)] | rw [zup_nj (by first | decide | omega)] | rw [fil_ne (by first | decide | omega)])) <;> exact e3 _) | (simp [up_rd, fil_rd]; exact e3 _)) ?_
      refine r_b2 zi_208_151 rfl ?_
      rw [show (400 * nI 0 : Int32) = nI (400 * 0) from pk_mul _ _]
      refine r_il2 zi_208_152 rfl ?_
      refine r_b0 zi_208_153 rfl ?_
      rw [show (nI (400 * 0) + nI l : Int32) = nI ((400 * 0) + l) from nI_add _ _]
      refine r_al0 zi_208_154 rfl ?_
      refine q_getR zi_208_155 rfl cf_195_23 ?_
      refine r_push zi_208_158 rfl ?_
      refine r_il2 zi_208_161 rfl ?_
      refine r_b0 zi_208_162 rfl ?_
      rw [show (800 + nI l : Int32) = nI (800 + l) from nI_add _ _]
      refine r_alde zi_208_163 rfl (800 + l) ca_210 (by first | rfl | (simp only [zI_add, zI_mul] <;> rfl)) (by first | omega | decide) (u := τ 210 (800 + l)) (by first | exact e2 _ | ((repeat (first | rw [zup_ne (by first | decide | omega)] | rw [zup_nj (by first | decide | omega)] | rw [fil_ne (by first | decide | omega)])) <;> exact e2 _) | (simp [up_rd, fil_rd]; exact e2 _)) ?_
      refine r_ast zi_208_164 rfl l ca_210 (congrArg nI (by omega)) (by omega) ?_
      refine r_in2 zi_208_165 rfl ?_
      rw [show (nI l + 1 : Int32) = nI (l + 1) from nI_add _ _]
      refine r_goto zi_208_168 rfl ?_
      exact ih
  have lp1 : ∀ (m l : Nat) (τ : zS), l + m = L → mK1 σ l τ → zk d 208 2 [.ref 195, .int (nI L), .int (nI l)] [] τ (fun r t => r = none ∧ Q t) := by
    intro m
    have g24 : ∀ τ l, mK1 σ l τ → τ 195 24 = nI 0 := fun τ l x => (x.1 195 24 (by omega)).trans h24
    induction m with
    | zero =>
      intro l τ hl hK
      have e : l = L := by omega
      subst e
      have lp2 := lp2 τ hK C 0 τ (by omega) ⟨fun _ _ _ => rfl, fun q hq => absurd hq (Nat.not_lt_zero q), fun q hq => absurd hq (Nat.not_lt_zero q)⟩
      refine r_il2 zi_208_2 rfl ?_
      refine r_il1 zi_208_3 rfl ?_
      refine n_ic3 (i := l) (j := l) zi_208_4 rfl (by omega) (by omega) (fun _ => ?_) (fun c => absurd c (by omega))
      refine r_push zi_208_105 rfl ?_
      refine r_is2 zi_208_106 rfl ?_
      exact lp2
    | succ m ih =>
      intro l τ hl hK
      have hl4 : l < 16 := by omega
      have hlL : l < L := by omega
      have ih := ih (l + 1) _ (by omega) (mK1_s hK hl4)
      have g : ∀ a, a = 205 ∨ a = 206 ∨ a = 207 ∨ a = 208 → τ a (32 + l) = σ a (32 + l) := fun a h => hK.1 a _ (by omega)
      have e2 : ∀ v : Int32, up τ 205 l v 206 (32 + l) = σ 206 (32 + l) := fun v => (zup_ne (by decide)).trans (g 206 (by omega))
      have e3 : ∀ v w : Int32, up (up τ 205 l v) 206 l w 207 (32 + l) = σ 207 (32 + l) := fun v w => (zup_ne (by decide)).trans ((zup_ne (by decide)).trans (g 207 (by omega)))
      have e4 : ∀ v w x : Int32, up (up (up τ 205 l v) 206 l w) 207 l x 208 (32 + l) = σ 208 (32 + l) := fun v w x => (zup_ne (by decide)).trans ((zup_ne (by decide)).trans ((zup_ne (by decide)).trans (g 208 (by omega))))
      have w2 : ∀ v : Int32, up τ 205 l v 195 24 = nI 0 := fun v => (zup_ne (by decide)).trans (g24 _ _ hK)
      have w3 : ∀ v w : Int32, up (up τ 205 l v) 206 l w 195 24 = nI 0 := fun v w => (zup_ne (by decide)).trans ((zup_ne (by decide)).trans (g24 _ _ hK))
      have w4 : ∀ v w x : Int32, up (up (up τ 205 l v) 206 l w) 207 l x 195 24 = nI 0 := fun v w x => (zup_ne (by decide)).trans ((zup_ne (by decide)).trans ((zup_ne (by decide)).trans (g24 _ _ hK)))
      refine r_il2 zi_208_2 rfl ?_
      refine r_il1 zi_208_3 rfl ?_
      refine n_ic3 (i := l) (j := L) zi_208_4 rfl (by omega) (by omega) (fun c => absurd c (by omega)) (fun _ => ?_)
      refine r_al0 zi_208_7 rfl ?_
      refine q_getR zi_208_8 rfl cf_195_18 ?_
      refine r_push zi_208_11 rfl ?_
      refine r_al0 zi_208_13 rfl ?_
      refine q_getIe zi_208_14 rfl cf_195_24 (v := nI 0) (by first | exact g24 _ _ hK | ((repeat (first | rw [zup_ne (by first | decide | omega)] | rw [zup_nj (by first | decide | omega)] | rw [fil_ne (by first | decide | omega)])) <;> exact g24 _ _ hK) | (simp [up_rd, fil_rd]; exact g24 _ _ hK)) ?_
      refine r_b2 zi_208_17 rfl ?_
      rw [show (16 * nI 0 : Int32) = nI (16 * 0) from pk_mul _ _]
      refine r_il2 zi_208_18 rfl ?_
      refine r_b0 zi_208_19 rfl ?_
      rw [show (nI (16 * 0) + nI l : Int32) = nI ((16 * 0) + l) from nI_add _ _]
      refine r_al0 zi_208_20 rfl ?_
      refine q_getR zi_208_21 rfl cf_195_18 ?_
      refine r_push zi_208_24 rfl ?_
      refine r_il2 zi_208_26 rfl ?_
      refine r_b0 zi_208_27 rfl ?_
      rw [show (32 + nI l : Int32) = nI (32 + l) from nI_add _ _]
      refine r_alde zi_208_28 rfl (32 + l) ca_205 (by first | rfl | (simp only [zI_add, zI_mul] <;> rfl)) (by first | omega | decide) (u := σ 205 (32 + l)) (by first | exact (g 205 (by omega)) | ((repeat (first | rw [zup_ne (by first | decide | omega)] | rw [zup_nj (by first | decide | omega)] | rw [fil_ne (by first | decide | omega)])) <;> exact (g 205 (by omega))) | (simp [up_rd, fil_rd]; exact (g 205 (by omega)))) ?_
      refine r_ast zi_208_29 rfl l ca_205 (congrArg nI (by omega)) (by omega) ?_
      refine r_al0 zi_208_30 rfl ?_
      refine q_getR zi_208_31 rfl cf_195_19 ?_
      refine r_push zi_208_34 rfl ?_
      refine r_al0 zi_208_36 rfl ?_
      refine q_getIe zi_208_37 rfl cf_195_24 (v := nI 0) (by first | exact w2 _ | ((repeat (first | rw [zup_ne (by first | decide | omega)] | rw [zup_nj (by first | decide | omega)] | rw [fil_ne (by first | decide | omega)])) <;> exact w2 _) | (simp [up_rd, fil_rd]; exact w2 _)) ?_
      refine r_b2 zi_208_40 rfl ?_
      rw [show (16 * nI 0 : Int32) = nI (16 * 0) from pk_mul _ _]
      refine r_il2 zi_208_41 rfl ?_
      refine r_b0 zi_208_42 rfl ?_
      rw [show (nI (16 * 0) + nI l : Int32) = nI ((16 * 0) + l) from nI_add _ _]
      refine r_al0 zi_208_43 rfl ?_
      refine q_getR zi_208_44 rfl cf_195_19 ?_
      refine r_push zi_208_47 rfl ?_
      refine r_il2 zi_208_49 rfl ?_
      refine r_b0 zi_208_50 rfl ?_
      rw [show (32 + nI l : Int32) = nI (32 + l) from nI_add _ _]
      refine r_alde zi_208_51 rfl (32 + l) ca_206 (by first | rfl | (simp only [zI_add, zI_mul] <;> rfl)) (by first | omega | decide) (u := σ 206 (32 + l)) (by first | exact e2 _ | ((repeat (first | rw [zup_ne (by first | decide | omega)] | rw [zup_nj (by first | decide | omega)] | rw [fil_ne (by first | decide | omega)])) <;> exact e2 _) | (simp [up_rd, fil_rd]; exact e2 _)) ?_
      refine r_ast zi_208_52 rfl l ca_206 (congrArg nI (by omega)) (by omega) ?_
      refine r_al0 zi_208_53 rfl ?_
      refine q_getR zi_208_54 rfl cf_195_20 ?_
      refine r_push zi_208_57 rfl ?_
      refine r_al0 zi_208_59 rfl ?_
      refine q_getIe zi_208_60 rfl cf_195_24 (v := nI 0) (by first | exact w3 _ _ | ((repeat (first | rw [zup_ne (by first | decide | omega)] | rw [zup_nj (by first | decide | omega)] | rw [fil_ne (by first | decide | omega)])) <;> exact w3 _ _) | (simp [up_rd, fil_rd]; exact w3 _ _)) ?_
      refine r_b2 zi_208_63 rfl ?_
      rw [show (16 * nI 0 : Int32) = nI (16 * 0) from pk_mul _ _]
      refine r_il2 zi_208_64 rfl ?_
      refine r_b0 zi_208_65 rfl ?_
      rw [show (nI (16 * 0) + nI l : Int32) = nI ((16 * 0) + l) from nI_add _ _]
      refine r_al0 zi_208_66 rfl ?_
      refine q_getR zi_208_67 rfl cf_195_20 ?_
      refine r_push zi_208_70 rfl ?_
      refine r_il2 zi_208_72 rfl ?_
      refine r_b0 zi_208_73 rfl ?_
      rw [show (32 + nI l : Int32) = nI (32 + l) from nI_add _ _]
      refine r_alde zi_208_74 rfl (32 + l) ca_207 (by first | rfl | (simp only [zI_add, zI_mul] <;> rfl)) (by first | omega | decide) (u := σ 207 (32 + l)) (by first | exact e3 _ _ | ((repeat (first | rw [zup_ne (by first | decide | omega)] | rw [zup_nj (by first | decide | omega)] | rw [fil_ne (by first | decide | omega)])) <;> exact e3 _ _) | (simp [up_rd, fil_rd]; exact e3 _ _)) ?_
      refine r_ast zi_208_75 rfl l ca_207 (congrArg nI (by omega)) (by omega) ?_
      refine r_al0 zi_208_76 rfl ?_
      refine q_getR zi_208_77 rfl cf_195_21 ?_
      refine r_push zi_208_80 rfl ?_
      refine r_al0 zi_208_82 rfl ?_
      refine q_getIe zi_208_83 rfl cf_195_24 (v := nI 0) (by first | exact w4 _ _ _ | ((repeat (first | rw [zup_ne (by first | decide | omega)] | rw [zup_nj (by first | decide | omega)] | rw [fil_ne (by first | decide | omega)])) <;> exact w4 _ _ _) | (simp [up_rd, fil_rd]; exact w4 _ _ _)) ?_
      refine r_b2 zi_208_86 rfl ?_
      rw [show (16 * nI 0 : Int32) = nI (16 * 0) from pk_mul _ _]
      refine r_il2 zi_208_87 rfl ?_
      refine r_b0 zi_208_88 rfl ?_
      rw [show (nI (16 * 0) + nI l : Int32) = nI ((16 * 0) + l) from nI_add _ _]
      refine r_al0 zi_208_89 rfl ?_
      refine q_getR zi_208_90 rfl cf_195_21 ?_
      refine r_push zi_208_93 rfl ?_
      refine r_il2 zi_208_95 rfl ?_
      refine r_b0 zi_208_96 rfl ?_
      rw [show (32 + nI l : Int32) = nI (32 + l) from nI_add _ _]
      refine r_alde zi_208_97 rfl (32 + l) ca_208 (by first | rfl | (simp only [zI_add, zI_mul] <;> rfl)) (by first | omega | decide) (u := σ 208 (32 + l)) (by first | exact e4 _ _ _ | ((repeat (first | rw [zup_ne (by first | decide | omega)] | rw [zup_nj (by first | decide | omega)] | rw [fil_ne (by first | decide | omega)])) <;> exact e4 _ _ _) | (simp [up_rd, fil_rd]; exact e4 _ _ _)) ?_
      refine r_ast zi_208_98 rfl l ca_208 (congrArg nI (by omega)) (by omega) ?_
      refine r_in2 zi_208_99 rfl ?_
      rw [show (nI l + 1 : Int32) = nI (l + 1) from nI_add _ _]
      refine r_goto zi_208_102 rfl ?_
      exact ih
  show zk _ _ 0 [.ref 195, .int (nI L), zun] [] _ _
  refine r_push zi_208_0 rfl ?_
  refine r_is2 zi_208_1 rfl ?_
  exact lp1 L 0 σ (by omega) ⟨fun _ _ _ => rfl, fun q hq => absurd hq (Nat.not_lt_zero q), fun q hq => absurd hq (Nat.not_lt_zero q), fun q hq => absurd hq (Nat.not_lt_zero q), fun q hq => absurd hq (Nat.not_lt_zero q)⟩
/-- a row, taken from its draft -/
def mK3 (σ : zS) (c s l : Nat) (τ : zS) : Prop := (∀ a q, ¬ (a = c ∧ q < s) → τ a q = σ a q) ∧ ∀ q, q < l → τ c q = σ c (s + q)
theorem mK3_s {σ τ : zS} {c s l : Nat} (h : mK3 σ c s l τ) (hl : l < s) : mK3 σ c s (l + 1) (up τ c l (σ c (s + l))) := by
  refine ⟨fun a q hn => ?_, fun q hq => ?_⟩
  · rw [zup_n2 (by omega)]; exact h.1 a q hn
  · by_cases e : q = l
    · rw [e, zup_eq]
    · rw [zup_nj e]; exact h.2 q (by omega)
theorem s_tother {d k L : Nat} {σ : zS} {Q : zS → Prop} (hk : k = 1 ∨ k = 2 ∨ k = 3) (hL : L ≤ 16) (h1 : k = 1 → ∀ τ, mK3 σ 212 32 (2 * L) τ → Q (up (up τ 195 33 (nI L)) 195 3 0)) (h2 : k = 2 → ∀ τ, mK3 σ 213 48 (3 * L) τ → Q (up (up τ 195 35 (nI L)) 195 3 0)) (h3 : k = 3 → ∀ τ, mK3 σ 214 12 12 τ → Q (up (up τ 195 37 (nI L)) 195 3 0)) : zV1 d 220 [.ref 195, .int (nI k), .int (nI L)] σ Q := by
  have z0 : ∀ c s, mK3 σ c s 0 σ := fun c s => ⟨fun _ _ _ => rfl, fun q hq => absurd hq (Nat.not_lt_zero q)⟩
  rcases hk with e | e | e
  · subst e
    have h1 := h1 rfl
    have lp : ∀ (m l : Nat) (τ : zS), l + m = 2 * L → mK3 σ 212 32 l τ → zk d 220 49 [.ref 195, .int 1, .int (nI L), .int (nI l)] [] τ (fun r t => r = none ∧ Q t) := by
      intro m
      induction m with
      | zero =>
        intro l τ hl hK
        have e : l = 2 * L := by omega
        subst e
        have h1 := h1 τ hK
        refine r_il3 zi_220_49 rfl ?_
        refine r_push zi_220_50 rfl ?_
        refine r_il2 zi_220_51 rfl ?_
        refine r_b2 zi_220_52 rfl ?_
        rw [show (2 * nI L : Int32) = nI (2 * L) from pk_mul _ _]
        refine n_ic3 (i := (2*L)) (j := (2 * L)) zi_220_53 rfl (by omega) (by omega) (fun _ => ?_) (fun c => absurd c (by omega))
        refine r_al0 zi_220_77 rfl ?_
        refine r_il2 zi_220_78 rfl ?_
        refine q_put zi_220_79 rfl cf_195_33 rfl ?_
        refine r_goto zi_220_82 rfl ?_
        refine r_al0 zi_220_120 rfl ?_
        refine r_push zi_220_121 rfl ?_
        refine q_put zi_220_122 rfl cf_195_3 rfl ?_
        refine r_ret zi_220_125 rfl ?_
        exact ⟨rfl, h1⟩
      | succ m ih =>
        intro l τ hl hK
        have ih := ih (l + 1) _ (by omega) (mK3_s hK (by omega))
        have e1 : τ 212 (32 + l) = σ 212 (32 + l) := hK.1 212 _ (by omega)
        refine r_il3 zi_220_49 rfl ?_
        refine r_push zi_220_50 rfl ?_
        refine r_il2 zi_220_51 rfl ?_
        refine r_b2 zi_220_52 rfl ?_
        rw [show (2 * nI L : Int32) = nI (2 * L) from pk_mul _ _]
        refine n_ic3 (i := l) (j := (2 * L)) zi_220_53 rfl (by omega) (by omega) (fun c => absurd c (by omega)) (fun _ => ?_)
        refine r_al0 zi_220_56 rfl ?_
        refine q_getR zi_220_57 rfl cf_195_34 ?_
        refine r_il3 zi_220_60 rfl ?_
        refine r_al0 zi_220_61 rfl ?_
        refine q_getR zi_220_62 rfl cf_195_34 ?_
        refine r_push zi_220_65 rfl ?_
        refine r_il3 zi_220_67 rfl ?_
        refine r_b0 zi_220_68 rfl ?_
        rw [show (32 + nI l : Int32) = nI (32 + l) from nI_add _ _]
        refine r_alde zi_220_69 rfl (32 + l) ca_212 (by first | rfl | (simp only [zI_add, zI_mul] <;> rfl)) (by first | omega | decide) (u := σ 212 (32 + l)) (by first | exact e1 | ((repeat (first | rw [zup_ne (by first | decide | omega)] | rw [zup_nj (by first | decide | omega)] | rw [fil_ne (by first | decide | omega)])) <;> exact e1) | (simp [up_rd, fil_rd]; exact e1)) ?_
        refine r_ast zi_220_70 rfl l ca_212 (by first | rfl | (simp only [zI_add, zI_mul] <;> rfl)) (by first | omega | decide) ?_
        refine r_in3 zi_220_71 rfl ?_
        rw [show (nI l + 1 : Int32) = nI (l + 1) from nI_add _ _]
        refine r_goto zi_220_74 rfl ?_
        exact ih
    show zk _ _ 0 [.ref 195, .int 1, .int (nI L), zun] [] _ _
    refine r_il1 zi_220_0 rfl ?_
    refine r_push zi_220_1 rfl ?_
    refine r_ic1 zi_220_2 rfl (fun _ => ?_) (fun c => absurd c (by decide))
    refine r_il1 zi_220_42 rfl ?_
    refine r_push zi_220_43 rfl ?_
    refine r_ic1 zi_220_44 rfl (fun c => absurd (by decide) c) (fun _ => ?_)
    refine r_push zi_220_47 rfl ?_
    refine r_is3 zi_220_48 rfl ?_
    exact lp (2 * L) 0 σ (by omega) (z0 _ _)
  · subst e
    have h2 := h2 rfl
    have lp : ∀ (m l : Nat) (τ : zS), l + m = 3 * L → mK3 σ 213 48 l τ → zk d 220 87 [.ref 195, .int 2, .int (nI L), .int (nI l)] [] τ (fun r t => r = none ∧ Q t) := by
      intro m
      induction m with
      | zero =>
        intro l τ hl hK
        have e : l = 3 * L := by omega
        subst e
        have h2 := h2 τ hK
        refine r_il3 zi_220_87 rfl ?_
        refine r_push zi_220_88 rfl ?_
        refine r_il2 zi_220_89 rfl ?_
        refine r_b2 zi_220_90 rfl ?_
        rw [show (3 * nI L : Int32) = nI (3 * L) from pk_mul _ _]
        refine n_ic3 (i := (3*L)) (j := (3 * L)) zi_220_91 rfl (by omega) (by omega) (fun _ => ?_) (fun c => absurd c (by omega))
        refine r_al0 zi_220_115 rfl ?_
        refine r_il2 zi_220_116 rfl ?_
        refine q_put zi_220_117 rfl cf_195_35 rfl ?_
        refine r_al0 zi_220_120 rfl ?_
        refine r_push zi_220_121 rfl ?_
        refine q_put zi_220_122 rfl cf_195_3 rfl ?_
        refine r_ret zi_220_125 rfl ?_
        exact ⟨rfl, h2⟩
      | succ m ih =>
        intro l τ hl hK
        have ih := ih (l + 1) _ (by omega) (mK3_s hK (by omega))
        have e1 : τ 213 (48 + l) = σ 213 (48 + l) := hK.1 213 _ (by omega)
        refine r_il3 zi_220_87 rfl ?_
        refine r_push zi_220_88 rfl ?_
        refine r_il2 zi_220_89 rfl ?_
        refine r_b2 zi_220_90 rfl ?_
        rw [show (3 * nI L : Int32) = nI (3 * L) from pk_mul _ _]
        refine n_ic3 (i := l) (j := (3 * L)) zi_220_91 rfl (by omega) (by omega) (fun c => absurd c (by omega)) (fun _ => ?_)
        refine r_al0 zi_220_94 rfl ?_
        refine q_getR zi_220_95 rfl cf_195_36 ?_
        refine r_il3 zi_220_98 rfl ?_
        refine r_al0 zi_220_99 rfl ?_
        refine q_getR zi_220_100 rfl cf_195_36 ?_
        refine r_push zi_220_103 rfl ?_
        refine r_il3 zi_220_105 rfl ?_
        refine r_b0 zi_220_106 rfl ?_
        rw [show (48 + nI l : Int32) = nI (48 + l) from nI_add _ _]
        refine r_alde zi_220_107 rfl (48 + l) ca_213 (by first | rfl | (simp only [zI_add, zI_mul] <;> rfl)) (by first | omega | decide) (u := σ 213 (48 + l)) (by first | exact e1 | ((repeat (first | rw [zup_ne (by first | decide | omega)] | rw [zup_nj (by first | decide | omega)] | rw [fil_ne (by first | decide | omega)])) <;> exact e1) | (simp [up_rd, fil_rd]; exact e1)) ?_
        refine r_ast zi_220_108 rfl l ca_213 (by first | rfl | (simp only [zI_add, zI_mul] <;> rfl)) (by first | omega | decide) ?_
        refine r_in3 zi_220_109 rfl ?_
        rw [show (nI l + 1 : Int32) = nI (l + 1) from nI_add _ _]
        refine r_goto zi_220_112 rfl ?_
        exact ih
    show zk _ _ 0 [.ref 195, .int 2, .int (nI L), zun] [] _ _
    refine r_il1 zi_220_0 rfl ?_
    refine r_push zi_220_1 rfl ?_
    refine r_ic1 zi_220_2 rfl (fun _ => ?_) (fun c => absurd c (by decide))
    refine r_il1 zi_220_42 rfl ?_
    refine r_push zi_220_43 rfl ?_
    refine r_ic1 zi_220_44 rfl (fun _ => ?_) (fun c => absurd c (by decide))
    refine r_push zi_220_85 rfl ?_
    refine r_is3 zi_220_86 rfl ?_
    exact lp (3 * L) 0 σ (by omega) (z0 _ _)
  · subst e
    have h3 := h3 rfl
    have lp : ∀ (m l : Nat) (τ : zS), l + m = 12 → mK3 σ 214 12 l τ → zk d 220 7 [.ref 195, .int 3, .int (nI L), .int (nI l)] [] τ (fun r t => r = none ∧ Q t) := by
      intro m
      induction m with
      | zero =>
        intro l τ hl hK
        have e : l = 12 := by omega
        subst e
        have h3 := h3 τ hK
        refine r_il3 zi_220_7 rfl ?_
        refine r_push zi_220_8 rfl ?_
        refine n_ic3 (i := 12) (j := 12) zi_220_10 rfl (by omega) (by omega) (fun _ => ?_) (fun c => absurd c (by omega))
        refine r_al0 zi_220_34 rfl ?_
        refine r_il2 zi_220_35 rfl ?_
        refine q_put zi_220_36 rfl cf_195_37 rfl ?_
        refine r_goto zi_220_39 rfl ?_
        refine r_al0 zi_220_120 rfl ?_
        refine r_push zi_220_121 rfl ?_
        refine q_put zi_220_122 rfl cf_195_3 rfl ?_
        refine r_ret zi_220_125 rfl ?_
        exact ⟨rfl, h3⟩
      | succ m ih =>
        intro l τ hl hK
        have ih := ih (l + 1) _ (by omega) (mK3_s hK (by omega))
        have e1 : τ 214 (12 + l) = σ 214 (12 + l) := hK.1 214 _ (by omega)
        refine r_il3 zi_220_7 rfl ?_
        refine r_push zi_220_8 rfl ?_
        refine n_ic3 (i := l) (j := 12) zi_220_10 rfl (by omega) (by omega) (fun c => absurd c (by omega)) (fun _ => ?_)
        refine r_al0 zi_220_13 rfl ?_
        refine q_getR zi_220_14 rfl cf_195_38 ?_
        refine r_il3 zi_220_17 rfl ?_
        refine r_al0 zi_220_18 rfl ?_
        refine q_getR zi_220_19 rfl cf_195_38 ?_
        refine r_push zi_220_22 rfl ?_
        refine r_il3 zi_220_24 rfl ?_
        refine r_b0 zi_220_25 rfl ?_
        rw [show (12 + nI l : Int32) = nI (12 + l) from nI_add _ _]
        refine r_alde zi_220_26 rfl (12 + l) ca_214 (by first | rfl | (simp only [zI_add, zI_mul] <;> rfl)) (by first | omega | decide) (u := σ 214 (12 + l)) (by first | exact e1 | ((repeat (first | rw [zup_ne (by first | decide | omega)] | rw [zup_nj (by first | decide | omega)] | rw [fil_ne (by first | decide | omega)])) <;> exact e1) | (simp [up_rd, fil_rd]; exact e1)) ?_
        refine r_ast zi_220_27 rfl l ca_214 (by first | rfl | (simp only [zI_add, zI_mul] <;> rfl)) (by first | omega | decide) ?_
        refine r_in3 zi_220_28 rfl ?_
        rw [show (nI l + 1 : Int32) = nI (l + 1) from nI_add _ _]
        refine r_goto zi_220_31 rfl ?_
        exact ih
    show zk _ _ 0 [.ref 195, .int 3, .int (nI L), zun] [] _ _
    refine r_il1 zi_220_0 rfl ?_
    refine r_push zi_220_1 rfl ?_
    refine r_ic1 zi_220_2 rfl (fun c => absurd (by decide) c) (fun _ => ?_)
    refine r_push zi_220_5 rfl ?_
    refine r_is3 zi_220_6 rfl ?_
    exact lp 12 0 σ (by omega) (z0 _ _)

