theorem vIm_i {a b j : Nat} (h : vIm a b j) : vIn a b := by
  unfold vIm at h
  unfold vIn
  rcases h with h | ⟨h, h2⟩ | h | h | h | h | h | h | h | h | h | h | h | h | h | h | h | h | h | h | h
  · exact Or.inl ⟨h.1, h.2.1⟩
  · exact Or.inr (Or.inl ⟨h, by omega⟩)
  · (iterate 2 right); left; exact ⟨h.1, h.2.1⟩
  · (iterate 3 right); left; exact ⟨h.1, h.2.1⟩
  · (iterate 4 right); left; exact ⟨h.1, h.2.1⟩
  · (iterate 5 right); left; exact ⟨h.1, h.2.1⟩
  · (iterate 6 right); left; exact ⟨h.1, h.2.1⟩
  · (iterate 7 right); left; exact ⟨h.1, h.2.1⟩
  · (iterate 8 right); left; exact ⟨h.1, h.2.1⟩
  · (iterate 9 right); left; exact ⟨h.1, h.2.1⟩
  · (iterate 10 right); left; exact ⟨h.1, h.2.1⟩
  · (iterate 11 right); left; exact ⟨h.1, h.2.1⟩
  · (iterate 12 right); left; exact ⟨h.1, h.2.1⟩
  · (iterate 13 right); left; exact ⟨h.1, h.2.1⟩
  · (iterate 14 right); left; exact ⟨h.1, h.2.1⟩
  · (iterate 15 right); left; exact ⟨h.1, h.2.1⟩
  · (iterate 16 right); left; exact ⟨h.1, h.2.1⟩
  · (iterate 17 right); left; exact ⟨h.1, h.2.1⟩
  · (iterate 18 right); left; exact ⟨h.1, h.2.1⟩
  · (iterate 19 right); left; exact ⟨h.1, h.2.1⟩
  · (iterate 20 right); exact ⟨h.1, h.2.1⟩
theorem vIn_m {a b : Nat} (h : vIn a b) : (a = 195 ∧ b ≠ 0 ∧ b ≠ 3 ∧ b ≠ 66 ∧ b ≠ 67 ∧ b ≠ 68) ∨ (196 ≤ a ∧ a < 237) := by
  unfold vIn at h; omega
theorem imB_f {ω : zS} {v : Int32} {a b : Nat} (h : ¬ (a = 195 ∧ (b = 0 ∨ b = 66 ∨ b = 67 ∨ b = 68))) : imB ω v a b = ω a b := by
  unfold imB
  rw [zup_n2 (by omega), zup_n2 (by omega), zup_n2 (by omega), zup_n2 (by omega)]
theorem mIm_T {σ τ : zS} (h : mIm true σ 1818 τ) {a b : Nat} (h1 : a ≠ 237) (h2 : ¬ (a = 195 ∧ b = 68)) : τ a b = σ a b := by
  by_cases hx : ∃ j, j < 1818 ∧ vIm a b j
  · obtain ⟨j, hj, hv⟩ := hx
    exact (h.2.2.1 a b j hj hv).trans (if_pos rfl)
  · exact h.2.1 a b h1 h2 (fun j hj hv => hx ⟨j, hj, hv⟩)
theorem s_kimage {d : Nat} {σ : zS} {Q : Int32 → zS → Prop} {v : Int32} {rows : List pRw} (hv : v = 0 ∨ v = 1) (hp : σ 0 2 = 0 ∨ σ 0 2 = 1) (hr : ∃ rs, rRo σ 1 rs) (hr2 : σ 0 2 = 1 → rRo σ 38 rows) (h1 : v = 1 → ∀ υ, rBp 38 1 37 σ υ → Q 1 (up υ 0 2 1)) (h0 : v = 0 → σ 0 2 = 1 → ∀ υ, rBp 1 38 37 σ υ → (∀ p, p < 12 → υ 28 p = pBs rows p) → zhd υ 27 → Q 1 (up υ 95 2 0)) (h2 : v = 0 → σ 0 2 = 0 → Q 0 σ) : zI1 (d + 5) 154 [.ref 0, .int v] σ Q := by
  have z0 : nI 0 = 0 ∨ nI 0 = 1 := Or.inl rfl
  have z1 : nI 1 = 0 ∨ nI 1 = 1 := Or.inr rfl
  show zk _ _ 0 [.ref 0, .int v] [] _ _
  rcases hv with hv | hv
  · replace h0 := h0 hv
    replace h2 := h2 hv
    subst hv
    clear h1
    rcases hp with hp | hp
    · have h2 := h2 hp
      refine r_il1 zi_154_0 rfl ?_
      refine r_if0 zi_154_1 rfl (fun _ => ?_) (fun c => absurd (by decide) c)
      refine r_al0 zi_154_23 rfl ?_
      refine q_getIe zi_154_24 rfl cf_0_2 (v := nI 0) (by first | exact hp | ((repeat (first | rw [zup_ne (by first | decide | omega)] | rw [zup_nj (by first | decide | omega)] | rw [fil_ne (by first | decide | omega)])) <;> exact hp) | (simp [up_rd, fil_rd]; exact hp)) ?_
      refine n_if0 (i := 0) zi_154_27 rfl (by omega) (fun _ => ?_) (fun c => absurd c (by omega))
      refine r_al0 zi_154_48 rfl ?_
      refine q_getIe zi_154_49 rfl cf_0_2 (v := nI 0) (by first | exact hp | ((repeat (first | rw [zup_ne (by first | decide | omega)] | rw [zup_nj (by first | decide | omega)] | rw [fil_ne (by first | decide | omega)])) <;> exact hp) | (simp [up_rd, fil_rd]; exact hp)) ?_
      refine r_retZ zi_154_52 rfl (by assumption) ?_
      exact ⟨_, rfl, h2⟩
    · have h0 := h0 hp
      have hr2 := hr2 hp
      refine r_il1 zi_154_0 rfl ?_
      refine r_if0 zi_154_1 rfl (fun _ => ?_) (fun c => absurd (by decide) c)
      refine r_al0 zi_154_23 rfl ?_
      refine q_getIe zi_154_24 rfl cf_0_2 (v := nI 1) (by first | exact hp | ((repeat (first | rw [zup_ne (by first | decide | omega)] | rw [zup_nj (by first | decide | omega)] | rw [fil_ne (by first | decide | omega)])) <;> exact hp) | (simp [up_rd, fil_rd]; exact hp)) ?_
      refine n_if0 (i := 1) zi_154_27 rfl (by omega) (fun c => absurd c (by omega)) (fun _ => ?_)
      refine r_al0 zi_154_30 rfl ?_
      refine q_getR zi_154_31 rfl cf_0_0 ?_
      refine r_al0 zi_154_34 rfl ?_
      refine q_getR zi_154_35 rfl cf_0_1 ?_
      refine q_cVV zi_154_38 rfl rfl rfl rfl rfl rfl rfl cf_1_0.ob (s_rbec1 (d := d) hr2 (fun υ b1 b2 b3 => ?_))
      show zk _ _ 41 _ _ _ _
      refine r_al0 zi_154_41 rfl ?_
      refine q_getR zi_154_42 rfl cf_0_6 ?_
      refine q_cVV zi_154_45 rfl rfl rfl rfl rfl rfl rfl cf_95_0.ob (s_forget ?_)
      show zk _ _ 48 _ _ _ _
      refine r_al0 zi_154_48 rfl ?_
      refine q_getIe zi_154_49 rfl cf_0_2 (v := nI 1) (by first | exact ((zup_ne (by decide)).trans ((b1.1 0 2 (by decide)).trans hp)) | ((repeat (first | rw [zup_ne (by first | decide | omega)] | rw [zup_nj (by first | decide | omega)] | rw [fil_ne (by first | decide | omega)])) <;> exact ((zup_ne (by decide)).trans ((b1.1 0 2 (by decide)).trans hp))) | (simp [up_rd, fil_rd]; exact ((zup_ne (by decide)).trans ((b1.1 0 2 (by decide)).trans hp)))) ?_
      refine r_retZ zi_154_52 rfl (by assumption) ?_
      exact ⟨_, rfl, h0 υ b1 b2 b3⟩
  · replace h1 := h1 hv
    subst hv
    clear h0 h2
    obtain ⟨rs, hr⟩ := hr
    refine r_il1 zi_154_0 rfl ?_
    refine r_if0 zi_154_1 rfl (fun c => absurd c (by decide)) (fun _ => ?_)
    refine r_al0 zi_154_4 rfl ?_
    refine q_getR zi_154_5 rfl cf_0_1 ?_
    refine r_al0 zi_154_8 rfl ?_
    refine q_getR zi_154_9 rfl cf_0_0 ?_
    refine q_cVV zi_154_12 rfl rfl rfl rfl rfl rfl rfl cf_38_0.ob (s_rbec38 (d := d) hr (fun υ b1 b2 b3 => ?_))
    show zk _ _ 15 _ _ _ _
    refine r_al0 zi_154_15 rfl ?_
    refine r_push zi_154_16 rfl ?_
    refine q_put zi_154_17 rfl cf_0_2 rfl ?_
    refine r_goto zi_154_20 rfl ?_
    refine r_al0 zi_154_48 rfl ?_
    refine q_getIe zi_154_49 rfl cf_0_2 (v := nI 1) (by first | exact zup_eq | ((repeat (first | rw [zup_ne (by first | decide | omega)] | rw [zup_nj (by first | decide | omega)] | rw [fil_ne (by first | decide | omega)])) <;> exact zup_eq) | (simp [up_rd, fil_rd]; exact zup_eq)) ?_
    refine r_retZ zi_154_52 rfl (by assumption) ?_
    exact ⟨_, rfl, h1 υ b1⟩
theorem im_1 {σ ω τ : zS} (hI : INV σ) (f : ∀ a b, ¬ (38 < a ∧ a ≤ 74) → ¬ (a = 0 ∧ b = 2) → ω a b = σ a b) (b2 : ∀ a b, vRg a b → ω (a + 37) b = σ a b) (e02 : ω 0 2 = 1) (hm : mIm true (imB ω 1) 1818 τ) : INV τ := by
  have F : ∀ a b, a ≠ 237 → ¬ (a = 195 ∧ (b = 0 ∨ b = 66 ∨ b = 67 ∨ b = 68)) → τ a b = ω a b := fun a b q1 q2 => (mIm_T hm q1 (by omega)).trans (imB_f q2)
  refine INV_i1 hI (fun a b x1 x2 x3 x4 x5 => ?_) ((F 0 2 (by omega) (by omega)).trans e02) ?_ (fun a b h => ?_) (fun a b i h => ?_)
  · have x6 : ¬ (a = 195 ∧ (b = 0 ∨ b = 66 ∨ b = 68)) := fun z => x1 (by obtain ⟨z1, z2⟩ := z; subst z1; unfold sc; omega)
    exact (F a b x3 (by omega)).trans (f a b (by omega) x4)
  · refine (mIm_T hm (by decide) (by decide)).trans ?_
    unfold imB
    rw [zup_nj (by decide), zup_eq]
  · have ha : 2 ≤ a ∧ a < 38 := by unfold vRg at h; omega
    exact (F (a + 37) b (by omega) (by omega)).trans (b2 a b h)
  · have m := vIn_m (vIm_i h)
    exact (hm.2.2.2.2 rfl a b i (vIm_n h).2.2 h).trans ((imB_f (by omega)).trans (f a b (by omega) (by omega)))
theorem c_image {g : Int32} (hgg : g = 0 ∨ g = 1) : zPr 154 288 [.int g] := fun σ hI => by
  obtain ⟨n, V, hD, h2, h3, h4, h5, h6, h7, h8, h9⟩ := id hI
  obtain ⟨rs, r1, r2, r3, r4, r5, r6, r7⟩ := id h3
  have hp : σ 0 2 = 0 ∨ σ 0 2 = 1 := h9.elim (fun z => Or.inl z.1) (fun z => Or.inr z.1)
  have hpp : ∀ ω : zS, ω 195 67 = σ 195 67 → ω 195 67 = 0 ∨ ω 195 67 = 1 := fun ω e => by
    rw [e]; exact h9.elim (fun z => Or.inl z.2) (fun z => Or.inr z.2.1)
  have hRo : rRo σ 1 rs := ⟨r3, r1, r4, r2⟩
  rcases h9 with ⟨p1, p2⟩ | ⟨p1, p2, ρ, hC, k1, k2⟩
  · refine s_kimage (d := 5) (rows := []) hgg hp ⟨rs, hRo⟩ (fun z => absurd (p1.symm.trans z) (by decide)) (fun z υ b1 => ?_) (fun _ z => absurd (p1.symm.trans z) (by decide)) (fun z _ => ?_)
    · subst z
      have f : ∀ a b, ¬ (38 < a ∧ a ≤ 74) → ¬ (a = 0 ∧ b = 2) → up υ 0 2 1 a b = σ a b := fun a b q1 q2 => (zup_n2 q2).trans (b1.1 a b (by omega))
      have e67 := f 195 67 (by omega) (by omega)
      have b2 : ∀ a b, vRg a b → up υ 0 2 1 (a + 37) b = σ a b := fun a b h => (zup_n2 (by omega)).trans (b1.2 a b h (by unfold vRg at h; omega))
      have e02 : up υ 0 2 1 0 2 = 1 := zup_eq
      generalize up υ 0 2 1 = ω at *
      refine s_mimage (d := 8) (Or.inr rfl) (hpp ω e67) (fun _ τ hm => ⟨rfl, ?_⟩) (fun z => absurd z (by decide)) (fun z => absurd z (by decide))
      exact im_1 hI f b2 e02 hm
    · subst z
      exact s_mimage (d := 8) (Or.inl rfl) (Or.inl p2) (fun z => absurd z (by decide)) (fun _ z => absurd (p2.symm.trans z) (by decide)) (fun _ _ => zPr_i hI sc_u)
  · obtain ⟨nn, VV, c1, c2, ⟨rows, t1, t2, t3, t4, t5, t6, t7⟩, c4, c5, c6⟩ := id hC
    have hRP : rRo σ 38 rows := ⟨(k1 24 2 (by unfold vRg; omega)).trans t3, t1, kRw_f t4 t1 (fun b hb => k1 25 b (by unfold vRg; omega)), t2⟩
    refine s_kimage (d := 5) hgg hp ⟨rs, hRo⟩ (fun _ => hRP) (fun z υ b1 => ?_) (fun z _ υ b1 b2 b3 => ?_) (fun _ z => absurd (p1.symm.trans z) (by decide))
    · subst z
      have f : ∀ a b, ¬ (38 < a ∧ a ≤ 74) → ¬ (a = 0 ∧ b = 2) → up υ 0 2 1 a b = σ a b := fun a b q1 q2 => (zup_n2 q2).trans (b1.1 a b (by omega))
      have e67 := f 195 67 (by omega) (by omega)
      have b2 : ∀ a b, vRg a b → up υ 0 2 1 (a + 37) b = σ a b := fun a b h => (zup_n2 (by omega)).trans (b1.2 a b h (by unfold vRg at h; omega))
      have e02 : up υ 0 2 1 0 2 = 1 := zup_eq
      generalize up υ 0 2 1 = ω at *
      refine s_mimage (d := 8) (Or.inr rfl) (hpp ω e67) (fun _ τ hm => ⟨rfl, ?_⟩) (fun z => absurd z (by decide)) (fun z => absurd z (by decide))
      exact im_1 hI f b2 e02 hm
    · subst z
      have f : ∀ a b, ¬ (1 < a ∧ a ≤ 37) → ¬ (a = 95 ∧ b = 2) → up υ 95 2 0 a b = σ a b := fun a b q1 q2 => (zup_n2 q2).trans (b1.1 a b (by omega))
      have fr : ∀ a b, vRg a b → up υ 95 2 0 a b = ρ a b := fun a b h => by
        have ha : 2 ≤ a ∧ a < 38 := by unfold vRg at h; omega
        exact (zup_n2 (by omega)).trans ((b1.2 a b h ha.2).trans (k1 a b h))
      have g28 : ∀ p, p < 12 → up υ 95 2 0 28 p = pBs rows p := fun p hp => (zup_ne (by decide)).trans (b2 p hp)
      have g27 : zhd (up υ 95 2 0) 27 := fun a b ha hb => by
        show up υ 95 2 0 29 _ = zdV (up υ 95 2 0 28) a b
        rw [zup_ne (by decide), show up υ 95 2 0 28 = υ 28 from funext (fun b => zup_ne (by decide))]
        exact b3 a b ha hb
      have e95 : up υ 95 2 0 95 2 = 0 := zup_eq
      have e67 := f 195 67 (by omega) (by omega)
      generalize up υ 95 2 0 = ω at *
      refine s_mimage (d := 8) (Or.inl rfl) (hpp ω e67) (fun z => absurd z (by decide)) (fun _ _ τ hm => ⟨rfl, ?_⟩) (fun _ z => absurd ((e67.trans p2).symm.trans z) (by decide))
      have F : ∀ a b, ¬ vIn a b → ¬ (a = 195 ∧ (b = 0 ∨ b = 3 ∨ b = 66 ∨ b = 67 ∨ b = 68)) → up τ 195 3 0 a b = ω a b := fun a b q1 q2 => by
        rw [zup_n2 (by omega)]
        refine Eq.trans ?_ (imB_f (v := 0) (by omega))
        by_cases e : a = 237
        · subst e; exact hm.2.2.2.1 b (fun z => by cases z)
        · exact hm.2.1 a b e (by omega) (fun j _ z => q1 (vIm_i z))
      have G : ∀ a b, vIn a b → up τ 195 3 0 a b = ρ a b := fun a b q => by
        have m := vIn_m q
        obtain ⟨i, hi⟩ := vIn_x q
        rw [zup_n2 (by omega)]
        refine (hm.2.2.1 a b i (vIm_n hi).2.2 hi).trans ((if_neg (by decide)).trans ?_)
        exact ((imB_f (by omega)).trans (f 237 i (by omega) (by omega))).trans (k2 a b i hi)
      have nin : ∀ a b, a < 195 → ¬ vIn a b := fun a b ha z => by have := vIn_m z; omega
      refine INV_i0 (rows := rows) hI hC (fun a b x1 x2 x3 x4 x5 => ?_) p1 ?_ ?_ zup_eq ⟨fun a b h => ?_, G⟩ t1 t2 t3 t4 t5 (fun p hp => (t6 p hp).2) (fun p hp => (F 28 p (nin _ _ (by omega)) (by omega)).trans (g28 p hp)) (fun a b ha hb => ?_) k1 k2
      · have x6 : ¬ (a = 195 ∧ (b = 0 ∨ b = 66 ∨ b = 68)) := fun z => x1 (by obtain ⟨z1, z2⟩ := z; subst z1; unfold sc; omega)
        exact (F a b x3 (by omega)).trans (f a b (by omega) x4)
      · refine (zup_nj (by decide)).trans ((hm.2.1 195 67 (by decide) (by decide) (fun j _ z => by have := vIn_m (vIm_i z); omega)).trans ?_)
        unfold imB
        rw [zup_nj (by decide), zup_eq]
      · exact (F 95 2 (nin _ _ (by omega)) (by omega)).trans e95
      · have ha : 2 ≤ a ∧ a < 38 := by unfold vRg at h; omega
        exact (F a b (nin _ _ (by omega)) (by omega)).trans (fr a b h)
      · show up τ 195 3 0 29 _ = zdV (up τ 195 3 0 28) a b
        rw [F 29 _ (nin _ _ (by omega)) (by omega), show up τ 195 3 0 28 = ω 28 from funext (fun b => F 28 b (nin _ _ (by omega)) (by omega))]
        exact g27 a b ha hb

