/-! GOES: the model's whole, and both -/
def mgP (a b : Nat) : Prop := a = 196 ∨ a = 198 ∨ (215 ≤ a ∧ a ≤ 217) ∨ (a = 195 ∧ (b = 0 ∨ b = 5))
theorem s_mgoes {d n N nT nE : Nat} {td tp tv ed : Nat → Nat} {eo : Nat → Int32} {σ V : zS} {Q : Int32 → zS → Prop} {Wd Fr' Wh To O A : Nat → Nat} {B : Nat → Int32} {v w : Int32} (hM : zMd σ n false N Wd Fr' Wh To O A B) (hT : zTm σ nT td tp tv) (hE : zEm σ n nE ed eo) (ho : ∀ l, l < nE → zOg n (eo l)) (hV : zVm σ V n true) (hg : zVg V n) (h1 : ∀ k, 1 ≤ k → k ≤ 60 → v = nI k → 0 ≤ w → w ≤ 3 → ∀ υ, Fg mgP σ υ → (∀ b, b < 170 → υ 196 b = σ 196 b) → υ 195 5 = 0 → Q (goV (dtN (dDay (zTl N Wd Fr' Wh To O A) B n true nT td tp tv nE ed eo) k V) n w) υ) (h0 : ¬ (1 ≤ v ∧ v ≤ 60 ∧ 0 ≤ w ∧ w ≤ 3) → Q (-1) (up σ 195 0 0)) : zI1 (d + 10) 249 [.ref 195, .int v, .int w] σ Q := by
  have f : ∀ a b, ¬ (a = 195 ∧ b = 0) → up σ 195 0 0 a b = σ a b := fun a b h => zup_n2 h
  have hn18 := hg.2.1
  show zk _ _ 0 [.ref 195, .int v, .int w, zun] [] _ _
  by_cases hv : 1 ≤ v ∧ v ≤ 60 ∧ 0 ≤ w ∧ w ≤ 3
  · obtain ⟨k, hk, e⟩ := zI_ofle (n := 60) (v := v) (by have := hv.1; grind) hv.2.1 (by omega)
    have k1 : 1 ≤ k := (nI_leI (a := 1) (by omega) (by omega)).mp (by rw [← e]; exact hv.1)
    replace h1 := h1 k k1 hk e hv.2.2.1 hv.2.2.2
    clear h0
    subst e
    have hfin : ∀ τ, (∀ a b, a ≠ 198 → ¬ (a = 195 ∧ b = 5) → τ a b = up σ 195 0 0 a b) → (∀ b, b < 170 → τ 198 b = up σ 195 0 0 196 b) → τ 195 5 = 1 → zk (d + 10) 249 34 [.ref 195, .int (nI k), .int w, .int (nI 0)] [] τ (fun r t => ∃ v, r = some v ∧ Q v t) := fun τ t1 t2 t3 => by
      have g : ∀ a b, a ≠ 198 → ¬ (a = 195 ∧ (b = 0 ∨ b = 5)) → τ a b = σ a b := fun a b h1 h2 => (t1 a b h1 (by omega)).trans (f a b (by omega))
      have hM' : zMd τ n true N Wd Fr' Wh To O A B := by
        have q := zMd_g (τ := fun a b => if a = 195 ∧ b = 5 then σ 195 5 else τ a b) hM (fun a b h => by
          show (if _ then _ else _) = _
          split
          · rename_i z; rw [z.1, z.2]
          · exact g a b (by omega) (by omega))
        exact ⟨(g 195 6 (by omega) (by omega)).trans hM.1, hM.2.1, t3, q.2.2.2.1, q.2.2.2.2.1, q.2.2.2.2.2.1, q.2.2.2.2.2.2⟩
      refine l_mgo hM' (zTm_g hT (fun a b h => g a b (by omega) (by omega))) (zEm_g hE (fun a b h => g a b (by omega) (by omega))) ho hk k 0 V τ (by omega) Fg.rf (zVm_a hn18 hV (fun a b h => g a b (by omega) (by omega))) hg (fun υ u k1 k2 => ?_)
      refine l_mgo2 ((k1 195 6 (by unfold tmP; omega)).trans hM'.1) hn18 k2 (fun ω w1 w2 w3 => ?_)
      refine h1 ω (fun a b h => ?_) (fun b hb => ?_) w3
      · unfold mgP at h
        exact ((w1 a b (by omega) (by omega)).trans (k1 a b (by unfold tmP; omega))).trans (g a b (by omega) (by omega))
      · exact (((w2 b hb).trans (k1 198 b (by unfold tmP; omega))).trans (t2 b hb)).trans (f 196 b (by omega))
    refine r_al0 zi_249_0 rfl ?_
    refine r_push zi_249_1 rfl ?_
    refine q_put zi_249_2 rfl cf_195_0 rfl ?_
    refine r_al0 zi_249_5 rfl ?_
    refine r_il1 zi_249_6 rfl ?_
    refine r_push zi_249_7 rfl ?_
    refine r_push zi_249_8 rfl ?_
    refine q_cIV zi_249_10 rfl rfl rfl rfl rfl rfl rfl cf_195_0.ob (s_isIn (fun _ _ => ?_) (fun z => absurd ⟨hv.1, hv.2.1⟩ z))
    show zk _ _ 13 _ _ _ _
    refine r_if0 zi_249_13 rfl (fun c => absurd c (by decide)) (fun _ => ?_)
    refine r_al0 zi_249_16 rfl ?_
    refine r_il2 zi_249_17 rfl ?_
    refine r_push zi_249_18 rfl ?_
    refine r_push zi_249_19 rfl ?_
    refine q_cIV zi_249_20 rfl rfl rfl rfl rfl rfl rfl cf_195_0.ob (s_isIn (fun _ _ => ?_) (fun z => absurd ⟨hv.2.2.1, hv.2.2.2⟩ z))
    show zk _ _ 23 _ _ _ _
    refine r_if1 zi_249_23 rfl (fun _ => ?_) (fun c => absurd c (by decide))
    refine r_al0 zi_249_28 rfl ?_
    refine q_cVV zi_249_29 rfl rfl rfl rfl rfl rfl rfl cf_195_0.ob (s_thinks (fun τ t1 t2 t3 => ?_))
    show zk _ _ 32 _ _ _ _
    refine r_push zi_249_32 rfl ?_
    refine r_is3 zi_249_33 rfl ?_
    exact hfin τ t1 t2 t3
  · replace h0 := h0 hv
    clear h1
    refine r_al0 zi_249_0 rfl ?_
    refine r_push zi_249_1 rfl ?_
    refine q_put zi_249_2 rfl cf_195_0 rfl ?_
    refine r_al0 zi_249_5 rfl ?_
    refine r_il1 zi_249_6 rfl ?_
    refine r_push zi_249_7 rfl ?_
    refine r_push zi_249_8 rfl ?_
    refine q_cIV zi_249_10 rfl rfl rfl rfl rfl rfl rfl cf_195_0.ob (s_isIn (fun i1 a1 => ?_) (fun i1 => ?_))
    · show zk _ _ 13 _ _ _ _
      refine r_if0 zi_249_13 rfl (fun c => absurd c (by decide)) (fun _ => ?_)
      refine r_al0 zi_249_16 rfl ?_
      refine r_il2 zi_249_17 rfl ?_
      refine r_push zi_249_18 rfl ?_
      refine r_push zi_249_19 rfl ?_
      refine q_cIV zi_249_20 rfl rfl rfl rfl rfl rfl rfl cf_195_0.ob (s_isIn (fun i2 a2 => ?_) (fun i2 => ?_))
      · show zk _ _ 23 _ _ _ _
        refine r_if1 zi_249_23 rfl (fun _ => ?_) (fun c => absurd c (by decide))
        exact absurd ⟨by assumption, by assumption, by assumption, by assumption⟩ hv
      · show zk _ _ 23 _ _ _ _
        refine r_if1 zi_249_23 rfl (fun c => absurd (by decide) c) (fun _ => ?_)
        refine r_push zi_249_26 rfl ?_
        refine r_retI zi_249_27 rfl ?_
        exact ⟨_, rfl, h0⟩
    · show zk _ _ 13 _ _ _ _
      refine r_if0 zi_249_13 rfl (fun _ => ?_) (fun c => absurd (by decide) c)
      refine r_push zi_249_26 rfl ?_
      refine r_retI zi_249_27 rfl ?_
      exact ⟨_, rfl, h0⟩
theorem th_i {σ τ υ : zS} (hI : INV σ) (t1 : Fg tdP σ τ) (u1 : Fg mgP τ υ) (u2 : ∀ b, b < 170 → υ 196 b = τ 196 b) (u3 : υ 195 5 = 0) : INV υ := by
  obtain ⟨n, V, hD, _⟩ := id hI
  refine INV_sc hI (fun a b g => ?_)
  unfold sc at g
  by_cases e : a = 196
  · subst e
    exact (u2 b (by omega)).trans (t1 196 b (by unfold tdP; omega))
  · by_cases e2 : a = 195 ∧ b = 5
    · rw [e2.1, e2.2]; exact u3.trans hD.2.2.2.2.2.1.symm
    · exact (u1 a b (by unfold mgP; omega)).trans (t1 a b (by unfold tdP; omega))
theorem c_goes {v w : Int32} : zPr 134 249 [.int v, .int w] := fun σ hI => by
  refine nm_in hI (fun σ hI e => ?_)
  obtain ⟨n, V, hD, h2, h3, h4, ⟨nE, ed, eo, hE, hEm⟩, h6, h7, h8, h9⟩ := id hI
  obtain ⟨n2, V2, N, Wd, Fr', Wh, To, O, A, B, hN⟩ := INV_N hI e
  have hn2 : n2 = n := nI_j hD.2.2.2.2.1 hN.1.2.2.2.2.1 (by have := hD.2.2.1.2.1; omega) (by have := hN.1.2.2.1.2.1; omega)
  subst hn2
  obtain ⟨hV, hm, hg, hz, hs, h50, hx⟩ := id hD
  obtain ⟨nT, td, tp, tv, hT, hTm⟩ := h4
  have hn18 := hg.2.1
  have hk := vN_k hN
  have hM := vN_m hN
  have ho : ∀ l, l < nE → zOg n2 (eo l) := fun l hl => zOm_g (hEm.2.2 l hl).2
  refine s_kgoes (d := 3) hk h7.2.2.2.2.2 hT hE ho hV hg (fun k k1 k2 ek w0 w3 V' τ hv' t1 => ?_) (fun z => ?_)
  · have f : ∀ a b, 169 ≤ a → τ a b = σ a b := fun a b g => t1 a b (by unfold tdP; omega)
    refine s_mgoes (d := 0) (V := V') (zMd_g hM (fun a b g => f a b (by omega))) (zTm_g hTm (fun a b g => f a b (by omega))) (zEm_g hEm (fun a b g => f a b (by omega))) ho (zVm_v hn18 (zVm_a hn18 (zVm_t hm) (fun a b g => f a b (by omega))) (fun j i h => hv' j i (by unfold vr; omega)) (fun z => by cases z)) (zVg_x hg (fun j i h => hv' j i (by unfold vr; omega))) (fun k' k1' k2' ek' _ _ υ u1 u2 u3 => ?_) (fun y => absurd ⟨(nI_r (b := 1) (c := 60) ek k1 k2 (by omega)).1, (nI_r (b := 1) (c := 60) ek k1 k2 (by omega)).2, w0, w3⟩ y)
    have q := nI_j ek ek' (by omega) (by omega)
    subst q
    exact ⟨rfl, th_i hI t1 u1 u2 u3⟩
  · exact s_mgoes (d := 0) hM hTm hEm ho (zVm_t hm) hg (fun k' k1' k2' ek' w0 w3 υ u1 u2 u3 => absurd ⟨(nI_r (b := 1) (c := 60) ek' k1' k2' (by omega)).1, (nI_r (b := 1) (c := 60) ek' k1' k2' (by omega)).2, w0, w3⟩ z) (fun y => zPr_i hI sc_u)

