/-! MODEL: a day whole -/
theorem s_goesBy {d n N nT nE : Nat} {td tp tv ed : Nat → Nat} {eo : Nat → Int32} {σ V : zS} {Q : Int32 → zS → Prop} {th : Bool} {Wd Fr' Wh To O A : Nat → Nat} {B : Nat → Int32} (hM : zMd σ n th N Wd Fr' Wh To O A B) (hV : zVm σ V n th) (hg : zVg V n) (hT : zTm σ nT td tp tv) (hE : zEm σ n nE ed eo) (h : ∀ τ, zFm th σ τ → zVm τ (dDay (zTl N Wd Fr' Wh To O A) B n th nT td tp tv nE ed eo V).1 n th → Q (nI (dDay (zTl N Wd Fr' Wh To O A) B n th nT td tp tv nE ed eo V).2) τ) : zI1 (d + 9) 243 [.ref 195] σ Q := by
  have hn18 := hM.2.1
  have hB := hM.2.2.2.2.2.2
  have hEo : ∀ l, l < nE → zOg n (eo l) := fun l hl => zOm_g (hE.2.2 l hl).2
  unfold dDay at h
  have g1 : zVg (dTi td tp tv nT 0 V) n := dTi_g nT 0 V hg
  obtain ⟨b, hb, hb2, _⟩ := id g1.2.2.2.2.2.2.1
  have hub : un (dTi td tp tv nT 0 V 11 13) = b := by rw [hb2]; exact un_nI (by omega)
  simp only [hub] at h
  have k1 := fun Q2 u2 hh => l_mtide (d := d) (Q := Q2) hM hT nT 0 σ V u2 (by omega) zFm.rf hV hh
  generalize dTi td tp tv nT 0 V = V1 at *
  have g2 : zVg (dOs (zTl N Wd Fr' Wh To O A) B n th b 0 V1 0 0).1 n := dOs_g hB hb b 0 _ 0 0 (by omega) hb2 g1
  have k2 := fun υ (x : zFm th σ υ) (y : zVm υ V1 n th) Q2 hh => s_ordersGo (d := d) (Q := Q2) (zMd_fr x.1 hM) y g1 hb hb2 hh
  generalize dOs (zTl N Wd Fr' Wh To O A) B n th b 0 V1 0 0 = r at *
  obtain ⟨V2, acc, c2⟩ := r
  have g3 : zVg (dSt (zTl N Wd Fr' Wh To O A) B n th acc 18 0 V2 c2).1 n := dSt_g hB 18 0 _ _ (by omega) g2
  simp only at h k2
  generalize dSt (zTl N Wd Fr' Wh To O A) B n th acc 18 0 V2 c2 = r at *
  obtain ⟨V3, c⟩ := r
  simp only at h k2 g3
  have g4 : zVg (dFi (zTl N Wd Fr' Wh To O A) n 12 0 V3) n := dFi_g 12 0 _ g3
  have k3 := fun υ (x : zFm th σ υ) (y : zVm υ V3 n th) Q2 hh => l_mfires (d := d) (c := c) (Q := Q2) hM 12 0 υ V3 (by omega) x y hh
  generalize dFi (zTl N Wd Fr' Wh To O A) n 12 0 V3 = V4 at *
  have g5 : zVg (dSe th n 12 0 V4) n := dSe_g 12 0 _ g4
  have k4 := fun υ (x : zFm th σ υ) (y : zVm υ V4 n th) Q2 hh => l_msea (d := d) (c := c) (Q := Q2) hM 12 0 υ V4 (by omega) x y g4 hh
  generalize dSe th n 12 0 V4 = V5 at *
  have g6 : zVg (dLe ed eo nE 0 V5) n := dLe_g (nE := nE) hEo nE 0 _ (by omega) g5
  have k5 := fun υ (x : zFm th σ υ) (y : zVm υ V5 n th) Q2 hh => l_mledger (d := d) (c := c) (Q := Q2) hM hE nE 0 υ V5 (by omega) x y g5 hh
  generalize dLe ed eo nE 0 V5 = V6 at *
  obtain ⟨t, ht, ht2, _⟩ := id g6.2.2.2.2.2.1
  have s6 : ∀ υ, zFm th σ υ → zVm υ V6 n th → zk (d + 9) 243 239 [.ref 195, .int (nI c), .int (nI (2 * nE))] [] υ (fun r t => ∃ v, r = some v ∧ Q v t) := fun υ x y => by
    refine r_push zi_243_239 rfl ?_
    refine r_is2 zi_243_240 rfl ?_
    exact l_mnight hn18 y ht2 ht (fun ρ z1 z2 => h ρ (x.tr z1) z2) 24 0 υ (by omega) zFm.rf zNj_0
  have s5 : ∀ υ, zFm th σ υ → zVm υ V5 n th → zk (d + 9) 243 193 [.ref 195, .int (nI c), .int (nI 12)] [] υ (fun r t => ∃ v, r = some v ∧ Q v t) := fun υ x y => by
    refine r_push zi_243_193 rfl ?_
    refine r_is2 zi_243_194 rfl ?_
    exact k5 υ x y _ s6
  have s4 : ∀ υ, zFm th σ υ → zVm υ V4 n th → zk (d + 9) 243 136 [.ref 195, .int (nI c), .int (nI 12)] [] υ (fun r t => ∃ v, r = some v ∧ Q v t) := fun υ x y => by
    refine r_push zi_243_136 rfl ?_
    refine r_is2 zi_243_137 rfl ?_
    exact k4 υ x y _ s5
  have s3 : ∀ υ u, zFm th σ υ → zVm υ V1 n th → zk (d + 9) 243 75 [.ref 195, .int (nI (3 * nT)), u] [] υ (fun r t => ∃ v, r = some v ∧ Q v t) := fun υ u x y => by
    refine r_al0 zi_243_75 rfl ?_
    refine q_cIV zi_243_76 rfl rfl rfl rfl rfl rfl rfl cf_195_0.ob (k2 υ x y _ (fun ρ z1 z2 => ?_))
    show zk _ _ 79 _ _ _ _
    refine r_is1 zi_243_79 rfl ?_
    refine r_push zi_243_80 rfl ?_
    refine r_is2 zi_243_81 rfl ?_
    exact k3 ρ (x.tr z1) z2 _ s4
  show zk _ _ 0 [.ref 195, zun, zun] [] _ _
  refine r_push zi_243_0 rfl ?_
  refine r_is1 zi_243_1 rfl ?_
  exact k1 _ _ (fun υ x y => s3 υ _ x y)

