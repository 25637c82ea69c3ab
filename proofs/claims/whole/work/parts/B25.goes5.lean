theorem s_kgoes {d n N nT nE : Nat} {td tp tv ed : Nat → Nat} {eo : Nat → Int32} {σ V : zS} {Q : Int32 → zS → Prop} {Wd Fr' Wh To O A : Nat → Nat} {B : Nat → Int32} {v w : Int32} (hd : zKd σ N Wd Fr' Wh To O A B) (hth : σ 91 3 = 1) (hT : zTk σ nT td tp tv) (hE : zEk σ nE ed eo) (ho : ∀ l, l < nE → zOg n (eo l)) (hV : zVk σ 2 false V) (hg : zVg V n) (h1 : ∀ k, 1 ≤ k → k ≤ 60 → v = nI k → 0 ≤ w → w ≤ 3 → ∀ V' υ, (∀ j x, vr j x → V' j x = V j x) → Fg tdP σ υ → Q (goV (dtN (dDay (zTl N Wd Fr' Wh To O A) B n true nT td tp tv nE ed eo) k V') n w) υ) (h0 : ¬ (1 ≤ v ∧ v ≤ 60 ∧ 0 ≤ w ∧ w ≤ 3) → Q (-1) σ) : zI1 (d + 7) 134 [.ref 0, .int v, .int w] σ Q := by
  show zk _ _ 0 [.ref 0, .int v, .int w, zun] [] _ _
  by_cases hv : 1 ≤ v ∧ v ≤ 60 ∧ 0 ≤ w ∧ w ≤ 3
  · obtain ⟨k, hk, e⟩ := zI_ofle (n := 60) (v := v) (by have := hv.1; grind) hv.2.1 (by omega)
    have k1 : 1 ≤ k := (nI_leI (a := 1) (by omega) (by omega)).mp (by rw [← e]; exact hv.1)
    replace h1 := h1 k k1 hk e hv.2.2.1 hv.2.2.2
    clear h0
    subst e
    have hfin : ∀ υ0, dBe 75 2 σ υ0 → zk (d + 7) 134 37 [.ref 0, .int (nI k), .int w, .int (nI 0)] [] υ0 (fun r t => ∃ v, r = some v ∧ Q v t) := fun υ0 b0 => by
      have hF0 : Fg tdP σ υ0 := fun a b g => b0.1 a b (by unfold tdP at g; omega)
      have hvr : ∀ j x, vr j x → vw υ0 75 j x = V j x := fun j x hr => (vw_b (f := 0) b0 hr).trans (vw_v hV hr)
      have hg0 : zVg (vw υ0 75) n := zVg_x hg (fun j x h => hvr j x (by unfold vr; omega))
      have hV0 : zVk υ0 75 true (vw υ0 75) := ⟨fun j hj i => by
        show _ = (if j < 11 then υ0 (75 + 1 + j) i else _)
        rw [if_pos hj], fun f g1 g2 => rfl, fun z => by cases z⟩
      refine l_kgo hd hth hT hE ho hk k 0 (vw υ0 75) υ0 (by omega) hF0 hV0 hg0 (fun υ u f z => l_kgo2 z (dtN_g hd.2.2.2.1 ho k _ hg0) ?_)
      exact h1 (vw υ0 75) υ hvr f
    refine r_il1 zi_134_0 rfl ?_
    refine r_push zi_134_1 rfl ?_
    refine r_push zi_134_2 rfl ?_
    refine r_cIS zi_134_4 rfl rfl rfl rfl rfl rfl (s_within (fun _ _ => ?_) (fun z => absurd ⟨hv.1, hv.2.1⟩ z))
    show zk _ _ 7 _ _ _ _
    refine r_if0 zi_134_7 rfl (fun c => absurd c (by decide)) (fun _ => ?_)
    refine r_il2 zi_134_10 rfl ?_
    refine r_push zi_134_11 rfl ?_
    refine r_push zi_134_12 rfl ?_
    refine r_cIS zi_134_13 rfl rfl rfl rfl rfl rfl (s_within (fun _ _ => ?_) (fun z => absurd ⟨hv.2.2.1, hv.2.2.2⟩ z))
    show zk _ _ 16 _ _ _ _
    refine r_if1 zi_134_16 rfl (fun _ => ?_) (fun c => absurd c (by decide))
    refine r_al0 zi_134_21 rfl ?_
    refine q_getR zi_134_22 rfl cf_0_3 ?_
    refine r_al0 zi_134_25 rfl ?_
    refine q_getR zi_134_26 rfl cf_0_0 ?_
    refine q_getR zi_134_29 rfl cf_1_0 ?_
    refine q_cVV zi_134_32 rfl rfl rfl rfl rfl rfl rfl cf_75_0.ob (s_dbec zDu_75 zDu_2 (by omega) (fun υ0 b0 => ?_))
    show zk _ _ 35 _ _ _ _
    refine r_push zi_134_35 rfl ?_
    refine r_is3 zi_134_36 rfl ?_
    exact hfin υ0 b0
  · replace h0 := h0 hv
    clear h1
    refine r_il1 zi_134_0 rfl ?_
    refine r_push zi_134_1 rfl ?_
    refine r_push zi_134_2 rfl ?_
    refine r_cIS zi_134_4 rfl rfl rfl rfl rfl rfl (s_within (fun i1 a1 => ?_) (fun i1 => ?_))
    · show zk _ _ 7 _ _ _ _
      refine r_if0 zi_134_7 rfl (fun c => absurd c (by decide)) (fun _ => ?_)
      refine r_il2 zi_134_10 rfl ?_
      refine r_push zi_134_11 rfl ?_
      refine r_push zi_134_12 rfl ?_
      refine r_cIS zi_134_13 rfl rfl rfl rfl rfl rfl (s_within (fun i2 a2 => ?_) (fun i2 => ?_))
      · show zk _ _ 16 _ _ _ _
        refine r_if1 zi_134_16 rfl (fun _ => ?_) (fun c => absurd c (by decide))
        exact absurd ⟨by assumption, by assumption, by assumption, by assumption⟩ hv
      · show zk _ _ 16 _ _ _ _
        refine r_if1 zi_134_16 rfl (fun c => absurd (by decide) c) (fun _ => ?_)
        refine r_push zi_134_19 rfl ?_
        refine r_retI zi_134_20 rfl ?_
        exact ⟨_, rfl, h0⟩
    · show zk _ _ 7 _ _ _ _
      refine r_if0 zi_134_7 rfl (fun _ => ?_) (fun c => absurd (by decide) c)
      refine r_push zi_134_19 rfl ?_
      refine r_retI zi_134_20 rfl ?_
      exact ⟨_, rfl, h0⟩

