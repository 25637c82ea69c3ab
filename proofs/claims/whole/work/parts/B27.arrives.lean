/-! ARRIVES -/
def arV (F : zS → zS × Nat) (s : Nat) (w : Int32) : Nat → Nat → zS → Int32
  | 0, _, _ => -1
  | m + 1, i, V => if V 3 s = w then nI i else arV F s w m (i + 1) (F V).1
theorem arV_y {F : zS → zS × Nat} {s m i : Nat} {w : Int32} {V : zS} (h : V 3 s = w) : arV F s w (m + 1) i V = nI i := by
  unfold arV; rw [if_pos h]
theorem arV_n {F : zS → zS × Nat} {s m i : Nat} {w : Int32} {V : zS} (h : ¬ V 3 s = w) : arV F s w (m + 1) i V = arV F s w m (i + 1) (F V).1 := by
  conv => lhs; unfold arV
  rw [if_neg h]
theorem l_karr {d n N nT nE s : Nat} {td tp tv ed : Nat → Nat} {eo : Nat → Int32} {σ : zS} {Q : Int32 → zS → Prop} {Wd Fr' Wh To O A : Nat → Nat} {B : Nat → Int32} {w : Int32} (hd : zKd σ N Wd Fr' Wh To O A B) (hth : σ 91 3 = 1) (hT : zTk σ nT td tp tv) (hE : zEk σ nE ed eo) (ho : ∀ l, l < nE → zOg n (eo l)) (hs : s < n) (hn18 : n ≤ 18) : ∀ (m i : Nat) (V : zS) (τ : zS), i + m = 61 → Fg tdP σ τ → zVk τ 75 true V → zVg V n → (∀ υ, Fg tdP σ υ → Q (arV (dDay (zTl N Wd Fr' Wh To O A) B n true nT td tp tv nE ed eo) s w m i V) υ) → zk (d + 7) 135 39 [.ref 0, .int (nI s), .int w, .int (nI i)] [] τ (fun r t => ∃ v, r = some v ∧ Q v t) := by
  intro m
  induction m with
  | zero =>
    intro i V τ hi hF hV hg hq
    have hq := hq τ hF
    refine r_il3 zi_135_39 rfl ?_
    refine r_push zi_135_40 rfl ?_
    refine n_ic4 (i := i) (j := 60) zi_135_42 rfl (by omega) (by omega) (fun _ => ?_) (fun c => absurd c (by omega))
    refine r_push zi_135_74 rfl ?_
    refine r_retI zi_135_75 rfl ?_
    exact ⟨_, rfl, hq⟩
  | succ m ih =>
    intro i V τ hi hF hV hg hq
    have e3 : τ 79 s = V 3 s := hV.1 3 (by omega) s
    by_cases e : V 3 s = w
    · have hq := hq τ hF
      rw [arV_y e] at hq
      refine r_il3 zi_135_39 rfl ?_
      refine r_push zi_135_40 rfl ?_
      refine n_ic4 (i := i) (j := 60) zi_135_42 rfl (by omega) (by omega) (fun c => absurd c (by omega)) (fun _ => ?_)
      refine r_al0 zi_135_45 rfl ?_
      refine q_getR zi_135_46 rfl cf_0_3 ?_
      refine q_getR zi_135_49 rfl cf_75_3 ?_
      refine r_il1 zi_135_52 rfl ?_
      refine r_alde zi_135_53 rfl s ca_79 (by first | rfl | (simp only [zI_add, zI_mul] <;> rfl)) (by first | omega | decide) (u := V 3 s) (by first | exact e3 | ((repeat (first | rw [zup_ne (by first | decide | omega)] | rw [zup_nj (by first | decide | omega)] | rw [fil_ne (by first | decide | omega)])) <;> exact e3) | (simp [up_rd, fil_rd]; exact e3)) ?_
      refine r_il2 zi_135_54 rfl ?_
      refine r_ic1 zi_135_55 rfl (fun c => absurd e c) (fun _ => ?_)
      refine r_il3 zi_135_58 rfl ?_
      refine r_retI zi_135_59 rfl ?_
      exact ⟨_, rfl, hq⟩
    · rw [arV_n e] at hq
      refine r_il3 zi_135_39 rfl ?_
      refine r_push zi_135_40 rfl ?_
      refine n_ic4 (i := i) (j := 60) zi_135_42 rfl (by omega) (by omega) (fun c => absurd c (by omega)) (fun _ => ?_)
      refine r_al0 zi_135_45 rfl ?_
      refine q_getR zi_135_46 rfl cf_0_3 ?_
      refine q_getR zi_135_49 rfl cf_75_3 ?_
      refine r_il1 zi_135_52 rfl ?_
      refine r_alde zi_135_53 rfl s ca_79 (by first | rfl | (simp only [zI_add, zI_mul] <;> rfl)) (by first | omega | decide) (u := V 3 s) (by first | exact e3 | ((repeat (first | rw [zup_ne (by first | decide | omega)] | rw [zup_nj (by first | decide | omega)] | rw [fil_ne (by first | decide | omega)])) <;> exact e3) | (simp [up_rd, fil_rd]; exact e3)) ?_
      refine r_il2 zi_135_54 rfl ?_
      refine r_ic1 zi_135_55 rfl (fun _ => ?_) (fun c => absurd c e)
      refine r_al0 zi_135_60 rfl ?_
      refine q_getR zi_135_61 rfl cf_0_5 ?_
      refine q_cIV zi_135_64 rfl rfl rfl rfl rfl rfl rfl cf_91_0.ob (s_tday hd hth hT hE ho hF hV hg (fun υ k1 k2 => ?_))
      show zk _ _ 67 _ _ _ _
      refine r_popI zi_135_67 rfl ?_
      refine r_in3 zi_135_68 rfl ?_
      rw [show (nI i + 1 : Int32) = nI (i + 1) from nI_add _ _]
      refine r_goto zi_135_71 rfl ?_
      exact ih (i + 1) _ υ (by omega) k1 k2 (dDay_g hd.2.2.2.1 hg ho).1 hq
theorem s_karr {d n N nT nE : Nat} {td tp tv ed : Nat → Nat} {eo : Nat → Int32} {σ V : zS} {Q : Int32 → zS → Prop} {Wd Fr' Wh To O A : Nat → Nat} {B : Nat → Int32} {who w : Int32} (hd : zKd σ N Wd Fr' Wh To O A B) (hth : σ 91 3 = 1) (hT : zTk σ nT td tp tv) (hE : zEk σ nE ed eo) (ho : ∀ l, l < nE → zOg n (eo l)) (hV : zVk σ 2 false V) (hg : zVg V n) (h1 : ∀ s, s < n → who = nI s → V 6 s = 1 → 0 ≤ w → w < 12 → ∀ V' υ, (∀ j x, vr j x → V' j x = V j x) → Fg tdP σ υ → Q (arV (dDay (zTl N Wd Fr' Wh To O A) B n true nT td tp tv nE ed eo) s w 61 0 V') υ) (h0 : ¬ ((∃ s, s < n ∧ who = nI s ∧ V 6 s = 1) ∧ 0 ≤ w ∧ w < 12) → Q (-1) σ) : zI1 (d + 7) 135 [.ref 0, .int who, .int w] σ Q := by
  have hn18 := hg.2.1
  have hsub : σ 2 11 = nI n := (hV.2.1 11 (by omega) (by omega)).trans hg.1
  have e6 : ∀ i, σ (2 + 1 + 6) i = V 6 i := hV.1 6 (by omega)
  have hlv : ∀ (Q2 : Int32 → zS → Prop), ((∃ s, s < n ∧ who = nI s ∧ V 6 s = 1) → Q2 1 σ) → (¬ (∃ s, s < n ∧ who = nI s ∧ V 6 s = 1) → Q2 0 σ) → zI1 (d + 6) 19 [.ref 2, .int who] σ Q2 := fun Q2 q1 q0 => s_dlives (d := d + 5) zDu_2 hsub hn18 (fun s hs e a => q1 ⟨s, hs, e, by rw [← e6]; exact a⟩) (fun z => q0 (fun ⟨s, hs, e, _⟩ => z (by rw [e]; exact ⟨nI_z (by omega), nI_lt hs (by omega)⟩))) (fun s hs e a => q0 (fun ⟨s2, h2, e2, a2⟩ => a (by rw [e6, ← nI_j e e2 (by omega) (by omega)]; exact a2)))
  show zk _ _ 0 [.ref 0, .int who, .int w, zun] [] _ _
  by_cases hv : (∃ s, s < n ∧ who = nI s ∧ V 6 s = 1) ∧ 0 ≤ w ∧ w < 12
  · obtain ⟨s, hs, e, ha⟩ := id hv.1
    replace h1 := h1 s hs e ha hv.2.1 hv.2.2
    clear h0
    have hfin : ∀ υ0, dBe 75 2 σ υ0 → zk (d + 7) 135 39 [.ref 0, .int who, .int w, .int (nI 0)] [] υ0 (fun r t => ∃ v, r = some v ∧ Q v t) := fun υ0 b0 => by
      have hF0 : Fg tdP σ υ0 := fun a b g => b0.1 a b (by unfold tdP at g; omega)
      have hvr : ∀ j x, vr j x → vw υ0 75 j x = V j x := fun j x hr => (vw_b (f := 0) b0 hr).trans (vw_v hV hr)
      have hg0 : zVg (vw υ0 75) n := zVg_x hg (fun j x h => hvr j x (by unfold vr; omega))
      have hV0 : zVk υ0 75 true (vw υ0 75) := ⟨fun j hj i => by
        show _ = (if j < 11 then υ0 (75 + 1 + j) i else _)
        rw [if_pos hj], fun f g1 g2 => rfl, fun z => by cases z⟩
      rw [e]
      exact l_karr hd hth hT hE ho hs hn18 61 0 (vw υ0 75) υ0 (by omega) hF0 hV0 hg0 (fun υ f => h1 (vw υ0 75) υ hvr f)
    refine r_al0 zi_135_0 rfl ?_
    refine q_getR zi_135_1 rfl cf_0_0 ?_
    refine q_getR zi_135_4 rfl cf_1_0 ?_
    refine r_il1 zi_135_7 rfl ?_
    refine q_cIV zi_135_8 rfl rfl rfl rfl rfl rfl rfl cf_2_0.ob (hlv _ (fun _ => ?_) (fun z => absurd hv.1 z))
    show zk _ _ 11 _ _ _ _
    refine r_if0 zi_135_11 rfl (fun c => absurd c (by decide)) (fun _ => ?_)
    refine r_il2 zi_135_14 rfl ?_
    refine r_cIS zi_135_15 rfl rfl rfl rfl rfl rfl (s_kplace (fun _ _ => ?_) (fun z => absurd hv.2 z))
    show zk _ _ 18 _ _ _ _
    refine r_if1 zi_135_18 rfl (fun _ => ?_) (fun c => absurd c (by decide))
    refine r_al0 zi_135_23 rfl ?_
    refine q_getR zi_135_24 rfl cf_0_3 ?_
    refine r_al0 zi_135_27 rfl ?_
    refine q_getR zi_135_28 rfl cf_0_0 ?_
    refine q_getR zi_135_31 rfl cf_1_0 ?_
    refine q_cVV zi_135_34 rfl rfl rfl rfl rfl rfl rfl cf_75_0.ob (s_dbec zDu_75 zDu_2 (by omega) (fun υ0 b0 => ?_))
    show zk _ _ 37 _ _ _ _
    refine r_push zi_135_37 rfl ?_
    refine r_is3 zi_135_38 rfl ?_
    exact hfin υ0 b0
  · replace h0 := h0 hv
    clear h1
    refine r_al0 zi_135_0 rfl ?_
    refine q_getR zi_135_1 rfl cf_0_0 ?_
    refine q_getR zi_135_4 rfl cf_1_0 ?_
    refine r_il1 zi_135_7 rfl ?_
    refine q_cIV zi_135_8 rfl rfl rfl rfl rfl rfl rfl cf_2_0.ob (hlv _ (fun i1 => ?_) (fun i1 => ?_))
    · show zk _ _ 11 _ _ _ _
      refine r_if0 zi_135_11 rfl (fun c => absurd c (by decide)) (fun _ => ?_)
      refine r_il2 zi_135_14 rfl ?_
      refine r_cIS zi_135_15 rfl rfl rfl rfl rfl rfl (s_kplace (fun i2 a2 => ?_) (fun i2 => ?_))
      · show zk _ _ 18 _ _ _ _
        refine r_if1 zi_135_18 rfl (fun _ => ?_) (fun c => absurd c (by decide))
        exact absurd ⟨by assumption, by assumption, by assumption⟩ hv
      · show zk _ _ 18 _ _ _ _
        refine r_if1 zi_135_18 rfl (fun c => absurd (by decide) c) (fun _ => ?_)
        refine r_push zi_135_21 rfl ?_
        refine r_retI zi_135_22 rfl ?_
        exact ⟨_, rfl, h0⟩
    · show zk _ _ 11 _ _ _ _
      refine r_if0 zi_135_11 rfl (fun _ => ?_) (fun c => absurd (by decide) c)
      refine r_push zi_135_21 rfl ?_
      refine r_retI zi_135_22 rfl ?_
      exact ⟨_, rfl, h0⟩
theorem l_marr {d n N nT nE s : Nat} {td tp tv ed : Nat → Nat} {eo : Nat → Int32} {σ : zS} {Q : Int32 → zS → Prop} {Wd Fr' Wh To O A : Nat → Nat} {B : Nat → Int32} {w : Int32} (hM : zMd σ n true N Wd Fr' Wh To O A B) (hT : zTm σ nT td tp tv) (hE : zEm σ n nE ed eo) (ho : ∀ l, l < nE → zOg n (eo l)) (hs : s < n) (hn18 : n ≤ 18) : ∀ (m i : Nat) (V : zS) (τ : zS), i + m = 61 → Fg tmP σ τ → zVm τ V n true → zVg V n → (∀ υ ω, Fg tmP σ υ → (∀ a b, a ≠ 196 → ¬ (a = 195 ∧ b = 5) → ω a b = υ a b) → (∀ b, b < 170 → ω 196 b = υ 198 b) → ω 195 5 = 0 → Q (arV (dDay (zTl N Wd Fr' Wh To O A) B n true nT td tp tv nE ed eo) s w m i V) ω) → zk (d + 10) 250 37 [.ref 195, .int (nI s), .int w, .int (nI i)] [] τ (fun r t => ∃ v, r = some v ∧ Q v t) := by
  intro m
  induction m with
  | zero =>
    intro i V τ hi hF hV hg hq
    refine r_il3 zi_250_37 rfl ?_
    refine r_push zi_250_38 rfl ?_
    refine n_ic4 (i := i) (j := 60) zi_250_40 rfl (by omega) (by omega) (fun _ => ?_) (fun c => absurd c (by omega))
    refine r_al0 zi_250_68 rfl ?_
    refine q_cVV zi_250_69 rfl rfl rfl rfl rfl rfl rfl cf_195_0.ob (s_endsT (fun ω t1 t2 t3 => ?_))
    show zk _ _ 72 _ _ _ _
    refine r_il3 zi_250_72 rfl ?_
    refine r_push zi_250_73 rfl ?_
    refine n_ic5 (i := i) (j := 60) zi_250_75 rfl (by omega) (by omega) (fun c => absurd c (by omega)) (fun _ => ?_)
    refine r_push zi_250_78 rfl ?_
    refine r_goto zi_250_79 rfl ?_
    refine r_retI zi_250_83 rfl ?_
    exact ⟨_, rfl, hq τ ω hF t1 t2 t3⟩
  | succ m ih =>
    intro i V τ hi hF hV hg hq
    have e3 : τ 196 (30 + s) = V 3 s := (hV.2.2.1 s (by omega)).1
    by_cases e : V 3 s = w
    · rw [arV_y e] at hq
      refine r_il3 zi_250_37 rfl ?_
      refine r_push zi_250_38 rfl ?_
      refine n_ic4 (i := i) (j := 60) zi_250_40 rfl (by omega) (by omega) (fun c => absurd c (by omega)) (fun _ => ?_)
      refine r_al0 zi_250_43 rfl ?_
      refine q_getR zi_250_44 rfl cf_195_1 ?_
      refine r_push zi_250_47 rfl ?_
      refine r_il1 zi_250_49 rfl ?_
      refine r_b0 zi_250_50 rfl ?_
      rw [show (30 + nI s : Int32) = nI (30 + s) from nI_add _ _]
      refine r_alde zi_250_51 rfl (30 + s) ca_196 (by first | rfl | (simp only [zI_add, zI_mul] <;> rfl)) (by first | omega | decide) (u := V 3 s) (by first | exact e3 | ((repeat (first | rw [zup_ne (by first | decide | omega)] | rw [zup_nj (by first | decide | omega)] | rw [fil_ne (by first | decide | omega)])) <;> exact e3) | (simp [up_rd, fil_rd]; exact e3)) ?_
      refine r_il2 zi_250_52 rfl ?_
      refine r_ic0 zi_250_53 rfl (fun _ => ?_) (fun c => absurd e c)
      refine r_al0 zi_250_68 rfl ?_
      refine q_cVV zi_250_69 rfl rfl rfl rfl rfl rfl rfl cf_195_0.ob (s_endsT (fun ω t1 t2 t3 => ?_))
      show zk _ _ 72 _ _ _ _
      refine r_il3 zi_250_72 rfl ?_
      refine r_push zi_250_73 rfl ?_
      refine n_ic5 (i := i) (j := 60) zi_250_75 rfl (by omega) (by omega) (fun _ => ?_) (fun c => absurd c (by omega))
      refine r_il3 zi_250_82 rfl ?_
      refine r_retI zi_250_83 rfl ?_
      exact ⟨_, rfl, hq τ ω hF t1 t2 t3⟩
    · rw [arV_n e] at hq
      refine r_il3 zi_250_37 rfl ?_
      refine r_push zi_250_38 rfl ?_
      refine n_ic4 (i := i) (j := 60) zi_250_40 rfl (by omega) (by omega) (fun c => absurd c (by omega)) (fun _ => ?_)
      refine r_al0 zi_250_43 rfl ?_
      refine q_getR zi_250_44 rfl cf_195_1 ?_
      refine r_push zi_250_47 rfl ?_
      refine r_il1 zi_250_49 rfl ?_
      refine r_b0 zi_250_50 rfl ?_
      rw [show (30 + nI s : Int32) = nI (30 + s) from nI_add _ _]
      refine r_alde zi_250_51 rfl (30 + s) ca_196 (by first | rfl | (simp only [zI_add, zI_mul] <;> rfl)) (by first | omega | decide) (u := V 3 s) (by first | exact e3 | ((repeat (first | rw [zup_ne (by first | decide | omega)] | rw [zup_nj (by first | decide | omega)] | rw [fil_ne (by first | decide | omega)])) <;> exact e3) | (simp [up_rd, fil_rd]; exact e3)) ?_
      refine r_il2 zi_250_52 rfl ?_
      refine r_ic0 zi_250_53 rfl (fun c => absurd c e) (fun _ => ?_)
      refine r_al0 zi_250_56 rfl ?_
      refine q_cIV zi_250_57 rfl rfl rfl rfl rfl rfl rfl cf_195_0.ob (s_tmday hM hT hE hF hV hg (fun υ k1 k2 => ?_))
      show zk _ _ 60 _ _ _ _
      refine r_popI zi_250_60 rfl ?_
      refine r_il3 zi_250_61 rfl ?_
      refine r_push zi_250_62 rfl ?_
      refine r_b0 zi_250_63 rfl ?_
      rw [show (nI i + 1 : Int32) = nI (i + 1) from nI_add _ _]
      refine r_is3 zi_250_64 rfl ?_
      refine r_goto zi_250_65 rfl ?_
      exact ih (i + 1) _ υ (by omega) k1 k2 (dDay_g hM.2.2.2.2.2.2 hg ho).1 hq
theorem s_marr {d n N nT nE : Nat} {td tp tv ed : Nat → Nat} {eo : Nat → Int32} {σ V V' : zS} {Q : Int32 → zS → Prop} {Wd Fr' Wh To O A : Nat → Nat} {B : Nat → Int32} {who w : Int32} (hM : zMd σ n false N Wd Fr' Wh To O A B) (hT : zTm σ nT td tp tv) (hE : zEm σ n nE ed eo) (ho : ∀ l, l < nE → zOg n (eo l)) (hV : zVm σ V n true) (hg : zVg V n) (hvr : ∀ j x, vr j x → V j x = V' j x) (h1 : ∀ s, s < n → who = nI s → V' 6 s = 1 → 0 ≤ w → w < 12 → ∀ υ, Fg mgP σ υ → (∀ b, b < 170 → υ 196 b = σ 196 b) → υ 195 5 = 0 → Q (arV (dDay (zTl N Wd Fr' Wh To O A) B n true nT td tp tv nE ed eo) s w 61 0 V) υ) (h0 : ¬ ((∃ s, s < n ∧ who = nI s ∧ V' 6 s = 1) ∧ 0 ≤ w ∧ w < 12) → Q (-1) (up σ 195 0 0)) : zI1 (d + 10) 250 [.ref 195, .int who, .int w] σ Q := by
  have f : ∀ a b, ¬ (a = 195 ∧ b = 0) → up σ 195 0 0 a b = σ a b := fun a b h => zup_n2 h
  have hn18 := hg.2.1
  have hsub : up σ 195 0 0 195 6 = nI n := (f 195 6 (by omega)).trans hM.1
  have e6 : ∀ s, s < n → up σ 195 0 0 196 (66 + s) = (if V' 6 s = 1 then 0 else 1) := fun s hs => by rw [← hvr 6 s (by unfold vr; omega)]; exact (f _ _ (by omega)).trans (hV.2.2.1 s (by omega)).2.1
  have hsu : ∀ (Q2 : Int32 → zS → Prop), ((∃ s, s < n ∧ who = nI s) → Q2 1 (up σ 195 0 0)) → (¬ (∃ s, s < n ∧ who = nI s) → Q2 0 (up σ 195 0 0)) → zI1 (d + 9) 178 [.ref 195, .int who] (up σ 195 0 0) Q2 := fun Q2 q1 q0 => s_msubj (fun a b => q1 (by rw [hsub] at b; exact zI_of a b (by omega))) (fun z => q0 (fun ⟨s, hs, e⟩ => z (by rw [hsub, e]; exact ⟨nI_z (by omega), nI_lt hs (by omega)⟩)))
  have hlv : ∀ (Q2 : Int32 → zS → Prop), (∃ s, s < n ∧ who = nI s) → ((∃ s, s < n ∧ who = nI s ∧ V' 6 s = 1) → Q2 1 (up σ 195 0 0)) → (¬ (∃ s, s < n ∧ who = nI s ∧ V' 6 s = 1) → Q2 0 (up σ 195 0 0)) → zI1 (d + 9) 179 [.ref 195, .int who] (up σ 195 0 0) Q2 := fun Q2 hx q1 q0 => by
    obtain ⟨s, hs, e⟩ := hx
    subst e
    refine s_malive (by omega) (fun z => q1 ⟨s, hs, rfl, ?_⟩) (fun z => q0 (fun ⟨s2, h2, e2, a2⟩ => z ?_))
    · rw [e6 s hs] at z
      by_cases y : V' 6 s = 1
      · exact y
      · rw [if_neg y] at z; exact absurd z (by decide)
    · have := nI_j e2 rfl (by omega) (by omega)
      rw [e6 s hs, this, if_pos a2]
  show zk _ _ 0 [.ref 195, .int who, .int w, zun] [] _ _
  by_cases hv : (∃ s, s < n ∧ who = nI s ∧ V' 6 s = 1) ∧ 0 ≤ w ∧ w < 12
  · obtain ⟨s, hs, e, ha⟩ := id hv.1
    replace h1 := h1 s hs e ha hv.2.1 hv.2.2
    clear h0
    have hfin : ∀ τ, (∀ a b, a ≠ 198 → ¬ (a = 195 ∧ b = 5) → τ a b = up σ 195 0 0 a b) → (∀ b, b < 170 → τ 198 b = up σ 195 0 0 196 b) → τ 195 5 = 1 → zk (d + 10) 250 37 [.ref 195, .int who, .int w, .int (nI 0)] [] τ (fun r t => ∃ v, r = some v ∧ Q v t) := fun τ t1 t2 t3 => by
      have g : ∀ a b, a ≠ 198 → ¬ (a = 195 ∧ (b = 0 ∨ b = 5)) → τ a b = σ a b := fun a b h1 h2 => (t1 a b h1 (by omega)).trans (f a b (by omega))
      have hM' : zMd τ n true N Wd Fr' Wh To O A B := by
        have q := zMd_g (τ := fun a b => if a = 195 ∧ b = 5 then σ 195 5 else τ a b) hM (fun a b h => by
          show (if _ then _ else _) = _
          split
          · rename_i z; rw [z.1, z.2]
          · exact g a b (by omega) (by omega))
        exact ⟨(g 195 6 (by omega) (by omega)).trans hM.1, hM.2.1, t3, q.2.2.2.1, q.2.2.2.2.1, q.2.2.2.2.2.1, q.2.2.2.2.2.2⟩
      rw [e]
      refine l_marr hM' (zTm_g hT (fun a b h => g a b (by omega) (by omega))) (zEm_g hE (fun a b h => g a b (by omega) (by omega))) ho hs hn18 61 0 V τ (by omega) Fg.rf (zVm_a hn18 hV (fun a b h => g a b (by omega) (by omega))) hg (fun υ ω k1 w1 w2 w3 => ?_)
      refine h1 ω (fun a b h => ?_) (fun b hb => ?_) w3
      · unfold mgP at h
        exact ((w1 a b (by omega) (by omega)).trans (k1 a b (by unfold tmP; omega))).trans (g a b (by omega) (by omega))
      · exact (((w2 b hb).trans (k1 198 b (by unfold tmP; omega))).trans (t2 b hb)).trans (f 196 b (by omega))
    refine r_al0 zi_250_0 rfl ?_
    refine r_push zi_250_1 rfl ?_
    refine q_put zi_250_2 rfl cf_195_0 rfl ?_
    refine r_al0 zi_250_5 rfl ?_
    refine r_il1 zi_250_6 rfl ?_
    refine q_cIV zi_250_7 rfl rfl rfl rfl rfl rfl rfl cf_195_0.ob (hsu _ (fun _ => ?_) (fun z => absurd ⟨s, hs, e⟩ z))
    show zk _ _ 10 _ _ _ _
    refine r_if0 zi_250_10 rfl (fun c => absurd c (by decide)) (fun _ => ?_)
    refine r_al0 zi_250_13 rfl ?_
    refine r_il2 zi_250_14 rfl ?_
    refine q_cIV zi_250_15 rfl rfl rfl rfl rfl rfl rfl cf_195_0.ob (s_mplace (fun _ _ => ?_) (fun z => absurd hv.2 z))
    show zk _ _ 18 _ _ _ _
    refine r_if0 zi_250_18 rfl (fun c => absurd c (by decide)) (fun _ => ?_)
    refine r_al0 zi_250_21 rfl ?_
    refine r_il1 zi_250_22 rfl ?_
    refine q_cIV zi_250_23 rfl rfl rfl rfl rfl rfl rfl cf_195_0.ob (hlv _ ⟨s, hs, e⟩ (fun _ => ?_) (fun z => absurd hv.1 z))
    show zk _ _ 26 _ _ _ _
    refine r_if1 zi_250_26 rfl (fun _ => ?_) (fun c => absurd c (by decide))
    refine r_al0 zi_250_31 rfl ?_
    refine q_cVV zi_250_32 rfl rfl rfl rfl rfl rfl rfl cf_195_0.ob (s_thinks (fun τ t1 t2 t3 => ?_))
    show zk _ _ 35 _ _ _ _
    refine r_push zi_250_35 rfl ?_
    refine r_is3 zi_250_36 rfl ?_
    exact hfin τ t1 t2 t3
  · replace h0 := h0 hv
    clear h1
    refine r_al0 zi_250_0 rfl ?_
    refine r_push zi_250_1 rfl ?_
    refine q_put zi_250_2 rfl cf_195_0 rfl ?_
    refine r_al0 zi_250_5 rfl ?_
    refine r_il1 zi_250_6 rfl ?_
    refine q_cIV zi_250_7 rfl rfl rfl rfl rfl rfl rfl cf_195_0.ob (hsu _ (fun i1 => ?_) (fun i1 => ?_))
    · show zk _ _ 10 _ _ _ _
      refine r_if0 zi_250_10 rfl (fun c => absurd c (by decide)) (fun _ => ?_)
      refine r_al0 zi_250_13 rfl ?_
      refine r_il2 zi_250_14 rfl ?_
      refine q_cIV zi_250_15 rfl rfl rfl rfl rfl rfl rfl cf_195_0.ob (s_mplace (fun i2 a2 => ?_) (fun i2 => ?_))
      · show zk _ _ 18 _ _ _ _
        refine r_if0 zi_250_18 rfl (fun c => absurd c (by decide)) (fun _ => ?_)
        refine r_al0 zi_250_21 rfl ?_
        refine r_il1 zi_250_22 rfl ?_
        refine q_cIV zi_250_23 rfl rfl rfl rfl rfl rfl rfl cf_195_0.ob (hlv _ (by assumption) (fun i3 => ?_) (fun i3 => ?_))
        · show zk _ _ 26 _ _ _ _
          refine r_if1 zi_250_26 rfl (fun _ => ?_) (fun c => absurd c (by decide))
          exact absurd ⟨by assumption, by assumption, by assumption⟩ hv
        · show zk _ _ 26 _ _ _ _
          refine r_if1 zi_250_26 rfl (fun c => absurd (by decide) c) (fun _ => ?_)
          refine r_push zi_250_29 rfl ?_
          refine r_retI zi_250_30 rfl ?_
          exact ⟨_, rfl, h0⟩
      · show zk _ _ 18 _ _ _ _
        refine r_if0 zi_250_18 rfl (fun _ => ?_) (fun c => absurd (by decide) c)
        refine r_push zi_250_29 rfl ?_
        refine r_retI zi_250_30 rfl ?_
        exact ⟨_, rfl, h0⟩
    · show zk _ _ 10 _ _ _ _
      refine r_if0 zi_250_10 rfl (fun _ => ?_) (fun c => absurd (by decide) c)
      refine r_push zi_250_29 rfl ?_
      refine r_retI zi_250_30 rfl ?_
      exact ⟨_, rfl, h0⟩
theorem c_arrives {v w : Int32} : zPr 135 250 [.int v, .int w] := fun σ hI => by
  refine nm_in hI (fun σ hI e => ?_)
  obtain ⟨n, V, hD, h2, h3, h4, ⟨nE, ed, eo, hE, hEm⟩, h6, h7, h8, h9⟩ := id hI
  obtain ⟨n2, V2, N, Wd, Fr', Wh, To, O, A, B, hN⟩ := INV_N hI e
  have hn2 : n2 = n := nI_j hD.2.2.2.2.1 hN.1.2.2.2.2.1 (by have := hD.2.2.1.2.1; omega) (by have := hN.1.2.2.1.2.1; omega)
  subst hn2
  obtain ⟨hV, hm, hg, hz, hs, h50, hx⟩ := id hD
  obtain ⟨nT, td, tp, tv, hT, hTm⟩ := h4
  have hn18 := hg.2.1
  have hk := vN_k hN
  have hM := vN_m hN
  have ho : ∀ l, l < nE → zOg n2 (eo l) := fun l hl => zOm_g (hEm.2.2 l hl).2
  refine s_karr (d := 3) hk h7.2.2.2.2.2 hT hE ho hV hg (fun s hs1 es ha w0 w3 V' τ hv' t1 => ?_) (fun z => ?_)
  · have f : ∀ a b, 169 ≤ a → τ a b = σ a b := fun a b g => t1 a b (by unfold tdP; omega)
    refine s_marr (d := 0) (V := V') (zMd_g hM (fun a b g => f a b (by omega))) (zTm_g hTm (fun a b g => f a b (by omega))) (zEm_g hEm (fun a b g => f a b (by omega))) ho (zVm_v hn18 (zVm_a hn18 (zVm_t hm) (fun a b g => f a b (by omega))) (fun j i h => hv' j i (by unfold vr; omega)) (fun z => by cases z)) (zVg_x hg (fun j i h => hv' j i (by unfold vr; omega))) hv' (fun s' hs1' es' _ _ _ υ u1 u2 u3 => ?_) (fun y => absurd ⟨⟨s, hs1, es, ha⟩, w0, w3⟩ y)
    have q := nI_j es es' (by omega) (by omega)
    subst q
    exact ⟨rfl, th_i hI t1 u1 u2 u3⟩
  · exact s_marr (d := 0) (V := V) hM hTm hEm ho (zVm_t hm) hg (fun _ _ _ => rfl) (fun s' hs1' es' ha' w0 w3 υ u1 u2 u3 => absurd ⟨⟨s', hs1', es', ha'⟩, w0, w3⟩ z) (fun y => zPr_i hI sc_u)

