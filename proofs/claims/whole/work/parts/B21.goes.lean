/-! GOES: class -/
def dtN (F : zS → zS × Nat) : Nat → zS → zS
  | 0, V => V
  | m + 1, V => dtN F m (F V).1
def tdP (a b : Nat) : Prop := (75 ≤ a ∧ a ≤ 86) ∨ a = 93 ∨ a = 94 ∨ (a = 91 ∧ b = 4)
theorem dtN_g {T : zTe} {B : Nat → Int32} {n nT nE : Nat} {td tp tv ed : Nat → Nat} {eo : Nat → Int32} (hB : zBok B) (ho : ∀ l, l < nE → zOg n (eo l)) : ∀ (m : Nat) (V : zS), zVg V n → zVg (dtN (dDay T B n true nT td tp tv nE ed eo) m V) n
  | 0, _, h => h
  | m + 1, V, h => dtN_g hB ho m _ (dDay_g hB h ho).1
theorem s_tday {d n N nT nE : Nat} {td tp tv ed : Nat → Nat} {eo : Nat → Int32} {σ : zS} {Wd Fr' Wh To O A : Nat → Nat} {B : Nat → Int32} (hd : zKd σ N Wd Fr' Wh To O A B) (hth : σ 91 3 = 1) (hT : zTk σ nT td tp tv) (hE : zEk σ nE ed eo) (ho : ∀ l, l < nE → zOg n (eo l)) {V : zS} {τ : zS} {Q2 : Int32 → zS → Prop} (hF : Fg tdP σ τ) (hV : zVk τ 75 true V) (hg : zVg V n) (h2 : ∀ υ, Fg tdP σ υ → zVk υ 75 true (dDay (zTl N Wd Fr' Wh To O A) B n true nT td tp tv nE ed eo V).1 → Q2 (nI (dDay (zTl N Wd Fr' Wh To O A) B n true nT td tp tv nE ed eo V).2) υ) : zI1 (d + 6) 1 [.ref 91] τ Q2 := by
  have fe : ∀ a b, 15 ≤ a → a < 30 → τ a b = σ a b := fun a b g1 g2 => hF a b (by unfold tdP; omega)
  refine s_goByT (d := d) hV hg (zKd_g hd fe) ((hF 91 3 (by unfold tdP; omega)).trans hth) (zTk_g hT fe) (zEk_g hE fe) ho (fun υ k1 k2 k3 => h2 υ (fun a b g => ?_) k2)
  refine (k1 a b (by unfold tdP at g; simp; omega) (fun z => ?_)).trans (hF a b g)
  unfold tdP at g; simp; omega
theorem l_kgo {d n N nT nE k : Nat} {td tp tv ed : Nat → Nat} {eo : Nat → Int32} {σ : zS} {R : Option Int32 → zS → Prop} {Wd Fr' Wh To O A : Nat → Nat} {B : Nat → Int32} {w : Int32} (hd : zKd σ N Wd Fr' Wh To O A B) (hth : σ 91 3 = 1) (hT : zTk σ nT td tp tv) (hE : zEk σ nE ed eo) (ho : ∀ l, l < nE → zOg n (eo l)) (hk : k ≤ 60) : ∀ (m i : Nat) (V : zS) (τ : zS), i + m = k → Fg tdP σ τ → zVk τ 75 true V → zVg V n → (∀ υ u, Fg tdP σ υ → zVk υ 75 true (dtN (dDay (zTl N Wd Fr' Wh To O A) B n true nT td tp tv nE ed eo) m V) → zk (d + 7) 134 56 [.ref 0, .int (nI k), .int w, u] [] υ R) → zk (d + 7) 134 37 [.ref 0, .int (nI k), .int w, .int (nI i)] [] τ R := by
  intro m
  induction m with
  | zero =>
    intro i V τ hi hF hV hg hq
    refine r_il3 zi_134_37 rfl ?_
    refine r_il1 zi_134_38 rfl ?_
    refine n_ic3 (i := i) (j := k) zi_134_39 rfl (by omega) (by omega) (fun _ => ?_) (fun c => absurd c (by omega))
    exact hq τ _ hF hV
  | succ m ih =>
    intro i V τ hi hF hV hg hq
    refine r_il3 zi_134_37 rfl ?_
    refine r_il1 zi_134_38 rfl ?_
    refine n_ic3 (i := i) (j := k) zi_134_39 rfl (by omega) (by omega) (fun c => absurd c (by omega)) (fun _ => ?_)
    refine r_al0 zi_134_42 rfl ?_
    refine q_getR zi_134_43 rfl cf_0_5 ?_
    refine q_cIV zi_134_46 rfl rfl rfl rfl rfl rfl rfl cf_91_0.ob (s_tday hd hth hT hE ho hF hV hg (fun υ k1 k2 => ?_))
    show zk _ _ 49 _ _ _ _
    refine r_popI zi_134_49 rfl ?_
    refine r_in3 zi_134_50 rfl ?_
    rw [show (nI i + 1 : Int32) = nI (i + 1) from nI_add _ _]
    refine r_goto zi_134_53 rfl ?_
    exact ih (i + 1) _ υ (by omega) k1 k2 (dDay_g hd.2.2.2.1 hg ho).1 hq

