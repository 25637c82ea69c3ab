/-! GOES: model -/
def tmP (a _b : Nat) : Prop := a = 196 ∨ (215 ≤ a ∧ a ≤ 217)
theorem s_tmday {d n N nT nE : Nat} {td tp tv ed : Nat → Nat} {eo : Nat → Int32} {σ : zS} {Wd Fr' Wh To O A : Nat → Nat} {B : Nat → Int32} (hM : zMd σ n true N Wd Fr' Wh To O A B) (hT : zTm σ nT td tp tv) (hE : zEm σ n nE ed eo) {V : zS} {τ : zS} {Q2 : Int32 → zS → Prop} (hF : Fg tmP σ τ) (hV : zVm τ V n true) (hg : zVg V n) (h2 : ∀ υ, Fg tmP σ υ → zVm υ (dDay (zTl N Wd Fr' Wh To O A) B n true nT td tp tv nE ed eo V).1 n true → Q2 (nI (dDay (zTl N Wd Fr' Wh To O A) B n true nT td tp tv nE ed eo V).2) υ) : zI1 (d + 9) 243 [.ref 195] τ Q2 := by
  refine s_goesBy (d := d) (zMd_g hM (fun a b g => hF a b (by unfold tmP; omega))) hV hg (zTm_g hT (fun a b g => hF a b (by unfold tmP; omega))) (zEm_g hE (fun a b g => hF a b (by unfold tmP; omega))) (fun υ k1 k2 => h2 υ (fun a b g => ?_) k2)
  by_cases e : a = 201
  · subst e
    exact (k1.2 rfl b).trans (hF 201 b g)
  · exact (k1.1 a (by unfold tmP at g; simp; omega) b).trans (hF a b g)
theorem l_mgo {d n N nT nE k : Nat} {td tp tv ed : Nat → Nat} {eo : Nat → Int32} {σ : zS} {R : Option Int32 → zS → Prop} {Wd Fr' Wh To O A : Nat → Nat} {B : Nat → Int32} {w : Int32} (hM : zMd σ n true N Wd Fr' Wh To O A B) (hT : zTm σ nT td tp tv) (hE : zEm σ n nE ed eo) (ho : ∀ l, l < nE → zOg n (eo l)) (hk : k ≤ 60) : ∀ (m i : Nat) (V : zS) (τ : zS), i + m = k → Fg tmP σ τ → zVm τ V n true → zVg V n → (∀ υ u, Fg tmP σ υ → zVm υ (dtN (dDay (zTl N Wd Fr' Wh To O A) B n true nT td tp tv nE ed eo) m V) n true → zk (d + 10) 249 50 [.ref 195, .int (nI k), .int w, u] [] υ R) → zk (d + 10) 249 34 [.ref 195, .int (nI k), .int w, .int (nI i)] [] τ R := by
  intro m
  induction m with
  | zero =>
    intro i V τ hi hF hV hg hq
    refine r_il3 zi_249_34 rfl ?_
    refine r_il1 zi_249_35 rfl ?_
    refine n_ic3 (i := i) (j := k) zi_249_36 rfl (by omega) (by omega) (fun _ => ?_) (fun c => absurd c (by omega))
    exact hq τ _ hF hV
  | succ m ih =>
    intro i V τ hi hF hV hg hq
    refine r_il3 zi_249_34 rfl ?_
    refine r_il1 zi_249_35 rfl ?_
    refine n_ic3 (i := i) (j := k) zi_249_36 rfl (by omega) (by omega) (fun c => absurd c (by omega)) (fun _ => ?_)
    refine r_al0 zi_249_39 rfl ?_
    refine q_cIV zi_249_40 rfl rfl rfl rfl rfl rfl rfl cf_195_0.ob (s_tmday hM hT hE hF hV hg (fun υ k1 k2 => ?_))
    show zk _ _ 43 _ _ _ _
    refine r_popI zi_249_43 rfl ?_
    refine r_in3 zi_249_44 rfl ?_
    rw [show (nI i + 1 : Int32) = nI (i + 1) from nI_add _ _]
    refine r_goto zi_249_47 rfl ?_
    exact ih (i + 1) _ υ (by omega) k1 k2 (dDay_g hM.2.2.2.2.2.2 hg ho).1 hq

