/-! THOUGHT: sums, what waits -/
def zsm (f : Nat → Int32) : Nat → Int32
  | 0 => 0
  | k + 1 => zsm f k + f k
theorem l_ksm {d c : Nat} {σ : zS} {Q : Int32 → zS → Prop} (hc : zIs c (.inl 12)) (h : Q (zsm (σ c) 12) σ) : ∀ (m i : Nat) (u : Value), i + m = 12 → zk d 161 10 [.ref c, .int (zsm (σ c) i), .ref c, .int 12, .int (nI i), u] [] σ (fun r t => ∃ v, r = some v ∧ Q v t) := by
  intro m
  induction m with
  | zero =>
    intro i u hi
    have e : zsm (σ c) i = zsm (σ c) 12 := by rw [show i = 12 by omega]
    refine r_il4 zi_161_10 rfl ?_
    refine r_il3 zi_161_12 rfl ?_
    refine n_ic3 (i := i) (j := 12) zi_161_13 rfl (by omega) (by omega) (fun _ => ?_) (fun c => absurd c (by omega))
    refine r_il1 zi_161_33 rfl ?_
    refine r_retI zi_161_34 rfl ?_
    exact ⟨_, rfl, by rw [e]; exact h⟩
  | succ m ih =>
    intro i u hi
    refine r_il4 zi_161_10 rfl ?_
    refine r_il3 zi_161_12 rfl ?_
    refine n_ic3 (i := i) (j := 12) zi_161_13 rfl (by omega) (by omega) (fun c => absurd c (by omega)) (fun _ => ?_)
    refine r_al2 zi_161_16 rfl ?_
    refine r_il4 zi_161_17 rfl ?_
    refine r_ald zi_161_19 rfl i hc (by first | rfl | (simp only [zI_add, zI_mul] <;> rfl)) (by first | omega | decide) ?_
    refine r_is5 zi_161_20 rfl ?_
    refine r_il1 zi_161_22 rfl ?_
    refine r_il5 zi_161_23 rfl ?_
    refine r_b0 zi_161_25 rfl ?_
    refine r_is1 zi_161_26 rfl ?_
    refine r_in4 zi_161_27 rfl ?_
    rw [show (nI i + 1 : Int32) = nI (i + 1) from nI_add _ _]
    refine r_goto zi_161_30 rfl ?_
    exact ih (i + 1) _ (by omega)
theorem s_ksm {d c : Nat} {σ : zS} {Q : Int32 → zS → Prop} (hc : zIs c (.inl 12)) (h : Q (zsm (σ c) 12) σ) : zI1 d 161 [.ref c] σ Q := by
  show zk _ _ 0 [.ref c, zun, zun, zun, zun, zun] [] _ _
  refine r_push zi_161_0 rfl ?_
  refine r_is1 zi_161_1 rfl ?_
  refine r_al0 zi_161_2 rfl ?_
  refine r_as2 zi_161_3 rfl ?_
  refine r_al2 zi_161_4 rfl ?_
  refine r_alen zi_161_5 rfl hc ?_
  refine r_is3 zi_161_6 rfl ?_
  refine r_push zi_161_7 rfl ?_
  refine r_is4 zi_161_8 rfl ?_
  exact l_ksm hc h 12 0 _ (by omega)
theorem l_msm {d b : Nat} {σ : zS} {Q : Int32 → zS → Prop} (hb : b ≤ 100) (h : Q (zsm (fun i => σ 196 (b + i)) 12) σ) : ∀ (m i : Nat), i + m = 12 → zk d 248 4 [.ref 195, .int (nI b), .int (zsm (fun i => σ 196 (b + i)) i), .int (nI i)] [] σ (fun r t => ∃ v, r = some v ∧ Q v t) := by
  intro m
  induction m with
  | zero =>
    intro i hi
    have e : zsm (fun i => σ 196 (b + i)) i = zsm (fun i => σ 196 (b + i)) 12 := by rw [show i = 12 by omega]
    refine r_il3 zi_248_4 rfl ?_
    refine r_push zi_248_5 rfl ?_
    refine n_ic3 (i := i) (j := 12) zi_248_7 rfl (by omega) (by omega) (fun _ => ?_) (fun c => absurd c (by omega))
    refine r_il2 zi_248_27 rfl ?_
    refine r_retI zi_248_28 rfl ?_
    exact ⟨_, rfl, by rw [e]; exact h⟩
  | succ m ih =>
    intro i hi
    refine r_il3 zi_248_4 rfl ?_
    refine r_push zi_248_5 rfl ?_
    refine n_ic3 (i := i) (j := 12) zi_248_7 rfl (by omega) (by omega) (fun c => absurd c (by omega)) (fun _ => ?_)
    refine r_il2 zi_248_10 rfl ?_
    refine r_al0 zi_248_11 rfl ?_
    refine q_getR zi_248_12 rfl cf_195_1 ?_
    refine r_il1 zi_248_15 rfl ?_
    refine r_il3 zi_248_16 rfl ?_
    refine r_b0 zi_248_17 rfl ?_
    rw [show (nI b + nI i : Int32) = nI (b + i) from nI_add _ _]
    refine r_ald zi_248_18 rfl (b + i) ca_196 (by first | rfl | (simp only [zI_add, zI_mul] <;> rfl)) (by first | omega | decide) ?_
    refine r_b0 zi_248_19 rfl ?_
    refine r_is2 zi_248_20 rfl ?_
    refine r_in3 zi_248_21 rfl ?_
    rw [show (nI i + 1 : Int32) = nI (i + 1) from nI_add _ _]
    refine r_goto zi_248_24 rfl ?_
    exact ih (i + 1) (by omega)
theorem s_msm {d b : Nat} {σ : zS} {Q : Int32 → zS → Prop} (hb : b ≤ 100) (h : Q (zsm (fun i => σ 196 (b + i)) 12) σ) : zI1 d 248 [.ref 195, .int (nI b)] σ Q := by
  show zk _ _ 0 [.ref 195, .int (nI b), zun, zun] [] _ _
  refine r_push zi_248_0 rfl ?_
  refine r_is2 zi_248_1 rfl ?_
  refine r_push zi_248_2 rfl ?_
  refine r_is3 zi_248_3 rfl ?_
  exact l_msm hb h 12 0 (by omega)
theorem l_mth {d : Nat} {σ : zS} {Q : zS → Prop} (hq : ∀ τ, (∀ a b, a ≠ 198 → τ a b = σ a b) → (∀ b, b < 170 → τ 198 b = σ 196 b) → Q (up τ 195 5 1)) : ∀ (m i : Nat) (τ : zS), i + m = 170 → (∀ a b, a ≠ 198 → τ a b = σ a b) → (∀ b, b < i → τ 198 b = σ 196 b) → zk d 173 2 [.ref 195, .int (nI i)] [] τ (fun r s => r = none ∧ Q s) := by
  intro m
  induction m with
  | zero =>
    intro i τ hi h1 h2
    refine r_il1 zi_173_2 rfl ?_
    refine r_push zi_173_3 rfl ?_
    refine n_ic3 (i := i) (j := 170) zi_173_6 rfl (by omega) (by omega) (fun _ => ?_) (fun c => absurd c (by omega))
    refine r_al0 zi_173_27 rfl ?_
    refine r_push zi_173_28 rfl ?_
    refine q_put zi_173_29 rfl cf_195_5 rfl ?_
    refine r_ret zi_173_32 rfl ?_
    exact ⟨rfl, hq τ h1 (fun b hb => h2 b (by omega))⟩
  | succ m ih =>
    intro i τ hi h1 h2
    have e6 : τ 196 i = σ 196 i := h1 _ _ (by decide)
    refine r_il1 zi_173_2 rfl ?_
    refine r_push zi_173_3 rfl ?_
    refine n_ic3 (i := i) (j := 170) zi_173_6 rfl (by omega) (by omega) (fun c => absurd c (by omega)) (fun _ => ?_)
    refine r_al0 zi_173_9 rfl ?_
    refine q_getR zi_173_10 rfl cf_195_4 ?_
    refine r_il1 zi_173_13 rfl ?_
    refine r_al0 zi_173_14 rfl ?_
    refine q_getR zi_173_15 rfl cf_195_1 ?_
    refine r_il1 zi_173_18 rfl ?_
    refine r_alde zi_173_19 rfl i ca_196 (by first | rfl | (simp only [zI_add, zI_mul] <;> rfl)) (by first | omega | decide) (u := σ 196 i) (by first | exact e6 | ((repeat (first | rw [zup_ne (by first | decide | omega)] | rw [zup_nj (by first | decide | omega)] | rw [fil_ne (by first | decide | omega)])) <;> exact e6) | (simp [up_rd, fil_rd]; exact e6)) ?_
    refine r_ast zi_173_20 rfl i ca_198 (by first | rfl | (simp only [zI_add, zI_mul] <;> rfl)) (by first | omega | decide) ?_
    refine r_in1 zi_173_21 rfl ?_
    rw [show (nI i + 1 : Int32) = nI (i + 1) from nI_add _ _]
    refine r_goto zi_173_24 rfl ?_
    refine ih (i + 1) _ (by omega) (fun a b hab => (zup_ne hab).trans (h1 a b hab)) (fun b hb => ?_)
    by_cases e : b = i
    · rw [e, zup_eq]
    · rw [zup_nj e]; exact h2 b (by omega)
theorem s_thinks {d : Nat} {σ : zS} {Q : zS → Prop} (hq : ∀ τ, (∀ a b, a ≠ 198 → ¬ (a = 195 ∧ b = 5) → τ a b = σ a b) → (∀ b, b < 170 → τ 198 b = σ 196 b) → τ 195 5 = 1 → Q τ) : zV1 d 173 [.ref 195] σ Q := by
  show zk _ _ 0 [.ref 195, zun] [] _ _
  refine r_push zi_173_0 rfl ?_
  refine r_is1 zi_173_1 rfl ?_
  exact l_mth (fun τ h1 h2 => hq _ (fun a b g1 g2 => (zup_n2 g2).trans (h1 a b g1)) (fun b hb => (zup_ne (by decide)).trans (h2 b hb)) zup_eq) 170 0 _ (by omega) (fun _ _ _ => rfl) (fun b hb => by omega)
theorem l_met {d : Nat} {σ : zS} {Q : zS → Prop} (hq : ∀ τ, (∀ a b, a ≠ 196 → τ a b = σ a b) → (∀ b, b < 170 → τ 196 b = σ 198 b) → Q (up τ 195 5 0)) : ∀ (m i : Nat) (τ : zS), i + m = 170 → (∀ a b, a ≠ 196 → τ a b = σ a b) → (∀ b, b < i → τ 196 b = σ 198 b) → zk d 174 2 [.ref 195, .int (nI i)] [] τ (fun r s => r = none ∧ Q s) := by
  intro m
  induction m with
  | zero =>
    intro i τ hi h1 h2
    refine r_il1 zi_174_2 rfl ?_
    refine r_push zi_174_3 rfl ?_
    refine n_ic3 (i := i) (j := 170) zi_174_6 rfl (by omega) (by omega) (fun _ => ?_) (fun c => absurd c (by omega))
    refine r_al0 zi_174_27 rfl ?_
    refine r_push zi_174_28 rfl ?_
    refine q_put zi_174_29 rfl cf_195_5 rfl ?_
    refine r_ret zi_174_32 rfl ?_
    exact ⟨rfl, hq τ h1 (fun b hb => h2 b (by omega))⟩
  | succ m ih =>
    intro i τ hi h1 h2
    have e6 : τ 198 i = σ 198 i := h1 _ _ (by decide)
    refine r_il1 zi_174_2 rfl ?_
    refine r_push zi_174_3 rfl ?_
    refine n_ic3 (i := i) (j := 170) zi_174_6 rfl (by omega) (by omega) (fun c => absurd c (by omega)) (fun _ => ?_)
    refine r_al0 zi_174_9 rfl ?_
    refine q_getR zi_174_10 rfl cf_195_1 ?_
    refine r_il1 zi_174_13 rfl ?_
    refine r_al0 zi_174_14 rfl ?_
    refine q_getR zi_174_15 rfl cf_195_4 ?_
    refine r_il1 zi_174_18 rfl ?_
    refine r_alde zi_174_19 rfl i ca_198 (by first | rfl | (simp only [zI_add, zI_mul] <;> rfl)) (by first | omega | decide) (u := σ 198 i) (by first | exact e6 | ((repeat (first | rw [zup_ne (by first | decide | omega)] | rw [zup_nj (by first | decide | omega)] | rw [fil_ne (by first | decide | omega)])) <;> exact e6) | (simp [up_rd, fil_rd]; exact e6)) ?_
    refine r_ast zi_174_20 rfl i ca_196 (by first | rfl | (simp only [zI_add, zI_mul] <;> rfl)) (by first | omega | decide) ?_
    refine r_in1 zi_174_21 rfl ?_
    rw [show (nI i + 1 : Int32) = nI (i + 1) from nI_add _ _]
    refine r_goto zi_174_24 rfl ?_
    refine ih (i + 1) _ (by omega) (fun a b hab => (zup_ne hab).trans (h1 a b hab)) (fun b hb => ?_)
    by_cases e : b = i
    · rw [e, zup_eq]
    · rw [zup_nj e]; exact h2 b (by omega)
theorem s_endsT {d : Nat} {σ : zS} {Q : zS → Prop} (hq : ∀ τ, (∀ a b, a ≠ 196 → ¬ (a = 195 ∧ b = 5) → τ a b = σ a b) → (∀ b, b < 170 → τ 196 b = σ 198 b) → τ 195 5 = 0 → Q τ) : zV1 d 174 [.ref 195] σ Q := by
  show zk _ _ 0 [.ref 195, zun] [] _ _
  refine r_push zi_174_0 rfl ?_
  refine r_is1 zi_174_1 rfl ?_
  exact l_met (fun τ h1 h2 => hq _ (fun a b g1 g2 => (zup_n2 g2).trans (h1 a b g1)) (fun b hb => (zup_ne (by decide)).trans (h2 b hb)) zup_eq) 170 0 _ (by omega) (fun _ _ _ => rfl) (fun b hb => by omega)

