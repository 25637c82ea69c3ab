/-! CLASS: far, toward; MODEL: findsFar, nearerTo -/
def zhd (σ : zS) (k : Nat) : Prop := ∀ a b, a < 12 → b < 12 → σ (k + 2) (a * 12 + b) = zdV (σ (k + 1)) a b
theorem s_far {d k a b : Nat} {σ : zS} {Q : Int32 → zS → Prop} (hk : zWa k) (hd : zhd σ k) (ha : a < 12) (hb : b < 12) (h : Q (zdV (σ (k + 1)) a b) σ) : zI1 (d + 1) 118 [.ref k, .int (nI a), .int (nI b)] σ Q := by
  have e := hd a b ha hb
  have la : nI a < 12 := nI_lt (b := 12) ha (by omega)
  have lb : nI b < 12 := nI_lt (b := 12) hb (by omega)
  have pa := nI_pos' (n := a) (by omega)
  have pb := nI_pos' (n := b) (by omega)
  show zk _ _ 0 [.ref k, .int (nI a), .int (nI b)] [] _ _
  refine r_il1 zi_118_0 rfl ?_
  refine r_cIS zi_118_1 rfl rfl rfl rfl rfl rfl (s_kplace (fun _ _ => ?_) (fun z => absurd ⟨pa, la⟩ z))
  show zk _ _ 4 _ _ _ _
  refine r_if0 zi_118_4 rfl (fun c => absurd c (by decide)) (fun _ => ?_)
  refine r_il2 zi_118_7 rfl ?_
  refine r_cIS zi_118_8 rfl rfl rfl rfl rfl rfl (s_kplace (fun _ _ => ?_) (fun z => absurd ⟨pb, lb⟩ z))
  show zk _ _ 11 _ _ _ _
  refine r_if0 zi_118_11 rfl (fun c => absurd c (by decide)) (fun _ => ?_)
  refine r_al0 zi_118_14 rfl ?_
  refine q_getR zi_118_15 rfl hk.2.1 ?_
  refine r_il1 zi_118_18 rfl ?_
  refine r_push zi_118_19 rfl ?_
  refine r_b2 zi_118_21 rfl ?_
  rw [show (nI a * 12 : Int32) = nI (a * 12) from pk_mul _ _]
  refine r_il2 zi_118_22 rfl ?_
  refine r_b0 zi_118_23 rfl ?_
  rw [show (nI (a * 12) + nI b : Int32) = nI ((a * 12) + b) from nI_add _ _]
  refine r_ald zi_118_24 rfl ((a * 12) + b) hk.2.2.2 (by first | rfl | (simp only [zI_add, zI_mul] <;> rfl)) (by first | omega | decide) ?_
  rw [e]
  refine r_goto zi_118_25 rfl ?_
  refine r_retI zi_118_29 rfl ?_
  exact ⟨_, rfl, h⟩
def ztP (B : Nat → Int32) (a b : Nat) (p : Nat) : Bool := decide (zds B a p = 1 ∧ zds B p b + 1 = zds B a b)
def ztw (B : Nat → Int32) (a b : Nat) : Nat := if 0 < zds B a b ∧ zds B a b < 12 then zdF (ztP B a b) 12 0 else a
theorem ztw_lt {B : Nat → Int32} (hB : zBok B) {a b : Nat} (ha : a < 12) (hb : b < 12) : ztw B a b < 12 := by
  unfold ztw
  by_cases h : 0 < zds B a b ∧ zds B a b < 12
  · rw [if_pos h]
    obtain ⟨p, hp, h1, h2⟩ := zds_step hB ha hb h.1 h.2
    have hs := zdF_spec (P := ztP B a b) 12 0
    have hap : a ≠ p := by intro z; subst z; omega
    have h3 : ztP B a b p = true := decide_eq_true ⟨(zds_1 ha hp hap).mpr h1, h2⟩
    by_cases hl : zdF (ztP B a b) 12 0 < 12
    · exact hl
    · have := hs.2.2.2 p (by omega) (by omega)
      rw [h3] at this; cases this
  · rw [if_neg h]; exact ha
theorem l_toward {d k a b D : Nat} {σ : zS} {Q : Int32 → zS → Prop} (hk : zWa k) (hd : zhd σ k) (ha : a < 12) (hb : b < 12) (hD : zds (σ (k + 1)) a b = D) (h0 : 0 < D) (h12 : D < 12) (hl : zdF (ztP (σ (k + 1)) a b) 12 0 < 12) (h : Q (nI (zdF (ztP (σ (k + 1)) a b) 12 0)) σ) : ∀ (m p : Nat), p + m = 12 → zdF (ztP (σ (k + 1)) a b) 12 0 = zdF (ztP (σ (k + 1)) a b) m p → zk (d + 2) 119 16 [.ref k, .int (nI a), .int (nI b), .int (nI D), .int (nI p)] [] σ (fun r t => ∃ v, r = some v ∧ Q v t) := by
  intro m
  induction m with
  | zero =>
    intro p hp he
    rw [he] at hl
    simp only [zdF] at hl
    omega
  | succ m ih =>
    intro p hp he
    have e1 : zdF (ztP (σ (k + 1)) a b) (m + 1) p = if ztP (σ (k + 1)) a b p then p else zdF (ztP (σ (k + 1)) a b) m (p + 1) := rfl
    have hv1 : zds (σ (k + 1)) a p = 1 ↔ zdV (σ (k + 1)) a p = 1 := by
      unfold zdV
      have := zds_le (B := σ (k + 1)) (a := a) (b := p)
      by_cases z : zds (σ (k + 1)) a p < 12
      · rw [if_pos z]; exact (nI_eq (b := 1) (by omega) (by omega)).symm
      · rw [if_neg z]; exact ⟨fun w => by omega, fun w => by cases w⟩
    have hv2 : zds (σ (k + 1)) p b + 1 = D ↔ zdV (σ (k + 1)) p b = nI D - 1 := by
      unfold zdV
      have e2 : nI D - 1 = nI (D - 1) := pk_sub (b := 1) (by omega)
      rw [e2]
      have := zds_le (B := σ (k + 1)) (a := p) (b := b)
      by_cases z : zds (σ (k + 1)) p b < 12
      · rw [if_pos z, nI_eq (by omega) (by omega)]; omega
      · rw [if_neg z]
        constructor
        · intro w; omega
        · intro w
          exact absurd (nI_pos' (n := D - 1) (by omega)) (by rw [← w]; decide)
    by_cases c1 : zdV (σ (k + 1)) a p = 1
    · by_cases c2 : zdV (σ (k + 1)) p b = nI D - 1
      · have hP : ztP (σ (k + 1)) a b p = true := decide_eq_true ⟨hv1.mpr c1, by rw [hD]; exact hv2.mpr c2⟩
        rw [e1, if_pos hP] at he
        refine r_il4 zi_119_16 rfl ?_
        refine r_push zi_119_18 rfl ?_
        refine n_ic3 (i := p) (j := 12) zi_119_20 rfl (by omega) (by omega) (fun c => absurd c (by omega)) (fun _ => ?_)
        refine r_al0 zi_119_23 rfl ?_
        refine r_il1 zi_119_24 rfl ?_
        refine r_il4 zi_119_25 rfl ?_
        refine q_cIV zi_119_27 rfl rfl rfl rfl rfl rfl rfl hk.1.ob (s_far hk hd ha (by omega) ?_)
        show zk _ _ 30 _ _ _ _
        refine r_push zi_119_30 rfl ?_
        refine r_ic1 zi_119_31 rfl (fun c => absurd c1 c) (fun _ => ?_)
        refine r_al0 zi_119_34 rfl ?_
        refine r_il4 zi_119_35 rfl ?_
        refine r_il2 zi_119_37 rfl ?_
        refine q_cIV zi_119_38 rfl rfl rfl rfl rfl rfl rfl hk.1.ob (s_far hk hd (by omega) hb ?_)
        show zk _ _ 41 _ _ _ _
        refine r_il3 zi_119_41 rfl ?_
        refine r_push zi_119_42 rfl ?_
        refine r_b1 zi_119_43 rfl ?_
        refine r_ic1 zi_119_44 rfl (fun c => absurd c2 c) (fun _ => ?_)
        refine r_il4 zi_119_47 rfl ?_
        refine r_retI zi_119_49 rfl ?_
        exact ⟨_, rfl, by rw [← he]; exact h⟩
      · have hP : ztP (σ (k + 1)) a b p = false := decide_eq_false (fun z => c2 (hv2.mp (by rw [← hD]; exact z.2)))
        rw [e1, hP, if_neg (by simp)] at he
        refine r_il4 zi_119_16 rfl ?_
        refine r_push zi_119_18 rfl ?_
        refine n_ic3 (i := p) (j := 12) zi_119_20 rfl (by omega) (by omega) (fun c => absurd c (by omega)) (fun _ => ?_)
        refine r_al0 zi_119_23 rfl ?_
        refine r_il1 zi_119_24 rfl ?_
        refine r_il4 zi_119_25 rfl ?_
        refine q_cIV zi_119_27 rfl rfl rfl rfl rfl rfl rfl hk.1.ob (s_far hk hd ha (by omega) ?_)
        show zk _ _ 30 _ _ _ _
        refine r_push zi_119_30 rfl ?_
        refine r_ic1 zi_119_31 rfl (fun c => absurd c1 c) (fun _ => ?_)
        refine r_al0 zi_119_34 rfl ?_
        refine r_il4 zi_119_35 rfl ?_
        refine r_il2 zi_119_37 rfl ?_
        refine q_cIV zi_119_38 rfl rfl rfl rfl rfl rfl rfl hk.1.ob (s_far hk hd (by omega) hb ?_)
        show zk _ _ 41 _ _ _ _
        refine r_il3 zi_119_41 rfl ?_
        refine r_push zi_119_42 rfl ?_
        refine r_b1 zi_119_43 rfl ?_
        refine r_ic1 zi_119_44 rfl (fun _ => ?_) (fun c => absurd c c2)
        refine r_in4 zi_119_50 rfl ?_
        rw [show (nI p + 1 : Int32) = nI (p + 1) from nI_add _ _]
        refine r_goto zi_119_53 rfl ?_
        exact ih (p + 1) (by omega) he
    · have hP : ztP (σ (k + 1)) a b p = false := decide_eq_false (fun z => c1 (hv1.mp z.1))
      rw [e1, hP, if_neg (by simp)] at he
      refine r_il4 zi_119_16 rfl ?_
      refine r_push zi_119_18 rfl ?_
      refine n_ic3 (i := p) (j := 12) zi_119_20 rfl (by omega) (by omega) (fun c => absurd c (by omega)) (fun _ => ?_)
      refine r_al0 zi_119_23 rfl ?_
      refine r_il1 zi_119_24 rfl ?_
      refine r_il4 zi_119_25 rfl ?_
      refine q_cIV zi_119_27 rfl rfl rfl rfl rfl rfl rfl hk.1.ob (s_far hk hd ha (by omega) ?_)
      show zk _ _ 30 _ _ _ _
      refine r_push zi_119_30 rfl ?_
      refine r_ic1 zi_119_31 rfl (fun _ => ?_) (fun c => absurd c c1)
      refine r_in4 zi_119_50 rfl ?_
      rw [show (nI p + 1 : Int32) = nI (p + 1) from nI_add _ _]
      refine r_goto zi_119_53 rfl ?_
      exact ih (p + 1) (by omega) he
theorem s_toward {d k a b : Nat} {σ : zS} {Q : Int32 → zS → Prop} (hk : zWa k) (hd : zhd σ k) (hB : zBok (σ (k + 1))) (ha : a < 12) (hb : b < 12) (h : Q (nI (ztw (σ (k + 1)) a b)) σ) : zI1 (d + 2) 119 [.ref k, .int (nI a), .int (nI b)] σ Q := by
  have ht := ztw_lt hB ha hb
  unfold ztw at h ht
  show zk _ _ 0 [.ref k, .int (nI a), .int (nI b), zun, zun] [] _ _
  by_cases hz : 0 < zds (σ (k + 1)) a b ∧ zds (σ (k + 1)) a b < 12
  · rw [if_pos hz] at h ht
    have e : zdV (σ (k + 1)) a b = nI (zds (σ (k + 1)) a b) := if_pos hz.2
    have hp : 0 < nI (zds (σ (k + 1)) a b) := nI_lt (a := 0) hz.1 (by omega)
    refine r_al0 zi_119_0 rfl ?_
    refine r_il1 zi_119_1 rfl ?_
    refine r_il2 zi_119_2 rfl ?_
    refine q_cIV zi_119_3 rfl rfl rfl rfl rfl rfl rfl hk.1.ob (s_far hk hd ha hb ?_)
    show zk _ _ 6 _ _ _ _
    rw [e]
    refine r_is3 zi_119_6 rfl ?_
    refine r_il3 zi_119_7 rfl ?_
    refine r_if4 zi_119_8 rfl (fun _ => ?_) (fun c => absurd hp c)
    refine r_push zi_119_13 rfl ?_
    refine r_is4 zi_119_14 rfl ?_
    exact l_toward hk hd ha hb rfl hz.1 hz.2 ht h 12 0 (by omega) rfl
  · rw [if_neg hz] at h
    have hp : ¬ 0 < zdV (σ (k + 1)) a b := by
      unfold zdV
      have := zds_le (B := σ (k + 1)) (a := a) (b := b)
      by_cases z : zds (σ (k + 1)) a b < 12
      · rw [if_pos z, show zds (σ (k + 1)) a b = 0 by omega]; decide
      · rw [if_neg z]; decide
    refine r_al0 zi_119_0 rfl ?_
    refine r_il1 zi_119_1 rfl ?_
    refine r_il2 zi_119_2 rfl ?_
    refine q_cIV zi_119_3 rfl rfl rfl rfl rfl rfl rfl hk.1.ob (s_far hk hd ha hb ?_)
    show zk _ _ 6 _ _ _ _
    refine r_is3 zi_119_6 rfl ?_
    refine r_il3 zi_119_7 rfl ?_
    refine r_if4 zi_119_8 rfl (fun c => absurd c hp) (fun _ => ?_)
    refine r_il1 zi_119_11 rfl ?_
    refine r_retI zi_119_12 rfl ?_
    exact ⟨_, rfl, h⟩
/-- the model's way -/
def zFJ (B : Nat → Int32) (a r c q : Nat) (F : Nat → Nat) : Prop := (∀ p, p < 12 → F p ≤ 100000000 ∧ (F p < 100000000 → zrb B a (F p) p)) ∧ (∀ k p, k ≤ r → p < 12 → zrb B a k p → F p ≤ k) ∧ (∀ k x y, k ≤ r → x < 12 → y < 12 → (x < c ∨ (x = c ∧ y < q)) → zrb B a k x → zbt (B x) y = true → F y ≤ k + 1)
def zlx (F : Nat → Nat) (c q : Nat) (p : Nat) : Nat := if p = q then min (F q) (F c + 1) else F p
theorem zFJ_1 {B : Nat → Int32} {a r c q : Nat} {F : Nat → Nat} (hc : c < 12) (hq : q < 12) (h : zFJ B a r c q F) (hr : zbt (B c) q = true) : zFJ B a r c (q + 1) (zlx F c q) := by
  obtain ⟨h1, h2, h3⟩ := h
  have hle : ∀ p, zlx F c q p ≤ F p := fun p => by
    unfold zlx
    split
    · rename_i e; rw [e]; exact Nat.min_le_left _ _
    · exact Nat.le_refl _
  refine ⟨fun p hp => ⟨Nat.le_trans (hle p) (h1 p hp).1, fun hl => ?_⟩, fun k p hk hp hz => Nat.le_trans (hle p) (h2 k p hk hp hz), fun k x y hk hx hy hxy hz hb => ?_⟩
  · unfold zlx at hl ⊢
    split
    · rename_i e
      subst e
      rw [if_pos rfl] at hl
      by_cases hm : F p ≤ F c + 1
      · rw [Nat.min_eq_left hm] at hl ⊢; exact (h1 p hp).2 hl
      · rw [Nat.min_eq_right (by omega)] at hl ⊢
        exact (zrb_s (by omega)).mpr (Or.inr ⟨c, hc, (h1 c hc).2 (by omega), hr⟩)
    · rename_i e
      rw [if_neg e] at hl
      exact (h1 p hp).2 hl
  · by_cases e : x = c ∧ y = q
    · obtain ⟨rfl, rfl⟩ := e
      have := h2 k x hk hx hz
      unfold zlx
      rw [if_pos rfl]
      exact Nat.le_trans (Nat.min_le_right _ _) (by omega)
    · exact Nat.le_trans (hle y) (h3 k x y hk hx hy (by omega) hz hb)
theorem zFJ_0 {B : Nat → Int32} {a r c q : Nat} {F : Nat → Nat} (h : zFJ B a r c q F) (hr : ¬ zbt (B c) q = true) : zFJ B a r c (q + 1) F := by
  obtain ⟨h1, h2, h3⟩ := h
  refine ⟨h1, h2, fun k x y hk hx hy hxy hz hb => ?_⟩
  by_cases e : x = c ∧ y = q
  · obtain ⟨rfl, rfl⟩ := e; exact absurd hb hr
  · exact h3 k x y hk hx hy (by omega) hz hb
theorem zFJ_c {B : Nat → Int32} {a r c : Nat} {F : Nat → Nat} (h : zFJ B a r c 12 F) : zFJ B a r (c + 1) 0 F := ⟨h.1, h.2.1, fun k x y hk hx hy hxy hz hb => h.2.2 k x y hk hx hy (by omega) hz hb⟩
theorem zFJ_r {B : Nat → Int32} {a r : Nat} {F : Nat → Nat} (h : zFJ B a r 12 0 F) : zFJ B a (r + 1) 0 0 F := by
  obtain ⟨h1, h2, h3⟩ := h
  refine ⟨h1, fun k p hk hp hz => ?_, fun k x y hk hx hy hxy hz hb => by omega⟩
  match k, hz, hk with
  | 0, hz, hk => exact h2 0 p (by omega) hp hz
  | k + 1, hz, hk =>
    rcases (zrb_s (by omega)).mp hz with hz | ⟨c, hc, hz, hb⟩
    · exact Nat.le_trans (h2 k p (by omega) hp hz) (by omega)
    · exact h3 k c p (by omega) hc hp (by omega) hz hb
theorem zFJ_end {B : Nat → Int32} (hB : zBok B) {a : Nat} (ha : a < 12) {F : Nat → Nat} (h : zFJ B a 12 0 0 F) : ∀ p, p < 12 → F p = if zds B a p < 12 then zds B a p else 100000000 := by
  intro p hp
  obtain ⟨h1, h2, _⟩ := h
  by_cases e : zds B a p < 12
  · rw [if_pos e]
    have h3 := h2 _ p (by omega) hp (zds_bit e)
    have h4 := zds_min (by omega) ((h1 p hp).2 (by omega)) (by omega)
    omega
  · rw [if_neg e]
    have := (h1 p hp).1
    by_cases h4 : F p < 100000000
    · have := zds_min (by omega) (zrb_11 hB ha (by omega) ((h1 p hp).2 h4)) (by omega)
      omega
    · omega
theorem zminI {a b : Nat} (ha : a < 2 ^ 31) (hb : b < 2 ^ 31) : (if nI a < nI b then nI a else nI b) = nI (min a b) := by
  by_cases h : a < b
  · rw [if_pos (nI_lt h hb), Nat.min_eq_left (by omega)]
  · rw [if_neg (nI_nlt (by omega) ha), Nat.min_eq_right (by omega)]
theorem l_ff1 {d a r c : Nat} {σ : zS} {R : Option Int32 → zS → Prop} {u : Int32} (hc : c < 12) (h : ∀ τ F, Fr [217] σ τ → (∀ p, p < 12 → τ 217 p = nI (F p)) → zFJ (σ 214) a r c 12 F → zk (d + 1) 231 105 [.ref 195, .int u, .int (nI r), .int (nI c), .int (nI 12)] [] τ R) : ∀ (m q : Nat) (τ : zS) (F : Nat → Nat), q + m = 12 → Fr [217] σ τ → (∀ p, p < 12 → τ 217 p = nI (F p)) → zFJ (σ 214) a r c q F → zk (d + 1) 231 51 [.ref 195, .int u, .int (nI r), .int (nI c), .int (nI q)] [] τ R := by
  intro m
  induction m with
  | zero =>
    intro q τ F hq hF hv hJ
    have e12 : q = 12 := by omega
    subst e12
    refine r_il4 zi_231_51 rfl ?_
    refine r_push zi_231_53 rfl ?_
    refine r_ic3 zi_231_55 rfl (fun _ => ?_) (fun c => absurd (by decide) c)
    exact h _ _ hF hv hJ
  | succ m ih =>
    intro q τ F hq hF hv hJ
    have e1 : τ 214 c = σ 214 c := hF 214 (by decide) c
    by_cases hs : zbt (σ 214 c) q = true
    · have hs' := of_decide_eq_true hs
      have b1 := (hJ.1 q (by omega)).1
      have b2 := (hJ.1 c hc).1
      have vq := hv q (by omega)
      have vc := hv c hc
      refine r_il4 zi_231_51 rfl ?_
      refine r_push zi_231_53 rfl ?_
      refine n_ic3 (i := q) (j := 12) zi_231_55 rfl (by omega) (by omega) (fun c => absurd c (by omega)) (fun _ => ?_)
      refine r_al0 zi_231_58 rfl ?_
      refine r_al0 zi_231_59 rfl ?_
      refine q_getR zi_231_60 rfl cf_195_38 ?_
      refine r_il3 zi_231_63 rfl ?_
      refine r_ald zi_231_64 rfl c ca_214 (by first | rfl | (simp only [zI_add, zI_mul] <;> rfl)) (by first | omega | decide) ?_
      rw [e1]
      refine r_il4 zi_231_65 rfl ?_
      refine q_cIV zi_231_67 rfl rfl rfl rfl rfl rfl rfl cf_195_0.ob (s_has (fun _ => ?_) (fun z => absurd hs' z))
      show zk _ _ 70 _ _ _ _
      refine r_if0 zi_231_70 rfl (fun c => absurd c (by decide)) (fun _ => ?_)
      refine r_al0 zi_231_73 rfl ?_
      refine q_getR zi_231_74 rfl cf_195_41 ?_
      refine r_il4 zi_231_77 rfl ?_
      refine r_al0 zi_231_79 rfl ?_
      refine r_al0 zi_231_80 rfl ?_
      refine q_getR zi_231_81 rfl cf_195_41 ?_
      refine r_il4 zi_231_84 rfl ?_
      refine r_alde zi_231_86 rfl q ca_217 (by first | rfl | (simp only [zI_add, zI_mul] <;> rfl)) (by first | omega | decide) (u := nI (F q)) (by first | exact vq | ((repeat (first | rw [zup_ne (by first | decide | omega)] | rw [zup_nj (by first | decide | omega)] | rw [fil_ne (by first | decide | omega)])) <;> exact vq) | (simp [up_rd, fil_rd]; exact vq)) ?_
      refine r_al0 zi_231_87 rfl ?_
      refine q_getR zi_231_88 rfl cf_195_41 ?_
      refine r_il3 zi_231_91 rfl ?_
      refine r_alde zi_231_92 rfl c ca_217 (by first | rfl | (simp only [zI_add, zI_mul] <;> rfl)) (by first | omega | decide) (u := nI (F c)) (by first | exact vc | ((repeat (first | rw [zup_ne (by first | decide | omega)] | rw [zup_nj (by first | decide | omega)] | rw [fil_ne (by first | decide | omega)])) <;> exact vc) | (simp [up_rd, fil_rd]; exact vc)) ?_
      refine r_push zi_231_93 rfl ?_
      refine r_b0 zi_231_94 rfl ?_
      rw [show (nI (F c) + 1 : Int32) = nI ((F c) + 1) from nI_add _ _]
      refine q_cIV zi_231_95 rfl rfl rfl rfl rfl rfl rfl cf_195_0.ob (s_lesser ?_)
      show zk _ _ 98 _ _ _ _
      rw [zminI (by omega) (by omega)]
      refine r_ast zi_231_98 rfl q ca_217 (by first | rfl | (simp only [zI_add, zI_mul] <;> rfl)) (by first | omega | decide) ?_
      refine r_in4 zi_231_99 rfl ?_
      rw [show (nI q + 1 : Int32) = nI (q + 1) from nI_add _ _]
      refine r_goto zi_231_102 rfl ?_
      refine ih (q + 1) _ (zlx F c q) (by omega) (hF.put (by decide)) (fun p hp => ?_) (zFJ_1 hc (by omega) hJ hs)
      unfold zlx
      rw [up_rd]
      by_cases e : p = q
      · rw [if_pos ⟨rfl, e⟩, if_pos e]
      · rw [if_neg (fun z => e z.2), if_neg e]; exact hv p hp
    · have hs' : ¬ σ 214 c >>> (nI q &&& 31) &&& 1 = 1 := fun z => hs (decide_eq_true z)
      refine r_il4 zi_231_51 rfl ?_
      refine r_push zi_231_53 rfl ?_
      refine n_ic3 (i := q) (j := 12) zi_231_55 rfl (by omega) (by omega) (fun c => absurd c (by omega)) (fun _ => ?_)
      refine r_al0 zi_231_58 rfl ?_
      refine r_al0 zi_231_59 rfl ?_
      refine q_getR zi_231_60 rfl cf_195_38 ?_
      refine r_il3 zi_231_63 rfl ?_
      refine r_ald zi_231_64 rfl c ca_214 (by first | rfl | (simp only [zI_add, zI_mul] <;> rfl)) (by first | omega | decide) ?_
      rw [e1]
      refine r_il4 zi_231_65 rfl ?_
      refine q_cIV zi_231_67 rfl rfl rfl rfl rfl rfl rfl cf_195_0.ob (s_has (fun z => absurd z hs') (fun _ => ?_))
      show zk _ _ 70 _ _ _ _
      refine r_if0 zi_231_70 rfl (fun _ => ?_) (fun c => absurd (by decide) c)
      refine r_in4 zi_231_99 rfl ?_
      rw [show (nI q + 1 : Int32) = nI (q + 1) from nI_add _ _]
      refine r_goto zi_231_102 rfl ?_
      exact ih (q + 1) _ F (by omega) hF hv (zFJ_0 hJ hs)
theorem l_ff2 {d a r : Nat} {σ : zS} {R : Option Int32 → zS → Prop} {u : Int32} (h : ∀ τ F u4, Fr [217] σ τ → (∀ p, p < 12 → τ 217 p = nI (F p)) → zFJ (σ 214) a r 12 0 F → zk (d + 1) 231 111 [.ref 195, .int u, .int (nI r), .int (nI 12), u4] [] τ R) : ∀ (m c : Nat) (τ : zS) (F : Nat → Nat) (u4 : Value), c + m = 12 → Fr [217] σ τ → (∀ p, p < 12 → τ 217 p = nI (F p)) → zFJ (σ 214) a r c 0 F → zk (d + 1) 231 42 [.ref 195, .int u, .int (nI r), .int (nI c), u4] [] τ R := by
  intro m
  induction m with
  | zero =>
    intro c τ F u4 hq hF hv hJ
    have e12 : c = 12 := by omega
    subst e12
    refine r_il3 zi_231_42 rfl ?_
    refine r_push zi_231_43 rfl ?_
    refine r_ic3 zi_231_45 rfl (fun _ => ?_) (fun c => absurd (by decide) c)
    exact h _ _ _ hF hv hJ
  | succ m ih =>
    intro c τ F u4 hq hF hv hJ
    have e1 : τ 214 = σ 214 := funext fun b => hF 214 (by decide) b
    refine r_il3 zi_231_42 rfl ?_
    refine r_push zi_231_43 rfl ?_
    refine n_ic3 (i := c) (j := 12) zi_231_45 rfl (by omega) (by omega) (fun c => absurd c (by omega)) (fun _ => ?_)
    refine r_push zi_231_48 rfl ?_
    refine r_is4 zi_231_49 rfl ?_
    refine l_ff1 (a := a) (σ := τ) (by omega) (fun τ2 F2 hf2 hv2 hJ2 => ?_) 12 0 τ F (by omega) Fr.rf hv (by rw [e1]; exact hJ)
    show zk _ _ 105 _ _ _ _
    refine r_in3 zi_231_105 rfl ?_
    rw [show (nI c + 1 : Int32) = nI (c + 1) from nI_add _ _]
    refine r_goto zi_231_108 rfl ?_
    exact ih (c + 1) _ F2 _ (by omega) (hF.tr hf2) hv2 (zFJ_c (by rw [← e1]; exact hJ2))
theorem l_ff3 {d a : Nat} {σ : zS} {Q : zS → Prop} {u : Int32} (hB : zBok (σ 214)) (ha : a < 12) (h : ∀ τ, Fr [217] σ τ → (∀ p, p < 12 → τ 217 p = nI (if zds (σ 214) a p < 12 then zds (σ 214) a p else 100000000)) → Q τ) : ∀ (m r : Nat) (τ : zS) (F : Nat → Nat) (u3 u4 : Value), r + m = 12 → Fr [217] σ τ → (∀ p, p < 12 → τ 217 p = nI (F p)) → zFJ (σ 214) a r 0 0 F → zk (d + 1) 231 34 [.ref 195, .int u, .int (nI r), u3, u4] [] τ (fun r t => r = none ∧ Q t) := by
  intro m
  induction m with
  | zero =>
    intro r τ F u3 u4 hq hF hv hJ
    have e12 : r = 12 := by omega
    subst e12
    refine r_il2 zi_231_34 rfl ?_
    refine r_push zi_231_35 rfl ?_
    refine r_ic3 zi_231_37 rfl (fun _ => ?_) (fun c => absurd (by decide) c)
    refine r_ret zi_231_117 rfl ?_
    exact ⟨rfl, h _ hF (fun p hp => by rw [hv p hp, zFJ_end hB ha hJ p hp])⟩
  | succ m ih =>
    intro r τ F u3 u4 hq hF hv hJ
    have e1 : τ 214 = σ 214 := funext fun b => hF 214 (by decide) b
    refine r_il2 zi_231_34 rfl ?_
    refine r_push zi_231_35 rfl ?_
    refine n_ic3 (i := r) (j := 12) zi_231_37 rfl (by omega) (by omega) (fun c => absurd c (by omega)) (fun _ => ?_)
    refine r_push zi_231_40 rfl ?_
    refine r_is3 zi_231_41 rfl ?_
    refine l_ff2 (a := a) (σ := τ) (fun τ2 F2 u42 hf2 hv2 hJ2 => ?_) 12 0 τ F _ (by omega) Fr.rf hv (by rw [e1]; exact hJ)
    show zk _ _ 111 _ _ _ _
    refine r_in2 zi_231_111 rfl ?_
    rw [show (nI r + 1 : Int32) = nI (r + 1) from nI_add _ _]
    refine r_goto zi_231_114 rfl ?_
    exact ih (r + 1) _ F2 _ _ (by omega) (hF.tr hf2) hv2 (zFJ_r (by rw [← e1]; exact hJ2))
theorem l_ff0 {d a : Nat} {σ : zS} {R : Option Int32 → zS → Prop} (ha : a < 12) (h : ∀ τ u2, Fr [217] σ τ → (∀ p, p < 12 → τ 217 p = nI (if p = a then 0 else 100000000)) → zk d 231 32 [.ref 195, .int (nI a), u2, zun, zun] [] τ R) : ∀ (m p : Nat) (τ : zS), p + m = 12 → Fr [217] σ τ → (∀ q, q < p → τ 217 q = nI (if q = a then 0 else 100000000)) → zk d 231 2 [.ref 195, .int (nI a), .int (nI p), zun, zun] [] τ R := by
  intro m
  induction m with
  | zero =>
    intro p τ hq hF hv
    have e12 : p = 12 := by omega
    subst e12
    refine r_il2 zi_231_2 rfl ?_
    refine r_push zi_231_3 rfl ?_
    refine r_ic3 zi_231_5 rfl (fun _ => ?_) (fun c => absurd (by decide) c)
    exact h _ _ hF hv
  | succ m ih =>
    intro p τ hq hF hv
    refine r_il2 zi_231_2 rfl ?_
    refine r_push zi_231_3 rfl ?_
    refine n_ic3 (i := p) (j := 12) zi_231_5 rfl (by omega) (by omega) (fun c => absurd c (by omega)) (fun _ => ?_)
    refine r_al0 zi_231_8 rfl ?_
    refine q_getR zi_231_9 rfl cf_195_41 ?_
    refine r_il2 zi_231_12 rfl ?_
    refine r_il2 zi_231_13 rfl ?_
    refine r_il1 zi_231_14 rfl ?_
    refine n_ic1 (i := p) (j := a) zi_231_15 rfl (by omega) (by omega) (fun c1 => ?_) (fun c1 => ?_)
    · refine r_push zi_231_22 rfl ?_
      refine r_ast zi_231_25 rfl p ca_217 (by first | rfl | (simp only [zI_add, zI_mul] <;> rfl)) (by first | omega | decide) ?_
      refine r_in2 zi_231_26 rfl ?_
      rw [show (nI p + 1 : Int32) = nI (p + 1) from nI_add _ _]
      refine r_goto zi_231_29 rfl ?_
      refine ih (p + 1) _ (by omega) (hF.put (by decide)) (fun q hq2 => ?_)
      rw [up_rd]
      by_cases e : q = p
      · subst e
        rw [if_pos ⟨rfl, rfl⟩]
        first | (rw [if_pos (by omega)]; rfl) | (rw [if_neg (by omega)]; rfl)
      · rw [if_neg (fun z => e z.2)]; exact hv q (by omega)
    · refine r_push zi_231_18 rfl ?_
      refine r_goto zi_231_19 rfl ?_
      refine r_ast zi_231_25 rfl p ca_217 (by first | rfl | (simp only [zI_add, zI_mul] <;> rfl)) (by first | omega | decide) ?_
      refine r_in2 zi_231_26 rfl ?_
      rw [show (nI p + 1 : Int32) = nI (p + 1) from nI_add _ _]
      refine r_goto zi_231_29 rfl ?_
      refine ih (p + 1) _ (by omega) (hF.put (by decide)) (fun q hq2 => ?_)
      rw [up_rd]
      by_cases e : q = p
      · subst e
        rw [if_pos ⟨rfl, rfl⟩]
        first | (rw [if_pos (by omega)]; rfl) | (rw [if_neg (by omega)]; rfl)
      · rw [if_neg (fun z => e z.2)]; exact hv q (by omega)
theorem s_mfar {d a : Nat} {σ : zS} {Q : zS → Prop} (hB : zBok (σ 214)) (ha : a < 12) (h : ∀ τ, Fr [217] σ τ → (∀ p, p < 12 → τ 217 p = nI (if zds (σ 214) a p < 12 then zds (σ 214) a p else 100000000)) → Q τ) : zV1 (d + 1) 231 [.ref 195, .int (nI a)] σ Q := by
  show zk _ _ 0 [.ref 195, .int (nI a), zun, zun, zun] [] _ _
  refine r_push zi_231_0 rfl ?_
  refine r_is2 zi_231_1 rfl ?_
  refine l_ff0 ha (fun τ u2 hF hv => ?_) 12 0 σ (by omega) Fr.rf (fun q hq => by omega)
  show zk _ _ 32 _ _ _ _
  refine r_push zi_231_32 rfl ?_
  refine r_is2 zi_231_33 rfl ?_
  refine l_ff3 hB ha h 12 0 τ _ _ _ (by omega) hF hv ⟨fun p hp => ?_, fun k p hk hp hz => ?_, fun k x y hk hx hy hxy hz hb => by omega⟩
  · by_cases e : p = a
    · dsimp only; rw [if_pos e]; exact ⟨by omega, fun _ => (zrb_0 (by omega) (by omega)).mpr e.symm⟩
    · dsimp only; rw [if_neg e]; exact ⟨by omega, fun z => by omega⟩
  · have : k = 0 := by omega
    subst this
    have := (zrb_0 (by omega) (by omega)).mp hz
    dsimp only; rw [if_pos this.symm]; omega
/-- the model's first place nearer is the class's -/
theorem ztP_eq {B : Nat → Int32} (hB : zBok B) {a b p : Nat} (ha : a < 12) (hb : b < 12) (hp : p < 12) (h0 : 0 < zds B a b) (h1 : zds B a b < 12) : (zbt (B a) p = true ∧ zds B b p < 12 ∧ zds B b p + 1 = zds B b a) ↔ ztP B a b p = true := by
  rw [zds_sym hB hb hp, zds_sym hB hb ha]
  unfold ztP
  constructor
  · rintro ⟨h2, _, h3⟩
    have hap : a ≠ p := by intro z; subst z; omega
    exact decide_eq_true ⟨(zds_1 ha hp hap).mpr h2, h3⟩
  · intro h9
    obtain ⟨h2, h3⟩ := of_decide_eq_true h9
    have hap : a ≠ p := by intro z; rw [(zds_0 ha hp).mpr z] at h2; omega
    exact ⟨(zds_1 ha hp hap).mp h2, by omega, h3⟩
theorem l_near {d a b : Nat} {σ : zS} {Q : Int32 → zS → Prop} {u2 : Int32} (hB : zBok (σ 214)) (ha : a < 12) (hb : b < 12) (h0 : 0 < zds (σ 214) a b) (h1 : zds (σ 214) a b < 12) (hv : ∀ p, p < 12 → σ 217 p = nI (if zds (σ 214) b p < 12 then zds (σ 214) b p else 100000000)) (hl : zdF (ztP (σ 214) a b) 12 0 < 12) (h : Q (nI (zdF (ztP (σ 214) a b) 12 0)) σ) : ∀ (m p : Nat), p + m = 12 → zdF (ztP (σ 214) a b) 12 0 = zdF (ztP (σ 214) a b) m p → zk (d + 1) 232 26 [.ref 195, .int (nI a), .int u2, .int (nI p)] [] σ (fun r t => ∃ v, r = some v ∧ Q v t) := by
  intro m
  induction m with
  | zero =>
    intro p hp he
    rw [he] at hl
    simp only [zdF] at hl
    omega
  | succ m ih =>
    intro p hp he
    have e1 : zdF (ztP (σ 214) a b) (m + 1) p = if ztP (σ 214) a b p then p else zdF (ztP (σ 214) a b) m (p + 1) := rfl
    have hP := ztP_eq hB ha hb (p := p) (by omega) h0 h1
    have va : σ 217 a = nI (zds (σ 214) b a) := by rw [hv a ha, if_pos (by rw [zds_sym hB hb ha]; exact h1)]
    have vp := hv p (by omega)
    have hba := zds_sym hB hb ha
    have hx : (if zds (σ 214) b p < 12 then zds (σ 214) b p else 100000000) + 1 = zds (σ 214) b a ↔ (zds (σ 214) b p < 12 ∧ zds (σ 214) b p + 1 = zds (σ 214) b a) := by
      by_cases z : zds (σ 214) b p < 12
      · rw [if_pos z]; exact ⟨fun w => ⟨z, w⟩, fun w => w.2⟩
      · rw [if_neg z]; exact ⟨fun w => by omega, fun w => absurd w.1 z⟩
    have hy : (if zds (σ 214) b p < 12 then zds (σ 214) b p else 100000000) ≤ 100000000 := by split <;> omega
    generalize (if zds (σ 214) b p < 12 then zds (σ 214) b p else 100000000) = fp at *
    generalize zds (σ 214) b a = fa at *
    by_cases hs : zbt (σ 214 a) p = true
    · have hs' := of_decide_eq_true hs
      by_cases hf : fp + 1 = fa
      · rw [e1, if_pos (hP.mp ⟨hs, hx.mp hf⟩)] at he
        refine r_al0 zi_232_26 rfl ?_
        refine r_al0 zi_232_27 rfl ?_
        refine q_getR zi_232_28 rfl cf_195_38 ?_
        refine r_il1 zi_232_31 rfl ?_
        refine r_ald zi_232_32 rfl a ca_214 (by first | rfl | (simp only [zI_add, zI_mul] <;> rfl)) (by first | omega | decide) ?_
        refine r_il3 zi_232_33 rfl ?_
        refine q_cIV zi_232_34 rfl rfl rfl rfl rfl rfl rfl cf_195_0.ob (s_has (fun _ => ?_) (fun z => absurd hs' z))
        show zk _ _ 37 _ _ _ _
        refine r_if0 zi_232_37 rfl (fun c => absurd c (by decide)) (fun _ => ?_)
        refine r_al0 zi_232_40 rfl ?_
        refine q_getR zi_232_41 rfl cf_195_41 ?_
        refine r_il3 zi_232_44 rfl ?_
        refine r_alde zi_232_45 rfl p ca_217 (by first | rfl | (simp only [zI_add, zI_mul] <;> rfl)) (by first | omega | decide) (u := nI fp) (by first | exact vp | ((repeat (first | rw [zup_ne (by first | decide | omega)] | rw [zup_nj (by first | decide | omega)] | rw [fil_ne (by first | decide | omega)])) <;> exact vp) | (simp [up_rd, fil_rd]; exact vp)) ?_
        refine r_push zi_232_46 rfl ?_
        refine r_b0 zi_232_47 rfl ?_
        rw [show (nI fp + 1 : Int32) = nI (fp + 1) from nI_add _ _]
        refine r_al0 zi_232_48 rfl ?_
        refine q_getR zi_232_49 rfl cf_195_41 ?_
        refine r_il1 zi_232_52 rfl ?_
        refine r_alde zi_232_53 rfl a ca_217 (by first | rfl | (simp only [zI_add, zI_mul] <;> rfl)) (by first | omega | decide) (u := nI fa) (by first | exact va | ((repeat (first | rw [zup_ne (by first | decide | omega)] | rw [zup_nj (by first | decide | omega)] | rw [fil_ne (by first | decide | omega)])) <;> exact va) | (simp [up_rd, fil_rd]; exact va)) ?_
        refine n_ic0 (i := (fp + 1)) (j := fa) zi_232_54 rfl (by omega) (by omega) (fun _ => ?_) (fun c => absurd c (by omega))
        refine r_il3 zi_232_64 rfl ?_
        refine r_retI zi_232_65 rfl ?_
        exact ⟨_, rfl, by rw [← he]; exact h⟩
      · rw [e1, if_neg (fun z => hf (hx.mpr (hP.mpr z).2))] at he
        refine r_al0 zi_232_26 rfl ?_
        refine r_al0 zi_232_27 rfl ?_
        refine q_getR zi_232_28 rfl cf_195_38 ?_
        refine r_il1 zi_232_31 rfl ?_
        refine r_ald zi_232_32 rfl a ca_214 (by first | rfl | (simp only [zI_add, zI_mul] <;> rfl)) (by first | omega | decide) ?_
        refine r_il3 zi_232_33 rfl ?_
        refine q_cIV zi_232_34 rfl rfl rfl rfl rfl rfl rfl cf_195_0.ob (s_has (fun _ => ?_) (fun z => absurd hs' z))
        show zk _ _ 37 _ _ _ _
        refine r_if0 zi_232_37 rfl (fun c => absurd c (by decide)) (fun _ => ?_)
        refine r_al0 zi_232_40 rfl ?_
        refine q_getR zi_232_41 rfl cf_195_41 ?_
        refine r_il3 zi_232_44 rfl ?_
        refine r_alde zi_232_45 rfl p ca_217 (by first | rfl | (simp only [zI_add, zI_mul] <;> rfl)) (by first | omega | decide) (u := nI fp) (by first | exact vp | ((repeat (first | rw [zup_ne (by first | decide | omega)] | rw [zup_nj (by first | decide | omega)] | rw [fil_ne (by first | decide | omega)])) <;> exact vp) | (simp [up_rd, fil_rd]; exact vp)) ?_
        refine r_push zi_232_46 rfl ?_
        refine r_b0 zi_232_47 rfl ?_
        rw [show (nI fp + 1 : Int32) = nI (fp + 1) from nI_add _ _]
        refine r_al0 zi_232_48 rfl ?_
        refine q_getR zi_232_49 rfl cf_195_41 ?_
        refine r_il1 zi_232_52 rfl ?_
        refine r_alde zi_232_53 rfl a ca_217 (by first | rfl | (simp only [zI_add, zI_mul] <;> rfl)) (by first | omega | decide) (u := nI fa) (by first | exact va | ((repeat (first | rw [zup_ne (by first | decide | omega)] | rw [zup_nj (by first | decide | omega)] | rw [fil_ne (by first | decide | omega)])) <;> exact va) | (simp [up_rd, fil_rd]; exact va)) ?_
        refine n_ic0 (i := (fp + 1)) (j := fa) zi_232_54 rfl (by omega) (by omega) (fun c => absurd c (by omega)) (fun _ => ?_)
        refine r_il3 zi_232_57 rfl ?_
        refine r_push zi_232_58 rfl ?_
        refine r_b0 zi_232_59 rfl ?_
        rw [show (nI p + 1 : Int32) = nI (p + 1) from nI_add _ _]
        refine r_is3 zi_232_60 rfl ?_
        refine r_goto zi_232_61 rfl ?_
        exact ih (p + 1) (by omega) he
    · have hs' : ¬ σ 214 a >>> (nI p &&& 31) &&& 1 = 1 := fun z => hs (decide_eq_true z)
      rw [e1, if_neg (fun z => hs (hP.mpr z).1)] at he
      refine r_al0 zi_232_26 rfl ?_
      refine r_al0 zi_232_27 rfl ?_
      refine q_getR zi_232_28 rfl cf_195_38 ?_
      refine r_il1 zi_232_31 rfl ?_
      refine r_ald zi_232_32 rfl a ca_214 (by first | rfl | (simp only [zI_add, zI_mul] <;> rfl)) (by first | omega | decide) ?_
      refine r_il3 zi_232_33 rfl ?_
      refine q_cIV zi_232_34 rfl rfl rfl rfl rfl rfl rfl cf_195_0.ob (s_has (fun z => absurd z hs') (fun _ => ?_))
      show zk _ _ 37 _ _ _ _
      refine r_if0 zi_232_37 rfl (fun _ => ?_) (fun c => absurd (by decide) c)
      refine r_il3 zi_232_57 rfl ?_
      refine r_push zi_232_58 rfl ?_
      refine r_b0 zi_232_59 rfl ?_
      rw [show (nI p + 1 : Int32) = nI (p + 1) from nI_add _ _]
      refine r_is3 zi_232_60 rfl ?_
      refine r_goto zi_232_61 rfl ?_
      exact ih (p + 1) (by omega) he
theorem s_near {d a b : Nat} {σ : zS} {Q : Int32 → zS → Prop} (hB : zBok (σ 214)) (ha : a < 12) (hb : b < 12) (h : ∀ τ, Fr [217] σ τ → Q (nI (ztw (σ 214) a b)) τ) : zI1 (d + 2) 232 [.ref 195, .int (nI a), .int (nI b)] σ Q := by
  have ht := ztw_lt hB ha hb
  unfold ztw at h ht
  have hba := zds_sym hB hb ha
  show zk _ _ 0 [.ref 195, .int (nI a), .int (nI b), zun] [] _ _
  by_cases hz : 0 < zds (σ 214) a b ∧ zds (σ 214) a b < 12
  · rw [if_pos hz] at ht
    have hab : ¬ a = b := fun z => by have := (zds_0 (B := σ 214) ha hb).mpr z; omega
    refine r_al0 zi_232_0 rfl ?_
    refine r_il2 zi_232_1 rfl ?_
    refine q_cVV zi_232_2 rfl rfl rfl rfl rfl rfl rfl cf_195_0.ob (s_mfar hB hb (fun τ hτ hv => ?_))
    show zk _ _ 5 _ _ _ _
    refine r_il1 zi_232_5 rfl ?_
    refine r_il2 zi_232_6 rfl ?_
    refine n_ic0 (i := a) (j := b) zi_232_7 rfl (by omega) (by omega) (fun c => absurd c (by omega)) (fun _ => ?_)
    refine r_al0 zi_232_10 rfl ?_
    refine q_getR zi_232_11 rfl cf_195_41 ?_
    refine r_il1 zi_232_14 rfl ?_
    refine r_alde zi_232_15 rfl a ca_217 (by first | rfl | (simp only [zI_add, zI_mul] <;> rfl)) (by first | omega | decide) (u := nI (zds (σ 214) b a)) (by rw [hv a ha, if_pos (by omega)]) ?_
    refine r_push zi_232_16 rfl ?_
    refine n_ic2 (i := (zds (σ 214) b a)) (j := 100000000) zi_232_19 rfl (by omega) (by omega) (fun _ => ?_) (fun c => absurd c (by omega))
    refine r_push zi_232_24 rfl ?_
    refine r_is3 zi_232_25 rfl ?_
    have e1 : τ 214 = σ 214 := funext fun b => hτ 214 (by decide) b
    rw [← e1] at hv hz ht hB
    refine l_near hB ha hb hz.1 hz.2 hv ht ?_ 12 0 (by omega) rfl
    have h2 := h τ hτ
    rw [← e1, if_pos hz] at h2
    exact h2
  · by_cases hab : a = b
    · refine r_al0 zi_232_0 rfl ?_
      refine r_il2 zi_232_1 rfl ?_
      refine q_cVV zi_232_2 rfl rfl rfl rfl rfl rfl rfl cf_195_0.ob (s_mfar hB hb (fun τ hτ hv => ?_))
      show zk _ _ 5 _ _ _ _
      refine r_il1 zi_232_5 rfl ?_
      refine r_il2 zi_232_6 rfl ?_
      refine n_ic0 (i := a) (j := b) zi_232_7 rfl (by omega) (by omega) (fun _ => ?_) (fun c => absurd c (by omega))
      refine r_il1 zi_232_22 rfl ?_
      refine r_retI zi_232_23 rfl ?_
      exact ⟨_, rfl, by have h2 := h τ hτ; rw [if_neg hz] at h2; exact h2⟩
    · have h12 : ¬ zds (σ 214) b a < 12 := by
        have : ¬ zds (σ 214) a b = 0 := fun z => hab ((zds_0 (B := σ 214) ha hb).mp z)
        omega
      refine r_al0 zi_232_0 rfl ?_
      refine r_il2 zi_232_1 rfl ?_
      refine q_cVV zi_232_2 rfl rfl rfl rfl rfl rfl rfl cf_195_0.ob (s_mfar hB hb (fun τ hτ hv => ?_))
      show zk _ _ 5 _ _ _ _
      refine r_il1 zi_232_5 rfl ?_
      refine r_il2 zi_232_6 rfl ?_
      refine n_ic0 (i := a) (j := b) zi_232_7 rfl (by omega) (by omega) (fun c => absurd c (by omega)) (fun _ => ?_)
      refine r_al0 zi_232_10 rfl ?_
      refine q_getR zi_232_11 rfl cf_195_41 ?_
      refine r_il1 zi_232_14 rfl ?_
      refine r_alde zi_232_15 rfl a ca_217 (by first | rfl | (simp only [zI_add, zI_mul] <;> rfl)) (by first | omega | decide) (u := nI 100000000) (by rw [hv a ha, if_neg h12]) ?_
      refine r_push zi_232_16 rfl ?_
      refine n_ic2 (i := 100000000) (j := 100000000) zi_232_19 rfl (by omega) (by omega) (fun c => absurd c (by omega)) (fun _ => ?_)
      refine r_il1 zi_232_22 rfl ?_
      refine r_retI zi_232_23 rfl ?_
      exact ⟨_, rfl, by have h2 := h τ hτ; rw [if_neg hz] at h2; exact h2⟩

