/-! MODEL: reads -/
def tkv (t : Nat → Nat) (s : Nat) : Nat → Nat
  | 0 => 0
  | n + 1 => if tkv t s n < 10000 then 10 * tkv t s n + (t (s + n) - 48) else tkv t s n
theorem tkv_b {t : Nat → Nat} {s : Nat} : ∀ n, (∀ i, i < n → t (s + i) ≤ 255) → tkv t s n < 1000000
  | 0, _ => by unfold tkv; omega
  | n + 1, h => by
    have ih := tkv_b (t := t) (s := s) n (fun i hi => h i (by omega))
    have h9 := h n (Nat.lt_succ_self n)
    unfold tkv
    split
    · omega
    · exact ih
theorem tkv_n {t : Nat → Nat} {s : Nat} : ∀ n, n ≤ 4 → (∀ i, i < n → tkD (t (s + i)) = true) → tkv t s n = tkn t s n
  | 0, _, _ => rfl
  | n + 1, h4, h => by
    have ih := tkv_n (t := t) (s := s) n (by omega) (fun i hi => h i (by omega))
    have hb := tkn_b (t := t) (s := s) n (fun i hi => h i (by omega))
    have hb2 : tkn t s n < 10000 := Nat.lt_of_lt_of_le hb (show 10 ^ n ≤ 10 ^ 4 from Nat.pow_le_pow_right (by decide) (by omega))
    show (if tkv t s n < 10000 then _ else _) = 10 * tkn t s n + (t (s + n) - 48)
    rw [ih, if_pos hb2]
theorem l_rskip {d b p0 : Nat} {σ : zS} {Q : Option Int32 → zS → Prop} {t : Nat → Nat} (hc : mTc σ t b) (hq : ∀ υ u, Fg mR σ υ → υ 195 12 = nI (tkr tkB t b p0) → zk (d + 2) 193 39 [.ref 195, u] [] υ Q) : ∀ (m p : Nat) (τ : zS) (u : Value), p + m = b → tkr tkB t b p = tkr tkB t b p0 → Fg mR σ τ → τ 195 12 = nI p → zk (d + 2) 193 0 [.ref 195, u] [] τ Q := by
  intro m
  induction m with
  | zero =>
    intro p τ u hp he hF h12
    have e : p = b := by omega
    subst e
    have hc2 := mTc_f hc (hF 195 11 (by unfold mR; omega)) (fun i => hF 202 i (by unfold mR; omega)) (fun i => hF 203 i (by unfold mR; omega))
    have hb := hc.2.1
    rw [tkr_f (fun z => by omega)] at he
    have h := hq τ u hF (by rw [← he]; exact h12)
    have hr : ∀ (Q2 : Int32 → zS → Prop), Q2 (-1) τ → zI1 (d + 1) 188 [.ref 195, .int (nI p)] τ Q2 := fun Q2 h2 => s_raw hc2 (by omega) (fun z => by omega) (fun _ => h2)
    refine r_al0 zi_193_0 rfl ?_
    refine r_al0 zi_193_1 rfl ?_
    refine q_getIe zi_193_2 rfl cf_195_12 (v := nI p) (by first | exact h12 | ((repeat (first | rw [zup_ne (by first | decide | omega)] | rw [zup_nj (by first | decide | omega)] | rw [fil_ne (by first | decide | omega)])) <;> exact h12) | (simp [up_rd, fil_rd]; exact h12)) ?_
    refine q_cIV zi_193_5 rfl rfl rfl rfl rfl rfl rfl cf_195_0.ob (hr _ ?_)
    show zk _ _ 8 _ _ _ _
    refine r_push zi_193_8 rfl ?_
    refine r_ic0 zi_193_10 rfl (fun c => absurd c (by decide)) (fun _ => ?_)
    refine r_al0 zi_193_13 rfl ?_
    refine r_al0 zi_193_14 rfl ?_
    refine q_getIe zi_193_15 rfl cf_195_12 (v := nI p) (by first | exact h12 | ((repeat (first | rw [zup_ne (by first | decide | omega)] | rw [zup_nj (by first | decide | omega)] | rw [fil_ne (by first | decide | omega)])) <;> exact h12) | (simp [up_rd, fil_rd]; exact h12)) ?_
    refine q_cIV zi_193_18 rfl rfl rfl rfl rfl rfl rfl cf_195_0.ob (hr _ ?_)
    show zk _ _ 21 _ _ _ _
    refine r_push zi_193_21 rfl ?_
    refine r_ic1 zi_193_23 rfl (fun _ => ?_) (fun c => absurd c (by decide))
    exact h
  | succ m ih =>
    intro p τ u hp he hF h12
    have hc2 := mTc_f hc (hF 195 11 (by unfold mR; omega)) (fun i => hF 202 i (by unfold mR; omega)) (fun i => hF 203 i (by unfold mR; omega))
    have hb := hc.2.1
    have hpb : p < b := by omega
    have ht2 := (hc.2.2.1 p (by omega)).2
    have hr : ∀ (Q2 : Int32 → zS → Prop), Q2 (nI (t p)) τ → zI1 (d + 1) 188 [.ref 195, .int (nI p)] τ Q2 := fun Q2 h2 => s_raw hc2 (by omega) (fun _ => h2) (fun z => absurd hpb z)
    by_cases c : tkB (t p) = true
    · rw [tkr_t hpb c] at he
      have ih := fun u => ih (p + 1) (up τ 195 12 (nI (p + 1))) u (by omega) he (hF.put (by unfold mR; omega)) zup_eq
      simp only [tkB, decide_eq_true_eq] at c
      generalize t p = v at *
      refine r_al0 zi_193_0 rfl ?_
      refine r_al0 zi_193_1 rfl ?_
      refine q_getIe zi_193_2 rfl cf_195_12 (v := nI p) (by first | exact h12 | ((repeat (first | rw [zup_ne (by first | decide | omega)] | rw [zup_nj (by first | decide | omega)] | rw [fil_ne (by first | decide | omega)])) <;> exact h12) | (simp [up_rd, fil_rd]; exact h12)) ?_
      refine q_cIV zi_193_5 rfl rfl rfl rfl rfl rfl rfl cf_195_0.ob (hr _ ?_)
      show zk _ _ 8 _ _ _ _
      refine r_push zi_193_8 rfl ?_
      refine n_ic0 (i := v) (j := 32) zi_193_10 rfl (by omega) (by omega) (fun c2 => ?_) (fun c2 => ?_)
      · refine r_al0 zi_193_26 rfl ?_
        refine r_al0 zi_193_27 rfl ?_
        refine q_getIe zi_193_28 rfl cf_195_12 (v := nI p) (by first | exact h12 | ((repeat (first | rw [zup_ne (by first | decide | omega)] | rw [zup_nj (by first | decide | omega)] | rw [fil_ne (by first | decide | omega)])) <;> exact h12) | (simp [up_rd, fil_rd]; exact h12)) ?_
        refine r_push zi_193_31 rfl ?_
        refine r_b0 zi_193_32 rfl ?_
        rw [show (nI p + 1 : Int32) = nI (p + 1) from nI_add _ _]
        refine q_put zi_193_33 rfl cf_195_12 rfl ?_
        refine r_goto zi_193_36 rfl ?_
        exact ih _
      · refine r_al0 zi_193_13 rfl ?_
        refine r_al0 zi_193_14 rfl ?_
        refine q_getIe zi_193_15 rfl cf_195_12 (v := nI p) (by first | exact h12 | ((repeat (first | rw [zup_ne (by first | decide | omega)] | rw [zup_nj (by first | decide | omega)] | rw [fil_ne (by first | decide | omega)])) <;> exact h12) | (simp [up_rd, fil_rd]; exact h12)) ?_
        refine q_cIV zi_193_18 rfl rfl rfl rfl rfl rfl rfl cf_195_0.ob (hr _ ?_)
        show zk _ _ 21 _ _ _ _
        refine r_push zi_193_21 rfl ?_
        refine n_ic1 (i := v) (j := 10) zi_193_23 rfl (by omega) (by omega) (fun c4 => ?_) (fun c4 => ?_)
        · exfalso; omega
        · refine r_al0 zi_193_26 rfl ?_
          refine r_al0 zi_193_27 rfl ?_
          refine q_getIe zi_193_28 rfl cf_195_12 (v := nI p) (by first | exact h12 | ((repeat (first | rw [zup_ne (by first | decide | omega)] | rw [zup_nj (by first | decide | omega)] | rw [fil_ne (by first | decide | omega)])) <;> exact h12) | (simp [up_rd, fil_rd]; exact h12)) ?_
          refine r_push zi_193_31 rfl ?_
          refine r_b0 zi_193_32 rfl ?_
          rw [show (nI p + 1 : Int32) = nI (p + 1) from nI_add _ _]
          refine q_put zi_193_33 rfl cf_195_12 rfl ?_
          refine r_goto zi_193_36 rfl ?_
          exact ih _
    · rw [tkr_f (fun z => c z.2)] at he
      have h := hq τ u hF (by rw [← he]; exact h12)
      simp only [tkB, decide_eq_true_eq] at c
      generalize t p = v at *
      refine r_al0 zi_193_0 rfl ?_
      refine r_al0 zi_193_1 rfl ?_
      refine q_getIe zi_193_2 rfl cf_195_12 (v := nI p) (by first | exact h12 | ((repeat (first | rw [zup_ne (by first | decide | omega)] | rw [zup_nj (by first | decide | omega)] | rw [fil_ne (by first | decide | omega)])) <;> exact h12) | (simp [up_rd, fil_rd]; exact h12)) ?_
      refine q_cIV zi_193_5 rfl rfl rfl rfl rfl rfl rfl cf_195_0.ob (hr _ ?_)
      show zk _ _ 8 _ _ _ _
      refine r_push zi_193_8 rfl ?_
      refine n_ic0 (i := v) (j := 32) zi_193_10 rfl (by omega) (by omega) (fun c => absurd c (by omega)) (fun _ => ?_)
      refine r_al0 zi_193_13 rfl ?_
      refine r_al0 zi_193_14 rfl ?_
      refine q_getIe zi_193_15 rfl cf_195_12 (v := nI p) (by first | exact h12 | ((repeat (first | rw [zup_ne (by first | decide | omega)] | rw [zup_nj (by first | decide | omega)] | rw [fil_ne (by first | decide | omega)])) <;> exact h12) | (simp [up_rd, fil_rd]; exact h12)) ?_
      refine q_cIV zi_193_18 rfl rfl rfl rfl rfl rfl rfl cf_195_0.ob (hr _ ?_)
      show zk _ _ 21 _ _ _ _
      refine r_push zi_193_21 rfl ?_
      refine n_ic1 (i := v) (j := 10) zi_193_23 rfl (by omega) (by omega) (fun _ => ?_) (fun c => absurd c (by omega))
      exact h
theorem l_rlet {d b p0 : Nat} {σ : zS} {Q : Option Int32 → zS → Prop} {t : Nat → Nat} {u : Value} (hc : mTc σ t b) (hq : ∀ υ, Fg (fun a b => a = 195 ∧ b = 12) σ υ → υ 195 12 = nI (tkr tkL t b p0) → zk (d + 2) 193 123 [.ref 195, u] [] υ Q) : ∀ (m p : Nat) (τ : zS), p + m = b → tkr tkL t b p = tkr tkL t b p0 → Fg (fun a b => a = 195 ∧ b = 12) σ τ → τ 195 12 = nI p → zk (d + 2) 193 95 [.ref 195, u] [] τ Q := by
  have hmR : ∀ τ, Fg (fun a b => a = 195 ∧ b = 12) σ τ → mTc τ t b := fun τ hF => mTc_f hc (hF 195 11 (by omega)) (fun i => hF 202 i (by omega)) (fun i => hF 203 i (by omega))
  intro m
  induction m with
  | zero =>
    intro p τ hp he hF h12
    have e : p = b := by omega
    subst e
    have hc2 := hmR τ hF
    have hb := hc.2.1
    rw [tkr_f (fun z => by omega)] at he
    have h := hq τ hF (by rw [← he]; exact h12)
    have hr : ∀ (Q2 : Int32 → zS → Prop), Q2 (-1) τ → zI1 (d + 1) 188 [.ref 195, .int (nI p)] τ Q2 := fun Q2 h2 => s_raw hc2 (by omega) (fun z => by omega) (fun _ => h2)
    refine r_al0 zi_193_95 rfl ?_
    refine r_al0 zi_193_96 rfl ?_
    refine r_al0 zi_193_97 rfl ?_
    refine q_getIe zi_193_98 rfl cf_195_12 (v := nI p) (by first | exact h12 | ((repeat (first | rw [zup_ne (by first | decide | omega)] | rw [zup_nj (by first | decide | omega)] | rw [fil_ne (by first | decide | omega)])) <;> exact h12) | (simp [up_rd, fil_rd]; exact h12)) ?_
    refine q_cIV zi_193_101 rfl rfl rfl rfl rfl rfl rfl cf_195_0.ob (hr _ ?_)
    show zk _ _ 104 _ _ _ _
    refine q_cIV zi_193_104 rfl rfl rfl rfl rfl rfl rfl cf_195_0.ob (s_misN ?_)
    show zk _ _ 107 _ _ _ _
    refine r_if0 zi_193_107 rfl (fun _ => ?_) (fun c => absurd (by decide) c)
    exact h
  | succ m ih =>
    intro p τ hp he hF h12
    have hc2 := hmR τ hF
    have hb := hc.2.1
    have hpb : p < b := by omega
    have ht2 := (hc.2.2.1 p (by omega)).2
    have hr : ∀ (Q2 : Int32 → zS → Prop), Q2 (nI (t p)) τ → zI1 (d + 1) 188 [.ref 195, .int (nI p)] τ Q2 := fun Q2 h2 => s_raw hc2 (by omega) (fun _ => h2) (fun z => absurd hpb z)
    by_cases c : tkL (t p) = true
    · rw [tkr_t hpb c] at he
      have ih := ih (p + 1) (up τ 195 12 (nI (p + 1))) (by omega) he (hF.put (by omega)) zup_eq
      generalize t p = v at *
      refine r_al0 zi_193_95 rfl ?_
      refine r_al0 zi_193_96 rfl ?_
      refine r_al0 zi_193_97 rfl ?_
      refine q_getIe zi_193_98 rfl cf_195_12 (v := nI p) (by first | exact h12 | ((repeat (first | rw [zup_ne (by first | decide | omega)] | rw [zup_nj (by first | decide | omega)] | rw [fil_ne (by first | decide | omega)])) <;> exact h12) | (simp [up_rd, fil_rd]; exact h12)) ?_
      refine q_cIV zi_193_101 rfl rfl rfl rfl rfl rfl rfl cf_195_0.ob (hr _ ?_)
      show zk _ _ 104 _ _ _ _
      refine q_cIV zi_193_104 rfl rfl rfl rfl rfl rfl rfl cf_195_0.ob (s_misL ht2 (fun _ => ?_) (fun z => absurd c z))
      show zk _ _ 107 _ _ _ _
      refine r_if0 zi_193_107 rfl (fun c => absurd c (by decide)) (fun _ => ?_)
      refine r_al0 zi_193_110 rfl ?_
      refine r_al0 zi_193_111 rfl ?_
      refine q_getIe zi_193_112 rfl cf_195_12 (v := nI p) (by first | exact h12 | ((repeat (first | rw [zup_ne (by first | decide | omega)] | rw [zup_nj (by first | decide | omega)] | rw [fil_ne (by first | decide | omega)])) <;> exact h12) | (simp [up_rd, fil_rd]; exact h12)) ?_
      refine r_push zi_193_115 rfl ?_
      refine r_b0 zi_193_116 rfl ?_
      rw [show (nI p + 1 : Int32) = nI (p + 1) from nI_add _ _]
      refine q_put zi_193_117 rfl cf_195_12 rfl ?_
      refine r_goto zi_193_120 rfl ?_
      exact ih
    · rw [tkr_f (fun z => c z.2)] at he
      have h := hq τ hF (by rw [← he]; exact h12)
      generalize t p = v at *
      refine r_al0 zi_193_95 rfl ?_
      refine r_al0 zi_193_96 rfl ?_
      refine r_al0 zi_193_97 rfl ?_
      refine q_getIe zi_193_98 rfl cf_195_12 (v := nI p) (by first | exact h12 | ((repeat (first | rw [zup_ne (by first | decide | omega)] | rw [zup_nj (by first | decide | omega)] | rw [fil_ne (by first | decide | omega)])) <;> exact h12) | (simp [up_rd, fil_rd]; exact h12)) ?_
      refine q_cIV zi_193_101 rfl rfl rfl rfl rfl rfl rfl cf_195_0.ob (hr _ ?_)
      show zk _ _ 104 _ _ _ _
      refine q_cIV zi_193_104 rfl rfl rfl rfl rfl rfl rfl cf_195_0.ob (s_misL ht2 (fun z => absurd z c) (fun _ => ?_))
      show zk _ _ 107 _ _ _ _
      refine r_if0 zi_193_107 rfl (fun _ => ?_) (fun c => absurd (by decide) c)
      exact h
theorem l_rdig {d b s : Nat} {σ : zS} {Q : Option Int32 → zS → Prop} {t : Nat → Nat} {u : Value} (hc : mTc σ t b) (hq : ∀ υ, Fg (fun a b => a = 195 ∧ (b = 12 ∨ b = 15)) σ υ → υ 195 12 = nI (tkr tkD t b (s + 1)) → υ 195 15 = nI (tkv t s (tkr tkD t b (s + 1) - s)) → zk (d + 2) 193 239 [.ref 195, u] [] υ Q) : ∀ (m p : Nat) (τ : zS), p + m = b → s < p → tkr tkD t b p = tkr tkD t b (s + 1) → Fg (fun a b => a = 195 ∧ (b = 12 ∨ b = 15)) σ τ → τ 195 12 = nI p → τ 195 15 = nI (tkv t s (p - s)) → zk (d + 2) 193 171 [.ref 195, u] [] τ Q := by
  have hmR : ∀ τ, Fg (fun a b => a = 195 ∧ (b = 12 ∨ b = 15)) σ τ → mTc τ t b := fun τ hF => mTc_f hc (hF 195 11 (by omega)) (fun i => hF 202 i (by omega)) (fun i => hF 203 i (by omega))
  intro m
  induction m with
  | zero =>
    intro p τ hp hs he hF h12 h15
    have e : p = b := by omega
    subst e
    have hc2 := hmR τ hF
    have hb := hc.2.1
    rw [tkr_f (fun z => by omega)] at he
    have h := hq τ hF (by rw [← he]; exact h12) (by rw [← he]; exact h15)
    have hr : ∀ (Q2 : Int32 → zS → Prop), Q2 (-1) τ → zI1 (d + 1) 188 [.ref 195, .int (nI p)] τ Q2 := fun Q2 h2 => s_raw hc2 (by omega) (fun z => by omega) (fun _ => h2)
    refine r_al0 zi_193_171 rfl ?_
    refine r_al0 zi_193_172 rfl ?_
    refine r_al0 zi_193_173 rfl ?_
    refine q_getIe zi_193_174 rfl cf_195_12 (v := nI p) (by first | exact h12 | ((repeat (first | rw [zup_ne (by first | decide | omega)] | rw [zup_nj (by first | decide | omega)] | rw [fil_ne (by first | decide | omega)])) <;> exact h12) | (simp [up_rd, fil_rd]; exact h12)) ?_
    refine q_cIV zi_193_177 rfl rfl rfl rfl rfl rfl rfl cf_195_0.ob (hr _ ?_)
    show zk _ _ 180 _ _ _ _
    refine q_cIV zi_193_180 rfl rfl rfl rfl rfl rfl rfl cf_195_0.ob (s_misM ?_)
    show zk _ _ 183 _ _ _ _
    refine r_if0 zi_193_183 rfl (fun _ => ?_) (fun c => absurd (by decide) c)
    exact h
  | succ m ih =>
    intro p τ hp hs he hF h12 h15
    have hc2 := hmR τ hF
    have hb := hc.2.1
    have hpb : p < b := by omega
    have ht2 := (hc.2.2.1 p (by omega)).2
    have hr : ∀ (Q2 : Int32 → zS → Prop), Q2 (nI (t p)) τ → zI1 (d + 1) 188 [.ref 195, .int (nI p)] τ Q2 := fun Q2 h2 => s_raw hc2 (by omega) (fun _ => h2) (fun z => absurd hpb z)
    by_cases c : tkD (t p) = true
    · rw [tkr_t hpb c] at he
      have e1 : tkv t s (p + 1 - s) = if tkv t s (p - s) < 10000 then 10 * tkv t s (p - s) + (t p - 48) else tkv t s (p - s) := by
        rw [show p + 1 - s = (p - s) + 1 by omega]
        show (if tkv t s (p - s) < 10000 then 10 * tkv t s (p - s) + (t (s + (p - s)) - 48) else _) = _
        rw [show s + (p - s) = p by omega]
      have hvb := tkv_b (t := t) (s := s) (p - s) (fun i hi => (hc.2.2.1 (s + i) (by omega)).2)
      have ih := fun v hv => ih (p + 1) (up (up τ 195 15 v) 195 12 (nI (p + 1))) (by omega) (by omega) he ((hF.put (by omega)).put (by omega)) zup_eq ((zup_nj (by decide)).trans (zup_eq.trans hv))
      rw [e1] at ih
      have hD : 48 ≤ t p ∧ t p ≤ 57 := by simpa [tkD] using c
      have h12' : ∀ v : Int32, up τ 195 15 v 195 12 = nI p := fun v => (zup_nj (by decide)).trans h12
      generalize t p = v at *
      generalize tkv t s (p - s) = x at *
      by_cases c2 : x < 10000
      · rw [if_pos c2] at ih
        have ih := ih (nI (10 * x + v - 48)) (by rw [show 10 * x + v - 48 = 10 * x + (v - 48) by omega])
        refine r_al0 zi_193_171 rfl ?_
        refine r_al0 zi_193_172 rfl ?_
        refine r_al0 zi_193_173 rfl ?_
        refine q_getIe zi_193_174 rfl cf_195_12 (v := nI p) (by first | exact h12 | ((repeat (first | rw [zup_ne (by first | decide | omega)] | rw [zup_nj (by first | decide | omega)] | rw [fil_ne (by first | decide | omega)])) <;> exact h12) | (simp [up_rd, fil_rd]; exact h12)) ?_
        refine q_cIV zi_193_177 rfl rfl rfl rfl rfl rfl rfl cf_195_0.ob (hr _ ?_)
        show zk _ _ 180 _ _ _ _
        refine q_cIV zi_193_180 rfl rfl rfl rfl rfl rfl rfl cf_195_0.ob (s_misD ht2 (fun _ => ?_) (fun z => absurd c z))
        show zk _ _ 183 _ _ _ _
        refine r_if0 zi_193_183 rfl (fun c => absurd c (by decide)) (fun _ => ?_)
        refine r_al0 zi_193_186 rfl ?_
        refine r_al0 zi_193_187 rfl ?_
        refine q_getIe zi_193_188 rfl cf_195_15 (v := nI x) (by first | exact h15 | ((repeat (first | rw [zup_ne (by first | decide | omega)] | rw [zup_nj (by first | decide | omega)] | rw [fil_ne (by first | decide | omega)])) <;> exact h15) | (simp [up_rd, fil_rd]; exact h15)) ?_
        refine r_push zi_193_191 rfl ?_
        refine n_ic3 (i := x) (j := 10000) zi_193_194 rfl (by omega) (by omega) (fun c => absurd c (by omega)) (fun _ => ?_)
        refine r_push zi_193_197 rfl ?_
        refine r_al0 zi_193_199 rfl ?_
        refine q_getIe zi_193_200 rfl cf_195_15 (v := nI x) (by first | exact h15 | ((repeat (first | rw [zup_ne (by first | decide | omega)] | rw [zup_nj (by first | decide | omega)] | rw [fil_ne (by first | decide | omega)])) <;> exact h15) | (simp [up_rd, fil_rd]; exact h15)) ?_
        refine r_b2 zi_193_203 rfl ?_
        rw [show (10 * nI x : Int32) = nI (10 * x) from pk_mul _ _]
        refine r_al0 zi_193_204 rfl ?_
        refine r_al0 zi_193_205 rfl ?_
        refine q_getIe zi_193_206 rfl cf_195_12 (v := nI p) (by first | exact h12 | ((repeat (first | rw [zup_ne (by first | decide | omega)] | rw [zup_nj (by first | decide | omega)] | rw [fil_ne (by first | decide | omega)])) <;> exact h12) | (simp [up_rd, fil_rd]; exact h12)) ?_
        refine q_cIV zi_193_209 rfl rfl rfl rfl rfl rfl rfl cf_195_0.ob (hr _ ?_)
        show zk _ _ 212 _ _ _ _
        refine r_b0 zi_193_212 rfl ?_
        rw [show (nI (10 * x) + nI v : Int32) = nI ((10 * x) + v) from nI_add _ _]
        refine r_push zi_193_213 rfl ?_
        refine r_b1 zi_193_215 rfl ?_
        rw [show (nI ((10 * x) + v) - 48 : Int32) = nI (((10 * x) + v) - 48) from pk_sub (a := ((10 * x) + v)) (b := 48) (by omega)]
        refine r_goto zi_193_216 rfl ?_
        refine q_put zi_193_223 rfl cf_195_15 rfl ?_
        refine r_al0 zi_193_226 rfl ?_
        refine r_al0 zi_193_227 rfl ?_
        refine q_getIe zi_193_228 rfl cf_195_12 (v := nI p) (by first | exact h12' _ | ((repeat (first | rw [zup_ne (by first | decide | omega)] | rw [zup_nj (by first | decide | omega)] | rw [fil_ne (by first | decide | omega)])) <;> exact h12' _) | (simp [up_rd, fil_rd]; exact h12' _)) ?_
        refine r_push zi_193_231 rfl ?_
        refine r_b0 zi_193_232 rfl ?_
        rw [show (nI p + 1 : Int32) = nI (p + 1) from nI_add _ _]
        refine q_put zi_193_233 rfl cf_195_12 rfl ?_
        refine r_goto zi_193_236 rfl ?_
        exact ih
      · rw [if_neg c2] at ih
        have ih := ih (nI x) rfl
        refine r_al0 zi_193_171 rfl ?_
        refine r_al0 zi_193_172 rfl ?_
        refine r_al0 zi_193_173 rfl ?_
        refine q_getIe zi_193_174 rfl cf_195_12 (v := nI p) (by first | exact h12 | ((repeat (first | rw [zup_ne (by first | decide | omega)] | rw [zup_nj (by first | decide | omega)] | rw [fil_ne (by first | decide | omega)])) <;> exact h12) | (simp [up_rd, fil_rd]; exact h12)) ?_
        refine q_cIV zi_193_177 rfl rfl rfl rfl rfl rfl rfl cf_195_0.ob (hr _ ?_)
        show zk _ _ 180 _ _ _ _
        refine q_cIV zi_193_180 rfl rfl rfl rfl rfl rfl rfl cf_195_0.ob (s_misD ht2 (fun _ => ?_) (fun z => absurd c z))
        show zk _ _ 183 _ _ _ _
        refine r_if0 zi_193_183 rfl (fun c => absurd c (by decide)) (fun _ => ?_)
        refine r_al0 zi_193_186 rfl ?_
        refine r_al0 zi_193_187 rfl ?_
        refine q_getIe zi_193_188 rfl cf_195_15 (v := nI x) (by first | exact h15 | ((repeat (first | rw [zup_ne (by first | decide | omega)] | rw [zup_nj (by first | decide | omega)] | rw [fil_ne (by first | decide | omega)])) <;> exact h15) | (simp [up_rd, fil_rd]; exact h15)) ?_
        refine r_push zi_193_191 rfl ?_
        refine n_ic3 (i := x) (j := 10000) zi_193_194 rfl (by omega) (by omega) (fun _ => ?_) (fun c => absurd c (by omega))
        refine r_al0 zi_193_219 rfl ?_
        refine q_getIe zi_193_220 rfl cf_195_15 (v := nI x) (by first | exact h15 | ((repeat (first | rw [zup_ne (by first | decide | omega)] | rw [zup_nj (by first | decide | omega)] | rw [fil_ne (by first | decide | omega)])) <;> exact h15) | (simp [up_rd, fil_rd]; exact h15)) ?_
        refine q_put zi_193_223 rfl cf_195_15 rfl ?_
        refine r_al0 zi_193_226 rfl ?_
        refine r_al0 zi_193_227 rfl ?_
        refine q_getIe zi_193_228 rfl cf_195_12 (v := nI p) (by first | exact h12' _ | ((repeat (first | rw [zup_ne (by first | decide | omega)] | rw [zup_nj (by first | decide | omega)] | rw [fil_ne (by first | decide | omega)])) <;> exact h12' _) | (simp [up_rd, fil_rd]; exact h12' _)) ?_
        refine r_push zi_193_231 rfl ?_
        refine r_b0 zi_193_232 rfl ?_
        rw [show (nI p + 1 : Int32) = nI (p + 1) from nI_add _ _]
        refine q_put zi_193_233 rfl cf_195_12 rfl ?_
        refine r_goto zi_193_236 rfl ?_
        exact ih
    · rw [tkr_f (fun z => c z.2)] at he
      have h := hq τ hF (by rw [← he]; exact h12) (by rw [← he]; exact h15)
      generalize t p = v at *
      refine r_al0 zi_193_171 rfl ?_
      refine r_al0 zi_193_172 rfl ?_
      refine r_al0 zi_193_173 rfl ?_
      refine q_getIe zi_193_174 rfl cf_195_12 (v := nI p) (by first | exact h12 | ((repeat (first | rw [zup_ne (by first | decide | omega)] | rw [zup_nj (by first | decide | omega)] | rw [fil_ne (by first | decide | omega)])) <;> exact h12) | (simp [up_rd, fil_rd]; exact h12)) ?_
      refine q_cIV zi_193_177 rfl rfl rfl rfl rfl rfl rfl cf_195_0.ob (hr _ ?_)
      show zk _ _ 180 _ _ _ _
      refine q_cIV zi_193_180 rfl rfl rfl rfl rfl rfl rfl cf_195_0.ob (s_misD ht2 (fun z => absurd z c) (fun _ => ?_))
      show zk _ _ 183 _ _ _ _
      refine r_if0 zi_193_183 rfl (fun _ => ?_) (fun c => absurd (by decide) c)
      exact h

