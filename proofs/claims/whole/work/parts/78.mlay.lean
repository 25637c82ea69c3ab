/-! TOGETHER, model -/
def Fm (l fs : List Nat) (σ τ : zS) : Prop := ∀ a b, a ∉ l → (a = 195 → b ∉ fs) → τ a b = σ a b
theorem Fm.rf {l fs : List Nat} {σ : zS} : Fm l fs σ σ := fun _ _ _ _ => rfl
theorem Fm.tr {l fs : List Nat} {σ τ υ : zS} (h1 : Fm l fs σ τ) (h2 : Fm l fs τ υ) : Fm l fs σ υ := fun a b ha hb => (h2 a b ha hb).trans (h1 a b ha hb)
theorem Fm.put {l fs : List Nat} {σ τ : zS} {k i : Nat} {v : Int32} (h : Fm l fs σ τ) (hk : k ∈ l) : Fm l fs σ (up τ k i v) := fun a b ha hb => by
  have hne : a ≠ k := fun e => ha (by rw [e]; exact hk)
  rw [zup_ne hne]; exact h a b ha hb
theorem Fm.pf {l fs : List Nat} {σ τ : zS} {f : Nat} {v : Int32} (h : Fm l fs σ τ) (hf : f ∈ fs) : Fm l fs σ (up τ 195 f v) := fun a b ha hb => by
  have hne : ¬ (a = 195 ∧ b = f) := fun z => hb z.1 (by rw [z.2]; exact hf)
  rw [up_rd, if_neg hne]; exact h a b ha hb
theorem Fm.of {l fs : List Nat} {σ τ : zS} (h : Fr l σ τ) (h5 : 195 ∉ l) : Fm l fs σ τ := fun a b ha _ => h a ha b
theorem Fm.sub {l m fs gs : List Nat} {σ τ : zS} (h : Fm l fs σ τ) (h1 : ∀ a, a ∈ l → a ∈ m) (h2 : ∀ a, a ∈ fs → a ∈ gs) : Fm m gs σ τ := fun a b ha hb => h a b (fun z => ha (h1 a z)) (fun e z => hb e (h2 b z))
theorem Fm.at {l fs : List Nat} {σ τ : zS} (h : Fm l fs σ τ) {a : Nat} (ha : a ∉ l) (h5 : a ≠ 195) (b : Nat) : τ a b = σ a b := h a b ha (fun e => absurd e h5)
theorem Fm.fl {l fs : List Nat} {σ τ : zS} (h : Fm l fs σ τ) {f : Nat} (h5 : 195 ∉ l) (hf : f ∉ fs) : τ 195 f = σ 195 f := h 195 f h5 (fun _ => hf)
theorem zln_pos {w k : Nat} (hw : 1 ≤ w) (hk : k < zln w) : 0 < w / 10 ^ k := by
  have h4 : k = 0 ∨ k = 1 ∨ k = 2 ∨ k = 3 := by have := zln_b w; omega
  unfold zln at hk
  rcases h4 with e | e | e | e <;> subst e
  · simp; omega
  · split at hk <;> (try split at hk) <;> (try split at hk) <;> simp <;> omega
  · split at hk <;> (try split at hk) <;> (try split at hk) <;> simp <;> omega
  · split at hk <;> (try split at hk) <;> (try split at hk) <;> simp <;> omega
theorem l_mcnt {d w : Nat} {σ : zS} {R : Option Int32 → zS → Prop} {u4 : Value} (hw1 : 1 ≤ w) (hw : w ≤ 9999) (h : ∀ u3, zk d 266 20 [.ref 195, .int (nI w), .int (nI (zln w)), u3, u4] [] σ R) : ∀ (m k : Nat), k + m = zln w → zk d 266 4 [.ref 195, .int (nI w), .int (nI k), .int (nI (w / 10 ^ k)), u4] [] σ R := by
  intro m
  induction m with
  | zero =>
    intro k hk
    have e : k = zln w := by omega
    subst e
    rw [zln_dv hw]
    refine r_il3 zi_266_4 rfl ?_
    refine r_if5 zi_266_5 rfl (fun _ => ?_) (fun c => absurd (by decide) c)
    exact h _
  | succ m ih =>
    intro k hk
    have hp := zln_pos hw1 (show k < zln w by omega)
    have ih := ih (k + 1) (by omega)
    rw [Nat.pow_succ, ← Nat.div_div_eq_div_mul] at ih
    have hle : w / 10 ^ k ≤ w := Nat.div_le_self _ _
    generalize w / 10 ^ k = lf at *
    refine r_il3 zi_266_4 rfl ?_
    refine n_if5 (i := lf) zi_266_5 rfl (by omega) (fun c => absurd c (by omega)) (fun _ => ?_)
    refine r_il2 zi_266_8 rfl ?_
    refine r_push zi_266_9 rfl ?_
    refine r_b0 zi_266_10 rfl ?_
    rw [show (nI k + 1 : Int32) = nI (k + 1) from nI_add _ _]
    refine r_is2 zi_266_11 rfl ?_
    refine r_il3 zi_266_12 rfl ?_
    refine r_push zi_266_13 rfl ?_
    refine r_div zi_266_15 rfl (by decide) ?_
    rw [show (nI lf / 10 : Int32) = nI (lf / 10) from pk_div (d := 10) (by omega) (by omega) (by omega)]
    refine r_is3 zi_266_16 rfl ?_
    refine r_goto zi_266_17 rfl ?_
    exact ih
theorem l_mdig {d w : Nat} {σ : zS} {Q : Int32 → zS → Prop} (hw : w ≤ 9999) (h : ∀ τ, Fr [228] σ τ → (∀ i, i < zln w → τ 228 i = nI (zdg w i)) → Q (nI (zln w)) τ) : ∀ (n : Nat) (v : Int32) (τ : zS), n ≤ zln w → ((n = 0 ∧ v = -1) ∨ ∃ q, n = q + 1 ∧ v = nI q) → Fr [228] σ τ → (∀ i, n ≤ i → i < zln w → τ 228 i = nI (zdg w i)) → zk d 266 27 [.ref 195, .int (nI w), .int (nI (zln w)), .int (nI (w / 10 ^ (zln w - n))), .int v] [] τ (fun r t => ∃ v, r = some v ∧ Q v t) := by
  have hb := zln_b w
  intro n
  induction n with
  | zero =>
    intro v τ hn hv hF hd
    have e : v = -1 := by
      rcases hv with h | ⟨q, h, _⟩
      · exact h.2
      · omega
    subst e
    refine r_il4 zi_266_27 rfl ?_
    refine r_if2 zi_266_29 rfl (fun _ => ?_) (fun c => absurd (by decide) c)
    refine r_il2 zi_266_54 rfl ?_
    refine r_retI zi_266_55 rfl ?_
    exact ⟨_, rfl, h _ hF (fun i hi => hd i (by omega) hi)⟩
  | succ n ih =>
    intro v τ hn hv hF hd
    have e : v = nI n := by
      rcases hv with ⟨h, _⟩ | ⟨q, h, h2⟩
      · omega
      · rw [h2, show q = n by omega]
    subst e
    have hnx : (n = 0 ∧ nI n + -1 = -1) ∨ ∃ q, n = q + 1 ∧ nI n + -1 = nI q := by
      match n with
      | 0 => exact Or.inl ⟨rfl, rfl⟩
      | q + 1 => exact Or.inr ⟨q, rfl, pk_m1 q⟩
    have hdiv : w / 10 ^ (zln w - n) = w / 10 ^ (zln w - (n + 1)) / 10 := by
      rw [show zln w - n = zln w - (n + 1) + 1 by omega, Nat.pow_succ, Nat.div_div_eq_div_mul]
    have hle : w / 10 ^ (zln w - (n + 1)) ≤ w := Nat.div_le_self _ _
    have hdg : zdg w n = w / 10 ^ (zln w - (n + 1)) % 10 := by unfold zdg; rw [show zln w - 1 - n = zln w - (n + 1) by omega]
    have ih := ih (nI n + -1)
    rw [hdiv] at ih
    generalize w / 10 ^ (zln w - (n + 1)) = lf at *
    refine r_il4 zi_266_27 rfl ?_
    refine n_if2 (i := n) zi_266_29 rfl (by omega) (fun c => absurd c (by omega)) (fun _ => ?_)
    refine r_al0 zi_266_32 rfl ?_
    refine q_getR zi_266_33 rfl cf_195_55 ?_
    refine r_il4 zi_266_36 rfl ?_
    refine r_il3 zi_266_38 rfl ?_
    refine r_push zi_266_39 rfl ?_
    refine r_rem zi_266_41 rfl (by decide) ?_
    rw [show (nI lf % 10 : Int32) = nI (lf % 10) from zI_rem (d := 10) (by omega) (by omega) (by omega)]
    refine r_ast zi_266_42 rfl n ca_228 (by first | rfl | (simp only [zI_add, zI_mul] <;> rfl)) (by first | omega | decide) ?_
    refine r_il3 zi_266_43 rfl ?_
    refine r_push zi_266_44 rfl ?_
    refine r_div zi_266_46 rfl (by decide) ?_
    rw [show (nI lf / 10 : Int32) = nI (lf / 10) from pk_div (d := 10) (by omega) (by omega) (by omega)]
    refine r_is3 zi_266_47 rfl ?_
    refine r_in4 zi_266_48 rfl ?_
    refine r_goto zi_266_51 rfl ?_
    refine ih _ (by omega) hnx (hF.put (by decide)) (fun i hi hi2 => ?_)
    rw [up_rd]
    by_cases e : i = n
    · rw [if_pos ⟨rfl, e⟩, e, hdg]
    · rw [if_neg (fun z => e z.2)]; exact hd i (by omega) hi2
theorem s_mlet {d w : Nat} {σ : zS} {Q : Int32 → zS → Prop} (hw1 : 1 ≤ w) (hw : w ≤ 9999) (h : ∀ τ, Fr [228] σ τ → (∀ i, i < zln w → τ 228 i = nI (zdg w i)) → Q (nI (zln w)) τ) : zI1 d 266 [.ref 195, .int (nI w)] σ Q := by
  have hb := zln_b w
  have hpow : w / 10 ^ (zln w - zln w) = w := by rw [Nat.sub_self, Nat.pow_zero, Nat.div_one]
  have hp0 : w / 10 ^ 0 = w := by rw [Nat.pow_zero, Nat.div_one]
  have hcnt := fun (R : Option Int32 → zS → Prop) hh => l_mcnt (d := d) (σ := σ) (R := R) (u4 := zun) hw1 hw hh (zln w) 0 (by omega)
  have hdig := l_mdig (d := d) (σ := σ) hw h (zln w) (nI (zln w - 1)) σ (Nat.le_refl _) (Or.inr ⟨zln w - 1, by omega, rfl⟩) Fr.rf (fun i hi hi2 => by omega)
  rw [hpow] at hdig
  rw [hp0] at hcnt
  show zk _ _ 0 [.ref 195, .int (nI w), zun, zun, zun] [] _ _
  refine r_push zi_266_0 rfl ?_
  refine r_is2 zi_266_1 rfl ?_
  refine r_il1 zi_266_2 rfl ?_
  refine r_is3 zi_266_3 rfl ?_
  refine hcnt _ (fun u3 => ?_)
  show zk _ _ 20 _ _ _ _
  refine r_il1 zi_266_20 rfl ?_
  refine r_is3 zi_266_21 rfl ?_
  refine r_il2 zi_266_22 rfl ?_
  refine r_push zi_266_23 rfl ?_
  refine r_b1 zi_266_24 rfl ?_
  rw [show (nI (zln w) - 1 : Int32) = nI ((zln w) - 1) from pk_sub (a := (zln w)) (b := 1) (by omega)]
  refine r_is4 zi_266_25 rfl ?_
  exact hdig
theorem l_mlies {d f n l : Nat} {σ : zS} {Q : Int32 → zS → Prop} {r D : Nat → Nat} (hr : zRw σ 227 l r) (hD : zRw σ 228 n D) (hn : n ≤ 4) (hl : l ≤ 20) (hf : f + n ≤ l) (hq : Q (if zLs r D f n = true then 1 else 0) σ) : ∀ (m i : Nat), i + m = n → zLs r D f i = true → zk d 267 2 [.ref 195, .int (nI f), .int (nI n), .int (nI i)] [] σ (fun r t => ∃ v, r = some v ∧ Q v t) := by
  intro m
  induction m with
  | zero =>
    intro i hi hz
    have e : i = n := by omega
    subst e
    rw [if_pos hz] at hq
    refine r_il3 zi_267_2 rfl ?_
    refine r_il2 zi_267_3 rfl ?_
    refine n_ic3 (i := i) (j := i) zi_267_4 rfl (by omega) (by omega) (fun _ => ?_) (fun c => absurd c (by omega))
    refine r_push zi_267_32 rfl ?_
    refine r_retZ zi_267_33 rfl (by decide) ?_
    exact ⟨_, rfl, hq⟩
  | succ m ih =>
    intro i hi hz
    obtain ⟨h1, b1⟩ := hr (f + i) (by omega)
    obtain ⟨h2, b2⟩ := hD i (by omega)
    by_cases e : r (f + i) = D i
    · refine r_il3 zi_267_2 rfl ?_
      refine r_il2 zi_267_3 rfl ?_
      refine n_ic3 (i := i) (j := n) zi_267_4 rfl (by omega) (by omega) (fun c => absurd c (by omega)) (fun _ => ?_)
      refine r_al0 zi_267_7 rfl ?_
      refine q_getR zi_267_8 rfl cf_195_53 ?_
      refine r_il1 zi_267_11 rfl ?_
      refine r_il3 zi_267_12 rfl ?_
      refine r_b0 zi_267_13 rfl ?_
      rw [show (nI f + nI i : Int32) = nI (f + i) from nI_add _ _]
      refine r_alde zi_267_14 rfl (f + i) ca_227 (by first | rfl | (simp only [zI_add, zI_mul] <;> rfl)) (by first | omega | decide) (u := nI (r (f + i))) (by first | exact h1 | ((repeat (first | rw [zup_ne (by first | decide | omega)] | rw [zup_nj (by first | decide | omega)] | rw [fil_ne (by first | decide | omega)])) <;> exact h1) | (simp [up_rd, fil_rd]; exact h1)) ?_
      refine r_al0 zi_267_15 rfl ?_
      refine q_getR zi_267_16 rfl cf_195_55 ?_
      refine r_il3 zi_267_19 rfl ?_
      refine r_alde zi_267_20 rfl i ca_228 (by first | rfl | (simp only [zI_add, zI_mul] <;> rfl)) (by first | omega | decide) (u := nI (D i)) (by first | exact h2 | ((repeat (first | rw [zup_ne (by first | decide | omega)] | rw [zup_nj (by first | decide | omega)] | rw [fil_ne (by first | decide | omega)])) <;> exact h2) | (simp [up_rd, fil_rd]; exact h2)) ?_
      refine n_ic0 (i := (r (f + i))) (j := (D i)) zi_267_21 rfl (by omega) (by omega) (fun _ => ?_) (fun c => absurd c (by omega))
      refine r_in3 zi_267_26 rfl ?_
      rw [show (nI i + 1 : Int32) = nI (i + 1) from nI_add _ _]
      refine r_goto zi_267_29 rfl ?_
      refine ih (i + 1) (by omega) ?_
      show (zLs r D f i && decide (r (f + i) = D i)) = true
      rw [hz, decide_eq_true e]; rfl
    · rw [if_neg (fun z => e ((zLs_iff n).mp z i (by omega)))] at hq
      refine r_il3 zi_267_2 rfl ?_
      refine r_il2 zi_267_3 rfl ?_
      refine n_ic3 (i := i) (j := n) zi_267_4 rfl (by omega) (by omega) (fun c => absurd c (by omega)) (fun _ => ?_)
      refine r_al0 zi_267_7 rfl ?_
      refine q_getR zi_267_8 rfl cf_195_53 ?_
      refine r_il1 zi_267_11 rfl ?_
      refine r_il3 zi_267_12 rfl ?_
      refine r_b0 zi_267_13 rfl ?_
      rw [show (nI f + nI i : Int32) = nI (f + i) from nI_add _ _]
      refine r_alde zi_267_14 rfl (f + i) ca_227 (by first | rfl | (simp only [zI_add, zI_mul] <;> rfl)) (by first | omega | decide) (u := nI (r (f + i))) (by first | exact h1 | ((repeat (first | rw [zup_ne (by first | decide | omega)] | rw [zup_nj (by first | decide | omega)] | rw [fil_ne (by first | decide | omega)])) <;> exact h1) | (simp [up_rd, fil_rd]; exact h1)) ?_
      refine r_al0 zi_267_15 rfl ?_
      refine q_getR zi_267_16 rfl cf_195_55 ?_
      refine r_il3 zi_267_19 rfl ?_
      refine r_alde zi_267_20 rfl i ca_228 (by first | rfl | (simp only [zI_add, zI_mul] <;> rfl)) (by first | omega | decide) (u := nI (D i)) (by first | exact h2 | ((repeat (first | rw [zup_ne (by first | decide | omega)] | rw [zup_nj (by first | decide | omega)] | rw [fil_ne (by first | decide | omega)])) <;> exact h2) | (simp [up_rd, fil_rd]; exact h2)) ?_
      refine n_ic0 (i := (r (f + i))) (j := (D i)) zi_267_21 rfl (by omega) (by omega) (fun c => absurd c (by omega)) (fun _ => ?_)
      refine r_push zi_267_24 rfl ?_
      refine r_retZ zi_267_25 rfl (by decide) ?_
      exact ⟨_, rfl, hq⟩
theorem s_mlies {d f n l : Nat} {σ : zS} {Q : Int32 → zS → Prop} {r D : Nat → Nat} (hr : zRw σ 227 l r) (hD : zRw σ 228 n D) (hn : n ≤ 4) (hl : l ≤ 20) (hf : f + n ≤ l) (h1 : zLs r D f n = true → Q 1 σ) (h0 : ¬ zLs r D f n = true → Q 0 σ) : zI1 d 267 [.ref 195, .int (nI f), .int (nI n)] σ Q := by
  have hq : Q (if zLs r D f n = true then 1 else 0) σ := by
    by_cases h : zLs r D f n = true
    · rw [if_pos h]; exact h1 h
    · rw [if_neg h]; exact h0 h
  show zk _ _ 0 [.ref 195, .int (nI f), .int (nI n), zun] [] _ _
  refine r_push zi_267_0 rfl ?_
  refine r_is3 zi_267_1 rfl ?_
  exact l_mlies hr hD hn hl hf hq n 0 (by omega) rfl
theorem l_mw8 {d w l : Nat} {σ : zS} {R : Option Int32 → zS → Prop} {r : Nat → Nat} {u4 : Value} (hL : σ 195 54 = nI l) (hl : l ≤ 16) (hr : zRw σ 227 l r) (hD : zRw σ 228 (zln w) (zdg w)) (hin : zlw w l r = (l, r) → R none σ) (hout : (∀ f, f + zln w ≤ l → ¬ zLs r (zdg w) f (zln w) = true) → ∀ u3, zk (d + 1) 268 34 [.ref 195, .int (nI w), .int (nI (zln w)), u3, u4] [] σ R) : ∀ (m f : Nat), f + m = l + 1 → (∀ g, g < f → g + zln w ≤ l → ¬ zLs r (zdg w) g (zln w) = true) → zk (d + 1) 268 8 [.ref 195, .int (nI w), .int (nI (zln w)), .int (nI f), u4] [] σ R := by
  have hb := zln_b w
  intro m
  induction m with
  | zero =>
    intro f hf hn
    refine r_il3 zi_268_8 rfl ?_
    refine r_il2 zi_268_9 rfl ?_
    refine r_b0 zi_268_10 rfl ?_
    rw [show (nI f + nI (zln w) : Int32) = nI (f + (zln w)) from nI_add _ _]
    refine r_al0 zi_268_11 rfl ?_
    refine q_getIe zi_268_12 rfl cf_195_54 (v := nI l) (by first | exact hL | ((repeat (first | rw [zup_ne (by first | decide | omega)] | rw [zup_nj (by first | decide | omega)] | rw [fil_ne (by first | decide | omega)])) <;> exact hL) | (simp [up_rd, fil_rd]; exact hL)) ?_
    refine n_ic4 (i := (f + (zln w))) (j := l) zi_268_15 rfl (by omega) (by omega) (fun _ => ?_) (fun c => absurd c (by omega))
    exact hout (fun g hg => hn g (by omega) hg) _
  | succ m ih =>
    intro f hf hn
    by_cases hc : l < f + zln w
    · refine r_il3 zi_268_8 rfl ?_
      refine r_il2 zi_268_9 rfl ?_
      refine r_b0 zi_268_10 rfl ?_
      rw [show (nI f + nI (zln w) : Int32) = nI (f + (zln w)) from nI_add _ _]
      refine r_al0 zi_268_11 rfl ?_
      refine q_getIe zi_268_12 rfl cf_195_54 (v := nI l) (by first | exact hL | ((repeat (first | rw [zup_ne (by first | decide | omega)] | rw [zup_nj (by first | decide | omega)] | rw [fil_ne (by first | decide | omega)])) <;> exact hL) | (simp [up_rd, fil_rd]; exact hL)) ?_
      refine n_ic4 (i := (f + (zln w))) (j := l) zi_268_15 rfl (by omega) (by omega) (fun _ => ?_) (fun c => absurd c (by omega))
      exact hout (fun g hg => hn g (by omega) hg) _
    · refine r_il3 zi_268_8 rfl ?_
      refine r_il2 zi_268_9 rfl ?_
      refine r_b0 zi_268_10 rfl ?_
      rw [show (nI f + nI (zln w) : Int32) = nI (f + (zln w)) from nI_add _ _]
      refine r_al0 zi_268_11 rfl ?_
      refine q_getIe zi_268_12 rfl cf_195_54 (v := nI l) (by first | exact hL | ((repeat (first | rw [zup_ne (by first | decide | omega)] | rw [zup_nj (by first | decide | omega)] | rw [fil_ne (by first | decide | omega)])) <;> exact hL) | (simp [up_rd, fil_rd]; exact hL)) ?_
      refine n_ic4 (i := (f + (zln w))) (j := l) zi_268_15 rfl (by omega) (by omega) (fun c => absurd c (by omega)) (fun _ => ?_)
      refine r_al0 zi_268_18 rfl ?_
      refine r_il3 zi_268_19 rfl ?_
      refine r_il2 zi_268_20 rfl ?_
      refine q_cIV zi_268_21 rfl rfl rfl rfl rfl rfl rfl cf_195_0.ob (s_mlies hr hD (by omega) (by omega) (by omega) (fun hz => ?_) (fun hz => ?_))
      · show zk _ _ 24 _ _ _ _
        refine r_if0 zi_268_24 rfl (fun c => absurd c (by decide)) (fun _ => ?_)
        refine r_ret zi_268_27 rfl ?_
        exact hin (zlw_in (by omega) hz)
      · show zk _ _ 24 _ _ _ _
        refine r_if0 zi_268_24 rfl (fun _ => ?_) (fun c => absurd (by decide) c)
        refine r_in3 zi_268_28 rfl ?_
        rw [show (nI f + 1 : Int32) = nI (f + 1) from nI_add _ _]
        refine r_goto zi_268_31 rfl ?_
        refine ih (f + 1) (by omega) (fun g hg hgl => ?_)
        by_cases e : g = f
        · subst e; exact hz
        · exact hn g (by omega) hgl
theorem l_mov {d w l : Nat} {σ : zS} {R : Option Int32 → zS → Prop} {r : Nat → Nat} {u4 : Value} (hL : σ 195 54 = nI l) (hl : l ≤ 16) (hr : zRw σ 227 l r) (hD : zRw σ 228 (zln w) (zdg w)) (O : Nat) (h : zk (d + 1) 268 67 [.ref 195, .int (nI w), .int (nI (zln w)), .int (nI O), u4] [] σ R) : ∀ (o : Nat), o ≤ l → o ≤ zln w → zov r (zdg w) l o = O → zk (d + 1) 268 46 [.ref 195, .int (nI w), .int (nI (zln w)), .int (nI o), u4] [] σ R := by
  have hb := zln_b w
  intro o
  induction o with
  | zero =>
    intro ho ho2 hz
    have e : O = 0 := hz.symm
    subst e
    have hD' : zRw σ 228 0 (zdg w) := fun x hx => by omega
    refine r_al0 zi_268_46 rfl ?_
    refine r_al0 zi_268_47 rfl ?_
    refine q_getIe zi_268_48 rfl cf_195_54 (v := nI l) (by first | exact hL | ((repeat (first | rw [zup_ne (by first | decide | omega)] | rw [zup_nj (by first | decide | omega)] | rw [fil_ne (by first | decide | omega)])) <;> exact hL) | (simp [up_rd, fil_rd]; exact hL)) ?_
    refine r_il3 zi_268_51 rfl ?_
    refine r_b1 zi_268_52 rfl ?_
    rw [show (nI l - nI 0 : Int32) = nI (l - 0) from pk_sub (a := l) (b := 0) (by omega)]
    refine r_il3 zi_268_53 rfl ?_
    refine q_cIV zi_268_54 rfl rfl rfl rfl rfl rfl rfl cf_195_0.ob (s_mlies hr hD' (by omega) (by omega) (by omega) (fun hz1 => ?_) (fun hz1 => absurd rfl hz1))
    show zk _ _ 57 _ _ _ _
    refine r_if1 zi_268_57 rfl (fun _ => ?_) (fun c => absurd c (by decide))
    exact h
  | succ o ih =>
    intro ho ho2 hz
    have e1 : zov r (zdg w) l (o + 1) = if zLs r (zdg w) (l - (o + 1)) (o + 1) then o + 1 else zov r (zdg w) l o := rfl
    have hD' : zRw σ 228 (o + 1) (zdg w) := fun x hx => hD x (by omega)
    rw [e1] at hz
    refine r_al0 zi_268_46 rfl ?_
    refine r_al0 zi_268_47 rfl ?_
    refine q_getIe zi_268_48 rfl cf_195_54 (v := nI l) (by first | exact hL | ((repeat (first | rw [zup_ne (by first | decide | omega)] | rw [zup_nj (by first | decide | omega)] | rw [fil_ne (by first | decide | omega)])) <;> exact hL) | (simp [up_rd, fil_rd]; exact hL)) ?_
    refine r_il3 zi_268_51 rfl ?_
    refine r_b1 zi_268_52 rfl ?_
    rw [show (nI l - nI (o+1) : Int32) = nI (l - (o+1)) from pk_sub (a := l) (b := (o+1)) (by omega)]
    refine r_il3 zi_268_53 rfl ?_
    refine q_cIV zi_268_54 rfl rfl rfl rfl rfl rfl rfl cf_195_0.ob (s_mlies hr hD' (by omega) (by omega) (by omega) (fun hz1 => ?_) (fun hz1 => ?_))
    · show zk _ _ 57 _ _ _ _
      refine r_if1 zi_268_57 rfl (fun _ => ?_) (fun c => absurd c (by decide))
      rw [if_pos hz1] at hz
      rw [hz]
      exact h
    · show zk _ _ 57 _ _ _ _
      refine r_if1 zi_268_57 rfl (fun c => absurd (by decide) c) (fun _ => ?_)
      refine r_il3 zi_268_60 rfl ?_
      refine r_push zi_268_61 rfl ?_
      refine r_b1 zi_268_62 rfl ?_
      rw [show (nI (o+1) - 1 : Int32) = nI ((o+1) - 1) from pk_sub (a := (o+1)) (b := 1) (by omega)]
      refine r_is3 zi_268_63 rfl ?_
      refine r_goto zi_268_64 rfl ?_
      rw [if_neg hz1] at hz
      exact ih (by omega) (by omega) hz
theorem l_mput {d w l O : Nat} {σ : zS} {Q : zS → Prop} {u3 : Value} (hO : O ≤ zln w) (hl : l ≤ 16) (hD : zRw σ 228 (zln w) (zdg w)) (h : ∀ τ, Fm [227] [54] σ τ → τ 195 54 = nI (l + (zln w - O)) → (∀ x, τ 227 x = if l ≤ x ∧ x < l + (zln w - O) then nI (zdg w (x - l + O)) else σ 227 x) → Q τ) : ∀ (m k : Nat) (τ : zS), k + m = zln w → O ≤ k → Fm [227] [54] σ τ → τ 195 54 = nI (l + (k - O)) → (∀ x, τ 227 x = if l ≤ x ∧ x < l + (k - O) then nI (zdg w (x - l + O)) else σ 227 x) → zk d 268 70 [.ref 195, .int (nI w), .int (nI (zln w)), u3, .int (nI k)] [] τ (fun r t => r = none ∧ Q t) := by
  have hb := zln_b w
  intro m
  induction m with
  | zero =>
    intro k τ hk hOk hF hL hv
    have e : k = zln w := by omega
    rw [e] at hv hL ⊢
    refine r_il4 zi_268_70 rfl ?_
    refine r_il2 zi_268_72 rfl ?_
    refine n_ic3 (i := (zln w)) (j := (zln w)) zi_268_73 rfl (by omega) (by omega) (fun _ => ?_) (fun c => absurd c (by omega))
    refine r_ret zi_268_108 rfl ?_
    exact ⟨rfl, h _ hF hL hv⟩
  | succ m ih =>
    intro k τ hk hOk hF hL hv
    have h90 := (hF.at (a := 228) (by decide) (by decide) k).trans (hD k (by omega)).1
    have hL2 : ∀ x, up τ 227 (l + (k - O)) x 195 54 = nI (l + (k - O)) := fun x => by rw [zup_ne (by decide)]; exact hL
    refine r_il4 zi_268_70 rfl ?_
    refine r_il2 zi_268_72 rfl ?_
    refine n_ic3 (i := k) (j := (zln w)) zi_268_73 rfl (by omega) (by omega) (fun c => absurd c (by omega)) (fun _ => ?_)
    refine r_al0 zi_268_76 rfl ?_
    refine q_getR zi_268_77 rfl cf_195_53 ?_
    refine r_al0 zi_268_80 rfl ?_
    refine q_getIe zi_268_81 rfl cf_195_54 (v := nI (l + (k - O))) (by first | exact hL | ((repeat (first | rw [zup_ne (by first | decide | omega)] | rw [zup_nj (by first | decide | omega)] | rw [fil_ne (by first | decide | omega)])) <;> exact hL) | (simp [up_rd, fil_rd]; exact hL)) ?_
    refine r_al0 zi_268_84 rfl ?_
    refine q_getR zi_268_85 rfl cf_195_55 ?_
    refine r_il4 zi_268_88 rfl ?_
    refine r_alde zi_268_90 rfl k ca_228 (by first | rfl | (simp only [zI_add, zI_mul] <;> rfl)) (by first | omega | decide) (u := nI (zdg w k)) (by first | exact h90 | ((repeat (first | rw [zup_ne (by first | decide | omega)] | rw [zup_nj (by first | decide | omega)] | rw [fil_ne (by first | decide | omega)])) <;> exact h90) | (simp [up_rd, fil_rd]; exact h90)) ?_
    refine r_ast zi_268_91 rfl (l + (k - O)) ca_227 (by first | rfl | (simp only [zI_add, zI_mul] <;> rfl)) (by first | omega | decide) ?_
    refine r_al0 zi_268_92 rfl ?_
    refine r_al0 zi_268_93 rfl ?_
    refine q_getIe zi_268_94 rfl cf_195_54 (v := nI (l + (k - O))) (by exact hL2 _) ?_
    refine r_push zi_268_97 rfl ?_
    refine r_b0 zi_268_98 rfl ?_
    rw [show (nI (l + (k - O)) + 1 : Int32) = nI ((l + (k - O)) + 1) from nI_add _ _]
    refine q_put zi_268_99 rfl cf_195_54 rfl ?_
    refine r_in4 zi_268_102 rfl ?_
    rw [show (nI k + 1 : Int32) = nI (k + 1) from nI_add _ _]
    refine r_goto zi_268_105 rfl ?_
    refine ih (k + 1) _ (by omega) (by omega) ((hF.put (by decide)).pf (by decide)) (by rw [zup_eq, show l + (k + 1 - O) = l + (k - O) + 1 by omega]) (fun x => ?_)
    rw [zup_ne (by decide), up_rd, hv x]
    by_cases e : x = l + (k - O)
    · rw [if_pos ⟨rfl, e⟩, if_pos ⟨by omega, by omega⟩, show x - l + O = k by omega]
    · rw [if_neg (fun z => e z.2)]
      by_cases e2 : l ≤ x ∧ x < l + (k - O)
      · rw [if_pos e2, if_pos ⟨e2.1, by omega⟩]
      · rw [if_neg e2, if_neg (fun z => e2 ⟨z.1, by omega⟩)]
theorem s_mlaid {d w l : Nat} {σ : zS} {Q : zS → Prop} {r : Nat → Nat} (hw1 : 1 ≤ w) (hw : w ≤ 9999) (hl : l ≤ 16) (hL : σ 195 54 = nI l) (hr : zRw σ 227 l r) (hq : ∀ τ, Fm [227, 228] [54] σ τ → τ 195 54 = nI (zlw w l r).1 → zRw τ 227 (zlw w l r).1 (zlw w l r).2 → Q τ) : zV1 (d + 1) 268 [.ref 195, .int (nI w)] σ Q := by
  have hb := zln_b w
  have hwl := zlw_lt (w := w) (fun x hx => (hr x hx).2)
  show zk _ _ 0 [.ref 195, .int (nI w), zun, zun, zun] [] _ _
  refine r_al0 zi_268_0 rfl ?_
  refine r_il1 zi_268_1 rfl ?_
  refine q_cIV zi_268_2 rfl rfl rfl rfl rfl rfl rfl cf_195_0.ob (s_mlet hw1 hw (fun τ hF hd => ?_))
  show zk _ _ 5 _ _ _ _
  refine r_is2 zi_268_5 rfl ?_
  refine r_push zi_268_6 rfl ?_
  refine r_is3 zi_268_7 rfl ?_
  have hF' : Fm [227, 228] [54] σ τ := (Fm.of (fs := [54]) hF (by decide)).sub (by simp) (by simp)
  have hr' : zRw τ 227 l r := fun x hx => ⟨(hF 227 (by decide) x).trans (hr x hx).1, (hr x hx).2⟩
  have hD' : zRw τ 228 (zln w) (zdg w) := fun x hx => ⟨hd x hx, zdg_lt _ _⟩
  have hL' : τ 195 54 = nI l := (hF 195 (by decide) 54).trans hL
  refine l_mw8 hL' hl hr' hD' (fun he => ?_) (fun hno u3 => ?_) (l + 1) 0 (by omega) (fun g hg => by omega)
  · rw [he] at hq
    exact ⟨rfl, hq τ hF' hL' hr'⟩
  have hmin := zminI (a := zln w - 1) (b := l) (by omega) (by omega)
  have hov := zov_le (r := r) (D := zdg w) (l := l) (min (zln w - 1) l)
  have hok := (zLs_iff _).mp (zov_ok (r := r) (D := zdg w) (l := l) (min (zln w - 1) l))
  have hzl : zlw w l r = (l - zov r (zdg w) l (min (zln w - 1) l) + zln w, fun i => if i < l then r i else zdg w (i - (l - zov r (zdg w) l (min (zln w - 1) l)))) := if_neg (fun z => by
    obtain ⟨f, hf1, hf2⟩ := (zwi_iff _).mp z.2
    exact hno f (by omega) hf2)
  rw [hzl] at hq hwl
  generalize hO : zov r (zdg w) l (min (zln w - 1) l) = O at *
  refine r_al0 zi_268_34 rfl ?_
  refine r_il2 zi_268_35 rfl ?_
  refine r_push zi_268_36 rfl ?_
  refine r_b1 zi_268_37 rfl ?_
  rw [show (nI (zln w) - 1 : Int32) = nI ((zln w) - 1) from pk_sub (a := (zln w)) (b := 1) (by omega)]
  refine r_al0 zi_268_38 rfl ?_
  refine q_getIe zi_268_39 rfl cf_195_54 (v := nI l) (by first | exact hL' | ((repeat (first | rw [zup_ne (by first | decide | omega)] | rw [zup_nj (by first | decide | omega)] | rw [fil_ne (by first | decide | omega)])) <;> exact hL') | (simp [up_rd, fil_rd]; exact hL')) ?_
  refine q_cIV zi_268_42 rfl rfl rfl rfl rfl rfl rfl cf_195_0.ob (s_lesser ?_)
  show zk _ _ 45 _ _ _ _
  rw [hmin]
  refine r_is3 zi_268_45 rfl ?_
  refine l_mov hL' hl hr' hD' O ?_ (min (zln w - 1) l) (by omega) (by omega) hO
  show zk _ _ 67 _ _ _ _
  refine r_il3 zi_268_67 rfl ?_
  refine r_is4 zi_268_68 rfl ?_
  refine l_mput (σ := τ) (l := l) (O := O) (by omega) hl hD' (fun τ2 hF2 hL2 hv2 => ?_) (zln w - O) O τ (by omega) (Nat.le_refl _) Fm.rf (by rw [Nat.sub_self, Nat.add_zero]; exact hL') (fun x => by rw [if_neg (fun z => by omega)])
  refine hq τ2 (hF'.tr (hF2.sub (by simp) (by simp))) (by rw [hL2]; congr 1; omega) (fun x hx => ⟨?_, hwl x hx⟩)
  dsimp only at hx ⊢
  rw [hv2 x]
  by_cases e : x < l
  · rw [if_neg (fun z => by omega), if_pos e]; exact (hr' x e).1
  · rw [if_neg e, if_pos ⟨by omega, by omega⟩, show x - l + O = x - (l - O) by omega]

