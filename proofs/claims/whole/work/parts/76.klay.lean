/-! TOGETHER, class -/
theorem zdg_lt (w i : Nat) : zdg w i < 10 := Nat.mod_lt _ (by omega)
theorem zwi_iff {r D : Nat → Nat} {m : Nat} : ∀ n, zwi r D m n = true ↔ ∃ f, f < n ∧ zLs r D f m = true
  | 0 => ⟨fun h => (by cases h), fun ⟨f, hf, _⟩ => (by omega)⟩
  | n + 1 => by
    show (zwi r D m n || zLs r D n m) = true ↔ _
    rw [Bool.or_eq_true, zwi_iff n]
    constructor
    · rintro (⟨f, hf, h⟩ | h)
      · exact ⟨f, by omega, h⟩
      · exact ⟨n, by omega, h⟩
    · rintro ⟨f, hf, h⟩
      by_cases e : f = n
      · subst e; exact Or.inr h
      · exact Or.inl ⟨f, by omega, h⟩
theorem zlw_lt {w l : Nat} {r : Nat → Nat} (hr : ∀ x, x < l → r x < 10) : ∀ x, x < (zlw w l r).1 → (zlw w l r).2 x < 10 := by
  intro x hx
  unfold zlw at hx ⊢
  split
  · rename_i h; rw [if_pos h] at hx; exact hr x hx
  · dsimp only
    split
    · rename_i h; exact hr x h
    · exact zdg_lt _ _
theorem zlw_in {w l f : Nat} {r : Nat → Nat} (hf : f + zln w ≤ l) (h : zLs r (zdg w) f (zln w) = true) : zlw w l r = (l, r) := if_pos ⟨by omega, (zwi_iff _).mpr ⟨f, by omega, h⟩⟩
abbrev zRw (σ : zS) (k l : Nat) (r : Nat → Nat) : Prop := ∀ x, x < l → σ k x = nI (r x) ∧ r x < 10
theorem l_klies {d f n l : Nat} {σ : zS} {Q : Int32 → zS → Prop} {r D : Nat → Nat} (hr : zRw σ 187 l r) (hD : zRw σ 188 n D) (hn : n ≤ 4) (hl : l ≤ 20) (hf : f + n ≤ l) (hq : Q (if zLs r D f n = true then 1 else 0) σ) : ∀ (m i : Nat), i + m = n → zLs r D f i = true → zk d 79 2 [.ref 177, .int (nI f), .int (nI n), .int (nI i)] [] σ (fun r t => ∃ v, r = some v ∧ Q v t) := by
  intro m
  induction m with
  | zero =>
    intro i hi hz
    have e : i = n := by omega
    subst e
    rw [if_pos hz] at hq
    refine r_il3 zi_79_2 rfl ?_
    refine r_il2 zi_79_3 rfl ?_
    refine n_ic3 (i := i) (j := i) zi_79_4 rfl (by omega) (by omega) (fun _ => ?_) (fun c => absurd c (by omega))
    refine r_push zi_79_52 rfl ?_
    refine r_retZ zi_79_53 rfl (by decide) ?_
    exact ⟨_, rfl, hq⟩
  | succ m ih =>
    intro i hi hz
    obtain ⟨h1, b1⟩ := hr (f + i) (by omega)
    obtain ⟨h2, b2⟩ := hD i (by omega)
    by_cases e : r (f + i) = D i
    · refine r_il3 zi_79_2 rfl ?_
      refine r_il2 zi_79_3 rfl ?_
      refine n_ic3 (i := i) (j := n) zi_79_4 rfl (by omega) (by omega) (fun c => absurd c (by omega)) (fun _ => ?_)
      refine r_il3 zi_79_7 rfl ?_
      refine r_al0 zi_79_8 rfl ?_
      refine q_getR zi_79_9 rfl cf_177_11 ?_
      refine r_alen zi_79_12 rfl ca_188 ?_
      refine n_ic3 (i := i) (j := 4) zi_79_13 rfl (by omega) (by omega) (fun c => absurd c (by omega)) (fun _ => ?_)
      refine r_il1 zi_79_16 rfl ?_
      refine r_il3 zi_79_17 rfl ?_
      refine r_b0 zi_79_18 rfl ?_
      rw [show (nI f + nI i : Int32) = nI (f + i) from nI_add _ _]
      refine r_al0 zi_79_19 rfl ?_
      refine q_getR zi_79_20 rfl cf_177_10 ?_
      refine r_alen zi_79_23 rfl ca_187 ?_
      refine n_ic3 (i := (f + i)) (j := 20) zi_79_24 rfl (by omega) (by omega) (fun c => absurd c (by omega)) (fun _ => ?_)
      refine r_al0 zi_79_27 rfl ?_
      refine q_getR zi_79_28 rfl cf_177_10 ?_
      refine r_il1 zi_79_31 rfl ?_
      refine r_il3 zi_79_32 rfl ?_
      refine r_b0 zi_79_33 rfl ?_
      rw [show (nI f + nI i : Int32) = nI (f + i) from nI_add _ _]
      refine r_alde zi_79_34 rfl (f + i) ca_187 (by first | rfl | (simp only [zI_add, zI_mul] <;> rfl)) (by first | omega | decide) (u := nI (r (f + i))) (by first | exact h1 | ((repeat (first | rw [zup_ne (by first | decide | omega)] | rw [zup_nj (by first | decide | omega)] | rw [fil_ne (by first | decide | omega)])) <;> exact h1) | (simp [up_rd, fil_rd]; exact h1)) ?_
      refine r_al0 zi_79_35 rfl ?_
      refine q_getR zi_79_36 rfl cf_177_11 ?_
      refine r_il3 zi_79_39 rfl ?_
      refine r_alde zi_79_40 rfl i ca_188 (by first | rfl | (simp only [zI_add, zI_mul] <;> rfl)) (by first | omega | decide) (u := nI (D i)) (by first | exact h2 | ((repeat (first | rw [zup_ne (by first | decide | omega)] | rw [zup_nj (by first | decide | omega)] | rw [fil_ne (by first | decide | omega)])) <;> exact h2) | (simp [up_rd, fil_rd]; exact h2)) ?_
      refine n_ic0 (i := (r (f + i))) (j := (D i)) zi_79_41 rfl (by omega) (by omega) (fun _ => ?_) (fun c => absurd c (by omega))
      refine r_in3 zi_79_46 rfl ?_
      rw [show (nI i + 1 : Int32) = nI (i + 1) from nI_add _ _]
      refine r_goto zi_79_49 rfl ?_
      refine ih (i + 1) (by omega) ?_
      show (zLs r D f i && decide (r (f + i) = D i)) = true
      rw [hz, decide_eq_true e]; rfl
    · rw [if_neg (fun z => e ((zLs_iff n).mp z i (by omega)))] at hq
      refine r_il3 zi_79_2 rfl ?_
      refine r_il2 zi_79_3 rfl ?_
      refine n_ic3 (i := i) (j := n) zi_79_4 rfl (by omega) (by omega) (fun c => absurd c (by omega)) (fun _ => ?_)
      refine r_il3 zi_79_7 rfl ?_
      refine r_al0 zi_79_8 rfl ?_
      refine q_getR zi_79_9 rfl cf_177_11 ?_
      refine r_alen zi_79_12 rfl ca_188 ?_
      refine n_ic3 (i := i) (j := 4) zi_79_13 rfl (by omega) (by omega) (fun c => absurd c (by omega)) (fun _ => ?_)
      refine r_il1 zi_79_16 rfl ?_
      refine r_il3 zi_79_17 rfl ?_
      refine r_b0 zi_79_18 rfl ?_
      rw [show (nI f + nI i : Int32) = nI (f + i) from nI_add _ _]
      refine r_al0 zi_79_19 rfl ?_
      refine q_getR zi_79_20 rfl cf_177_10 ?_
      refine r_alen zi_79_23 rfl ca_187 ?_
      refine n_ic3 (i := (f + i)) (j := 20) zi_79_24 rfl (by omega) (by omega) (fun c => absurd c (by omega)) (fun _ => ?_)
      refine r_al0 zi_79_27 rfl ?_
      refine q_getR zi_79_28 rfl cf_177_10 ?_
      refine r_il1 zi_79_31 rfl ?_
      refine r_il3 zi_79_32 rfl ?_
      refine r_b0 zi_79_33 rfl ?_
      rw [show (nI f + nI i : Int32) = nI (f + i) from nI_add _ _]
      refine r_alde zi_79_34 rfl (f + i) ca_187 (by first | rfl | (simp only [zI_add, zI_mul] <;> rfl)) (by first | omega | decide) (u := nI (r (f + i))) (by first | exact h1 | ((repeat (first | rw [zup_ne (by first | decide | omega)] | rw [zup_nj (by first | decide | omega)] | rw [fil_ne (by first | decide | omega)])) <;> exact h1) | (simp [up_rd, fil_rd]; exact h1)) ?_
      refine r_al0 zi_79_35 rfl ?_
      refine q_getR zi_79_36 rfl cf_177_11 ?_
      refine r_il3 zi_79_39 rfl ?_
      refine r_alde zi_79_40 rfl i ca_188 (by first | rfl | (simp only [zI_add, zI_mul] <;> rfl)) (by first | omega | decide) (u := nI (D i)) (by first | exact h2 | ((repeat (first | rw [zup_ne (by first | decide | omega)] | rw [zup_nj (by first | decide | omega)] | rw [fil_ne (by first | decide | omega)])) <;> exact h2) | (simp [up_rd, fil_rd]; exact h2)) ?_
      refine n_ic0 (i := (r (f + i))) (j := (D i)) zi_79_41 rfl (by omega) (by omega) (fun c => absurd c (by omega)) (fun _ => ?_)
      refine r_push zi_79_44 rfl ?_
      refine r_retZ zi_79_45 rfl (by decide) ?_
      exact ⟨_, rfl, hq⟩
theorem s_klies {d f n l : Nat} {σ : zS} {Q : Int32 → zS → Prop} {r D : Nat → Nat} (hr : zRw σ 187 l r) (hD : zRw σ 188 n D) (hn : n ≤ 4) (hl : l ≤ 20) (hf : f + n ≤ l) (h1 : zLs r D f n = true → Q 1 σ) (h0 : ¬ zLs r D f n = true → Q 0 σ) : zI1 d 79 [.ref 177, .int (nI f), .int (nI n)] σ Q := by
  have hq : Q (if zLs r D f n = true then 1 else 0) σ := by
    by_cases h : zLs r D f n = true
    · rw [if_pos h]; exact h1 h
    · rw [if_neg h]; exact h0 h
  show zk _ _ 0 [.ref 177, .int (nI f), .int (nI n), zun] [] _ _
  refine r_push zi_79_0 rfl ?_
  refine r_is3 zi_79_1 rfl ?_
  exact l_klies hr hD hn hl hf hq n 0 (by omega) rfl
theorem zln_dv {w : Nat} (hw : w ≤ 9999) : w / 10 ^ zln w = 0 := by
  unfold zln
  split
  · omega
  · split
    · omega
    · split <;> omega
theorem l_kdig {d w l : Nat} {σ : zS} {R : Option Int32 → zS → Prop} {u6 : Value} (hw : w ≤ 9999) (h : ∀ τ u4 u5, Fr [188] σ τ → (∀ i, i < zln w → τ 188 i = nI (zdg w i)) → zk d 78 71 [.ref 177, .int (nI w), .int (nI l), .int (nI (zln w)), u4, u5, u6] [] τ R) : ∀ (n : Nat) (v : Int32) (τ : zS), n ≤ zln w → ((n = 0 ∧ v = -1) ∨ ∃ q, n = q + 1 ∧ v = nI q) → Fr [188] σ τ → (∀ i, n ≤ i → i < zln w → τ 188 i = nI (zdg w i)) → zk d 78 41 [.ref 177, .int (nI w), .int (nI l), .int (nI (zln w)), .int (nI (w / 10 ^ (zln w - n))), .int v, u6] [] τ R := by
  have hb := zln_b w
  intro n
  induction n with
  | zero =>
    intro v τ hn hv hF hd
    have e : v = -1 := by
      rcases hv with h | ⟨q, h, _⟩
      · exact h.2
      · omega
    subst e
    refine r_il5 zi_78_41 rfl ?_
    refine r_if2 zi_78_43 rfl (fun _ => ?_) (fun c => absurd (by decide) c)
    exact h _ _ _ hF (fun i hi => hd i (by omega) hi)
  | succ n ih =>
    intro v τ hn hv hF hd
    have e : v = nI n := by
      rcases hv with ⟨h, _⟩ | ⟨q, h, h2⟩
      · omega
      · rw [h2, show q = n by omega]
    subst e
    have hnx : (n = 0 ∧ nI n + -1 = -1) ∨ ∃ q, n = q + 1 ∧ nI n + -1 = nI q := by
      match n with
      | 0 => exact Or.inl ⟨rfl, rfl⟩
      | q + 1 => exact Or.inr ⟨q, rfl, pk_m1 q⟩
    have hdiv : w / 10 ^ (zln w - n) = w / 10 ^ (zln w - (n + 1)) / 10 := by
      rw [show zln w - n = zln w - (n + 1) + 1 by omega, Nat.pow_succ, Nat.div_div_eq_div_mul]
    have hle : w / 10 ^ (zln w - (n + 1)) ≤ w := Nat.div_le_self _ _
    have hdg : zdg w n = w / 10 ^ (zln w - (n + 1)) % 10 := by unfold zdg; rw [show zln w - 1 - n = zln w - (n + 1) by omega]
    have ih := ih (nI n + -1)
    rw [hdiv] at ih
    generalize w / 10 ^ (zln w - (n + 1)) = lf at *
    refine r_il5 zi_78_41 rfl ?_
    refine n_if2 (i := n) zi_78_43 rfl (by omega) (fun c => absurd c (by omega)) (fun _ => ?_)
    refine r_al0 zi_78_46 rfl ?_
    refine q_getR zi_78_47 rfl cf_177_11 ?_
    refine r_il5 zi_78_50 rfl ?_
    refine r_il4 zi_78_52 rfl ?_
    refine r_push zi_78_54 rfl ?_
    refine r_rem zi_78_56 rfl (by decide) ?_
    rw [show (nI lf % 10 : Int32) = nI (lf % 10) from zI_rem (d := 10) (by omega) (by omega) (by omega)]
    refine r_ast zi_78_57 rfl n ca_188 (by first | rfl | (simp only [zI_add, zI_mul] <;> rfl)) (by first | omega | decide) ?_
    refine r_il4 zi_78_58 rfl ?_
    refine r_push zi_78_60 rfl ?_
    refine r_div zi_78_62 rfl (by decide) ?_
    rw [show (nI lf / 10 : Int32) = nI (lf / 10) from pk_div (d := 10) (by omega) (by omega) (by omega)]
    refine r_is4 zi_78_63 rfl ?_
    refine r_in5 zi_78_65 rfl ?_
    refine r_goto zi_78_68 rfl ?_
    refine ih _ (by omega) hnx (hF.put (by decide)) (fun i hi hi2 => ?_)
    rw [up_rd]
    by_cases e : i = n
    · rw [if_pos ⟨rfl, e⟩, e, hdg]
    · rw [if_neg (fun z => e z.2)]; exact hd i (by omega) hi2
theorem l_kw74 {d w l : Nat} {σ : zS} {R : Option Int32 → zS → Prop} {r : Nat → Nat} {u4 u6 : Value} (hw : w ≤ 9999) (hl : l ≤ 16) (hr : zRw σ 187 l r) (hD : zRw σ 188 (zln w) (zdg w)) (hin : zlw w l r = (l, r) → R (some (nI l)) σ) (hout : (∀ f, f + zln w ≤ l → ¬ zLs r (zdg w) f (zln w) = true) → ∀ u5, zk (d + 1) 78 100 [.ref 177, .int (nI w), .int (nI l), .int (nI (zln w)), u4, u5, u6] [] σ R) : ∀ (m f : Nat), f + m = l + 1 → (∀ g, g < f → g + zln w ≤ l → ¬ zLs r (zdg w) g (zln w) = true) → zk (d + 1) 78 74 [.ref 177, .int (nI w), .int (nI l), .int (nI (zln w)), u4, .int (nI f), u6] [] σ R := by
  have hb := zln_b w
  intro m
  induction m with
  | zero =>
    intro f hf hn
    refine r_il5 zi_78_74 rfl ?_
    refine r_il3 zi_78_76 rfl ?_
    refine r_b0 zi_78_77 rfl ?_
    rw [show (nI f + nI (zln w) : Int32) = nI (f + (zln w)) from nI_add _ _]
    refine r_il2 zi_78_78 rfl ?_
    refine n_ic4 (i := (f + (zln w))) (j := l) zi_78_79 rfl (by omega) (by omega) (fun _ => ?_) (fun c => absurd c (by omega))
    exact hout (fun g hg => hn g (by omega) hg) _
  | succ m ih =>
    intro f hf hn
    by_cases hc : l < f + zln w
    · refine r_il5 zi_78_74 rfl ?_
      refine r_il3 zi_78_76 rfl ?_
      refine r_b0 zi_78_77 rfl ?_
      rw [show (nI f + nI (zln w) : Int32) = nI (f + (zln w)) from nI_add _ _]
      refine r_il2 zi_78_78 rfl ?_
      refine n_ic4 (i := (f + (zln w))) (j := l) zi_78_79 rfl (by omega) (by omega) (fun _ => ?_) (fun c => absurd c (by omega))
      exact hout (fun g hg => hn g (by omega) hg) _
    · refine r_il5 zi_78_74 rfl ?_
      refine r_il3 zi_78_76 rfl ?_
      refine r_b0 zi_78_77 rfl ?_
      rw [show (nI f + nI (zln w) : Int32) = nI (f + (zln w)) from nI_add _ _]
      refine r_il2 zi_78_78 rfl ?_
      refine n_ic4 (i := (f + (zln w))) (j := l) zi_78_79 rfl (by omega) (by omega) (fun c => absurd c (by omega)) (fun _ => ?_)
      refine r_al0 zi_78_82 rfl ?_
      refine r_il5 zi_78_83 rfl ?_
      refine r_il3 zi_78_85 rfl ?_
      refine q_cIV zi_78_86 rfl rfl rfl rfl rfl rfl rfl cf_177_0.ob (s_klies hr hD (by omega) (by omega) (by omega) (fun hz => ?_) (fun hz => ?_))
      · show zk _ _ 89 _ _ _ _
        refine r_if0 zi_78_89 rfl (fun c => absurd c (by decide)) (fun _ => ?_)
        refine r_il2 zi_78_92 rfl ?_
        refine r_retI zi_78_93 rfl ?_
        exact hin (zlw_in (by omega) hz)
      · show zk _ _ 89 _ _ _ _
        refine r_if0 zi_78_89 rfl (fun _ => ?_) (fun c => absurd (by decide) c)
        refine r_in5 zi_78_94 rfl ?_
        rw [show (nI f + 1 : Int32) = nI (f + 1) from nI_add _ _]
        refine r_goto zi_78_97 rfl ?_
        refine ih (f + 1) (by omega) (fun g hg hgl => ?_)
        by_cases e : g = f
        · subst e; exact hz
        · exact hn g (by omega) hgl
theorem l_kov {d w l : Nat} {σ : zS} {R : Option Int32 → zS → Prop} {r : Nat → Nat} {u4 u6 : Value} (hw : w ≤ 9999) (hl : l ≤ 16) (hr : zRw σ 187 l r) (hD : zRw σ 188 (zln w) (zdg w)) (O : Nat) (h : zk (d + 1) 78 134 [.ref 177, .int (nI w), .int (nI l), .int (nI (zln w)), u4, .int (nI (l - O)), u6] [] σ R) : ∀ (o : Nat), o ≤ l → o ≤ zln w → zov r (zdg w) l o = O → zk (d + 1) 78 109 [.ref 177, .int (nI w), .int (nI l), .int (nI (zln w)), u4, .int (nI (l - o)), u6] [] σ R := by
  have hb := zln_b w
  intro o
  induction o with
  | zero =>
    intro ho ho2 hz
    have e : O = 0 := hz.symm
    subst e
    refine r_il5 zi_78_109 rfl ?_
    refine r_il2 zi_78_111 rfl ?_
    refine n_ic3 (i := (l - 0)) (j := l) zi_78_112 rfl (by omega) (by omega) (fun _ => ?_) (fun c => absurd c (by omega))
    exact h
  | succ o ih =>
    intro ho ho2 hz
    have e1 : zov r (zdg w) l (o + 1) = if zLs r (zdg w) (l - (o + 1)) (o + 1) then o + 1 else zov r (zdg w) l o := rfl
    have hD' : zRw σ 188 (o + 1) (zdg w) := fun x hx => hD x (by omega)
    rw [e1] at hz
    refine r_il5 zi_78_109 rfl ?_
    refine r_il2 zi_78_111 rfl ?_
    refine n_ic3 (i := (l - (o + 1))) (j := l) zi_78_112 rfl (by omega) (by omega) (fun c => absurd c (by omega)) (fun _ => ?_)
    refine r_al0 zi_78_115 rfl ?_
    refine r_il5 zi_78_116 rfl ?_
    refine r_il2 zi_78_118 rfl ?_
    refine r_il5 zi_78_119 rfl ?_
    refine r_b1 zi_78_121 rfl ?_
    rw [show (nI l - nI (l - (o + 1)) : Int32) = nI (l - (l - (o + 1))) from pk_sub (a := l) (b := (l - (o + 1))) (by omega)]
    rw [show l - (l - (o + 1)) = o + 1 by omega]
    refine q_cIV zi_78_122 rfl rfl rfl rfl rfl rfl rfl cf_177_0.ob (s_klies hr hD' (by omega) (by omega) (by omega) (fun hz1 => ?_) (fun hz1 => ?_))
    · show zk _ _ 125 _ _ _ _
      refine r_if1 zi_78_125 rfl (fun _ => ?_) (fun c => absurd c (by decide))
      rw [if_pos hz1] at hz
      rw [hz]
      exact h
    · show zk _ _ 125 _ _ _ _
      refine r_if1 zi_78_125 rfl (fun c => absurd (by decide) c) (fun _ => ?_)
      refine r_in5 zi_78_128 rfl ?_
      rw [show (nI (l - (o + 1)) + 1 : Int32) = nI ((l - (o + 1)) + 1) from nI_add _ _]
      refine r_goto zi_78_131 rfl ?_
      rw [if_neg hz1] at hz
      rw [show l - (o + 1) + 1 = l - o by omega]
      exact ih (by omega) (by omega) hz
theorem l_kput {d w l fr : Nat} {σ : zS} {Q : Int32 → zS → Prop} {u4 : Value} (hfr : fr + zln w ≤ 20) (hD : zRw σ 188 (zln w) (zdg w)) (h : ∀ τ, Fr [187] σ τ → (∀ x, τ 187 x = if fr ≤ x ∧ x < fr + zln w then nI (zdg w (x - fr)) else σ 187 x) → Q (nI (fr + zln w)) τ) : ∀ (m i : Nat) (τ : zS), i + m = zln w → Fr [187] σ τ → (∀ x, τ 187 x = if fr ≤ x ∧ x < fr + i then nI (zdg w (x - fr)) else σ 187 x) → zk d 78 137 [.ref 177, .int (nI w), .int (nI l), .int (nI (zln w)), u4, .int (nI fr), .int (nI i)] [] τ (fun r t => ∃ v, r = some v ∧ Q v t) := by
  have hb := zln_b w
  intro m
  induction m with
  | zero =>
    intro i τ hi hF hv
    have e : i = zln w := by omega
    rw [e] at hv ⊢
    refine r_il6 zi_78_137 rfl ?_
    refine r_il3 zi_78_139 rfl ?_
    refine n_ic3 (i := (zln w)) (j := (zln w)) zi_78_140 rfl (by omega) (by omega) (fun _ => ?_) (fun c => absurd c (by omega))
    refine r_il5 zi_78_179 rfl ?_
    refine r_il3 zi_78_181 rfl ?_
    refine r_b0 zi_78_182 rfl ?_
    rw [show (nI fr + nI (zln w) : Int32) = nI (fr + (zln w)) from nI_add _ _]
    refine r_retI zi_78_183 rfl ?_
    exact ⟨_, rfl, h _ hF hv⟩
  | succ m ih =>
    intro i τ hi hF hv
    have h171 := (hF 188 (by decide) i).trans (hD i (by omega)).1
    refine r_il6 zi_78_137 rfl ?_
    refine r_il3 zi_78_139 rfl ?_
    refine n_ic3 (i := i) (j := (zln w)) zi_78_140 rfl (by omega) (by omega) (fun c => absurd c (by omega)) (fun _ => ?_)
    refine r_il5 zi_78_143 rfl ?_
    refine r_il6 zi_78_145 rfl ?_
    refine r_b0 zi_78_147 rfl ?_
    rw [show (nI fr + nI i : Int32) = nI (fr + i) from nI_add _ _]
    refine r_al0 zi_78_148 rfl ?_
    refine q_getR zi_78_149 rfl cf_177_10 ?_
    refine r_alen zi_78_152 rfl ca_187 ?_
    refine n_ic3 (i := (fr + i)) (j := 20) zi_78_153 rfl (by omega) (by omega) (fun c => absurd c (by omega)) (fun _ => ?_)
    refine r_al0 zi_78_156 rfl ?_
    refine q_getR zi_78_157 rfl cf_177_10 ?_
    refine r_il5 zi_78_160 rfl ?_
    refine r_il6 zi_78_162 rfl ?_
    refine r_b0 zi_78_164 rfl ?_
    rw [show (nI fr + nI i : Int32) = nI (fr + i) from nI_add _ _]
    refine r_al0 zi_78_165 rfl ?_
    refine q_getR zi_78_166 rfl cf_177_11 ?_
    refine r_il6 zi_78_169 rfl ?_
    refine r_alde zi_78_171 rfl i ca_188 (by first | rfl | (simp only [zI_add, zI_mul] <;> rfl)) (by first | omega | decide) (u := nI (zdg w i)) (by first | exact h171 | ((repeat (first | rw [zup_ne (by first | decide | omega)] | rw [zup_nj (by first | decide | omega)] | rw [fil_ne (by first | decide | omega)])) <;> exact h171) | (simp [up_rd, fil_rd]; exact h171)) ?_
    refine r_ast zi_78_172 rfl (fr + i) ca_187 (by first | rfl | (simp only [zI_add, zI_mul] <;> rfl)) (by first | omega | decide) ?_
    refine r_in6 zi_78_173 rfl ?_
    rw [show (nI i + 1 : Int32) = nI (i + 1) from nI_add _ _]
    refine r_goto zi_78_176 rfl ?_
    refine ih (i + 1) _ (by omega) (hF.put (by decide)) (fun x => ?_)
    rw [up_rd, hv x]
    by_cases e : x = fr + i
    · rw [if_pos ⟨rfl, e⟩, if_pos ⟨by omega, by omega⟩, show x - fr = i by omega]
    · rw [if_neg (fun z => e z.2)]
      by_cases e2 : fr ≤ x ∧ x < fr + i
      · rw [if_pos e2, if_pos ⟨e2.1, by omega⟩]
      · rw [if_neg e2, if_neg (fun z => e2 ⟨z.1, by omega⟩)]
theorem s_klayw {d w l : Nat} {σ : zS} {Q : Int32 → zS → Prop} {r : Nat → Nat} (hw : w ≤ 9999) (hl : l ≤ 16) (hr : zRw σ 187 l r) (hq : ∀ τ, Fr [187, 188] σ τ → zRw τ 187 (zlw w l r).1 (zlw w l r).2 → Q (nI (zlw w l r).1) τ) : zI1 (d + 1) 78 [.ref 177, .int (nI w), .int (nI l)] σ Q := by
  have hb := zln_b w
  have hwl := zlw_lt (w := w) (fun x hx => (hr x hx).2)
  have key : ∀ u5 u6 : Value, zk (d + 1) 78 36 [.ref 177, .int (nI w), .int (nI l), .int (nI (zln w)), .int (nI w), u5, u6] [] σ (fun r t => ∃ v, r = some v ∧ Q v t) := by
    intro u5 u6
    have hpow : w / 10 ^ (zln w - zln w) = w := by rw [Nat.sub_self, Nat.pow_zero, Nat.div_one]
    refine r_il3 zi_78_36 rfl ?_
    refine r_push zi_78_37 rfl ?_
    refine r_b1 zi_78_38 rfl ?_
    rw [show (nI (zln w) - 1 : Int32) = nI ((zln w) - 1) from pk_sub (a := (zln w)) (b := 1) (by omega)]
    refine r_is5 zi_78_39 rfl ?_
    have hdig := l_kdig (d := d + 1) (l := l) (u6 := u6) (σ := σ) (R := fun r t => ∃ v, r = some v ∧ Q v t) hw
    rw [show zln w - 1 = zln w - 1 from rfl]
    have hgo := fun hh => hdig hh (zln w) (nI (zln w - 1)) σ (Nat.le_refl _) (Or.inr ⟨zln w - 1, by omega, rfl⟩) Fr.rf (fun i hi hi2 => by omega)
    rw [hpow] at hgo
    refine hgo (fun τ u4 u5 hF hd => ?_)
    have hr' : zRw τ 187 l r := fun x hx => ⟨(hF 187 (by decide) x).trans (hr x hx).1, (hr x hx).2⟩
    have hD' : zRw τ 188 (zln w) (zdg w) := fun x hx => ⟨hd x hx, zdg_lt _ _⟩
    show zk _ _ 71 _ _ _ _
    refine r_push zi_78_71 rfl ?_
    refine r_is5 zi_78_72 rfl ?_
    refine l_kw74 hw hl hr' hD' (fun he => ?_) (fun hno u5 => ?_) (l + 1) 0 (by omega) (fun g hg => by omega)
    · rw [he] at hq
      exact ⟨_, rfl, hq τ (hF.sub (by simp)) hr'⟩
    have hzo : zov r (zdg w) l (min (zln w) l) = zov r (zdg w) l (min (zln w - 1) l) := by
      by_cases e : zln w ≤ l
      · rw [Nat.min_eq_left e, Nat.min_eq_left (by omega)]
        obtain ⟨q, hq1⟩ : ∃ q, zln w = q + 1 := ⟨zln w - 1, by omega⟩
        have hno2 := hno (l - zln w) (by omega)
        rw [hq1] at hno2 ⊢
        show (if zLs r (zdg w) (l - (q + 1)) (q + 1) then q + 1 else zov r (zdg w) l q) = _
        rw [if_neg hno2]; rfl
      · rw [Nat.min_eq_right (by omega), Nat.min_eq_right (by omega)]
    have hmx : (if 0 < nI l - nI (zln w) then nI l - nI (zln w) else 0) = nI (l - min (zln w) l) := by
      by_cases e : zln w ≤ l
      · rw [pk_sub e, Nat.min_eq_left e]
        by_cases e2 : 0 < l - zln w
        · have h3 : (0 : Int32) < nI (l - zln w) := nI_lt (a := 0) e2 (by omega)
          rw [if_pos h3]
        · rw [show l - zln w = 0 by omega]; rfl
      · have h3 := pk_sneg (a := l) (b := zln w) (by omega) (by omega)
        rw [if_neg (by grind), Nat.min_eq_right (by omega), Nat.sub_self]; rfl
    have hov := zov_le (r := r) (D := zdg w) (l := l) (min (zln w - 1) l)
    have hok := (zLs_iff _).mp (zov_ok (r := r) (D := zdg w) (l := l) (min (zln w - 1) l))
    have hzl : zlw w l r = (l - zov r (zdg w) l (min (zln w - 1) l) + zln w, fun i => if i < l then r i else zdg w (i - (l - zov r (zdg w) l (min (zln w - 1) l)))) := if_neg (fun z => by
      obtain ⟨f, hf1, hf2⟩ := (zwi_iff _).mp z.2
      exact hno f (by omega) hf2)
    rw [hzl] at hq hwl
    generalize hO : zov r (zdg w) l (min (zln w - 1) l) = O at *
    refine r_push zi_78_100 rfl ?_
    refine r_il2 zi_78_101 rfl ?_
    refine r_il3 zi_78_102 rfl ?_
    refine r_b1 zi_78_103 rfl ?_
    refine r_max zi_78_104 rfl ?_
    rw [hmx]
    refine r_is5 zi_78_107 rfl ?_
    refine l_kov hw hl hr' hD' O ?_ (min (zln w) l) (by omega) (by omega) hzo
    show zk _ _ 134 _ _ _ _
    refine r_push zi_78_134 rfl ?_
    refine r_is6 zi_78_135 rfl ?_
    refine l_kput (σ := τ) (by omega) hD' (fun τ2 hF2 hv2 => ?_) (zln w) 0 τ (by omega) Fr.rf (fun x => by rw [if_neg (fun z => by omega)])
    refine hq τ2 ((hF.sub (by simp)).tr (hF2.sub (by simp))) (fun x hx => ⟨?_, hwl x hx⟩)
    dsimp only at hx ⊢
    rw [hv2 x]
    by_cases e : x < l
    · rw [if_pos e]
      by_cases e2 : l - O ≤ x
      · rw [if_pos ⟨e2, by omega⟩]
        have := hok (x - (l - O)) (by omega)
        rw [show l - O + (x - (l - O)) = x by omega] at this
        rw [this]
      · rw [if_neg (fun z => e2 z.1)]; exact (hr' x e).1
    · rw [if_neg e, if_pos ⟨by omega, hx⟩]
  show zk _ _ 0 [.ref 177, .int (nI w), .int (nI l), zun, zun, zun, zun] [] _ _
  have hln : zln w = if 999 < w then 4 else if 99 < w then 3 else if 9 < w then 2 else 1 := rfl
  refine r_il1 zi_78_0 rfl ?_
  refine r_push zi_78_1 rfl ?_
  refine n_ic5 (i := w) (j := 999) zi_78_4 rfl (by omega) (by omega) (fun c1 => ?_) (fun c1 => ?_)
  · refine r_il1 zi_78_11 rfl ?_
    refine r_push zi_78_12 rfl ?_
    refine n_ic5 (i := w) (j := 99) zi_78_14 rfl (by omega) (by omega) (fun c2 => ?_) (fun c2 => ?_)
    · refine r_il1 zi_78_21 rfl ?_
      refine r_push zi_78_22 rfl ?_
      refine n_ic5 (i := w) (j := 9) zi_78_24 rfl (by omega) (by omega) (fun c3 => ?_) (fun c3 => ?_)
      · refine r_push zi_78_31 rfl ?_
        refine r_is3 zi_78_32 rfl ?_
        refine r_il1 zi_78_33 rfl ?_
        refine r_is4 zi_78_34 rfl ?_
        have hk := key zun zun
        rw [hln] at hk
        first
        | (rw [if_pos (by omega)] at hk; exact hk)
        | (rw [if_neg (by omega), if_pos (by omega)] at hk; exact hk)
        | (rw [if_neg (by omega), if_neg (by omega), if_pos (by omega)] at hk; exact hk)
        | (rw [if_neg (by omega), if_neg (by omega), if_neg (by omega)] at hk; exact hk)
      · refine r_push zi_78_27 rfl ?_
        refine r_goto zi_78_28 rfl ?_
        refine r_is3 zi_78_32 rfl ?_
        refine r_il1 zi_78_33 rfl ?_
        refine r_is4 zi_78_34 rfl ?_
        have hk := key zun zun
        rw [hln] at hk
        first
        | (rw [if_pos (by omega)] at hk; exact hk)
        | (rw [if_neg (by omega), if_pos (by omega)] at hk; exact hk)
        | (rw [if_neg (by omega), if_neg (by omega), if_pos (by omega)] at hk; exact hk)
        | (rw [if_neg (by omega), if_neg (by omega), if_neg (by omega)] at hk; exact hk)
    · refine r_push zi_78_17 rfl ?_
      refine r_goto zi_78_18 rfl ?_
      refine r_is3 zi_78_32 rfl ?_
      refine r_il1 zi_78_33 rfl ?_
      refine r_is4 zi_78_34 rfl ?_
      have hk := key zun zun
      rw [hln] at hk
      first
      | (rw [if_pos (by omega)] at hk; exact hk)
      | (rw [if_neg (by omega), if_pos (by omega)] at hk; exact hk)
      | (rw [if_neg (by omega), if_neg (by omega), if_pos (by omega)] at hk; exact hk)
      | (rw [if_neg (by omega), if_neg (by omega), if_neg (by omega)] at hk; exact hk)
  · refine r_push zi_78_7 rfl ?_
    refine r_goto zi_78_8 rfl ?_
    refine r_is3 zi_78_32 rfl ?_
    refine r_il1 zi_78_33 rfl ?_
    refine r_is4 zi_78_34 rfl ?_
    have hk := key zun zun
    rw [hln] at hk
    first
    | (rw [if_pos (by omega)] at hk; exact hk)
    | (rw [if_neg (by omega), if_pos (by omega)] at hk; exact hk)
    | (rw [if_neg (by omega), if_neg (by omega), if_pos (by omega)] at hk; exact hk)
    | (rw [if_neg (by omega), if_neg (by omega), if_neg (by omega)] at hk; exact hk)

