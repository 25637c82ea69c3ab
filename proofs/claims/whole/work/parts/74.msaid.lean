/-! SAID, model -/
theorem l_mturn {d : Nat} {σ : zS} {Q : Int32 → zS → Prop} {v : Value} : ∀ (f l b : Nat), l < 10 ^ f → (b + 1) * 10 ^ f ≤ 10000 → Q (nI (ztnF f l b)) σ → zk d 259 4 [.ref 195, v, .int (nI b), .int (nI l)] [] σ (fun r t => ∃ v, r = some v ∧ Q v t) := by
  intro f
  induction f with
  | zero =>
    intro l b hl hb hq
    have e : l = 0 := by omega
    subst e
    refine r_il3 zi_259_4 rfl ?_
    refine r_if5 zi_259_5 rfl (fun _ => ?_) (fun c => absurd (by decide) c)
    refine r_il2 zi_259_26 rfl ?_
    refine r_retI zi_259_27 rfl ?_
    exact ⟨_, rfl, hq⟩
  | succ f ih =>
    intro l b hl hb hq
    obtain ⟨hb2, hb3⟩ := ztnF_b (l := l) hb
    have hl3 : l / 10 < 10 ^ f := by rw [Nat.pow_succ] at hl; omega
    by_cases h0 : l = 0
    · subst h0
      rw [ztnF_0] at hq
      refine r_il3 zi_259_4 rfl ?_
      refine r_if5 zi_259_5 rfl (fun _ => ?_) (fun c => absurd (by decide) c)
      refine r_il2 zi_259_26 rfl ?_
      refine r_retI zi_259_27 rfl ?_
      exact ⟨_, rfl, hq⟩
    · have hlb : l < 2 ^ 31 := by
        have : 10 ^ (f + 1) ≤ 10000 := Nat.le_trans (Nat.le_mul_of_pos_left _ (by omega)) hb
        omega
      have e : ztnF (f + 1) l b = ztnF f (l / 10) (10 * b + l % 10) := by rw [Nat.mul_comm]; exact if_neg h0
      rw [e] at hq
      refine r_il3 zi_259_4 rfl ?_
      refine n_if5 (i := l) zi_259_5 rfl (by omega) (fun c => absurd c (by omega)) (fun _ => ?_)
      refine r_push zi_259_8 rfl ?_
      refine r_il2 zi_259_10 rfl ?_
      refine r_b2 zi_259_11 rfl ?_
      rw [show (10 * nI b : Int32) = nI (10 * b) from pk_mul _ _]
      refine r_il3 zi_259_12 rfl ?_
      refine r_push zi_259_13 rfl ?_
      refine r_rem zi_259_15 rfl (by decide) ?_
      rw [show (nI l % 10 : Int32) = nI (l % 10) from zI_rem (d := 10) (by omega) (by omega) (by omega)]
      refine r_b0 zi_259_16 rfl ?_
      rw [show (nI (10 * b) + nI (l % 10) : Int32) = nI ((10 * b) + (l % 10)) from nI_add _ _]
      refine r_is2 zi_259_17 rfl ?_
      refine r_il3 zi_259_18 rfl ?_
      refine r_push zi_259_19 rfl ?_
      refine r_div zi_259_21 rfl (by decide) ?_
      rw [show (nI l / 10 : Int32) = nI (l / 10) from pk_div (d := 10) (by omega) (by omega) (by omega)]
      refine r_is3 zi_259_22 rfl ?_
      refine r_goto zi_259_23 rfl ?_
      exact ih _ _ hl3 (by rw [Nat.mul_comm 10 b]; exact hb2) hq
theorem s_mturn {d v : Nat} {σ : zS} {Q : Int32 → zS → Prop} (hv : v < 1000) (hq : Q (nI (ztn v)) σ) : zI1 d 259 [.ref 195, .int (nI v)] σ Q := by
  show zk _ _ 0 [.ref 195, .int (nI v), zun, zun] [] _ _
  refine r_push zi_259_0 rfl ?_
  refine r_is2 zi_259_1 rfl ?_
  refine r_il1 zi_259_2 rfl ?_
  refine r_is3 zi_259_3 rfl ?_
  exact l_mturn 3 v 0 (by omega) (by decide) hq
theorem zsub3' {v : Nat} (hv : v < 1000) : (if nI v - 3 < 0 then 0 else nI v - 3) = nI (v - 3) := by
  by_cases h : 3 ≤ v
  · have e : nI v - 3 = nI (v - 3) := pk_sub (a := v) (b := 3) h
    rw [e, if_neg (nI_pos (by omega))]
  · have hn : nI v - 3 < 0 := pk_sneg (a := v) (b := 3) (by omega) (by omega)
    rw [if_pos hn, show v - 3 = 0 by omega]; rfl
theorem s_behind {d v k : Nat} {σ : zS} {Q : Int32 → zS → Prop} (hv : v < 1000) (hk : k < 5) (hq : Q (nI (zto v k)) σ) : zI1 (d + 1) 260 [.ref 195, .int (nI v), .int (nI k)] σ Q := by
  have h5 : k = 0 ∨ k = 1 ∨ k = 2 ∨ k = 3 ∨ k = 4 := by omega
  show zk _ _ 0 [.ref 195, .int (nI v), .int (nI k)] [] _ _
  rcases h5 with e | e | e | e | e <;> subst e
  · have hq : Q (nI (2 * v % 1000)) σ := by rw [Nat.mul_comm]; exact hq
    refine r_il2 zi_260_0 rfl ?_
    refine r_if1 zi_260_1 rfl (fun c => absurd (by decide) c) (fun _ => ?_)
    refine r_push zi_260_4 rfl ?_
    refine r_il1 zi_260_5 rfl ?_
    refine r_b2 zi_260_6 rfl ?_
    rw [show (2 * nI v : Int32) = nI (2 * v) from pk_mul _ _]
    refine r_push zi_260_7 rfl ?_
    refine r_rem zi_260_10 rfl (by decide) ?_
    rw [show (nI (2 * v) % 1000 : Int32) = nI ((2 * v) % 1000) from zI_rem (d := 1000) (by omega) (by omega) (by omega)]
    refine r_retI zi_260_11 rfl ?_
    exact ⟨_, rfl, hq⟩
  · refine r_il2 zi_260_0 rfl ?_
    refine r_if1 zi_260_1 rfl (fun _ => ?_) (fun c => absurd c (by decide))
    refine r_il2 zi_260_12 rfl ?_
    refine r_push zi_260_13 rfl ?_
    refine r_ic1 zi_260_14 rfl (fun c => absurd (by decide) c) (fun _ => ?_)
    refine r_il1 zi_260_17 rfl ?_
    refine r_push zi_260_18 rfl ?_
    refine r_b0 zi_260_19 rfl ?_
    rw [show (nI v + 1 : Int32) = nI (v + 1) from nI_add _ _]
    refine r_push zi_260_20 rfl ?_
    refine r_rem zi_260_23 rfl (by decide) ?_
    rw [show (nI (v + 1) % 1000 : Int32) = nI ((v + 1) % 1000) from zI_rem (d := 1000) (by omega) (by omega) (by omega)]
    refine r_retI zi_260_24 rfl ?_
    exact ⟨_, rfl, hq⟩
  · have e := zsub3' hv
    refine r_il2 zi_260_0 rfl ?_
    refine r_if1 zi_260_1 rfl (fun _ => ?_) (fun c => absurd c (by decide))
    refine r_il2 zi_260_12 rfl ?_
    refine r_push zi_260_13 rfl ?_
    refine r_ic1 zi_260_14 rfl (fun _ => ?_) (fun c => absurd c (by decide))
    refine r_il2 zi_260_25 rfl ?_
    refine r_push zi_260_26 rfl ?_
    refine r_ic1 zi_260_27 rfl (fun c => absurd (by decide) c) (fun _ => ?_)
    refine r_al0 zi_260_30 rfl ?_
    refine r_push zi_260_31 rfl ?_
    refine r_il1 zi_260_32 rfl ?_
    refine r_push zi_260_33 rfl ?_
    refine r_b1 zi_260_34 rfl ?_
    refine q_cIV zi_260_35 rfl rfl rfl rfl rfl rfl rfl cf_195_0.ob (s_greater ?_)
    show zk _ _ 38 _ _ _ _
    rw [e]
    refine r_goto zi_260_38 rfl ?_
    refine r_retI zi_260_57 rfl ?_
    exact ⟨_, rfl, hq⟩
  · refine r_il2 zi_260_0 rfl ?_
    refine r_if1 zi_260_1 rfl (fun _ => ?_) (fun c => absurd c (by decide))
    refine r_il2 zi_260_12 rfl ?_
    refine r_push zi_260_13 rfl ?_
    refine r_ic1 zi_260_14 rfl (fun _ => ?_) (fun c => absurd c (by decide))
    refine r_il2 zi_260_25 rfl ?_
    refine r_push zi_260_26 rfl ?_
    refine r_ic1 zi_260_27 rfl (fun _ => ?_) (fun c => absurd c (by decide))
    refine r_il2 zi_260_41 rfl ?_
    refine r_push zi_260_42 rfl ?_
    refine r_ic1 zi_260_43 rfl (fun c => absurd (by decide) c) (fun _ => ?_)
    refine r_al0 zi_260_46 rfl ?_
    refine r_il1 zi_260_47 rfl ?_
    refine q_cIV zi_260_48 rfl rfl rfl rfl rfl rfl rfl cf_195_0.ob (s_mturn hv ?_)
    show zk _ _ 51 _ _ _ _
    refine r_goto zi_260_51 rfl ?_
    refine r_retI zi_260_57 rfl ?_
    exact ⟨_, rfl, hq⟩
  · refine r_il2 zi_260_0 rfl ?_
    refine r_if1 zi_260_1 rfl (fun _ => ?_) (fun c => absurd c (by decide))
    refine r_il2 zi_260_12 rfl ?_
    refine r_push zi_260_13 rfl ?_
    refine r_ic1 zi_260_14 rfl (fun _ => ?_) (fun c => absurd c (by decide))
    refine r_il2 zi_260_25 rfl ?_
    refine r_push zi_260_26 rfl ?_
    refine r_ic1 zi_260_27 rfl (fun _ => ?_) (fun c => absurd c (by decide))
    refine r_il2 zi_260_41 rfl ?_
    refine r_push zi_260_42 rfl ?_
    refine r_ic1 zi_260_43 rfl (fun _ => ?_) (fun c => absurd c (by decide))
    refine r_il1 zi_260_54 rfl ?_
    refine r_push zi_260_55 rfl ?_
    refine r_div zi_260_56 rfl (by decide) ?_
    rw [show (nI v / 2 : Int32) = nI (v / 2) from pk_div (d := 2) (by omega) (by omega) (by omega)]
    refine r_retI zi_260_57 rfl ?_
    exact ⟨_, rfl, hq⟩
abbrev zSB (τ : zS) (k : Nat) (S : Nat → Nat) : Prop := ∀ v, v < 1000 → τ k v = nI (S v)
abbrev zAc (S : Nat → Nat) (wd : Int32) (w k u : Nat) : Nat := zsum (fun w' => zcw S wd w' u 5) w + zcw S wd w u k
theorem l_ms1 {d w : Nat} {wd : Int32} {σ : zS} {R : Option Int32 → zS → Prop} {S : Nat → Nat} {a1 a2 a4 a5 : Value} (hS : zSB σ 222 S) (hb : ∀ v, v < 1000 → S v < 100000000) (hw : w < 1000) (h : ∀ τ, Fr [223] σ τ → (∀ u, u < 1000 → τ 223 u = nI (zAc S wd w 5 u)) → zk (d + 2) 261 229 [.ref 195, a1, a2, .int wd, a4, a5, .int (nI w), .int (nI 5)] [] τ R) : ∀ (m k : Nat) (τ : zS), k + m = 5 → Fr [223] σ τ → (∀ u, u < 1000 → τ 223 u = nI (zAc S wd w k u)) → zk (d + 2) 261 163 [.ref 195, a1, a2, .int wd, a4, a5, .int (nI w), .int (nI k)] [] τ R := by
  intro m
  induction m with
  | zero =>
    intro k τ hk hF hv
    have e12 : k = 5 := by omega
    subst e12
    refine r_il7 zi_261_163 rfl ?_
    refine r_push zi_261_165 rfl ?_
    refine r_ic3 zi_261_166 rfl (fun _ => ?_) (fun c => absurd (by decide) c)
    exact h _ hF hv
  | succ m ih =>
    intro k τ hk hF hv
    have hsw := (hF 222 (by decide) w).trans (hS w hw)
    have bw := hb w hw
    have hu : zto w k < 1000 := zto_lt hw
    have hvu := hv (zto w k) hu
    have same : (¬ zbt wd k = true ∨ S w = 0) → ∀ u, u < 1000 → τ 223 u = nI (zAc S wd w (k + 1) u) := fun hc u hu => by
      rw [hv u hu]
      show _ = nI (zsum _ w + (zcw S wd w u k + (if zbt wd k = true ∧ zto w k = u then S w else 0)))
      rcases hc with hc | hc
      · rw [if_neg (fun z => hc z.1), Nat.add_zero]
      · rw [hc, ite_self, Nat.add_zero]
    by_cases h0 : S w = 0
    · refine r_il7 zi_261_163 rfl ?_
      refine r_push zi_261_165 rfl ?_
      refine n_ic3 (i := k) (j := 5) zi_261_166 rfl (by omega) (by omega) (fun c => absurd c (by omega)) (fun _ => ?_)
      refine r_al0 zi_261_169 rfl ?_
      refine q_getR zi_261_170 rfl cf_195_46 ?_
      refine r_il6 zi_261_173 rfl ?_
      refine r_alde zi_261_175 rfl w ca_222 (by first | rfl | (simp only [zI_add, zI_mul] <;> rfl)) (by first | omega | decide) (u := nI (S w)) (by first | exact hsw | ((repeat (first | rw [zup_ne (by first | decide | omega)] | rw [zup_nj (by first | decide | omega)] | rw [fil_ne (by first | decide | omega)])) <;> exact hsw) | (simp [up_rd, fil_rd]; exact hsw)) ?_
      refine n_if5 (i := (S w)) zi_261_176 rfl (by omega) (fun _ => ?_) (fun c => absurd c (by omega))
      refine r_in7 zi_261_223 rfl ?_
      rw [show (nI k + 1 : Int32) = nI (k + 1) from nI_add _ _]
      refine r_goto zi_261_226 rfl ?_
      exact ih (k + 1) _ (by omega) hF (same (Or.inr h0))
    · by_cases hbt : zbt wd k = true
      · have hb' := of_decide_eq_true hbt
        refine r_il7 zi_261_163 rfl ?_
        refine r_push zi_261_165 rfl ?_
        refine n_ic3 (i := k) (j := 5) zi_261_166 rfl (by omega) (by omega) (fun c => absurd c (by omega)) (fun _ => ?_)
        refine r_al0 zi_261_169 rfl ?_
        refine q_getR zi_261_170 rfl cf_195_46 ?_
        refine r_il6 zi_261_173 rfl ?_
        refine r_alde zi_261_175 rfl w ca_222 (by first | rfl | (simp only [zI_add, zI_mul] <;> rfl)) (by first | omega | decide) (u := nI (S w)) (by first | exact hsw | ((repeat (first | rw [zup_ne (by first | decide | omega)] | rw [zup_nj (by first | decide | omega)] | rw [fil_ne (by first | decide | omega)])) <;> exact hsw) | (simp [up_rd, fil_rd]; exact hsw)) ?_
        refine n_if5 (i := (S w)) zi_261_176 rfl (by omega) (fun c => absurd c (by omega)) (fun _ => ?_)
        refine r_al0 zi_261_179 rfl ?_
        refine r_il3 zi_261_180 rfl ?_
        refine r_il7 zi_261_181 rfl ?_
        refine q_cIV zi_261_183 rfl rfl rfl rfl rfl rfl rfl cf_195_0.ob (s_has (fun _ => ?_) (fun z => absurd hb' z))
        show zk _ _ 186 _ _ _ _
        refine r_if0 zi_261_186 rfl (fun c => absurd c (by decide)) (fun _ => ?_)
        refine r_al0 zi_261_189 rfl ?_
        refine q_getR zi_261_190 rfl cf_195_47 ?_
        refine r_al0 zi_261_193 rfl ?_
        refine r_il6 zi_261_194 rfl ?_
        refine r_il7 zi_261_196 rfl ?_
        refine q_cIV zi_261_198 rfl rfl rfl rfl rfl rfl rfl cf_195_0.ob (s_behind hw (by omega) ?_)
        show zk _ _ 201 _ _ _ _
        refine r_al0 zi_261_201 rfl ?_
        refine q_getR zi_261_202 rfl cf_195_47 ?_
        refine r_al0 zi_261_205 rfl ?_
        refine r_il6 zi_261_206 rfl ?_
        refine r_il7 zi_261_208 rfl ?_
        refine q_cIV zi_261_210 rfl rfl rfl rfl rfl rfl rfl cf_195_0.ob (s_behind hw (by omega) ?_)
        show zk _ _ 213 _ _ _ _
        refine r_alde zi_261_213 rfl (zto w k) ca_223 (by first | rfl | (simp only [zI_add, zI_mul] <;> rfl)) (by first | omega | decide) (u := nI (zAc S wd w k (zto w k))) (by first | exact hvu | ((repeat (first | rw [zup_ne (by first | decide | omega)] | rw [zup_nj (by first | decide | omega)] | rw [fil_ne (by first | decide | omega)])) <;> exact hvu) | (simp [up_rd, fil_rd]; exact hvu)) ?_
        refine r_al0 zi_261_214 rfl ?_
        refine q_getR zi_261_215 rfl cf_195_46 ?_
        refine r_il6 zi_261_218 rfl ?_
        refine r_alde zi_261_220 rfl w ca_222 (by first | rfl | (simp only [zI_add, zI_mul] <;> rfl)) (by first | omega | decide) (u := nI (S w)) (by first | exact hsw | ((repeat (first | rw [zup_ne (by first | decide | omega)] | rw [zup_nj (by first | decide | omega)] | rw [fil_ne (by first | decide | omega)])) <;> exact hsw) | (simp [up_rd, fil_rd]; exact hsw)) ?_
        refine r_b0 zi_261_221 rfl ?_
        rw [show (nI (zAc S wd w k (zto w k)) + nI (S w) : Int32) = nI ((zAc S wd w k (zto w k)) + (S w)) from nI_add _ _]
        refine r_ast zi_261_222 rfl (zto w k) ca_223 (by first | rfl | (simp only [zI_add, zI_mul] <;> rfl)) (by first | omega | decide) ?_
        refine r_in7 zi_261_223 rfl ?_
        rw [show (nI k + 1 : Int32) = nI (k + 1) from nI_add _ _]
        refine r_goto zi_261_226 rfl ?_
        refine ih (k + 1) _ (by omega) (hF.put (by decide)) (fun u hu2 => ?_)
        show _ = nI (zsum _ w + (zcw S wd w u k + (if zbt wd k = true ∧ zto w k = u then S w else 0)))
        rw [up_rd]
        by_cases e : u = zto w k
        · rw [if_pos ⟨rfl, e⟩, if_pos ⟨hbt, e.symm⟩, e, ← Nat.add_assoc]
        · rw [if_neg (fun z => e z.2), if_neg (fun z => e z.2.symm), Nat.add_zero]; exact hv u hu2
      · have hb' : ¬ wd >>> (nI k &&& 31) &&& 1 = 1 := fun z => hbt (decide_eq_true z)
        refine r_il7 zi_261_163 rfl ?_
        refine r_push zi_261_165 rfl ?_
        refine n_ic3 (i := k) (j := 5) zi_261_166 rfl (by omega) (by omega) (fun c => absurd c (by omega)) (fun _ => ?_)
        refine r_al0 zi_261_169 rfl ?_
        refine q_getR zi_261_170 rfl cf_195_46 ?_
        refine r_il6 zi_261_173 rfl ?_
        refine r_alde zi_261_175 rfl w ca_222 (by first | rfl | (simp only [zI_add, zI_mul] <;> rfl)) (by first | omega | decide) (u := nI (S w)) (by first | exact hsw | ((repeat (first | rw [zup_ne (by first | decide | omega)] | rw [zup_nj (by first | decide | omega)] | rw [fil_ne (by first | decide | omega)])) <;> exact hsw) | (simp [up_rd, fil_rd]; exact hsw)) ?_
        refine n_if5 (i := (S w)) zi_261_176 rfl (by omega) (fun c => absurd c (by omega)) (fun _ => ?_)
        refine r_al0 zi_261_179 rfl ?_
        refine r_il3 zi_261_180 rfl ?_
        refine r_il7 zi_261_181 rfl ?_
        refine q_cIV zi_261_183 rfl rfl rfl rfl rfl rfl rfl cf_195_0.ob (s_has (fun z => absurd z hb') (fun _ => ?_))
        show zk _ _ 186 _ _ _ _
        refine r_if0 zi_261_186 rfl (fun _ => ?_) (fun c => absurd (by decide) c)
        refine r_in7 zi_261_223 rfl ?_
        rw [show (nI k + 1 : Int32) = nI (k + 1) from nI_add _ _]
        refine r_goto zi_261_226 rfl ?_
        exact ih (k + 1) _ (by omega) hF (same (Or.inl hbt))
theorem l_ms2 {d : Nat} {wd : Int32} {σ : zS} {R : Option Int32 → zS → Prop} {S : Nat → Nat} {a1 a2 a4 a5 : Value} (hS : zSB σ 222 S) (hb : ∀ v, v < 1000 → S v < 100000000) (h : ∀ τ u7, Fr [223] σ τ → (∀ u, u < 1000 → τ 223 u = nI (zsum (fun w => zcw S wd w u 5) 1000)) → zk (d + 2) 261 235 [.ref 195, a1, a2, .int wd, a4, a5, .int (nI 1000), u7] [] τ R) : ∀ (m w : Nat) (τ : zS) (u7 : Value), w + m = 1000 → Fr [223] σ τ → (∀ u, u < 1000 → τ 223 u = nI (zsum (fun w => zcw S wd w u 5) w)) → zk (d + 2) 261 152 [.ref 195, a1, a2, .int wd, a4, a5, .int (nI w), u7] [] τ R := by
  intro m
  induction m with
  | zero =>
    intro w τ u7 hw hF hv
    have e12 : w = 1000 := by omega
    subst e12
    refine r_il6 zi_261_152 rfl ?_
    refine r_push zi_261_154 rfl ?_
    refine r_ic3 zi_261_157 rfl (fun _ => ?_) (fun c => absurd (by decide) c)
    exact h _ _ hF hv
  | succ m ih =>
    intro w τ u7 hw hF hv
    refine r_il6 zi_261_152 rfl ?_
    refine r_push zi_261_154 rfl ?_
    refine n_ic3 (i := w) (j := 1000) zi_261_157 rfl (by omega) (by omega) (fun c => absurd c (by omega)) (fun _ => ?_)
    refine r_push zi_261_160 rfl ?_
    refine r_is7 zi_261_161 rfl ?_
    refine l_ms1 (σ := τ) (S := S) (fun v hv => (hF 222 (by decide) v).trans (hS v hv)) hb (by omega) (fun τ2 hF2 hv2 => ?_) 5 0 τ (by omega) Fr.rf (fun u hu => by rw [hv u hu]; rfl)
    show zk _ _ 229 _ _ _ _
    refine r_in6 zi_261_229 rfl ?_
    rw [show (nI w + 1 : Int32) = nI (w + 1) from nI_add _ _]
    refine r_goto zi_261_232 rfl ?_
    exact ih (w + 1) _ _ (by omega) (hF.tr hF2) hv2
theorem l_ms0 {d : Nat} {σ : zS} {R : Option Int32 → zS → Prop} {a1 a2 a3 a4 a5 : Value} {u7 : Value} (h : ∀ τ, Fr [223] σ τ → (∀ u, u < 1000 → τ 223 u = 0) → zk d 261 149 [.ref 195, a1, a2, a3, a4, a5, .int (nI 1000), u7] [] τ R) : ∀ (m v : Nat) (τ : zS), v + m = 1000 → Fr [223] σ τ → (∀ u, u < v → τ 223 u = 0) → zk d 261 127 [.ref 195, a1, a2, a3, a4, a5, .int (nI v), u7] [] τ R := by
  intro m
  induction m with
  | zero =>
    intro v τ hw hF hv
    have e12 : v = 1000 := by omega
    subst e12
    refine r_il6 zi_261_127 rfl ?_
    refine r_push zi_261_129 rfl ?_
    refine r_ic3 zi_261_132 rfl (fun _ => ?_) (fun c => absurd (by decide) c)
    exact h _ hF hv
  | succ m ih =>
    intro v τ hw hF hv
    refine r_il6 zi_261_127 rfl ?_
    refine r_push zi_261_129 rfl ?_
    refine n_ic3 (i := v) (j := 1000) zi_261_132 rfl (by omega) (by omega) (fun c => absurd c (by omega)) (fun _ => ?_)
    refine r_al0 zi_261_135 rfl ?_
    refine q_getR zi_261_136 rfl cf_195_47 ?_
    refine r_il6 zi_261_139 rfl ?_
    refine r_push zi_261_141 rfl ?_
    refine r_ast zi_261_142 rfl v ca_223 (by first | rfl | (simp only [zI_add, zI_mul] <;> rfl)) (by first | omega | decide) ?_
    refine r_in6 zi_261_143 rfl ?_
    rw [show (nI v + 1 : Int32) = nI (v + 1) from nI_add _ _]
    refine r_goto zi_261_146 rfl ?_
    refine ih (v + 1) _ (by omega) (hF.put (by decide)) (fun u hu => ?_)
    rw [up_rd]
    by_cases e : u = v
    · rw [if_pos ⟨rfl, e⟩]
    · rw [if_neg (fun z => e z.2)]; exact hv u (by omega)
theorem l_ms3 {d : Nat} {σ : zS} {R : Option Int32 → zS → Prop} {a1 a2 a3 a4 a5 : Value} {u7 : Value} (h : ∀ τ, Fr [222] σ τ → (∀ u, u < 1000 → τ 222 u = σ 223 u) → zk d 261 266 [.ref 195, a1, a2, a3, a4, a5, .int (nI 1000), u7] [] τ R) : ∀ (m v : Nat) (τ : zS), v + m = 1000 → Fr [222] σ τ → (∀ u, u < v → τ 222 u = σ 223 u) → zk d 261 238 [.ref 195, a1, a2, a3, a4, a5, .int (nI v), u7] [] τ R := by
  intro m
  induction m with
  | zero =>
    intro v τ hw hF hv
    have e12 : v = 1000 := by omega
    subst e12
    refine r_il6 zi_261_238 rfl ?_
    refine r_push zi_261_240 rfl ?_
    refine r_ic3 zi_261_243 rfl (fun _ => ?_) (fun c => absurd (by decide) c)
    exact h _ hF hv
  | succ m ih =>
    intro v τ hw hF hv
    have e1 := hF 223 (by decide) v
    refine r_il6 zi_261_238 rfl ?_
    refine r_push zi_261_240 rfl ?_
    refine n_ic3 (i := v) (j := 1000) zi_261_243 rfl (by omega) (by omega) (fun c => absurd c (by omega)) (fun _ => ?_)
    refine r_al0 zi_261_246 rfl ?_
    refine q_getR zi_261_247 rfl cf_195_46 ?_
    refine r_il6 zi_261_250 rfl ?_
    refine r_al0 zi_261_252 rfl ?_
    refine q_getR zi_261_253 rfl cf_195_47 ?_
    refine r_il6 zi_261_256 rfl ?_
    refine r_ald zi_261_258 rfl v ca_223 (by first | rfl | (simp only [zI_add, zI_mul] <;> rfl)) (by first | omega | decide) ?_
    rw [e1]
    refine r_ast zi_261_259 rfl v ca_222 (by first | rfl | (simp only [zI_add, zI_mul] <;> rfl)) (by first | omega | decide) ?_
    refine r_in6 zi_261_260 rfl ?_
    rw [show (nI v + 1 : Int32) = nI (v + 1) from nI_add _ _]
    refine r_goto zi_261_263 rfl ?_
    refine ih (v + 1) _ (by omega) (hF.put (by decide)) (fun u hu => ?_)
    rw [up_rd]
    by_cases e : u = v
    · rw [if_pos ⟨rfl, e⟩, e]
    · rw [if_neg (fun z => e z.2)]; exact hv u (by omega)
theorem l_ms4 {d x y : Nat} {wd what : Int32} {σ : zS} {Q : Int32 → zS → Prop} (hx : x < 1000) (hy : y < 1000) (h1 : ∀ n, n ≤ 8 → zdl wd x n y → ∀ τ, Fr [222, 223] σ τ → Q (if what = 0 then nI n else nI (zSw wd x n y)) τ) (h2 : (∀ n, n ≤ 8 → zSw wd x n y = 0) → ∀ τ, Fr [222, 223] σ τ → Q (-1) τ) : ∀ (m n : Nat) (τ : zS) (u6 u7 : Value), n + m = 9 → Fr [222, 223] σ τ → zSB τ 222 (zSw wd x n) → (∀ j, j < n → zSw wd x j y = 0) → zk (d + 2) 261 91 [.ref 195, .int (nI x), .int (nI y), .int wd, .int what, .int (nI n), u6, u7] [] τ (fun r t => ∃ v, r = some v ∧ Q v t) := by
  intro m
  induction m with
  | zero =>
    intro n τ u6 u7 hn hF hS hz
    have e12 : n = 9 := by omega
    subst e12
    refine r_il5 zi_261_91 rfl ?_
    refine r_push zi_261_93 rfl ?_
    refine r_ic3 zi_261_95 rfl (fun _ => ?_) (fun c => absurd (by decide) c)
    refine r_push zi_261_272 rfl ?_
    refine r_retI zi_261_273 rfl ?_
    exact ⟨_, rfl, h2 (fun j hj => hz j (by omega)) _ hF⟩
  | succ m ih =>
    intro n τ u6 u7 hn hF hS hz
    have hsy := hS y hy
    have by' := zSw_le wd x n y hy (by omega)
    by_cases h0 : zSw wd x n y = 0
    · have hbd : ∀ v, v < 1000 → zSw wd x n v < 100000000 := fun v hv => by have := zSw_le wd x n v hv (by omega); omega
      refine r_il5 zi_261_91 rfl ?_
      refine r_push zi_261_93 rfl ?_
      refine n_ic3 (i := n) (j := 9) zi_261_95 rfl (by omega) (by omega) (fun c => absurd c (by omega)) (fun _ => ?_)
      refine r_al0 zi_261_98 rfl ?_
      refine q_getR zi_261_99 rfl cf_195_46 ?_
      refine r_il2 zi_261_102 rfl ?_
      refine r_alde zi_261_103 rfl y ca_222 (by first | rfl | (simp only [zI_add, zI_mul] <;> rfl)) (by first | omega | decide) (u := nI (zSw wd x n y)) (by first | exact hsy | ((repeat (first | rw [zup_ne (by first | decide | omega)] | rw [zup_nj (by first | decide | omega)] | rw [fil_ne (by first | decide | omega)])) <;> exact hsy) | (simp [up_rd, fil_rd]; exact hsy)) ?_
      refine n_if5 (i := (zSw wd x n y)) zi_261_104 rfl (by omega) (fun _ => ?_) (fun c => absurd c (by omega))
      refine r_push zi_261_124 rfl ?_
      refine r_is6 zi_261_125 rfl ?_
      refine l_ms0 (fun τ2 hF2 hv2 => ?_) 1000 0 τ (by omega) Fr.rf (fun u hu => by omega)
      show zk _ _ 149 _ _ _ _
      refine r_push zi_261_149 rfl ?_
      refine r_is6 zi_261_150 rfl ?_
      refine l_ms2 (σ := τ2) (S := zSw wd x n) (fun v hv => (hF2 222 (by decide) v).trans (hS v hv)) hbd (fun τ3 u73 hF3 hv3 => ?_) 1000 0 τ2 _ (by omega) Fr.rf (fun u hu => by rw [hv2 u hu]; rfl)
      show zk _ _ 235 _ _ _ _
      refine r_push zi_261_235 rfl ?_
      refine r_is6 zi_261_236 rfl ?_
      refine l_ms3 (σ := τ3) (fun τ4 hF4 hv4 => ?_) 1000 0 τ3 (by omega) Fr.rf (fun u hu => by omega)
      refine r_in5 zi_261_266 rfl ?_
      rw [show (nI n + 1 : Int32) = nI (n + 1) from nI_add _ _]
      refine r_goto zi_261_269 rfl ?_
      exact ih (n + 1) τ4 _ _ (by omega) (((hF.tr (hF2.sub (by simp))).tr (hF3.sub (by simp))).tr (hF4.sub (by simp))) (fun v hv => by rw [hv4 v hv, hv3 v hv]; rfl) (fun j hj => by
        by_cases e : j = n
        · subst e; exact h0
        · exact hz j (by omega))
    · have hd : zdl wd x n y := ⟨by omega, hz⟩
      have hq := h1 n (by omega) hd τ hF
      by_cases hw : what = 0
      · rw [if_pos hw] at hq
        refine r_il5 zi_261_91 rfl ?_
        refine r_push zi_261_93 rfl ?_
        refine n_ic3 (i := n) (j := 9) zi_261_95 rfl (by omega) (by omega) (fun c => absurd c (by omega)) (fun _ => ?_)
        refine r_al0 zi_261_98 rfl ?_
        refine q_getR zi_261_99 rfl cf_195_46 ?_
        refine r_il2 zi_261_102 rfl ?_
        refine r_alde zi_261_103 rfl y ca_222 (by first | rfl | (simp only [zI_add, zI_mul] <;> rfl)) (by first | omega | decide) (u := nI (zSw wd x n y)) (by first | exact hsy | ((repeat (first | rw [zup_ne (by first | decide | omega)] | rw [zup_nj (by first | decide | omega)] | rw [fil_ne (by first | decide | omega)])) <;> exact hsy) | (simp [up_rd, fil_rd]; exact hsy)) ?_
        refine n_if5 (i := (zSw wd x n y)) zi_261_104 rfl (by omega) (fun c => absurd c (by omega)) (fun _ => ?_)
        refine r_il4 zi_261_107 rfl ?_
        refine r_if1 zi_261_109 rfl (fun c => absurd hw c) (fun _ => ?_)
        refine r_il5 zi_261_112 rfl ?_
        refine r_goto zi_261_114 rfl ?_
        refine r_retI zi_261_123 rfl ?_
        exact ⟨_, rfl, hq⟩
      · rw [if_neg hw] at hq
        refine r_il5 zi_261_91 rfl ?_
        refine r_push zi_261_93 rfl ?_
        refine n_ic3 (i := n) (j := 9) zi_261_95 rfl (by omega) (by omega) (fun c => absurd c (by omega)) (fun _ => ?_)
        refine r_al0 zi_261_98 rfl ?_
        refine q_getR zi_261_99 rfl cf_195_46 ?_
        refine r_il2 zi_261_102 rfl ?_
        refine r_alde zi_261_103 rfl y ca_222 (by first | rfl | (simp only [zI_add, zI_mul] <;> rfl)) (by first | omega | decide) (u := nI (zSw wd x n y)) (by first | exact hsy | ((repeat (first | rw [zup_ne (by first | decide | omega)] | rw [zup_nj (by first | decide | omega)] | rw [fil_ne (by first | decide | omega)])) <;> exact hsy) | (simp [up_rd, fil_rd]; exact hsy)) ?_
        refine n_if5 (i := (zSw wd x n y)) zi_261_104 rfl (by omega) (fun c => absurd c (by omega)) (fun _ => ?_)
        refine r_il4 zi_261_107 rfl ?_
        refine r_if1 zi_261_109 rfl (fun _ => ?_) (fun c => absurd c hw)
        refine r_al0 zi_261_117 rfl ?_
        refine q_getR zi_261_118 rfl cf_195_46 ?_
        refine r_il2 zi_261_121 rfl ?_
        refine r_alde zi_261_122 rfl y ca_222 (by first | rfl | (simp only [zI_add, zI_mul] <;> rfl)) (by first | omega | decide) (u := nI (zSw wd x n y)) (by first | exact hsy | ((repeat (first | rw [zup_ne (by first | decide | omega)] | rw [zup_nj (by first | decide | omega)] | rw [fil_ne (by first | decide | omega)])) <;> exact hsy) | (simp [up_rd, fil_rd]; exact hsy)) ?_
        refine r_retI zi_261_123 rfl ?_
        exact ⟨_, rfl, hq⟩
theorem l_msi {d x y : Nat} {wd what : Int32} {σ : zS} {R : Option Int32 → zS → Prop} {u6 u7 : Value} (h : ∀ τ, Fr [222] σ τ → zSB τ 222 (zSw wd x 0) → zk d 261 88 [.ref 195, .int (nI x), .int (nI y), .int wd, .int what, .int (nI 1000), u6, u7] [] τ R) : ∀ (m v : Nat) (τ : zS), v + m = 1000 → x < 1000 → Fr [222] σ τ → (∀ u, u < v → τ 222 u = nI (zSw wd x 0 u)) → zk d 261 56 [.ref 195, .int (nI x), .int (nI y), .int wd, .int what, .int (nI v), u6, u7] [] τ R := by
  intro m
  induction m with
  | zero =>
    intro v τ hw hx hF hv
    have e12 : v = 1000 := by omega
    subst e12
    refine r_il5 zi_261_56 rfl ?_
    refine r_push zi_261_58 rfl ?_
    refine r_ic3 zi_261_61 rfl (fun _ => ?_) (fun c => absurd (by decide) c)
    exact h _ hF hv
  | succ m ih =>
    intro v τ hw hx hF hv
    refine r_il5 zi_261_56 rfl ?_
    refine r_push zi_261_58 rfl ?_
    refine n_ic3 (i := v) (j := 1000) zi_261_61 rfl (by omega) (by omega) (fun c => absurd c (by omega)) (fun _ => ?_)
    refine r_al0 zi_261_64 rfl ?_
    refine q_getR zi_261_65 rfl cf_195_46 ?_
    refine r_il5 zi_261_68 rfl ?_
    refine r_il5 zi_261_70 rfl ?_
    refine r_il1 zi_261_72 rfl ?_
    refine n_ic1 (i := v) (j := x) zi_261_73 rfl (by omega) (by omega) (fun c1 => ?_) (fun c1 => ?_)
    · refine r_push zi_261_80 rfl ?_
      refine r_ast zi_261_81 rfl v ca_222 (by first | rfl | (simp only [zI_add, zI_mul] <;> rfl)) (by first | omega | decide) ?_
      refine r_in5 zi_261_82 rfl ?_
      rw [show (nI v + 1 : Int32) = nI (v + 1) from nI_add _ _]
      refine r_goto zi_261_85 rfl ?_
      refine ih (v + 1) _ (by omega) hx (hF.put (by decide)) (fun u hu => ?_)
      rw [up_rd]
      show _ = nI (if u = x then 1 else 0)
      by_cases e : u = v
      · rw [if_pos ⟨rfl, e⟩]
        first | (rw [if_pos (by omega)]; rfl) | (rw [if_neg (by omega)]; rfl)
      · rw [if_neg (fun z => e z.2)]; exact hv u (by omega)
    · refine r_push zi_261_76 rfl ?_
      refine r_goto zi_261_77 rfl ?_
      refine r_ast zi_261_81 rfl v ca_222 (by first | rfl | (simp only [zI_add, zI_mul] <;> rfl)) (by first | omega | decide) ?_
      refine r_in5 zi_261_82 rfl ?_
      rw [show (nI v + 1 : Int32) = nI (v + 1) from nI_add _ _]
      refine r_goto zi_261_85 rfl ?_
      refine ih (v + 1) _ (by omega) hx (hF.put (by decide)) (fun u hu => ?_)
      rw [up_rd]
      show _ = nI (if u = x then 1 else 0)
      by_cases e : u = v
      · rw [if_pos ⟨rfl, e⟩]
        first | (rw [if_pos (by omega)]; rfl) | (rw [if_neg (by omega)]; rfl)
      · rw [if_neg (fun z => e z.2)]; exact hv u (by omega)
def zsOK (x y wd what : Int32) : Prop := 0 ≤ x ∧ x ≤ 999 ∧ 0 ≤ y ∧ y ≤ 999 ∧ 0 ≤ wd ∧ wd ≤ 31 ∧ 0 ≤ what ∧ what ≤ 1
theorem s_msaid {d : Nat} {σ : zS} {Q : Int32 → zS → Prop} {v w wd what : Int32} (h1 : ∀ x y n, x < 1000 → y < 1000 → v = nI x → w = nI y → n ≤ 8 → zdl wd x n y → ∀ τ, Fr [222, 223] (up σ 195 0 0) τ → Q (if what = 0 then nI n else nI (zSw wd x n y)) τ) (h2 : ∀ x y, x < 1000 → y < 1000 → v = nI x → w = nI y → (∀ n, n ≤ 8 → zSw wd x n y = 0) → ∀ τ, Fr [222, 223] (up σ 195 0 0) τ → Q (-1) τ) (h0 : ¬ zsOK v w wd what → Q (-1) (up σ 195 0 0)) : zI1 (d + 2) 261 [.ref 195, .int v, .int w, .int wd, .int what] σ Q := by
  show zk _ _ 0 [.ref 195, .int v, .int w, .int wd, .int what, zun, zun, zun] [] _ _
  by_cases hk : zsOK v w wd what
  · obtain ⟨a1, a2, a3, a4, a5, a6, a7, a8⟩ := id hk
    obtain ⟨x, hx, rfl⟩ := zI_ofle (n := 999) a1 a2 (by omega)
    obtain ⟨y, hy, rfl⟩ := zI_ofle (n := 999) a3 a4 (by omega)
    refine r_al0 zi_261_0 rfl ?_
    refine r_push zi_261_1 rfl ?_
    refine q_put zi_261_2 rfl cf_195_0 rfl ?_
    refine r_al0 zi_261_5 rfl ?_
    refine r_il1 zi_261_6 rfl ?_
    refine r_push zi_261_7 rfl ?_
    refine r_push zi_261_8 rfl ?_
    refine q_cIV zi_261_11 rfl rfl rfl rfl rfl rfl rfl cf_195_0.ob (s_isIn (fun _ _ => ?_) (fun z => absurd ⟨a1, a2⟩ z))
    show zk _ _ 14 _ _ _ _
    refine r_if0 zi_261_14 rfl (fun c => absurd c (by decide)) (fun _ => ?_)
    refine r_al0 zi_261_17 rfl ?_
    refine r_il2 zi_261_18 rfl ?_
    refine r_push zi_261_19 rfl ?_
    refine r_push zi_261_20 rfl ?_
    refine q_cIV zi_261_23 rfl rfl rfl rfl rfl rfl rfl cf_195_0.ob (s_isIn (fun _ _ => ?_) (fun z => absurd ⟨a3, a4⟩ z))
    show zk _ _ 26 _ _ _ _
    refine r_if0 zi_261_26 rfl (fun c => absurd c (by decide)) (fun _ => ?_)
    refine r_al0 zi_261_29 rfl ?_
    refine r_il3 zi_261_30 rfl ?_
    refine r_push zi_261_31 rfl ?_
    refine r_push zi_261_32 rfl ?_
    refine q_cIV zi_261_34 rfl rfl rfl rfl rfl rfl rfl cf_195_0.ob (s_isIn (fun _ _ => ?_) (fun z => absurd ⟨a5, a6⟩ z))
    show zk _ _ 37 _ _ _ _
    refine r_if0 zi_261_37 rfl (fun c => absurd c (by decide)) (fun _ => ?_)
    refine r_al0 zi_261_40 rfl ?_
    refine r_il4 zi_261_41 rfl ?_
    refine r_push zi_261_43 rfl ?_
    refine r_push zi_261_44 rfl ?_
    refine q_cIV zi_261_45 rfl rfl rfl rfl rfl rfl rfl cf_195_0.ob (s_isIn (fun _ _ => ?_) (fun z => absurd ⟨a7, a8⟩ z))
    show zk _ _ 48 _ _ _ _
    refine r_if1 zi_261_48 rfl (fun _ => ?_) (fun c => absurd c (by decide))
    refine r_push zi_261_53 rfl ?_
    refine r_is5 zi_261_54 rfl ?_
    refine l_msi (fun τ hF hS => ?_) 1000 0 _ (by omega) (by omega) Fr.rf (fun u hu => by omega)
    show zk _ _ 88 _ _ _ _
    refine r_push zi_261_88 rfl ?_
    refine r_is5 zi_261_89 rfl ?_
    exact l_ms4 (σ := up σ 195 0 0) (by omega) (by omega) (fun n hn hd => h1 x y n (by omega) (by omega) rfl rfl hn hd) (fun hz => h2 x y (by omega) (by omega) rfl rfl hz) 9 0 τ _ _ (by omega) (hF.sub (by simp)) hS (fun j hj => by omega)
  · have h0 := h0 hk
    refine r_al0 zi_261_0 rfl ?_
    refine r_push zi_261_1 rfl ?_
    refine q_put zi_261_2 rfl cf_195_0 rfl ?_
    refine r_al0 zi_261_5 rfl ?_
    refine r_il1 zi_261_6 rfl ?_
    refine r_push zi_261_7 rfl ?_
    refine r_push zi_261_8 rfl ?_
    refine q_cIV zi_261_11 rfl rfl rfl rfl rfl rfl rfl cf_195_0.ob (s_isIn (fun i1 a1 => ?_) (fun i1 => ?_))
    · show zk _ _ 14 _ _ _ _
      refine r_if0 zi_261_14 rfl (fun c => absurd c (by decide)) (fun _ => ?_)
      refine r_al0 zi_261_17 rfl ?_
      refine r_il2 zi_261_18 rfl ?_
      refine r_push zi_261_19 rfl ?_
      refine r_push zi_261_20 rfl ?_
      refine q_cIV zi_261_23 rfl rfl rfl rfl rfl rfl rfl cf_195_0.ob (s_isIn (fun i2 a2 => ?_) (fun i2 => ?_))
      · show zk _ _ 26 _ _ _ _
        refine r_if0 zi_261_26 rfl (fun c => absurd c (by decide)) (fun _ => ?_)
        refine r_al0 zi_261_29 rfl ?_
        refine r_il3 zi_261_30 rfl ?_
        refine r_push zi_261_31 rfl ?_
        refine r_push zi_261_32 rfl ?_
        refine q_cIV zi_261_34 rfl rfl rfl rfl rfl rfl rfl cf_195_0.ob (s_isIn (fun i3 a3 => ?_) (fun i3 => ?_))
        · show zk _ _ 37 _ _ _ _
          refine r_if0 zi_261_37 rfl (fun c => absurd c (by decide)) (fun _ => ?_)
          refine r_al0 zi_261_40 rfl ?_
          refine r_il4 zi_261_41 rfl ?_
          refine r_push zi_261_43 rfl ?_
          refine r_push zi_261_44 rfl ?_
          refine q_cIV zi_261_45 rfl rfl rfl rfl rfl rfl rfl cf_195_0.ob (s_isIn (fun i4 a4 => ?_) (fun i4 => ?_))
          · show zk _ _ 48 _ _ _ _
            refine r_if1 zi_261_48 rfl (fun _ => ?_) (fun c => absurd c (by decide))
            exact absurd ⟨by assumption, by assumption, by assumption, by assumption, by assumption, by assumption, by assumption, by assumption⟩ hk
          · show zk _ _ 48 _ _ _ _
            refine r_if1 zi_261_48 rfl (fun c => absurd (by decide) c) (fun _ => ?_)
            refine r_push zi_261_51 rfl ?_
            refine r_retI zi_261_52 rfl ?_
            exact ⟨_, rfl, h0⟩
        · show zk _ _ 37 _ _ _ _
          refine r_if0 zi_261_37 rfl (fun _ => ?_) (fun c => absurd (by decide) c)
          refine r_push zi_261_51 rfl ?_
          refine r_retI zi_261_52 rfl ?_
          exact ⟨_, rfl, h0⟩
      · show zk _ _ 26 _ _ _ _
        refine r_if0 zi_261_26 rfl (fun _ => ?_) (fun c => absurd (by decide) c)
        refine r_push zi_261_51 rfl ?_
        refine r_retI zi_261_52 rfl ?_
        exact ⟨_, rfl, h0⟩
    · show zk _ _ 14 _ _ _ _
      refine r_if0 zi_261_14 rfl (fun _ => ?_) (fun c => absurd (by decide) c)
      refine r_push zi_261_51 rfl ?_
      refine r_retI zi_261_52 rfl ?_
      exact ⟨_, rfl, h0⟩
theorem s_ksaid {d : Nat} {σ : zS} {Q : Int32 → zS → Prop} {v w wd what : Int32} (h1 : ∀ x y n, x < 1000 → y < 1000 → v = nI x → w = nI y → n ≤ 8 → zdl wd x n y → ∀ τ, Fr [184, 185, 186] σ τ → Q (if what = 0 then nI n else nI (zSw wd x n y)) τ) (h2 : ∀ x y, x < 1000 → y < 1000 → v = nI x → w = nI y → (∀ n, n ≤ 8 → zSw wd x n y = 0) → ∀ τ, Fr [184, 185, 186] σ τ → Q (-1) τ) (h0 : ¬ zsOK v w wd what → Q (-1) σ) : zI1 (d + 3) 139 [.ref 0, .int v, .int w, .int wd, .int what] σ Q := by
  show zk _ _ 0 [.ref 0, .int v, .int w, .int wd, .int what, zun] [] _ _
  by_cases hk : zsOK v w wd what
  · obtain ⟨a1, a2, a3, a4, a5, a6, a7, a8⟩ := id hk
    obtain ⟨x, hx, rfl⟩ := zI_ofle (n := 999) a1 a2 (by omega)
    obtain ⟨y, hy, rfl⟩ := zI_ofle (n := 999) a3 a4 (by omega)
    by_cases hw : what = 0
    · refine r_il1 zi_139_0 rfl ?_
      refine r_push zi_139_1 rfl ?_
      refine r_push zi_139_2 rfl ?_
      refine r_cIS zi_139_5 rfl rfl rfl rfl rfl rfl (s_within (fun _ _ => ?_) (fun z => absurd ⟨a1, a2⟩ z))
      show zk _ _ 8 _ _ _ _
      refine r_if0 zi_139_8 rfl (fun c => absurd c (by decide)) (fun _ => ?_)
      refine r_il2 zi_139_11 rfl ?_
      refine r_push zi_139_12 rfl ?_
      refine r_push zi_139_13 rfl ?_
      refine r_cIS zi_139_16 rfl rfl rfl rfl rfl rfl (s_within (fun _ _ => ?_) (fun z => absurd ⟨a3, a4⟩ z))
      show zk _ _ 19 _ _ _ _
      refine r_if0 zi_139_19 rfl (fun c => absurd c (by decide)) (fun _ => ?_)
      refine r_il3 zi_139_22 rfl ?_
      refine r_push zi_139_23 rfl ?_
      refine r_push zi_139_24 rfl ?_
      refine r_cIS zi_139_26 rfl rfl rfl rfl rfl rfl (s_within (fun _ _ => ?_) (fun z => absurd ⟨a5, a6⟩ z))
      show zk _ _ 29 _ _ _ _
      refine r_if0 zi_139_29 rfl (fun c => absurd c (by decide)) (fun _ => ?_)
      refine r_il4 zi_139_32 rfl ?_
      refine r_push zi_139_34 rfl ?_
      refine r_push zi_139_35 rfl ?_
      refine r_cIS zi_139_36 rfl rfl rfl rfl rfl rfl (s_within (fun _ _ => ?_) (fun z => absurd ⟨a7, a8⟩ z))
      show zk _ _ 39 _ _ _ _
      refine r_if1 zi_139_39 rfl (fun _ => ?_) (fun c => absurd c (by decide))
      refine r_al0 zi_139_44 rfl ?_
      refine q_getR zi_139_45 rfl cf_0_8 ?_
      refine r_il1 zi_139_48 rfl ?_
      refine r_il2 zi_139_49 rfl ?_
      refine r_il3 zi_139_50 rfl ?_
      refine q_cIV zi_139_51 rfl rfl rfl rfl rfl rfl rfl cf_177_0.ob (s_kwords (by omega) (by omega) (fun n hn hd τ hF he => ?_) (fun hz τ hF => ?_))
      · show zk _ _ 54 _ _ _ _
        refine r_is5 zi_139_54 rfl ?_
        refine r_il4 zi_139_56 rfl ?_
        refine r_if0 zi_139_58 rfl (fun _ => ?_) (fun c => absurd hw c)
        refine r_il5 zi_139_67 rfl ?_
        refine r_goto zi_139_69 rfl ?_
        refine r_retI zi_139_81 rfl ?_
        first | exact ⟨_, rfl, by have h := h1 x y n (by omega) (by omega) rfl rfl hn hd τ hF; rw [if_pos hw] at h; exact h⟩ | exact ⟨_, rfl, h2 x y (by omega) (by omega) rfl rfl hz τ hF⟩
      · show zk _ _ 54 _ _ _ _
        refine r_is5 zi_139_54 rfl ?_
        refine r_il4 zi_139_56 rfl ?_
        refine r_if0 zi_139_58 rfl (fun _ => ?_) (fun c => absurd hw c)
        refine r_il5 zi_139_67 rfl ?_
        refine r_goto zi_139_69 rfl ?_
        refine r_retI zi_139_81 rfl ?_
        first | exact ⟨_, rfl, by have h := h1 x y n (by omega) (by omega) rfl rfl hn hd τ hF; rw [if_pos hw] at h; exact h⟩ | exact ⟨_, rfl, h2 x y (by omega) (by omega) rfl rfl hz τ hF⟩
    · refine r_il1 zi_139_0 rfl ?_
      refine r_push zi_139_1 rfl ?_
      refine r_push zi_139_2 rfl ?_
      refine r_cIS zi_139_5 rfl rfl rfl rfl rfl rfl (s_within (fun _ _ => ?_) (fun z => absurd ⟨a1, a2⟩ z))
      show zk _ _ 8 _ _ _ _
      refine r_if0 zi_139_8 rfl (fun c => absurd c (by decide)) (fun _ => ?_)
      refine r_il2 zi_139_11 rfl ?_
      refine r_push zi_139_12 rfl ?_
      refine r_push zi_139_13 rfl ?_
      refine r_cIS zi_139_16 rfl rfl rfl rfl rfl rfl (s_within (fun _ _ => ?_) (fun z => absurd ⟨a3, a4⟩ z))
      show zk _ _ 19 _ _ _ _
      refine r_if0 zi_139_19 rfl (fun c => absurd c (by decide)) (fun _ => ?_)
      refine r_il3 zi_139_22 rfl ?_
      refine r_push zi_139_23 rfl ?_
      refine r_push zi_139_24 rfl ?_
      refine r_cIS zi_139_26 rfl rfl rfl rfl rfl rfl (s_within (fun _ _ => ?_) (fun z => absurd ⟨a5, a6⟩ z))
      show zk _ _ 29 _ _ _ _
      refine r_if0 zi_139_29 rfl (fun c => absurd c (by decide)) (fun _ => ?_)
      refine r_il4 zi_139_32 rfl ?_
      refine r_push zi_139_34 rfl ?_
      refine r_push zi_139_35 rfl ?_
      refine r_cIS zi_139_36 rfl rfl rfl rfl rfl rfl (s_within (fun _ _ => ?_) (fun z => absurd ⟨a7, a8⟩ z))
      show zk _ _ 39 _ _ _ _
      refine r_if1 zi_139_39 rfl (fun _ => ?_) (fun c => absurd c (by decide))
      refine r_al0 zi_139_44 rfl ?_
      refine q_getR zi_139_45 rfl cf_0_8 ?_
      refine r_il1 zi_139_48 rfl ?_
      refine r_il2 zi_139_49 rfl ?_
      refine r_il3 zi_139_50 rfl ?_
      refine q_cIV zi_139_51 rfl rfl rfl rfl rfl rfl rfl cf_177_0.ob (s_kwords (by omega) (by omega) (fun n hn hd τ hF he => ?_) (fun hz τ hF => ?_))
      · show zk _ _ 54 _ _ _ _
        refine r_is5 zi_139_54 rfl ?_
        refine r_il4 zi_139_56 rfl ?_
        refine r_if0 zi_139_58 rfl (fun c => absurd c hw) (fun _ => ?_)
        refine r_il5 zi_139_61 rfl ?_
        refine r_push zi_139_63 rfl ?_
        refine r_ic1 zi_139_64 rfl (fun c6 => ?_) (fun c6 => ?_)
        · refine r_al0 zi_139_72 rfl ?_
          refine q_getR zi_139_73 rfl cf_0_8 ?_
          refine q_getR zi_139_76 rfl cf_177_8 ?_
          refine r_il2 zi_139_79 rfl ?_
          refine r_ald zi_139_80 rfl y ca_185 (by first | rfl | (simp only [zI_add, zI_mul] <;> rfl)) (by first | omega | decide) ?_
          rw [he]
          refine r_retI zi_139_81 rfl ?_
          first
          | exact ⟨_, rfl, by have h := h1 x y n (by omega) (by omega) rfl rfl hn hd τ hF; rw [if_neg hw] at h; exact h⟩
          | exact ⟨_, rfl, h2 x y (by omega) (by omega) rfl rfl hz τ hF⟩
          | (exfalso; exact absurd (nI_pos' (n := n) (by omega)) (by rw [show nI n = -1 by assumption]; decide))
        · refine r_il5 zi_139_67 rfl ?_
          refine r_goto zi_139_69 rfl ?_
          refine r_retI zi_139_81 rfl ?_
          first
          | exact ⟨_, rfl, by have h := h1 x y n (by omega) (by omega) rfl rfl hn hd τ hF; rw [if_neg hw] at h; exact h⟩
          | exact ⟨_, rfl, h2 x y (by omega) (by omega) rfl rfl hz τ hF⟩
          | (exfalso; exact absurd (nI_pos' (n := n) (by omega)) (by rw [show nI n = -1 by assumption]; decide))
      · show zk _ _ 54 _ _ _ _
        refine r_is5 zi_139_54 rfl ?_
        refine r_il4 zi_139_56 rfl ?_
        refine r_if0 zi_139_58 rfl (fun c => absurd c hw) (fun _ => ?_)
        refine r_il5 zi_139_61 rfl ?_
        refine r_push zi_139_63 rfl ?_
        refine r_ic1 zi_139_64 rfl (fun c => absurd (by decide) c) (fun _ => ?_)
        refine r_il5 zi_139_67 rfl ?_
        refine r_goto zi_139_69 rfl ?_
        refine r_retI zi_139_81 rfl ?_
        first
        | exact ⟨_, rfl, by have h := h1 x y n (by omega) (by omega) rfl rfl hn hd τ hF; rw [if_neg hw] at h; exact h⟩
        | exact ⟨_, rfl, h2 x y (by omega) (by omega) rfl rfl hz τ hF⟩
        | (exfalso; exact absurd (nI_pos' (n := n) (by omega)) (by rw [show nI n = -1 by assumption]; decide))
  · have h0 := h0 hk
    refine r_il1 zi_139_0 rfl ?_
    refine r_push zi_139_1 rfl ?_
    refine r_push zi_139_2 rfl ?_
    refine r_cIS zi_139_5 rfl rfl rfl rfl rfl rfl (s_within (fun i1 a1 => ?_) (fun i1 => ?_))
    · show zk _ _ 8 _ _ _ _
      refine r_if0 zi_139_8 rfl (fun c => absurd c (by decide)) (fun _ => ?_)
      refine r_il2 zi_139_11 rfl ?_
      refine r_push zi_139_12 rfl ?_
      refine r_push zi_139_13 rfl ?_
      refine r_cIS zi_139_16 rfl rfl rfl rfl rfl rfl (s_within (fun i2 a2 => ?_) (fun i2 => ?_))
      · show zk _ _ 19 _ _ _ _
        refine r_if0 zi_139_19 rfl (fun c => absurd c (by decide)) (fun _ => ?_)
        refine r_il3 zi_139_22 rfl ?_
        refine r_push zi_139_23 rfl ?_
        refine r_push zi_139_24 rfl ?_
        refine r_cIS zi_139_26 rfl rfl rfl rfl rfl rfl (s_within (fun i3 a3 => ?_) (fun i3 => ?_))
        · show zk _ _ 29 _ _ _ _
          refine r_if0 zi_139_29 rfl (fun c => absurd c (by decide)) (fun _ => ?_)
          refine r_il4 zi_139_32 rfl ?_
          refine r_push zi_139_34 rfl ?_
          refine r_push zi_139_35 rfl ?_
          refine r_cIS zi_139_36 rfl rfl rfl rfl rfl rfl (s_within (fun i4 a4 => ?_) (fun i4 => ?_))
          · show zk _ _ 39 _ _ _ _
            refine r_if1 zi_139_39 rfl (fun _ => ?_) (fun c => absurd c (by decide))
            exact absurd ⟨by assumption, by assumption, by assumption, by assumption, by assumption, by assumption, by assumption, by assumption⟩ hk
          · show zk _ _ 39 _ _ _ _
            refine r_if1 zi_139_39 rfl (fun c => absurd (by decide) c) (fun _ => ?_)
            refine r_push zi_139_42 rfl ?_
            refine r_retI zi_139_43 rfl ?_
            exact ⟨_, rfl, h0⟩
        · show zk _ _ 29 _ _ _ _
          refine r_if0 zi_139_29 rfl (fun _ => ?_) (fun c => absurd (by decide) c)
          refine r_push zi_139_42 rfl ?_
          refine r_retI zi_139_43 rfl ?_
          exact ⟨_, rfl, h0⟩
      · show zk _ _ 19 _ _ _ _
        refine r_if0 zi_139_19 rfl (fun _ => ?_) (fun c => absurd (by decide) c)
        refine r_push zi_139_42 rfl ?_
        refine r_retI zi_139_43 rfl ?_
        exact ⟨_, rfl, h0⟩
    · show zk _ _ 8 _ _ _ _
      refine r_if0 zi_139_8 rfl (fun _ => ?_) (fun c => absurd (by decide) c)
      refine r_push zi_139_42 rfl ?_
      refine r_retI zi_139_43 rfl ?_
      exact ⟨_, rfl, h0⟩

