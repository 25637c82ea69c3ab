/-! BATH, numbers -/
def zap (a b : Nat) : Nat := if b < a then a - b else b - a
def zhe (h c w : Nat) : Nat := min 99 (h + c - w)
def zmn (f : Nat → Nat) : Nat → Nat
  | 0 => 100000000
  | n + 1 => min (zmn f n) (f n)
def zbo (f : Nat → Nat) : Nat → Nat
  | 0 => 0
  | n + 1 => if f (n + 1) < f (zbo f n) then n + 1 else zbo f n
def zbf (g w : Nat) (L : Nat → Nat) (h c : Nat) : Nat := zap (zhe h c w) g + L (zhe h c w)
def zWb (g w : Nat) : Nat → Nat → Nat
  | 0 => fun _ => 0
  | k + 1 => fun h => zmn (zbf g w (zWb g w k) h) 10
theorem zhe_le (h c w : Nat) : zhe h c w ≤ 99 := Nat.min_le_left _ _
theorem zap_le {a b : Nat} (ha : a ≤ 99) (hb : b ≤ 99) : zap a b ≤ 99 := by unfold zap; split <;> omega
theorem zmn_le {f : Nat → Nat} : ∀ n c, c < n → zmn f n ≤ f c
  | n + 1, c, h => by
    show min (zmn f n) (f n) ≤ f c
    by_cases e : c = n
    · subst e; exact Nat.min_le_right _ _
    · exact Nat.le_trans (Nat.min_le_left _ _) (zmn_le n c (by omega))
theorem zmn_far {f : Nat → Nat} : ∀ n, zmn f n ≤ 100000000
  | 0 => Nat.le_refl _
  | n + 1 => Nat.le_trans (Nat.min_le_left _ _) (zmn_far n)
theorem zbo_le {f : Nat → Nat} : ∀ n, zbo f n ≤ n
  | 0 => Nat.le_refl _
  | n + 1 => by unfold zbo; have := zbo_le (f := f) n; split <;> omega
theorem zbo_min {f : Nat → Nat} : ∀ n, (∀ c, c ≤ n → f (zbo f n) ≤ f c) ∧ ∀ c, c < zbo f n → f (zbo f n) < f c
  | 0 => ⟨fun c hc => by rw [show c = 0 by omega]; exact Nat.le_refl _, fun c hc => by unfold zbo at hc; omega⟩
  | n + 1 => by
    obtain ⟨h1, h2⟩ := zbo_min (f := f) n
    have h3 := zbo_le (f := f) n
    unfold zbo
    by_cases h : f (n + 1) < f (zbo f n)
    · rw [if_pos h]
      refine ⟨fun c hc => ?_, fun c hc => ?_⟩
      · by_cases e : c = n + 1
        · subst e; exact Nat.le_refl _
        · have := h1 c (by omega); omega
      · have := h1 c (by omega); omega
    · rw [if_neg h]
      refine ⟨fun c hc => ?_, h2⟩
      by_cases e : c = n + 1
      · subst e; omega
      · exact h1 c (by omega)
theorem zbo_mn {f : Nat → Nat} (hf : ∀ c, f c < 100000000) : f (zbo f 9) = zmn f 10 := by
  have h1 := (zbo_min (f := f) 9).1
  have h2 := zbo_le (f := f) 9
  have h3 := zmn_le (f := f) 10 (zbo f 9) (by omega)
  have h4 : ∀ n, n ≤ 10 → f (zbo f 9) ≤ zmn f n := by
    intro n
    induction n with
    | zero => intro _; exact Nat.le_of_lt (hf _)
    | succ n ih => intro hn; exact Nat.le_min.mpr ⟨ih (by omega), h1 n (by omega)⟩
  have := h4 10 (Nat.le_refl _)
  omega
theorem zWb_le {g w : Nat} (hg : g ≤ 99) : ∀ k h, zWb g w k h ≤ 99 * k
  | 0, _ => Nat.zero_le _
  | k + 1, h => by
    have h1 := zmn_le (f := zbf g w (zWb g w k) h) 10 0 (by omega)
    have h2 := zWb_le (w := w) hg k (zhe h 0 w)
    have h3 := zap_le (zhe_le h 0 w) hg
    show zmn (zbf g w (zWb g w k) h) 10 ≤ _
    unfold zbf at h1 ⊢
    omega
theorem zabsI {a b : Nat} (ha : a ≤ 99) (hb : b ≤ 99) : (if nI a - nI b < 0 then -(nI a - nI b) else nI a - nI b) = nI (zap a b) := by
  unfold zap
  by_cases h : b ≤ a
  · rw [pk_sub h, if_neg (nI_pos (by omega))]
    by_cases e : b < a
    · rw [if_pos e]
    · rw [if_neg e, show a - b = b - a by omega]
  · rw [if_pos (pk_sneg (by omega) (by omega)), if_neg (by omega)]
    rw [Int32.neg_sub]
    exact pk_sub (by omega)
theorem zapI {a b : Nat} (ha : a ≤ 99) (hb : b ≤ 99) : (if nI b < nI a then nI a - nI b else nI b - nI a) = nI (zap a b) := by
  unfold zap
  by_cases h : b < a
  · rw [if_pos (nI_lt h (by omega)), if_pos h, pk_sub (by omega)]
  · rw [if_neg (nI_nlt (by omega) (by omega)), if_neg h, pk_sub (by omega)]
theorem zheI {h c w : Nat} (hh : h ≤ 99) (hc : c ≤ 99) (hw : w ≤ 99) : (if nI (h + c) - nI w < 0 then 0 else if 99 < nI (h + c) - nI w then 99 else nI (h + c) - nI w) = nI (zhe h c w) := by
  unfold zhe
  by_cases e : w ≤ h + c
  · rw [pk_sub e, if_neg (nI_pos (by omega))]
    show (if nI 99 < nI (h + c - w) then nI 99 else nI (h + c - w)) = _
    by_cases e2 : 99 < h + c - w
    · rw [if_pos (nI_lt (a := 99) e2 (by omega)), Nat.min_eq_left (by omega)]
    · rw [if_neg (nI_nlt (b := h + c - w) (a := 99) (by omega) (by omega)), Nat.min_eq_right (by omega)]
  · rw [if_pos (pk_sneg (by omega) (by omega)), show h + c - w = 0 by omega]; rfl
theorem s_heated {d h c w : Nat} {σ : zS} {Q : Int32 → zS → Prop} (hh : h ≤ 99) (hc : c ≤ 99) (hw : w ≤ 99) (hq : Q (nI (zhe h c w)) σ) : zI1 (d + 1) 63 [.int (nI h), .int (nI c), .int (nI w)] σ Q := by
  have e := zheI hh hc hw
  rw [← zheld_eq _ _ _ (by decide)] at e
  show zk _ _ 0 [.int (nI h), .int (nI c), .int (nI w)] [] _ _
  refine r_il0 zi_63_0 rfl ?_
  refine r_il1 zi_63_1 rfl ?_
  refine r_b0 zi_63_2 rfl ?_
  rw [show (nI h + nI c : Int32) = nI (h + c) from nI_add _ _]
  refine r_il2 zi_63_3 rfl ?_
  refine r_b1 zi_63_4 rfl ?_
  refine r_push zi_63_5 rfl ?_
  refine r_push zi_63_6 rfl ?_
  refine r_cIS zi_63_8 rfl rfl rfl rfl rfl rfl (s_kheld ?_)
  show zk _ _ 11 _ _ _ _
  refine r_retI zi_63_11 rfl ?_
  exact ⟨_, rfl, by rw [e]; exact hq⟩
theorem s_mheat {d h c w : Nat} {σ : zS} {Q : Int32 → zS → Prop} (hh : h ≤ 99) (hc : c ≤ 99) (hw : w ≤ 99) (hq : Q (nI (zhe h c w)) σ) : zI1 (d + 1) 251 [.ref 195, .int (nI h), .int (nI c), .int (nI w)] σ Q := by
  have e := zheI hh hc hw
  show zk _ _ 0 [.ref 195, .int (nI h), .int (nI c), .int (nI w)] [] _ _
  refine r_al0 zi_251_0 rfl ?_
  refine r_il1 zi_251_1 rfl ?_
  refine r_il2 zi_251_2 rfl ?_
  refine r_b0 zi_251_3 rfl ?_
  rw [show (nI h + nI c : Int32) = nI (h + c) from nI_add _ _]
  refine r_il3 zi_251_4 rfl ?_
  refine r_b1 zi_251_5 rfl ?_
  refine r_push zi_251_6 rfl ?_
  refine r_push zi_251_7 rfl ?_
  refine q_cIV zi_251_9 rfl rfl rfl rfl rfl rfl rfl cf_195_0.ob (s_held ?_)
  show zk _ _ 12 _ _ _ _
  refine r_retI zi_251_12 rfl ?_
  exact ⟨_, rfl, by rw [e]; exact hq⟩
theorem s_koff {d x g : Nat} {σ : zS} {Q : Int32 → zS → Prop} {L : Nat → Nat} (hx : x ≤ 99) (hg : g ≤ 99) (hL : σ 178 x = nI (L x)) (hq : Q (nI (zap x g + L x)) σ) : zI1 d 62 [.ref 177, .int (nI x), .int (nI g)] σ Q := by
  have e := zabsI hx hg
  show zk _ _ 0 [.ref 177, .int (nI x), .int (nI g)] [] _ _
  refine r_il1 zi_62_0 rfl ?_
  refine r_il2 zi_62_1 rfl ?_
  refine r_b1 zi_62_2 rfl ?_
  refine r_abs zi_62_3 rfl ?_
  rw [e]
  refine r_il1 zi_62_6 rfl ?_
  refine n_if2 (i := x) zi_62_7 rfl (by omega) (fun c => absurd c (by omega)) (fun _ => ?_)
  refine r_il1 zi_62_10 rfl ?_
  refine r_push zi_62_11 rfl ?_
  refine n_ic4 (i := x) (j := 99) zi_62_13 rfl (by omega) (by omega) (fun c => absurd c (by omega)) (fun _ => ?_)
  refine r_al0 zi_62_16 rfl ?_
  refine q_getR zi_62_17 rfl cf_177_0 ?_
  refine r_il1 zi_62_20 rfl ?_
  refine r_alde zi_62_21 rfl x ca_178 (by first | rfl | (simp only [zI_add, zI_mul] <;> rfl)) (by first | omega | decide) (u := nI (L x)) (by first | exact hL | ((repeat (first | rw [zup_ne (by first | decide | omega)] | rw [zup_nj (by first | decide | omega)] | rw [fil_ne (by first | decide | omega)])) <;> exact hL) | (simp [up_rd, fil_rd]; exact hL)) ?_
  refine r_goto zi_62_22 rfl ?_
  refine r_b0 zi_62_26 rfl ?_
  refine r_retI zi_62_27 rfl ?_
  exact ⟨_, rfl, by rw [nI_add]; exact hq⟩
/-! CLASS: bath -/
theorem l_bor {d h g w : Nat} {σ : zS} {Q : Int32 → zS → Prop} {L : Nat → Nat} (hh : h ≤ 99) (hg : g ≤ 99) (hw : w ≤ 9) (hL : ∀ x, x ≤ 99 → σ 178 x = nI (L x)) (hb : ∀ x, L x ≤ 10000) (hq : Q (nI (zbo (zbf g w L h) 9)) σ) : ∀ (m o : Nat), o + m = 9 → zk (d + 2) 61 6 [.ref 177, .int (nI h), .int (nI g), .int (nI w), .int (nI (zbo (zbf g w L h) o)), .int (nI (o + 1))] [] σ (fun r t => ∃ v, r = some v ∧ Q v t) := by
  intro m
  induction m with
  | zero =>
    intro o ho
    have e12 : o = 9 := by omega
    subst e12
    refine r_il5 zi_61_6 rfl ?_
    refine r_push zi_61_8 rfl ?_
    refine r_ic4 zi_61_10 rfl (fun _ => ?_) (fun c => absurd (by decide) c)
    refine r_il4 zi_61_50 rfl ?_
    refine r_retI zi_61_52 rfl ?_
    exact ⟨_, rfl, hq⟩
  | succ m ih =>
    intro o ho
    have ih := ih (o + 1) (by omega)
    have e1 : zbo (zbf g w L h) (o + 1) = if zbf g w L h (o + 1) < zbf g w L h (zbo (zbf g w L h) o) then o + 1 else zbo (zbf g w L h) o := rfl
    rw [e1] at ih
    have b0 := zbo_le (f := zbf g w L h) o
    generalize zbo (zbf g w L h) o = zo at *
    have b1 : zbf g w L h (o + 1) ≤ 20000 := by
      have h1 := zap_le (zhe_le h (o + 1) w) hg
      have h2 := hb (zhe h (o + 1) w)
      unfold zbf; omega
    have b2 : zbf g w L h zo ≤ 20000 := by
      have h1 := zap_le (zhe_le h zo w) hg
      have h2 := hb (zhe h zo w)
      unfold zbf; omega
    refine r_il5 zi_61_6 rfl ?_
    refine r_push zi_61_8 rfl ?_
    refine n_ic4 (i := (o+1)) (j := 9) zi_61_10 rfl (by omega) (by omega) (fun c => absurd c (by omega)) (fun _ => ?_)
    refine r_al0 zi_61_13 rfl ?_
    refine r_il1 zi_61_14 rfl ?_
    refine r_il5 zi_61_15 rfl ?_
    refine r_il3 zi_61_17 rfl ?_
    refine r_cIS zi_61_18 rfl rfl rfl rfl rfl rfl (s_heated hh (by omega) (by omega) ?_)
    show zk _ _ 21 _ _ _ _
    refine r_il2 zi_61_21 rfl ?_
    refine q_cIV zi_61_22 rfl rfl rfl rfl rfl rfl rfl cf_177_0.ob (s_koff (zhe_le _ _ _) hg (hL _ (zhe_le _ _ _)) ?_)
    show zk _ _ 25 _ _ _ _
    refine r_al0 zi_61_25 rfl ?_
    refine r_il1 zi_61_26 rfl ?_
    refine r_il4 zi_61_27 rfl ?_
    refine r_il3 zi_61_29 rfl ?_
    refine r_cIS zi_61_30 rfl rfl rfl rfl rfl rfl (s_heated hh (by omega) (by omega) ?_)
    show zk _ _ 33 _ _ _ _
    refine r_il2 zi_61_33 rfl ?_
    refine q_cIV zi_61_34 rfl rfl rfl rfl rfl rfl rfl cf_177_0.ob (s_koff (zhe_le _ _ _) hg (hL _ (zhe_le _ _ _)) ?_)
    show zk _ _ 37 _ _ _ _
    refine n_ic3 (i := (zbf g w L h (o + 1))) (j := (zbf g w L h zo)) zi_61_37 rfl (by omega) (by omega) (fun c5 => ?_) (fun c5 => ?_)
    · refine r_in5 zi_61_44 rfl ?_
      rw [show (nI (o+1) + 1 : Int32) = nI ((o+1) + 1) from nI_add _ _]
      refine r_goto zi_61_47 rfl ?_
      first
      | (rw [if_pos (by assumption)] at ih; exact ih)
      | (rw [if_neg (by omega)] at ih; exact ih)
    · refine r_il5 zi_61_40 rfl ?_
      refine r_is4 zi_61_42 rfl ?_
      refine r_in5 zi_61_44 rfl ?_
      rw [show (nI (o+1) + 1 : Int32) = nI ((o+1) + 1) from nI_add _ _]
      refine r_goto zi_61_47 rfl ?_
      first
      | (rw [if_pos (by assumption)] at ih; exact ih)
      | (rw [if_neg (by omega)] at ih; exact ih)
theorem s_bor {d h g w : Nat} {σ : zS} {Q : Int32 → zS → Prop} {L : Nat → Nat} (hh : h ≤ 99) (hg : g ≤ 99) (hw : w ≤ 9) (hL : ∀ x, x ≤ 99 → σ 178 x = nI (L x)) (hb : ∀ x, L x ≤ 10000) (hq : Q (nI (zbo (zbf g w L h) 9)) σ) : zI1 (d + 2) 61 [.ref 177, .int (nI h), .int (nI g), .int (nI w)] σ Q := by
  show zk _ _ 0 [.ref 177, .int (nI h), .int (nI g), .int (nI w), zun, zun] [] _ _
  refine r_push zi_61_0 rfl ?_
  refine r_is4 zi_61_1 rfl ?_
  refine r_push zi_61_3 rfl ?_
  refine r_is5 zi_61_4 rfl ?_
  exact l_bor hh hg hw hL hb hq 9 0 (by omega)
theorem zbf_lt {g w h c : Nat} {L : Nat → Nat} (hg : g ≤ 99) (hb : ∀ x, L x ≤ 10000) : zbf g w L h c < 100000000 := by
  have h1 := zap_le (zhe_le h c w) hg
  have h2 := hb (zhe h c w)
  unfold zbf; omega
theorem l_bf1 {d k g w yw n day h0 : Nat} {σ : zS} {R : Option Int32 → zS → Prop} (hg : g ≤ 99) (hw : w ≤ 9) (hk : k ≤ 20) (hL : ∀ x, x ≤ 99 → σ 178 x = nI (zWb g w k x)) (hq : ∀ τ, Fr [179] σ τ → (∀ x, x < 100 → τ 179 x = nI (zWb g w (k + 1) x)) → zk (d + 3) 60 68 [.ref 177, .int (nI h0), .int (nI g), .int (nI yw), .int (nI n), .int (nI w), .int (nI day), .int (nI 100)] [] τ R) : ∀ (m h : Nat) (τ : zS), h + m = 100 → Fr [179] σ τ → (∀ x, x < h → τ 179 x = nI (zWb g w (k + 1) x)) → zk (d + 3) 60 27 [.ref 177, .int (nI h0), .int (nI g), .int (nI yw), .int (nI n), .int (nI w), .int (nI day), .int (nI h)] [] τ R := by
  intro m
  induction m with
  | zero =>
    intro h τ hh hF hv
    have e12 : h = 100 := by omega
    subst e12
    refine r_il7 zi_60_27 rfl ?_
    refine r_push zi_60_29 rfl ?_
    refine r_ic4 zi_60_31 rfl (fun _ => ?_) (fun c => absurd (by decide) c)
    exact hq _ hF hv
  | succ m ih =>
    intro h τ hh hF hv
    have hL' : ∀ x, x ≤ 99 → τ 178 x = nI (zWb g w k x) := fun x hx => (hF 178 (by decide) x).trans (hL x hx)
    have hb : ∀ x, zWb g w k x ≤ 10000 := fun x => by have := zWb_le (w := w) hg k x; omega
    have b0 := zbo_le (f := zbf g w (zWb g w k) h) 9
    have e := zbo_mn (f := zbf g w (zWb g w k) h) (fun c => zbf_lt hg hb)
    refine r_il7 zi_60_27 rfl ?_
    refine r_push zi_60_29 rfl ?_
    refine n_ic4 (i := h) (j := 99) zi_60_31 rfl (by omega) (by omega) (fun c => absurd c (by omega)) (fun _ => ?_)
    refine r_al0 zi_60_34 rfl ?_
    refine q_getR zi_60_35 rfl cf_177_1 ?_
    refine r_il7 zi_60_38 rfl ?_
    refine r_al0 zi_60_40 rfl ?_
    refine r_il7 zi_60_41 rfl ?_
    refine r_al0 zi_60_43 rfl ?_
    refine r_il7 zi_60_44 rfl ?_
    refine r_il2 zi_60_46 rfl ?_
    refine r_il5 zi_60_47 rfl ?_
    refine q_cIV zi_60_49 rfl rfl rfl rfl rfl rfl rfl cf_177_0.ob (s_bor (by omega) hg hw hL' hb ?_)
    show zk _ _ 52 _ _ _ _
    refine r_il5 zi_60_52 rfl ?_
    refine r_cIS zi_60_54 rfl rfl rfl rfl rfl rfl (s_heated (by omega) (by omega) (by omega) ?_)
    show zk _ _ 57 _ _ _ _
    refine r_il2 zi_60_57 rfl ?_
    refine q_cIV zi_60_58 rfl rfl rfl rfl rfl rfl rfl cf_177_0.ob (s_koff (zhe_le _ _ _) hg (hL' _ (zhe_le _ _ _)) ?_)
    show zk _ _ 61 _ _ _ _
    refine r_ast zi_60_61 rfl h ca_179 (by first | rfl | (simp only [zI_add, zI_mul] <;> rfl)) (by first | omega | decide) ?_
    refine r_in7 zi_60_62 rfl ?_
    rw [show (nI h + 1 : Int32) = nI (h + 1) from nI_add _ _]
    refine r_goto zi_60_65 rfl ?_
    refine ih (h + 1) _ (by omega) (hF.put (by decide)) (fun x hx => ?_)
    rw [up_rd]
    by_cases ex : x = h
    · rw [if_pos ⟨rfl, ex⟩, ex]; exact congrArg nI e
    · rw [if_neg (fun z => ex z.2)]; exact hv x (by omega)
theorem l_bf2 {d g w yw n h0 : Nat} {σ : zS} {R : Option Int32 → zS → Prop} (hg : g ≤ 99) (hw : w ≤ 9) (hn : n ≤ 10) (hq : ∀ τ u6 u7, Fr [178, 179] σ τ → (∀ x, x ≤ 99 → τ 178 x = nI (zWb g w (n - 2) x)) → zk (d + 3) 60 92 [.ref 177, .int (nI h0), .int (nI g), .int (nI yw), .int (nI n), .int (nI w), u6, u7] [] τ R) : ∀ (day k : Nat) (τ : zS) (u7 : Value), (day + k = n) → (2 ≤ day ∨ k = 0) → Fr [178, 179] σ τ → (∀ x, x ≤ 99 → τ 178 x = nI (zWb g w k x)) → zk (d + 3) 60 18 [.ref 177, .int (nI h0), .int (nI g), .int (nI yw), .int (nI n), .int (nI w), .int (nI day), u7] [] τ R := by
  intro day
  induction day with
  | zero =>
    intro k τ u7 hd hd2 hF hv
    have hk : k = n - 2 := by omega
    rw [hk] at hv
    refine r_il6 zi_60_18 rfl ?_
    refine r_push zi_60_20 rfl ?_
    refine r_ic5 zi_60_21 rfl (fun _ => ?_) (fun c => absurd (by decide) c)
    exact hq _ _ _ hF hv
  | succ day ih =>
    intro k τ u7 hd hd2 hF hv
    by_cases h2 : day + 1 ≤ 2
    · have hk : k = n - 2 := by omega
      rw [hk] at hv
      refine r_il6 zi_60_18 rfl ?_
      refine r_push zi_60_20 rfl ?_
      refine n_ic5 (i := (day+1)) (j := 2) zi_60_21 rfl (by omega) (by omega) (fun _ => ?_) (fun c => absurd c (by omega))
      exact hq _ _ _ hF hv
    · refine r_il6 zi_60_18 rfl ?_
      refine r_push zi_60_20 rfl ?_
      refine n_ic5 (i := (day+1)) (j := 2) zi_60_21 rfl (by omega) (by omega) (fun c => absurd c (by omega)) (fun _ => ?_)
      refine r_push zi_60_24 rfl ?_
      refine r_is7 zi_60_25 rfl ?_
      refine l_bf1 (σ := τ) hg hw (k := k) (by omega) hv (fun τ2 hF2 hv2 => ?_) 100 0 τ (by omega) Fr.rf (fun x hx => by omega)
      show zk _ _ 68 _ _ _ _
      refine r_al0 zi_60_68 rfl ?_
      refine q_getR zi_60_69 rfl cf_177_1 ?_
      refine r_push zi_60_72 rfl ?_
      refine r_al0 zi_60_73 rfl ?_
      refine q_getR zi_60_74 rfl cf_177_0 ?_
      refine r_push zi_60_77 rfl ?_
      refine r_al0 zi_60_78 rfl ?_
      refine q_getR zi_60_79 rfl cf_177_1 ?_
      refine r_alen zi_60_82 rfl ca_179 ?_
      refine r_acpy (k := 100) zi_60_83 rfl ca_179 ca_178 rfl (by first | decide | omega) (by first | decide | omega) ?_
      refine r_in6 zi_60_86 rfl ?_
      rw [show (nI (day+1) + -1 : Int32) = nI day from pk_m1 _]
      refine r_goto zi_60_89 rfl ?_
      exact ih (k + 1) _ _ (by omega) (by omega) ((hF.tr (hF2.sub (by simp))).fil (by decide)) (fun x hx => (fil_in (by omega)).trans (hv2 x (by omega)))
theorem s_kfirst {d h g yw n : Nat} {σ : zS} {Q : Int32 → zS → Prop} (hh : h ≤ 99) (hg : g ≤ 99) (hy : yw ≤ 99) (hn0 : 1 ≤ n) (hn : n ≤ 10) (hq : ∀ τ, Fr [177, 178, 179] σ τ → τ 177 2 = nI (zap (zhe h (yw / 10) (yw % 10)) g + if n = 1 then 0 else zWb g (yw % 10) (n - 1) (zhe h (yw / 10) (yw % 10))) → Q (nI (if n = 1 then 0 else zbo (zbf g (yw % 10) (zWb g (yw % 10) (n - 2)) (zhe h (yw / 10) (yw % 10))) 9)) τ) : zI1 (d + 3) 60 [.ref 177, .int (nI h), .int (nI g), .int (nI yw), .int (nI n)] σ Q := by
  have hf := zhe_le h (yw / 10) (yw % 10)
  have hb : ∀ x, zWb g (yw % 10) (n - 2) x ≤ 10000 := fun x => by have := zWb_le (w := yw % 10) hg (n - 2) x; omega
  have e := zbo_mn (f := zbf g (yw % 10) (zWb g (yw % 10) (n - 2)) (zhe h (yw / 10) (yw % 10))) (fun c => zbf_lt hg hb)
  have b0 := zbo_le (f := zbf g (yw % 10) (zWb g (yw % 10) (n - 2)) (zhe h (yw / 10) (yw % 10))) 9
  have eW : 2 ≤ n → zWb g (yw % 10) (n - 1) (zhe h (yw / 10) (yw % 10)) = zmn (zbf g (yw % 10) (zWb g (yw % 10) (n - 2)) (zhe h (yw / 10) (yw % 10))) 10 := fun z => by
    rw [show n - 1 = (n - 2) + 1 by omega]; rfl
  show zk _ _ 0 [.ref 177, .int (nI h), .int (nI g), .int (nI yw), .int (nI n), zun, zun, zun] [] _ _
  by_cases h1 : n = 1
  · rw [if_pos h1, if_pos h1] at hq
    refine r_il3 zi_60_0 rfl ?_
    refine r_push zi_60_1 rfl ?_
    refine r_rem zi_60_3 rfl (by decide) ?_
    rw [show (nI yw % 10 : Int32) = nI (yw % 10) from zI_rem (d := 10) (by omega) (by omega) (by omega)]
    refine r_is5 zi_60_4 rfl ?_
    refine r_al0 zi_60_6 rfl ?_
    refine q_getR zi_60_7 rfl cf_177_0 ?_
    refine r_push zi_60_10 rfl ?_
    refine r_cVS zi_60_11 rfl rfl rfl rfl rfl rfl (s_afill ca_178 (by omega) ?_)
    show zk _ _ 14 _ _ _ _
    refine r_il4 zi_60_14 rfl ?_
    refine r_is6 zi_60_16 rfl ?_
    refine l_bf2 hg (by omega) hn (fun τ u6 u7 hF hv => ?_) n 0 _ _ (by omega) (Or.inr rfl) (Fr.rf.fil (by decide)) (fun x hx => fil_in (by omega))
    show zk _ _ 92 _ _ _ _
    refine r_il1 zi_60_92 rfl ?_
    refine r_il3 zi_60_93 rfl ?_
    refine r_push zi_60_94 rfl ?_
    refine r_div zi_60_96 rfl (by decide) ?_
    rw [show (nI yw / 10 : Int32) = nI (yw / 10) from pk_div (d := 10) (by omega) (by omega) (by omega)]
    refine r_il5 zi_60_97 rfl ?_
    refine r_cIS zi_60_99 rfl rfl rfl rfl rfl rfl (s_heated hh (by omega) (by omega) ?_)
    show zk _ _ 102 _ _ _ _
    refine r_is6 zi_60_102 rfl ?_
    refine r_al0 zi_60_104 rfl ?_
    refine r_il6 zi_60_105 rfl ?_
    refine r_il2 zi_60_107 rfl ?_
    refine r_b1 zi_60_108 rfl ?_
    refine r_abs zi_60_109 rfl ?_
    rw [zabsI hf hg]
    refine q_put zi_60_112 rfl cf_177_2 rfl ?_
    refine r_il4 zi_60_115 rfl ?_
    refine r_push zi_60_117 rfl ?_
    refine n_ic3 (i := n) (j := 2) zi_60_118 rfl (by omega) (by omega) (fun c => absurd c (by omega)) (fun _ => ?_)
    refine r_push zi_60_121 rfl ?_
    refine r_retI zi_60_122 rfl ?_
    exact ⟨_, rfl, hq _ ((hF.sub (by simp)).put (by decide)) zup_eq⟩
  · rw [if_neg h1, if_neg h1] at hq
    generalize hz : zhe h (yw / 10) (yw % 10) = z0 at *
    generalize hzo : zbo (zbf g (yw % 10) (zWb g (yw % 10) (n - 2)) z0) 9 = zo at *
    rw [eW (by omega), ← e] at hq
    have hq2 : ∀ τ, Fr [177, 178, 179] σ τ → τ 177 2 = nI (zap z0 g + (zap (zhe z0 zo (yw % 10)) g + zWb g (yw % 10) (n - 2) (zhe z0 zo (yw % 10)))) → Q (nI zo) τ := hq
    refine r_il3 zi_60_0 rfl ?_
    refine r_push zi_60_1 rfl ?_
    refine r_rem zi_60_3 rfl (by decide) ?_
    rw [show (nI yw % 10 : Int32) = nI (yw % 10) from zI_rem (d := 10) (by omega) (by omega) (by omega)]
    refine r_is5 zi_60_4 rfl ?_
    refine r_al0 zi_60_6 rfl ?_
    refine q_getR zi_60_7 rfl cf_177_0 ?_
    refine r_push zi_60_10 rfl ?_
    refine r_cVS zi_60_11 rfl rfl rfl rfl rfl rfl (s_afill ca_178 (by omega) ?_)
    show zk _ _ 14 _ _ _ _
    refine r_il4 zi_60_14 rfl ?_
    refine r_is6 zi_60_16 rfl ?_
    refine l_bf2 hg (by omega) hn (fun τ u6 u7 hF hv => ?_) n 0 _ _ (by omega) (Or.inr rfl) (Fr.rf.fil (by decide)) (fun x hx => fil_in (by omega))
    show zk _ _ 92 _ _ _ _
    refine r_il1 zi_60_92 rfl ?_
    refine r_il3 zi_60_93 rfl ?_
    refine r_push zi_60_94 rfl ?_
    refine r_div zi_60_96 rfl (by decide) ?_
    rw [show (nI yw / 10 : Int32) = nI (yw / 10) from pk_div (d := 10) (by omega) (by omega) (by omega)]
    refine r_il5 zi_60_97 rfl ?_
    refine r_cIS zi_60_99 rfl rfl rfl rfl rfl rfl (s_heated hh (by omega) (by omega) ?_)
    show zk _ _ 102 _ _ _ _
    rw [hz]
    refine r_is6 zi_60_102 rfl ?_
    refine r_al0 zi_60_104 rfl ?_
    refine r_il6 zi_60_105 rfl ?_
    refine r_il2 zi_60_107 rfl ?_
    refine r_b1 zi_60_108 rfl ?_
    refine r_abs zi_60_109 rfl ?_
    rw [zabsI hf hg]
    refine q_put zi_60_112 rfl cf_177_2 rfl ?_
    refine r_il4 zi_60_115 rfl ?_
    refine r_push zi_60_117 rfl ?_
    refine n_ic3 (i := n) (j := 2) zi_60_118 rfl (by omega) (by omega) (fun _ => ?_) (fun c => absurd c (by omega))
    have hv' : ∀ x, x ≤ 99 → up τ 177 2 (nI (zap z0 g)) 178 x = nI (zWb g (yw % 10) (n - 2) x) := fun x hx => by rw [zup_ne (by decide)]; exact hv x hx
    refine r_al0 zi_60_123 rfl ?_
    refine r_il6 zi_60_124 rfl ?_
    refine r_il2 zi_60_126 rfl ?_
    refine r_il5 zi_60_127 rfl ?_
    refine q_cIV zi_60_129 rfl rfl rfl rfl rfl rfl rfl cf_177_0.ob (s_bor hf hg (by omega) hv' hb ?_)
    show zk _ _ 132 _ _ _ _
    rw [hzo]
    refine r_is7 zi_60_132 rfl ?_
    refine r_al0 zi_60_134 rfl ?_
    refine r_dupR zi_60_135 rfl ?_
    refine q_getIe zi_60_136 rfl cf_177_2 (v := nI (zap z0 g)) (by first | exact zup_eq | ((repeat (first | rw [zup_ne (by first | decide | omega)] | rw [zup_nj (by first | decide | omega)] | rw [fil_ne (by first | decide | omega)])) <;> exact zup_eq) | (simp [up_rd, fil_rd]; exact zup_eq)) ?_
    refine r_al0 zi_60_139 rfl ?_
    refine r_il6 zi_60_140 rfl ?_
    refine r_il7 zi_60_142 rfl ?_
    refine r_il5 zi_60_144 rfl ?_
    refine r_cIS zi_60_146 rfl rfl rfl rfl rfl rfl (s_heated hf (by omega) (by omega) ?_)
    show zk _ _ 149 _ _ _ _
    refine r_il2 zi_60_149 rfl ?_
    refine q_cIV zi_60_150 rfl rfl rfl rfl rfl rfl rfl cf_177_0.ob (s_koff (zhe_le _ _ _) hg (hv' _ (zhe_le _ _ _)) ?_)
    show zk _ _ 153 _ _ _ _
    refine r_b0 zi_60_153 rfl ?_
    rw [show (nI (zap z0 g) + nI (zap (zhe z0 zo (yw % 10)) g + zWb g (yw % 10) (n - 2) (zhe z0 zo (yw % 10))) : Int32) = nI ((zap z0 g) + (zap (zhe z0 zo (yw % 10)) g + zWb g (yw % 10) (n - 2) (zhe z0 zo (yw % 10)))) from nI_add _ _]
    refine q_put zi_60_154 rfl cf_177_2 rfl ?_
    refine r_il7 zi_60_157 rfl ?_
    refine r_retI zi_60_159 rfl ?_
    exact ⟨_, rfl, hq2 _ (((hF.sub (by simp)).put (by decide)).put (by decide)) zup_eq⟩

