/-! QUEUE, model -/
abbrev zQm (σ : zS) (c : Nat) (A N : Nat → Nat) : Prop := ∀ j, j < c → σ 229 j = nI (A j) ∧ σ 230 j = nI (N j) ∧ A j ≤ 99 ∧ N j ≤ 20
def zC2 (n : Nat) (v : Int32) : Prop := (n = 0 ∧ v = -1) ∨ ∃ q, n = q + 1 ∧ v = nI q
theorem zC2_s {n : Nat} {v : Int32} (h : zC2 (n + 1) v) : v = nI n := by
  rcases h with ⟨h, _⟩ | ⟨q, h, h2⟩
  · omega
  · rw [h2, show q = n by omega]
theorem zC2_n (n : Nat) : zC2 n (nI n + -1) := by
  match n with
  | 0 => exact Or.inl ⟨rfl, rfl⟩
  | q + 1 => exact Or.inr ⟨q, rfl, pk_m1 q⟩
theorem zC2_m (n : Nat) : zC2 n (nI n - 1) := by
  match n with
  | 0 => exact Or.inl ⟨rfl, rfl⟩
  | q + 1 => exact Or.inr ⟨q, rfl, nI_pred q⟩
def zNx (A P : Nat → Nat) (c t n : Nat) (v : Int32) : Prop := (v = -1 ∧ ∀ j, n ≤ j → j < c → zpr P t j = true) ∨ ∃ j0, v = nI j0 ∧ n ≤ j0 ∧ j0 < c ∧ zpr P t j0 = false ∧ ∀ j, n ≤ j → j < c → zpr P t j = false → zKy A j0 ≤ zKy A j
theorem zNx_end {A P : Nat → Nat} {c t : Nat} {v : Int32} (hc : c ≤ 10) (hS : zSo A c P) (ht : t < c) (h : zNx A P c t 0 v) : v = nI (P t) := by
  have hn : zpr P t (P t) = false := by
    cases hz : zpr P t (P t) with
    | false => rfl
    | true => obtain ⟨p, hp1, hp2⟩ := (zpr_iff t).mp hz; have := zSo_inj hS (by omega) ht hp2; omega
  rcases h with ⟨_, h⟩ | ⟨j0, hv, _, hj, hj2, hmin⟩
  · have := h (P t) (by omega) (hS.1 t ht)
    rw [hn] at this; cases this
  · obtain ⟨u, hu, e⟩ := zSo_surj hS hj
    have h1 := hmin (P t) (by omega) (hS.1 t ht) hn
    have hut : t ≤ u := by
      by_cases e2 : u < t
      · rw [(zpr_iff t).mpr ⟨u, e2, e⟩] at hj2; cases hj2
      · omega
    by_cases e3 : u = t
    · rw [hv, ← e, e3]
    · have := hS.2 t u (by omega) hu
      rw [e] at this; omega
theorem l_mse {d c t : Nat} {σ : zS} {R : Option Int32 → zS → Prop} {A N P : Nat → Nat} {D : Int32} {k en u7 : Value} (hc : σ 195 56 = nI c) (hc10 : c ≤ 10) (hT : zQm σ c A N) (hS : zSo A c P) (ht : t < c) (hD : ∀ j, j < c → zbt D j = zpr P t j) (h : zk (d + 1) 273 95 [.ref 195, k, en, .int D, .int (nI t), .int (nI (P t)), .int (-1), u7] [] σ R) : ∀ (n : Nat) (v w : Int32), n ≤ c → zC2 n v → zNx A P c t n w → zk (d + 1) 273 47 [.ref 195, k, en, .int D, .int (nI t), .int w, .int v, u7] [] σ R := by
  intro n
  induction n with
  | zero =>
    intro v w hn hv hw
    have e : v = -1 := by
      rcases hv with ⟨_, h⟩ | ⟨q, h, _⟩
      · exact h
      · omega
    subst e
    rw [zNx_end hc10 hS ht hw]
    refine r_il6 zi_273_47 rfl ?_
    refine r_if2 zi_273_49 rfl (fun _ => ?_) (fun c => absurd (by decide) c)
    exact h
  | succ n ih =>
    intro v w hn hv hw
    have e := zC2_s hv
    clear hv
    subst e
    have a1 := hT n (by omega)
    by_cases hb : zbt D n = true
    · have hb' := of_decide_eq_true hb
      have hp : zpr P t n = true := by rw [← hD n (by omega)]; exact hb
      have hw2 : zNx A P c t n w := by
        rcases hw with ⟨g1, g2⟩ | ⟨j0, g1, g2, g3, g4, g5⟩
        · exact Or.inl ⟨g1, fun j h1 h2 => by by_cases e : j = n; (rw [e]; exact hp); exact g2 j (by omega) h2⟩
        · exact Or.inr ⟨j0, g1, by omega, g3, g4, fun j h1 h2 h3 => by by_cases e : j = n; (rw [e, hp] at h3; cases h3); exact g5 j (by omega) h2 h3⟩
      refine r_il6 zi_273_47 rfl ?_
      refine n_if2 (i := n) zi_273_49 rfl (by omega) (fun c => absurd c (by omega)) (fun _ => ?_)
      refine r_al0 zi_273_52 rfl ?_
      refine r_il3 zi_273_53 rfl ?_
      refine r_il6 zi_273_54 rfl ?_
      refine q_cIV zi_273_56 rfl rfl rfl rfl rfl rfl rfl cf_195_0.ob (s_has (fun _ => ?_) (fun z => absurd hb' z))
      show zk _ _ 59 _ _ _ _
      refine r_if1 zi_273_59 rfl (fun _ => ?_) (fun c => absurd c (by decide))
      refine r_in6 zi_273_89 rfl ?_
      refine r_goto zi_273_92 rfl ?_
      exact ih _ _ (by omega) (zC2_n n) hw2
    · have hb' : ¬ D >>> (nI n &&& 31) &&& 1 = 1 := fun z => hb (decide_eq_true z)
      have hp : zpr P t n = false := by rw [← hD n (by omega)]; exact Bool.eq_false_iff.mpr hb
      rcases hw with ⟨g1, g2⟩ | ⟨j0, g1, g2, g3, g4, g5⟩
      · subst g1
        have hw2 : zNx A P c t n (nI n) := Or.inr ⟨n, rfl, Nat.le_refl _, by omega, hp, fun j h1 h2 h3 => by
          by_cases e : j = n
          · rw [e]; exact Nat.le_refl _
          · rw [g2 j (by omega) h2] at h3; cases h3⟩
        refine r_il6 zi_273_47 rfl ?_
        refine n_if2 (i := n) zi_273_49 rfl (by omega) (fun c => absurd c (by omega)) (fun _ => ?_)
        refine r_al0 zi_273_52 rfl ?_
        refine r_il3 zi_273_53 rfl ?_
        refine r_il6 zi_273_54 rfl ?_
        refine q_cIV zi_273_56 rfl rfl rfl rfl rfl rfl rfl cf_195_0.ob (s_has (fun z => absurd z hb') (fun _ => ?_))
        show zk _ _ 59 _ _ _ _
        refine r_if1 zi_273_59 rfl (fun c => absurd (by decide) c) (fun _ => ?_)
        refine r_il5 zi_273_62 rfl ?_
        refine r_push zi_273_64 rfl ?_
        refine r_ic0 zi_273_65 rfl (fun _ => ?_) (fun c => absurd (by decide) c)
        refine r_il6 zi_273_85 rfl ?_
        refine r_is5 zi_273_87 rfl ?_
        refine r_in6 zi_273_89 rfl ?_
        refine r_goto zi_273_92 rfl ?_
        exact ih _ _ (by omega) (zC2_n n) hw2
      · subst g1
        have a2 := hT j0 g3
        have hne1 : ¬ nI j0 = -1 := fun z => absurd (nI_pos' (n := j0) (by omega)) (by rw [z]; decide)
        obtain ⟨x1, x2, x3, x4⟩ := a1
        obtain ⟨y1, y2, y3, y4⟩ := a2
        by_cases hlt : A j0 < A n
        · have hw2 : zNx A P c t n (nI j0) := Or.inr ⟨j0, rfl, by omega, g3, g4, fun j h1 h2 h3 => by
            by_cases e : j = n
            · rw [e]; show A j0 * 16 + j0 ≤ A n * 16 + n; omega
            · exact g5 j (by omega) h2 h3⟩
          refine r_il6 zi_273_47 rfl ?_
          refine n_if2 (i := n) zi_273_49 rfl (by omega) (fun c => absurd c (by omega)) (fun _ => ?_)
          refine r_al0 zi_273_52 rfl ?_
          refine r_il3 zi_273_53 rfl ?_
          refine r_il6 zi_273_54 rfl ?_
          refine q_cIV zi_273_56 rfl rfl rfl rfl rfl rfl rfl cf_195_0.ob (s_has (fun z => absurd z hb') (fun _ => ?_))
          show zk _ _ 59 _ _ _ _
          refine r_if1 zi_273_59 rfl (fun c => absurd (by decide) c) (fun _ => ?_)
          refine r_il5 zi_273_62 rfl ?_
          refine r_push zi_273_64 rfl ?_
          refine r_ic0 zi_273_65 rfl (fun c => absurd c hne1) (fun _ => ?_)
          refine r_al0 zi_273_68 rfl ?_
          refine q_getR zi_273_69 rfl cf_195_57 ?_
          refine r_il6 zi_273_72 rfl ?_
          refine r_alde zi_273_74 rfl n ca_229 (by first | rfl | (simp only [zI_add, zI_mul] <;> rfl)) (by first | omega | decide) (u := nI (A n)) (by first | exact x1 | ((repeat (first | rw [zup_ne (by first | decide | omega)] | rw [zup_nj (by first | decide | omega)] | rw [fil_ne (by first | decide | omega)])) <;> exact x1) | (simp [up_rd, fil_rd]; exact x1)) ?_
          refine r_al0 zi_273_75 rfl ?_
          refine q_getR zi_273_76 rfl cf_195_57 ?_
          refine r_il5 zi_273_79 rfl ?_
          refine r_alde zi_273_81 rfl j0 ca_229 (by first | rfl | (simp only [zI_add, zI_mul] <;> rfl)) (by first | omega | decide) (u := nI (A j0)) (by first | exact y1 | ((repeat (first | rw [zup_ne (by first | decide | omega)] | rw [zup_nj (by first | decide | omega)] | rw [fil_ne (by first | decide | omega)])) <;> exact y1) | (simp [up_rd, fil_rd]; exact y1)) ?_
          refine n_ic4 (i := (A n)) (j := (A j0)) zi_273_82 rfl (by omega) (by omega) (fun _ => ?_) (fun c => absurd c (by omega))
          refine r_in6 zi_273_89 rfl ?_
          refine r_goto zi_273_92 rfl ?_
          exact ih _ _ (by omega) (zC2_n n) hw2
        · have hw2 : zNx A P c t n (nI n) := Or.inr ⟨n, rfl, Nat.le_refl _, by omega, hp, fun j h1 h2 h3 => by
            by_cases e : j = n
            · rw [e]; exact Nat.le_refl _
            · have := g5 j (by omega) h2 h3
              have this' : A j0 * 16 + j0 ≤ A j * 16 + j := this
              show A n * 16 + n ≤ A j * 16 + j; omega⟩
          refine r_il6 zi_273_47 rfl ?_
          refine n_if2 (i := n) zi_273_49 rfl (by omega) (fun c => absurd c (by omega)) (fun _ => ?_)
          refine r_al0 zi_273_52 rfl ?_
          refine r_il3 zi_273_53 rfl ?_
          refine r_il6 zi_273_54 rfl ?_
          refine q_cIV zi_273_56 rfl rfl rfl rfl rfl rfl rfl cf_195_0.ob (s_has (fun z => absurd z hb') (fun _ => ?_))
          show zk _ _ 59 _ _ _ _
          refine r_if1 zi_273_59 rfl (fun c => absurd (by decide) c) (fun _ => ?_)
          refine r_il5 zi_273_62 rfl ?_
          refine r_push zi_273_64 rfl ?_
          refine r_ic0 zi_273_65 rfl (fun c => absurd c hne1) (fun _ => ?_)
          refine r_al0 zi_273_68 rfl ?_
          refine q_getR zi_273_69 rfl cf_195_57 ?_
          refine r_il6 zi_273_72 rfl ?_
          refine r_alde zi_273_74 rfl n ca_229 (by first | rfl | (simp only [zI_add, zI_mul] <;> rfl)) (by first | omega | decide) (u := nI (A n)) (by first | exact x1 | ((repeat (first | rw [zup_ne (by first | decide | omega)] | rw [zup_nj (by first | decide | omega)] | rw [fil_ne (by first | decide | omega)])) <;> exact x1) | (simp [up_rd, fil_rd]; exact x1)) ?_
          refine r_al0 zi_273_75 rfl ?_
          refine q_getR zi_273_76 rfl cf_195_57 ?_
          refine r_il5 zi_273_79 rfl ?_
          refine r_alde zi_273_81 rfl j0 ca_229 (by first | rfl | (simp only [zI_add, zI_mul] <;> rfl)) (by first | omega | decide) (u := nI (A j0)) (by first | exact y1 | ((repeat (first | rw [zup_ne (by first | decide | omega)] | rw [zup_nj (by first | decide | omega)] | rw [fil_ne (by first | decide | omega)])) <;> exact y1) | (simp [up_rd, fil_rd]; exact y1)) ?_
          refine n_ic4 (i := (A n)) (j := (A j0)) zi_273_82 rfl (by omega) (by omega) (fun c => absurd c (by omega)) (fun _ => ?_)
          refine r_il6 zi_273_85 rfl ?_
          refine r_is5 zi_273_87 rfl ?_
          refine r_in6 zi_273_89 rfl ?_
          refine r_goto zi_273_92 rfl ?_
          exact ih _ _ (by omega) (zC2_n n) hw2
theorem l_msv {d k : Nat} {σ : zS} {R : Option Int32 → zS → Prop} {F : Nat → Nat} {u2 u3 u4 u5 : Value} (hk1 : 1 ≤ k) (hk3 : k ≤ 3) (hF : ∀ s, s < 3 → σ 232 s = nI (F s) ∧ F s ≤ 10000) (h : ∀ u7, zk d 273 141 [.ref 195, .int (nI k), u2, u3, u4, u5, .int (nI (zsv F k)), u7] [] σ R) : ∀ (m s : Nat), s + 1 + m = k → zk d 273 108 [.ref 195, .int (nI k), u2, u3, u4, u5, .int (nI (zsv F (s + 1))), .int (nI (s + 1))] [] σ R := by
  intro m
  induction m with
  | zero =>
    intro s hs
    have e : k = s + 1 := by omega
    subst e
    refine r_il7 zi_273_108 rfl ?_
    refine r_il1 zi_273_110 rfl ?_
    refine n_ic3 (i := (s+1)) (j := (s+1)) zi_273_111 rfl (by omega) (by omega) (fun _ => ?_) (fun c => absurd c (by omega))
    exact h _
  | succ m ih =>
    intro s hs
    have hlt := zsv_lt (F := F) s
    have e1 : zsv F (s + 1 + 1) = if F (s + 1) < F (zsv F (s + 1)) then s + 1 else zsv F (s + 1) := rfl
    have ih := ih (s + 1) (by omega)
    rw [e1] at ih
    have f1 := hF (s + 1) (by omega)
    have f2 := hF (zsv F (s + 1)) (by omega)
    generalize zsv F (s + 1) = z at *
    obtain ⟨f11, f12⟩ := f1
    obtain ⟨f21, f22⟩ := f2
    refine r_il7 zi_273_108 rfl ?_
    refine r_il1 zi_273_110 rfl ?_
    refine n_ic3 (i := (s+1)) (j := k) zi_273_111 rfl (by omega) (by omega) (fun c => absurd c (by omega)) (fun _ => ?_)
    refine r_al0 zi_273_114 rfl ?_
    refine q_getR zi_273_115 rfl cf_195_60 ?_
    refine r_il7 zi_273_118 rfl ?_
    refine r_alde zi_273_120 rfl (s+1) ca_232 (by first | rfl | (simp only [zI_add, zI_mul] <;> rfl)) (by first | omega | decide) (u := nI (F (s + 1))) (by first | exact f11 | ((repeat (first | rw [zup_ne (by first | decide | omega)] | rw [zup_nj (by first | decide | omega)] | rw [fil_ne (by first | decide | omega)])) <;> exact f11) | (simp [up_rd, fil_rd]; exact f11)) ?_
    refine r_al0 zi_273_121 rfl ?_
    refine q_getR zi_273_122 rfl cf_195_60 ?_
    refine r_il6 zi_273_125 rfl ?_
    refine r_alde zi_273_127 rfl z ca_232 (by first | rfl | (simp only [zI_add, zI_mul] <;> rfl)) (by first | omega | decide) (u := nI (F z)) (by first | exact f21 | ((repeat (first | rw [zup_ne (by first | decide | omega)] | rw [zup_nj (by first | decide | omega)] | rw [fil_ne (by first | decide | omega)])) <;> exact f21) | (simp [up_rd, fil_rd]; exact f21)) ?_
    refine n_ic3 (i := (F (s + 1))) (j := (F z)) zi_273_128 rfl (by omega) (by omega) (fun c1 => ?_) (fun c1 => ?_)
    · refine r_in7 zi_273_135 rfl ?_
      rw [show (nI (s+1) + 1 : Int32) = nI ((s+1) + 1) from nI_add _ _]
      refine r_goto zi_273_138 rfl ?_
      first
      | (rw [if_pos (by assumption)] at ih; exact ih)
      | (rw [if_neg (by omega)] at ih; exact ih)
    · refine r_il7 zi_273_131 rfl ?_
      refine r_is6 zi_273_133 rfl ?_
      refine r_in7 zi_273_135 rfl ?_
      rw [show (nI (s+1) + 1 : Int32) = nI ((s+1) + 1) from nI_add _ _]
      refine r_goto zi_273_138 rfl ?_
      first
      | (rw [if_pos (by assumption)] at ih; exact ih)
      | (rw [if_neg (by omega)] at ih; exact ih)
theorem l_mserve {d c k : Nat} {σ : zS} {Q : Int32 → zS → Prop} {A N P : Nat → Nat} (hc : σ 195 56 = nI c) (hk1 : 1 ≤ k) (hk3 : k ≤ 3) (hc10 : c ≤ 10) (hT : zQm σ c A N) (hS : zSo A c P) (h : ∀ τ, Fr [231, 232] σ τ → (∀ x, x < c → τ 231 (P x) = nI (zqb A N P k x)) → Q (nI (zqT A N P k c)) τ) : ∀ (m t : Nat) (τ : zS) (D : Int32) (u5 u6 u7 : Value), t + m = c → Fr [231, 232] σ τ → (∀ j, j < c → zbt D j = zpr P t j) → (∀ s, s < 3 → τ 232 s = nI (zqF A N P k t s)) → (∀ x, x < t → τ 231 (P x) = nI (zqb A N P k x)) → zk (d + 1) 273 27 [.ref 195, .int (nI k), .int (nI (zqT A N P k t)), .int D, .int (nI t), u5, u6, u7] [] τ (fun r t => ∃ v, r = some v ∧ Q v t) := by
  have hA : ∀ j, j < c → A j ≤ 99 := fun j hj => (hT j hj).2.2.1
  have hN : ∀ j, j < c → N j ≤ 20 := fun j hj => (hT j hj).2.2.2
  intro m
  induction m with
  | zero =>
    intro t τ D u5 u6 u7 ht hF hD hf hx
    have e : t = c := by omega
    subst e
    have hc' := (hF 195 (by decide) 56).trans hc
    refine r_il4 zi_273_27 rfl ?_
    refine r_al0 zi_273_29 rfl ?_
    refine q_getIe zi_273_30 rfl cf_195_56 (v := nI t) (by first | exact hc' | ((repeat (first | rw [zup_ne (by first | decide | omega)] | rw [zup_nj (by first | decide | omega)] | rw [fil_ne (by first | decide | omega)])) <;> exact hc') | (simp [up_rd, fil_rd]; exact hc')) ?_
    refine n_ic3 (i := t) (j := t) zi_273_33 rfl (by omega) (by omega) (fun _ => ?_) (fun c => absurd c (by omega))
    refine r_il2 zi_273_207 rfl ?_
    refine r_retI zi_273_208 rfl ?_
    exact ⟨_, rfl, h _ hF hx⟩
  | succ m ih =>
    intro t τ D u5 u6 u7 ht hF hD hf hx
    have hc' := (hF 195 (by decide) 56).trans hc
    have hT' : zQm τ c A N := fun j hj => ⟨(hF 229 (by decide) j).trans (hT j hj).1, (hF 230 (by decide) j).trans (hT j hj).2.1, (hT j hj).2.2⟩
    obtain ⟨bF, bT⟩ := zqF_le (k := k) hA hN hS.1 t (by omega)
    have hpt := hS.1 t (by omega)
    obtain ⟨x1, x2, x3, x4⟩ := hT' (P t) hpt
    have hsv : zsv (zqF A N P k t) k < 3 := by
      obtain ⟨q, hq⟩ : ∃ q, k = q + 1 := ⟨k - 1, by omega⟩
      have := zsv_lt (F := zqF A N P k t) q
      rw [← hq] at this; omega
    have hfs := hf _ hsv
    have bs := bF (zsv (zqF A N P k t) k)
    have eF : zqF A N P k (t + 1) = zpd (zqF A N P k t) (zsv (zqF A N P k t) k) (max (A (P t)) (zqF A N P k t (zsv (zqF A N P k t) k)) + N (P t)) := rfl
    have eT : zqT A N P k (t + 1) = max (zqT A N P k t) (max (A (P t)) (zqF A N P k t (zsv (zqF A N P k t) k)) + N (P t)) := rfl
    have eb : zqb A N P k t = max (A (P t)) (zqF A N P k t (zsv (zqF A N P k t) k)) := rfl
    have hsvl := fun (R : Option Int32 → zS → Prop) u2 u3 u4 u5 hh => l_msv (d := d + 1) (σ := τ) (R := R) (F := zqF A N P k t) (u2 := u2) (u3 := u3) (u4 := u4) (u5 := u5) hk1 hk3 (fun s hs => ⟨hf s hs, by have := bF s; omega⟩) hh (k - 1) 0 (by omega)
    have ih := ih (t + 1)
    rw [eF, eT] at ih
    have hD2 : ∀ j, j < c → zbt (D ||| 1 <<< (nI (P t) &&& 31)) j = zpr P (t + 1) j := fun j hj => by
      rw [zbt_or (by omega), zbt_one (by omega) (by omega), hD j hj]; rfl
    generalize zsv (zqF A N P k t) k = sv at *
    have hm1 := zmaxI (a := A (P t)) (b := zqF A N P k t sv) (by omega) (by omega)
    have hm2 := zmaxI (a := zqT A N P k t) (b := max (A (P t)) (zqF A N P k t sv) + N (P t)) (by omega) (by omega)
    refine r_il4 zi_273_27 rfl ?_
    refine r_al0 zi_273_29 rfl ?_
    refine q_getIe zi_273_30 rfl cf_195_56 (v := nI c) (by first | exact hc' | ((repeat (first | rw [zup_ne (by first | decide | omega)] | rw [zup_nj (by first | decide | omega)] | rw [fil_ne (by first | decide | omega)])) <;> exact hc') | (simp [up_rd, fil_rd]; exact hc')) ?_
    refine n_ic3 (i := t) (j := c) zi_273_33 rfl (by omega) (by omega) (fun c => absurd c (by omega)) (fun _ => ?_)
    refine r_push zi_273_36 rfl ?_
    refine r_is5 zi_273_37 rfl ?_
    refine r_al0 zi_273_39 rfl ?_
    refine q_getIe zi_273_40 rfl cf_195_56 (v := nI c) (by first | exact hc' | ((repeat (first | rw [zup_ne (by first | decide | omega)] | rw [zup_nj (by first | decide | omega)] | rw [fil_ne (by first | decide | omega)])) <;> exact hc') | (simp [up_rd, fil_rd]; exact hc')) ?_
    refine r_push zi_273_43 rfl ?_
    refine r_b1 zi_273_44 rfl ?_
    refine r_is6 zi_273_45 rfl ?_
    refine l_mse hc' hc10 hT' hS (by omega) hD ?_ c _ _ (Nat.le_refl _) (zC2_m c) (Or.inl ⟨rfl, fun j h1 h2 => by omega⟩)
    show zk _ _ 95 _ _ _ _
    refine r_il3 zi_273_95 rfl ?_
    refine r_push zi_273_96 rfl ?_
    refine r_il5 zi_273_97 rfl ?_
    refine r_b6 zi_273_99 rfl ?_
    refine r_b4 zi_273_100 rfl ?_
    refine r_is3 zi_273_101 rfl ?_
    refine r_push zi_273_102 rfl ?_
    refine r_is6 zi_273_103 rfl ?_
    refine r_push zi_273_105 rfl ?_
    refine r_is7 zi_273_106 rfl ?_
    refine hsvl _ _ _ _ _ (fun u7 => ?_)
    show zk _ _ 141 _ _ _ _
    refine r_al0 zi_273_141 rfl ?_
    refine q_getR zi_273_142 rfl cf_195_59 ?_
    refine r_il5 zi_273_145 rfl ?_
    refine r_al0 zi_273_147 rfl ?_
    refine r_al0 zi_273_148 rfl ?_
    refine q_getR zi_273_149 rfl cf_195_57 ?_
    refine r_il5 zi_273_152 rfl ?_
    refine r_alde zi_273_154 rfl (P t) ca_229 (by first | rfl | (simp only [zI_add, zI_mul] <;> rfl)) (by first | omega | decide) (u := nI (A (P t))) (by first | exact x1 | ((repeat (first | rw [zup_ne (by first | decide | omega)] | rw [zup_nj (by first | decide | omega)] | rw [fil_ne (by first | decide | omega)])) <;> exact x1) | (simp [up_rd, fil_rd]; exact x1)) ?_
    refine r_al0 zi_273_155 rfl ?_
    refine q_getR zi_273_156 rfl cf_195_60 ?_
    refine r_il6 zi_273_159 rfl ?_
    refine r_alde zi_273_161 rfl sv ca_232 (by first | rfl | (simp only [zI_add, zI_mul] <;> rfl)) (by first | omega | decide) (u := nI (zqF A N P k t sv)) (by first | exact hfs | ((repeat (first | rw [zup_ne (by first | decide | omega)] | rw [zup_nj (by first | decide | omega)] | rw [fil_ne (by first | decide | omega)])) <;> exact hfs) | (simp [up_rd, fil_rd]; exact hfs)) ?_
    refine q_cIV zi_273_162 rfl rfl rfl rfl rfl rfl rfl cf_195_0.ob (s_greater ?_)
    show zk _ _ 165 _ _ _ _
    rw [hm1]
    refine r_ast zi_273_165 rfl (P t) ca_231 (by first | rfl | (simp only [zI_add, zI_mul] <;> rfl)) (by first | omega | decide) ?_
    refine r_al0 zi_273_166 rfl ?_
    refine q_getR zi_273_167 rfl cf_195_60 ?_
    refine r_il6 zi_273_170 rfl ?_
    refine r_al0 zi_273_172 rfl ?_
    refine q_getR zi_273_173 rfl cf_195_59 ?_
    refine r_il5 zi_273_176 rfl ?_
    refine r_alde zi_273_178 rfl (P t) ca_231 (by first | rfl | (simp only [zI_add, zI_mul] <;> rfl)) (by first | omega | decide) (u := nI (max (A (P t)) (zqF A N P k t sv))) (by first | exact zup_eq | ((repeat (first | rw [zup_ne (by first | decide | omega)] | rw [zup_nj (by first | decide | omega)] | rw [fil_ne (by first | decide | omega)])) <;> exact zup_eq) | (simp [up_rd, fil_rd]; exact zup_eq)) ?_
    refine r_al0 zi_273_179 rfl ?_
    refine q_getR zi_273_180 rfl cf_195_58 ?_
    refine r_il5 zi_273_183 rfl ?_
    refine r_alde zi_273_185 rfl (P t) ca_230 (by first | rfl | (simp only [zI_add, zI_mul] <;> rfl)) (by first | omega | decide) (u := nI (N (P t))) (by first | exact x2 | ((repeat (first | rw [zup_ne (by first | decide | omega)] | rw [zup_nj (by first | decide | omega)] | rw [fil_ne (by first | decide | omega)])) <;> exact x2) | (simp [up_rd, fil_rd]; exact x2)) ?_
    refine r_b0 zi_273_186 rfl ?_
    rw [show (nI (max (A (P t)) (zqF A N P k t sv)) + nI (N (P t)) : Int32) = nI ((max (A (P t)) (zqF A N P k t sv)) + (N (P t))) from nI_add _ _]
    refine r_ast zi_273_187 rfl sv ca_232 (by first | rfl | (simp only [zI_add, zI_mul] <;> rfl)) (by first | omega | decide) ?_
    refine r_al0 zi_273_188 rfl ?_
    refine r_il2 zi_273_189 rfl ?_
    refine r_al0 zi_273_190 rfl ?_
    refine q_getR zi_273_191 rfl cf_195_60 ?_
    refine r_il6 zi_273_194 rfl ?_
    refine r_alde zi_273_196 rfl sv ca_232 (by first | rfl | (simp only [zI_add, zI_mul] <;> rfl)) (by first | omega | decide) (u := nI (max (A (P t)) (zqF A N P k t sv) + N (P t))) (by first | exact zup_eq | ((repeat (first | rw [zup_ne (by first | decide | omega)] | rw [zup_nj (by first | decide | omega)] | rw [fil_ne (by first | decide | omega)])) <;> exact zup_eq) | (simp [up_rd, fil_rd]; exact zup_eq)) ?_
    refine q_cIV zi_273_197 rfl rfl rfl rfl rfl rfl rfl cf_195_0.ob (s_greater ?_)
    show zk _ _ 200 _ _ _ _
    rw [hm2]
    refine r_is2 zi_273_200 rfl ?_
    refine r_in4 zi_273_201 rfl ?_
    rw [show (nI t + 1 : Int32) = nI (t + 1) from nI_add _ _]
    refine r_goto zi_273_204 rfl ?_
    refine ih _ _ _ _ _ (by omega) ((hF.put (k := 231) (by decide)).put (k := 232) (by decide)) hD2 (fun s hs => ?_) (fun x hx2 => ?_)
    · rw [up_rd]
      unfold zpd
      by_cases e : s = sv
      · rw [if_pos ⟨rfl, e⟩, if_pos e]
      · rw [if_neg (fun z => e z.2), if_neg e, zup_ne (by decide)]; exact hf s hs
    · rw [zup_ne (by decide), up_rd]
      by_cases e : x = t
      · rw [e, if_pos ⟨rfl, rfl⟩, eb]
      · rw [if_neg (fun z => e (zSo_inj hS (by omega) (by omega) z.2))]; exact hx x (by omega)
theorem l_msf {d k : Nat} {σ : zS} {R : Option Int32 → zS → Prop} {u4 u5 u6 u7 : Value} (h : ∀ τ u3, Fr [232] σ τ → (∀ s, s < 3 → τ 232 s = 0) → zk d 273 22 [.ref 195, .int (nI k), .int 0, u3, u4, u5, u6, u7] [] τ R) : ∀ (m s : Nat) (τ : zS), s + m = 3 → Fr [232] σ τ → (∀ q, q < s → τ 232 q = 0) → zk d 273 4 [.ref 195, .int (nI k), .int 0, .int (nI s), u4, u5, u6, u7] [] τ R := by
  intro m
  induction m with
  | zero =>
    intro s τ hs hF hv
    have e : s = 3 := by omega
    subst e
    refine r_il3 zi_273_4 rfl ?_
    refine r_push zi_273_5 rfl ?_
    refine r_ic3 zi_273_6 rfl (fun _ => ?_) (fun c => absurd (by decide) c)
    exact h _ _ hF hv
  | succ m ih =>
    intro s τ hs hF hv
    refine r_il3 zi_273_4 rfl ?_
    refine r_push zi_273_5 rfl ?_
    refine n_ic3 (i := s) (j := 3) zi_273_6 rfl (by omega) (by omega) (fun c => absurd c (by omega)) (fun _ => ?_)
    refine r_al0 zi_273_9 rfl ?_
    refine q_getR zi_273_10 rfl cf_195_60 ?_
    refine r_il3 zi_273_13 rfl ?_
    refine r_push zi_273_14 rfl ?_
    refine r_ast zi_273_15 rfl s ca_232 (by first | rfl | (simp only [zI_add, zI_mul] <;> rfl)) (by first | omega | decide) ?_
    refine r_in3 zi_273_16 rfl ?_
    rw [show (nI s + 1 : Int32) = nI (s + 1) from nI_add _ _]
    refine r_goto zi_273_19 rfl ?_
    refine ih (s + 1) _ (by omega) (hF.put (by decide)) (fun q hq => ?_)
    rw [up_rd]
    by_cases e : q = s
    · rw [if_pos ⟨rfl, e⟩]
    · rw [if_neg (fun z => e z.2)]; exact hv q (by omega)
theorem s_mserve {d c k : Nat} {σ : zS} {Q : Int32 → zS → Prop} {A N P : Nat → Nat} (hc : σ 195 56 = nI c) (hk1 : 1 ≤ k) (hk3 : k ≤ 3) (hc10 : c ≤ 10) (hT : zQm σ c A N) (hS : zSo A c P) (h : ∀ τ, Fr [231, 232] σ τ → (∀ x, x < c → τ 231 (P x) = nI (zqb A N P k x)) → Q (nI (zqT A N P k c)) τ) : zI1 (d + 1) 273 [.ref 195, .int (nI k)] σ Q := by
  show zk _ _ 0 [.ref 195, .int (nI k), zun, zun, zun, zun, zun, zun] [] _ _
  refine r_push zi_273_0 rfl ?_
  refine r_is2 zi_273_1 rfl ?_
  refine r_push zi_273_2 rfl ?_
  refine r_is3 zi_273_3 rfl ?_
  refine l_msf (fun τ u3 hF hv => ?_) 3 0 σ (by omega) Fr.rf (fun q hq => by omega)
  show zk _ _ 22 _ _ _ _
  refine r_push zi_273_22 rfl ?_
  refine r_is3 zi_273_23 rfl ?_
  refine r_push zi_273_24 rfl ?_
  refine r_is4 zi_273_25 rfl ?_
  exact l_mserve hc hk1 hk3 hc10 hT hS h c 0 τ 0 _ _ _ (by omega) (hF.sub (by simp)) (fun j hj => by rw [zbt_0 (by omega)]; rfl) hv (fun x hx => by omega)
theorem l_mq1 {d c i : Nat} {σ : zS} {R : Option Int32 → zS → Prop} {A G : Nat → Nat} {a1 a2 a3 a4 a5 : Value} (hc : σ 195 56 = nI c) (hc10 : c ≤ 10) (hi : i < c) (hx : ∀ t, t < c → σ 229 t = nI (A t) ∧ σ 231 t = nI (G t) ∧ A t ≤ G t ∧ G t ≤ 1000) (h : zk d 274 139 [.ref 195, a1, a2, a3, a4, a5, .int (nI i), .int (nI (zqn A G c i)), .int (nI c)] [] σ R) : ∀ (m j : Nat), j + m = c → zk d 274 84 [.ref 195, a1, a2, a3, a4, a5, .int (nI i), .int (nI (zsum (fun j => if A j ≤ A i ∧ A i < G j then 1 else 0) j)), .int (nI j)] [] σ R := by
  intro m
  induction m with
  | zero =>
    intro j hj
    have e : j = c := by omega
    subst e
    refine r_il8 zi_274_84 rfl ?_
    refine r_al0 zi_274_86 rfl ?_
    refine q_getIe zi_274_87 rfl cf_195_56 (v := nI j) (by first | exact hc | ((repeat (first | rw [zup_ne (by first | decide | omega)] | rw [zup_nj (by first | decide | omega)] | rw [fil_ne (by first | decide | omega)])) <;> exact hc) | (simp [up_rd, fil_rd]; exact hc)) ?_
    refine n_ic3 (i := j) (j := j) zi_274_90 rfl (by omega) (by omega) (fun _ => ?_) (fun c => absurd c (by omega))
    exact h
  | succ m ih =>
    intro j hj
    obtain ⟨x1, x2, x3, x4⟩ := hx j (by omega)
    obtain ⟨y1, y2, y3, y4⟩ := hx i hi
    have ih := ih (j + 1) (by omega)
    simp only [zsum] at ih
    generalize zsum (fun j => if A j ≤ A i ∧ A i < G j then 1 else 0) j = s at *
    refine r_il8 zi_274_84 rfl ?_
    refine r_al0 zi_274_86 rfl ?_
    refine q_getIe zi_274_87 rfl cf_195_56 (v := nI c) (by first | exact hc | ((repeat (first | rw [zup_ne (by first | decide | omega)] | rw [zup_nj (by first | decide | omega)] | rw [fil_ne (by first | decide | omega)])) <;> exact hc) | (simp [up_rd, fil_rd]; exact hc)) ?_
    refine n_ic3 (i := j) (j := c) zi_274_90 rfl (by omega) (by omega) (fun c => absurd c (by omega)) (fun _ => ?_)
    refine r_al0 zi_274_93 rfl ?_
    refine q_getR zi_274_94 rfl cf_195_57 ?_
    refine r_il8 zi_274_97 rfl ?_
    refine r_alde zi_274_99 rfl j ca_229 (by first | rfl | (simp only [zI_add, zI_mul] <;> rfl)) (by first | omega | decide) (u := nI (A j)) (by first | exact x1 | ((repeat (first | rw [zup_ne (by first | decide | omega)] | rw [zup_nj (by first | decide | omega)] | rw [fil_ne (by first | decide | omega)])) <;> exact x1) | (simp [up_rd, fil_rd]; exact x1)) ?_
    refine r_al0 zi_274_100 rfl ?_
    refine q_getR zi_274_101 rfl cf_195_57 ?_
    refine r_il6 zi_274_104 rfl ?_
    refine r_alde zi_274_106 rfl i ca_229 (by first | rfl | (simp only [zI_add, zI_mul] <;> rfl)) (by first | omega | decide) (u := nI (A i)) (by first | exact y1 | ((repeat (first | rw [zup_ne (by first | decide | omega)] | rw [zup_nj (by first | decide | omega)] | rw [fil_ne (by first | decide | omega)])) <;> exact y1) | (simp [up_rd, fil_rd]; exact y1)) ?_
    refine n_ic4 (i := (A j)) (j := (A i)) zi_274_107 rfl (by omega) (by omega) (fun c1 => ?_) (fun c1 => ?_)
    · refine r_in8 zi_274_133 rfl ?_
      rw [show (nI j + 1 : Int32) = nI (j + 1) from nI_add _ _]
      refine r_goto zi_274_136 rfl ?_
      first
      | (rw [if_pos (by omega)] at ih; exact ih)
      | (rw [if_neg (by omega)] at ih; exact ih)
    · refine r_al0 zi_274_110 rfl ?_
      refine q_getR zi_274_111 rfl cf_195_59 ?_
      refine r_il8 zi_274_114 rfl ?_
      refine r_alde zi_274_116 rfl j ca_231 (by first | rfl | (simp only [zI_add, zI_mul] <;> rfl)) (by first | omega | decide) (u := nI (G j)) (by first | exact x2 | ((repeat (first | rw [zup_ne (by first | decide | omega)] | rw [zup_nj (by first | decide | omega)] | rw [fil_ne (by first | decide | omega)])) <;> exact x2) | (simp [up_rd, fil_rd]; exact x2)) ?_
      refine r_al0 zi_274_117 rfl ?_
      refine q_getR zi_274_118 rfl cf_195_57 ?_
      refine r_il6 zi_274_121 rfl ?_
      refine r_alde zi_274_123 rfl i ca_229 (by first | rfl | (simp only [zI_add, zI_mul] <;> rfl)) (by first | omega | decide) (u := nI (A i)) (by first | exact y1 | ((repeat (first | rw [zup_ne (by first | decide | omega)] | rw [zup_nj (by first | decide | omega)] | rw [fil_ne (by first | decide | omega)])) <;> exact y1) | (simp [up_rd, fil_rd]; exact y1)) ?_
      refine n_ic5 (i := (G j)) (j := (A i)) zi_274_124 rfl (by omega) (by omega) (fun c2 => ?_) (fun c2 => ?_)
      · refine r_in8 zi_274_133 rfl ?_
        rw [show (nI j + 1 : Int32) = nI (j + 1) from nI_add _ _]
        refine r_goto zi_274_136 rfl ?_
        first
        | (rw [if_pos (by omega)] at ih; exact ih)
        | (rw [if_neg (by omega)] at ih; exact ih)
      · refine r_il7 zi_274_127 rfl ?_
        refine r_push zi_274_129 rfl ?_
        refine r_b0 zi_274_130 rfl ?_
        rw [show (nI s + 1 : Int32) = nI (s + 1) from nI_add _ _]
        refine r_is7 zi_274_131 rfl ?_
        refine r_in8 zi_274_133 rfl ?_
        rw [show (nI j + 1 : Int32) = nI (j + 1) from nI_add _ _]
        refine r_goto zi_274_136 rfl ?_
        first
        | (rw [if_pos (by omega)] at ih; exact ih)
        | (rw [if_neg (by omega)] at ih; exact ih)
theorem l_mq2 {d c : Nat} {σ : zS} {Q : Int32 → zS → Prop} {A G : Nat → Nat} {a1 a3 : Value} {what : Int32} (hc : σ 195 56 = nI c) (hc10 : c ≤ 10) (hx : ∀ t, t < c → σ 229 t = nI (A t) ∧ σ 231 t = nI (G t) ∧ A t ≤ G t ∧ G t ≤ 1000) (hq : Q (if what = 0 then nI (zqW A G c) else nI (zqM A G c)) σ) : ∀ (m i : Nat) (u7 u8 : Value), i + m = c → zk (d + 1) 274 49 [.ref 195, a1, .int what, a3, .int (nI (zsum (fun j => G j - A j) i)), .int (nI (zmx (zqn A G c) i)), .int (nI i), u7, u8] [] σ (fun r t => ∃ v, r = some v ∧ Q v t) := by
  intro m
  induction m with
  | zero =>
    intro i u7 u8 hi
    have e : i = c := by omega
    subst e
    by_cases w : what = 0
    · rw [if_pos w] at hq
      refine r_il6 zi_274_49 rfl ?_
      refine r_al0 zi_274_51 rfl ?_
      refine q_getIe zi_274_52 rfl cf_195_56 (v := nI i) (by first | exact hc | ((repeat (first | rw [zup_ne (by first | decide | omega)] | rw [zup_nj (by first | decide | omega)] | rw [fil_ne (by first | decide | omega)])) <;> exact hc) | (simp [up_rd, fil_rd]; exact hc)) ?_
      refine n_ic3 (i := i) (j := i) zi_274_55 rfl (by omega) (by omega) (fun _ => ?_) (fun c => absurd c (by omega))
      refine r_il2 zi_274_155 rfl ?_
      refine r_if1 zi_274_156 rfl (fun c => absurd w c) (fun _ => ?_)
      refine r_il4 zi_274_159 rfl ?_
      refine r_goto zi_274_161 rfl ?_
      refine r_retI zi_274_166 rfl ?_
      exact ⟨_, rfl, hq⟩
    · rw [if_neg w] at hq
      refine r_il6 zi_274_49 rfl ?_
      refine r_al0 zi_274_51 rfl ?_
      refine q_getIe zi_274_52 rfl cf_195_56 (v := nI i) (by first | exact hc | ((repeat (first | rw [zup_ne (by first | decide | omega)] | rw [zup_nj (by first | decide | omega)] | rw [fil_ne (by first | decide | omega)])) <;> exact hc) | (simp [up_rd, fil_rd]; exact hc)) ?_
      refine n_ic3 (i := i) (j := i) zi_274_55 rfl (by omega) (by omega) (fun _ => ?_) (fun c => absurd c (by omega))
      refine r_il2 zi_274_155 rfl ?_
      refine r_if1 zi_274_156 rfl (fun _ => ?_) (fun c => absurd c w)
      refine r_il5 zi_274_164 rfl ?_
      refine r_retI zi_274_166 rfl ?_
      exact ⟨_, rfl, hq⟩
  | succ m ih =>
    intro i u7 u8 hi
    obtain ⟨y1, y2, y3, y4⟩ := hx i (by omega)
    have b1 : ∀ k, zqn A G c k ≤ c * 1 := fun k => zsum_c 1 c (fun j _ => by split <;> omega)
    have b2 : zmx (zqn A G c) i ≤ c * 1 := zmx_leB i (fun k _ => b1 k)
    have b3 := b1 i
    have hm := zmaxI (a := zmx (zqn A G c) i) (b := zqn A G c i) (by omega) (by omega)
    have ih := ih (i + 1)
    simp only [zmx, zsum] at ih
    generalize zsum (fun j => G j - A j) i = s at *
    refine r_il6 zi_274_49 rfl ?_
    refine r_al0 zi_274_51 rfl ?_
    refine q_getIe zi_274_52 rfl cf_195_56 (v := nI c) (by first | exact hc | ((repeat (first | rw [zup_ne (by first | decide | omega)] | rw [zup_nj (by first | decide | omega)] | rw [fil_ne (by first | decide | omega)])) <;> exact hc) | (simp [up_rd, fil_rd]; exact hc)) ?_
    refine n_ic3 (i := i) (j := c) zi_274_55 rfl (by omega) (by omega) (fun c => absurd c (by omega)) (fun _ => ?_)
    refine r_il4 zi_274_58 rfl ?_
    refine r_al0 zi_274_60 rfl ?_
    refine q_getR zi_274_61 rfl cf_195_59 ?_
    refine r_il6 zi_274_64 rfl ?_
    refine r_alde zi_274_66 rfl i ca_231 (by first | rfl | (simp only [zI_add, zI_mul] <;> rfl)) (by first | omega | decide) (u := nI (G i)) (by first | exact y2 | ((repeat (first | rw [zup_ne (by first | decide | omega)] | rw [zup_nj (by first | decide | omega)] | rw [fil_ne (by first | decide | omega)])) <;> exact y2) | (simp [up_rd, fil_rd]; exact y2)) ?_
    refine r_b0 zi_274_67 rfl ?_
    rw [show (nI s + nI (G i) : Int32) = nI (s + (G i)) from nI_add _ _]
    refine r_al0 zi_274_68 rfl ?_
    refine q_getR zi_274_69 rfl cf_195_57 ?_
    refine r_il6 zi_274_72 rfl ?_
    refine r_alde zi_274_74 rfl i ca_229 (by first | rfl | (simp only [zI_add, zI_mul] <;> rfl)) (by first | omega | decide) (u := nI (A i)) (by first | exact y1 | ((repeat (first | rw [zup_ne (by first | decide | omega)] | rw [zup_nj (by first | decide | omega)] | rw [fil_ne (by first | decide | omega)])) <;> exact y1) | (simp [up_rd, fil_rd]; exact y1)) ?_
    refine r_b1 zi_274_75 rfl ?_
    rw [show (nI (s + (G i)) - nI (A i) : Int32) = nI ((s + (G i)) - (A i)) from pk_sub (a := (s + (G i))) (b := (A i)) (by omega)]
    refine r_is4 zi_274_76 rfl ?_
    refine r_push zi_274_78 rfl ?_
    refine r_is7 zi_274_79 rfl ?_
    refine r_push zi_274_81 rfl ?_
    refine r_is8 zi_274_82 rfl ?_
    refine l_mq1 hc hc10 (by omega) hx ?_ c 0 (by omega)
    show zk _ _ 139 _ _ _ _
    refine r_al0 zi_274_139 rfl ?_
    refine r_il5 zi_274_140 rfl ?_
    refine r_il7 zi_274_142 rfl ?_
    refine q_cIV zi_274_144 rfl rfl rfl rfl rfl rfl rfl cf_195_0.ob (s_greater ?_)
    show zk _ _ 147 _ _ _ _
    rw [hm]
    refine r_is5 zi_274_147 rfl ?_
    refine r_in6 zi_274_149 rfl ?_
    rw [show (nI i + 1 : Int32) = nI (i + 1) from nI_add _ _]
    refine r_goto zi_274_152 rfl ?_
    have hgo := ih (.int (nI (zqn A G c i))) (.int (nI c)) (by omega)
    rw [show s + (G i - A i) = s + G i - A i by omega] at hgo
    exact hgo
theorem s_mqueue {d c : Nat} {σ : zS} {Q : Int32 → zS → Prop} {A N : Nat → Nat} {k what : Int32} (hc : σ 195 56 = nI c) (hc10 : c ≤ 10) (hT : zQm σ c A N) (h1 : ∀ K, 1 ≤ K → K ≤ 3 → k = nI K → ∀ τ, Fr [231, 232] (up σ 195 0 0) τ → Q (nI (zqa A N c K what)) τ) (h0 : ¬ zqOK k what → Q (-1) (up σ 195 0 0)) : zI1 (d + 2) 274 [.ref 195, .int k, .int what] σ Q := by
  show zk _ _ 0 [.ref 195, .int k, .int what, zun, zun, zun, zun, zun, zun] [] _ _
  by_cases hk : zqOK k what
  · obtain ⟨a1, a2, a3, a4⟩ := id hk
    obtain ⟨K, hK, rfl⟩ := zI_ofle (n := 3) (v := k) (by grind) a2 (by omega)
    have hK1 : 1 ≤ K := (nI_leI (a := 1) (by omega) (by omega)).mp a1
    have hq := h1 K hK1 hK rfl
    unfold zqa at hq
    have hS := zSo_m A c (by omega)
    have hA : ∀ j, j < c → A j ≤ 99 := fun j hj => (hT j hj).2.2.1
    have hN : ∀ j, j < c → N j ≤ 20 := fun j hj => (hT j hj).2.2.2
    have hb := zqF_le (k := K) hA hN hS.1
    have hc0 : up σ 195 0 0 195 56 = nI c := by rw [zup_nj (by decide)]; exact hc
    have hT0 : zQm (up σ 195 0 0) c A N := fun j hj => by rw [zup_ne (by decide), zup_ne (by decide)]; exact hT j hj
    obtain ⟨G, hG⟩ : ∃ G : Nat → Nat, ∀ x, x < c → G (zPm A c x) = zqb A N (zPm A c) K x := by
      refine ⟨fun j => zqb A N (zPm A c) K (zdF (fun t => decide (zPm A c t = j)) c 0), fun x hx => ?_⟩
      dsimp only
      have hs := zdF_spec (P := fun t => decide (zPm A c t = zPm A c x)) c 0
      have hlt : zdF (fun t => decide (zPm A c t = zPm A c x)) c 0 < c := by
        by_cases e : zdF (fun t => decide (zPm A c t = zPm A c x)) c 0 < c
        · exact e
        · have := hs.2.2.2 x (by omega) (by omega)
          simp at this
      have := of_decide_eq_true (hs.2.2.1 (by omega))
      rw [zSo_inj hS hlt hx this]
    have eW : zqW (fun t => A (zPm A c t)) (zqb A N (zPm A c) K) c = zqW A G c := by
      rw [← zqW_perm hS]
      exact zsum_congr c (fun t ht => by have hg := hG t ht; dsimp only; simp only [hg])
    have eM : zqM (fun t => A (zPm A c t)) (zqb A N (zPm A c) K) c = zqM A G c := by
      rw [← zqM_perm hS]
      have e1 : ∀ i, i < c → zqn (fun t => A (zPm A c t)) (zqb A N (zPm A c) K) c i = zqn (fun t => A (zPm A c t)) (fun t => G (zPm A c t)) c i := fun i _ => zsum_congr c (fun t ht => by have hg := hG t ht; dsimp only; simp only [hg])
      have e2 : ∀ n, n ≤ c → zmx (zqn (fun t => A (zPm A c t)) (zqb A N (zPm A c) K) c) n = zmx (zqn (fun t => A (zPm A c t)) (fun t => G (zPm A c t)) c) n := by
        intro n
        induction n with
        | zero => intro _; rfl
        | succ n ih => intro hn; show max _ _ = max _ _; rw [ih (by omega), e1 n (by omega)]
      exact e2 c (Nat.le_refl _)
    rw [eW, eM] at hq
    have hXY : ∀ τ : zS, Fr [231, 232] (up σ 195 0 0) τ → (∀ x, x < c → τ 231 (zPm A c x) = nI (zqb A N (zPm A c) K x)) → ∀ t, t < c → τ 229 t = nI (A t) ∧ τ 231 t = nI (G t) ∧ A t ≤ G t ∧ G t ≤ 1000 := fun τ hF hx t ht => by
      obtain ⟨u, hu, e⟩ := zSo_surj hS ht
      have g1 := hx u hu
      have g2 := hG u hu
      have g3 := (hb u (by omega)).1 (zsv (zqF A N (zPm A c) K u) K)
      have g4 := hA t ht
      rw [e] at g1 g2
      refine ⟨(hF 229 (by decide) t).trans (hT0 t ht).1, by rw [g1, g2], ?_, ?_⟩
      · rw [g2]; unfold zqb; rw [e]; exact Nat.le_max_left _ _
      · rw [g2]; unfold zqb; rw [e]; omega
    by_cases w1 : what = 1
    · rw [if_neg (by rw [w1]; decide), if_pos w1] at hq
      refine r_al0 zi_274_0 rfl ?_
      refine r_push zi_274_1 rfl ?_
      refine q_put zi_274_2 rfl cf_195_0 rfl ?_
      refine r_al0 zi_274_5 rfl ?_
      refine r_il1 zi_274_6 rfl ?_
      refine r_push zi_274_7 rfl ?_
      refine r_push zi_274_8 rfl ?_
      refine q_cIV zi_274_9 rfl rfl rfl rfl rfl rfl rfl cf_195_0.ob (s_isIn (fun _ _ => ?_) (fun z => absurd ⟨a1, a2⟩ z))
      show zk _ _ 12 _ _ _ _
      refine r_if0 zi_274_12 rfl (fun c => absurd c (by decide)) (fun _ => ?_)
      refine r_al0 zi_274_15 rfl ?_
      refine r_il2 zi_274_16 rfl ?_
      refine r_push zi_274_17 rfl ?_
      refine r_push zi_274_18 rfl ?_
      refine q_cIV zi_274_19 rfl rfl rfl rfl rfl rfl rfl cf_195_0.ob (s_isIn (fun _ _ => ?_) (fun z => absurd ⟨a3, a4⟩ z))
      show zk _ _ 22 _ _ _ _
      refine r_if1 zi_274_22 rfl (fun _ => ?_) (fun c => absurd c (by decide))
      refine r_al0 zi_274_27 rfl ?_
      refine r_il1 zi_274_28 rfl ?_
      refine q_cIV zi_274_29 rfl rfl rfl rfl rfl rfl rfl cf_195_0.ob (s_mserve hc0 hK1 hK hc10 hT0 hS (fun τ hF hx => ?_))
      show zk _ _ 32 _ _ _ _
      refine r_is3 zi_274_32 rfl ?_
      refine r_il2 zi_274_33 rfl ?_
      refine r_push zi_274_34 rfl ?_
      refine r_ic1 zi_274_35 rfl (fun c => absurd w1 c) (fun _ => ?_)
      refine r_il3 zi_274_38 rfl ?_
      refine r_retI zi_274_39 rfl ?_
      exact ⟨_, rfl, hq τ hF⟩
    · refine r_al0 zi_274_0 rfl ?_
      refine r_push zi_274_1 rfl ?_
      refine q_put zi_274_2 rfl cf_195_0 rfl ?_
      refine r_al0 zi_274_5 rfl ?_
      refine r_il1 zi_274_6 rfl ?_
      refine r_push zi_274_7 rfl ?_
      refine r_push zi_274_8 rfl ?_
      refine q_cIV zi_274_9 rfl rfl rfl rfl rfl rfl rfl cf_195_0.ob (s_isIn (fun _ _ => ?_) (fun z => absurd ⟨a1, a2⟩ z))
      show zk _ _ 12 _ _ _ _
      refine r_if0 zi_274_12 rfl (fun c => absurd c (by decide)) (fun _ => ?_)
      refine r_al0 zi_274_15 rfl ?_
      refine r_il2 zi_274_16 rfl ?_
      refine r_push zi_274_17 rfl ?_
      refine r_push zi_274_18 rfl ?_
      refine q_cIV zi_274_19 rfl rfl rfl rfl rfl rfl rfl cf_195_0.ob (s_isIn (fun _ _ => ?_) (fun z => absurd ⟨a3, a4⟩ z))
      show zk _ _ 22 _ _ _ _
      refine r_if1 zi_274_22 rfl (fun _ => ?_) (fun c => absurd c (by decide))
      refine r_al0 zi_274_27 rfl ?_
      refine r_il1 zi_274_28 rfl ?_
      refine q_cIV zi_274_29 rfl rfl rfl rfl rfl rfl rfl cf_195_0.ob (s_mserve hc0 hK1 hK hc10 hT0 hS (fun τ hF hx => ?_))
      show zk _ _ 32 _ _ _ _
      refine r_is3 zi_274_32 rfl ?_
      refine r_il2 zi_274_33 rfl ?_
      refine r_push zi_274_34 rfl ?_
      refine r_ic1 zi_274_35 rfl (fun _ => ?_) (fun c => absurd c w1)
      refine r_push zi_274_40 rfl ?_
      refine r_is4 zi_274_41 rfl ?_
      refine r_push zi_274_43 rfl ?_
      refine r_is5 zi_274_44 rfl ?_
      refine r_push zi_274_46 rfl ?_
      refine r_is6 zi_274_47 rfl ?_
      refine l_mq2 ((hF 195 (by decide) 56).trans hc0) hc10 (hXY τ hF hx) ?_ c 0 _ _ (by omega)
      have hq := hq τ hF
      by_cases w0 : what = 0
      · rw [if_pos w0] at hq ⊢; exact hq
      · rw [if_neg w0, if_neg w1] at hq; rw [if_neg w0]; exact hq
  · have h0 := h0 hk
    refine r_al0 zi_274_0 rfl ?_
    refine r_push zi_274_1 rfl ?_
    refine q_put zi_274_2 rfl cf_195_0 rfl ?_
    refine r_al0 zi_274_5 rfl ?_
    refine r_il1 zi_274_6 rfl ?_
    refine r_push zi_274_7 rfl ?_
    refine r_push zi_274_8 rfl ?_
    refine q_cIV zi_274_9 rfl rfl rfl rfl rfl rfl rfl cf_195_0.ob (s_isIn (fun i1 a1 => ?_) (fun i1 => ?_))
    · show zk _ _ 12 _ _ _ _
      refine r_if0 zi_274_12 rfl (fun c => absurd c (by decide)) (fun _ => ?_)
      refine r_al0 zi_274_15 rfl ?_
      refine r_il2 zi_274_16 rfl ?_
      refine r_push zi_274_17 rfl ?_
      refine r_push zi_274_18 rfl ?_
      refine q_cIV zi_274_19 rfl rfl rfl rfl rfl rfl rfl cf_195_0.ob (s_isIn (fun i2 a2 => ?_) (fun i2 => ?_))
      · show zk _ _ 22 _ _ _ _
        refine r_if1 zi_274_22 rfl (fun _ => ?_) (fun c => absurd c (by decide))
        exact absurd ⟨by assumption, by assumption, by assumption, by assumption⟩ hk
      · show zk _ _ 22 _ _ _ _
        refine r_if1 zi_274_22 rfl (fun c => absurd (by decide) c) (fun _ => ?_)
        refine r_push zi_274_25 rfl ?_
        refine r_retI zi_274_26 rfl ?_
        exact ⟨_, rfl, h0⟩
    · show zk _ _ 12 _ _ _ _
      refine r_if0 zi_274_12 rfl (fun _ => ?_) (fun c => absurd (by decide) c)
      refine r_push zi_274_25 rfl ?_
      refine r_retI zi_274_26 rfl ?_
      exact ⟨_, rfl, h0⟩

