/-! FOLLOWS, model -/
theorem l_mfl {d AB D M K : Nat} {σ : zS} {Q : Int32 → zS → Prop} {f : Nat → Nat} (hf : zrec (AB / 1000) (AB % 1000) D M f) (hfM : ∀ i, f i < M) (hAB : AB ≤ 999999) (hD1 : 1 ≤ D) (hD : D ≤ 5) (hM1 : 1 ≤ M) (hM : M ≤ 1000) (hK : K ≤ 1000000) (hq : ∀ τ, Fr [219] σ τ → Q (nI (f K)) τ) : ∀ (m e : Nat) (τ : zS) (u7 : Value), (e + D + m = K + 1 ∨ (m = 0 ∧ e = 0 ∧ K < D)) → Fr [219] σ τ → (∀ i, i < D → τ 219 ((e + i) % D) = nI (f (e + i))) → zk d 254 87 [.ref 195, .int (nI AB), .int (nI D), .int (nI M), .int (nI K), .int (nI (f (e + D - 1))), .int (nI (e + D)), u7] [] τ (fun r t => ∃ v, r = some v ∧ Q v t) := by
  intro m
  induction m with
  | zero =>
    intro e τ u7 he hF hv
    have hfe : f (e + D - 1) = f K := by
      rcases he with h | ⟨_, h, h2⟩
      · rw [show e + D - 1 = K by omega]
      · rw [h, hf.1 K h2, hf.1 _ (by omega)]
    rw [hfe]
    refine r_il6 zi_254_87 rfl ?_
    refine r_il4 zi_254_89 rfl ?_
    refine n_ic4 (i := (e + D)) (j := K) zi_254_91 rfl (by omega) (by omega) (fun _ => ?_) (fun c => absurd c (by omega))
    refine r_il5 zi_254_143 rfl ?_
    refine r_retI zi_254_145 rfl ?_
    exact ⟨_, rfl, hq _ hF⟩
  | succ m ih =>
    intro e τ u7 he hF hv
    have he' : e + D + (m + 1) = K + 1 := by omega
    have hD0 : 0 < D := hD1
    have hlt : (e + D) % D < D := Nat.mod_lt _ hD0
    have h115 := hv 0 hD0
    rw [Nat.add_zero, ← Nat.add_mod_right e D] at h115
    have b1 := hfM (e + D - 1)
    have b2 := hfM e
    have bb1 : AB / 1000 * f (e + D - 1) ≤ 999 * 999 := Nat.mul_le_mul (by omega) (by omega)
    have bb2 : AB % 1000 * f e ≤ 999 * 999 := Nat.mul_le_mul (by omega) (by omega)
    have hrec : (AB / 1000 * f (e + D - 1) + AB % 1000 * f e) % M = f (e + D) := (hf.2 e).symm
    refine r_il6 zi_254_87 rfl ?_
    refine r_il4 zi_254_89 rfl ?_
    refine n_ic4 (i := (e + D)) (j := K) zi_254_91 rfl (by omega) (by omega) (fun c => absurd c (by omega)) (fun _ => ?_)
    refine r_il1 zi_254_94 rfl ?_
    refine r_push zi_254_95 rfl ?_
    refine r_div zi_254_98 rfl (by decide) ?_
    rw [show (nI AB / 1000 : Int32) = nI (AB / 1000) from pk_div (d := 1000) (by omega) (by omega) (by omega)]
    refine r_il5 zi_254_99 rfl ?_
    refine r_b2 zi_254_101 rfl ?_
    rw [show (nI (AB / 1000) * nI (f (e + D - 1)) : Int32) = nI ((AB / 1000) * (f (e + D - 1))) from pk_mul _ _]
    refine r_il1 zi_254_102 rfl ?_
    refine r_push zi_254_103 rfl ?_
    refine r_rem zi_254_106 rfl (by decide) ?_
    rw [show (nI AB % 1000 : Int32) = nI (AB % 1000) from zI_rem (d := 1000) (by omega) (by omega) (by omega)]
    refine r_al0 zi_254_107 rfl ?_
    refine q_getR zi_254_108 rfl cf_195_43 ?_
    refine r_il6 zi_254_111 rfl ?_
    refine r_il2 zi_254_113 rfl ?_
    refine r_rem zi_254_114 rfl (nI_ne0 (by omega) (by omega)) ?_
    rw [show (nI (e + D) % nI D : Int32) = nI ((e + D) % D) from zI_rem (by omega) (by omega) (by omega)]
    refine r_alde zi_254_115 rfl ((e + D) % D) ca_219 (by first | rfl | (simp only [zI_add, zI_mul] <;> rfl)) (by first | omega | decide) (u := nI (f e)) (by first | exact h115 | ((repeat (first | rw [zup_ne (by first | decide | omega)] | rw [zup_nj (by first | decide | omega)] | rw [fil_ne (by first | decide | omega)])) <;> exact h115) | (simp [up_rd, fil_rd]; exact h115)) ?_
    refine r_b2 zi_254_116 rfl ?_
    rw [show (nI (AB % 1000) * nI (f e) : Int32) = nI ((AB % 1000) * (f e)) from pk_mul _ _]
    refine r_b0 zi_254_117 rfl ?_
    rw [show (nI ((AB / 1000) * (f (e + D - 1))) + nI ((AB % 1000) * (f e)) : Int32) = nI (((AB / 1000) * (f (e + D - 1))) + ((AB % 1000) * (f e))) from nI_add _ _]
    refine r_il3 zi_254_118 rfl ?_
    refine r_rem zi_254_119 rfl (nI_ne0 (by omega) (by omega)) ?_
    rw [show (nI (((AB / 1000) * (f (e + D - 1))) + ((AB % 1000) * (f e))) % nI M : Int32) = nI ((((AB / 1000) * (f (e + D - 1))) + ((AB % 1000) * (f e))) % M) from zI_rem (by omega) (by omega) (by omega)]
    rw [hrec]
    refine r_is7 zi_254_120 rfl ?_
    refine r_al0 zi_254_122 rfl ?_
    refine q_getR zi_254_123 rfl cf_195_43 ?_
    refine r_il6 zi_254_126 rfl ?_
    refine r_il2 zi_254_128 rfl ?_
    refine r_rem zi_254_129 rfl (nI_ne0 (by omega) (by omega)) ?_
    rw [show (nI (e + D) % nI D : Int32) = nI ((e + D) % D) from zI_rem (by omega) (by omega) (by omega)]
    refine r_il7 zi_254_130 rfl ?_
    refine r_ast zi_254_132 rfl ((e + D) % D) ca_219 (by first | rfl | (simp only [zI_add, zI_mul] <;> rfl)) (by first | omega | decide) ?_
    refine r_il7 zi_254_133 rfl ?_
    refine r_is5 zi_254_135 rfl ?_
    refine r_in6 zi_254_137 rfl ?_
    rw [show (nI (e + D) + 1 : Int32) = nI ((e + D) + 1) from nI_add _ _]
    refine r_goto zi_254_140 rfl ?_
    have hx := ih (e + 1) (up τ 219 ((e + D) % D) (nI (f (e + D)))) (.int (nI (f (e + D)))) (Or.inl (by omega)) (hF.put (by decide)) (fun i hi => ?_)
    · rw [show e + 1 + D - 1 = e + D by omega, show e + 1 + D = e + D + 1 by omega] at hx
      exact hx
    · rw [up_rd]
      by_cases ei : i = D - 1
      · rw [if_pos ⟨rfl, by rw [ei, show e + 1 + (D - 1) = e + D by omega]⟩, ei, show e + 1 + (D - 1) = e + D by omega]
      · have hne : (e + 1 + i) % D ≠ (e + D) % D := by
          have h5 : D = 1 ∨ D = 2 ∨ D = 3 ∨ D = 4 ∨ D = 5 := by omega
          rcases h5 with h5 | h5 | h5 | h5 | h5 <;> subst h5 <;> omega
        rw [if_neg (fun z => hne z.2)]
        have := hv (i + 1) (by omega)
        rw [show e + (i + 1) = e + 1 + i by omega] at this
        exact this
theorem l_mf0 {d AB D M K : Nat} {σ : zS} {R : Option Int32 → zS → Prop} (hM1 : 1 ≤ M) (hM : M ≤ 1000) (h : ∀ τ u5, Fr [219] σ τ → (∀ j, j < 5 → τ 219 j = nI (1 % M)) → zk d 254 79 [.ref 195, .int (nI AB), .int (nI D), .int (nI M), .int (nI K), u5, zun, zun] [] τ R) : ∀ (m i : Nat) (τ : zS), i + m = 5 → Fr [219] σ τ → (∀ j, j < i → τ 219 j = nI (1 % M)) → zk d 254 57 [.ref 195, .int (nI AB), .int (nI D), .int (nI M), .int (nI K), .int (nI i), zun, zun] [] τ R := by
  have e1m : (1 : Int32) % nI M = nI (1 % M) := zI_rem (a := 1) (by omega) (by omega) (by omega)
  intro m
  induction m with
  | zero =>
    intro i τ hi hF hv
    have e12 : i = 5 := by omega
    subst e12
    refine r_il5 zi_254_57 rfl ?_
    refine r_push zi_254_59 rfl ?_
    refine r_ic3 zi_254_60 rfl (fun _ => ?_) (fun c => absurd (by decide) c)
    exact h _ _ hF hv
  | succ m ih =>
    intro i τ hi hF hv
    refine r_il5 zi_254_57 rfl ?_
    refine r_push zi_254_59 rfl ?_
    refine n_ic3 (i := i) (j := 5) zi_254_60 rfl (by omega) (by omega) (fun c => absurd c (by omega)) (fun _ => ?_)
    refine r_al0 zi_254_63 rfl ?_
    refine q_getR zi_254_64 rfl cf_195_43 ?_
    refine r_il5 zi_254_67 rfl ?_
    refine r_push zi_254_69 rfl ?_
    refine r_il3 zi_254_70 rfl ?_
    refine r_rem zi_254_71 rfl (nI_ne0 (by omega) (by omega)) ?_
    rw [e1m]
    refine r_ast zi_254_72 rfl i ca_219 (by first | rfl | (simp only [zI_add, zI_mul] <;> rfl)) (by first | omega | decide) ?_
    refine r_in5 zi_254_73 rfl ?_
    rw [show (nI i + 1 : Int32) = nI (i + 1) from nI_add _ _]
    refine r_goto zi_254_76 rfl ?_
    refine ih (i + 1) _ (by omega) (hF.put (by decide)) (fun j hj => ?_)
    rw [up_rd]
    by_cases e : j = i
    · rw [if_pos ⟨rfl, e⟩]
    · rw [if_neg (fun z => e z.2)]; exact hv j (by omega)
theorem s_mfollows {d0 : Nat} {σ : zS} {Q : Int32 → zS → Prop} {ab d m k : Int32} (h1 : ∀ AB D M K f, zrec (AB / 1000) (AB % 1000) D M f → AB ≤ 999999 → 1 ≤ D → D ≤ 5 → 1 ≤ M → M ≤ 1000 → K ≤ 1000000 → ab = nI AB → d = nI D → m = nI M → k = nI K → f = (fun i => zwin (AB / 1000) (AB % 1000) D M i 0) → ∀ τ, Fr [219] (up σ 195 0 0) τ → Q (nI (f K % M)) τ) (h0 : ¬ zfOK ab d m k → Q (-1) (up σ 195 0 0)) : zI1 (d0 + 1) 254 [.ref 195, .int ab, .int d, .int m, .int k] σ Q := by
  show zk _ _ 0 [.ref 195, .int ab, .int d, .int m, .int k, zun, zun, zun] [] _ _
  by_cases hk : zfOK ab d m k
  · obtain ⟨a1, a2, a3, a4, a5, a6, a7, a8⟩ := id hk
    obtain ⟨AB, D, M, K, b1, b2, b3, b4, b5, b6, rfl, rfl, rfl, rfl⟩ := zfOK_ex hk
    have hf := zrec_ex (AB / 1000) (AB % 1000) D M b2
    obtain ⟨f, hfe⟩ : ∃ f : Nat → Nat, f = fun i => zwin (AB / 1000) (AB % 1000) D M i 0 := ⟨_, rfl⟩
    rw [← hfe] at hf
    have hq := h1 AB D M K f hf b1 b2 b3 b4 b5 b6 rfl rfl rfl rfl hfe
    have e1m : (1 : Int32) % nI M = nI (1 % M) := zI_rem (a := 1) (by omega) (by omega) (by omega)
    have hfM : ∀ i, f i < M := fun i => by
      by_cases hi : i < D
      · rw [hf.1 i hi]; exact Nat.mod_lt _ b4
      · have := hf.2 (i - D)
        rw [show i - D + D = i by omega] at this
        rw [this]; exact Nat.mod_lt _ b4
    rw [Nat.mod_eq_of_lt (hfM K)] at hq
    refine r_al0 zi_254_0 rfl ?_
    refine r_push zi_254_1 rfl ?_
    refine q_put zi_254_2 rfl cf_195_0 rfl ?_
    refine r_al0 zi_254_5 rfl ?_
    refine r_il1 zi_254_6 rfl ?_
    refine r_push zi_254_7 rfl ?_
    refine r_push zi_254_8 rfl ?_
    refine q_cIV zi_254_11 rfl rfl rfl rfl rfl rfl rfl cf_195_0.ob (s_isIn (fun _ _ => ?_) (fun z => absurd ⟨a1, a2⟩ z))
    show zk _ _ 14 _ _ _ _
    refine r_if0 zi_254_14 rfl (fun c => absurd c (by decide)) (fun _ => ?_)
    refine r_al0 zi_254_17 rfl ?_
    refine r_il2 zi_254_18 rfl ?_
    refine r_push zi_254_19 rfl ?_
    refine r_push zi_254_20 rfl ?_
    refine q_cIV zi_254_21 rfl rfl rfl rfl rfl rfl rfl cf_195_0.ob (s_isIn (fun _ _ => ?_) (fun z => absurd ⟨a3, a4⟩ z))
    show zk _ _ 24 _ _ _ _
    refine r_if0 zi_254_24 rfl (fun c => absurd c (by decide)) (fun _ => ?_)
    refine r_al0 zi_254_27 rfl ?_
    refine r_il3 zi_254_28 rfl ?_
    refine r_push zi_254_29 rfl ?_
    refine r_push zi_254_30 rfl ?_
    refine q_cIV zi_254_33 rfl rfl rfl rfl rfl rfl rfl cf_195_0.ob (s_isIn (fun _ _ => ?_) (fun z => absurd ⟨a5, a6⟩ z))
    show zk _ _ 36 _ _ _ _
    refine r_if0 zi_254_36 rfl (fun c => absurd c (by decide)) (fun _ => ?_)
    refine r_al0 zi_254_39 rfl ?_
    refine r_il4 zi_254_40 rfl ?_
    refine r_push zi_254_42 rfl ?_
    refine r_push zi_254_43 rfl ?_
    refine q_cIV zi_254_46 rfl rfl rfl rfl rfl rfl rfl cf_195_0.ob (s_isIn (fun _ _ => ?_) (fun z => absurd ⟨a7, a8⟩ z))
    show zk _ _ 49 _ _ _ _
    refine r_if1 zi_254_49 rfl (fun _ => ?_) (fun c => absurd c (by decide))
    refine r_push zi_254_54 rfl ?_
    refine r_is5 zi_254_55 rfl ?_
    refine l_mf0 b4 b5 (fun τ u5 hF hv => ?_) 5 0 _ (by omega) Fr.rf (fun j hj => by omega)
    show zk _ _ 79 _ _ _ _
    refine r_push zi_254_79 rfl ?_
    refine r_il3 zi_254_80 rfl ?_
    refine r_rem zi_254_81 rfl (nI_ne0 (by omega) (by omega)) ?_
    rw [e1m]
    refine r_is5 zi_254_82 rfl ?_
    refine r_il2 zi_254_84 rfl ?_
    refine r_is6 zi_254_85 rfl ?_
    have hx := l_mfl (d := d0 + 1) (σ := up σ 195 0 0) hf hfM b1 b2 b3 b4 b5 b6 hq (K + 1 - D) 0 τ zun (by omega) hF (fun i hi => by
      rw [Nat.zero_add, Nat.mod_eq_of_lt hi, hf.1 i hi]; exact hv i (by omega))
    rw [Nat.zero_add, hf.1 (D - 1) (by omega)] at hx
    exact hx
  · have h0 := h0 hk
    refine r_al0 zi_254_0 rfl ?_
    refine r_push zi_254_1 rfl ?_
    refine q_put zi_254_2 rfl cf_195_0 rfl ?_
    refine r_al0 zi_254_5 rfl ?_
    refine r_il1 zi_254_6 rfl ?_
    refine r_push zi_254_7 rfl ?_
    refine r_push zi_254_8 rfl ?_
    refine q_cIV zi_254_11 rfl rfl rfl rfl rfl rfl rfl cf_195_0.ob (s_isIn (fun i1 a1 => ?_) (fun i1 => ?_))
    · show zk _ _ 14 _ _ _ _
      refine r_if0 zi_254_14 rfl (fun c => absurd c (by decide)) (fun _ => ?_)
      refine r_al0 zi_254_17 rfl ?_
      refine r_il2 zi_254_18 rfl ?_
      refine r_push zi_254_19 rfl ?_
      refine r_push zi_254_20 rfl ?_
      refine q_cIV zi_254_21 rfl rfl rfl rfl rfl rfl rfl cf_195_0.ob (s_isIn (fun i2 a2 => ?_) (fun i2 => ?_))
      · show zk _ _ 24 _ _ _ _
        refine r_if0 zi_254_24 rfl (fun c => absurd c (by decide)) (fun _ => ?_)
        refine r_al0 zi_254_27 rfl ?_
        refine r_il3 zi_254_28 rfl ?_
        refine r_push zi_254_29 rfl ?_
        refine r_push zi_254_30 rfl ?_
        refine q_cIV zi_254_33 rfl rfl rfl rfl rfl rfl rfl cf_195_0.ob (s_isIn (fun i3 a3 => ?_) (fun i3 => ?_))
        · show zk _ _ 36 _ _ _ _
          refine r_if0 zi_254_36 rfl (fun c => absurd c (by decide)) (fun _ => ?_)
          refine r_al0 zi_254_39 rfl ?_
          refine r_il4 zi_254_40 rfl ?_
          refine r_push zi_254_42 rfl ?_
          refine r_push zi_254_43 rfl ?_
          refine q_cIV zi_254_46 rfl rfl rfl rfl rfl rfl rfl cf_195_0.ob (s_isIn (fun i4 a4 => ?_) (fun i4 => ?_))
          · show zk _ _ 49 _ _ _ _
            refine r_if1 zi_254_49 rfl (fun _ => ?_) (fun c => absurd c (by decide))
            exact absurd ⟨by assumption, by assumption, by assumption, by assumption, by assumption, by assumption, by assumption, by assumption⟩ hk
          · show zk _ _ 49 _ _ _ _
            refine r_if1 zi_254_49 rfl (fun c => absurd (by decide) c) (fun _ => ?_)
            refine r_push zi_254_52 rfl ?_
            refine r_retI zi_254_53 rfl ?_
            exact ⟨_, rfl, h0⟩
        · show zk _ _ 36 _ _ _ _
          refine r_if0 zi_254_36 rfl (fun _ => ?_) (fun c => absurd (by decide) c)
          refine r_push zi_254_52 rfl ?_
          refine r_retI zi_254_53 rfl ?_
          exact ⟨_, rfl, h0⟩
      · show zk _ _ 24 _ _ _ _
        refine r_if0 zi_254_24 rfl (fun _ => ?_) (fun c => absurd (by decide) c)
        refine r_push zi_254_52 rfl ?_
        refine r_retI zi_254_53 rfl ?_
        exact ⟨_, rfl, h0⟩
    · show zk _ _ 14 _ _ _ _
      refine r_if0 zi_254_14 rfl (fun _ => ?_) (fun c => absurd (by decide) c)
      refine r_push zi_254_52 rfl ?_
      refine r_retI zi_254_53 rfl ?_
      exact ⟨_, rfl, h0⟩

