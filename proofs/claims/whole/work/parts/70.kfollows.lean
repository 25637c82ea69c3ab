/-! FOLLOWS, class -/
theorem l_ksum {d k N : Nat} {σ : zS} {Q : Int32 → zS → Prop} {P : Nat → Nat} (hk : zIs k (.inl N)) (hN : N ≤ 2000) (hP : ∀ j, j < N → σ k j = nI (P j)) (hq : Q (nI (zsum P N)) σ) : ∀ (m i : Nat) (u5 : Value), i + m = N → zk d 161 10 [.ref k, .int (nI (zsum P i)), .ref k, .int (nI N), .int (nI i), u5] [] σ (fun r t => ∃ v, r = some v ∧ Q v t) := by
  intro m
  induction m with
  | zero =>
    intro i u5 hi
    have e12 : i = N := by omega
    subst e12
    refine r_il4 zi_161_10 rfl ?_
    refine r_il3 zi_161_12 rfl ?_
    refine n_ic3 (i := i) (j := i) zi_161_13 rfl (by omega) (by omega) (fun _ => ?_) (fun c => absurd c (by omega))
    refine r_il1 zi_161_33 rfl ?_
    refine r_retI zi_161_34 rfl ?_
    exact ⟨_, rfl, hq⟩
  | succ m ih =>
    intro i u5 hi
    have hp := hP i (by omega)
    have ih := ih (i + 1)
    simp only [zsum] at ih
    rw [← nI_add] at ih
    refine r_il4 zi_161_10 rfl ?_
    refine r_il3 zi_161_12 rfl ?_
    refine n_ic3 (i := i) (j := N) zi_161_13 rfl (by omega) (by omega) (fun c => absurd c (by omega)) (fun _ => ?_)
    refine r_al2 zi_161_16 rfl ?_
    refine r_il4 zi_161_17 rfl ?_
    refine r_alde zi_161_19 rfl i hk (by first | rfl | (simp only [zI_add, zI_mul] <;> rfl)) (by first | omega | decide) (u := nI (P i)) (by first | exact hp | ((repeat (first | rw [zup_ne (by first | decide | omega)] | rw [zup_nj (by first | decide | omega)] | rw [fil_ne (by first | decide | omega)])) <;> exact hp) | (simp [up_rd, fil_rd]; exact hp)) ?_
    refine r_is5 zi_161_20 rfl ?_
    refine r_il1 zi_161_22 rfl ?_
    refine r_il5 zi_161_23 rfl ?_
    refine r_b0 zi_161_25 rfl ?_
    refine r_is1 zi_161_26 rfl ?_
    refine r_in4 zi_161_27 rfl ?_
    rw [show (nI i + 1 : Int32) = nI (i + 1) from nI_add _ _]
    refine r_goto zi_161_30 rfl ?_
    exact ih _ (by omega)
theorem s_ksum {d k N : Nat} {σ : zS} {Q : Int32 → zS → Prop} {P : Nat → Nat} (hk : zIs k (.inl N)) (hN : N ≤ 2000) (hP : ∀ j, j < N → σ k j = nI (P j)) (hq : Q (nI (zsum P N)) σ) : zI1 d 161 [.ref k] σ Q := by
  show zk _ _ 0 [.ref k, zun, zun, zun, zun, zun] [] _ _
  refine r_push zi_161_0 rfl ?_
  refine r_is1 zi_161_1 rfl ?_
  refine r_al0 zi_161_2 rfl ?_
  refine r_as2 zi_161_3 rfl ?_
  refine r_al2 zi_161_4 rfl ?_
  refine r_alen zi_161_5 rfl hk ?_
  refine r_is3 zi_161_6 rfl ?_
  refine r_push zi_161_7 rfl ?_
  refine r_is4 zi_161_8 rfl ?_
  exact l_ksum hk hN hP hq N 0 _ (by omega)
abbrev zPW (σ : zS) (k N M : Nat) (P : Nat → Nat) : Prop := (∀ j, j < N → σ k j = nI (P j)) ∧ ∀ j, P j < M
theorem zPW_put {σ : zS} {k N M x v : Nat} {P : Nat → Nat} (h : zPW σ k N M P) (hv : v < M) : zPW (up σ k x (nI v)) k N M (zpd P x v) := by
  refine ⟨fun j hj => ?_, fun j => ?_⟩
  · rw [up_rd]
    unfold zpd
    by_cases e : j = x
    · rw [if_pos ⟨rfl, e⟩, if_pos e]
    · rw [if_neg (fun z => e z.2), if_neg e]; exact h.1 j hj
  · unfold zpd; split
    · exact hv
    · exact h.2 j
theorem l_dd1 {d AB D M i : Nat} {σ : zS} {R : Option Int32 → zS → Prop} {f P : Nat → Nat} (hD1 : 1 ≤ D) (hD : D ≤ 5) (hM1 : 1 ≤ M) (hM : M ≤ 1000) (hP : zPW σ 180 5 M P) (hi : i < D) (hq : ∀ τ W, Fr [181] σ τ → zPW τ 181 9 M W → (∀ t, zq M (zsum (fun j => W j * f (t + j)) (2 * D - 1)) (zdp D f P t i D)) → zk d 65 70 [.ref 177, .int (nI AB), .int (nI D), .int (nI M), .int (nI i), .int (nI D)] [] τ R) : ∀ (m j : Nat) (τ : zS) (W : Nat → Nat), j + m = D → Fr [181] σ τ → zPW τ 181 9 M W → (∀ t, zq M (zsum (fun j => W j * f (t + j)) (2 * D - 1)) (zdp D f P t i j)) → zk d 65 20 [.ref 177, .int (nI AB), .int (nI D), .int (nI M), .int (nI i), .int (nI j)] [] τ R := by
  intro m
  induction m with
  | zero =>
    intro j τ W hj hF hW hI
    have e12 : j = D := by omega
    subst e12
    refine r_il5 zi_65_20 rfl ?_
    refine r_il2 zi_65_22 rfl ?_
    refine n_ic3 (i := j) (j := j) zi_65_23 rfl (by omega) (by omega) (fun _ => ?_) (fun c => absurd c (by omega))
    exact hq _ _ hF hW hI
  | succ m ih =>
    intro j τ W hj hF hW hI
    have hw := hW.1 (i + j) (by omega)
    have bw := hW.2 (i + j)
    have hpi := (hF 180 (by decide) i).trans (hP.1 i (by omega))
    have hpj := (hF 180 (by decide) j).trans (hP.1 j (by omega))
    have bpi := hP.2 i
    have bpj := hP.2 j
    have bb : P i * P j ≤ 999 * 999 := Nat.mul_le_mul (by omega) (by omega)
    have hmod : (W (i + j) + P i * P j) % M < M := Nat.mod_lt _ (by omega)
    refine r_il5 zi_65_20 rfl ?_
    refine r_il2 zi_65_22 rfl ?_
    refine n_ic3 (i := j) (j := D) zi_65_23 rfl (by omega) (by omega) (fun c => absurd c (by omega)) (fun _ => ?_)
    refine r_al0 zi_65_26 rfl ?_
    refine q_getR zi_65_27 rfl cf_177_4 ?_
    refine r_il4 zi_65_30 rfl ?_
    refine r_il5 zi_65_32 rfl ?_
    refine r_b0 zi_65_34 rfl ?_
    rw [show (nI i + nI j : Int32) = nI (i + j) from nI_add _ _]
    refine r_al0 zi_65_35 rfl ?_
    refine q_getR zi_65_36 rfl cf_177_4 ?_
    refine r_il4 zi_65_39 rfl ?_
    refine r_il5 zi_65_41 rfl ?_
    refine r_b0 zi_65_43 rfl ?_
    rw [show (nI i + nI j : Int32) = nI (i + j) from nI_add _ _]
    refine r_alde zi_65_44 rfl (i + j) ca_181 (by first | rfl | (simp only [zI_add, zI_mul] <;> rfl)) (by first | omega | decide) (u := nI (W (i + j))) (by first | exact hw | ((repeat (first | rw [zup_ne (by first | decide | omega)] | rw [zup_nj (by first | decide | omega)] | rw [fil_ne (by first | decide | omega)])) <;> exact hw) | (simp [up_rd, fil_rd]; exact hw)) ?_
    refine r_al0 zi_65_45 rfl ?_
    refine q_getR zi_65_46 rfl cf_177_3 ?_
    refine r_il4 zi_65_49 rfl ?_
    refine r_alde zi_65_51 rfl i ca_180 (by first | rfl | (simp only [zI_add, zI_mul] <;> rfl)) (by first | omega | decide) (u := nI (P i)) (by first | exact hpi | ((repeat (first | rw [zup_ne (by first | decide | omega)] | rw [zup_nj (by first | decide | omega)] | rw [fil_ne (by first | decide | omega)])) <;> exact hpi) | (simp [up_rd, fil_rd]; exact hpi)) ?_
    refine r_al0 zi_65_52 rfl ?_
    refine q_getR zi_65_53 rfl cf_177_3 ?_
    refine r_il5 zi_65_56 rfl ?_
    refine r_alde zi_65_58 rfl j ca_180 (by first | rfl | (simp only [zI_add, zI_mul] <;> rfl)) (by first | omega | decide) (u := nI (P j)) (by first | exact hpj | ((repeat (first | rw [zup_ne (by first | decide | omega)] | rw [zup_nj (by first | decide | omega)] | rw [fil_ne (by first | decide | omega)])) <;> exact hpj) | (simp [up_rd, fil_rd]; exact hpj)) ?_
    refine r_b2 zi_65_59 rfl ?_
    rw [show (nI (P i) * nI (P j) : Int32) = nI ((P i) * (P j)) from pk_mul _ _]
    refine r_b0 zi_65_60 rfl ?_
    rw [show (nI (W (i + j)) + nI ((P i) * (P j)) : Int32) = nI ((W (i + j)) + ((P i) * (P j))) from nI_add _ _]
    refine r_il3 zi_65_61 rfl ?_
    refine r_rem zi_65_62 rfl (nI_ne0 (by omega) (by omega)) ?_
    rw [show (nI ((W (i + j)) + ((P i) * (P j))) % nI M : Int32) = nI (((W (i + j)) + ((P i) * (P j))) % M) from zI_rem (by omega) (by omega) (by omega)]
    refine r_ast zi_65_63 rfl (i + j) ca_181 (by first | rfl | (simp only [zI_add, zI_mul] <;> rfl)) (by first | omega | decide) ?_
    refine r_in5 zi_65_64 rfl ?_
    rw [show (nI j + 1 : Int32) = nI (j + 1) from nI_add _ _]
    refine r_goto zi_65_67 rfl ?_
    refine ih (j + 1) _ _ (by omega) (hF.put (by decide)) (zPW_put hW hmod) (fun t => ?_)
    rw [zdp_s]
    exact (zsum_add (g := fun j => f (t + j)) (by omega)).trans ((hI t).add zq.rf)
theorem l_dd2 {d AB D M : Nat} {σ : zS} {R : Option Int32 → zS → Prop} {f P : Nat → Nat} (hD1 : 1 ≤ D) (hD : D ≤ 5) (hM1 : 1 ≤ M) (hM : M ≤ 1000) (hP : zPW σ 180 5 M P) (hq : ∀ τ W u5, Fr [181] σ τ → zPW τ 181 9 M W → (∀ t, zq M (zsum (fun j => W j * f (t + j)) (2 * D - 1)) (zdp D f P t D 0)) → zk d 65 76 [.ref 177, .int (nI AB), .int (nI D), .int (nI M), .int (nI D), u5] [] τ R) : ∀ (m i : Nat) (τ : zS) (W : Nat → Nat) (u5 : Value), i + m = D → Fr [181] σ τ → zPW τ 181 9 M W → (∀ t, zq M (zsum (fun j => W j * f (t + j)) (2 * D - 1)) (zdp D f P t i 0)) → zk d 65 11 [.ref 177, .int (nI AB), .int (nI D), .int (nI M), .int (nI i), u5] [] τ R := by
  intro m
  induction m with
  | zero =>
    intro i τ W u5 hi hF hW hI
    have e12 : i = D := by omega
    subst e12
    refine r_il4 zi_65_11 rfl ?_
    refine r_il2 zi_65_13 rfl ?_
    refine n_ic3 (i := i) (j := i) zi_65_14 rfl (by omega) (by omega) (fun _ => ?_) (fun c => absurd c (by omega))
    exact hq _ _ _ hF hW hI
  | succ m ih =>
    intro i τ W u5 hi hF hW hI
    refine r_il4 zi_65_11 rfl ?_
    refine r_il2 zi_65_13 rfl ?_
    refine n_ic3 (i := i) (j := D) zi_65_14 rfl (by omega) (by omega) (fun c => absurd c (by omega)) (fun _ => ?_)
    refine r_push zi_65_17 rfl ?_
    refine r_is5 zi_65_18 rfl ?_
    refine l_dd1 (σ := τ) hD1 hD hM1 hM ⟨fun j hj => (hF 180 (by decide) j).trans (hP.1 j hj), hP.2⟩ (by omega) (fun τ2 W2 hF2 hW2 hI2 => ?_) D 0 τ W (by omega) Fr.rf hW hI
    show zk _ _ 70 _ _ _ _
    refine r_in4 zi_65_70 rfl ?_
    rw [show (nI i + 1 : Int32) = nI (i + 1) from nI_add _ _]
    refine r_goto zi_65_73 rfl ?_
    exact ih (i + 1) _ _ _ (by omega) (hF.tr hF2) hW2 (fun t => by rw [zdp_i]; exact hI2 t)
theorem l_dd3 {d AB D M s : Nat} {σ : zS} {R : Option Int32 → zS → Prop} {f : Nat → Nat} (hf : zrec (AB / 1000) (AB % 1000) D M f) (hAB : AB ≤ 999999) (hD1 : 1 ≤ D) (hD : D ≤ 5) (hM1 : 1 ≤ M) (hM : M ≤ 1000) (hq : ∀ τ W u4 u5, Fr [181] σ τ → zPW τ 181 9 M W → (∀ t, zq M (zsum (fun j => W j * f (t + j)) D) (f (t + s))) → zk d 65 163 [.ref 177, .int (nI AB), .int (nI D), .int (nI M), u4, u5] [] τ R) : ∀ (m i : Nat) (τ : zS) (W : Nat → Nat) (u5 : Value), i + 1 = D + m → i ≤ 2 * D - 2 → Fr [181] σ τ → zPW τ 181 9 M W → (∀ t, zq M (zsum (fun j => W j * f (t + j)) (i + 1)) (f (t + s))) → zk d 65 83 [.ref 177, .int (nI AB), .int (nI D), .int (nI M), .int (nI i), u5] [] τ R := by
  intro m
  induction m with
  | zero =>
    intro i τ W u5 hi hi2 hF hW hI
    refine r_il4 zi_65_83 rfl ?_
    refine r_il2 zi_65_85 rfl ?_
    refine n_ic2 (i := i) (j := D) zi_65_86 rfl (by omega) (by omega) (fun _ => ?_) (fun c => absurd c (by omega))
    exact hq _ W _ _ hF hW (by rw [← show i + 1 = D by omega]; exact hI)
  | succ m ih =>
    intro i τ W u5 hi hi2 hF hW hI
    obtain ⟨i, rfl⟩ : ∃ q, i = q + 1 := ⟨i - 1, by omega⟩
    have h105 := hW.1 (i + 1 - 1) (by omega)
    have b105 := hW.2 (i + 1 - 1)
    have h117 := hW.1 (i + 1) (by omega)
    have b117 := hW.2 (i + 1)
    have bb1 : AB / 1000 * W (i + 1) ≤ 999 * 999 := Nat.mul_le_mul (by omega) (by omega)
    have bb2 : AB % 1000 * W (i + 1) ≤ 999 * 999 := Nat.mul_le_mul (by omega) (by omega)
    have hm1 : (W (i + 1 - 1) + AB / 1000 * W (i + 1)) % M < M := Nat.mod_lt _ (by omega)
    have hW2 := zPW_put (x := i + 1 - 1) hW hm1
    have h139 := hW2.1 (i + 1 - D) (by omega)
    have b139 := hW2.2 (i + 1 - D)
    have h149 := hW2.1 (i + 1) (by omega)
    rw [show zpd W (i + 1 - 1) ((W (i + 1 - 1) + AB / 1000 * W (i + 1)) % M) (i + 1) = W (i + 1) from if_neg (by omega)] at h149
    have hm2 : (zpd W (i + 1 - 1) ((W (i + 1 - 1) + AB / 1000 * W (i + 1)) % M) (i + 1 - D) + AB % 1000 * W (i + 1)) % M < M := Nat.mod_lt _ (by omega)
    have hW3 := zPW_put (x := i + 1 - D) hW2 hm2
    have hI3 := fun t => zdown (t := t) (s := s) hf (by omega) (show D ≤ i + 1 by omega) (hI t)
    refine r_il4 zi_65_83 rfl ?_
    refine r_il2 zi_65_85 rfl ?_
    refine n_ic2 (i := (i+1)) (j := D) zi_65_86 rfl (by omega) (by omega) (fun c => absurd c (by omega)) (fun _ => ?_)
    refine r_al0 zi_65_89 rfl ?_
    refine q_getR zi_65_90 rfl cf_177_4 ?_
    refine r_il4 zi_65_93 rfl ?_
    refine r_push zi_65_95 rfl ?_
    refine r_b1 zi_65_96 rfl ?_
    rw [show (nI (i+1) - 1 : Int32) = nI ((i+1) - 1) from pk_sub (a := (i+1)) (b := 1) (by omega)]
    refine r_al0 zi_65_97 rfl ?_
    refine q_getR zi_65_98 rfl cf_177_4 ?_
    refine r_il4 zi_65_101 rfl ?_
    refine r_push zi_65_103 rfl ?_
    refine r_b1 zi_65_104 rfl ?_
    rw [show (nI (i+1) - 1 : Int32) = nI ((i+1) - 1) from pk_sub (a := (i+1)) (b := 1) (by omega)]
    refine r_alde zi_65_105 rfl ((i+1) - 1) ca_181 (by first | rfl | (simp only [zI_add, zI_mul] <;> rfl)) (by first | omega | decide) (u := nI (W (i + 1 - 1))) (by first | exact h105 | ((repeat (first | rw [zup_ne (by first | decide | omega)] | rw [zup_nj (by first | decide | omega)] | rw [fil_ne (by first | decide | omega)])) <;> exact h105) | (simp [up_rd, fil_rd]; exact h105)) ?_
    refine r_il1 zi_65_106 rfl ?_
    refine r_push zi_65_107 rfl ?_
    refine r_div zi_65_110 rfl (by decide) ?_
    rw [show (nI AB / 1000 : Int32) = nI (AB / 1000) from pk_div (d := 1000) (by omega) (by omega) (by omega)]
    refine r_al0 zi_65_111 rfl ?_
    refine q_getR zi_65_112 rfl cf_177_4 ?_
    refine r_il4 zi_65_115 rfl ?_
    refine r_alde zi_65_117 rfl (i+1) ca_181 (by first | rfl | (simp only [zI_add, zI_mul] <;> rfl)) (by first | omega | decide) (u := nI (W (i + 1))) (by first | exact h117 | ((repeat (first | rw [zup_ne (by first | decide | omega)] | rw [zup_nj (by first | decide | omega)] | rw [fil_ne (by first | decide | omega)])) <;> exact h117) | (simp [up_rd, fil_rd]; exact h117)) ?_
    refine r_b2 zi_65_118 rfl ?_
    rw [show (nI (AB / 1000) * nI (W (i + 1)) : Int32) = nI ((AB / 1000) * (W (i + 1))) from pk_mul _ _]
    refine r_b0 zi_65_119 rfl ?_
    rw [show (nI (W (i + 1 - 1)) + nI ((AB / 1000) * (W (i + 1))) : Int32) = nI ((W (i + 1 - 1)) + ((AB / 1000) * (W (i + 1)))) from nI_add _ _]
    refine r_il3 zi_65_120 rfl ?_
    refine r_rem zi_65_121 rfl (nI_ne0 (by omega) (by omega)) ?_
    rw [show (nI ((W (i + 1 - 1)) + ((AB / 1000) * (W (i + 1)))) % nI M : Int32) = nI (((W (i + 1 - 1)) + ((AB / 1000) * (W (i + 1)))) % M) from zI_rem (by omega) (by omega) (by omega)]
    refine r_ast zi_65_122 rfl ((i+1) - 1) ca_181 (by first | rfl | (simp only [zI_add, zI_mul] <;> rfl)) (by first | omega | decide) ?_
    refine r_al0 zi_65_123 rfl ?_
    refine q_getR zi_65_124 rfl cf_177_4 ?_
    refine r_il4 zi_65_127 rfl ?_
    refine r_il2 zi_65_129 rfl ?_
    refine r_b1 zi_65_130 rfl ?_
    rw [show (nI (i+1) - nI D : Int32) = nI ((i+1) - D) from pk_sub (a := (i+1)) (b := D) (by omega)]
    refine r_al0 zi_65_131 rfl ?_
    refine q_getR zi_65_132 rfl cf_177_4 ?_
    refine r_il4 zi_65_135 rfl ?_
    refine r_il2 zi_65_137 rfl ?_
    refine r_b1 zi_65_138 rfl ?_
    rw [show (nI (i+1) - nI D : Int32) = nI ((i+1) - D) from pk_sub (a := (i+1)) (b := D) (by omega)]
    refine r_alde zi_65_139 rfl ((i+1) - D) ca_181 (by first | rfl | (simp only [zI_add, zI_mul] <;> rfl)) (by first | omega | decide) (u := nI (zpd W (i + 1 - 1) ((W (i + 1 - 1) + AB / 1000 * W (i + 1)) % M) (i + 1 - D))) (by first | exact h139 | ((repeat (first | rw [zup_ne (by first | decide | omega)] | rw [zup_nj (by first | decide | omega)] | rw [fil_ne (by first | decide | omega)])) <;> exact h139) | (simp [up_rd, fil_rd]; exact h139)) ?_
    refine r_il1 zi_65_140 rfl ?_
    refine r_push zi_65_141 rfl ?_
    refine r_rem zi_65_144 rfl (by decide) ?_
    rw [show (nI AB % 1000 : Int32) = nI (AB % 1000) from zI_rem (d := 1000) (by omega) (by omega) (by omega)]
    refine r_al0 zi_65_145 rfl ?_
    refine q_getR zi_65_146 rfl cf_177_4 ?_
    refine r_il4 zi_65_149 rfl ?_
    refine r_alde zi_65_151 rfl (i+1) ca_181 (by first | rfl | (simp only [zI_add, zI_mul] <;> rfl)) (by first | omega | decide) (u := nI (W (i + 1))) (by first | exact h149 | ((repeat (first | rw [zup_ne (by first | decide | omega)] | rw [zup_nj (by first | decide | omega)] | rw [fil_ne (by first | decide | omega)])) <;> exact h149) | (simp [up_rd, fil_rd]; exact h149)) ?_
    refine r_b2 zi_65_152 rfl ?_
    rw [show (nI (AB % 1000) * nI (W (i + 1)) : Int32) = nI ((AB % 1000) * (W (i + 1))) from pk_mul _ _]
    refine r_b0 zi_65_153 rfl ?_
    rw [show (nI (zpd W (i + 1 - 1) ((W (i + 1 - 1) + AB / 1000 * W (i + 1)) % M) (i + 1 - D)) + nI ((AB % 1000) * (W (i + 1))) : Int32) = nI ((zpd W (i + 1 - 1) ((W (i + 1 - 1) + AB / 1000 * W (i + 1)) % M) (i + 1 - D)) + ((AB % 1000) * (W (i + 1)))) from nI_add _ _]
    refine r_il3 zi_65_154 rfl ?_
    refine r_rem zi_65_155 rfl (nI_ne0 (by omega) (by omega)) ?_
    rw [show (nI ((zpd W (i + 1 - 1) ((W (i + 1 - 1) + AB / 1000 * W (i + 1)) % M) (i + 1 - D)) + ((AB % 1000) * (W (i + 1)))) % nI M : Int32) = nI (((zpd W (i + 1 - 1) ((W (i + 1 - 1) + AB / 1000 * W (i + 1)) % M) (i + 1 - D)) + ((AB % 1000) * (W (i + 1)))) % M) from zI_rem (by omega) (by omega) (by omega)]
    refine r_ast zi_65_156 rfl ((i+1) - D) ca_181 (by first | rfl | (simp only [zI_add, zI_mul] <;> rfl)) (by first | omega | decide) ?_
    refine r_in4 zi_65_157 rfl ?_
    rw [show (nI (i+1) + -1 : Int32) = nI i from pk_m1 _]
    refine r_goto zi_65_160 rfl ?_
    exact ih i _ _ _ (by omega) (by omega) ((hF.put (by decide)).put (by decide)) hW3 hI3
theorem s_double {d AB D M s : Nat} {σ : zS} {Q : zS → Prop} {f P : Nat → Nat} (hf : zrec (AB / 1000) (AB % 1000) D M f) (hAB : AB ≤ 999999) (hD1 : 1 ≤ D) (hD : D ≤ 5) (hM1 : 1 ≤ M) (hM : M ≤ 1000) (hP : zPW σ 180 5 M P) (h0 : ∀ j, D ≤ j → P j = 0) (hs : zle D M f P s) (hq : ∀ τ P', Fr [180, 181] σ τ → zPW τ 180 5 M P' → (∀ j, D ≤ j → P' j = 0) → zle D M f P' (s + s) → Q τ) : zV1 (d + 1) 65 [.ref 177, .int (nI AB), .int (nI D), .int (nI M)] σ Q := by
  show zk _ _ 0 [.ref 177, .int (nI AB), .int (nI D), .int (nI M), zun, zun] [] _ _
  have hz : ∀ t, zq M (zsum (fun j => 0 * f (t + j)) (2 * D - 1)) (zdp D f P t 0 0) := fun t => by
    have e : zsum (fun j => 0 * f (t + j)) (2 * D - 1) = 0 := by rw [zsum_mul 0]; exact Nat.zero_mul _
    rw [e]
    unfold zdp
    show zq M 0 (0 + P 0 * 0)
    rw [Nat.mul_zero]; rfl
  refine r_al0 zi_65_0 rfl ?_
  refine q_getR zi_65_1 rfl cf_177_4 ?_
  refine r_push zi_65_4 rfl ?_
  refine r_cVS zi_65_5 rfl rfl rfl rfl rfl rfl (s_afill ca_181 (by omega) ?_)
  show zk _ _ 8 _ _ _ _
  refine r_push zi_65_8 rfl ?_
  refine r_is4 zi_65_9 rfl ?_
  refine l_dd2 (σ := fil σ 181 9 (fun _ => 0)) hD1 hD hM1 hM ⟨fun j hj => (fil_ne (by decide)).trans (hP.1 j hj), hP.2⟩ (fun τ W u5 hF hW hI => ?_) D 0 _ (fun _ => 0) _ (by omega) Fr.rf ⟨fun j hj => fil_in hj, fun _ => hM1⟩ hz
  show zk _ _ 76 _ _ _ _
  refine r_push zi_65_76 rfl ?_
  refine r_il2 zi_65_77 rfl ?_
  refine r_b2 zi_65_78 rfl ?_
  rw [show (2 * nI D : Int32) = nI (2 * D) from pk_mul _ _]
  refine r_push zi_65_79 rfl ?_
  refine r_b1 zi_65_80 rfl ?_
  rw [show (nI (2 * D) - 2 : Int32) = nI ((2 * D) - 2) from pk_sub (a := (2 * D)) (b := 2) (by omega)]
  refine r_is4 zi_65_81 rfl ?_
  refine l_dd3 (σ := τ) hf hAB hD1 hD hM1 hM (fun τ2 W2 u4 u5 hF2 hW2 hI2 => ?_) (D - 1) _ τ W _ (by omega) (by omega) Fr.rf hW (fun t => by rw [show 2 * D - 2 + 1 = 2 * D - 1 by omega]; exact (hI t).trans (zdp_end hs t))
  have hFF : Fr [180, 181] σ τ2 := (((Fr.rf (l := [180, 181])).fil (by decide)).tr (hF.sub (by simp))).tr (hF2.sub (by simp))
  refine r_al0 zi_65_163 rfl ?_
  refine q_getR zi_65_164 rfl cf_177_4 ?_
  refine r_push zi_65_167 rfl ?_
  refine r_al0 zi_65_168 rfl ?_
  refine q_getR zi_65_169 rfl cf_177_3 ?_
  refine r_push zi_65_172 rfl ?_
  refine r_il2 zi_65_173 rfl ?_
  refine r_acpy (k := D) zi_65_174 rfl ca_181 ca_180 rfl (by first | decide | omega) (by first | decide | omega) ?_
  refine r_ret zi_65_177 rfl ?_
  refine ⟨rfl, hq _ (fun j => if j < D then W2 j else 0) (hFF.fil (by decide)) ⟨fun j hj => ?_, fun j => ?_⟩ (fun j hj => if_neg (by omega)) (fun t => ?_)⟩
  · dsimp only
    by_cases e : j < D
    · rw [if_pos e]; exact (fil_in e).trans (hW2.1 j (by omega))
    · rw [if_neg e]
      have h1 := (hF2 180 (by decide) j).trans ((hF 180 (by decide) j).trans ((fil_ne (f := fun _ => 0) (n := 9) (k := 181) (by decide)).trans (hP.1 j hj)))
      rw [h0 j (by omega)] at h1
      exact (fil_out (by omega)).trans h1
  · dsimp only
    split
    · exact hW2.2 j
    · omega
  · have e : zsum (fun j => (if j < D then W2 j else 0) * f (t + j)) D = zsum (fun j => W2 j * f (t + j)) D := zsum_congr D (fun k hk => by rw [if_pos hk])
    show zq M (zsum (fun j => (if j < D then W2 j else 0) * f (t + j)) D) _
    rw [e]; exact hI2 t
theorem l_ad1 {d AB D M : Nat} {σ : zS} {R : Option Int32 → zS → Prop} {P : Nat → Nat} {u4 : Value} (hD1 : 1 ≤ D) (hD : D ≤ 5) (hP : ∀ j, j < 5 → σ 180 j = nI (P j)) (hq : ∀ τ, Fr [180] σ τ → (∀ j, j < 5 → τ 180 j = nI (if 0 < j ∧ j < D then P (j - 1) else P j)) → zk d 66 42 [.ref 177, .int (nI AB), .int (nI D), .int (nI M), u4, .int (nI 0)] [] τ R) : ∀ (i : Nat) (τ : zS), i < D → Fr [180] σ τ → (∀ j, j < 5 → τ 180 j = nI (if i < j ∧ j < D then P (j - 1) else P j)) → zk d 66 15 [.ref 177, .int (nI AB), .int (nI D), .int (nI M), u4, .int (nI i)] [] τ R := by
  intro i
  induction i with
  | zero =>
    intro τ hi hF hv
    refine r_il5 zi_66_15 rfl ?_
    refine r_if5 zi_66_17 rfl (fun _ => ?_) (fun c => absurd (by decide) c)
    exact hq _ hF hv
  | succ i ih =>
    intro τ hi hF hv
    have h34 := hv (i + 1 - 1) (by omega)
    rw [if_neg (by omega)] at h34
    refine r_il5 zi_66_15 rfl ?_
    refine n_if5 (i := (i+1)) zi_66_17 rfl (by omega) (fun c => absurd c (by omega)) (fun _ => ?_)
    refine r_al0 zi_66_20 rfl ?_
    refine q_getR zi_66_21 rfl cf_177_3 ?_
    refine r_il5 zi_66_24 rfl ?_
    refine r_al0 zi_66_26 rfl ?_
    refine q_getR zi_66_27 rfl cf_177_3 ?_
    refine r_il5 zi_66_30 rfl ?_
    refine r_push zi_66_32 rfl ?_
    refine r_b1 zi_66_33 rfl ?_
    rw [show (nI (i+1) - 1 : Int32) = nI ((i+1) - 1) from pk_sub (a := (i+1)) (b := 1) (by omega)]
    refine r_alde zi_66_34 rfl ((i+1) - 1) ca_180 (by first | rfl | (simp only [zI_add, zI_mul] <;> rfl)) (by first | omega | decide) (u := nI (P (i + 1 - 1))) (by first | exact h34 | ((repeat (first | rw [zup_ne (by first | decide | omega)] | rw [zup_nj (by first | decide | omega)] | rw [fil_ne (by first | decide | omega)])) <;> exact h34) | (simp [up_rd, fil_rd]; exact h34)) ?_
    refine r_ast zi_66_35 rfl (i+1) ca_180 (by first | rfl | (simp only [zI_add, zI_mul] <;> rfl)) (by first | omega | decide) ?_
    refine r_in5 zi_66_36 rfl ?_
    rw [show (nI (i+1) + -1 : Int32) = nI i from pk_m1 _]
    refine r_goto zi_66_39 rfl ?_
    refine ih _ (by omega) (hF.put (by decide)) (fun j hj => ?_)
    rw [up_rd]
    by_cases e : j = i + 1
    · rw [if_pos ⟨rfl, e⟩, if_pos ⟨by omega, by omega⟩, e]
    · rw [if_neg (fun z => e z.2), hv j hj]
      by_cases e2 : i + 1 < j ∧ j < D
      · rw [if_pos e2, if_pos ⟨by omega, e2.2⟩]
      · rw [if_neg e2, if_neg (by omega)]
theorem s_addDay {d AB D M s : Nat} {σ : zS} {Q : zS → Prop} {f P : Nat → Nat} (hf : zrec (AB / 1000) (AB % 1000) D M f) (hAB : AB ≤ 999999) (hD1 : 1 ≤ D) (hD : D ≤ 5) (hM1 : 1 ≤ M) (hM : M ≤ 1000) (hP : zPW σ 180 5 M P) (h0 : ∀ j, D ≤ j → P j = 0) (hs : zle D M f P s) (hq : ∀ τ P', Fr [180] σ τ → zPW τ 180 5 M P' → (∀ j, D ≤ j → P' j = 0) → zle D M f P' (s + 1) → Q τ) : zV1 d 66 [.ref 177, .int (nI AB), .int (nI D), .int (nI M)] σ Q := by
  have h7 := hP.1 (D - 1) (by omega)
  have b7 := hP.2 (D - 1)
  have bb1 : AB % 1000 * P (D - 1) ≤ 999 * 999 := Nat.mul_le_mul (by omega) (by omega)
  have bb2 : AB / 1000 * P (D - 1) ≤ 999 * 999 := Nat.mul_le_mul (by omega) (by omega)
  have hm1 : AB % 1000 * P (D - 1) % M < M := Nat.mod_lt _ (by omega)
  have hend : ∀ τ, Fr [180] σ τ → (∀ j, j < 5 → τ 180 j = nI (zshf (AB / 1000) (AB % 1000) D M P j)) → Q τ := fun τ hF hv => by
    refine hq τ (zshf (AB / 1000) (AB % 1000) D M P) hF ⟨hv, fun j => ?_⟩ (fun j hj => ?_) (zshf_ok hf hD1 hs)
    · unfold zshf
      split
      · exact hP.2 j
      · split
        · exact Nat.mod_lt _ (by omega)
        · split
          · exact hm1
          · exact hP.2 _
    · unfold zshf; rw [if_pos hj]; exact h0 j hj
  show zk _ _ 0 [.ref 177, .int (nI AB), .int (nI D), .int (nI M), zun, zun] [] _ _
  by_cases hd1 : D = 1
  · have hm2 : (AB % 1000 * P (D - 1) % M + AB / 1000 * P (D - 1)) % M < M := Nat.mod_lt _ (by omega)
    refine r_al0 zi_66_0 rfl ?_
    refine q_getR zi_66_1 rfl cf_177_3 ?_
    refine r_il2 zi_66_4 rfl ?_
    refine r_push zi_66_5 rfl ?_
    refine r_b1 zi_66_6 rfl ?_
    rw [show (nI D - 1 : Int32) = nI (D - 1) from pk_sub (a := D) (b := 1) (by omega)]
    refine r_alde zi_66_7 rfl (D - 1) ca_180 (by first | rfl | (simp only [zI_add, zI_mul] <;> rfl)) (by first | omega | decide) (u := nI (P (D - 1))) (by first | exact h7 | ((repeat (first | rw [zup_ne (by first | decide | omega)] | rw [zup_nj (by first | decide | omega)] | rw [fil_ne (by first | decide | omega)])) <;> exact h7) | (simp [up_rd, fil_rd]; exact h7)) ?_
    refine r_is4 zi_66_8 rfl ?_
    refine r_il2 zi_66_10 rfl ?_
    refine r_push zi_66_11 rfl ?_
    refine r_b1 zi_66_12 rfl ?_
    rw [show (nI D - 1 : Int32) = nI (D - 1) from pk_sub (a := D) (b := 1) (by omega)]
    refine r_is5 zi_66_13 rfl ?_
    refine l_ad1 hD1 hD hP.1 (fun τ hF hv => ?_) (D - 1) σ (by omega) Fr.rf (fun j hj => by rw [if_neg (by omega)]; exact hP.1 j hj)
    show zk _ _ 42 _ _ _ _
    refine r_al0 zi_66_42 rfl ?_
    refine q_getR zi_66_43 rfl cf_177_3 ?_
    refine r_push zi_66_46 rfl ?_
    refine r_il1 zi_66_47 rfl ?_
    refine r_push zi_66_48 rfl ?_
    refine r_rem zi_66_51 rfl (by decide) ?_
    rw [show (nI AB % 1000 : Int32) = nI (AB % 1000) from zI_rem (d := 1000) (by omega) (by omega) (by omega)]
    refine r_il4 zi_66_52 rfl ?_
    refine r_b2 zi_66_54 rfl ?_
    rw [show (nI (AB % 1000) * nI (P (D - 1)) : Int32) = nI ((AB % 1000) * (P (D - 1))) from pk_mul _ _]
    refine r_il3 zi_66_55 rfl ?_
    refine r_rem zi_66_56 rfl (nI_ne0 (by omega) (by omega)) ?_
    rw [show (nI ((AB % 1000) * (P (D - 1))) % nI M : Int32) = nI (((AB % 1000) * (P (D - 1))) % M) from zI_rem (by omega) (by omega) (by omega)]
    refine r_ast zi_66_57 rfl 0 ca_180 (by first | rfl | (simp only [zI_add, zI_mul] <;> rfl)) (by first | omega | decide) ?_
    refine r_al0 zi_66_58 rfl ?_
    refine q_getR zi_66_59 rfl cf_177_3 ?_
    refine r_il2 zi_66_62 rfl ?_
    refine r_push zi_66_63 rfl ?_
    refine r_b1 zi_66_64 rfl ?_
    rw [show (nI D - 1 : Int32) = nI (D - 1) from pk_sub (a := D) (b := 1) (by omega)]
    refine r_il2 zi_66_65 rfl ?_
    refine r_push zi_66_66 rfl ?_
    refine n_ic1 (i := D) (j := 1) zi_66_67 rfl (by omega) (by omega) (fun c => absurd c (by omega)) (fun _ => ?_)
    refine r_al0 zi_66_70 rfl ?_
    refine q_getR zi_66_71 rfl cf_177_3 ?_
    refine r_push zi_66_74 rfl ?_
    refine r_alde zi_66_75 rfl 0 ca_180 (by first | rfl | (simp only [zI_add, zI_mul] <;> rfl)) (by first | omega | decide) (u := nI (AB % 1000 * P (D - 1) % M)) (by first | exact zup_eq | ((repeat (first | rw [zup_ne (by first | decide | omega)] | rw [zup_nj (by first | decide | omega)] | rw [fil_ne (by first | decide | omega)])) <;> exact zup_eq) | (simp [up_rd, fil_rd]; exact zup_eq)) ?_
    refine r_goto zi_66_76 rfl ?_
    refine r_il1 zi_66_87 rfl ?_
    refine r_push zi_66_88 rfl ?_
    refine r_div zi_66_91 rfl (by decide) ?_
    rw [show (nI AB / 1000 : Int32) = nI (AB / 1000) from pk_div (d := 1000) (by omega) (by omega) (by omega)]
    refine r_il4 zi_66_92 rfl ?_
    refine r_b2 zi_66_94 rfl ?_
    rw [show (nI (AB / 1000) * nI (P (D - 1)) : Int32) = nI ((AB / 1000) * (P (D - 1))) from pk_mul _ _]
    refine r_b0 zi_66_95 rfl ?_
    rw [show (nI (AB % 1000 * P (D - 1) % M) + nI ((AB / 1000) * (P (D - 1))) : Int32) = nI ((AB % 1000 * P (D - 1) % M) + ((AB / 1000) * (P (D - 1)))) from nI_add _ _]
    refine r_il3 zi_66_96 rfl ?_
    refine r_rem zi_66_97 rfl (nI_ne0 (by omega) (by omega)) ?_
    rw [show (nI ((AB % 1000 * P (D - 1) % M) + ((AB / 1000) * (P (D - 1)))) % nI M : Int32) = nI (((AB % 1000 * P (D - 1) % M) + ((AB / 1000) * (P (D - 1)))) % M) from zI_rem (by omega) (by omega) (by omega)]
    refine r_ast zi_66_98 rfl (D - 1) ca_180 (by first | rfl | (simp only [zI_add, zI_mul] <;> rfl)) (by first | omega | decide) ?_
    refine r_ret zi_66_99 rfl ?_
    refine ⟨rfl, hend _ ((hF.put (by decide)).put (by decide)) (fun j hj => ?_)⟩
    rw [up_rd]
    by_cases e : j = D - 1
    · rw [if_pos ⟨rfl, e⟩]
      unfold zshf
      rw [if_neg (by omega), if_pos e, if_pos hd1]
    · rw [if_neg (fun z => e z.2), zup_nj (by omega), hv j hj, if_neg (by omega)]
      unfold zshf
      rw [if_pos (by omega)]
  · have h86 : ∀ τ : zS, (∀ j, j < 5 → τ 180 j = nI (if 0 < j ∧ j < D then P (j - 1) else P j)) → ∀ x, up τ 180 0 x 180 (D - 1) = nI (P (D - 2)) := fun τ hv x => by
      rw [zup_nj (by omega), hv (D - 1) (by omega), if_pos ⟨by omega, by omega⟩, show D - 1 - 1 = D - 2 by omega]
    have b86 := hP.2 (D - 2)
    refine r_al0 zi_66_0 rfl ?_
    refine q_getR zi_66_1 rfl cf_177_3 ?_
    refine r_il2 zi_66_4 rfl ?_
    refine r_push zi_66_5 rfl ?_
    refine r_b1 zi_66_6 rfl ?_
    rw [show (nI D - 1 : Int32) = nI (D - 1) from pk_sub (a := D) (b := 1) (by omega)]
    refine r_alde zi_66_7 rfl (D - 1) ca_180 (by first | rfl | (simp only [zI_add, zI_mul] <;> rfl)) (by first | omega | decide) (u := nI (P (D - 1))) (by first | exact h7 | ((repeat (first | rw [zup_ne (by first | decide | omega)] | rw [zup_nj (by first | decide | omega)] | rw [fil_ne (by first | decide | omega)])) <;> exact h7) | (simp [up_rd, fil_rd]; exact h7)) ?_
    refine r_is4 zi_66_8 rfl ?_
    refine r_il2 zi_66_10 rfl ?_
    refine r_push zi_66_11 rfl ?_
    refine r_b1 zi_66_12 rfl ?_
    rw [show (nI D - 1 : Int32) = nI (D - 1) from pk_sub (a := D) (b := 1) (by omega)]
    refine r_is5 zi_66_13 rfl ?_
    refine l_ad1 hD1 hD hP.1 (fun τ hF hv => ?_) (D - 1) σ (by omega) Fr.rf (fun j hj => by rw [if_neg (by omega)]; exact hP.1 j hj)
    show zk _ _ 42 _ _ _ _
    refine r_al0 zi_66_42 rfl ?_
    refine q_getR zi_66_43 rfl cf_177_3 ?_
    refine r_push zi_66_46 rfl ?_
    refine r_il1 zi_66_47 rfl ?_
    refine r_push zi_66_48 rfl ?_
    refine r_rem zi_66_51 rfl (by decide) ?_
    rw [show (nI AB % 1000 : Int32) = nI (AB % 1000) from zI_rem (d := 1000) (by omega) (by omega) (by omega)]
    refine r_il4 zi_66_52 rfl ?_
    refine r_b2 zi_66_54 rfl ?_
    rw [show (nI (AB % 1000) * nI (P (D - 1)) : Int32) = nI ((AB % 1000) * (P (D - 1))) from pk_mul _ _]
    refine r_il3 zi_66_55 rfl ?_
    refine r_rem zi_66_56 rfl (nI_ne0 (by omega) (by omega)) ?_
    rw [show (nI ((AB % 1000) * (P (D - 1))) % nI M : Int32) = nI (((AB % 1000) * (P (D - 1))) % M) from zI_rem (by omega) (by omega) (by omega)]
    refine r_ast zi_66_57 rfl 0 ca_180 (by first | rfl | (simp only [zI_add, zI_mul] <;> rfl)) (by first | omega | decide) ?_
    refine r_al0 zi_66_58 rfl ?_
    refine q_getR zi_66_59 rfl cf_177_3 ?_
    refine r_il2 zi_66_62 rfl ?_
    refine r_push zi_66_63 rfl ?_
    refine r_b1 zi_66_64 rfl ?_
    rw [show (nI D - 1 : Int32) = nI (D - 1) from pk_sub (a := D) (b := 1) (by omega)]
    refine r_il2 zi_66_65 rfl ?_
    refine r_push zi_66_66 rfl ?_
    refine n_ic1 (i := D) (j := 1) zi_66_67 rfl (by omega) (by omega) (fun _ => ?_) (fun c => absurd c (by omega))
    refine r_al0 zi_66_79 rfl ?_
    refine q_getR zi_66_80 rfl cf_177_3 ?_
    refine r_il2 zi_66_83 rfl ?_
    refine r_push zi_66_84 rfl ?_
    refine r_b1 zi_66_85 rfl ?_
    rw [show (nI D - 1 : Int32) = nI (D - 1) from pk_sub (a := D) (b := 1) (by omega)]
    refine r_alde zi_66_86 rfl (D - 1) ca_180 (by first | rfl | (simp only [zI_add, zI_mul] <;> rfl)) (by first | omega | decide) (u := nI (P (D - 2))) (by exact h86 _ hv _) ?_
    refine r_il1 zi_66_87 rfl ?_
    refine r_push zi_66_88 rfl ?_
    refine r_div zi_66_91 rfl (by decide) ?_
    rw [show (nI AB / 1000 : Int32) = nI (AB / 1000) from pk_div (d := 1000) (by omega) (by omega) (by omega)]
    refine r_il4 zi_66_92 rfl ?_
    refine r_b2 zi_66_94 rfl ?_
    rw [show (nI (AB / 1000) * nI (P (D - 1)) : Int32) = nI ((AB / 1000) * (P (D - 1))) from pk_mul _ _]
    refine r_b0 zi_66_95 rfl ?_
    rw [show (nI (P (D - 2)) + nI ((AB / 1000) * (P (D - 1))) : Int32) = nI ((P (D - 2)) + ((AB / 1000) * (P (D - 1)))) from nI_add _ _]
    refine r_il3 zi_66_96 rfl ?_
    refine r_rem zi_66_97 rfl (nI_ne0 (by omega) (by omega)) ?_
    rw [show (nI ((P (D - 2)) + ((AB / 1000) * (P (D - 1)))) % nI M : Int32) = nI (((P (D - 2)) + ((AB / 1000) * (P (D - 1)))) % M) from zI_rem (by omega) (by omega) (by omega)]
    refine r_ast zi_66_98 rfl (D - 1) ca_180 (by first | rfl | (simp only [zI_add, zI_mul] <;> rfl)) (by first | omega | decide) ?_
    refine r_ret zi_66_99 rfl ?_
    refine ⟨rfl, hend _ ((hF.put (by decide)).put (by decide)) (fun j hj => ?_)⟩
    rw [up_rd]
    by_cases e : j = D - 1
    · rw [if_pos ⟨rfl, e⟩]
      unfold zshf
      rw [if_neg (by omega), if_pos e, if_neg hd1]
    · rw [if_neg (fun z => e z.2), up_rd]
      by_cases e0 : j = 0
      · rw [if_pos ⟨rfl, e0⟩]
        unfold zshf
        rw [if_neg (by omega), if_neg e, if_pos e0]
      · rw [if_neg (fun z => e0 z.2), hv j hj]
        unfold zshf
        by_cases e5 : D ≤ j
        · rw [if_neg (by omega), if_pos e5]
        · rw [if_pos ⟨by omega, by omega⟩, if_neg e5, if_neg e, if_neg e0]
theorem l_nod {d AB D M K : Nat} {σ : zS} {Q : Int32 → zS → Prop} {f : Nat → Nat} (hf : zrec (AB / 1000) (AB % 1000) D M f) (hAB : AB ≤ 999999) (hD1 : 1 ≤ D) (hD : D ≤ 5) (hM1 : 1 ≤ M) (hM : M ≤ 1000) (hK : K ≤ 1000000) (hq : ∀ τ, Fr [180, 181] σ τ → Q (nI (f K % M)) τ) : ∀ (n : Nat) (v : Int32) (τ : zS) (P : Nat → Nat), n ≤ 20 → ((n = 0 ∧ v = -1) ∨ ∃ q, n = q + 1 ∧ v = nI q) → Fr [180, 181] σ τ → zPW τ 180 5 M P → (∀ j, D ≤ j → P j = 0) → zle D M f P (K / 2 ^ n) → zk (d + 2) 64 42 [.ref 177, .int (nI AB), .int (nI D), .int (nI M), .int (nI K), .int v] [] τ (fun r t => ∃ v, r = some v ∧ Q v t) := by
  intro n
  induction n with
  | zero =>
    intro v τ P hn hv hF hP h0 hs
    have e : v = -1 := by
      rcases hv with h | ⟨q, h, _⟩
      · exact h.2
      · omega
    subst e
    rw [Nat.pow_zero, Nat.div_one] at hs
    have he := zle_end hD1 hD hf hs h0
    have hb : zsum P 5 ≤ 5 * 1000 := zsum_c 1000 5 (fun k hk => by have := hP.2 k; omega)
    refine r_il5 zi_64_42 rfl ?_
    refine r_if2 zi_64_44 rfl (fun _ => ?_) (fun c => absurd (by decide) c)
    refine r_al0 zi_64_78 rfl ?_
    refine q_getR zi_64_79 rfl cf_177_3 ?_
    refine r_cIS zi_64_82 rfl rfl rfl rfl rfl rfl (s_ksum ca_180 (by omega) hP.1 ?_)
    show zk _ _ 85 _ _ _ _
    refine r_il3 zi_64_85 rfl ?_
    refine r_rem zi_64_86 rfl (nI_ne0 (by omega) (by omega)) ?_
    rw [show (nI (zsum P 5) % nI M : Int32) = nI ((zsum P 5) % M) from zI_rem (by omega) (by omega) (by omega)]
    refine r_retI zi_64_87 rfl ?_
    exact ⟨_, rfl, by rw [he]; exact hq _ hF⟩
  | succ n ih =>
    intro v τ P hn hv hF hP h0 hs
    have e : v = nI n := by
      rcases hv with ⟨h, _⟩ | ⟨q, h, h2⟩
      · omega
      · rw [h2, show q = n by omega]
    subst e
    have hbit : nI K >>> (nI n &&& 31) &&& 1 = 1 ↔ K.testBit n = true := by rw [zbit (by omega), un_nI (by omega)]
    have hdiv : K / 2 ^ n = K / 2 ^ (n + 1) + K / 2 ^ (n + 1) + (if K.testBit n = true then 1 else 0) := by
      have h1 : K / 2 ^ (n + 1) = K / 2 ^ n / 2 := by rw [Nat.pow_succ, Nat.div_div_eq_div_mul]
      have h2 : K.testBit n = true ↔ K / 2 ^ n % 2 = 1 := by
        rw [Nat.testBit_eq_decide_div_mod_eq]; exact decide_eq_true_iff
      rw [h1]
      by_cases h3 : K.testBit n = true
      · rw [if_pos h3]; have := h2.mp h3; omega
      · rw [if_neg h3]; have : ¬ K / 2 ^ n % 2 = 1 := fun z => h3 (h2.mpr z); omega
    have hnx : (n = 0 ∧ nI n + -1 = -1) ∨ ∃ q, n = q + 1 ∧ nI n + -1 = nI q := by
      match n with
      | 0 => exact Or.inl ⟨rfl, rfl⟩
      | q + 1 => exact Or.inr ⟨q, rfl, pk_m1 q⟩
    by_cases hb : K.testBit n = true
    · rw [if_pos hb] at hdiv
      refine r_il5 zi_64_42 rfl ?_
      refine n_if2 (i := n) zi_64_44 rfl (by omega) (fun c => absurd c (by omega)) (fun _ => ?_)
      refine r_al0 zi_64_47 rfl ?_
      refine r_il1 zi_64_48 rfl ?_
      refine r_il2 zi_64_49 rfl ?_
      refine r_il3 zi_64_50 rfl ?_
      refine q_cVV zi_64_51 rfl rfl rfl rfl rfl rfl rfl cf_177_0.ob (s_double hf hAB hD1 hD hM1 hM hP h0 hs (fun τ2 P2 hF2 hP2 h02 hs2 => ?_))
      show zk _ _ 54 _ _ _ _
      refine r_il4 zi_64_54 rfl ?_
      refine r_il5 zi_64_56 rfl ?_
      refine r_b7 zi_64_58 rfl ?_
      refine r_push zi_64_59 rfl ?_
      refine r_b3 zi_64_60 rfl ?_
      refine r_push zi_64_61 rfl ?_
      refine r_ic1 zi_64_62 rfl (fun c => absurd (hbit.mpr hb) c) (fun _ => ?_)
      refine r_al0 zi_64_65 rfl ?_
      refine r_il1 zi_64_66 rfl ?_
      refine r_il2 zi_64_67 rfl ?_
      refine r_il3 zi_64_68 rfl ?_
      refine q_cVV zi_64_69 rfl rfl rfl rfl rfl rfl rfl cf_177_0.ob (s_addDay hf hAB hD1 hD hM1 hM hP2 h02 hs2 (fun τ3 P3 hF3 hP3 h03 hs3 => ?_))
      show zk _ _ 72 _ _ _ _
      refine r_in5 zi_64_72 rfl ?_
      refine r_goto zi_64_75 rfl ?_
      exact ih _ τ3 P3 (by omega) hnx ((hF.tr hF2).tr (hF3.sub (by simp))) hP3 h03 (by rw [hdiv]; exact hs3)
    · rw [if_neg hb] at hdiv
      refine r_il5 zi_64_42 rfl ?_
      refine n_if2 (i := n) zi_64_44 rfl (by omega) (fun c => absurd c (by omega)) (fun _ => ?_)
      refine r_al0 zi_64_47 rfl ?_
      refine r_il1 zi_64_48 rfl ?_
      refine r_il2 zi_64_49 rfl ?_
      refine r_il3 zi_64_50 rfl ?_
      refine q_cVV zi_64_51 rfl rfl rfl rfl rfl rfl rfl cf_177_0.ob (s_double hf hAB hD1 hD hM1 hM hP h0 hs (fun τ2 P2 hF2 hP2 h02 hs2 => ?_))
      show zk _ _ 54 _ _ _ _
      refine r_il4 zi_64_54 rfl ?_
      refine r_il5 zi_64_56 rfl ?_
      refine r_b7 zi_64_58 rfl ?_
      refine r_push zi_64_59 rfl ?_
      refine r_b3 zi_64_60 rfl ?_
      refine r_push zi_64_61 rfl ?_
      refine r_ic1 zi_64_62 rfl (fun _ => ?_) (fun c => absurd c (fun z => hb (hbit.mp z)))
      refine r_in5 zi_64_72 rfl ?_
      refine r_goto zi_64_75 rfl ?_
      exact ih _ τ2 P2 (by omega) hnx (hF.tr hF2) hP2 h02 (by rw [hdiv]; exact hs2)
def zfOK (ab d m k : Int32) : Prop := 0 ≤ ab ∧ ab ≤ 999999 ∧ 1 ≤ d ∧ d ≤ 5 ∧ 1 ≤ m ∧ m ≤ 1000 ∧ 0 ≤ k ∧ k ≤ 1000000
theorem zfOK_ex {ab d m k : Int32} (h : zfOK ab d m k) : ∃ AB D M K, AB ≤ 999999 ∧ 1 ≤ D ∧ D ≤ 5 ∧ 1 ≤ M ∧ M ≤ 1000 ∧ K ≤ 1000000 ∧ ab = nI AB ∧ d = nI D ∧ m = nI M ∧ k = nI K := by
  obtain ⟨a1, a2, a3, a4, a5, a6, a7, a8⟩ := h
  obtain ⟨AB, h1, rfl⟩ := zI_ofle (n := 999999) a1 a2 (by omega)
  obtain ⟨D, h2, rfl⟩ := zI_ofle (n := 5) (v := d) (by grind) a4 (by omega)
  obtain ⟨M, h3, rfl⟩ := zI_ofle (n := 1000) (v := m) (by grind) a6 (by omega)
  obtain ⟨K, h4, rfl⟩ := zI_ofle (n := 1000000) a7 a8 (by omega)
  exact ⟨AB, D, M, K, h1, (nI_leI (a := 1) (by omega) (by omega)).mp a3, h2, (nI_leI (a := 1) (by omega) (by omega)).mp a5, h3, h4, rfl, rfl, rfl, rfl⟩
theorem s_kfollows {d0 : Nat} {σ : zS} {Q : Int32 → zS → Prop} {ab d m k : Int32} (h1 : ∀ AB D M K f, zrec (AB / 1000) (AB % 1000) D M f → AB ≤ 999999 → 1 ≤ D → D ≤ 5 → 1 ≤ M → M ≤ 1000 → K ≤ 1000000 → ab = nI AB → d = nI D → m = nI M → k = nI K → f = (fun i => zwin (AB / 1000) (AB % 1000) D M i 0) → ∀ τ, Fr [180, 181] σ τ → Q (nI (f K % M)) τ) (h0 : ¬ zfOK ab d m k → Q (-1) σ) : zI1 (d0 + 3) 137 [.ref 0, .int ab, .int d, .int m, .int k] σ Q := by
  by_cases hk : zfOK ab d m k
  · obtain ⟨a1, a2, a3, a4, a5, a6, a7, a8⟩ := id hk
    obtain ⟨AB, D, M, K, b1, b2, b3, b4, b5, b6, rfl, rfl, rfl, rfl⟩ := zfOK_ex hk
    have hf := zrec_ex (AB / 1000) (AB % 1000) D M b2
    have hq := h1 AB D M K _ hf b1 b2 b3 b4 b5 b6 rfl rfl rfl rfl rfl
    have e1m : (1 : Int32) % nI M = nI (1 % M) := zI_rem (a := 1) (by omega) (by omega) (by omega)
    have hm1 : 1 % M < M := Nat.mod_lt _ (by omega)
    have hP0 : zPW (up (fil σ 180 5 (fun _ => 0)) 180 0 (nI (1 % M))) 180 5 M (zpd (fun _ => 0) 0 (1 % M)) := zPW_put ⟨fun j hj => fil_in hj, fun _ => b4⟩ hm1
    have hs0 : zle D M (fun i => zwin (AB / 1000) (AB % 1000) D M i 0) (zpd (fun _ => 0) 0 (1 % M)) 0 := fun t => by
      have e1 := zsum_upd (w := fun _ => 0) (g := fun j => zwin (AB / 1000) (AB % 1000) D M (t + j) 0) (x := 0) (v := 1 % M) D (by omega)
      have e2 : zsum (fun j => 0 * zwin (AB / 1000) (AB % 1000) D M (t + j) 0) D = 0 := by rw [zsum_mul 0]; exact Nat.zero_mul _
      rw [e2] at e1
      have e3 : zsum (fun j => zpd (fun _ => 0) 0 (1 % M) j * zwin (AB / 1000) (AB % 1000) D M (t + j) 0) D = 1 % M * zwin (AB / 1000) (AB % 1000) D M (t + 0) 0 := by omega
      rw [e3]
      have e4 : zq M (1 % M * zwin (AB / 1000) (AB % 1000) D M (t + 0) 0) (1 * zwin (AB / 1000) (AB % 1000) D M (t + 0) 0) := zq.md.mul zq.rf
      rw [Nat.one_mul] at e4
      exact e4
    show zk _ _ 0 [.ref 0, .int (nI AB), .int (nI D), .int (nI M), .int (nI K)] [] _ _
    have hh : zI1 (d0 + 2) 64 [.ref 177, .int (nI AB), .int (nI D), .int (nI M), .int (nI K)] σ Q := by
      show zk _ _ 0 [.ref 177, .int (nI AB), .int (nI D), .int (nI M), .int (nI K), zun] [] _ _
      refine r_il3 zi_64_0 rfl ?_
      refine r_push zi_64_1 rfl ?_
      refine n_ic2 (i := M) (j := 1) zi_64_2 rfl (by omega) (by omega) (fun c => absurd c (by omega)) (fun _ => ?_)
      refine r_il2 zi_64_5 rfl ?_
      refine r_push zi_64_6 rfl ?_
      refine n_ic2 (i := D) (j := 1) zi_64_7 rfl (by omega) (by omega) (fun c => absurd c (by omega)) (fun _ => ?_)
      refine r_il2 zi_64_10 rfl ?_
      refine r_al0 zi_64_11 rfl ?_
      refine q_getR zi_64_12 rfl cf_177_3 ?_
      refine r_alen zi_64_15 rfl ca_180 ?_
      refine n_ic5 (i := D) (j := 5) zi_64_16 rfl (by omega) (by omega) (fun _ => ?_) (fun c => absurd c (by omega))
      refine r_al0 zi_64_21 rfl ?_
      refine q_getR zi_64_22 rfl cf_177_3 ?_
      refine r_push zi_64_25 rfl ?_
      refine r_cVS zi_64_26 rfl rfl rfl rfl rfl rfl (s_afill ca_180 (by omega) ?_)
      show zk _ _ 29 _ _ _ _
      refine r_al0 zi_64_29 rfl ?_
      refine q_getR zi_64_30 rfl cf_177_3 ?_
      refine r_push zi_64_33 rfl ?_
      refine r_push zi_64_34 rfl ?_
      refine r_il3 zi_64_35 rfl ?_
      refine r_rem zi_64_36 rfl (nI_ne0 (by omega) (by omega)) ?_
      rw [e1m]
      refine r_ast zi_64_37 rfl 0 ca_180 (by first | rfl | (simp only [zI_add, zI_mul] <;> rfl)) (by first | omega | decide) ?_
      refine r_push zi_64_38 rfl ?_
      refine r_is5 zi_64_40 rfl ?_
      exact l_nod hf b1 b2 b3 b4 b5 b6 hq 20 19 _ _ (by omega) (Or.inr ⟨19, rfl, rfl⟩) ((Fr.rf.fil (by decide)).put (by decide)) hP0 (fun j hj => if_neg (by omega)) (by rw [show K / 2 ^ 20 = 0 by omega]; exact hs0)
    refine r_il1 zi_137_0 rfl ?_
    refine r_push zi_137_1 rfl ?_
    refine r_push zi_137_2 rfl ?_
    refine r_cIS zi_137_4 rfl rfl rfl rfl rfl rfl (s_within (fun _ _ => ?_) (fun z => absurd ⟨a1, a2⟩ z))
    show zk _ _ 7 _ _ _ _
    refine r_if0 zi_137_7 rfl (fun c => absurd c (by decide)) (fun _ => ?_)
    refine r_il2 zi_137_10 rfl ?_
    refine r_push zi_137_11 rfl ?_
    refine r_push zi_137_12 rfl ?_
    refine r_cIS zi_137_13 rfl rfl rfl rfl rfl rfl (s_within (fun _ _ => ?_) (fun z => absurd ⟨a3, a4⟩ z))
    show zk _ _ 16 _ _ _ _
    refine r_if0 zi_137_16 rfl (fun c => absurd c (by decide)) (fun _ => ?_)
    refine r_il3 zi_137_19 rfl ?_
    refine r_push zi_137_20 rfl ?_
    refine r_push zi_137_21 rfl ?_
    refine r_cIS zi_137_24 rfl rfl rfl rfl rfl rfl (s_within (fun _ _ => ?_) (fun z => absurd ⟨a5, a6⟩ z))
    show zk _ _ 27 _ _ _ _
    refine r_if0 zi_137_27 rfl (fun c => absurd c (by decide)) (fun _ => ?_)
    refine r_il4 zi_137_30 rfl ?_
    refine r_push zi_137_32 rfl ?_
    refine r_push zi_137_33 rfl ?_
    refine r_cIS zi_137_35 rfl rfl rfl rfl rfl rfl (s_within (fun _ _ => ?_) (fun z => absurd ⟨a7, a8⟩ z))
    show zk _ _ 38 _ _ _ _
    refine r_if1 zi_137_38 rfl (fun _ => ?_) (fun c => absurd c (by decide))
    refine r_al0 zi_137_43 rfl ?_
    refine q_getR zi_137_44 rfl cf_0_8 ?_
    refine r_il1 zi_137_47 rfl ?_
    refine r_il2 zi_137_48 rfl ?_
    refine r_il3 zi_137_49 rfl ?_
    refine r_il4 zi_137_50 rfl ?_
    refine q_cIV zi_137_52 rfl rfl rfl rfl rfl rfl rfl cf_177_0.ob (hh.mono (fun r τ hr => ?_))
    show zk _ _ 55 _ _ _ _
    refine r_retI zi_137_55 rfl ?_
    exact ⟨_, rfl, hr⟩
  · have h0 := h0 hk
    show zk _ _ 0 [.ref 0, .int ab, .int d, .int m, .int k] [] _ _
    refine r_il1 zi_137_0 rfl ?_
    refine r_push zi_137_1 rfl ?_
    refine r_push zi_137_2 rfl ?_
    refine r_cIS zi_137_4 rfl rfl rfl rfl rfl rfl (s_within (fun i1 a1 => ?_) (fun i1 => ?_))
    · show zk _ _ 7 _ _ _ _
      refine r_if0 zi_137_7 rfl (fun c => absurd c (by decide)) (fun _ => ?_)
      refine r_il2 zi_137_10 rfl ?_
      refine r_push zi_137_11 rfl ?_
      refine r_push zi_137_12 rfl ?_
      refine r_cIS zi_137_13 rfl rfl rfl rfl rfl rfl (s_within (fun i2 a2 => ?_) (fun i2 => ?_))
      · show zk _ _ 16 _ _ _ _
        refine r_if0 zi_137_16 rfl (fun c => absurd c (by decide)) (fun _ => ?_)
        refine r_il3 zi_137_19 rfl ?_
        refine r_push zi_137_20 rfl ?_
        refine r_push zi_137_21 rfl ?_
        refine r_cIS zi_137_24 rfl rfl rfl rfl rfl rfl (s_within (fun i3 a3 => ?_) (fun i3 => ?_))
        · show zk _ _ 27 _ _ _ _
          refine r_if0 zi_137_27 rfl (fun c => absurd c (by decide)) (fun _ => ?_)
          refine r_il4 zi_137_30 rfl ?_
          refine r_push zi_137_32 rfl ?_
          refine r_push zi_137_33 rfl ?_
          refine r_cIS zi_137_35 rfl rfl rfl rfl rfl rfl (s_within (fun i4 a4 => ?_) (fun i4 => ?_))
          · show zk _ _ 38 _ _ _ _
            refine r_if1 zi_137_38 rfl (fun _ => ?_) (fun c => absurd c (by decide))
            exact absurd ⟨by assumption, by assumption, by assumption, by assumption, by assumption, by assumption, by assumption, by assumption⟩ hk
          · show zk _ _ 38 _ _ _ _
            refine r_if1 zi_137_38 rfl (fun c => absurd (by decide) c) (fun _ => ?_)
            refine r_push zi_137_41 rfl ?_
            refine r_retI zi_137_42 rfl ?_
            exact ⟨_, rfl, h0⟩
        · show zk _ _ 27 _ _ _ _
          refine r_if0 zi_137_27 rfl (fun _ => ?_) (fun c => absurd (by decide) c)
          refine r_push zi_137_41 rfl ?_
          refine r_retI zi_137_42 rfl ?_
          exact ⟨_, rfl, h0⟩
      · show zk _ _ 16 _ _ _ _
        refine r_if0 zi_137_16 rfl (fun _ => ?_) (fun c => absurd (by decide) c)
        refine r_push zi_137_41 rfl ?_
        refine r_retI zi_137_42 rfl ?_
        exact ⟨_, rfl, h0⟩
    · show zk _ _ 7 _ _ _ _
      refine r_if0 zi_137_7 rfl (fun _ => ?_) (fun c => absurd (by decide) c)
      refine r_push zi_137_41 rfl ?_
      refine r_retI zi_137_42 rfl ?_
      exact ⟨_, rfl, h0⟩

