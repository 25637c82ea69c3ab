theorem INV_A {σ τ : zS} (h : INV σ) (e : ∀ a b, ¬ sc a b → ¬ ((a = 0 ∧ b = 10) ∨ (a = 195 ∧ b = 11) ∨ a = 194 ∨ a = 202) → τ a b = σ a b) (ho : vA τ) : INV τ := by
  obtain ⟨n, V, h1, h2, h3, h4, h5, h6, h7, h8, h9⟩ := h
  refine ⟨n, V, vD_f h1 (fun a b x => e a b (by unfold sc; omega) (by omega)), vL_f h2 (fun a b x => e a b (by unfold sc; omega) (by omega)), ?_, vT_f h4 (fun a b x => e a b (by unfold sc; omega) (by omega)), vE_f h5 (fun a b x => e a b (by unfold sc; omega) (by omega)), vO_f h6 (fun a b x => e a b (by unfold sc; omega) (by omega)), ho, vP_f h8 (fun a b x => e a b (by unfold sc; omega) (by omega)), vI_f h9 (fun a b x => e a b (by unfold sc; omega) (by omega))⟩
  obtain ⟨rows, r⟩ := id h3
  exact vR_f h3 (fun a b x => e a b (by unfold sc; omega) (by omega)) (vR_z r.2.2.2.2.2.2 (fun a b x => e a b (by unfold sc; omega) (by omega)))
theorem c_end {v : Int32} : zPr 128 187 [.int v] := fun σ hI => by
  obtain ⟨n0, V, h1, h2, h3, h4, h5, h6, h7, h8, h9⟩ := id hI
  obtain ⟨⟨b, t, b1, b2, b3, b4⟩, g5, g6, g7, g8, g9⟩ := h7
  refine s_kend (fun a1 a2 => ?_) (fun z => ?_)
  · obtain ⟨c, hc, ec⟩ := zI_ofle (n := b) a1 (by rw [← b2]; exact a2) (by omega)
    have e1 : up σ 0 10 v 195 11 = σ 195 11 := zup_n2 (by omega)
    refine s_mend (d := 9) (fun x1 x2 => ⟨rfl, ?_⟩) (fun y => absurd ⟨a1, by rw [e1, b3, ← b2]; exact a2⟩ y)
    have f : ∀ a b, ¬ (a = 0 ∧ b = 10) → ¬ (a = 195 ∧ (b = 0 ∨ b = 11)) → up (up (up σ 0 10 v) 195 0 0) 195 11 v a b = σ a b := fun a b x y => (zup_n2 (by omega)).trans ((zup_n2 (by omega)).trans (zup_n2 (by omega)))
    refine INV_A hI (fun a b x y => f a b (by omega) (by unfold sc at x; omega)) ⟨⟨c, t, by omega, ?_, ?_, fun i hi => ?_⟩, fun i hi => ?_, ?_, ?_, ?_, ?_⟩
    · rw [zup_n2 (by omega), zup_n2 (by omega), zup_eq]; exact ec
    · rw [zup_eq]; exact ec
    · rw [f 194 i (by omega) (by omega), f 202 i (by omega) (by omega)]; exact b4 i hi
    · rw [f 203 i (by omega) (by omega)]; exact g5 i hi
    · rw [f 170 4 (by omega) (by omega), f 195 31 (by omega) (by omega)]; exact g6
    · rw [f 170 5 (by omega) (by omega), f 195 32 (by omega) (by omega)]; exact g7
    · rw [f 87 3 (by omega) (by omega)]; exact g8
    · rw [f 91 3 (by omega) (by omega)]; exact g9
  · exact s_mend (d := 9) (fun x1 x2 => absurd ⟨x1, by rw [b2, ← b3]; exact x2⟩ z) (fun _ => zPr_i hI sc_u)
def zyt (v : Int32) (n : Nat) (t : Nat → Nat) : Nat → Nat := fun i => if i = n + 3 then un (zyk v 0) else if i = n + 2 then un (zyk v 8) else if i = n + 1 then un (zyk v 16) else if i = n then un (zyk v 24) else t i
theorem zyt_k {k c f n : Nat} {v : Int32} {σ : zS} {t : Nat → Nat} (hkc : k ≠ c) (h : ∀ i, i < 400 → σ k i = nI (t i)) : ∀ i, i < 400 → zly k c f v n σ k i = nI (zyt v n t i) := fun i hi => by
  rw [zly_k hkc]
  unfold zyt
  split
  · exact nI_un _
  · split
    · exact nI_un _
    · split
      · exact nI_un _
      · split
        · exact nI_un _
        · exact h i hi
theorem zyt_l {v : Int32} {n : Nat} {t : Nat → Nat} (h : ∀ i, i < 400 → t i ≤ 255) : ∀ i, i < 400 → zyt v n t i ≤ 255 := fun i hi => by
  have g : ∀ s, un (zyk v s) ≤ 255 := fun s => by
    obtain ⟨b, hb, e⟩ := zyk_le v s
    rw [e, un_nI (by omega)]; omega
  unfold zyt
  split
  · exact g _
  · split
    · exact g _
    · split
      · exact g _
      · split
        · exact g _
        · exact h i hi
theorem zl5_o {k c f n a b : Nat} {v1 v2 v3 v4 v5 : Int32} {σ : zS} (hk : a ≠ k) (hc : ¬ (a = c ∧ b = f)) : zl5 k c f v1 v2 v3 v4 v5 n σ a b = σ a b := by
  unfold zl5
  rw [zly_o hk hc, zly_o hk hc, zly_o hk hc, zly_o hk hc, zly_o hk hc]
theorem c_feed {v1 v2 v3 v4 v5 : Int32} : zPr 127 186 [.int v1, .int v2, .int v3, .int v4, .int v5] := fun σ hI => by
  obtain ⟨n0, V, h1, h2, h3, h4, h5, h6, h7, h8, h9⟩ := id hI
  obtain ⟨⟨b, t, b1, b2, b3, b4⟩, g5, g6, g7, g8, g9⟩ := h7
  refine s_kfeed (d := 9) b2 b1 (fun hb => ?_) (fun hb => ?_)
  · refine s_mfeed (d := 9) ((zl5_o (by decide) (by decide)).trans b3) b1 (fun _ => ⟨rfl, ?_⟩) (fun z => absurd z (by omega))
    have f : ∀ a b', ¬ (a = 0 ∧ b' = 10) → ¬ (a = 195 ∧ (b' = 0 ∨ b' = 11)) → a ≠ 194 → a ≠ 202 → zl5 202 195 11 v1 v2 v3 v4 v5 b (up (zl5 194 0 10 v1 v2 v3 v4 v5 b σ) 195 0 0) a b' = σ a b' := fun a b' x y x2 y2 => (zl5_o y2 (by omega)).trans ((zup_n2 (by omega)).trans (zl5_o x2 (by omega)))
    refine INV_A hI (fun a b x y => f a b (by omega) (by unfold sc at x; omega) (by omega) (by omega)) ⟨⟨b + 20, zyt v5 (b + 16) (zyt v4 (b + 12) (zyt v3 (b + 8) (zyt v2 (b + 4) (zyt v1 b t)))), by omega, ?_, ?_, fun i hi => ⟨?_, ?_, ?_⟩⟩, fun i hi => ?_, ?_, ?_, ?_, ?_⟩
    · rw [zl5_o (by decide) (by decide), zup_n2 (by decide)]; exact zly_n
    · exact zly_n
    · rw [zl5_o (by decide) (by omega), zup_ne (by decide)]
      exact zyt_k (by decide) (zyt_k (by decide) (zyt_k (by decide) (zyt_k (by decide) (zyt_k (by decide) (fun i hi => (b4 i hi).1))))) i hi
    · exact zyt_k (by decide) (zyt_k (by decide) (zyt_k (by decide) (zyt_k (by decide) (zyt_k (by decide) (fun i hi => ((zup_ne (by decide)).trans (zl5_o (by decide) (by omega))).trans (b4 i hi).2.1))))) i hi
    · exact zyt_l (zyt_l (zyt_l (zyt_l (zyt_l (fun i hi => (b4 i hi).2.2))))) i hi
    · rw [f 203 i (by omega) (by omega) (by omega) (by omega)]; exact g5 i hi
    · rw [f 170 4 (by omega) (by omega) (by omega) (by omega), f 195 31 (by omega) (by omega) (by omega) (by omega)]; exact g6
    · rw [f 170 5 (by omega) (by omega) (by omega) (by omega), f 195 32 (by omega) (by omega) (by omega) (by omega)]; exact g7
    · rw [f 87 3 (by omega) (by omega) (by omega) (by omega)]; exact g8
    · rw [f 91 3 (by omega) (by omega) (by omega) (by omega)]; exact g9
  · exact s_mfeed (d := 9) b3 b1 (fun z => absurd z (by omega)) (fun _ => zPr_i hI sc_u)
theorem s_kfault {d : Nat} {σ : zS} {Q : Int32 → zS → Prop} {q : Int32} (h : Q (if q = 0 then σ 170 4 else if q = 1 then σ 170 5 else -1) σ) : zI1 d 130 [.ref 0, .int q] σ Q := by
  show zk _ _ 0 [.ref 0, .int q] [] _ _
  refine r_il1 zi_130_0 rfl ?_
  refine r_if1 zi_130_1 rfl (fun c1 => ?_) (fun c1 => ?_)
  · refine r_il1 zi_130_17 rfl ?_
    refine r_push zi_130_18 rfl ?_
    refine r_ic1 zi_130_19 rfl (fun c2 => ?_) (fun c2 => ?_)
    · refine r_push zi_130_35 rfl ?_
      refine r_retI zi_130_36 rfl ?_
      first | exact ⟨_, rfl, by rw [if_pos (by assumption)] at h; exact h⟩ | exact ⟨_, rfl, by rw [if_neg (by assumption), if_pos (by assumption)] at h; exact h⟩ | exact ⟨_, rfl, by rw [if_neg (by assumption), if_neg (by assumption)] at h; exact h⟩
    · refine r_al0 zi_130_22 rfl ?_
      refine q_getR zi_130_23 rfl cf_0_7 ?_
      refine q_getR zi_130_26 rfl cf_169_0 ?_
      refine q_getI zi_130_29 rfl cf_170_5 ?_
      refine r_goto zi_130_32 rfl ?_
      refine r_retI zi_130_36 rfl ?_
      first | exact ⟨_, rfl, by rw [if_pos (by assumption)] at h; exact h⟩ | exact ⟨_, rfl, by rw [if_neg (by assumption), if_pos (by assumption)] at h; exact h⟩ | exact ⟨_, rfl, by rw [if_neg (by assumption), if_neg (by assumption)] at h; exact h⟩
  · refine r_al0 zi_130_4 rfl ?_
    refine q_getR zi_130_5 rfl cf_0_7 ?_
    refine q_getR zi_130_8 rfl cf_169_0 ?_
    refine q_getI zi_130_11 rfl cf_170_4 ?_
    refine r_goto zi_130_14 rfl ?_
    refine r_retI zi_130_36 rfl ?_
    first | exact ⟨_, rfl, by rw [if_pos (by assumption)] at h; exact h⟩ | exact ⟨_, rfl, by rw [if_neg (by assumption), if_pos (by assumption)] at h; exact h⟩ | exact ⟨_, rfl, by rw [if_neg (by assumption), if_neg (by assumption)] at h; exact h⟩
theorem s_mfault {d : Nat} {σ : zS} {Q : Int32 → zS → Prop} {q : Int32} (h : Q (if q = 0 then σ 195 31 else if q = 1 then σ 195 32 else -1) (up σ 195 0 0)) : zI1 d 222 [.ref 195, .int q] σ Q := by
  show zk _ _ 0 [.ref 195, .int q] [] _ _
  have e1 : up σ 195 0 0 195 31 = σ 195 31 := zup_n2 (by omega)
  have e2 : up σ 195 0 0 195 32 = σ 195 32 := zup_n2 (by omega)
  rw [← e1, ← e2] at h
  refine r_al0 zi_222_0 rfl ?_
  refine r_push zi_222_1 rfl ?_
  refine q_put zi_222_2 rfl cf_195_0 rfl ?_
  refine r_il1 zi_222_5 rfl ?_
  refine r_if1 zi_222_6 rfl (fun c1 => ?_) (fun c1 => ?_)
  · refine r_il1 zi_222_16 rfl ?_
    refine r_push zi_222_17 rfl ?_
    refine r_ic1 zi_222_18 rfl (fun c2 => ?_) (fun c2 => ?_)
    · refine r_push zi_222_28 rfl ?_
      refine r_retI zi_222_29 rfl ?_
      first | exact ⟨_, rfl, by rw [if_pos (by assumption)] at h; exact h⟩ | exact ⟨_, rfl, by rw [if_neg (by assumption), if_pos (by assumption)] at h; exact h⟩ | exact ⟨_, rfl, by rw [if_neg (by assumption), if_neg (by assumption)] at h; exact h⟩
    · refine r_al0 zi_222_21 rfl ?_
      refine q_getI zi_222_22 rfl cf_195_32 ?_
      refine r_goto zi_222_25 rfl ?_
      refine r_retI zi_222_29 rfl ?_
      first | exact ⟨_, rfl, by rw [if_pos (by assumption)] at h; exact h⟩ | exact ⟨_, rfl, by rw [if_neg (by assumption), if_pos (by assumption)] at h; exact h⟩ | exact ⟨_, rfl, by rw [if_neg (by assumption), if_neg (by assumption)] at h; exact h⟩
  · refine r_al0 zi_222_9 rfl ?_
    refine q_getI zi_222_10 rfl cf_195_31 ?_
    refine r_goto zi_222_13 rfl ?_
    refine r_retI zi_222_29 rfl ?_
    first | exact ⟨_, rfl, by rw [if_pos (by assumption)] at h; exact h⟩ | exact ⟨_, rfl, by rw [if_neg (by assumption), if_pos (by assumption)] at h; exact h⟩ | exact ⟨_, rfl, by rw [if_neg (by assumption), if_neg (by assumption)] at h; exact h⟩
theorem c_fault {q : Int32} : zPr 130 222 [.int q] := fun σ hI => by
  obtain ⟨n0, V, h1, h2, h3, h4, h5, h6, h7, h8, h9⟩ := id hI
  obtain ⟨_, g5, g6, g7, g8, g9⟩ := h7
  refine s_kfault (s_mfault ?_)
  rw [g6, g7]
  exact zPr_i hI sc_u
theorem c_book {v w : Int32} : zPr 133 247 [.int v, .int w] := fun σ hI => by
  obtain ⟨n0, V, ⟨hV, hm, hg, _⟩, _⟩ := id hI
  obtain ⟨n, hn, en⟩ := hg.2.2.2.2.2.2.2
  have k1 : σ 2 19 = nI n := (hV.2.1 19 (by decide) (by decide)).trans en
  have m1 : σ 196 2 = nI n := hm.1.2.2.1.trans en
  have inn : ∀ i j, i < n → j ≤ 3 → v = nI i → w = nI j → 0 ≤ v ∧ v < nI n ∧ 0 ≤ w ∧ w ≤ 3 := fun i j hi hj e1 e2 => by
    rw [e1, e2]; exact ⟨nI_z (by omega), nI_lt hi (by omega), nI_z (by omega), nI_le (b := 3) hj (by omega)⟩
  refine s_kbook (d := 9) k1 hn (fun i j hi hj e1 e2 => ?_) (fun z => ?_)
  · refine s_mbook (d := 9) m1 hn (fun i' j' hi' hj' f1 f2 => ?_) (fun y => absurd (inn i j hi hj e1 e2) y)
    have q1 := nI_j e1 f1 (by omega) (by omega)
    have q2 := nI_j e2 f2 (by omega) (by omega)
    subst q1 q2
    have : σ 201 (4 * i' + j') = σ 14 (i' * 4 + j') := by
      rw [hm.2.2.2.2.2.2.2 rfl _ (by omega), hV.2.2 rfl, show i' * 4 + j' = 4 * i' + j' by omega]
    rw [this]
    exact zPr_i hI sc_u
  · exact s_mbook (d := 9) m1 hn (fun i' j' hi' hj' f1 f2 => absurd (inn i' j' hi' hj' f1 f2) z) (fun _ => zPr_i hI sc_u)
def zLo (F : Nat → Int32) (f : Int32) : Int32 := if 0 ≤ f ∧ f < 15 then F (un f) else -1
theorem zLo_k {F : Nat → Int32} {f : Int32} {k : Nat} (hk : k < 15) (e : f = nI k) : zLo F f = F k := by
  unfold zLo
  rw [if_pos (by rw [e]; exact ⟨nI_z (by omega), nI_lt (b := 15) hk (by omega)⟩), e, un_nI (by omega)]
theorem zLo_n {F : Nat → Int32} {f : Int32} (h : ∀ k, k < 15 → ¬ f = nI k) : zLo F f = -1 := by
  unfold zLo
  rw [if_neg]
  rintro ⟨a, b⟩
  obtain ⟨k, hk, e⟩ := zI_of (n := 15) a b (by omega)
  exact h k hk e
theorem lt15 {P : Nat → Prop} (h0 : P 0) (h1 : P 1) (h2 : P 2) (h3 : P 3) (h4 : P 4) (h5 : P 5) (h6 : P 6) (h7 : P 7) (h8 : P 8) (h9 : P 9) (h10 : P 10) (h11 : P 11) (h12 : P 12) (h13 : P 13) (h14 : P 14) : ∀ k, k < 15 → P k := fun k hk => by
  have : k = 0 ∨ k = 1 ∨ k = 2 ∨ k = 3 ∨ k = 4 ∨ k = 5 ∨ k = 6 ∨ k = 7 ∨ k = 8 ∨ k = 9 ∨ k = 10 ∨ k = 11 ∨ k = 12 ∨ k = 13 ∨ k = 14 := by omega
  rcases this with e | e | e | e | e | e | e | e | e | e | e | e | e | e | e
  all_goals (rw [e]; assumption)
theorem s_klook {d n : Nat} {σ : zS} {Q : Int32 → zS → Prop} {q : Int32} {F : Nat → Int32} (hs : σ 2 11 = nI n) (hn18 : n ≤ 18) (ha : zset (zkl σ 2 n) 18 = F 1) (v0 : σ 2 11 = F 0) (v2 : σ 2 14 = F 2) (v3 : σ 2 15 = F 3) (v4 : σ 2 16 = F 4) (v5 : σ 2 17 = F 5) (v6 : σ 2 12 = F 6) (v7 : σ 2 13 = F 7) (v8 : σ 2 19 = F 8) (v9 : σ 2 18 = F 9) (v10 : σ 15 2 = F 10) (v11 : σ 18 2 = F 11) (v12 : σ 21 2 = F 12) (v13 : σ 24 2 = F 13) (v14 : σ 95 2 = F 14) (h : Q (zLo F q) σ) : zI1 (d + 3) 155 [.ref 0, .int q] σ Q := by
  have a0 : q = 0 → Q (F 0) σ := fun z => by rw [zLo_k (k := 0) (by omega) z] at h; exact h
  have a1 : q = 1 → Q (F 1) σ := fun z => by rw [zLo_k (k := 1) (by omega) z] at h; exact h
  have a2 : q = 2 → Q (F 2) σ := fun z => by rw [zLo_k (k := 2) (by omega) z] at h; exact h
  have a3 : q = 3 → Q (F 3) σ := fun z => by rw [zLo_k (k := 3) (by omega) z] at h; exact h
  have a4 : q = 4 → Q (F 4) σ := fun z => by rw [zLo_k (k := 4) (by omega) z] at h; exact h
  have a5 : q = 5 → Q (F 5) σ := fun z => by rw [zLo_k (k := 5) (by omega) z] at h; exact h
  have a6 : q = 6 → Q (F 6) σ := fun z => by rw [zLo_k (k := 6) (by omega) z] at h; exact h
  have a7 : q = 7 → Q (F 7) σ := fun z => by rw [zLo_k (k := 7) (by omega) z] at h; exact h
  have a8 : q = 8 → Q (F 8) σ := fun z => by rw [zLo_k (k := 8) (by omega) z] at h; exact h
  have a9 : q = 9 → Q (F 9) σ := fun z => by rw [zLo_k (k := 9) (by omega) z] at h; exact h
  have a10 : q = 10 → Q (F 10) σ := fun z => by rw [zLo_k (k := 10) (by omega) z] at h; exact h
  have a11 : q = 11 → Q (F 11) σ := fun z => by rw [zLo_k (k := 11) (by omega) z] at h; exact h
  have a12 : q = 12 → Q (F 12) σ := fun z => by rw [zLo_k (k := 12) (by omega) z] at h; exact h
  have a13 : q = 13 → Q (F 13) σ := fun z => by rw [zLo_k (k := 13) (by omega) z] at h; exact h
  have a14 : q = 14 → Q (F 14) σ := fun z => by rw [zLo_k (k := 14) (by omega) z] at h; exact h
  have a15 : ¬ q = 0 → ¬ q = 1 → ¬ q = 2 → ¬ q = 3 → ¬ q = 4 → ¬ q = 5 → ¬ q = 6 → ¬ q = 7 → ¬ q = 8 → ¬ q = 9 → ¬ q = 10 → ¬ q = 11 → ¬ q = 12 → ¬ q = 13 → ¬ q = 14 → Q (-1) σ := fun z0 z1 z2 z3 z4 z5 z6 z7 z8 z9 z10 z11 z12 z13 z14 => by rw [zLo_n (lt15 z0 z1 z2 z3 z4 z5 z6 z7 z8 z9 z10 z11 z12 z13 z14)] at h; exact h
  show zk _ _ 0 [.ref 0, .int q, zun] [] _ _
  refine r_al0 zi_155_0 rfl ?_
  refine q_getR zi_155_1 rfl cf_0_0 ?_
  refine q_getR zi_155_4 rfl cf_1_0 ?_
  refine r_as2 zi_155_7 rfl ?_
  refine r_il1 zi_155_8 rfl ?_
  refine r_sw zi_155_9 rfl ?_
  by_cases c1_0 : q = 0
  · rw [c1_0]
    show zk _ _ 84 _ _ _ _
    refine r_al2 zi_155_84 rfl ?_
    refine q_getI zi_155_85 rfl cf_2_11 ?_
    refine r_retI zi_155_88 rfl ?_
    exact ⟨_, rfl, by rw [v0]; exact a0 (by assumption)⟩
  by_cases c1_1 : q = 1
  · rw [c1_1]
    show zk _ _ 89 _ _ _ _
    refine r_al2 zi_155_89 rfl ?_
    refine q_cIV zi_155_90 rfl rfl rfl rfl rfl rfl rfl cf_2_0.ob (s_dall (d := d) zDu_2 hs hn18 ?_)
    show zk _ _ 93 _ _ _ _
    refine r_retI zi_155_93 rfl ?_
    exact ⟨_, rfl, by rw [ha]; exact a1 (by assumption)⟩
  by_cases c1_2 : q = 2
  · rw [c1_2]
    show zk _ _ 94 _ _ _ _
    refine r_al2 zi_155_94 rfl ?_
    refine q_getI zi_155_95 rfl cf_2_14 ?_
    refine r_retI zi_155_98 rfl ?_
    exact ⟨_, rfl, by rw [v2]; exact a2 (by assumption)⟩
  by_cases c1_3 : q = 3
  · rw [c1_3]
    show zk _ _ 99 _ _ _ _
    refine r_al2 zi_155_99 rfl ?_
    refine q_getI zi_155_100 rfl cf_2_15 ?_
    refine r_retI zi_155_103 rfl ?_
    exact ⟨_, rfl, by rw [v3]; exact a3 (by assumption)⟩
  by_cases c1_4 : q = 4
  · rw [c1_4]
    show zk _ _ 104 _ _ _ _
    refine r_al2 zi_155_104 rfl ?_
    refine q_getI zi_155_105 rfl cf_2_16 ?_
    refine r_retI zi_155_108 rfl ?_
    exact ⟨_, rfl, by rw [v4]; exact a4 (by assumption)⟩
  by_cases c1_5 : q = 5
  · rw [c1_5]
    show zk _ _ 109 _ _ _ _
    refine r_al2 zi_155_109 rfl ?_
    refine q_getI zi_155_110 rfl cf_2_17 ?_
    refine r_retI zi_155_113 rfl ?_
    exact ⟨_, rfl, by rw [v5]; exact a5 (by assumption)⟩
  by_cases c1_6 : q = 6
  · rw [c1_6]
    show zk _ _ 114 _ _ _ _
    refine r_al2 zi_155_114 rfl ?_
    refine q_getI zi_155_115 rfl cf_2_12 ?_
    refine r_retI zi_155_118 rfl ?_
    exact ⟨_, rfl, by rw [v6]; exact a6 (by assumption)⟩
  by_cases c1_7 : q = 7
  · rw [c1_7]
    show zk _ _ 119 _ _ _ _
    refine r_al2 zi_155_119 rfl ?_
    refine q_getI zi_155_120 rfl cf_2_13 ?_
    refine r_retI zi_155_123 rfl ?_
    exact ⟨_, rfl, by rw [v7]; exact a7 (by assumption)⟩
  by_cases c1_8 : q = 8
  · rw [c1_8]
    show zk _ _ 124 _ _ _ _
    refine r_al2 zi_155_124 rfl ?_
    refine q_getI zi_155_125 rfl cf_2_19 ?_
    refine r_retI zi_155_128 rfl ?_
    exact ⟨_, rfl, by rw [v8]; exact a8 (by assumption)⟩
  by_cases c1_9 : q = 9
  · rw [c1_9]
    show zk _ _ 129 _ _ _ _
    refine r_al2 zi_155_129 rfl ?_
    refine q_getI zi_155_130 rfl cf_2_18 ?_
    refine r_retI zi_155_133 rfl ?_
    exact ⟨_, rfl, by rw [v9]; exact a9 (by assumption)⟩
  by_cases c1_10 : q = 10
  · rw [c1_10]
    show zk _ _ 134 _ _ _ _
    refine r_al0 zi_155_134 rfl ?_
    refine q_getR zi_155_135 rfl cf_0_0 ?_
    refine q_getR zi_155_138 rfl cf_1_2 ?_
    refine q_getI zi_155_141 rfl cf_15_2 ?_
    refine r_retI zi_155_144 rfl ?_
    exact ⟨_, rfl, by rw [v10]; exact a10 (by assumption)⟩
  by_cases c1_11 : q = 11
  · rw [c1_11]
    show zk _ _ 145 _ _ _ _
    refine r_al0 zi_155_145 rfl ?_
    refine q_getR zi_155_146 rfl cf_0_0 ?_
    refine q_getR zi_155_149 rfl cf_1_3 ?_
    refine q_getI zi_155_152 rfl cf_18_2 ?_
    refine r_retI zi_155_155 rfl ?_
    exact ⟨_, rfl, by rw [v11]; exact a11 (by assumption)⟩
  by_cases c1_12 : q = 12
  · rw [c1_12]
    show zk _ _ 156 _ _ _ _
    refine r_al0 zi_155_156 rfl ?_
    refine q_getR zi_155_157 rfl cf_0_0 ?_
    refine q_getR zi_155_160 rfl cf_1_4 ?_
    refine q_getI zi_155_163 rfl cf_21_2 ?_
    refine r_retI zi_155_166 rfl ?_
    exact ⟨_, rfl, by rw [v12]; exact a12 (by assumption)⟩
  by_cases c1_13 : q = 13
  · rw [c1_13]
    show zk _ _ 167 _ _ _ _
    refine r_al0 zi_155_167 rfl ?_
    refine q_getR zi_155_168 rfl cf_0_0 ?_
    refine q_getR zi_155_171 rfl cf_1_5 ?_
    refine q_getI zi_155_174 rfl cf_24_2 ?_
    refine r_retI zi_155_177 rfl ?_
    exact ⟨_, rfl, by rw [v13]; exact a13 (by assumption)⟩
  by_cases c1_14 : q = 14
  · rw [c1_14]
    show zk _ _ 178 _ _ _ _
    refine r_al0 zi_155_178 rfl ?_
    refine q_getR zi_155_179 rfl cf_0_6 ?_
    refine q_getI zi_155_182 rfl cf_95_2 ?_
    refine r_retI zi_155_185 rfl ?_
    exact ⟨_, rfl, by rw [v14]; exact a14 (by assumption)⟩
  rw [show zsw [(0, 84), (1, 89), (2, 94), (3, 99), (4, 104), (5, 109), (6, 114), (7, 119), (8, 124), (9, 129), (10, 134), (11, 145), (12, 156), (13, 167), (14, 178)] 186 q = 186 from by simp [zsw, c1_0, c1_1, c1_2, c1_3, c1_4, c1_5, c1_6, c1_7, c1_8, c1_9, c1_10, c1_11, c1_12, c1_13, c1_14]]
  refine r_push zi_155_186 rfl ?_
  refine r_retI zi_155_187 rfl ?_
  exact ⟨_, rfl, a15 (by assumption) (by assumption) (by assumption) (by assumption) (by assumption) (by assumption) (by assumption) (by assumption) (by assumption) (by assumption) (by assumption) (by assumption) (by assumption) (by assumption) (by assumption)⟩
theorem s_mlook {d n : Nat} {σ : zS} {Q : Int32 → zS → Prop} {q : Int32} {F : Nat → Int32} (hs : σ 195 6 = nI n) (hn18 : n ≤ 18) (ha : zset (fun s => decide (σ 196 (66 + s) = 0)) n = F 1) (v0 : σ 195 6 = F 0) (v2 : σ 196 3 = F 2) (v3 : σ 196 4 = F 3) (v4 : σ 196 5 = F 4) (v5 : σ 196 0 = F 5) (v6 : σ 196 120 = F 6) (v7 : σ 196 145 = F 7) (v8 : σ 196 2 = F 8) (v9 : σ 196 1 = F 9) (v10 : σ 204 0 = F 10) (v11 : σ 195 33 = F 11) (v12 : σ 195 35 = F 12) (v13 : σ 195 37 = F 13) (v14 : σ 195 3 = F 14) (h : Q (zLo F q) (up σ 195 0 0)) : zI1 (d + 3) 289 [.ref 195, .int q] σ Q := by
  have hs' : up σ 195 0 0 195 6 = nI n := (zup_n2 (by omega)).trans hs
  have v0' : up σ 195 0 0 195 6 = F 0 := (zup_n2 (by omega)).trans v0
  have v2' : up σ 195 0 0 196 3 = F 2 := (zup_n2 (by omega)).trans v2
  have v3' : up σ 195 0 0 196 4 = F 3 := (zup_n2 (by omega)).trans v3
  have v4' : up σ 195 0 0 196 5 = F 4 := (zup_n2 (by omega)).trans v4
  have v5' : up σ 195 0 0 196 0 = F 5 := (zup_n2 (by omega)).trans v5
  have v6' : up σ 195 0 0 196 120 = F 6 := (zup_n2 (by omega)).trans v6
  have v7' : up σ 195 0 0 196 145 = F 7 := (zup_n2 (by omega)).trans v7
  have v8' : up σ 195 0 0 196 2 = F 8 := (zup_n2 (by omega)).trans v8
  have v9' : up σ 195 0 0 196 1 = F 9 := (zup_n2 (by omega)).trans v9
  have v10' : up σ 195 0 0 204 0 = F 10 := (zup_n2 (by omega)).trans v10
  have v11' : up σ 195 0 0 195 33 = F 11 := (zup_n2 (by omega)).trans v11
  have v12' : up σ 195 0 0 195 35 = F 12 := (zup_n2 (by omega)).trans v12
  have v13' : up σ 195 0 0 195 37 = F 13 := (zup_n2 (by omega)).trans v13
  have v14' : up σ 195 0 0 195 3 = F 14 := (zup_n2 (by omega)).trans v14
  have ha' : zset (fun s => decide (up σ 195 0 0 196 (66 + s) = 0)) n = F 1 := ha
  have a0 : q = 0 → Q (F 0) (up σ 195 0 0) := fun z => by rw [zLo_k (k := 0) (by omega) z] at h; exact h
  have a1 : q = 1 → Q (F 1) (up σ 195 0 0) := fun z => by rw [zLo_k (k := 1) (by omega) z] at h; exact h
  have a2 : q = 2 → Q (F 2) (up σ 195 0 0) := fun z => by rw [zLo_k (k := 2) (by omega) z] at h; exact h
  have a3 : q = 3 → Q (F 3) (up σ 195 0 0) := fun z => by rw [zLo_k (k := 3) (by omega) z] at h; exact h
  have a4 : q = 4 → Q (F 4) (up σ 195 0 0) := fun z => by rw [zLo_k (k := 4) (by omega) z] at h; exact h
  have a5 : q = 5 → Q (F 5) (up σ 195 0 0) := fun z => by rw [zLo_k (k := 5) (by omega) z] at h; exact h
  have a6 : q = 6 → Q (F 6) (up σ 195 0 0) := fun z => by rw [zLo_k (k := 6) (by omega) z] at h; exact h
  have a7 : q = 7 → Q (F 7) (up σ 195 0 0) := fun z => by rw [zLo_k (k := 7) (by omega) z] at h; exact h
  have a8 : q = 8 → Q (F 8) (up σ 195 0 0) := fun z => by rw [zLo_k (k := 8) (by omega) z] at h; exact h
  have a9 : q = 9 → Q (F 9) (up σ 195 0 0) := fun z => by rw [zLo_k (k := 9) (by omega) z] at h; exact h
  have a10 : q = 10 → Q (F 10) (up σ 195 0 0) := fun z => by rw [zLo_k (k := 10) (by omega) z] at h; exact h
  have a11 : q = 11 → Q (F 11) (up σ 195 0 0) := fun z => by rw [zLo_k (k := 11) (by omega) z] at h; exact h
  have a12 : q = 12 → Q (F 12) (up σ 195 0 0) := fun z => by rw [zLo_k (k := 12) (by omega) z] at h; exact h
  have a13 : q = 13 → Q (F 13) (up σ 195 0 0) := fun z => by rw [zLo_k (k := 13) (by omega) z] at h; exact h
  have a14 : q = 14 → Q (F 14) (up σ 195 0 0) := fun z => by rw [zLo_k (k := 14) (by omega) z] at h; exact h
  have a15 : ¬ q = 0 → ¬ q = 1 → ¬ q = 2 → ¬ q = 3 → ¬ q = 4 → ¬ q = 5 → ¬ q = 6 → ¬ q = 7 → ¬ q = 8 → ¬ q = 9 → ¬ q = 10 → ¬ q = 11 → ¬ q = 12 → ¬ q = 13 → ¬ q = 14 → Q (-1) (up σ 195 0 0) := fun z0 z1 z2 z3 z4 z5 z6 z7 z8 z9 z10 z11 z12 z13 z14 => by rw [zLo_n (lt15 z0 z1 z2 z3 z4 z5 z6 z7 z8 z9 z10 z11 z12 z13 z14)] at h; exact h
  show zk _ _ 0 [.ref 195, .int q] [] _ _
  refine r_al0 zi_289_0 rfl ?_
  refine r_push zi_289_1 rfl ?_
  refine q_put zi_289_2 rfl cf_195_0 rfl ?_
  refine r_il1 zi_289_5 rfl ?_
  refine r_if1 zi_289_6 rfl (fun c1 => ?_) (fun c1 => ?_)
  · refine r_il1 zi_289_14 rfl ?_
    refine r_push zi_289_15 rfl ?_
    refine r_ic1 zi_289_16 rfl (fun c2 => ?_) (fun c2 => ?_)
    · refine r_il1 zi_289_24 rfl ?_
      refine r_push zi_289_25 rfl ?_
      refine r_ic1 zi_289_26 rfl (fun c3 => ?_) (fun c3 => ?_)
      · refine r_il1 zi_289_36 rfl ?_
        refine r_push zi_289_37 rfl ?_
        refine r_ic1 zi_289_38 rfl (fun c4 => ?_) (fun c4 => ?_)
        · refine r_il1 zi_289_48 rfl ?_
          refine r_push zi_289_49 rfl ?_
          refine r_ic1 zi_289_50 rfl (fun c5 => ?_) (fun c5 => ?_)
          · refine r_il1 zi_289_60 rfl ?_
            refine r_push zi_289_61 rfl ?_
            refine r_ic1 zi_289_62 rfl (fun c6 => ?_) (fun c6 => ?_)
            · refine r_il1 zi_289_72 rfl ?_
              refine r_push zi_289_73 rfl ?_
              refine r_ic1 zi_289_75 rfl (fun c7 => ?_) (fun c7 => ?_)
              · refine r_il1 zi_289_86 rfl ?_
                refine r_push zi_289_87 rfl ?_
                refine r_ic1 zi_289_89 rfl (fun c8 => ?_) (fun c8 => ?_)
                · refine r_il1 zi_289_101 rfl ?_
                  refine r_push zi_289_102 rfl ?_
                  refine r_ic1 zi_289_104 rfl (fun c9 => ?_) (fun c9 => ?_)
                  · refine r_il1 zi_289_114 rfl ?_
                    refine r_push zi_289_115 rfl ?_
                    refine r_ic1 zi_289_117 rfl (fun c10 => ?_) (fun c10 => ?_)
                    · refine r_il1 zi_289_127 rfl ?_
                      refine r_push zi_289_128 rfl ?_
                      refine r_ic1 zi_289_130 rfl (fun c11 => ?_) (fun c11 => ?_)
                      · refine r_il1 zi_289_140 rfl ?_
                        refine r_push zi_289_141 rfl ?_
                        refine r_ic1 zi_289_143 rfl (fun c12 => ?_) (fun c12 => ?_)
                        · refine r_il1 zi_289_151 rfl ?_
                          refine r_push zi_289_152 rfl ?_
                          refine r_ic1 zi_289_154 rfl (fun c13 => ?_) (fun c13 => ?_)
                          · refine r_il1 zi_289_162 rfl ?_
                            refine r_push zi_289_163 rfl ?_
                            refine r_ic1 zi_289_165 rfl (fun c14 => ?_) (fun c14 => ?_)
                            · refine r_il1 zi_289_173 rfl ?_
                              refine r_push zi_289_174 rfl ?_
                              refine r_ic1 zi_289_176 rfl (fun c15 => ?_) (fun c15 => ?_)
                              · refine r_push zi_289_186 rfl ?_
                                refine r_retI zi_289_187 rfl ?_
                                first
                                | exact ⟨_, rfl, by rw [v0']; exact a0 (by assumption)⟩
                                | exact ⟨_, rfl, by rw [ha']; exact a1 (by assumption)⟩
                                | exact ⟨_, rfl, by rw [v2']; exact a2 (by assumption)⟩
                                | exact ⟨_, rfl, by rw [v3']; exact a3 (by assumption)⟩
                                | exact ⟨_, rfl, by rw [v4']; exact a4 (by assumption)⟩
                                | exact ⟨_, rfl, by rw [v5']; exact a5 (by assumption)⟩
                                | exact ⟨_, rfl, by rw [v6']; exact a6 (by assumption)⟩
                                | exact ⟨_, rfl, by rw [v7']; exact a7 (by assumption)⟩
                                | exact ⟨_, rfl, by rw [v8']; exact a8 (by assumption)⟩
                                | exact ⟨_, rfl, by rw [v9']; exact a9 (by assumption)⟩
                                | exact ⟨_, rfl, by rw [v10']; exact a10 (by assumption)⟩
                                | exact ⟨_, rfl, by rw [v11']; exact a11 (by assumption)⟩
                                | exact ⟨_, rfl, by rw [v12']; exact a12 (by assumption)⟩
                                | exact ⟨_, rfl, by rw [v13']; exact a13 (by assumption)⟩
                                | exact ⟨_, rfl, by rw [v14']; exact a14 (by assumption)⟩
                                | exact ⟨_, rfl, a15 (by assumption) (by assumption) (by assumption) (by assumption) (by assumption) (by assumption) (by assumption) (by assumption) (by assumption) (by assumption) (by assumption) (by assumption) (by assumption) (by assumption) (by assumption)⟩
                              · refine r_al0 zi_289_179 rfl ?_
                                refine q_getI zi_289_180 rfl cf_195_3 ?_
                                refine r_goto zi_289_183 rfl ?_
                                refine r_retI zi_289_187 rfl ?_
                                first
                                | exact ⟨_, rfl, by rw [v0']; exact a0 (by assumption)⟩
                                | exact ⟨_, rfl, by rw [ha']; exact a1 (by assumption)⟩
                                | exact ⟨_, rfl, by rw [v2']; exact a2 (by assumption)⟩
                                | exact ⟨_, rfl, by rw [v3']; exact a3 (by assumption)⟩
                                | exact ⟨_, rfl, by rw [v4']; exact a4 (by assumption)⟩
                                | exact ⟨_, rfl, by rw [v5']; exact a5 (by assumption)⟩
                                | exact ⟨_, rfl, by rw [v6']; exact a6 (by assumption)⟩
                                | exact ⟨_, rfl, by rw [v7']; exact a7 (by assumption)⟩
                                | exact ⟨_, rfl, by rw [v8']; exact a8 (by assumption)⟩
                                | exact ⟨_, rfl, by rw [v9']; exact a9 (by assumption)⟩
                                | exact ⟨_, rfl, by rw [v10']; exact a10 (by assumption)⟩
                                | exact ⟨_, rfl, by rw [v11']; exact a11 (by assumption)⟩
                                | exact ⟨_, rfl, by rw [v12']; exact a12 (by assumption)⟩
                                | exact ⟨_, rfl, by rw [v13']; exact a13 (by assumption)⟩
                                | exact ⟨_, rfl, by rw [v14']; exact a14 (by assumption)⟩
                                | exact ⟨_, rfl, a15 (by assumption) (by assumption) (by assumption) (by assumption) (by assumption) (by assumption) (by assumption) (by assumption) (by assumption) (by assumption) (by assumption) (by assumption) (by assumption) (by assumption) (by assumption)⟩
                            · refine r_al0 zi_289_168 rfl ?_
                              refine q_getI zi_289_169 rfl cf_195_37 ?_
                              refine r_retI zi_289_172 rfl ?_
                              first
                              | exact ⟨_, rfl, by rw [v0']; exact a0 (by assumption)⟩
                              | exact ⟨_, rfl, by rw [ha']; exact a1 (by assumption)⟩
                              | exact ⟨_, rfl, by rw [v2']; exact a2 (by assumption)⟩
                              | exact ⟨_, rfl, by rw [v3']; exact a3 (by assumption)⟩
                              | exact ⟨_, rfl, by rw [v4']; exact a4 (by assumption)⟩
                              | exact ⟨_, rfl, by rw [v5']; exact a5 (by assumption)⟩
                              | exact ⟨_, rfl, by rw [v6']; exact a6 (by assumption)⟩
                              | exact ⟨_, rfl, by rw [v7']; exact a7 (by assumption)⟩
                              | exact ⟨_, rfl, by rw [v8']; exact a8 (by assumption)⟩
                              | exact ⟨_, rfl, by rw [v9']; exact a9 (by assumption)⟩
                              | exact ⟨_, rfl, by rw [v10']; exact a10 (by assumption)⟩
                              | exact ⟨_, rfl, by rw [v11']; exact a11 (by assumption)⟩
                              | exact ⟨_, rfl, by rw [v12']; exact a12 (by assumption)⟩
                              | exact ⟨_, rfl, by rw [v13']; exact a13 (by assumption)⟩
                              | exact ⟨_, rfl, by rw [v14']; exact a14 (by assumption)⟩
                              | exact ⟨_, rfl, a15 (by assumption) (by assumption) (by assumption) (by assumption) (by assumption) (by assumption) (by assumption) (by assumption) (by assumption) (by assumption) (by assumption) (by assumption) (by assumption) (by assumption) (by assumption)⟩
                          · refine r_al0 zi_289_157 rfl ?_
                            refine q_getI zi_289_158 rfl cf_195_35 ?_
                            refine r_retI zi_289_161 rfl ?_
                            first
                            | exact ⟨_, rfl, by rw [v0']; exact a0 (by assumption)⟩
                            | exact ⟨_, rfl, by rw [ha']; exact a1 (by assumption)⟩
                            | exact ⟨_, rfl, by rw [v2']; exact a2 (by assumption)⟩
                            | exact ⟨_, rfl, by rw [v3']; exact a3 (by assumption)⟩
                            | exact ⟨_, rfl, by rw [v4']; exact a4 (by assumption)⟩
                            | exact ⟨_, rfl, by rw [v5']; exact a5 (by assumption)⟩
                            | exact ⟨_, rfl, by rw [v6']; exact a6 (by assumption)⟩
                            | exact ⟨_, rfl, by rw [v7']; exact a7 (by assumption)⟩
                            | exact ⟨_, rfl, by rw [v8']; exact a8 (by assumption)⟩
                            | exact ⟨_, rfl, by rw [v9']; exact a9 (by assumption)⟩
                            | exact ⟨_, rfl, by rw [v10']; exact a10 (by assumption)⟩
                            | exact ⟨_, rfl, by rw [v11']; exact a11 (by assumption)⟩
                            | exact ⟨_, rfl, by rw [v12']; exact a12 (by assumption)⟩
                            | exact ⟨_, rfl, by rw [v13']; exact a13 (by assumption)⟩
                            | exact ⟨_, rfl, by rw [v14']; exact a14 (by assumption)⟩
                            | exact ⟨_, rfl, a15 (by assumption) (by assumption) (by assumption) (by assumption) (by assumption) (by assumption) (by assumption) (by assumption) (by assumption) (by assumption) (by assumption) (by assumption) (by assumption) (by assumption) (by assumption)⟩
                        · refine r_al0 zi_289_146 rfl ?_
                          refine q_getI zi_289_147 rfl cf_195_33 ?_
                          refine r_retI zi_289_150 rfl ?_
                          first
                          | exact ⟨_, rfl, by rw [v0']; exact a0 (by assumption)⟩
                          | exact ⟨_, rfl, by rw [ha']; exact a1 (by assumption)⟩
                          | exact ⟨_, rfl, by rw [v2']; exact a2 (by assumption)⟩
                          | exact ⟨_, rfl, by rw [v3']; exact a3 (by assumption)⟩
                          | exact ⟨_, rfl, by rw [v4']; exact a4 (by assumption)⟩
                          | exact ⟨_, rfl, by rw [v5']; exact a5 (by assumption)⟩
                          | exact ⟨_, rfl, by rw [v6']; exact a6 (by assumption)⟩
                          | exact ⟨_, rfl, by rw [v7']; exact a7 (by assumption)⟩
                          | exact ⟨_, rfl, by rw [v8']; exact a8 (by assumption)⟩
                          | exact ⟨_, rfl, by rw [v9']; exact a9 (by assumption)⟩
                          | exact ⟨_, rfl, by rw [v10']; exact a10 (by assumption)⟩
                          | exact ⟨_, rfl, by rw [v11']; exact a11 (by assumption)⟩
                          | exact ⟨_, rfl, by rw [v12']; exact a12 (by assumption)⟩
                          | exact ⟨_, rfl, by rw [v13']; exact a13 (by assumption)⟩
                          | exact ⟨_, rfl, by rw [v14']; exact a14 (by assumption)⟩
                          | exact ⟨_, rfl, a15 (by assumption) (by assumption) (by assumption) (by assumption) (by assumption) (by assumption) (by assumption) (by assumption) (by assumption) (by assumption) (by assumption) (by assumption) (by assumption) (by assumption) (by assumption)⟩
                      · refine r_al0 zi_289_133 rfl ?_
                        refine q_getR zi_289_134 rfl cf_195_17 ?_
                        refine r_push zi_289_137 rfl ?_
                        refine r_ald zi_289_138 rfl 0 ca_204 (by first | rfl | (simp only [zI_add, zI_mul] <;> rfl)) (by first | omega | decide) ?_
                        refine r_retI zi_289_139 rfl ?_
                        first
                        | exact ⟨_, rfl, by rw [v0']; exact a0 (by assumption)⟩
                        | exact ⟨_, rfl, by rw [ha']; exact a1 (by assumption)⟩
                        | exact ⟨_, rfl, by rw [v2']; exact a2 (by assumption)⟩
                        | exact ⟨_, rfl, by rw [v3']; exact a3 (by assumption)⟩
                        | exact ⟨_, rfl, by rw [v4']; exact a4 (by assumption)⟩
                        | exact ⟨_, rfl, by rw [v5']; exact a5 (by assumption)⟩
                        | exact ⟨_, rfl, by rw [v6']; exact a6 (by assumption)⟩
                        | exact ⟨_, rfl, by rw [v7']; exact a7 (by assumption)⟩
                        | exact ⟨_, rfl, by rw [v8']; exact a8 (by assumption)⟩
                        | exact ⟨_, rfl, by rw [v9']; exact a9 (by assumption)⟩
                        | exact ⟨_, rfl, by rw [v10']; exact a10 (by assumption)⟩
                        | exact ⟨_, rfl, by rw [v11']; exact a11 (by assumption)⟩
                        | exact ⟨_, rfl, by rw [v12']; exact a12 (by assumption)⟩
                        | exact ⟨_, rfl, by rw [v13']; exact a13 (by assumption)⟩
                        | exact ⟨_, rfl, by rw [v14']; exact a14 (by assumption)⟩
                        | exact ⟨_, rfl, a15 (by assumption) (by assumption) (by assumption) (by assumption) (by assumption) (by assumption) (by assumption) (by assumption) (by assumption) (by assumption) (by assumption) (by assumption) (by assumption) (by assumption) (by assumption)⟩
                    · refine r_al0 zi_289_120 rfl ?_
                      refine q_getR zi_289_121 rfl cf_195_1 ?_
                      refine r_push zi_289_124 rfl ?_
                      refine r_ald zi_289_125 rfl 1 ca_196 (by first | rfl | (simp only [zI_add, zI_mul] <;> rfl)) (by first | omega | decide) ?_
                      refine r_retI zi_289_126 rfl ?_
                      first
                      | exact ⟨_, rfl, by rw [v0']; exact a0 (by assumption)⟩
                      | exact ⟨_, rfl, by rw [ha']; exact a1 (by assumption)⟩
                      | exact ⟨_, rfl, by rw [v2']; exact a2 (by assumption)⟩
                      | exact ⟨_, rfl, by rw [v3']; exact a3 (by assumption)⟩
                      | exact ⟨_, rfl, by rw [v4']; exact a4 (by assumption)⟩
                      | exact ⟨_, rfl, by rw [v5']; exact a5 (by assumption)⟩
                      | exact ⟨_, rfl, by rw [v6']; exact a6 (by assumption)⟩
                      | exact ⟨_, rfl, by rw [v7']; exact a7 (by assumption)⟩
                      | exact ⟨_, rfl, by rw [v8']; exact a8 (by assumption)⟩
                      | exact ⟨_, rfl, by rw [v9']; exact a9 (by assumption)⟩
                      | exact ⟨_, rfl, by rw [v10']; exact a10 (by assumption)⟩
                      | exact ⟨_, rfl, by rw [v11']; exact a11 (by assumption)⟩
                      | exact ⟨_, rfl, by rw [v12']; exact a12 (by assumption)⟩
                      | exact ⟨_, rfl, by rw [v13']; exact a13 (by assumption)⟩
                      | exact ⟨_, rfl, by rw [v14']; exact a14 (by assumption)⟩
                      | exact ⟨_, rfl, a15 (by assumption) (by assumption) (by assumption) (by assumption) (by assumption) (by assumption) (by assumption) (by assumption) (by assumption) (by assumption) (by assumption) (by assumption) (by assumption) (by assumption) (by assumption)⟩
                  · refine r_al0 zi_289_107 rfl ?_
                    refine q_getR zi_289_108 rfl cf_195_1 ?_
                    refine r_push zi_289_111 rfl ?_
                    refine r_ald zi_289_112 rfl 2 ca_196 (by first | rfl | (simp only [zI_add, zI_mul] <;> rfl)) (by first | omega | decide) ?_
                    refine r_retI zi_289_113 rfl ?_
                    first
                    | exact ⟨_, rfl, by rw [v0']; exact a0 (by assumption)⟩
                    | exact ⟨_, rfl, by rw [ha']; exact a1 (by assumption)⟩
                    | exact ⟨_, rfl, by rw [v2']; exact a2 (by assumption)⟩
                    | exact ⟨_, rfl, by rw [v3']; exact a3 (by assumption)⟩
                    | exact ⟨_, rfl, by rw [v4']; exact a4 (by assumption)⟩
                    | exact ⟨_, rfl, by rw [v5']; exact a5 (by assumption)⟩
                    | exact ⟨_, rfl, by rw [v6']; exact a6 (by assumption)⟩
                    | exact ⟨_, rfl, by rw [v7']; exact a7 (by assumption)⟩
                    | exact ⟨_, rfl, by rw [v8']; exact a8 (by assumption)⟩
                    | exact ⟨_, rfl, by rw [v9']; exact a9 (by assumption)⟩
                    | exact ⟨_, rfl, by rw [v10']; exact a10 (by assumption)⟩
                    | exact ⟨_, rfl, by rw [v11']; exact a11 (by assumption)⟩
                    | exact ⟨_, rfl, by rw [v12']; exact a12 (by assumption)⟩
                    | exact ⟨_, rfl, by rw [v13']; exact a13 (by assumption)⟩
                    | exact ⟨_, rfl, by rw [v14']; exact a14 (by assumption)⟩
                    | exact ⟨_, rfl, a15 (by assumption) (by assumption) (by assumption) (by assumption) (by assumption) (by assumption) (by assumption) (by assumption) (by assumption) (by assumption) (by assumption) (by assumption) (by assumption) (by assumption) (by assumption)⟩
                · refine r_al0 zi_289_92 rfl ?_
                  refine q_getR zi_289_93 rfl cf_195_1 ?_
                  refine r_push zi_289_96 rfl ?_
                  refine r_ald zi_289_99 rfl 145 ca_196 (by first | rfl | (simp only [zI_add, zI_mul] <;> rfl)) (by first | omega | decide) ?_
                  refine r_retI zi_289_100 rfl ?_
                  first
                  | exact ⟨_, rfl, by rw [v0']; exact a0 (by assumption)⟩
                  | exact ⟨_, rfl, by rw [ha']; exact a1 (by assumption)⟩
                  | exact ⟨_, rfl, by rw [v2']; exact a2 (by assumption)⟩
                  | exact ⟨_, rfl, by rw [v3']; exact a3 (by assumption)⟩
                  | exact ⟨_, rfl, by rw [v4']; exact a4 (by assumption)⟩
                  | exact ⟨_, rfl, by rw [v5']; exact a5 (by assumption)⟩
                  | exact ⟨_, rfl, by rw [v6']; exact a6 (by assumption)⟩
                  | exact ⟨_, rfl, by rw [v7']; exact a7 (by assumption)⟩
                  | exact ⟨_, rfl, by rw [v8']; exact a8 (by assumption)⟩
                  | exact ⟨_, rfl, by rw [v9']; exact a9 (by assumption)⟩
                  | exact ⟨_, rfl, by rw [v10']; exact a10 (by assumption)⟩
                  | exact ⟨_, rfl, by rw [v11']; exact a11 (by assumption)⟩
                  | exact ⟨_, rfl, by rw [v12']; exact a12 (by assumption)⟩
                  | exact ⟨_, rfl, by rw [v13']; exact a13 (by assumption)⟩
                  | exact ⟨_, rfl, by rw [v14']; exact a14 (by assumption)⟩
                  | exact ⟨_, rfl, a15 (by assumption) (by assumption) (by assumption) (by assumption) (by assumption) (by assumption) (by assumption) (by assumption) (by assumption) (by assumption) (by assumption) (by assumption) (by assumption) (by assumption) (by assumption)⟩
              · refine r_al0 zi_289_78 rfl ?_
                refine q_getR zi_289_79 rfl cf_195_1 ?_
                refine r_push zi_289_82 rfl ?_
                refine r_ald zi_289_84 rfl 120 ca_196 (by first | rfl | (simp only [zI_add, zI_mul] <;> rfl)) (by first | omega | decide) ?_
                refine r_retI zi_289_85 rfl ?_
                first
                | exact ⟨_, rfl, by rw [v0']; exact a0 (by assumption)⟩
                | exact ⟨_, rfl, by rw [ha']; exact a1 (by assumption)⟩
                | exact ⟨_, rfl, by rw [v2']; exact a2 (by assumption)⟩
                | exact ⟨_, rfl, by rw [v3']; exact a3 (by assumption)⟩
                | exact ⟨_, rfl, by rw [v4']; exact a4 (by assumption)⟩
                | exact ⟨_, rfl, by rw [v5']; exact a5 (by assumption)⟩
                | exact ⟨_, rfl, by rw [v6']; exact a6 (by assumption)⟩
                | exact ⟨_, rfl, by rw [v7']; exact a7 (by assumption)⟩
                | exact ⟨_, rfl, by rw [v8']; exact a8 (by assumption)⟩
                | exact ⟨_, rfl, by rw [v9']; exact a9 (by assumption)⟩
                | exact ⟨_, rfl, by rw [v10']; exact a10 (by assumption)⟩
                | exact ⟨_, rfl, by rw [v11']; exact a11 (by assumption)⟩
                | exact ⟨_, rfl, by rw [v12']; exact a12 (by assumption)⟩
                | exact ⟨_, rfl, by rw [v13']; exact a13 (by assumption)⟩
                | exact ⟨_, rfl, by rw [v14']; exact a14 (by assumption)⟩
                | exact ⟨_, rfl, a15 (by assumption) (by assumption) (by assumption) (by assumption) (by assumption) (by assumption) (by assumption) (by assumption) (by assumption) (by assumption) (by assumption) (by assumption) (by assumption) (by assumption) (by assumption)⟩
            · refine r_al0 zi_289_65 rfl ?_
              refine q_getR zi_289_66 rfl cf_195_1 ?_
              refine r_push zi_289_69 rfl ?_
              refine r_ald zi_289_70 rfl 0 ca_196 (by first | rfl | (simp only [zI_add, zI_mul] <;> rfl)) (by first | omega | decide) ?_
              refine r_retI zi_289_71 rfl ?_
              first
              | exact ⟨_, rfl, by rw [v0']; exact a0 (by assumption)⟩
              | exact ⟨_, rfl, by rw [ha']; exact a1 (by assumption)⟩
              | exact ⟨_, rfl, by rw [v2']; exact a2 (by assumption)⟩
              | exact ⟨_, rfl, by rw [v3']; exact a3 (by assumption)⟩
              | exact ⟨_, rfl, by rw [v4']; exact a4 (by assumption)⟩
              | exact ⟨_, rfl, by rw [v5']; exact a5 (by assumption)⟩
              | exact ⟨_, rfl, by rw [v6']; exact a6 (by assumption)⟩
              | exact ⟨_, rfl, by rw [v7']; exact a7 (by assumption)⟩
              | exact ⟨_, rfl, by rw [v8']; exact a8 (by assumption)⟩
              | exact ⟨_, rfl, by rw [v9']; exact a9 (by assumption)⟩
              | exact ⟨_, rfl, by rw [v10']; exact a10 (by assumption)⟩
              | exact ⟨_, rfl, by rw [v11']; exact a11 (by assumption)⟩
              | exact ⟨_, rfl, by rw [v12']; exact a12 (by assumption)⟩
              | exact ⟨_, rfl, by rw [v13']; exact a13 (by assumption)⟩
              | exact ⟨_, rfl, by rw [v14']; exact a14 (by assumption)⟩
              | exact ⟨_, rfl, a15 (by assumption) (by assumption) (by assumption) (by assumption) (by assumption) (by assumption) (by assumption) (by assumption) (by assumption) (by assumption) (by assumption) (by assumption) (by assumption) (by assumption) (by assumption)⟩
          · refine r_al0 zi_289_53 rfl ?_
            refine q_getR zi_289_54 rfl cf_195_1 ?_
            refine r_push zi_289_57 rfl ?_
            refine r_ald zi_289_58 rfl 5 ca_196 (by first | rfl | (simp only [zI_add, zI_mul] <;> rfl)) (by first | omega | decide) ?_
            refine r_retI zi_289_59 rfl ?_
            first
            | exact ⟨_, rfl, by rw [v0']; exact a0 (by assumption)⟩
            | exact ⟨_, rfl, by rw [ha']; exact a1 (by assumption)⟩
            | exact ⟨_, rfl, by rw [v2']; exact a2 (by assumption)⟩
            | exact ⟨_, rfl, by rw [v3']; exact a3 (by assumption)⟩
            | exact ⟨_, rfl, by rw [v4']; exact a4 (by assumption)⟩
            | exact ⟨_, rfl, by rw [v5']; exact a5 (by assumption)⟩
            | exact ⟨_, rfl, by rw [v6']; exact a6 (by assumption)⟩
            | exact ⟨_, rfl, by rw [v7']; exact a7 (by assumption)⟩
            | exact ⟨_, rfl, by rw [v8']; exact a8 (by assumption)⟩
            | exact ⟨_, rfl, by rw [v9']; exact a9 (by assumption)⟩
            | exact ⟨_, rfl, by rw [v10']; exact a10 (by assumption)⟩
            | exact ⟨_, rfl, by rw [v11']; exact a11 (by assumption)⟩
            | exact ⟨_, rfl, by rw [v12']; exact a12 (by assumption)⟩
            | exact ⟨_, rfl, by rw [v13']; exact a13 (by assumption)⟩
            | exact ⟨_, rfl, by rw [v14']; exact a14 (by assumption)⟩
            | exact ⟨_, rfl, a15 (by assumption) (by assumption) (by assumption) (by assumption) (by assumption) (by assumption) (by assumption) (by assumption) (by assumption) (by assumption) (by assumption) (by assumption) (by assumption) (by assumption) (by assumption)⟩
        · refine r_al0 zi_289_41 rfl ?_
          refine q_getR zi_289_42 rfl cf_195_1 ?_
          refine r_push zi_289_45 rfl ?_
          refine r_ald zi_289_46 rfl 4 ca_196 (by first | rfl | (simp only [zI_add, zI_mul] <;> rfl)) (by first | omega | decide) ?_
          refine r_retI zi_289_47 rfl ?_
          first
          | exact ⟨_, rfl, by rw [v0']; exact a0 (by assumption)⟩
          | exact ⟨_, rfl, by rw [ha']; exact a1 (by assumption)⟩
          | exact ⟨_, rfl, by rw [v2']; exact a2 (by assumption)⟩
          | exact ⟨_, rfl, by rw [v3']; exact a3 (by assumption)⟩
          | exact ⟨_, rfl, by rw [v4']; exact a4 (by assumption)⟩
          | exact ⟨_, rfl, by rw [v5']; exact a5 (by assumption)⟩
          | exact ⟨_, rfl, by rw [v6']; exact a6 (by assumption)⟩
          | exact ⟨_, rfl, by rw [v7']; exact a7 (by assumption)⟩
          | exact ⟨_, rfl, by rw [v8']; exact a8 (by assumption)⟩
          | exact ⟨_, rfl, by rw [v9']; exact a9 (by assumption)⟩
          | exact ⟨_, rfl, by rw [v10']; exact a10 (by assumption)⟩
          | exact ⟨_, rfl, by rw [v11']; exact a11 (by assumption)⟩
          | exact ⟨_, rfl, by rw [v12']; exact a12 (by assumption)⟩
          | exact ⟨_, rfl, by rw [v13']; exact a13 (by assumption)⟩
          | exact ⟨_, rfl, by rw [v14']; exact a14 (by assumption)⟩
          | exact ⟨_, rfl, a15 (by assumption) (by assumption) (by assumption) (by assumption) (by assumption) (by assumption) (by assumption) (by assumption) (by assumption) (by assumption) (by assumption) (by assumption) (by assumption) (by assumption) (by assumption)⟩
      · refine r_al0 zi_289_29 rfl ?_
        refine q_getR zi_289_30 rfl cf_195_1 ?_
        refine r_push zi_289_33 rfl ?_
        refine r_ald zi_289_34 rfl 3 ca_196 (by first | rfl | (simp only [zI_add, zI_mul] <;> rfl)) (by first | omega | decide) ?_
        refine r_retI zi_289_35 rfl ?_
        first
        | exact ⟨_, rfl, by rw [v0']; exact a0 (by assumption)⟩
        | exact ⟨_, rfl, by rw [ha']; exact a1 (by assumption)⟩
        | exact ⟨_, rfl, by rw [v2']; exact a2 (by assumption)⟩
        | exact ⟨_, rfl, by rw [v3']; exact a3 (by assumption)⟩
        | exact ⟨_, rfl, by rw [v4']; exact a4 (by assumption)⟩
        | exact ⟨_, rfl, by rw [v5']; exact a5 (by assumption)⟩
        | exact ⟨_, rfl, by rw [v6']; exact a6 (by assumption)⟩
        | exact ⟨_, rfl, by rw [v7']; exact a7 (by assumption)⟩
        | exact ⟨_, rfl, by rw [v8']; exact a8 (by assumption)⟩
        | exact ⟨_, rfl, by rw [v9']; exact a9 (by assumption)⟩
        | exact ⟨_, rfl, by rw [v10']; exact a10 (by assumption)⟩
        | exact ⟨_, rfl, by rw [v11']; exact a11 (by assumption)⟩
        | exact ⟨_, rfl, by rw [v12']; exact a12 (by assumption)⟩
        | exact ⟨_, rfl, by rw [v13']; exact a13 (by assumption)⟩
        | exact ⟨_, rfl, by rw [v14']; exact a14 (by assumption)⟩
        | exact ⟨_, rfl, a15 (by assumption) (by assumption) (by assumption) (by assumption) (by assumption) (by assumption) (by assumption) (by assumption) (by assumption) (by assumption) (by assumption) (by assumption) (by assumption) (by assumption) (by assumption)⟩
    · refine r_al0 zi_289_19 rfl ?_
      refine q_cIV zi_289_20 rfl rfl rfl rfl rfl rfl rfl cf_195_0.ob (s_mall (d := d + 1) hs' hn18 ?_)
      show zk _ _ 23 _ _ _ _
      refine r_retI zi_289_23 rfl ?_
      first
      | exact ⟨_, rfl, by rw [v0']; exact a0 (by assumption)⟩
      | exact ⟨_, rfl, by rw [ha']; exact a1 (by assumption)⟩
      | exact ⟨_, rfl, by rw [v2']; exact a2 (by assumption)⟩
      | exact ⟨_, rfl, by rw [v3']; exact a3 (by assumption)⟩
      | exact ⟨_, rfl, by rw [v4']; exact a4 (by assumption)⟩
      | exact ⟨_, rfl, by rw [v5']; exact a5 (by assumption)⟩
      | exact ⟨_, rfl, by rw [v6']; exact a6 (by assumption)⟩
      | exact ⟨_, rfl, by rw [v7']; exact a7 (by assumption)⟩
      | exact ⟨_, rfl, by rw [v8']; exact a8 (by assumption)⟩
      | exact ⟨_, rfl, by rw [v9']; exact a9 (by assumption)⟩
      | exact ⟨_, rfl, by rw [v10']; exact a10 (by assumption)⟩
      | exact ⟨_, rfl, by rw [v11']; exact a11 (by assumption)⟩
      | exact ⟨_, rfl, by rw [v12']; exact a12 (by assumption)⟩
      | exact ⟨_, rfl, by rw [v13']; exact a13 (by assumption)⟩
      | exact ⟨_, rfl, by rw [v14']; exact a14 (by assumption)⟩
      | exact ⟨_, rfl, a15 (by assumption) (by assumption) (by assumption) (by assumption) (by assumption) (by assumption) (by assumption) (by assumption) (by assumption) (by assumption) (by assumption) (by assumption) (by assumption) (by assumption) (by assumption)⟩
  · refine r_al0 zi_289_9 rfl ?_
    refine q_getI zi_289_10 rfl cf_195_6 ?_
    refine r_retI zi_289_13 rfl ?_
    first
    | exact ⟨_, rfl, by rw [v0']; exact a0 (by assumption)⟩
    | exact ⟨_, rfl, by rw [ha']; exact a1 (by assumption)⟩
    | exact ⟨_, rfl, by rw [v2']; exact a2 (by assumption)⟩
    | exact ⟨_, rfl, by rw [v3']; exact a3 (by assumption)⟩
    | exact ⟨_, rfl, by rw [v4']; exact a4 (by assumption)⟩
    | exact ⟨_, rfl, by rw [v5']; exact a5 (by assumption)⟩
    | exact ⟨_, rfl, by rw [v6']; exact a6 (by assumption)⟩
    | exact ⟨_, rfl, by rw [v7']; exact a7 (by assumption)⟩
    | exact ⟨_, rfl, by rw [v8']; exact a8 (by assumption)⟩
    | exact ⟨_, rfl, by rw [v9']; exact a9 (by assumption)⟩
    | exact ⟨_, rfl, by rw [v10']; exact a10 (by assumption)⟩
    | exact ⟨_, rfl, by rw [v11']; exact a11 (by assumption)⟩
    | exact ⟨_, rfl, by rw [v12']; exact a12 (by assumption)⟩
    | exact ⟨_, rfl, by rw [v13']; exact a13 (by assumption)⟩
    | exact ⟨_, rfl, by rw [v14']; exact a14 (by assumption)⟩
    | exact ⟨_, rfl, a15 (by assumption) (by assumption) (by assumption) (by assumption) (by assumption) (by assumption) (by assumption) (by assumption) (by assumption) (by assumption) (by assumption) (by assumption) (by assumption) (by assumption) (by assumption)⟩
theorem c_look {q : Int32} : zPr 155 289 [.int q] := fun σ hI => by
  obtain ⟨n, V, ⟨hV, hm, hg, hz, hs, _⟩, ⟨N, Wd, Fr', Wh, To, O, A, _, hlk, hlm⟩, ⟨rows, hr⟩, ⟨nT, td, tp, tv, ht1, ht2⟩, ⟨nE, ed, eo, he1, he2⟩, _, _, ⟨c, la, p1, p2, p3, p4, p5⟩, _⟩ := id hI
  have gn := hg.1
  have gn18 := hg.2.1
  have vf : ∀ f, 11 ≤ f → f < 20 → σ 2 f = V 11 f := hV.2.1
  refine s_klook (d := 7) (n := n) (F := fun k => match k with | 0 => nI n | 1 => zset (fun s => decide (V 6 s = 1)) n | 2 => V 11 14 | 3 => V 11 15 | 4 => V 11 16 | 5 => V 11 17 | 6 => V 11 12 | 7 => V 11 13 | 8 => V 11 19 | 9 => V 11 18 | 10 => nI N | 11 => nI nE | 12 => nI nT | 13 => nI rows.length | _ => nI c) ((vf 11 (by omega) (by omega)).trans gn) gn18 (zkl_v hV gn18) ((vf 11 (by omega) (by omega)).trans gn) (vf 14 (by omega) (by omega)) (vf 15 (by omega) (by omega)) (vf 16 (by omega) (by omega)) (vf 17 (by omega) (by omega)) (vf 12 (by omega) (by omega)) (vf 13 (by omega) (by omega)) (vf 19 (by omega) (by omega)) (vf 18 (by omega) (by omega)) hlk.1 he1.1 ht1.1 hr.2.2.1 p3 ?_
  exact s_mlook (d := 7) (n := n) (F := fun k => match k with | 0 => nI n | 1 => zset (fun s => decide (V 6 s = 1)) n | 2 => V 11 14 | 3 => V 11 15 | 4 => V 11 16 | 5 => V 11 17 | 6 => V 11 12 | 7 => V 11 13 | 8 => V 11 19 | 9 => V 11 18 | 10 => nI N | 11 => nI nE | 12 => nI nT | 13 => nI rows.length | _ => nI c) hs gn18 (zmal_v hm) hs hm.1.2.2.2.1 hm.1.2.2.2.2.1 hm.1.2.2.2.2.2 hm.1.1 hm.2.2.2.2.1.1 hm.2.2.2.2.1.2 hm.1.2.2.1 hm.1.2.1 hlm.1 he2.1 ht2.1 hr.2.2.2.2.1 p4 (zPr_i hI sc_u)

