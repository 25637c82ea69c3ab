/-! TOGETHER, class: the orders -/
theorem l_kclr {d o m l : Nat} {σ : zS} {R : Option Int32 → zS → Prop} {left : Int32} {n : Nat} (hn : n ≤ 200) (h : zk d 77 62 [.ref 177, .ref 32, .int (nI o), .int left, .int (nI l), .int (nI m), .int (nI n), .int (zclr left n), .int (nI n)] [] σ R) : ∀ (k i : Nat), i + k = n → zk d 77 40 [.ref 177, .ref 32, .int (nI o), .int left, .int (nI l), .int (nI m), .int (nI n), .int (zclr left i), .int (nI i)] [] σ R := by
  intro k
  induction k with
  | zero =>
    intro i hi
    have e : i = n := by omega
    subst e
    refine r_il8 zi_77_40 rfl ?_
    refine r_il6 zi_77_42 rfl ?_
    refine n_ic3 (i := i) (j := i) zi_77_44 rfl (by omega) (by omega) (fun _ => ?_) (fun c => absurd c (by omega))
    exact h
  | succ k ih =>
    intro i hi
    refine r_il8 zi_77_40 rfl ?_
    refine r_il6 zi_77_42 rfl ?_
    refine n_ic3 (i := i) (j := n) zi_77_44 rfl (by omega) (by omega) (fun c => absurd c (by omega)) (fun _ => ?_)
    refine r_il7 zi_77_47 rfl ?_
    refine r_il7 zi_77_49 rfl ?_
    refine r_push zi_77_51 rfl ?_
    refine r_b1 zi_77_52 rfl ?_
    refine r_b3 zi_77_53 rfl ?_
    refine r_is7 zi_77_54 rfl ?_
    refine r_in8 zi_77_56 rfl ?_
    rw [show (nI i + 1 : Int32) = nI (i + 1) from nI_add _ _]
    refine r_goto zi_77_59 rfl ?_
    exact ih (i + 1) (by omega)
theorem zpk_s {c m : Nat} {left : Int32} {o : Nat} (h : zpk c (m + 1) left o = true) : zclr left (o % (m + 1)) ≠ 0 ∧ ztz (zclr left (o % (m + 1))) < c ∧ zpk c m (left &&& (1 <<< (nI (ztz (zclr left (o % (m + 1)))) &&& 31) ^^^ -1)) (o / (m + 1)) = true := by
  have h' : (decide (zclr left (o % (m + 1)) ≠ 0) && decide (ztz (zclr left (o % (m + 1))) < c) && zpk c m (left &&& (1 <<< (nI (ztz (zclr left (o % (m + 1)))) &&& 31) ^^^ -1)) (o / (m + 1))) = true := h
  rw [Bool.and_eq_true, Bool.and_eq_true] at h'
  exact ⟨of_decide_eq_true h'.1.1, of_decide_eq_true h'.1.2, h'.2⟩
theorem l_kord {d c : Nat} {σ : zS} {Q : Int32 → zS → Prop} {W : Nat → Nat} (hc : σ 32 1 = nI c) (hc5 : c ≤ 5) (hW : ∀ k, k < c → σ 33 k = nI (W k) ∧ W k ≤ 9999) : ∀ (m o l : Nat) (left : Int32) (r : Nat → Nat) (τ : zS) (u6 u7 u8 : Value), m ≤ c → o < 200 → l + 4 * m ≤ 20 → Fr [187, 188] σ τ → zRw τ 187 l r → zpk c m left o = true → (∀ υ, Fr [187, 188] σ υ → Q (nI (zlq W (zpq m left o) (l, r)).1) υ) → zk (d + 2) 77 18 [.ref 177, .ref 32, .int (nI o), .int left, .int (nI l), .int (nI m), u6, u7, u8] [] τ (fun r t => ∃ v, r = some v ∧ Q v t) := by
  intro m
  induction m with
  | zero =>
    intro o l left r τ u6 u7 u8 hm ho hl hF hr hp hq
    refine r_il5 zi_77_18 rfl ?_
    refine r_if5 zi_77_20 rfl (fun _ => ?_) (fun c => absurd (by decide) c)
    refine r_il4 zi_77_98 rfl ?_
    refine r_retI zi_77_100 rfl ?_
    exact ⟨_, rfl, hq _ hF⟩
  | succ m ih =>
    intro o l left r τ u6 u7 u8 hm ho hl hF hr hp hq
    obtain ⟨h1, h2, h3⟩ := zpk_s hp
    have hlt : o % (m + 1) < m + 1 := Nat.mod_lt _ (by omega)
    have hdv : o / (m + 1) ≤ o := Nat.div_le_self _ _
    have hc' : τ 32 1 = nI c := (hF 32 (by decide) 1).trans hc
    have e : zlq W (zpq (m + 1) left o) (l, r) = zlq W (zpq m (left &&& (1 <<< (nI (ztz (zclr left (o % (m + 1)))) &&& 31) ^^^ -1)) (o / (m + 1))) (zlw (W (ztz (zclr left (o % (m + 1))))) l r) := rfl
    rw [e] at hq
    generalize hz : ztz (zclr left (o % (m + 1))) = p at *
    obtain ⟨hw, bw⟩ := hW p h2
    have hw' : τ (32 + 1) p = nI (W p) := (hF 33 (by decide) p).trans hw
    have hle := zlw_le (W p) l r
    refine r_il5 zi_77_18 rfl ?_
    refine n_if5 (i := (m+1)) zi_77_20 rfl (by omega) (fun c => absurd c (by omega)) (fun _ => ?_)
    refine r_il2 zi_77_23 rfl ?_
    refine r_il5 zi_77_24 rfl ?_
    refine r_rem zi_77_26 rfl (nI_ne0 (by omega) (by omega)) ?_
    rw [show (nI o % nI (m+1) : Int32) = nI (o % (m+1)) from zI_rem (by omega) (by omega) (by omega)]
    refine r_is6 zi_77_27 rfl ?_
    refine r_il2 zi_77_29 rfl ?_
    refine r_il5 zi_77_30 rfl ?_
    refine r_div zi_77_32 rfl (nI_ne0 (by omega) (by omega)) ?_
    rw [show (nI o / nI (m+1) : Int32) = nI (o / (m+1)) from pk_div (by omega) (by omega) (by omega)]
    refine r_is2 zi_77_33 rfl ?_
    refine r_il3 zi_77_34 rfl ?_
    refine r_is7 zi_77_35 rfl ?_
    refine r_push zi_77_37 rfl ?_
    refine r_is8 zi_77_38 rfl ?_
    refine l_kclr (by omega) ?_ (o % (m + 1)) 0 (by omega)
    show zk _ _ 62 _ _ _ _
    refine r_il7 zi_77_62 rfl ?_
    refine r_cIS zi_77_64 rfl rfl rfl rfl rfl rfl (s_least h1 ?_)
    show zk _ _ 67 _ _ _ _
    rw [hz]
    refine r_is8 zi_77_67 rfl ?_
    refine r_il3 zi_77_69 rfl ?_
    refine r_push zi_77_70 rfl ?_
    refine r_il8 zi_77_71 rfl ?_
    refine r_b6 zi_77_73 rfl ?_
    refine r_push zi_77_74 rfl ?_
    refine r_b5 zi_77_75 rfl ?_
    refine r_b3 zi_77_76 rfl ?_
    refine r_is3 zi_77_77 rfl ?_
    refine r_al0 zi_77_78 rfl ?_
    refine r_al1 zi_77_79 rfl ?_
    refine r_il8 zi_77_80 rfl ?_
    refine q_cIV zi_77_82 rfl rfl rfl rfl rfl rfl rfl cf_32_0.ob (s_trow zTo32 (by omega) hc' hc5 h2 ?_)
    show zk _ _ 85 _ _ _ _
    rw [hw']
    refine r_il4 zi_77_85 rfl ?_
    refine q_cIV zi_77_87 rfl rfl rfl rfl rfl rfl rfl cf_177_0.ob (s_klayw bw (by omega) hr (fun τ2 hF2 hr2 => ?_))
    show zk _ _ 90 _ _ _ _
    refine r_is4 zi_77_90 rfl ?_
    refine r_in5 zi_77_92 rfl ?_
    rw [show (nI (m + 1) + -1 : Int32) = nI m from pk_m1 _]
    refine r_goto zi_77_95 rfl ?_
    exact ih _ _ _ _ τ2 _ _ _ (by omega) (by omega) (by omega) (hF.tr hF2) hr2 h3 hq
theorem zfc_le : ∀ c, c < 6 → zfc c ≤ 120 ∧ 1 ≤ zfc c := by decide +kernel
theorem zpq_len : ∀ (m : Nat) (left : Int32) (o : Nat), (zpq m left o).length = m
  | 0, _, _ => rfl
  | m + 1, left, o => by show (zpq m _ _).length + 1 = m + 1; rw [zpq_len m]
theorem s_korder {d c o : Nat} {σ : zS} {Q : Int32 → zS → Prop} {W : Nat → Nat} (hc : σ 32 1 = nI c) (hc5 : c ≤ 5) (ho : o < zfc c) (hW : ∀ k, k < c → σ 33 k = nI (W k) ∧ W k ≤ 9999) (hq : ∀ υ, Fr [187, 188] σ υ → Q (nI (zLl W (zpq c (zfl c) o))) υ) : zI1 (d + 2) 77 [.ref 177, .ref 32, .int (nI o)] σ Q := by
  have hf := zfc_le c (by omega)
  show zk _ _ 0 [.ref 177, .ref 32, .int (nI o), zun, zun, zun, zun, zun, zun] [] _ _
  refine r_push zi_77_0 rfl ?_
  refine r_al1 zi_77_1 rfl ?_
  refine q_getIe zi_77_2 rfl cf_32_1 (v := nI c) (by first | exact hc | ((repeat (first | rw [zup_ne (by first | decide | omega)] | rw [zup_nj (by first | decide | omega)] | rw [fil_ne (by first | decide | omega)])) <;> exact hc) | (simp [up_rd, fil_rd]; exact hc)) ?_
  refine r_b6 zi_77_5 rfl ?_
  refine r_push zi_77_6 rfl ?_
  refine r_b1 zi_77_7 rfl ?_
  refine r_is3 zi_77_8 rfl ?_
  refine r_push zi_77_9 rfl ?_
  refine r_is4 zi_77_10 rfl ?_
  refine r_al1 zi_77_12 rfl ?_
  refine q_getIe zi_77_13 rfl cf_32_1 (v := nI c) (by first | exact hc | ((repeat (first | rw [zup_ne (by first | decide | omega)] | rw [zup_nj (by first | decide | omega)] | rw [fil_ne (by first | decide | omega)])) <;> exact hc) | (simp [up_rd, fil_rd]; exact hc)) ?_
  refine r_is5 zi_77_16 rfl ?_
  exact l_kord hc hc5 hW c o 0 (zfl c) (fun _ => 0) σ _ _ _ (Nat.le_refl _) (by omega) (by omega) Fr.rf (fun x hx => by omega) (zpk_ok c (by omega) o ho) hq
abbrev zkL (W : Nat → Nat) (c n : Nat) : List Nat := (List.range n).map (fun o => zLl W (zpq c (zfl c) o))
theorem zkL_s {W : Nat → Nat} {c n : Nat} : zkL W c (n + 1) = zkL W c n ++ [zLl W (zpq c (zfl c) n)] := by unfold zkL; rw [List.range_succ, List.map_append]; rfl
theorem l_ktog {d c : Nat} {σ : zS} {Q : Int32 → zS → Prop} {W : Nat → Nat} (hc : σ 32 1 = nI c) (hc5 : c ≤ 5) (hW : ∀ k, k < c → σ 33 k = nI (W k) ∧ W k ≤ 9999) (hq : ∀ τ, Fr [177, 187, 188] σ τ → τ 177 12 = nI ((zkL W c (zfc c)).count (zMn 21 (zkL W c (zfc c)))) → Q (nI (zMn 21 (zkL W c (zfc c)))) τ) : ∀ (m o : Nat) (τ : zS) (u5 : Value), o + m = zfc c → Fr [177, 187, 188] σ τ → τ 177 12 = nI ((zkL W c o).count (zMn 21 (zkL W c o))) → zk (d + 3) 76 38 [.ref 177, .ref 32, .int (nI (zfc c)), .int (nI (zMn 21 (zkL W c o))), .int (nI o), u5] [] τ (fun r t => ∃ v, r = some v ∧ Q v t) := by
  have hf := zfc_le c (by omega)
  intro m
  induction m with
  | zero =>
    intro o τ u5 ho hF hn
    have e : o = zfc c := by omega
    rw [e] at hn ⊢
    refine r_il4 zi_76_38 rfl ?_
    refine r_il2 zi_76_40 rfl ?_
    refine n_ic3 (i := (zfc c)) (j := (zfc c)) zi_76_41 rfl (by omega) (by omega) (fun _ => ?_) (fun c => absurd c (by omega))
    refine r_il3 zi_76_93 rfl ?_
    refine r_retI zi_76_94 rfl ?_
    exact ⟨_, rfl, hq _ hF hn⟩
  | succ m ih =>
    intro o τ u5 ho hF hn
    have hc' : τ 32 1 = nI c := (hF 32 (by decide) 1).trans hc
    have hW' : ∀ k, k < c → τ 33 k = nI (W k) ∧ W k ≤ 9999 := fun k hk => ⟨(hF 33 (by decide) k).trans (hW k hk).1, (hW k hk).2⟩
    have hL := zlq_le W (zpq c (zfl c) o) (0, fun _ => 0)
    rw [zpq_len] at hL
    have hL2 : zLl W (zpq c (zfl c) o) ≤ 20 := by show (zlq W _ (0, fun _ => 0)).1 ≤ 20; omega
    have hs := zct_s (x := zLl W (zpq c (zfl c) o)) (fun y hy => (zMn_le (zkL W c o) 21).2 y hy) (rfl : (zkL W c o).count (zMn 21 (zkL W c o)) = _)
    have hM := (zMn_le (zkL W c o) 21).1
    have hcl : (zkL W c o).count (zMn 21 (zkL W c o)) ≤ o := by
      have := List.count_le_length (a := zMn 21 (zkL W c o)) (l := zkL W c o)
      rw [List.length_map, List.length_range] at this
      exact this
    have ih := ih (o + 1)
    rw [zkL_s, zMn_s, ← hs] at ih
    generalize hxe : zLl W (zpq c (zfl c) o) = x at *
    generalize (zkL W c o).count (zMn 21 (zkL W c o)) = n at *
    generalize zMn 21 (zkL W c o) = f at *
    by_cases h1 : x < f
    · rw [if_pos h1, Nat.min_eq_right (by omega), if_pos rfl] at ih
      refine r_il4 zi_76_38 rfl ?_
      refine r_il2 zi_76_40 rfl ?_
      refine n_ic3 (i := o) (j := (zfc c)) zi_76_41 rfl (by omega) (by omega) (fun c => absurd c (by omega)) (fun _ => ?_)
      refine r_al0 zi_76_44 rfl ?_
      refine r_al1 zi_76_45 rfl ?_
      refine r_il4 zi_76_46 rfl ?_
      refine q_cIV zi_76_48 rfl rfl rfl rfl rfl rfl rfl cf_177_0.ob (s_korder hc' hc5 (by omega) hW' (fun τ2 hF2 => ?_))
      show zk _ _ 51 _ _ _ _
      rw [hxe]
      refine r_is5 zi_76_51 rfl ?_
      refine r_il5 zi_76_53 rfl ?_
      refine r_il3 zi_76_55 rfl ?_
      refine n_ic3 (i := x) (j := f) zi_76_56 rfl (by omega) (by omega) (fun c => absurd c (by omega)) (fun _ => ?_)
      refine r_il5 zi_76_59 rfl ?_
      refine r_is3 zi_76_61 rfl ?_
      refine r_al0 zi_76_62 rfl ?_
      refine r_push zi_76_63 rfl ?_
      refine q_put zi_76_64 rfl cf_177_12 rfl ?_
      refine r_al0 zi_76_67 rfl ?_
      refine r_dupR zi_76_68 rfl ?_
      refine q_getIe zi_76_69 rfl cf_177_12 (v := 0) (by first | exact zup_eq | ((repeat (first | rw [zup_ne (by first | decide | omega)] | rw [zup_nj (by first | decide | omega)] | rw [fil_ne (by first | decide | omega)])) <;> exact zup_eq) | (simp [up_rd, fil_rd]; exact zup_eq)) ?_
      refine r_il5 zi_76_72 rfl ?_
      refine r_il3 zi_76_74 rfl ?_
      refine n_ic1 (i := x) (j := x) zi_76_75 rfl (by omega) (by omega) (fun c => absurd c (by omega)) (fun _ => ?_)
      refine r_push zi_76_78 rfl ?_
      refine r_goto zi_76_79 rfl ?_
      refine r_b0 zi_76_83 rfl ?_
      refine q_put zi_76_84 rfl cf_177_12 rfl ?_
      refine r_in4 zi_76_87 rfl ?_
      rw [show (nI o + 1 : Int32) = nI (o + 1) from nI_add _ _]
      refine r_goto zi_76_90 rfl ?_
      exact ih _ _ (by omega) (((hF.tr (hF2.sub (by simp))).put (by decide)).put (by decide)) zup_eq
    · rw [if_neg h1, Nat.min_eq_left (by omega)] at ih
      by_cases h2 : x = f
      · rw [if_pos h2] at ih
        refine r_il4 zi_76_38 rfl ?_
        refine r_il2 zi_76_40 rfl ?_
        refine n_ic3 (i := o) (j := (zfc c)) zi_76_41 rfl (by omega) (by omega) (fun c => absurd c (by omega)) (fun _ => ?_)
        refine r_al0 zi_76_44 rfl ?_
        refine r_al1 zi_76_45 rfl ?_
        refine r_il4 zi_76_46 rfl ?_
        refine q_cIV zi_76_48 rfl rfl rfl rfl rfl rfl rfl cf_177_0.ob (s_korder hc' hc5 (by omega) hW' (fun τ2 hF2 => ?_))
        show zk _ _ 51 _ _ _ _
        rw [hxe]
        refine r_is5 zi_76_51 rfl ?_
        refine r_il5 zi_76_53 rfl ?_
        refine r_il3 zi_76_55 rfl ?_
        refine n_ic3 (i := x) (j := f) zi_76_56 rfl (by omega) (by omega) (fun _ => ?_) (fun c => absurd c (by omega))
        refine r_al0 zi_76_67 rfl ?_
        refine r_dupR zi_76_68 rfl ?_
        refine q_getIe zi_76_69 rfl cf_177_12 (v := nI n) (by rw [hF2 177 (by decide) 12]; exact hn) ?_
        refine r_il5 zi_76_72 rfl ?_
        refine r_il3 zi_76_74 rfl ?_
        refine n_ic1 (i := x) (j := f) zi_76_75 rfl (by omega) (by omega) (fun c => absurd c (by omega)) (fun _ => ?_)
        refine r_push zi_76_78 rfl ?_
        refine r_goto zi_76_79 rfl ?_
        refine r_b0 zi_76_83 rfl ?_
        rw [show (nI n + 1 : Int32) = nI (n + 1) from nI_add _ _]
        refine q_put zi_76_84 rfl cf_177_12 rfl ?_
        refine r_in4 zi_76_87 rfl ?_
        rw [show (nI o + 1 : Int32) = nI (o + 1) from nI_add _ _]
        refine r_goto zi_76_90 rfl ?_
        exact ih _ _ (by omega) ((hF.tr (hF2.sub (by simp))).put (by decide)) zup_eq
      · rw [if_neg h2] at ih
        refine r_il4 zi_76_38 rfl ?_
        refine r_il2 zi_76_40 rfl ?_
        refine n_ic3 (i := o) (j := (zfc c)) zi_76_41 rfl (by omega) (by omega) (fun c => absurd c (by omega)) (fun _ => ?_)
        refine r_al0 zi_76_44 rfl ?_
        refine r_al1 zi_76_45 rfl ?_
        refine r_il4 zi_76_46 rfl ?_
        refine q_cIV zi_76_48 rfl rfl rfl rfl rfl rfl rfl cf_177_0.ob (s_korder hc' hc5 (by omega) hW' (fun τ2 hF2 => ?_))
        show zk _ _ 51 _ _ _ _
        rw [hxe]
        refine r_is5 zi_76_51 rfl ?_
        refine r_il5 zi_76_53 rfl ?_
        refine r_il3 zi_76_55 rfl ?_
        refine n_ic3 (i := x) (j := f) zi_76_56 rfl (by omega) (by omega) (fun _ => ?_) (fun c => absurd c (by omega))
        refine r_al0 zi_76_67 rfl ?_
        refine r_dupR zi_76_68 rfl ?_
        refine q_getIe zi_76_69 rfl cf_177_12 (v := nI n) (by rw [hF2 177 (by decide) 12]; exact hn) ?_
        refine r_il5 zi_76_72 rfl ?_
        refine r_il3 zi_76_74 rfl ?_
        refine n_ic1 (i := x) (j := f) zi_76_75 rfl (by omega) (by omega) (fun _ => ?_) (fun c => absurd c (by omega))
        refine r_push zi_76_82 rfl ?_
        refine r_b0 zi_76_83 rfl ?_
        rw [show (nI n + 0 : Int32) = nI (n + 0) from nI_add _ _]
        refine q_put zi_76_84 rfl cf_177_12 rfl ?_
        refine r_in4 zi_76_87 rfl ?_
        rw [show (nI o + 1 : Int32) = nI (o + 1) from nI_add _ _]
        refine r_goto zi_76_90 rfl ?_
        exact ih _ _ (by omega) ((hF.tr (hF2.sub (by simp))).put (by decide)) zup_eq
theorem l_kfac {d c : Nat} {σ : zS} {R : Option Int32 → zS → Prop} {u4 u5 : Value} (hc : σ 32 1 = nI c) (hc5 : c ≤ 5) (h : ∀ u3, zk d 76 22 [.ref 177, .ref 32, .int (nI (zfc c)), u3, u4, u5] [] σ R) : ∀ (m i : Nat), i + m = max 1 c → 1 ≤ i → zk d 76 4 [.ref 177, .ref 32, .int (nI (zfc i)), .int (nI (i + 1)), u4, u5] [] σ R := by
  intro m
  induction m with
  | zero =>
    intro i hi hi1
    have e : zfc i = zfc c := by
      by_cases h0 : c = 0
      · rw [h0, show i = 1 by omega]; rfl
      · rw [show i = c by omega]
    rw [e]
    refine r_il3 zi_76_4 rfl ?_
    refine r_al1 zi_76_5 rfl ?_
    refine q_getIe zi_76_6 rfl cf_32_1 (v := nI c) (by first | exact hc | ((repeat (first | rw [zup_ne (by first | decide | omega)] | rw [zup_nj (by first | decide | omega)] | rw [fil_ne (by first | decide | omega)])) <;> exact hc) | (simp [up_rd, fil_rd]; exact hc)) ?_
    refine n_ic4 (i := (i+1)) (j := c) zi_76_9 rfl (by omega) (by omega) (fun _ => ?_) (fun c => absurd c (by omega))
    exact h _
  | succ m ih =>
    intro i hi hi1
    have ih := ih (i + 1) (by omega) (by omega)
    rw [show zfc (i + 1) = zfc i * (i + 1) from Nat.mul_comm _ _] at ih
    refine r_il3 zi_76_4 rfl ?_
    refine r_al1 zi_76_5 rfl ?_
    refine q_getIe zi_76_6 rfl cf_32_1 (v := nI c) (by first | exact hc | ((repeat (first | rw [zup_ne (by first | decide | omega)] | rw [zup_nj (by first | decide | omega)] | rw [fil_ne (by first | decide | omega)])) <;> exact hc) | (simp [up_rd, fil_rd]; exact hc)) ?_
    refine n_ic4 (i := (i+1)) (j := c) zi_76_9 rfl (by omega) (by omega) (fun c => absurd c (by omega)) (fun _ => ?_)
    refine r_il2 zi_76_12 rfl ?_
    refine r_il3 zi_76_13 rfl ?_
    refine r_b2 zi_76_14 rfl ?_
    rw [show (nI (zfc i) * nI (i+1) : Int32) = nI ((zfc i) * (i+1)) from pk_mul _ _]
    refine r_is2 zi_76_15 rfl ?_
    refine r_in3 zi_76_16 rfl ?_
    rw [show (nI (i+1) + 1 : Int32) = nI ((i+1) + 1) from nI_add _ _]
    refine r_goto zi_76_19 rfl ?_
    exact ih
/-- what together answers -/
def ztg (W : Nat → Nat) (c : Nat) (what : Int32) : Nat := if what = 0 then zMn 21 (zkL W c (zfc c)) else (zkL W c (zfc c)).count (zMn 21 (zkL W c (zfc c)))
theorem s_ktog {d c : Nat} {σ : zS} {Q : Int32 → zS → Prop} {W : Nat → Nat} {what : Int32} (hc : σ 32 1 = nI c) (hc5 : c ≤ 5) (hW : ∀ k, k < c → σ 33 k = nI (W k) ∧ W k ≤ 9999) (h1 : 0 ≤ what → what ≤ 1 → ∀ τ, Fr [177, 187, 188] σ τ → Q (nI (ztg W c what)) τ) (h0 : ¬ (0 ≤ what ∧ what ≤ 1) → Q (-1) σ) : zI1 (d + 4) 143 [.ref 0, .int what] σ Q := by
  have hh : ∀ (Q2 : Int32 → zS → Prop), (∀ τ, Fr [177, 187, 188] σ τ → τ 177 12 = nI ((zkL W c (zfc c)).count (zMn 21 (zkL W c (zfc c)))) → Q2 (nI (zMn 21 (zkL W c (zfc c)))) τ) → zI1 (d + 3) 76 [.ref 177, .ref 32] σ Q2 := by
    intro Q2 hq
    show zk _ _ 0 [.ref 177, .ref 32, zun, zun, zun, zun] [] _ _
    refine r_push zi_76_0 rfl ?_
    refine r_is2 zi_76_1 rfl ?_
    refine r_push zi_76_2 rfl ?_
    refine r_is3 zi_76_3 rfl ?_
    refine l_kfac hc hc5 (fun u3 => ?_) (max 1 c - 1) 1 (by omega) (by omega)
    show zk _ _ 22 _ _ _ _
    refine r_al0 zi_76_22 rfl ?_
    refine q_getR zi_76_23 rfl cf_177_10 ?_
    refine r_alen zi_76_26 rfl ca_187 ?_
    refine r_push zi_76_27 rfl ?_
    refine r_b0 zi_76_28 rfl ?_
    rw [show (nI 20 + 1 : Int32) = nI (20 + 1) from nI_add _ _]
    refine r_is3 zi_76_29 rfl ?_
    refine r_al0 zi_76_30 rfl ?_
    refine r_push zi_76_31 rfl ?_
    refine q_put zi_76_32 rfl cf_177_12 rfl ?_
    refine r_push zi_76_35 rfl ?_
    refine r_is4 zi_76_36 rfl ?_
    exact l_ktog (σ := σ) hc hc5 hW hq (zfc c) 0 _ _ (by omega) (Fr.rf.put (by decide)) zup_eq
  show zk _ _ 0 [.ref 0, .int what, zun] [] _ _
  refine r_il1 zi_143_0 rfl ?_
  refine r_push zi_143_1 rfl ?_
  refine r_push zi_143_2 rfl ?_
  refine r_cIS zi_143_3 rfl rfl rfl rfl rfl rfl (s_within (fun i1 a1 => ?_) (fun i1 => ?_))
  · show zk _ _ 6 _ _ _ _
    refine r_if1 zi_143_6 rfl (fun _ => ?_) (fun c => absurd c (by decide))
    refine r_al0 zi_143_11 rfl ?_
    refine q_getR zi_143_12 rfl cf_0_8 ?_
    refine r_al0 zi_143_15 rfl ?_
    refine q_getR zi_143_16 rfl cf_0_0 ?_
    refine q_getR zi_143_19 rfl cf_1_8 ?_
    refine q_cIV zi_143_22 rfl rfl rfl rfl rfl rfl rfl cf_177_0.ob (hh _ (fun τ hF hn => ?_))
    show zk _ _ 25 _ _ _ _
    refine r_is2 zi_143_25 rfl ?_
    refine r_il1 zi_143_26 rfl ?_
    refine r_if1 zi_143_27 rfl (fun c3 => ?_) (fun c3 => ?_)
    · refine r_al0 zi_143_34 rfl ?_
      refine q_getR zi_143_35 rfl cf_0_8 ?_
      refine q_getI zi_143_38 rfl cf_177_12 ?_
      rw [hn]
      refine r_retI zi_143_41 rfl ?_
      first
      | exact ⟨_, rfl, h0 (by assumption)⟩
      | (have hq := h1 (by assumption) (by assumption) τ hF
         unfold ztg at hq
         first
         | (rw [if_pos (by assumption)] at hq; exact ⟨_, rfl, hq⟩)
         | (rw [if_neg (by assumption)] at hq; exact ⟨_, rfl, hq⟩))
    · refine r_il2 zi_143_30 rfl ?_
      refine r_goto zi_143_31 rfl ?_
      refine r_retI zi_143_41 rfl ?_
      first
      | exact ⟨_, rfl, h0 (by assumption)⟩
      | (have hq := h1 (by assumption) (by assumption) τ hF
         unfold ztg at hq
         first
         | (rw [if_pos (by assumption)] at hq; exact ⟨_, rfl, hq⟩)
         | (rw [if_neg (by assumption)] at hq; exact ⟨_, rfl, hq⟩))
  · show zk _ _ 6 _ _ _ _
    refine r_if1 zi_143_6 rfl (fun c => absurd (by decide) c) (fun _ => ?_)
    refine r_push zi_143_9 rfl ?_
    refine r_retI zi_143_10 rfl ?_
    first
    | exact ⟨_, rfl, h0 (by assumption)⟩
    | (have hq := h1 (by assumption) (by assumption) τ hF
       unfold ztg at hq
       first
       | (rw [if_pos (by assumption)] at hq; exact ⟨_, rfl, hq⟩)
       | (rw [if_neg (by assumption)] at hq; exact ⟨_, rfl, hq⟩))

