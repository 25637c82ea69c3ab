/-! CLASS: a text is learnt -/
theorem un_o1 {x : Int32} {a : Nat} (hx : un x < 4096) (ha : a < 12) : un (x ||| 1 <<< (nI a &&& 31)) < 4096 := by
  rw [un_or, un_one a (by omega)]
  exact Nat.or_lt_two_pow (n := 12) hx (Nat.pow_lt_pow_right (by decide) ha)
theorem pB1_un {row : pRw} {B : Nat → Int32} (hv : pRv row) (h : ∀ p, p < 12 → un (B p) < 4096) : ∀ p, p < 12 → un (pB1 row B p) < 4096 := fun p hp => by
  obtain ⟨a, b, ha, hb, hab, rfl⟩ := hv
  unfold pB1
  simp only [un_nI (show a < 4294967296 by omega), un_nI (show b < 4294967296 by omega)]
  rw [if_neg (show ¬ b = a from fun z => hab z.symm)]
  split
  · exact un_o1 (h b hb) ha
  · split
    · exact un_o1 (h a ha) hb
    · exact h p hp
theorem pB1_bt {row : pRw} {B : Nat → Int32} {a b : Nat} (ha : a < 12) (hb : b < 12) (hab : a ≠ b) (hr : row = (nI a, nI b, 0, 0)) {p q : Nat} (hp : p < 12) (hq : q < 12) : zbt (pB1 row B p) q = (zbt (B p) q || decide ((p = b ∧ q = a) ∨ (p = a ∧ q = b))) := by
  subst hr
  unfold pB1
  simp only [un_nI (show a < 4294967296 by omega), un_nI (show b < 4294967296 by omega)]
  rw [if_neg (show ¬ b = a from fun z => hab z.symm)]
  by_cases e1 : p = b
  · rw [if_pos e1, zbt_or (by omega), zbt_one (by omega) (by omega), e1]
    by_cases e2 : q = a
    · rw [decide_eq_true e2.symm, decide_eq_true (Or.inl ⟨rfl, e2⟩)]
    · rw [decide_eq_false (fun z => e2 z.symm), decide_eq_false (fun z => by omega)]
  · rw [if_neg e1]
    by_cases e3 : p = a
    · rw [if_pos e3, zbt_or (by omega), zbt_one (by omega) (by omega), e3]
      by_cases e2 : q = b
      · rw [decide_eq_true e2.symm, decide_eq_true (Or.inr ⟨rfl, e2⟩)]
      · rw [decide_eq_false (fun z => e2 z.symm), decide_eq_false (fun z => by omega)]
    · rw [if_neg e3, decide_eq_false (fun z => by omega), Bool.or_false]
theorem zBok_s {row : pRw} {B : Nat → Int32} (hv : pRv row) (h : zBok B) : zBok (pB1 row B) := by
  refine ⟨pB1_un hv h.1, fun p q hp hq => ?_⟩
  obtain ⟨a, b, ha, hb, hab, e⟩ := hv
  rw [pB1_bt ha hb hab e hp hq, pB1_bt ha hb hab e hq hp, h.2 p q hp hq]
  congr 1
  rw [decide_eq_decide]
  omega
theorem zBok_0 : zBok (fun _ => 0) := ⟨fun p hp => (show un 0 < 4096 from by decide), fun a b ha hb => by rw [zbt_0 (by omega), zbt_0 (by omega)]⟩
theorem zBok_f : ∀ (rows : List pRw) (B : Nat → Int32), zBok B → (∀ x, x ∈ rows → pRv x) → zBok (rows.foldl (fun B row => pB1 row B) B)
  | [], B, h, _ => h
  | row :: rows, B, h, hv => zBok_f rows (pB1 row B) (zBok_s (hv row (List.mem_cons_self ..)) h) (fun x hx => hv x (List.mem_cons_of_mem _ hx))
theorem zBok_b {rows : List pRw} (hv : ∀ x, x ∈ rows → pRv x) : zBok (pBs rows) := zBok_f rows _ zBok_0 hv
theorem zBok_x {B C : Nat → Int32} (h : zBok B) (e : ∀ p, p < 12 → C p = B p) : zBok C := ⟨fun p hp => by rw [e p hp]; exact h.1 p hp, fun a b ha hb => by rw [e a ha, e b hb]; exact h.2 a b ha hb⟩
/-- what a text becomes -/
def tBe (T U N M : Nat) (τ υ : zS) : Prop := (∀ a b, a ≠ T + 1 → a ≠ T + 2 → ¬ (a = T ∧ (b = 2 ∨ b = 3)) → υ a b = τ a b) ∧ (∀ b, b < 64 → υ (T + 1) b = τ (U + 1) b) ∧ (∀ b, b < min N M → υ (T + 2) b = τ (U + 2) b) ∧ υ T 2 = τ U 2 ∧ υ T 3 = τ U 3
theorem s_tbec {d T U N M : Nat} {τ : zS} {Q : zS → Prop} (hT : zTx T N) (hU : zTx U M) (hN : N ≤ 400) (hM : M ≤ 400) (hd : T + 2 < U ∨ U + 2 < T) (hq : ∀ υ, tBe T U N M τ υ → Q υ) : zV1 d 94 [.ref T, .ref U] τ Q := by
  have hmin : (if nI N < nI M then nI N else nI M) = nI (min N M) := by
    by_cases z : N < M
    · rw [if_pos (nI_lt z (by omega)), Nat.min_eq_left (by omega)]
    · rw [if_neg (nI_nlt (by omega) (by omega)), Nat.min_eq_right (by omega)]
  have e1 : ∀ b, fil τ (T + 1) 64 (τ (U + 1)) (U + 2) b = τ (U + 2) b := fun b => if_neg (fun z => by omega)
  have e2 : ∀ b, fil (fil τ (T + 1) 64 (τ (U + 1))) (T + 2) (min N M) (fil τ (T + 1) 64 (τ (U + 1)) (U + 2)) U b = τ U b := fun b => (if_neg (fun z => by omega)).trans (if_neg (fun z => by omega))
  have hfin : ∀ (x y : Int32), x = τ U 2 → y = τ U 3 → Q (up (up (fil (fil τ (T + 1) 64 (τ (U + 1))) (T + 2) (min N M) (fil τ (T + 1) 64 (τ (U + 1)) (U + 2))) T 2 x) T 3 y) := fun x y hx hy => hq _ ⟨fun a b h1 h2 h3 => by
    rw [zup_n2 (fun z => h3 ⟨z.1, Or.inr z.2⟩), zup_n2 (fun z => h3 ⟨z.1, Or.inl z.2⟩)]
    exact (if_neg (fun z => h2 z.1)).trans (if_neg (fun z => h1 z.1)), fun b hb => by
    rw [zup_ne (by omega), zup_ne (by omega)]
    exact (if_neg (fun z => by omega)).trans (if_pos ⟨rfl, hb⟩), fun b hb => by
    rw [zup_ne (by omega), zup_ne (by omega)]
    exact (if_pos ⟨rfl, hb⟩).trans (e1 b), by rw [zup_nj (by decide), zup_eq, hx], by rw [zup_eq, hy]⟩
  show zk _ _ 0 [.ref T, .ref U] [] _ _
  refine r_al1 zi_94_0 rfl ?_
  refine q_getR zi_94_1 rfl hU.1 ?_
  refine r_push zi_94_4 rfl ?_
  refine r_al0 zi_94_5 rfl ?_
  refine q_getR zi_94_6 rfl hT.1 ?_
  refine r_push zi_94_9 rfl ?_
  refine r_al0 zi_94_10 rfl ?_
  refine q_getR zi_94_11 rfl hT.1 ?_
  refine r_alen zi_94_14 rfl hT.2.2.2.2.1 ?_
  refine r_acpy (k := 64) zi_94_15 rfl hU.2.2.2.2.1 hT.2.2.2.2.1 rfl (by decide) (by decide) ?_
  refine r_al1 zi_94_18 rfl ?_
  refine q_getR zi_94_19 rfl hU.2.1 ?_
  refine r_push zi_94_22 rfl ?_
  refine r_al0 zi_94_23 rfl ?_
  refine q_getR zi_94_24 rfl hT.2.1 ?_
  refine r_push zi_94_27 rfl ?_
  refine r_al0 zi_94_28 rfl ?_
  refine q_getR zi_94_29 rfl hT.2.1 ?_
  refine r_alen zi_94_32 rfl hT.2.2.2.2.2 ?_
  refine r_al1 zi_94_33 rfl ?_
  refine q_getR zi_94_34 rfl hU.2.1 ?_
  refine r_alen zi_94_37 rfl hU.2.2.2.2.2 ?_
  refine r_min zi_94_38 rfl ?_
  rw [hmin]
  refine r_acpy (k := min N M) zi_94_41 rfl hU.2.2.2.2.2 hT.2.2.2.2.2 rfl (Nat.min_le_right _ _) (Nat.min_le_left _ _) ?_
  refine r_al0 zi_94_44 rfl ?_
  refine r_al1 zi_94_45 rfl ?_
  refine q_getI zi_94_46 rfl hU.2.2.1 ?_
  refine q_put zi_94_49 rfl hT.2.2.1 rfl ?_
  refine r_al0 zi_94_52 rfl ?_
  refine r_al1 zi_94_53 rfl ?_
  refine q_getI zi_94_54 rfl hU.2.2.2.1 ?_
  refine q_put zi_94_57 rfl hT.2.2.2.1 rfl ?_
  refine r_ret zi_94_60 rfl ?_
  exact ⟨rfl, hfin _ _ (e2 2) ((zup_n2 (by omega)).trans (e2 3))⟩
/-- the roads are measured -/
theorem l_meas {d k T N : Nat} {σ : zS} {Q : zS → Prop} {rows : List pRw} (hk : zWa k) (hT : zTx T N) (hkT : T + 2 < k ∨ k + 2 < T) (hl : σ T 2 = nI rows.length) (h16 : rows.length ≤ 16) (hR : kRw σ (T + 1) rows) (hv : ∀ x, x ∈ rows → pRv x) (hq : ∀ τ, Fr [k + 1, k + 2] σ τ → (∀ p, p < 12 → τ (k + 1) p = pBs rows p) → (∀ a b, a < 12 → b < 12 → τ (k + 2) (a * 12 + b) = zdV (τ (k + 1)) a b) → Q τ) : ∀ (m l : Nat) (τ : zS) (u3 u4 : Value), l + m = rows.length → Fr [k + 1] σ τ → (∀ p, p < 12 → τ (k + 1) p = pBs (rows.take l) p) → zk (d + 2) 115 10 [.ref k, .ref T, .int (nI l), u3, u4] [] τ (fun r t => r = none ∧ Q t) := by
  intro m
  induction m with
  | zero =>
    intro l τ u3 u4 hl2 hF hB
    have e : l = rows.length := by omega
    subst e
    rw [List.take_length] at hB
    have hl3 : τ T 2 = nI rows.length := (hF T (by simp; omega) 2).trans hl
    have hma : ∀ (Q2 : zS → Prop), (∀ υ, Fr [k + 2] τ υ → (∀ a b, a < 12 → b < 12 → υ (k + 2) (a * 12 + b) = zdV (τ (k + 1)) a b) → Q2 υ) → zV1 (d + 1) 116 [.ref k] τ Q2 := fun Q2 h2 => s_measureAll hk (zBok_x (zBok_b hv) hB) h2
    have hq := fun υ (x : Fr [k + 2] τ υ) (y : ∀ a b, a < 12 → b < 12 → υ (k + 2) (a * 12 + b) = zdV (τ (k + 1)) a b) => hq υ (fun a ha b => (x a (by simp at ha ⊢; omega) b).trans (hF a (by simp at ha ⊢; omega) b)) (fun p hp => (x (k + 1) (by simp) p).trans (hB p hp)) (fun a b ha hb => by rw [y a b ha hb, show υ (k + 1) = τ (k + 1) from funext (fun b => x (k + 1) (by simp) b)])
    generalize rows.length = rl at *
    refine r_il2 zi_115_10 rfl ?_
    refine r_al1 zi_115_11 rfl ?_
    refine q_getIe zi_115_12 rfl hT.2.2.1 (v := nI rl) (by first | exact hl3 | ((repeat (first | rw [zup_ne (by first | decide | omega)] | rw [zup_nj (by first | decide | omega)] | rw [fil_ne (by first | decide | omega)])) <;> exact hl3) | (simp [up_rd, fil_rd]; exact hl3)) ?_
    refine n_ic3 (i := rl) (j := rl) zi_115_15 rfl (by omega) (by omega) (fun _ => ?_) (fun c => absurd c (by omega))
    refine r_al0 zi_115_80 rfl ?_
    refine q_cVV zi_115_81 rfl rfl rfl rfl rfl rfl rfl hk.1.ob (hma _ (fun υ x y => ?_))
    show zk _ _ 84 _ _ _ _
    refine r_ret zi_115_84 rfl ?_
    exact ⟨rfl, hq υ x y⟩
  | succ m ih =>
    intro l τ u3 u4 hl2 hF hB
    have hlt : l < rows.length := by omega
    obtain ⟨a, b, ha, hb, hab, he⟩ := hv _ (List.getElem_mem hlt)
    have hg : rows.getD l (0, 0, 0, 0) = (nI a, nI b, 0, 0) := by rw [List.getD_eq_getElem?_getD, List.getElem?_eq_getElem hlt]; exact he
    obtain ⟨r1, r2, _, _⟩ := hR l hlt
    rw [hg] at r1 r2
    have ht : rows.take (l + 1) = rows.take l ++ [rows[l]] := by rw [List.take_succ_eq_append_getElem hlt]
    have hl3 : τ T 2 = nI rows.length := (hF T (by simp; omega) 2).trans hl
    have hc0 : ∀ (Q2 : Int32 → zS → Prop), Q2 (nI a) τ → zI1 (d + 1) 97 [.ref T, .int (nI l), .int (nI 0)] τ Q2 := fun Q2 h2 => s_cell hT (by omega) (by decide) (by rw [hF (T + 1) (by simp; omega)]; rw [show l * 4 + 0 = l * 4 from rfl, r1]; exact h2)
    have hc1 : ∀ (Q2 : Int32 → zS → Prop), Q2 (nI b) τ → zI1 (d + 1) 97 [.ref T, .int (nI l), .int (nI 1)] τ Q2 := fun Q2 h2 => s_cell hT (by omega) (by decide) (by rw [hF (T + 1) (by simp; omega), r2]; exact h2)
    have hpl : ∀ c, c < 12 → ∀ (Q2 : Int32 → zS → Prop), Q2 1 τ → zI1 (d + 1) 159 [.int (nI c)] τ Q2 := fun c hc Q2 h2 => s_kplace (fun _ _ => h2) (fun z => absurd ⟨nI_pos' (by omega), nI_lt (b := 12) hc (by decide)⟩ z)
    replace ih := fun u3 u4 => ih (l + 1) (up (up τ (k + 1) a (τ (k + 1) a ||| 1 <<< (nI b &&& 31))) (k + 1) b (up τ (k + 1) a (τ (k + 1) a ||| 1 <<< (nI b &&& 31)) (k + 1) b ||| 1 <<< (nI a &&& 31))) u3 u4 (by omega) ((hF.put (by simp)).put (by simp)) (fun p hp => by
      rw [ht, pBs_s, he]
      unfold pB1
      simp only [un_nI (show a < 4294967296 by omega), un_nI (show b < 4294967296 by omega)]
      rw [if_neg (show ¬ b = a from fun z => hab z.symm)]
      by_cases e1 : p = b
      · rw [if_pos e1, e1, zup_eq, zup_nj (fun z => hab z.symm), hB b hb]
      · rw [if_neg e1, zup_nj e1]
        by_cases e2 : p = a
        · rw [if_pos e2, e2, zup_eq, hB a ha]
        · rw [if_neg e2, zup_nj e2, hB p hp])
    have hr16 : rows.length ≤ 16 := h16
    clear hl2 hg r1 r2 ht he hB
    generalize rows.length = rl at *
    refine r_il2 zi_115_10 rfl ?_
    refine r_al1 zi_115_11 rfl ?_
    refine q_getIe zi_115_12 rfl hT.2.2.1 (v := nI rl) (by first | exact hl3 | ((repeat (first | rw [zup_ne (by first | decide | omega)] | rw [zup_nj (by first | decide | omega)] | rw [fil_ne (by first | decide | omega)])) <;> exact hl3) | (simp [up_rd, fil_rd]; exact hl3)) ?_
    refine n_ic3 (i := l) (j := rl) zi_115_15 rfl (by omega) (by omega) (fun c => absurd c (by omega)) (fun _ => ?_)
    refine r_al1 zi_115_18 rfl ?_
    refine r_il2 zi_115_19 rfl ?_
    refine r_push zi_115_20 rfl ?_
    refine q_cIV zi_115_21 rfl rfl rfl rfl rfl rfl rfl hT.1.ob (hc0 _ ?_)
    show zk _ _ 24 _ _ _ _
    refine r_is3 zi_115_24 rfl ?_
    refine r_al1 zi_115_25 rfl ?_
    refine r_il2 zi_115_26 rfl ?_
    refine r_push zi_115_27 rfl ?_
    refine q_cIV zi_115_28 rfl rfl rfl rfl rfl rfl rfl hT.1.ob (hc1 _ ?_)
    show zk _ _ 31 _ _ _ _
    refine r_is4 zi_115_31 rfl ?_
    refine r_il3 zi_115_33 rfl ?_
    refine r_cIS zi_115_34 rfl rfl rfl rfl rfl rfl (hpl a ha _ ?_)
    show zk _ _ 37 _ _ _ _
    refine r_if0 zi_115_37 rfl (fun c => absurd c (by decide)) (fun _ => ?_)
    refine r_il4 zi_115_40 rfl ?_
    refine r_cIS zi_115_42 rfl rfl rfl rfl rfl rfl (hpl b hb _ ?_)
    show zk _ _ 45 _ _ _ _
    refine r_if0 zi_115_45 rfl (fun c => absurd c (by decide)) (fun _ => ?_)
    refine r_al0 zi_115_48 rfl ?_
    refine q_getR zi_115_49 rfl hk.1 ?_
    refine r_il3 zi_115_52 rfl ?_
    refine r_dup2 zi_115_53 rfl ?_
    refine r_ald zi_115_54 rfl a hk.2.2.1 (by first | rfl | (simp only [zI_add, zI_mul] <;> rfl)) (by first | omega | decide) ?_
    refine r_push zi_115_55 rfl ?_
    refine r_il4 zi_115_56 rfl ?_
    refine r_b6 zi_115_58 rfl ?_
    refine r_b4 zi_115_59 rfl ?_
    refine r_ast zi_115_60 rfl a hk.2.2.1 (by first | rfl | (simp only [zI_add, zI_mul] <;> rfl)) (by first | omega | decide) ?_
    refine r_al0 zi_115_61 rfl ?_
    refine q_getR zi_115_62 rfl hk.1 ?_
    refine r_il4 zi_115_65 rfl ?_
    refine r_dup2 zi_115_67 rfl ?_
    refine r_ald zi_115_68 rfl b hk.2.2.1 (by first | rfl | (simp only [zI_add, zI_mul] <;> rfl)) (by first | omega | decide) ?_
    refine r_push zi_115_69 rfl ?_
    refine r_il3 zi_115_70 rfl ?_
    refine r_b6 zi_115_71 rfl ?_
    refine r_b4 zi_115_72 rfl ?_
    refine r_ast zi_115_73 rfl b hk.2.2.1 (by first | rfl | (simp only [zI_add, zI_mul] <;> rfl)) (by first | omega | decide) ?_
    refine r_in2 zi_115_74 rfl ?_
    rw [show (nI l + 1 : Int32) = nI (l + 1) from nI_add _ _]
    refine r_goto zi_115_77 rfl ?_
    exact ih _ _
theorem s_meas {d k T N : Nat} {σ : zS} {Q : zS → Prop} {rows : List pRw} (hk : zWa k) (hT : zTx T N) (hkT : T + 2 < k ∨ k + 2 < T) (hl : σ T 2 = nI rows.length) (h16 : rows.length ≤ 16) (hR : kRw σ (T + 1) rows) (hv : ∀ x, x ∈ rows → pRv x) (hq : ∀ τ, Fr [k + 1, k + 2] σ τ → (∀ p, p < 12 → τ (k + 1) p = pBs rows p) → (∀ a b, a < 12 → b < 12 → τ (k + 2) (a * 12 + b) = zdV (τ (k + 1)) a b) → Q τ) : zV1 (d + 2) 115 [.ref k, .ref T] σ Q := by
  have hne : ∀ a b, a ≠ k + 1 → fil σ (k + 1) 12 (fun _ => 0) a b = σ a b := fun a b h => if_neg (fun z => h z.1)
  have lp := fun u3 u4 => l_meas (d := d) (σ := fil σ (k + 1) 12 (fun _ => 0)) (Q := Q) hk hT hkT ((hne T 2 (by omega)).trans hl) h16 (fun l h => by rw [hne _ _ (by omega), hne _ _ (by omega), hne _ _ (by omega), hne _ _ (by omega)]; exact hR l h) hv (fun τ x y z => hq τ (fun a ha b => (x a ha b).trans (hne a b (by simp at ha; omega))) y z) rows.length 0 _ u3 u4 (by omega) Fr.rf (fun p hp => if_pos ⟨rfl, hp⟩)
  show zk _ _ 0 [.ref k, .ref T, zun, zun, zun] [] _ _
  refine r_al0 zi_115_0 rfl ?_
  refine q_getR zi_115_1 rfl hk.1 ?_
  refine r_push zi_115_4 rfl ?_
  refine r_cVS zi_115_5 rfl rfl rfl rfl rfl rfl (s_afill hk.2.2.1 (by decide) ?_)
  show zk _ _ 8 _ _ _ _
  refine r_push zi_115_8 rfl ?_
  refine r_is2 zi_115_9 rfl ?_
  exact lp _ _

