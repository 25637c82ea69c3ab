/-! CLASS: text -/
def ptR (n k : Nat) (t : Nat → Nat) (b : Nat) : pTx := ptx (pklo k) (pkhi k) (pkL n k (tkk t b)) (tkk t b) 18 0 [] []
/-- the cells of a text that is learnt -/
def kTt (k a b : Nat) : Prop := (k = 0 ∧ (a = 16 ∨ a = 17 ∨ (a = 15 ∧ (b = 2 ∨ b = 3)))) ∨ (k = 1 ∧ (a = 19 ∨ a = 20 ∨ (a = 18 ∧ (b = 2 ∨ b = 3)))) ∨ (k = 2 ∧ (a = 22 ∨ a = 23 ∨ (a = 21 ∧ (b = 2 ∨ b = 3)))) ∨ (k = 3 ∧ (a = 25 ∨ a = 26 ∨ (a = 24 ∧ (b = 2 ∨ b = 3)) ∨ a = 28 ∨ a = 29))
def kTc (k a b : Nat) : Prop := pZ a b ∨ (a = 0 ∧ b = 10) ∨ (k ≠ 0 ∧ a = 95 ∧ b = 2) ∨ kTt k a b
def kLt (k : Nat) (ω : zS) (cs : List Nat) (rows : List pRw) : Prop := ω (15 + 3 * k) 2 = nI rows.length ∧ kRw ω (15 + 3 * k + 1) rows ∧ (k = 0 → ∀ i, i < cs.length → ω 17 i = nI (cs.getD i 0)) ∧ (k = 3 → (∀ p, p < 12 → ω 28 p = pBs rows p) ∧ zhd ω 27)
theorem kRw_f {τ υ : zS} {k c : Nat} {rows : List pRw} (h : kRw τ k rows) (h16 : rows.length ≤ 16) (e : ∀ b, b < 64 → υ c b = τ k b) : kRw υ c rows := fun l hl => by
  obtain ⟨a1, a2, a3, a4⟩ := h l hl
  exact ⟨(e _ (by omega)).trans a1, (e _ (by omega)).trans a2, (e _ (by omega)).trans a3, (e _ (by omega)).trans a4⟩
theorem pRv_x {n k b : Nat} {t : Nat → Nat} {cs : List Nat} {rows : List pRw} (hk : k = 3) (h : ptR n k t b = some (.inr (cs, rows))) : ∀ x, x ∈ rows → pRv x := by
  subst hk
  have key : ∀ (f j : Nat) (cs : List Nat) (rows : List pRw) (ds : List Nat) (ro : List pRw), (∀ x, x ∈ rows → pRv x) → ptx 10026 10026 (pro (tkk t b)) (tkk t b) f j cs rows = some (.inr (ds, ro)) → ∀ x, x ∈ ro → pRv x := by
    intro f
    induction f with
    | zero => intro j cs rows ds ro hg h; cases h
    | succ f ih =>
      intro j cs rows ds ro hg h
      have h2 : (if tkk t b j = 30001 then some (.inr (cs, rows)) else if ¬ (10026 ≤ tkk t b j ∧ tkk t b j ≤ 10026) then some (.inl (1, j)) else if rows.length = 16 then some (.inl (3, j)) else match pro (tkk t b) j cs with | none => none | some (.inl x) => some (.inl x) | some (.inr (i, ds, row)) => ptx 10026 10026 (pro (tkk t b)) (tkk t b) f i ds (rows ++ [row])) = some (.inr (ds, ro)) := h
      split at h2
      · have e := Option.some.inj h2
        injection e with e
        injection e with e1 e2
        subst e1; subst e2
        exact hg
      · split at h2
        · cases h2
        · split at h2
          · cases h2
          · split at h2
            · cases h2
            · cases h2
            · rename_i i es row hp
              refine ih i es (rows ++ [row]) ds ro (fun x hx => ?_) h2
              rcases List.mem_append.mp hx with h | h
              · exact hg x h
              · rw [List.mem_singleton.mp h]
                unfold pro at hp
                have p1 : (if 10000 ≤ tkk t b (j + 1) then none else if 12 ≤ tkk t b (j + 1) then none else some ()) = some () := by
                  unfold pnum at hp
                  split at hp
                  · cases hp
                  · rename_i q1
                    split at hp
                    · cases hp
                    · rename_i q2
                      rw [if_neg q1, if_neg q2]
                have h3 := pkw_cs (pnum_cs hp)
                split at h3
                · cases h3
                · rename_i hne
                  have p2 : tkk t b (j + 3) < 12 := by
                    unfold pnum at h3
                    split at h3
                    · cases h3
                    · split at h3
                      · cases h3
                      · omega
                  have h4 := Option.some.inj (pkw_cs (pnum_cs h3))
                  injection h4 with h4
                  injection h4 with h5 h6
                  injection h6 with h6 h7
                  have p3 : tkk t b (j + 1) < 12 := by
                    split at p1
                    · cases p1
                    · split at p1
                      · cases p1
                      · omega
                  exact ⟨tkk t b (j + 1), tkk t b (j + 3), p3, p2, fun z => hne z.symm, h7.symm⟩
  exact key 18 0 [] [] cs rows (fun x hx => absurd hx (by simp)) h
theorem s_klearns {d k n b : Nat} {t : Nat → Nat} {σ : zS} {Q : zS → Prop} {cs : List Nat} {rows : List pRw} (hk : k ≤ 3) (hp : ptR n k t b = some (.inr (cs, rows))) (hc : kDc σ cs) (hcl : cs.length ≤ 400) (hl : σ 173 2 = nI rows.length) (h16 : rows.length ≤ 16) (hR : kRw σ 174 rows) (hq : ∀ ω, (∀ a c, ¬ kTt k a c → ω a c = σ a c) → kLt k ω cs rows → Q ω) : zV1 (d + 3) 54 [.ref 1, .int (nI k), .ref 173] σ Q := by
  have hkc : k = 0 ∨ k = 1 ∨ k = 2 ∨ k = 3 := by omega
  have tb : ∀ (T N : Nat) (Q2 : zS → Prop), zTx T N → N ≤ 400 → T + 2 < 173 → (∀ ω, tBe T 173 N 400 σ ω → Q2 ω) → zV1 (d + 2) 94 [.ref T, .ref 173] σ Q2 := fun T N Q2 hT hN h1 h2 => s_tbec hT zTx173 hN (by decide) (Or.inl h1) h2
  rcases hkc with e | e | e | e
  · subst e
    have tb := fun (Q2 : zS → Prop) h2 => tb 15 400 Q2 zTx15 (by decide) (by decide) h2
    have hq := fun ω (x : tBe 15 173 400 400 σ ω) => hq ω (fun a c h => x.1 a c (fun z => h (by unfold kTt; omega)) (fun z => h (by unfold kTt; omega)) (fun z => h (by unfold kTt; omega))) ⟨x.2.2.2.1.trans hl, kRw_f hR h16 (fun b hb => x.2.1 b hb), fun _ i hi => (x.2.2.1 i (by show i < 400; omega)).trans (hc.2 i hi), fun z => absurd z (by decide)⟩
    show zk _ _ 0 [.ref 1, .int 0, .ref 173] [] _ _
    refine r_il1 zi_54_0 rfl ?_
    refine r_sw zi_54_1 rfl ?_
    rw [show zsw [(0, 28), (1, 39), (2, 50)] 61 0 = 28 from by decide]
    refine r_al0 zi_54_28 rfl ?_
    refine q_getR zi_54_29 rfl cf_1_2 ?_
    refine r_al2 zi_54_32 rfl ?_
    refine q_cVV zi_54_33 rfl rfl rfl rfl rfl rfl rfl cf_15_0.ob (tb _ (fun ω x => ?_))
    show zk _ _ 36 _ _ _ _
    refine r_goto zi_54_36 rfl ?_
    refine r_ret zi_54_80 rfl ?_
    exact ⟨rfl, hq ω x⟩
  · subst e
    have tb := fun (Q2 : zS → Prop) h2 => tb 18 0 Q2 ⟨cf_18_0, cf_18_1, cf_18_2, cf_18_3, ca_19, ca_20⟩ (by decide) (by decide) h2
    have hq := fun ω (x : tBe 18 173 0 400 σ ω) => hq ω (fun a c h => x.1 a c (fun z => h (by unfold kTt; omega)) (fun z => h (by unfold kTt; omega)) (fun z => h (by unfold kTt; omega))) ⟨x.2.2.2.1.trans hl, kRw_f hR h16 (fun b hb => x.2.1 b hb), fun z => absurd z (by decide), fun z => absurd z (by decide)⟩
    show zk _ _ 0 [.ref 1, .int 1, .ref 173] [] _ _
    refine r_il1 zi_54_0 rfl ?_
    refine r_sw zi_54_1 rfl ?_
    rw [show zsw [(0, 28), (1, 39), (2, 50)] 61 1 = 39 from by decide]
    refine r_al0 zi_54_39 rfl ?_
    refine q_getR zi_54_40 rfl cf_1_3 ?_
    refine r_al2 zi_54_43 rfl ?_
    refine q_cVV zi_54_44 rfl rfl rfl rfl rfl rfl rfl cf_18_0.ob (tb _ (fun ω x => ?_))
    show zk _ _ 47 _ _ _ _
    refine r_goto zi_54_47 rfl ?_
    refine r_ret zi_54_80 rfl ?_
    exact ⟨rfl, hq ω x⟩
  · subst e
    have tb := fun (Q2 : zS → Prop) h2 => tb 21 0 Q2 ⟨cf_21_0, cf_21_1, cf_21_2, cf_21_3, ca_22, ca_23⟩ (by decide) (by decide) h2
    have hq := fun ω (x : tBe 21 173 0 400 σ ω) => hq ω (fun a c h => x.1 a c (fun z => h (by unfold kTt; omega)) (fun z => h (by unfold kTt; omega)) (fun z => h (by unfold kTt; omega))) ⟨x.2.2.2.1.trans hl, kRw_f hR h16 (fun b hb => x.2.1 b hb), fun z => absurd z (by decide), fun z => absurd z (by decide)⟩
    show zk _ _ 0 [.ref 1, .int 2, .ref 173] [] _ _
    refine r_il1 zi_54_0 rfl ?_
    refine r_sw zi_54_1 rfl ?_
    rw [show zsw [(0, 28), (1, 39), (2, 50)] 61 2 = 50 from by decide]
    refine r_al0 zi_54_50 rfl ?_
    refine q_getR zi_54_51 rfl cf_1_4 ?_
    refine r_al2 zi_54_54 rfl ?_
    refine q_cVV zi_54_55 rfl rfl rfl rfl rfl rfl rfl cf_21_0.ob (tb _ (fun ω x => ?_))
    show zk _ _ 58 _ _ _ _
    refine r_goto zi_54_58 rfl ?_
    refine r_ret zi_54_80 rfl ?_
    exact ⟨rfl, hq ω x⟩
  · subst e
    have hT : zTx 24 0 := ⟨cf_24_0, cf_24_1, cf_24_2, cf_24_3, ca_25, ca_26⟩
    have tb := fun (Q2 : zS → Prop) h2 => tb 24 0 Q2 hT (by decide) (by decide) h2
    have hms : ∀ ω, tBe 24 173 0 400 σ ω → ∀ (Q2 : zS → Prop), (∀ ξ, Q ξ → Q2 ξ) → zV1 (d + 2) 115 [.ref 27, .ref 24] ω Q2 := fun ω x Q2 h2 => s_meas zWa27 hT (Or.inl (by decide)) (x.2.2.2.1.trans hl) h16 (kRw_f hR h16 (fun b hb => x.2.1 b hb)) (pRv_x rfl hp) (fun ξ y1 y2 y3 => h2 ξ (hq ξ (fun a c h => (y1 a (by simp; exact ⟨fun z => h (by unfold kTt; omega), fun z => h (by unfold kTt; omega)⟩) c).trans (x.1 a c (fun z => h (by unfold kTt; omega)) (fun z => h (by unfold kTt; omega)) (fun z => h (by unfold kTt; omega)))) ⟨(y1 24 (by decide) 2).trans (x.2.2.2.1.trans hl), kRw_f hR h16 (fun b hb => (y1 25 (by decide) b).trans (x.2.1 b hb)), fun z => absurd z (by decide), fun _ => ⟨y2, y3⟩⟩))
    show zk _ _ 0 [.ref 1, .int 3, .ref 173] [] _ _
    refine r_il1 zi_54_0 rfl ?_
    refine r_sw zi_54_1 rfl ?_
    rw [show zsw [(0, 28), (1, 39), (2, 50)] 61 3 = 61 from by decide]
    refine r_al0 zi_54_61 rfl ?_
    refine q_getR zi_54_62 rfl cf_1_5 ?_
    refine r_al2 zi_54_65 rfl ?_
    refine q_cVV zi_54_66 rfl rfl rfl rfl rfl rfl rfl cf_24_0.ob (tb _ (fun ω x => ?_))
    show zk _ _ 69 _ _ _ _
    refine r_al0 zi_54_69 rfl ?_
    refine q_getR zi_54_70 rfl cf_1_6 ?_
    refine r_al0 zi_54_73 rfl ?_
    refine q_getR zi_54_74 rfl cf_1_5 ?_
    refine q_cVV zi_54_77 rfl rfl rfl rfl rfl rfl rfl cf_27_0.ob (hms ω x _ (fun ξ fin => ?_))
    show zk _ _ 80 _ _ _ _
    refine r_ret zi_54_80 rfl ?_
    exact ⟨rfl, fin⟩
theorem s_ktext {d b n : Nat} {t : Nat → Nat} {σ : zS} {Q : Int32 → zS → Prop} {kv : Int32} (hT : ∀ i, i < 400 → σ 194 i = nI (t i) ∧ t i ≤ 255) (hb : b ≤ 400) (hby : σ 0 10 = nI b) (hn : n ≤ 18) (hsub : σ 2 11 = nI n) (h1 : ∀ k cs rows ω, k ≤ 3 → kv = nI k → ptR n k t b = some (.inr (cs, rows)) → cs.length ≤ 400 → rows.length ≤ 16 → (∀ a c, ¬ kTc k a c → ω a c = σ a c) → ω 0 10 = 0 → ω 170 4 = 0 → ω 170 5 = -1 → (k ≠ 0 → ω 95 2 = 0) → kLt k ω cs rows → Q (nI rows.length) ω) (h0 : ∀ ω q s, (∀ a c, ¬ kTc 0 a c ∨ (a = 15 ∨ a = 16 ∨ a = 17) → ω a c = σ a c) → ω 0 10 = 0 → ω 170 4 = q → ω 170 5 = s → (¬ (0 ≤ kv ∧ kv ≤ 3) ∧ q = 0 ∧ s = -1 ∨ ∃ k w i, k ≤ 3 ∧ kv = nI k ∧ ptR n k t b = some (.inl (w, i)) ∧ q = nI w ∧ s = nI (tks t b i)) → Q (-1) ω) : zI1 (d + 7) 129 [.ref 0, .int kv] σ Q := by
  have hPZ : ∀ υ a c, Fg pZ σ υ → ¬ kTc 0 a c ∨ (a = 15 ∨ a = 16 ∨ a = 17) → up υ 0 10 0 a c = σ a c := fun υ a c x h => by
    have e1 : ¬ (a = 0 ∧ c = 10) := fun z => by
      rcases h with h | h
      · exact h (Or.inr (Or.inl z))
      · omega
    rw [zup_n2 e1]
    exact x a c (fun z => by
      rcases h with h | h
      · exact h (Or.inl z)
      · unfold pZ at z; omega)
  have hrd : ∀ (Q2 : Int32 → zS → Prop), (∀ k cs rows υ, k ≤ 3 → kv = nI k → ptR n k t b = some (.inr (cs, rows)) → Fg pZ σ υ → υ 170 4 = 0 → υ 170 5 = -1 → kDc υ cs → υ 173 2 = nI rows.length → kRw υ 174 rows → cs.length ≤ 400 → rows.length ≤ 16 → Q2 1 υ) → (∀ υ, Q (-1) (up υ 0 10 0) → Q2 0 υ) → zI1 (d + 6) 34 [.ref 169, .int kv, .ref 194, .int (nI b), .int (nI n)] σ Q2 := fun Q2 k1 k0 => s_kreads hT hb hn (fun k hk => ptx_all hk hb) k1 (fun k q i υ e1 e2 e3 x y z => k0 υ (h0 _ (nI q) (nI (tks t b i)) (fun a c h => hPZ υ a c x h) zup_eq ((zup_ne (by decide)).trans y) ((zup_ne (by decide)).trans z) (Or.inr ⟨k, q, i, e1, e2, e3, rfl, rfl⟩))) (fun hno υ x y z => k0 υ (h0 _ 0 (-1) (fun a c h => hPZ υ a c x h) zup_eq ((zup_ne (by decide)).trans y) ((zup_ne (by decide)).trans z) (Or.inl ⟨hno, rfl, rfl⟩)))
  have hls : ∀ k cs rows υ, k ≤ 3 → ptR n k t b = some (.inr (cs, rows)) → Fg pZ σ υ → υ 170 4 = 0 → υ 170 5 = -1 → kDc υ cs → υ 173 2 = nI rows.length → kRw υ 174 rows → cs.length ≤ 400 → rows.length ≤ 16 → ∀ (Q2 : zS → Prop), (∀ ω, ω 173 2 = nI rows.length → (∀ a c, ¬ kTc k a c → ω a c = σ a c) → (∀ a c, ¬ (k ≠ 0 ∧ a = 95 ∧ c = 2) → ¬ kTt k a c → ¬ (a = 0 ∧ c = 10) → ω a c = υ a c) → ω 0 10 = 0 → kLt k ω cs rows → Q2 ω) → zV1 (d + 6) 54 [.ref 1, .int (nI k), .ref 173] (up υ 0 10 0) Q2 := fun k cs rows υ e1 e2 x y z w v u c1 c2 Q2 h2 => s_klearns (d := d + 3) e1 e2 (kDc_f w (zup_ne (by decide)) (fun b => zup_ne (by decide))) c1 ((zup_ne (by decide)).trans v) c2 (fun l hl => by rw [zup_ne (by decide), zup_ne (by decide), zup_ne (by decide), zup_ne (by decide)]; exact u l hl) (fun ω g1 g2 => h2 ω ((g1 173 2 (by unfold kTt; omega)).trans ((zup_ne (by decide)).trans v)) (fun a c h => (g1 a c (fun z => h (Or.inr (Or.inr (Or.inr z))))).trans ((zup_n2 (fun z => h (Or.inr (Or.inl z)))).trans (x a c (fun z => h (Or.inl z))))) (fun a c _ hh1 hh2 => (g1 a c hh1).trans (zup_n2 hh2)) ((g1 0 10 (by unfold kTt; omega)).trans zup_eq) g2)
  show zk _ _ 0 [.ref 0, .int kv, zun] [] _ _
  have kgo : ∀ k cs rows υ, k ≤ 3 → kv = nI k → ptR n k t b = some (.inr (cs, rows)) → Fg pZ σ υ → υ 170 4 = 0 → υ 170 5 = -1 → kDc υ cs → υ 173 2 = nI rows.length → kRw υ 174 rows → cs.length ≤ 400 → rows.length ≤ 16 → zk (d + 7) 129 26 [.ref 0, .int kv, zun] [.int 1] υ (fun r t => ∃ v, r = some v ∧ Q v t) := fun k cs rows υ e1 e2 e3 x y z w v u c1 c2 => by
    have hls := hls k cs rows υ e1 e3 x y z w v u c1 c2
    have h1 := h1 k cs rows
    subst e2
    by_cases k0 : k = 0
    · subst k0
      refine r_is2 zi_129_26 rfl ?_
      refine r_al0 zi_129_27 rfl ?_
      refine r_push zi_129_28 rfl ?_
      refine q_put zi_129_29 rfl cf_0_10 rfl ?_
      refine r_il2 zi_129_32 rfl ?_
      refine r_if1 zi_129_33 rfl (fun _ => ?_) (fun c => absurd c (by decide))
      refine r_al0 zi_129_38 rfl ?_
      refine q_getR zi_129_39 rfl cf_0_0 ?_
      refine r_il1 zi_129_42 rfl ?_
      refine r_al0 zi_129_43 rfl ?_
      refine q_getR zi_129_44 rfl cf_0_7 ?_
      refine q_getR zi_129_47 rfl cf_169_1 ?_
      refine q_cVV zi_129_50 rfl rfl rfl rfl rfl rfl rfl cf_1_0.ob (hls _ (fun ω l1 l2 l3 l4 l5 => ?_))
      show zk _ _ 53 _ _ _ _
      refine r_il1 zi_129_53 rfl ?_
      refine n_if0 (i := 0) zi_129_54 rfl (by omega) (fun _ => ?_) (fun c => absurd c (by omega))
      refine r_al0 zi_129_64 rfl ?_
      refine q_getR zi_129_65 rfl cf_0_7 ?_
      refine q_getR zi_129_68 rfl cf_169_1 ?_
      refine q_getIe zi_129_71 rfl cf_173_2 (v := nI rows.length) (by first | exact l1 | ((repeat (first | rw [zup_ne (by first | decide | omega)] | rw [zup_nj (by first | decide | omega)] | rw [fil_ne (by first | decide | omega)])) <;> exact l1) | (simp [up_rd, fil_rd]; exact l1)) ?_
      refine r_retI zi_129_74 rfl ?_
      exact ⟨_, rfl, h1 ω (by decide) rfl e3 c1 c2 l2 l4 ((l3 170 4 (by omega) (by unfold kTt; omega) (by omega)).trans y) ((l3 170 5 (by omega) (by unfold kTt; omega) (by omega)).trans z) (fun g => absurd rfl g) l5⟩
    · have hne : ∀ ω a c, ¬ (a = 95 ∧ c = 2) → up ω 95 2 0 a c = ω a c := fun ω a c h => zup_n2 h
      have hfin : ∀ ω, ω 173 2 = nI rows.length → (∀ a c, ¬ kTc k a c → ω a c = σ a c) → (∀ a c, ¬ (k ≠ 0 ∧ a = 95 ∧ c = 2) → ¬ kTt k a c → ¬ (a = 0 ∧ c = 10) → ω a c = υ a c) → ω 0 10 = 0 → kLt k ω cs rows → Q (nI rows.length) (up ω 95 2 0) := fun ω l1 l2 l3 l4 l5 => h1 _ e1 rfl e3 c1 c2 (fun a c h => (hne ω a c (fun g => h (Or.inr (Or.inr (Or.inl ⟨k0, g⟩))))).trans (l2 a c h)) ((hne ω 0 10 (by omega)).trans l4) ((hne ω 170 4 (by omega)).trans ((l3 170 4 (by omega) (by unfold kTt; omega) (by omega)).trans y)) ((hne ω 170 5 (by omega)).trans ((l3 170 5 (by omega) (by unfold kTt; omega) (by omega)).trans z)) (fun _ => zup_eq) ⟨(hne ω _ 2 (by omega)).trans l5.1, kRw_f l5.2.1 c2 (fun b _ => hne ω _ b (by omega)), fun g => absurd g k0, fun g => ⟨fun p hp => (hne ω 28 p (by omega)).trans ((l5.2.2.2 g).1 p hp), fun a b ha hb => by
        show up ω 95 2 0 29 _ = zdV (up ω 95 2 0 28) a b
        rw [hne ω 29 _ (by omega), show up ω 95 2 0 28 = ω 28 from funext (fun b => hne ω 28 b (by omega))]
        exact (l5.2.2.2 g).2 a b ha hb⟩⟩
      refine r_is2 zi_129_26 rfl ?_
      refine r_al0 zi_129_27 rfl ?_
      refine r_push zi_129_28 rfl ?_
      refine q_put zi_129_29 rfl cf_0_10 rfl ?_
      refine r_il2 zi_129_32 rfl ?_
      refine r_if1 zi_129_33 rfl (fun _ => ?_) (fun c => absurd c (by decide))
      refine r_al0 zi_129_38 rfl ?_
      refine q_getR zi_129_39 rfl cf_0_0 ?_
      refine r_il1 zi_129_42 rfl ?_
      refine r_al0 zi_129_43 rfl ?_
      refine q_getR zi_129_44 rfl cf_0_7 ?_
      refine q_getR zi_129_47 rfl cf_169_1 ?_
      refine q_cVV zi_129_50 rfl rfl rfl rfl rfl rfl rfl cf_1_0.ob (hls _ (fun ω l1 l2 l3 l4 l5 => ?_))
      show zk _ _ 53 _ _ _ _
      refine r_il1 zi_129_53 rfl ?_
      refine n_if0 (i := k) zi_129_54 rfl (by omega) (fun c => absurd c (by omega)) (fun _ => ?_)
      refine r_al0 zi_129_57 rfl ?_
      refine q_getR zi_129_58 rfl cf_0_6 ?_
      refine q_cVV zi_129_61 rfl rfl rfl rfl rfl rfl rfl cf_95_0.ob (s_forget ?_)
      show zk _ _ 64 _ _ _ _
      refine r_al0 zi_129_64 rfl ?_
      refine q_getR zi_129_65 rfl cf_0_7 ?_
      refine q_getR zi_129_68 rfl cf_169_1 ?_
      refine q_getIe zi_129_71 rfl cf_173_2 (v := nI rows.length) (by first | exact ((hne ω 173 2 (by omega)).trans l1) | ((repeat (first | rw [zup_ne (by first | decide | omega)] | rw [zup_nj (by first | decide | omega)] | rw [fil_ne (by first | decide | omega)])) <;> exact ((hne ω 173 2 (by omega)).trans l1)) | (simp [up_rd, fil_rd]; exact ((hne ω 173 2 (by omega)).trans l1))) ?_
      refine r_retI zi_129_74 rfl ?_
      exact ⟨_, rfl, hfin ω l1 l2 l3 l4 l5⟩
  refine r_al0 zi_129_0 rfl ?_
  refine q_getR zi_129_1 rfl cf_0_7 ?_
  refine r_il1 zi_129_4 rfl ?_
  refine r_al0 zi_129_5 rfl ?_
  refine q_getR zi_129_6 rfl cf_0_9 ?_
  refine r_al0 zi_129_9 rfl ?_
  refine q_getIe zi_129_10 rfl cf_0_10 (v := nI b) (by first | exact hby | ((repeat (first | rw [zup_ne (by first | decide | omega)] | rw [zup_nj (by first | decide | omega)] | rw [fil_ne (by first | decide | omega)])) <;> exact hby) | (simp [up_rd, fil_rd]; exact hby)) ?_
  refine r_al0 zi_129_13 rfl ?_
  refine q_getR zi_129_14 rfl cf_0_0 ?_
  refine q_getR zi_129_17 rfl cf_1_0 ?_
  refine q_getIe zi_129_20 rfl cf_2_11 (v := nI n) (by first | exact hsub | ((repeat (first | rw [zup_ne (by first | decide | omega)] | rw [zup_nj (by first | decide | omega)] | rw [fil_ne (by first | decide | omega)])) <;> exact hsub) | (simp [up_rd, fil_rd]; exact hsub)) ?_
  refine q_cIV zi_129_23 rfl rfl rfl rfl rfl rfl rfl cf_169_0.ob (hrd _ (fun k cs rows υ e1 e2 e3 x y z w v u c1 c2 => ?_) (fun υ fin => ?_))
  · show zk _ _ 26 _ _ _ _
    exact kgo k cs rows υ e1 e2 e3 x y z w v u c1 c2
  · show zk _ _ 26 _ _ _ _
    refine r_is2 zi_129_26 rfl ?_
    refine r_al0 zi_129_27 rfl ?_
    refine r_push zi_129_28 rfl ?_
    refine q_put zi_129_29 rfl cf_0_10 rfl ?_
    refine r_il2 zi_129_32 rfl ?_
    refine r_if1 zi_129_33 rfl (fun c => absurd rfl c) (fun _ => ?_)
    refine r_push zi_129_36 rfl ?_
    refine r_retI zi_129_37 rfl ?_
    exact ⟨_, rfl, fin⟩

