/-! LINES, in the abstract; their leaves in the class -/
abbrev pRw : Type := Int32 × Int32 × Int32 × Int32
abbrev pLn : Type := Option ((Nat × Nat) ⊕ (Nat × List Nat × pRw))
def pnum (K : Nat → Nat) (j m : Nat) (k : Nat → pLn) : pLn := if 10000 ≤ K j then some (.inl (1, j)) else if m ≤ K j then some (.inl (2, j)) else k (K j)
def pkw (K : Nat → Nat) (j v : Nat) (k : pLn) : pLn := if K j = v then k else some (.inl (1, j))
/-- an order as the class packs it -/
def pok1 (w s a g : Nat) : Int32 := nI (w + 10 * a + 1000 * s + 100000 * g)
def ptl (K : Nat → Nat) (cs : List Nat) (day w who a i : Nat) : pLn := if w ≠ 5 ∧ K i = 10025 then pkw K (i + 1) 20059 (some (.inr (i + 2, cs, nI day, pok1 w who a 1, 0, 0))) else pkw K i 20059 (some (.inr (i + 1, cs, nI day, pok1 w who a 0, 0, 0)))
def ple (n : Nat) (K : Nat → Nat) (j : Nat) (cs : List Nat) : pLn := pnum K (j + 1) 1000 (fun day => pkw K (j + 2) 10018 (pnum K (j + 3) n (fun who => if 10019 ≤ K (j + 4) ∧ K (j + 4) ≤ 10024 then (if K (j + 4) = 10019 then pnum K (j + 5) 12 (fun a => ptl K cs day 0 who a (j + 6)) else ptl K cs day (K (j + 4) - 10019) who 0 (j + 5)) else some (.inl (1, j + 4)))))
def pti (K : Nat → Nat) (j : Nat) (cs : List Nat) : pLn := pnum K (j + 1) 1000 (fun day => if K (j + 2) = 10009 then pnum K (j + 3) 10 (fun v => pkw K (j + 4) 20059 (some (.inr (j + 5, cs, nI day, -1, nI v, 0)))) else pkw K (j + 2) 10006 (pnum K (j + 3) 12 (fun p => pnum K (j + 4) 100 (fun v => pkw K (j + 5) 20059 (some (.inr (j + 6, cs, nI day, nI p, nI v, 0)))))))
def pro (K : Nat → Nat) (j : Nat) (cs : List Nat) : pLn := pnum K (j + 1) 12 (fun a => pkw K (j + 2) 10027 (if K (j + 3) = a then some (.inl (2, j + 3)) else pnum K (j + 3) 12 (fun b => pkw K (j + 4) 20059 (some (.inr (j + 5, cs, nI a, nI b, 0, 0))))))
def plw (K : Nat → Nat) (j : Nat) (cs : List Nat) : pLn := match pe K 401 (j + 1) cs with
  | none => none
  | some (.inl x) => some (.inl x)
  | some (.inr (j1, cs1)) => if K j1 = 10013 then (match pcd K 500 true (j1 + 1) cs1 [] with
      | none => none
      | some (.inl x) => some (.inl x)
      | some (.inr (j2, cs2)) => pkw K j2 20059 (some (.inr (j2 + 1, cs2, nI (K j), nI cs.length, nI cs1.length, nI cs2.length))))
    else pkw K j1 20059 (some (.inr (j1 + 1, cs1, nI (K j), nI cs.length, nI cs1.length, nI cs1.length)))
/-- the lines of a text: lo to hi begins one -/
abbrev pTx : Type := Option ((Nat × Nat) ⊕ (List Nat × List pRw))
def ptx (lo hi : Nat) (L : Nat → List Nat → pLn) (K : Nat → Nat) : Nat → Nat → List Nat → List pRw → pTx
  | 0, _, _, _ => none
  | f + 1, j, cs, rows => if K j = 30001 then some (.inr (cs, rows)) else if ¬ (lo ≤ K j ∧ K j ≤ hi) then some (.inl (1, j)) else if rows.length = 16 then some (.inl (3, j)) else match L j cs with
    | none => none
    | some (.inl x) => some (.inl x)
    | some (.inr (i, ds, row)) => ptx lo hi L K f i ds (rows ++ [row])
def kRw (τ : zS) (k : Nat) (rows : List pRw) : Prop := ∀ l, l < rows.length → τ k (l * 4) = (rows.getD l (0, 0, 0, 0)).1 ∧ τ k (l * 4 + 1) = (rows.getD l (0, 0, 0, 0)).2.1 ∧ τ k (l * 4 + 2) = (rows.getD l (0, 0, 0, 0)).2.2.1 ∧ τ k (l * 4 + 3) = (rows.getD l (0, 0, 0, 0)).2.2.2
def kLn (τ : zS) (K S : Nat → Nat) (N j : Nat) (cs : List Nat) (rows : List pRw) (n : Nat) : Prop := kTk τ K S N j ∧ kDc τ cs ∧ τ 173 2 = nI rows.length ∧ kRw τ 174 rows ∧ τ 169 5 = nI n ∧ cs.length ≤ j ∧ rows.length ≤ 16
def pX (a b : Nat) : Prop := a = 173 ∨ a = 174 ∨ a = 175 ∨ a = 176 ∨ (a = 170 ∧ b = 3) ∨ (a = 169 ∧ (b = 3 ∨ b = 4))
theorem pC_X {a b : Nat} (h : pC a b) : pX a b := by unfold pC at h; unfold pX; omega
theorem pA_X {a b : Nat} (h : pA a b) : pX a b := pC_X (pA_C h)
/-- tokens go on, the rest stays -/
theorem kLn_n {τ υ : zS} {K S : Nat → Nat} {N j i n : Nat} {cs : List Nat} {rows : List pRw} (h : kLn τ K S N j cs rows n) (hF : ∀ a b, ¬ (a = 170 ∧ b = 3) → υ a b = τ a b) (hn : υ 170 3 = nI i) (hj : j ≤ i) (hi : i ≤ N) : kLn υ K S N i cs rows n := by
  obtain ⟨h1, h2, h3, h4, h5, h6, h7⟩ := h
  refine ⟨kTk_n h1 (fun a b hp => hF a b (fun z => hp (by unfold pA; omega))) hn hi, kDc_f h2 (hF 173 3 (by omega)) (fun b => hF 175 b (by omega)), (hF 173 2 (by omega)).trans h3, fun l hl => ?_, (hF 169 5 (by omega)).trans h5, by omega, h7⟩
  obtain ⟨a1, a2, a3, a4⟩ := h4 l hl
  exact ⟨(hF 174 _ (by omega)).trans a1, (hF 174 _ (by omega)).trans a2, (hF 174 _ (by omega)).trans a3, (hF 174 _ (by omega)).trans a4⟩
theorem s_ktake {d N j v n : Nat} {σ τ : zS} {Q Q2 : Int32 → zS → Prop} {K S : Nat → Nat} {cs : List Nat} {rows : List pRw} {r : (Nat × Nat) ⊕ (Nat × List Nat × pRw)} {k : pLn} {vv : Int32} (h0 : ∀ n i υ, r = .inl (n, i) → Fg (pF pX) σ υ → υ 170 4 = nI n → υ 170 5 = nI (S i) → Q 0 υ) (hvv : vv = nI v) (hv : v < 30001) (hr : pkw K j v k = some r) (hF : Fg pX σ τ) (hk : kLn τ K S N j cs rows n) (k1 : ∀ υ, k = some r → Fg pX σ υ → kLn υ K S N (j + 1) cs rows n → Q2 1 υ) (k0 : ∀ υ, Q 0 υ → Q2 0 υ) : zI1 (d + 1) 35 [.ref 169, .int vv] τ Q2 := by
  subst hvv
  have h5 := hk.1.2.2.2.2.1
  have hb := tko_b (hk.1.2.2.2.2.2.2 j)
  have htok : ∀ (Q2 : Int32 → zS → Prop), Q2 (nI (K j)) τ → zI1 d 103 [.ref 170] τ Q2 := fun Q2 h2 => s_tok hk.1 h2
  unfold pkw at hr
  show zk _ _ 0 [.ref 169, .int (nI v)] [] _ _
  by_cases c : K j = v
  · rw [if_pos c] at hr
    have hjn := kTk_ne hk.1 (by omega)
    have k1 := k1 (up τ 170 3 (nI (j + 1))) hr (hF.put (by unfold pX; omega)) (kLn_n hk (fun a b hp => zup_n2 (by omega)) zup_eq (by omega) hjn)
    generalize K j = kj at *
    refine r_al0 zi_35_0 rfl ?_
    refine q_getR zi_35_1 rfl cf_169_0 ?_
    refine q_cIV zi_35_4 rfl rfl rfl rfl rfl rfl rfl cf_170_0.ob (htok _ ?_)
    show zk _ _ 7 _ _ _ _
    refine r_il1 zi_35_7 rfl ?_
    refine n_ic0 (i := kj) (j := v) zi_35_8 rfl (by omega) (by omega) (fun _ => ?_) (fun c => absurd c (by omega))
    refine r_al0 zi_35_20 rfl ?_
    refine q_getR zi_35_21 rfl cf_169_0 ?_
    refine r_dupR zi_35_24 rfl ?_
    refine q_getIe zi_35_25 rfl cf_170_3 (v := nI j) (by first | exact h5 | ((repeat (first | rw [zup_ne (by first | decide | omega)] | rw [zup_nj (by first | decide | omega)] | rw [fil_ne (by first | decide | omega)])) <;> exact h5) | (simp [up_rd, fil_rd]; exact h5)) ?_
    refine r_push zi_35_28 rfl ?_
    refine r_b0 zi_35_29 rfl ?_
    rw [show (nI j + 1 : Int32) = nI (j + 1) from nI_add _ _]
    refine q_put zi_35_30 rfl cf_170_3 rfl ?_
    refine r_push zi_35_33 rfl ?_
    refine r_retZ zi_35_34 rfl (by decide) ?_
    exact ⟨_, rfl, k1⟩
  · rw [if_neg c] at hr
    have er := Option.some.inj hr
    have hfl : ∀ (Q3 : Int32 → zS → Prop), (∀ υ, Q2 0 υ → Q3 0 υ) → zI1 d 104 [.ref 170, .int 1] τ Q3 := fun Q3 h2 => s_fails hk.1 (h2 _ (k0 _ (h0 1 j _ er.symm (kfl hF) ((zup_nj (by decide)).trans zup_eq) zup_eq)))
    generalize K j = kj at *
    refine r_al0 zi_35_0 rfl ?_
    refine q_getR zi_35_1 rfl cf_169_0 ?_
    refine q_cIV zi_35_4 rfl rfl rfl rfl rfl rfl rfl cf_170_0.ob (htok _ ?_)
    show zk _ _ 7 _ _ _ _
    refine r_il1 zi_35_7 rfl ?_
    refine n_ic0 (i := kj) (j := v) zi_35_8 rfl (by omega) (by omega) (fun c => absurd c (by omega)) (fun _ => ?_)
    refine r_al0 zi_35_11 rfl ?_
    refine q_getR zi_35_12 rfl cf_169_0 ?_
    refine r_push zi_35_15 rfl ?_
    refine q_cIV zi_35_16 rfl rfl rfl rfl rfl rfl rfl cf_170_0.ob (hfl _ (fun υ x => ?_))
    show zk _ _ 19 _ _ _ _
    refine r_retZ zi_35_19 rfl (by decide) ?_
    exact ⟨_, rfl, x⟩
theorem s_knum {d N j m n : Nat} {σ τ : zS} {Q Q2 : Int32 → zS → Prop} {K S : Nat → Nat} {cs : List Nat} {rows : List pRw} {r : (Nat × Nat) ⊕ (Nat × List Nat × pRw)} {k : Nat → pLn} {mo : Int32} (h0 : ∀ n i υ, r = .inl (n, i) → Fg (pF pX) σ υ → υ 170 4 = nI n → υ 170 5 = nI (S i) → Q 0 υ) (hm : ∀ q, q ≤ 30001 → (nI q ≤ mo ↔ q < m)) (hr : pnum K j m k = some r) (hF : Fg pX σ τ) (hk : kLn τ K S N j cs rows n) (k1 : ∀ υ, k (K j) = some r → K j < 10000 → K j < m → Fg pX σ υ → kLn υ K S N (j + 1) cs rows n → Q2 (nI (K j)) υ) (k0 : ∀ υ, Q 0 υ → Q2 (-1) υ) : zI1 (d + 1) 37 [.ref 169, .int mo] τ Q2 := by
  have h5 := hk.1.2.2.2.2.1
  have hb := tko_b (hk.1.2.2.2.2.2.2 j)
  have htok : ∀ (Q2 : Int32 → zS → Prop), Q2 (nI (K j)) τ → zI1 d 103 [.ref 170] τ Q2 := fun Q2 h2 => s_tok hk.1 h2
  have hfl : ∀ (q : Nat) (e : r = .inl (q, j)) (Q3 : Int32 → zS → Prop), (∀ υ, Q2 (-1) υ → Q3 0 υ) → zI1 d 104 [.ref 170, .int (nI q)] τ Q3 := fun q e Q3 h2 => s_fails hk.1 (h2 _ (k0 _ (h0 q j _ e (kfl hF) ((zup_nj (by decide)).trans zup_eq) zup_eq)))
  have hm := hm (K j) hb
  unfold pnum at hr
  show zk _ _ 0 [.ref 169, .int mo, zun] [] _ _
  by_cases c : 10000 ≤ K j
  · rw [if_pos c] at hr
    have hfl := hfl 1 (Option.some.inj hr).symm
    generalize K j = kj at *
    refine r_al0 zi_37_0 rfl ?_
    refine q_getR zi_37_1 rfl cf_169_0 ?_
    refine q_cIV zi_37_4 rfl rfl rfl rfl rfl rfl rfl cf_170_0.ob (htok _ ?_)
    show zk _ _ 7 _ _ _ _
    refine r_is2 zi_37_7 rfl ?_
    refine r_il2 zi_37_8 rfl ?_
    refine r_push zi_37_9 rfl ?_
    refine n_ic3 (i := kj) (j := 10000) zi_37_12 rfl (by omega) (by omega) (fun _ => ?_) (fun c => absurd c (by omega))
    refine r_al0 zi_37_20 rfl ?_
    refine q_getR zi_37_21 rfl cf_169_0 ?_
    refine r_il2 zi_37_24 rfl ?_
    refine r_push zi_37_25 rfl ?_
    refine n_ic2 (i := kj) (j := 10000) zi_37_28 rfl (by omega) (by omega) (fun c => absurd c (by omega)) (fun _ => ?_)
    refine r_push zi_37_31 rfl ?_
    refine r_goto zi_37_32 rfl ?_
    refine q_cIV zi_37_36 rfl rfl rfl rfl rfl rfl rfl cf_170_0.ob (hfl _ (fun υ x => ?_))
    show zk _ _ 39 _ _ _ _
    refine r_popI zi_37_39 rfl ?_
    refine r_push zi_37_40 rfl ?_
    refine r_retI zi_37_41 rfl ?_
    exact ⟨_, rfl, x⟩
  · rw [if_neg c] at hr
    by_cases c2 : m ≤ K j
    · rw [if_pos c2] at hr
      have hfl := hfl 2 (Option.some.inj hr).symm
      have hm2 : ¬ nI (K j) ≤ mo := fun z => by have := hm.mp z; omega
      generalize K j = kj at *
      refine r_al0 zi_37_0 rfl ?_
      refine q_getR zi_37_1 rfl cf_169_0 ?_
      refine q_cIV zi_37_4 rfl rfl rfl rfl rfl rfl rfl cf_170_0.ob (htok _ ?_)
      show zk _ _ 7 _ _ _ _
      refine r_is2 zi_37_7 rfl ?_
      refine r_il2 zi_37_8 rfl ?_
      refine r_push zi_37_9 rfl ?_
      refine n_ic3 (i := kj) (j := 10000) zi_37_12 rfl (by omega) (by omega) (fun c => absurd c (by omega)) (fun _ => ?_)
      refine r_il2 zi_37_15 rfl ?_
      refine r_il1 zi_37_16 rfl ?_
      refine r_ic5 zi_37_17 rfl (fun c => absurd c hm2) (fun _ => ?_)
      refine r_al0 zi_37_20 rfl ?_
      refine q_getR zi_37_21 rfl cf_169_0 ?_
      refine r_il2 zi_37_24 rfl ?_
      refine r_push zi_37_25 rfl ?_
      refine n_ic2 (i := kj) (j := 10000) zi_37_28 rfl (by omega) (by omega) (fun _ => ?_) (fun c => absurd c (by omega))
      refine r_push zi_37_35 rfl ?_
      refine q_cIV zi_37_36 rfl rfl rfl rfl rfl rfl rfl cf_170_0.ob (hfl _ (fun υ x => ?_))
      show zk _ _ 39 _ _ _ _
      refine r_popI zi_37_39 rfl ?_
      refine r_push zi_37_40 rfl ?_
      refine r_retI zi_37_41 rfl ?_
      exact ⟨_, rfl, x⟩
    · rw [if_neg c2] at hr
      have hm2 : nI (K j) ≤ mo := hm.mpr (by omega)
      have hjn := kTk_ne hk.1 (by omega)
      have k1 := k1 (up τ 170 3 (nI (j + 1))) hr (by omega) (by omega) (hF.put (by unfold pX; omega)) (kLn_n hk (fun a b hp => zup_n2 (by omega)) zup_eq (by omega) hjn)
      generalize K j = kj at *
      refine r_al0 zi_37_0 rfl ?_
      refine q_getR zi_37_1 rfl cf_169_0 ?_
      refine q_cIV zi_37_4 rfl rfl rfl rfl rfl rfl rfl cf_170_0.ob (htok _ ?_)
      show zk _ _ 7 _ _ _ _
      refine r_is2 zi_37_7 rfl ?_
      refine r_il2 zi_37_8 rfl ?_
      refine r_push zi_37_9 rfl ?_
      refine n_ic3 (i := kj) (j := 10000) zi_37_12 rfl (by omega) (by omega) (fun c => absurd c (by omega)) (fun _ => ?_)
      refine r_il2 zi_37_15 rfl ?_
      refine r_il1 zi_37_16 rfl ?_
      refine r_ic5 zi_37_17 rfl (fun _ => ?_) (fun c => absurd hm2 c)
      refine r_al0 zi_37_42 rfl ?_
      refine q_getR zi_37_43 rfl cf_169_0 ?_
      refine r_dupR zi_37_46 rfl ?_
      refine q_getIe zi_37_47 rfl cf_170_3 (v := nI j) (by first | exact h5 | ((repeat (first | rw [zup_ne (by first | decide | omega)] | rw [zup_nj (by first | decide | omega)] | rw [fil_ne (by first | decide | omega)])) <;> exact h5) | (simp [up_rd, fil_rd]; exact h5)) ?_
      refine r_push zi_37_50 rfl ?_
      refine r_b0 zi_37_51 rfl ?_
      rw [show (nI j + 1 : Int32) = nI (j + 1) from nI_add _ _]
      refine q_put zi_37_52 rfl cf_170_3 rfl ?_
      refine r_il2 zi_37_55 rfl ?_
      refine r_retI zi_37_56 rfl ?_
      exact ⟨_, rfl, k1⟩
theorem s_isfull {d q : Nat} {τ : zS} {Q : Int32 → zS → Prop} (h : τ 173 2 = nI q) (hq : q ≤ 16) (h1 : q = 16 → Q 1 τ) (h0 : q < 16 → Q 0 τ) : zI1 d 95 [.ref 173] τ Q := by
  show zk _ _ 0 [.ref 173] [] _ _
  refine r_al0 zi_95_0 rfl ?_
  refine q_getIe zi_95_1 rfl cf_173_2 (v := nI q) (by first | exact h | ((repeat (first | rw [zup_ne (by first | decide | omega)] | rw [zup_nj (by first | decide | omega)] | rw [fil_ne (by first | decide | omega)])) <;> exact h) | (simp [up_rd, fil_rd]; exact h)) ?_
  refine r_push zi_95_4 rfl ?_
  refine n_ic2 (i := q) (j := 16) zi_95_6 rfl (by omega) (by omega) (fun c1 => ?_) (fun c1 => ?_)
  · refine r_push zi_95_13 rfl ?_
    refine r_retZ zi_95_14 rfl (by decide) ?_
    first | exact ⟨_, rfl, h1 (by omega)⟩ | exact ⟨_, rfl, h0 (by omega)⟩
  · refine r_push zi_95_9 rfl ?_
    refine r_goto zi_95_10 rfl ?_
    refine r_retZ zi_95_14 rfl (by decide) ?_
    first | exact ⟨_, rfl, h1 (by omega)⟩ | exact ⟨_, rfl, h0 (by omega)⟩
theorem s_kbeg {d N j n lo hi : Nat} {σ τ : zS} {Q2 : Int32 → zS → Prop} {K S : Nat → Nat} {cs : List Nat} {rows : List pRw} {lv hv : Int32} (hlv : lv = nI lo) (hhv : hv = nI hi) (hhi : hi < 30001) (hll : lo ≤ hi) (hF : Fg pX σ τ) (hk : kLn τ K S N j cs rows n) (k1 : ∀ υ, lo ≤ K j → K j ≤ hi → rows.length < 16 → Fg pX σ υ → kLn υ K S N (j + 1) cs rows n → Q2 1 υ) (k0 : ∀ q υ, (¬ (lo ≤ K j ∧ K j ≤ hi) ∧ q = 1) ∨ ((lo ≤ K j ∧ K j ≤ hi) ∧ rows.length = 16 ∧ q = 3) → Fg (pF pX) σ υ → υ 170 4 = nI q → υ 170 5 = nI (S j) → Q2 0 υ) : zI1 (d + 1) 36 [.ref 169, .int lv, .int hv] τ Q2 := by
  subst hlv; subst hhv
  obtain ⟨t1, t2, t3, t4, t5, t6, t7⟩ := id hk
  have h5 := t1.2.2.2.2.1
  have hb := tko_b (t1.2.2.2.2.2.2 j)
  have htok : ∀ (Q2 : Int32 → zS → Prop), Q2 (nI (K j)) τ → zI1 d 103 [.ref 170] τ Q2 := fun Q2 h2 => s_tok t1 h2
  have hw : ∀ (Q2 : Int32 → zS → Prop), (lo ≤ K j ∧ K j ≤ hi → Q2 1 τ) → (¬ (lo ≤ K j ∧ K j ≤ hi) → Q2 0 τ) → zI1 d 157 [.int (nI (K j)), .int (nI lo), .int (nI hi)] τ Q2 := fun Q2 g1 g0 => s_within (fun x y => g1 ⟨(nI_leI (by omega) (by omega)).mp x, (nI_leI (by omega) (by omega)).mp y⟩) (fun x => g0 (fun y => x ⟨(nI_leI (by omega) (by omega)).mpr y.1, (nI_leI (by omega) (by omega)).mpr y.2⟩))
  have hfl : ∀ (q : Nat) (e : (¬ (lo ≤ K j ∧ K j ≤ hi) ∧ q = 1) ∨ ((lo ≤ K j ∧ K j ≤ hi) ∧ rows.length = 16 ∧ q = 3)) (Q3 : Int32 → zS → Prop), (∀ υ, Q2 0 υ → Q3 0 υ) → zI1 d 104 [.ref 170, .int (nI q)] τ Q3 := fun q e Q3 h2 => s_fails t1 (h2 _ (k0 q _ e (kfl hF) ((zup_nj (by decide)).trans zup_eq) zup_eq))
  show zk _ _ 0 [.ref 169, .int (nI lo), .int (nI hi)] [] _ _
  by_cases c : lo ≤ K j ∧ K j ≤ hi
  · by_cases c16 : rows.length = 16
    · replace hfl := hfl 3 (Or.inr ⟨c, c16, rfl⟩)
      generalize K j = kj at *
      refine r_al0 zi_36_0 rfl ?_
      refine q_getR zi_36_1 rfl cf_169_0 ?_
      refine q_cIV zi_36_4 rfl rfl rfl rfl rfl rfl rfl cf_170_0.ob (htok _ ?_)
      show zk _ _ 7 _ _ _ _
      refine r_il1 zi_36_7 rfl ?_
      refine r_il2 zi_36_8 rfl ?_
      refine r_cIS zi_36_9 rfl rfl rfl rfl rfl rfl (hw _ (fun _ => ?_) (fun z => absurd c z))
      show zk _ _ 12 _ _ _ _
      refine r_if1 zi_36_12 rfl (fun _ => ?_) (fun c => absurd c (by decide))
      refine r_al0 zi_36_24 rfl ?_
      refine q_getR zi_36_25 rfl cf_169_1 ?_
      refine q_cIV zi_36_28 rfl rfl rfl rfl rfl rfl rfl cf_173_0.ob (s_isfull t3 t7 (fun _ => ?_) (fun z => absurd z (by omega)))
      show zk _ _ 31 _ _ _ _
      refine r_if0 zi_36_31 rfl (fun c => absurd c (by decide)) (fun _ => ?_)
      refine r_al0 zi_36_34 rfl ?_
      refine q_getR zi_36_35 rfl cf_169_0 ?_
      refine r_push zi_36_38 rfl ?_
      refine q_cIV zi_36_39 rfl rfl rfl rfl rfl rfl rfl cf_170_0.ob (hfl _ (fun υ x => ?_))
      show zk _ _ 42 _ _ _ _
      refine r_retZ zi_36_42 rfl (by decide) ?_
      exact ⟨_, rfl, x⟩
    · have hjn := kTk_ne t1 (by omega)
      replace k1 := k1 (up τ 170 3 (nI (j + 1))) c.1 c.2 (by omega) (hF.put (by unfold pX; omega)) (kLn_n hk (fun a b hp => zup_n2 (by omega)) zup_eq (by omega) hjn)
      generalize K j = kj at *
      refine r_al0 zi_36_0 rfl ?_
      refine q_getR zi_36_1 rfl cf_169_0 ?_
      refine q_cIV zi_36_4 rfl rfl rfl rfl rfl rfl rfl cf_170_0.ob (htok _ ?_)
      show zk _ _ 7 _ _ _ _
      refine r_il1 zi_36_7 rfl ?_
      refine r_il2 zi_36_8 rfl ?_
      refine r_cIS zi_36_9 rfl rfl rfl rfl rfl rfl (hw _ (fun _ => ?_) (fun z => absurd c z))
      show zk _ _ 12 _ _ _ _
      refine r_if1 zi_36_12 rfl (fun _ => ?_) (fun c => absurd c (by decide))
      refine r_al0 zi_36_24 rfl ?_
      refine q_getR zi_36_25 rfl cf_169_1 ?_
      refine q_cIV zi_36_28 rfl rfl rfl rfl rfl rfl rfl cf_173_0.ob (s_isfull t3 t7 (fun z => absurd z c16) (fun _ => ?_))
      show zk _ _ 31 _ _ _ _
      refine r_if0 zi_36_31 rfl (fun _ => ?_) (fun c => absurd (by decide) c)
      refine r_al0 zi_36_43 rfl ?_
      refine q_getR zi_36_44 rfl cf_169_0 ?_
      refine r_dupR zi_36_47 rfl ?_
      refine q_getIe zi_36_48 rfl cf_170_3 (v := nI j) (by first | exact h5 | ((repeat (first | rw [zup_ne (by first | decide | omega)] | rw [zup_nj (by first | decide | omega)] | rw [fil_ne (by first | decide | omega)])) <;> exact h5) | (simp [up_rd, fil_rd]; exact h5)) ?_
      refine r_push zi_36_51 rfl ?_
      refine r_b0 zi_36_52 rfl ?_
      rw [show (nI j + 1 : Int32) = nI (j + 1) from nI_add _ _]
      refine q_put zi_36_53 rfl cf_170_3 rfl ?_
      refine r_push zi_36_56 rfl ?_
      refine r_retZ zi_36_57 rfl (by decide) ?_
      exact ⟨_, rfl, k1⟩
  · replace hfl := hfl 1 (Or.inl ⟨c, rfl⟩)
    generalize K j = kj at *
    refine r_al0 zi_36_0 rfl ?_
    refine q_getR zi_36_1 rfl cf_169_0 ?_
    refine q_cIV zi_36_4 rfl rfl rfl rfl rfl rfl rfl cf_170_0.ob (htok _ ?_)
    show zk _ _ 7 _ _ _ _
    refine r_il1 zi_36_7 rfl ?_
    refine r_il2 zi_36_8 rfl ?_
    refine r_cIS zi_36_9 rfl rfl rfl rfl rfl rfl (hw _ (fun z => absurd z c) (fun _ => ?_))
    show zk _ _ 12 _ _ _ _
    refine r_if1 zi_36_12 rfl (fun c => absurd (by decide) c) (fun _ => ?_)
    refine r_al0 zi_36_15 rfl ?_
    refine q_getR zi_36_16 rfl cf_169_0 ?_
    refine r_push zi_36_19 rfl ?_
    refine q_cIV zi_36_20 rfl rfl rfl rfl rfl rfl rfl cf_170_0.ob (hfl _ (fun υ x => ?_))
    show zk _ _ 23 _ _ _ _
    refine r_retZ zi_36_23 rfl (by decide) ?_
    exact ⟨_, rfl, x⟩
theorem kRw_s {τ : zS} {k : Nat} {rows : List pRw} {a b c e : Int32} (h : kRw τ k rows) : kRw (up (up (up (up τ k (rows.length * 4) a) k (rows.length * 4 + 1) b) k (rows.length * 4 + 2) c) k (rows.length * 4 + 3) e) k (rows ++ [(a, b, c, e)]) := by
  intro l hl
  rw [List.length_append, List.length_singleton] at hl
  rw [List.getD_eq_getElem?_getD]
  by_cases q : l = rows.length
  · subst q
    rw [List.getElem?_append_right (Nat.le_refl _), Nat.sub_self]
    refine ⟨?_, ?_, ?_, ?_⟩
    · rw [zup_nj (by omega), zup_nj (by omega), zup_nj (by omega), zup_eq]; rfl
    · rw [zup_nj (by omega), zup_nj (by omega), zup_eq]; rfl
    · rw [zup_nj (by omega), zup_eq]; rfl
    · rw [zup_eq]; rfl
  · rw [List.getElem?_append_left (by omega), ← List.getD_eq_getElem?_getD]
    have h := h l (by omega)
    refine ⟨?_, ?_, ?_, ?_⟩
    · rw [zup_nj (by omega), zup_nj (by omega), zup_nj (by omega), zup_nj (by omega)]; exact h.1
    · rw [zup_nj (by omega), zup_nj (by omega), zup_nj (by omega), zup_nj (by omega)]; exact h.2.1
    · rw [zup_nj (by omega), zup_nj (by omega), zup_nj (by omega), zup_nj (by omega)]; exact h.2.2.1
    · rw [zup_nj (by omega), zup_nj (by omega), zup_nj (by omega), zup_nj (by omega)]; exact h.2.2.2
theorem s_kadd {d N j n : Nat} {σ τ : zS} {Q2 : zS → Prop} {K S : Nat → Nat} {cs : List Nat} {rows : List pRw} {a b c e : Int32} (hF : Fg pX σ τ) (hk : kLn τ K S N j cs rows n) (hl : rows.length < 16) (k1 : ∀ υ, Fg pX σ υ → kLn υ K S N j cs (rows ++ [(a, b, c, e)]) n → Q2 υ) : zV1 (d + 1) 96 [.ref 173, .int a, .int b, .int c, .int e] τ Q2 := by
  obtain ⟨t1, t2, t3, t4, t5, t6, t7⟩ := id hk
  have hne : ∀ p q, p ≠ 174 → ¬ (p = 173 ∧ q = 2) → up (up (up (up (up τ 174 (rows.length * 4) a) 174 (rows.length * 4 + 1) b) 174 (rows.length * 4 + 2) c) 174 (rows.length * 4 + 3) e) 173 2 (nI (rows.length + 1)) p q = τ p q := fun p q h1 h2 => by
    rw [zup_n2 h2, zup_ne h1, zup_ne h1, zup_ne h1, zup_ne h1]
  have k1 := k1 (up (up (up (up (up τ 174 (rows.length * 4) a) 174 (rows.length * 4 + 1) b) 174 (rows.length * 4 + 2) c) 174 (rows.length * 4 + 3) e) 173 2 (nI (rows.length + 1))) (((((hF.put (by unfold pX; omega)).put (by unfold pX; omega)).put (by unfold pX; omega)).put (by unfold pX; omega)).put (by unfold pX; omega)) ⟨⟨(hne 170 2 (by decide) (by omega)).trans t1.1, fun i hi => ⟨(hne 171 i (by decide) (by omega)).trans (t1.2.1 i hi).1, (hne 172 i (by decide) (by omega)).trans (t1.2.1 i hi).2⟩, t1.2.2.1, t1.2.2.2.1, (hne 170 3 (by decide) (by omega)).trans t1.2.2.2.2.1, t1.2.2.2.2.2.1, t1.2.2.2.2.2.2⟩, kDc_f t2 (hne 173 3 (by decide) (by omega)) (fun b => hne 175 b (by decide) (by omega)), by rw [zup_eq, List.length_append]; rfl, fun l hl => by
    have := kRw_s (a := a) (b := b) (c := c) (e := e) t4 l hl
    rw [zup_ne (show (174 : Nat) ≠ 173 by decide), zup_ne (show (174 : Nat) ≠ 173 by decide), zup_ne (show (174 : Nat) ≠ 173 by decide), zup_ne (show (174 : Nat) ≠ 173 by decide)]; exact this, (hne 169 5 (by decide) (by omega)).trans t5, t6, by rw [List.length_append, List.length_singleton]; omega⟩
  have t3b : ∀ (v1 v2 v3 v4 : Int32) (p1 p2 p3 p4 : Nat), up (up (up (up τ 174 p1 v1) 174 p2 v2) 174 p3 v3) 174 p4 v4 173 2 = nI rows.length := fun v1 v2 v3 v4 p1 p2 p3 p4 => by rw [zup_ne (by decide), zup_ne (by decide), zup_ne (by decide), zup_ne (by decide)]; exact t3
  clear hne
  generalize rows.length = q at *
  show zk _ _ 0 [.ref 173, .int a, .int b, .int c, .int e, zun] [] _ _
  refine r_al0 zi_96_0 rfl ?_
  refine q_getIe zi_96_1 rfl cf_173_2 (v := nI q) (by first | exact t3 | ((repeat (first | rw [zup_ne (by first | decide | omega)] | rw [zup_nj (by first | decide | omega)] | rw [fil_ne (by first | decide | omega)])) <;> exact t3) | (simp [up_rd, fil_rd]; exact t3)) ?_
  refine n_if2 (i := q) zi_96_4 rfl (by omega) (fun c => absurd c (by omega)) (fun _ => ?_)
  refine r_al0 zi_96_7 rfl ?_
  refine q_cIV zi_96_8 rfl rfl rfl rfl rfl rfl rfl cf_173_0.ob (s_isfull t3 t7 (fun z => absurd z (by omega)) (fun _ => ?_))
  show zk _ _ 11 _ _ _ _
  refine r_if0 zi_96_11 rfl (fun _ => ?_) (fun c => absurd (by decide) c)
  refine r_al0 zi_96_15 rfl ?_
  refine q_getIe zi_96_16 rfl cf_173_2 (v := nI q) (by first | exact t3 | ((repeat (first | rw [zup_ne (by first | decide | omega)] | rw [zup_nj (by first | decide | omega)] | rw [fil_ne (by first | decide | omega)])) <;> exact t3) | (simp [up_rd, fil_rd]; exact t3)) ?_
  refine r_push zi_96_19 rfl ?_
  refine r_b2 zi_96_20 rfl ?_
  rw [show (nI q * 4 : Int32) = nI (q * 4) from pk_mul _ _]
  refine r_is5 zi_96_21 rfl ?_
  refine r_al0 zi_96_23 rfl ?_
  refine q_getR zi_96_24 rfl cf_173_0 ?_
  refine r_il5 zi_96_27 rfl ?_
  refine r_il1 zi_96_29 rfl ?_
  refine r_ast zi_96_30 rfl (q * 4) ca_174 (by first | rfl | (simp only [zI_add, zI_mul] <;> rfl)) (by first | omega | decide) ?_
  refine r_al0 zi_96_31 rfl ?_
  refine q_getR zi_96_32 rfl cf_173_0 ?_
  refine r_il5 zi_96_35 rfl ?_
  refine r_push zi_96_37 rfl ?_
  refine r_b0 zi_96_38 rfl ?_
  rw [show (nI (q * 4) + 1 : Int32) = nI ((q * 4) + 1) from nI_add _ _]
  refine r_il2 zi_96_39 rfl ?_
  refine r_ast zi_96_40 rfl ((q * 4) + 1) ca_174 (by first | rfl | (simp only [zI_add, zI_mul] <;> rfl)) (by first | omega | decide) ?_
  refine r_al0 zi_96_41 rfl ?_
  refine q_getR zi_96_42 rfl cf_173_0 ?_
  refine r_il5 zi_96_45 rfl ?_
  refine r_push zi_96_47 rfl ?_
  refine r_b0 zi_96_48 rfl ?_
  rw [show (nI (q * 4) + 2 : Int32) = nI ((q * 4) + 2) from nI_add _ _]
  refine r_il3 zi_96_49 rfl ?_
  refine r_ast zi_96_50 rfl ((q * 4) + 2) ca_174 (by first | rfl | (simp only [zI_add, zI_mul] <;> rfl)) (by first | omega | decide) ?_
  refine r_al0 zi_96_51 rfl ?_
  refine q_getR zi_96_52 rfl cf_173_0 ?_
  refine r_il5 zi_96_55 rfl ?_
  refine r_push zi_96_57 rfl ?_
  refine r_b0 zi_96_58 rfl ?_
  rw [show (nI (q * 4) + 3 : Int32) = nI ((q * 4) + 3) from nI_add _ _]
  refine r_il4 zi_96_59 rfl ?_
  refine r_ast zi_96_61 rfl ((q * 4) + 3) ca_174 (by first | rfl | (simp only [zI_add, zI_mul] <;> rfl)) (by first | omega | decide) ?_
  refine r_al0 zi_96_62 rfl ?_
  refine r_dupR zi_96_63 rfl ?_
  refine q_getIe zi_96_64 rfl cf_173_2 (v := nI q) (by first | exact t3b _ _ _ _ _ _ _ _ | ((repeat (first | rw [zup_ne (by first | decide | omega)] | rw [zup_nj (by first | decide | omega)] | rw [fil_ne (by first | decide | omega)])) <;> exact t3b _ _ _ _ _ _ _ _) | (simp [up_rd, fil_rd]; exact t3b _ _ _ _ _ _ _ _)) ?_
  refine r_push zi_96_67 rfl ?_
  refine r_b0 zi_96_68 rfl ?_
  rw [show (nI q + 1 : Int32) = nI (q + 1) from nI_add _ _]
  refine q_put zi_96_69 rfl cf_173_2 rfl ?_
  refine r_ret zi_96_72 rfl ?_
  exact ⟨rfl, k1⟩

