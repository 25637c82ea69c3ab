/-! E, in the abstract and in the class -/
abbrev pR : Type := Option ((Nat × Nat) ⊕ (Nat × List Nat))
def pun (v : Nat) : Bool := decide (v < 10000 ∨ (10003 ≤ v ∧ v ≤ 10012))
/-- E behind a unit; what + or - waits -/
def pam (K : Nat → Nat) : Nat → Option Nat → Nat → List Nat → pR
  | 0, _, _, _ => none
  | f + 1, w, j, cs =>
    if K j = 20042 then (if pun (K (j + 1)) = true then pam K f w (j + 2) (cs ++ [K (j + 1)] ++ [20042]) else some (.inl (1, j + 1)))
    else if K j = 20047 then (if 10000 ≤ K (j + 1) then some (.inl (1, j + 1)) else if K (j + 1) = 0 then some (.inl (2, j + 1)) else pam K f w (j + 2) (cs ++ [K (j + 1)] ++ [20047]))
    else if K j = 20043 ∨ K j = 20045 then (if pun (K (j + 1)) = true then pam K f (some (K j)) (j + 2) (cs ++ w.toList ++ [K (j + 1)]) else some (.inl (1, j + 1)))
    else some (.inr (j, cs ++ w.toList))
def pe (K : Nat → Nat) (f j : Nat) (cs : List Nat) : pR := if pun (K j) = true then pam K f none (j + 1) (cs ++ [K j]) else some (.inl (1, j))
/-- the reader's tokens lie, token j is next -/
def kTk (τ : zS) (K S : Nat → Nat) (N j : Nat) : Prop := τ 170 2 = nI (N + 1) ∧ (∀ i, i ≤ N → τ 171 i = nI (K i) ∧ τ 172 i = nI (S i)) ∧ N ≤ 400 ∧ K N = 30001 ∧ τ 170 3 = nI j ∧ j ≤ N ∧ ∀ i, tko (K i)
theorem kTk_ne {τ : zS} {K S : Nat → Nat} {N j : Nat} (h : kTk τ K S N j) (hn : K j ≠ 30001) : j < N := by
  have h1 := h.2.2.2.2.2.1
  by_cases e : j = N
  · rw [e] at hn; exact absurd h.2.2.2.1 hn
  · omega
theorem tko_b {v : Nat} (h : tko v) : v ≤ 30001 := by
  rcases h with h | ⟨k, h1, h2⟩ | ⟨c, h1, h2⟩ | h | h
  · omega
  · omega
  · simp only [tkS, decide_eq_true_eq] at h1; omega
  · omega
  · omega
/-- the draft's codes -/
def kDc (τ : zS) (cs : List Nat) : Prop := τ 173 3 = nI cs.length ∧ ∀ i, i < cs.length → τ 175 i = nI (cs.getD i 0)
theorem s_tok {d N j : Nat} {τ : zS} {Q : Int32 → zS → Prop} {K S : Nat → Nat} (h : kTk τ K S N j) (hq : Q (nI (K j)) τ) : zI1 d 103 [.ref 170] τ Q := by
  obtain ⟨h1, h2, h3, h4, h5, h6, h7⟩ := h
  have h8 := (h2 j h6).1
  show zk _ _ 0 [.ref 170] [] _ _
  refine r_al0 zi_103_0 rfl ?_
  refine q_getIe zi_103_1 rfl cf_170_3 (v := nI j) (by first | exact h5 | ((repeat (first | rw [zup_ne (by first | decide | omega)] | rw [zup_nj (by first | decide | omega)] | rw [fil_ne (by first | decide | omega)])) <;> exact h5) | (simp [up_rd, fil_rd]; exact h5)) ?_
  refine n_if2 (i := j) zi_103_4 rfl (by omega) (fun c => absurd c (by omega)) (fun _ => ?_)
  refine r_al0 zi_103_7 rfl ?_
  refine q_getIe zi_103_8 rfl cf_170_3 (v := nI j) (by first | exact h5 | ((repeat (first | rw [zup_ne (by first | decide | omega)] | rw [zup_nj (by first | decide | omega)] | rw [fil_ne (by first | decide | omega)])) <;> exact h5) | (simp [up_rd, fil_rd]; exact h5)) ?_
  refine r_al0 zi_103_11 rfl ?_
  refine q_getIe zi_103_12 rfl cf_170_2 (v := nI (N+1)) (by first | exact h1 | ((repeat (first | rw [zup_ne (by first | decide | omega)] | rw [zup_nj (by first | decide | omega)] | rw [fil_ne (by first | decide | omega)])) <;> exact h1) | (simp [up_rd, fil_rd]; exact h1)) ?_
  refine n_ic3 (i := j) (j := N+1) zi_103_15 rfl (by omega) (by omega) (fun c => absurd c (by omega)) (fun _ => ?_)
  refine r_al0 zi_103_18 rfl ?_
  refine q_getIe zi_103_19 rfl cf_170_3 (v := nI j) (by first | exact h5 | ((repeat (first | rw [zup_ne (by first | decide | omega)] | rw [zup_nj (by first | decide | omega)] | rw [fil_ne (by first | decide | omega)])) <;> exact h5) | (simp [up_rd, fil_rd]; exact h5)) ?_
  refine r_push zi_103_22 rfl ?_
  refine n_ic4 (i := j) (j := 400) zi_103_25 rfl (by omega) (by omega) (fun c => absurd c (by omega)) (fun _ => ?_)
  refine r_al0 zi_103_28 rfl ?_
  refine q_getR zi_103_29 rfl cf_170_0 ?_
  refine r_al0 zi_103_32 rfl ?_
  refine q_getIe zi_103_33 rfl cf_170_3 (v := nI j) (by first | exact h5 | ((repeat (first | rw [zup_ne (by first | decide | omega)] | rw [zup_nj (by first | decide | omega)] | rw [fil_ne (by first | decide | omega)])) <;> exact h5) | (simp [up_rd, fil_rd]; exact h5)) ?_
  refine r_alde zi_103_36 rfl j ca_171 (by first | rfl | (simp only [zI_add, zI_mul] <;> rfl)) (by first | omega | decide) (u := nI (K j)) (by first | exact h8 | ((repeat (first | rw [zup_ne (by first | decide | omega)] | rw [zup_nj (by first | decide | omega)] | rw [fil_ne (by first | decide | omega)])) <;> exact h8) | (simp [up_rd, fil_rd]; exact h8)) ?_
  refine r_goto zi_103_37 rfl ?_
  refine r_retI zi_103_43 rfl ?_
  exact ⟨_, rfl, hq⟩
theorem s_fails {d N j : Nat} {τ : zS} {Q : Int32 → zS → Prop} {K S : Nat → Nat} {n : Int32} (h : kTk τ K S N j) (hq : Q 0 (up (up τ 170 4 n) 170 5 (nI (S j)))) : zI1 d 104 [.ref 170, .int n] τ Q := by
  obtain ⟨h1, h2, h3, h4, h5, h6, h7⟩ := h
  have h8 := (h2 j h6).2
  show zk _ _ 0 [.ref 170, .int n] [] _ _
  refine r_al0 zi_104_0 rfl ?_
  refine r_il1 zi_104_1 rfl ?_
  refine q_put zi_104_2 rfl cf_170_4 rfl ?_
  refine r_al0 zi_104_5 rfl ?_
  refine r_al0 zi_104_6 rfl ?_
  refine q_getIe zi_104_7 rfl cf_170_3 (v := nI j) (by first | exact h5 | ((repeat (first | rw [zup_ne (by first | decide | omega)] | rw [zup_nj (by first | decide | omega)] | rw [fil_ne (by first | decide | omega)])) <;> exact h5) | (simp [up_rd, fil_rd]; exact h5)) ?_
  refine n_if2 (i := j) zi_104_10 rfl (by omega) (fun c => absurd c (by omega)) (fun _ => ?_)
  refine r_al0 zi_104_13 rfl ?_
  refine q_getIe zi_104_14 rfl cf_170_3 (v := nI j) (by first | exact h5 | ((repeat (first | rw [zup_ne (by first | decide | omega)] | rw [zup_nj (by first | decide | omega)] | rw [fil_ne (by first | decide | omega)])) <;> exact h5) | (simp [up_rd, fil_rd]; exact h5)) ?_
  refine r_al0 zi_104_17 rfl ?_
  refine q_getIe zi_104_18 rfl cf_170_2 (v := nI (N+1)) (by first | exact h1 | ((repeat (first | rw [zup_ne (by first | decide | omega)] | rw [zup_nj (by first | decide | omega)] | rw [fil_ne (by first | decide | omega)])) <;> exact h1) | (simp [up_rd, fil_rd]; exact h1)) ?_
  refine n_ic3 (i := j) (j := N+1) zi_104_21 rfl (by omega) (by omega) (fun c => absurd c (by omega)) (fun _ => ?_)
  refine r_al0 zi_104_24 rfl ?_
  refine q_getIe zi_104_25 rfl cf_170_3 (v := nI j) (by first | exact h5 | ((repeat (first | rw [zup_ne (by first | decide | omega)] | rw [zup_nj (by first | decide | omega)] | rw [fil_ne (by first | decide | omega)])) <;> exact h5) | (simp [up_rd, fil_rd]; exact h5)) ?_
  refine r_push zi_104_28 rfl ?_
  refine n_ic4 (i := j) (j := 400) zi_104_31 rfl (by omega) (by omega) (fun c => absurd c (by omega)) (fun _ => ?_)
  refine r_al0 zi_104_34 rfl ?_
  refine q_getR zi_104_35 rfl cf_170_1 ?_
  refine r_al0 zi_104_38 rfl ?_
  refine q_getIe zi_104_39 rfl cf_170_3 (v := nI j) (by first | exact h5 | ((repeat (first | rw [zup_ne (by first | decide | omega)] | rw [zup_nj (by first | decide | omega)] | rw [fil_ne (by first | decide | omega)])) <;> exact h5) | (simp [up_rd, fil_rd]; exact h5)) ?_
  refine r_alde zi_104_42 rfl j ca_172 (by first | rfl | (simp only [zI_add, zI_mul] <;> rfl)) (by first | omega | decide) (u := nI (S j)) (by first | exact h8 | ((repeat (first | rw [zup_ne (by first | decide | omega)] | rw [zup_nj (by first | decide | omega)] | rw [fil_ne (by first | decide | omega)])) <;> exact h8) | (simp [up_rd, fil_rd]; exact h8)) ?_
  refine r_goto zi_104_43 rfl ?_
  refine q_put zi_104_47 rfl cf_170_5 rfl ?_
  refine r_push zi_104_50 rfl ?_
  refine r_retZ zi_104_51 rfl (by decide) ?_
  exact ⟨_, rfl, hq⟩
theorem kDc_s {τ : zS} {cs : List Nat} {k : Nat} (h : kDc τ cs) : kDc (up (up τ 175 cs.length (nI k)) 173 3 (nI (cs.length + 1))) (cs ++ [k]) := by
  refine ⟨by rw [zup_eq, List.length_append]; rfl, fun i hi => ?_⟩
  rw [zup_ne (by decide)]
  rw [List.length_append, List.length_singleton] at hi
  rw [List.getD_eq_getElem?_getD]
  by_cases e : i = cs.length
  · subst e
    rw [zup_eq, List.getElem?_append_right (Nat.le_refl _), Nat.sub_self]
    rfl
  · rw [zup_nj e, List.getElem?_append_left (by omega), h.2 i (by omega), List.getD_eq_getElem?_getD]
theorem s_lay {d : Nat} {τ : zS} {Q : zS → Prop} {cs : List Nat} {k : Nat} (h : kDc τ cs) (hl : cs.length < 400) (hq : kDc (up (up τ 175 cs.length (nI k)) 173 3 (nI (cs.length + 1))) (cs ++ [k]) → Q (up (up τ 175 cs.length (nI k)) 173 3 (nI (cs.length + 1)))) : zV1 d 98 [.ref 173, .int (nI k)] τ Q := by
  have hq := hq (kDc_s h)
  have h1 := h.1
  generalize cs.length = n at *
  show zk _ _ 0 [.ref 173, .int (nI k)] [] _ _
  refine r_al0 zi_98_0 rfl ?_
  refine q_getIe zi_98_1 rfl cf_173_3 (v := nI n) (by first | exact h1 | ((repeat (first | rw [zup_ne (by first | decide | omega)] | rw [zup_nj (by first | decide | omega)] | rw [fil_ne (by first | decide | omega)])) <;> exact h1) | (simp [up_rd, fil_rd]; exact h1)) ?_
  refine n_if2 (i := n) zi_98_4 rfl (by omega) (fun c => absurd c (by omega)) (fun _ => ?_)
  refine r_al0 zi_98_7 rfl ?_
  refine q_getIe zi_98_8 rfl cf_173_3 (v := nI n) (by first | exact h1 | ((repeat (first | rw [zup_ne (by first | decide | omega)] | rw [zup_nj (by first | decide | omega)] | rw [fil_ne (by first | decide | omega)])) <;> exact h1) | (simp [up_rd, fil_rd]; exact h1)) ?_
  refine r_al0 zi_98_11 rfl ?_
  refine q_getR zi_98_12 rfl cf_173_1 ?_
  refine r_alen zi_98_15 rfl ca_175 ?_
  refine n_ic3 (i := n) (j := 400) zi_98_16 rfl (by omega) (by omega) (fun c => absurd c (by omega)) (fun _ => ?_)
  refine r_al0 zi_98_19 rfl ?_
  refine q_getR zi_98_20 rfl cf_173_1 ?_
  refine r_al0 zi_98_23 rfl ?_
  refine q_getIe zi_98_24 rfl cf_173_3 (v := nI n) (by first | exact h1 | ((repeat (first | rw [zup_ne (by first | decide | omega)] | rw [zup_nj (by first | decide | omega)] | rw [fil_ne (by first | decide | omega)])) <;> exact h1) | (simp [up_rd, fil_rd]; exact h1)) ?_
  refine r_il1 zi_98_27 rfl ?_
  refine r_ast zi_98_28 rfl n ca_175 (by first | rfl | (simp only [zI_add, zI_mul] <;> rfl)) (by first | omega | decide) ?_
  refine r_al0 zi_98_29 rfl ?_
  refine r_dupR zi_98_30 rfl ?_
  refine q_getIe zi_98_31 rfl cf_173_3 (v := nI n) (by first | exact h1 | ((repeat (first | rw [zup_ne (by first | decide | omega)] | rw [zup_nj (by first | decide | omega)] | rw [fil_ne (by first | decide | omega)])) <;> exact h1) | (simp [up_rd, fil_rd]; exact h1)) ?_
  refine r_push zi_98_34 rfl ?_
  refine r_b0 zi_98_35 rfl ?_
  rw [show (nI n + 1 : Int32) = nI (n + 1) from nI_add _ _]
  refine q_put zi_98_36 rfl cf_173_3 rfl ?_
  refine r_ret zi_98_39 rfl ?_
  exact ⟨rfl, hq⟩
/-- what E changes -/
def pA (a b : Nat) : Prop := a = 175 ∨ (a = 173 ∧ b = 3) ∨ (a = 170 ∧ b = 3)
/-- behind a fault -/
def pF (P : Nat → Nat → Prop) (a b : Nat) : Prop := P a b ∨ (a = 170 ∧ (b = 4 ∨ b = 5))
theorem Fg.ff {P : Nat → Nat → Prop} {σ τ : zS} (h : Fg P σ τ) : Fg (pF P) σ τ := h.sub (fun _ _ => Or.inl)
theorem kfl {P : Nat → Nat → Prop} {σ τ : zS} {n s : Int32} (h : Fg P σ τ) : Fg (pF P) σ (up (up τ 170 4 n) 170 5 s) := (h.ff.put (Or.inr ⟨rfl, Or.inl rfl⟩)).put (Or.inr ⟨rfl, Or.inr rfl⟩)
theorem pF_m {P R : Nat → Nat → Prop} (h : ∀ a b, P a b → R a b) (a b : Nat) (g : pF P a b) : pF R a b := g.imp (h a b) id
/-- the next token; behind a fault -/
theorem kTk_n {τ υ : zS} {K S : Nat → Nat} {N j i : Nat} (h : kTk τ K S N j) (hF : ∀ a b, ¬ pA a b → υ a b = τ a b) (hn : υ 170 3 = nI i) (hi : i ≤ N) : kTk υ K S N i := by
  obtain ⟨h1, h2, h3, h4, h5, h6, h7⟩ := h
  refine ⟨(hF 170 2 (by unfold pA; omega)).trans h1, fun q hq => ⟨(hF 171 q (by unfold pA; omega)).trans (h2 q hq).1, (hF 172 q (by unfold pA; omega)).trans (h2 q hq).2⟩, h3, h4, hn, hi, h7⟩
theorem kDc_f {τ υ : zS} {cs : List Nat} (h : kDc τ cs) (h3 : υ 173 3 = τ 173 3) (h5 : ∀ b, υ 175 b = τ 175 b) : kDc υ cs := ⟨h3.trans h.1, fun i hi => (h5 i).trans (h.2 i hi)⟩
theorem s_runit {d N j : Nat} {τ : zS} {Q : Int32 → zS → Prop} {K S : Nat → Nat} {cs : List Nat} (hk : kTk τ K S N j) (hd : kDc τ cs) (hl : cs.length ≤ j) (h1 : pun (K j) = true → ∀ υ, Fg pA τ υ → kTk υ K S N (j + 1) → kDc υ (cs ++ [K j]) → Q 1 υ) (h0 : ¬ pun (K j) = true → ∀ υ, Fg (pF pA) τ υ → υ 170 4 = 1 → υ 170 5 = nI (S j) → Q 0 υ) : zI1 (d + 1) 43 [.ref 169] τ Q := by
  have hb := tko_b (hk.2.2.2.2.2.2 j)
  have hne := fun z => kTk_ne hk z
  have hN := hk.2.2.1
  have h5 := hk.2.2.2.2.1
  simp only [pun, decide_eq_true_eq] at h1 h0
  have hfail : ¬ (K j < 10000 ∨ 10003 ≤ K j ∧ K j ≤ 10012) → ∀ (Q2 : Int32 → zS → Prop), (∀ υ, Q 0 υ → Q2 0 υ) → zI1 d 104 [.ref 170, .int 1] τ Q2 := fun z Q2 h2 => s_fails hk (h2 _ (h0 z _ (kfl Fg.rf) ((zup_nj (by decide)).trans zup_eq) zup_eq))
  have hlay : cs.length < 400 → ∀ (Q2 : zS → Prop), ((∀ n, n = nI (j + 1) → (K j < 10000 ∨ 10003 ≤ K j ∧ K j ≤ 10012) → Q 1 (up (up (up τ 175 cs.length (nI (K j))) 173 3 (nI (cs.length + 1))) 170 3 n)) → Q2 (up (up τ 175 cs.length (nI (K j))) 173 3 (nI (cs.length + 1)))) → zV1 d 98 [.ref 173, .int (nI (K j))] τ Q2 := fun z Q2 h2 => s_lay hd z (fun hd2 => h2 (fun n hn g => h1 g _ (((Fg.rf.put (Or.inl rfl)).put (Or.inr (Or.inl ⟨rfl, rfl⟩))).put (Or.inr (Or.inr ⟨rfl, rfl⟩))) (kTk_n (i := j + 1) hk (((Fg.rf.put (Or.inl rfl)).put (Or.inr (Or.inl ⟨rfl, rfl⟩))).put (Or.inr (Or.inr ⟨rfl, rfl⟩))) (by rw [zup_eq, hn]) (hne (by omega))) (kDc_f hd2 (zup_ne (by decide)) (fun b => zup_ne (by decide)))))
  have h3 : ∀ a b : Int32, (up (up τ 175 cs.length a) 173 3 b) 170 3 = nI j := fun a b => ((zup_ne (by decide)).trans (zup_ne (by decide))).trans h5
  have htok : ∀ (Q2 : Int32 → zS → Prop), Q2 (nI (K j)) τ → zI1 d 103 [.ref 170] τ Q2 := fun Q2 h2 => s_tok hk h2
  generalize K j = k at *
  have hw : ∀ (Q2 : Int32 → zS → Prop), (10003 ≤ k ∧ k ≤ 10012 → Q2 1 τ) → (¬ (10003 ≤ k ∧ k ≤ 10012) → Q2 0 τ) → zI1 d 157 [.int (nI k), .int 10003, .int 10012] τ Q2 := fun Q2 g1 g0 => s_within (fun x y => g1 ⟨(nI_leI (a := 10003) (by omega) (by omega)).mp x, (nI_leI (b := 10012) (by omega) (by omega)).mp y⟩) (fun x => g0 (fun y => x ⟨(nI_leI (a := 10003) (by omega) (by omega)).mpr y.1, (nI_leI (b := 10012) (by omega) (by omega)).mpr y.2⟩))
  generalize cs.length = n at *
  show zk _ _ 0 [.ref 169, zun] [] _ _
  refine r_al0 zi_43_0 rfl ?_
  refine q_getR zi_43_1 rfl cf_169_0 ?_
  refine q_cIV zi_43_4 rfl rfl rfl rfl rfl rfl rfl cf_170_0.ob (htok _ ?_)
  show zk _ _ 7 _ _ _ _
  refine r_is1 zi_43_7 rfl ?_
  refine r_il1 zi_43_8 rfl ?_
  refine r_push zi_43_9 rfl ?_
  refine n_ic2 (i := k) (j := 10000) zi_43_12 rfl (by omega) (by omega) (fun c2 => ?_) (fun c2 => ?_)
  · refine r_al0 zi_43_37 rfl ?_
    refine q_getR zi_43_38 rfl cf_169_1 ?_
    refine r_il1 zi_43_41 rfl ?_
    refine q_cVV zi_43_42 rfl rfl rfl rfl rfl rfl rfl cf_173_0.ob (hlay (by omega) _ (fun g => ?_))
    show zk _ _ 45 _ _ _ _
    refine r_al0 zi_43_45 rfl ?_
    refine q_getR zi_43_46 rfl cf_169_0 ?_
    refine r_dupR zi_43_49 rfl ?_
    refine q_getIe zi_43_50 rfl cf_170_3 (v := nI j) (by first | exact h3 _ _ | ((repeat (first | rw [zup_ne (by first | decide | omega)] | rw [zup_nj (by first | decide | omega)] | rw [fil_ne (by first | decide | omega)])) <;> exact h3 _ _) | (simp [up_rd, fil_rd]; exact h3 _ _)) ?_
    refine r_push zi_43_53 rfl ?_
    refine r_b0 zi_43_54 rfl ?_
    rw [show (nI j + 1 : Int32) = nI (j + 1) from nI_add _ _]
    refine q_put zi_43_55 rfl cf_170_3 rfl ?_
    refine r_push zi_43_58 rfl ?_
    refine r_retZ zi_43_59 rfl (by decide) ?_
    exact ⟨_, rfl, g _ rfl (by omega)⟩
  · refine r_il1 zi_43_15 rfl ?_
    refine r_push zi_43_16 rfl ?_
    refine r_push zi_43_19 rfl ?_
    refine r_cIS zi_43_22 rfl rfl rfl rfl rfl rfl (hw _ (fun g => ?_) (fun g => ?_))
    · show zk _ _ 25 _ _ _ _
      refine r_if1 zi_43_25 rfl (fun _ => ?_) (fun c => absurd c (by decide))
      refine r_al0 zi_43_37 rfl ?_
      refine q_getR zi_43_38 rfl cf_169_1 ?_
      refine r_il1 zi_43_41 rfl ?_
      refine q_cVV zi_43_42 rfl rfl rfl rfl rfl rfl rfl cf_173_0.ob (hlay (by omega) _ (fun g => ?_))
      show zk _ _ 45 _ _ _ _
      refine r_al0 zi_43_45 rfl ?_
      refine q_getR zi_43_46 rfl cf_169_0 ?_
      refine r_dupR zi_43_49 rfl ?_
      refine q_getIe zi_43_50 rfl cf_170_3 (v := nI j) (by first | exact h3 _ _ | ((repeat (first | rw [zup_ne (by first | decide | omega)] | rw [zup_nj (by first | decide | omega)] | rw [fil_ne (by first | decide | omega)])) <;> exact h3 _ _) | (simp [up_rd, fil_rd]; exact h3 _ _)) ?_
      refine r_push zi_43_53 rfl ?_
      refine r_b0 zi_43_54 rfl ?_
      rw [show (nI j + 1 : Int32) = nI (j + 1) from nI_add _ _]
      refine q_put zi_43_55 rfl cf_170_3 rfl ?_
      refine r_push zi_43_58 rfl ?_
      refine r_retZ zi_43_59 rfl (by decide) ?_
      exact ⟨_, rfl, g _ rfl (by omega)⟩
    · show zk _ _ 25 _ _ _ _
      refine r_if1 zi_43_25 rfl (fun c => absurd (by decide) c) (fun _ => ?_)
      refine r_al0 zi_43_28 rfl ?_
      refine q_getR zi_43_29 rfl cf_169_0 ?_
      refine r_push zi_43_32 rfl ?_
      refine q_cIV zi_43_33 rfl rfl rfl rfl rfl rfl rfl cf_170_0.ob (hfail (by omega) _ (fun υ g => ?_))
      show zk _ _ 36 _ _ _ _
      refine r_retZ zi_43_36 rfl (by decide) ?_
      exact ⟨_, rfl, g⟩
theorem s_rpart {d N j : Nat} {τ : zS} {Q : Int32 → zS → Prop} {K S : Nat → Nat} {cs : List Nat} (hk : kTk τ K S N j) (hd : kDc τ cs) (hl : cs.length ≤ j) (h1 : K j < 10000 → K j ≠ 0 → ∀ υ, Fg pA τ υ → kTk υ K S N (j + 1) → kDc υ (cs ++ [K j]) → Q 1 υ) (h0 : 10000 ≤ K j → ∀ υ, Fg (pF pA) τ υ → υ 170 4 = 1 → υ 170 5 = nI (S j) → Q 0 υ) (h2 : K j = 0 → ∀ υ, Fg (pF pA) τ υ → υ 170 4 = 2 → υ 170 5 = nI (S j) → Q 0 υ) : zI1 (d + 1) 44 [.ref 169] τ Q := by
  have hb := tko_b (hk.2.2.2.2.2.2 j)
  have hne := fun z => kTk_ne hk z
  have hN := hk.2.2.1
  have h5 := hk.2.2.2.2.1
  have hfail : ∀ (c : Int32), (∀ υ, Fg (pF pA) τ υ → υ 170 4 = c → υ 170 5 = nI (S j) → Q 0 υ) → ∀ (Q2 : Int32 → zS → Prop), (∀ υ, Q 0 υ → Q2 0 υ) → zI1 d 104 [.ref 170, .int c] τ Q2 := fun c h0 Q2 h2 => s_fails hk (h2 _ (h0 _ (kfl Fg.rf) ((zup_nj (by decide)).trans zup_eq) zup_eq))
  have hf1 := fun z => hfail 1 (h0 z)
  have hf2 := fun z => hfail 2 (h2 z)
  clear hfail h0 h2
  have hlay : cs.length < 400 → ∀ (Q2 : zS → Prop), ((∀ n, n = nI (j + 1) → K j < 10000 → K j ≠ 0 → Q 1 (up (up (up τ 175 cs.length (nI (K j))) 173 3 (nI (cs.length + 1))) 170 3 n)) → Q2 (up (up τ 175 cs.length (nI (K j))) 173 3 (nI (cs.length + 1)))) → zV1 d 98 [.ref 173, .int (nI (K j))] τ Q2 := fun z Q2 h2 => s_lay hd z (fun hd2 => h2 (fun n hn g g2 => h1 g g2 _ (((Fg.rf.put (Or.inl rfl)).put (Or.inr (Or.inl ⟨rfl, rfl⟩))).put (Or.inr (Or.inr ⟨rfl, rfl⟩))) (kTk_n (i := j + 1) hk (((Fg.rf.put (Or.inl rfl)).put (Or.inr (Or.inl ⟨rfl, rfl⟩))).put (Or.inr (Or.inr ⟨rfl, rfl⟩))) (by rw [zup_eq, hn]) (hne (by omega))) (kDc_f hd2 (zup_ne (by decide)) (fun b => zup_ne (by decide)))))
  have h3 : ∀ a b : Int32, (up (up τ 175 cs.length a) 173 3 b) 170 3 = nI j := fun a b => ((zup_ne (by decide)).trans (zup_ne (by decide))).trans h5
  have htok : ∀ (Q2 : Int32 → zS → Prop), Q2 (nI (K j)) τ → zI1 d 103 [.ref 170] τ Q2 := fun Q2 h2 => s_tok hk h2
  generalize K j = k at *
  generalize cs.length = n at *
  show zk _ _ 0 [.ref 169, zun] [] _ _
  by_cases c1 : 10000 ≤ k
  · refine r_al0 zi_44_0 rfl ?_
    refine q_getR zi_44_1 rfl cf_169_0 ?_
    refine q_cIV zi_44_4 rfl rfl rfl rfl rfl rfl rfl cf_170_0.ob (htok _ ?_)
    show zk _ _ 7 _ _ _ _
    refine r_is1 zi_44_7 rfl ?_
    refine r_il1 zi_44_8 rfl ?_
    refine r_push zi_44_9 rfl ?_
    refine n_ic3 (i := k) (j := 10000) zi_44_12 rfl (by omega) (by omega) (fun _ => ?_) (fun c => absurd c (by omega))
    refine r_al0 zi_44_19 rfl ?_
    refine q_getR zi_44_20 rfl cf_169_0 ?_
    refine r_il1 zi_44_23 rfl ?_
    refine n_if1 (i := k) zi_44_24 rfl (by omega) (fun _ => ?_) (fun c => absurd c (by omega))
    refine r_push zi_44_31 rfl ?_
    refine q_cIV zi_44_32 rfl rfl rfl rfl rfl rfl rfl cf_170_0.ob (hf1 (by omega) _ (fun υ g => ?_))
    show zk _ _ 35 _ _ _ _
    refine r_retZ zi_44_35 rfl (by decide) ?_
    exact ⟨_, rfl, g⟩
  · by_cases c2 : k = 0
    · refine r_al0 zi_44_0 rfl ?_
      refine q_getR zi_44_1 rfl cf_169_0 ?_
      refine q_cIV zi_44_4 rfl rfl rfl rfl rfl rfl rfl cf_170_0.ob (htok _ ?_)
      show zk _ _ 7 _ _ _ _
      refine r_is1 zi_44_7 rfl ?_
      refine r_il1 zi_44_8 rfl ?_
      refine r_push zi_44_9 rfl ?_
      refine n_ic3 (i := k) (j := 10000) zi_44_12 rfl (by omega) (by omega) (fun c => absurd c (by omega)) (fun _ => ?_)
      refine r_il1 zi_44_15 rfl ?_
      refine n_if1 (i := k) zi_44_16 rfl (by omega) (fun c => absurd c (by omega)) (fun _ => ?_)
      refine r_al0 zi_44_19 rfl ?_
      refine q_getR zi_44_20 rfl cf_169_0 ?_
      refine r_il1 zi_44_23 rfl ?_
      refine n_if1 (i := k) zi_44_24 rfl (by omega) (fun c => absurd c (by omega)) (fun _ => ?_)
      refine r_push zi_44_27 rfl ?_
      refine r_goto zi_44_28 rfl ?_
      refine q_cIV zi_44_32 rfl rfl rfl rfl rfl rfl rfl cf_170_0.ob (hf2 c2 _ (fun υ g => ?_))
      show zk _ _ 35 _ _ _ _
      refine r_retZ zi_44_35 rfl (by decide) ?_
      exact ⟨_, rfl, g⟩
    · refine r_al0 zi_44_0 rfl ?_
      refine q_getR zi_44_1 rfl cf_169_0 ?_
      refine q_cIV zi_44_4 rfl rfl rfl rfl rfl rfl rfl cf_170_0.ob (htok _ ?_)
      show zk _ _ 7 _ _ _ _
      refine r_is1 zi_44_7 rfl ?_
      refine r_il1 zi_44_8 rfl ?_
      refine r_push zi_44_9 rfl ?_
      refine n_ic3 (i := k) (j := 10000) zi_44_12 rfl (by omega) (by omega) (fun c => absurd c (by omega)) (fun _ => ?_)
      refine r_il1 zi_44_15 rfl ?_
      refine n_if1 (i := k) zi_44_16 rfl (by omega) (fun _ => ?_) (fun c => absurd c (by omega))
      refine r_al0 zi_44_36 rfl ?_
      refine q_getR zi_44_37 rfl cf_169_1 ?_
      refine r_il1 zi_44_40 rfl ?_
      refine q_cVV zi_44_41 rfl rfl rfl rfl rfl rfl rfl cf_173_0.ob (hlay (by omega) _ (fun g => ?_))
      show zk _ _ 44 _ _ _ _
      refine r_al0 zi_44_44 rfl ?_
      refine q_getR zi_44_45 rfl cf_169_0 ?_
      refine r_dupR zi_44_48 rfl ?_
      refine q_getIe zi_44_49 rfl cf_170_3 (v := nI j) (by first | exact h3 _ _ | ((repeat (first | rw [zup_ne (by first | decide | omega)] | rw [zup_nj (by first | decide | omega)] | rw [fil_ne (by first | decide | omega)])) <;> exact h3 _ _) | (simp [up_rd, fil_rd]; exact h3 _ _)) ?_
      refine r_push zi_44_52 rfl ?_
      refine r_b0 zi_44_53 rfl ?_
      rw [show (nI j + 1 : Int32) = nI (j + 1) from nI_add _ _]
      refine q_put zi_44_54 rfl cf_170_3 rfl ?_
      refine r_push zi_44_57 rfl ?_
      refine r_retZ zi_44_58 rfl (by decide) ?_
      exact ⟨_, rfl, g _ rfl (by omega) c2⟩

