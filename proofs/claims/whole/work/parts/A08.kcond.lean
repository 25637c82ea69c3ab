/-! B in the class: what waits -/
def kPl (τ : zS) : List Nat → Prop
  | [] => True
  | x :: p => τ 176 p.length = nI x ∧ kPl τ p
theorem kPl_f {τ υ : zS} (h : ∀ b, υ 176 b = τ 176 b) : ∀ p, kPl τ p → kPl υ p
  | [], _ => trivial
  | x :: p, g => ⟨(h _).trans g.1, kPl_f h p g.2⟩
theorem kPl_up {τ : zS} {m : Nat} {v : Int32} : ∀ p : List Nat, p.length ≤ m → kPl τ p → kPl (up τ 176 m v) p
  | [], _, _ => trivial
  | x :: p, hl, g => by
    rw [List.length_cons] at hl
    exact ⟨(zup_nj (by omega)).trans g.1, kPl_up p (by omega) g.2⟩
def pC (a b : Nat) : Prop := a = 175 ∨ a = 176 ∨ (a = 173 ∧ b = 3) ∨ (a = 170 ∧ b = 3) ∨ (a = 169 ∧ (b = 3 ∨ b = 4))
def pL (a b : Nat) : Prop := a = 175 ∨ (a = 173 ∧ b = 3)
theorem pA_C {a b : Nat} (h : pA a b) : pC a b := by unfold pA at h; unfold pC; omega
theorem pL_C {a b : Nat} (h : pL a b) : pC a b := by unfold pL at h; unfold pC; omega
theorem kTk_m {τ υ : zS} {K S : Nat → Nat} {N j i : Nat} (h : kTk τ K S N j) (hF : ∀ a b, ¬ pC a b → υ a b = τ a b) (hn : υ 170 3 = nI i) (hi : i ≤ N) : kTk υ K S N i := by
  obtain ⟨h1, h2, h3, h4, h5, h6, h7⟩ := h
  refine ⟨(hF 170 2 (by unfold pC; omega)).trans h1, fun q hq => ⟨(hF 171 q (by unfold pC; omega)).trans (h2 q hq).1, (hF 172 q (by unfold pC; omega)).trans (h2 q hq).2⟩, h3, h4, hn, hi, h7⟩
def kCs (τ : zS) (K S : Nat → Nat) (N j : Nat) (cs p : List Nat) : Prop := kTk τ K S N j ∧ kDc τ cs ∧ τ 169 3 = nI p.length ∧ τ 169 4 = nI (opn p) ∧ kPl τ p ∧ cs.length + p.length ≤ j ∧ pok p ∧ opn p ≤ 8
theorem s_lay2 {d N q : Nat} {τ : zS} {Q : zS → Prop} {K S : Nat → Nat} {cs : List Nat} {k : Nat} (g2 : kTk τ K S N q) (g3 : kDc τ cs) (g4 : cs.length < 400) (k1 : ∀ υ, Fg pL τ υ → kTk υ K S N q → kDc υ (cs ++ [k]) → Q υ) : zV1 d 98 [.ref 173, .int (nI k)] τ Q :=
  s_lay g3 g4 (fun g5 => k1 _ ((Fg.rf.put (Or.inl rfl)).put (Or.inr ⟨rfl, rfl⟩)) (kTk_n g2 ((Fg.rf.put (Or.inl rfl)).put (Or.inr (Or.inl ⟨rfl, rfl⟩))) (((zup_ne (by decide)).trans (zup_ne (by decide))).trans g2.2.2.2.2.1) g2.2.2.2.2.2.1) g5)
theorem s_lastw {d : Nat} {τ : zS} {Q : Int32 → zS → Prop} {p : List Nat} (h3 : τ 169 3 = nI p.length) (hp : kPl τ p) (hl : p.length ≤ 32) (hq : Q (match p with | [] => -1 | x :: _ => nI x) τ) : zI1 d 50 [.ref 169] τ Q := by
  show zk _ _ 0 [.ref 169] [] _ _
  cases p with
  | nil =>
    have h3 : τ 169 3 = nI 0 := h3
    refine r_al0 zi_50_0 rfl ?_
    refine q_getIe zi_50_1 rfl cf_169_3 (v := nI 0) (by first | exact h3 | ((repeat (first | rw [zup_ne (by first | decide | omega)] | rw [zup_nj (by first | decide | omega)] | rw [fil_ne (by first | decide | omega)])) <;> exact h3) | (simp [up_rd, fil_rd]; exact h3)) ?_
    refine r_if5 zi_50_4 rfl (fun _ => ?_) (fun c => absurd (by decide) c)
    refine r_push zi_50_30 rfl ?_
    refine r_retI zi_50_31 rfl ?_
    exact ⟨_, rfl, hq⟩
  | cons x q =>
    have h3 : τ 169 3 = nI (q.length + 1) := h3
    have hx : τ 176 q.length = nI x := hp.1
    rw [List.length_cons] at hl
    generalize q.length = m at *
    refine r_al0 zi_50_0 rfl ?_
    refine q_getIe zi_50_1 rfl cf_169_3 (v := nI (m+1)) (by first | exact h3 | ((repeat (first | rw [zup_ne (by first | decide | omega)] | rw [zup_nj (by first | decide | omega)] | rw [fil_ne (by first | decide | omega)])) <;> exact h3) | (simp [up_rd, fil_rd]; exact h3)) ?_
    refine n_if5 (i := m+1) zi_50_4 rfl (by omega) (fun c => absurd c (by omega)) (fun _ => ?_)
    refine r_al0 zi_50_7 rfl ?_
    refine q_getIe zi_50_8 rfl cf_169_3 (v := nI (m+1)) (by first | exact h3 | ((repeat (first | rw [zup_ne (by first | decide | omega)] | rw [zup_nj (by first | decide | omega)] | rw [fil_ne (by first | decide | omega)])) <;> exact h3) | (simp [up_rd, fil_rd]; exact h3)) ?_
    refine r_push zi_50_11 rfl ?_
    refine n_ic4 (i := m+1) (j := 32) zi_50_13 rfl (by omega) (by omega) (fun c => absurd c (by omega)) (fun _ => ?_)
    refine r_al0 zi_50_16 rfl ?_
    refine q_getR zi_50_17 rfl cf_169_2 ?_
    refine r_al0 zi_50_20 rfl ?_
    refine q_getIe zi_50_21 rfl cf_169_3 (v := nI (m+1)) (by first | exact h3 | ((repeat (first | rw [zup_ne (by first | decide | omega)] | rw [zup_nj (by first | decide | omega)] | rw [fil_ne (by first | decide | omega)])) <;> exact h3) | (simp [up_rd, fil_rd]; exact h3)) ?_
    refine r_push zi_50_24 rfl ?_
    refine r_b1 zi_50_25 rfl ?_
    rw [show (nI (m+1) - 1 : Int32) = nI (m+1 - 1) from pk_sub (a := m+1) (b := 1) (by omega)]
    refine r_alde zi_50_26 rfl m ca_176 rfl (by omega) (u := nI x) (by first | exact hx | ((repeat (first | rw [zup_ne (by first | decide | omega)] | rw [zup_nj (by first | decide | omega)] | rw [fil_ne (by first | decide | omega)])) <;> exact hx) | (simp [up_rd, fil_rd]; exact hx)) ?_
    refine r_goto zi_50_27 rfl ?_
    refine r_retI zi_50_31 rfl ?_
    exact ⟨_, rfl, hq⟩
theorem s_await {d : Nat} {τ : zS} {Q : zS → Prop} {m : Nat} {k : Int32} (h3 : τ 169 3 = nI m) (hl : m < 32) (hq : Q (up (up τ 176 m k) 169 3 (nI (m + 1)))) : zV1 d 51 [.ref 169, .int k] τ Q := by
  show zk _ _ 0 [.ref 169, .int k] [] _ _
  refine r_al0 zi_51_0 rfl ?_
  refine q_getIe zi_51_1 rfl cf_169_3 (v := nI m) (by first | exact h3 | ((repeat (first | rw [zup_ne (by first | decide | omega)] | rw [zup_nj (by first | decide | omega)] | rw [fil_ne (by first | decide | omega)])) <;> exact h3) | (simp [up_rd, fil_rd]; exact h3)) ?_
  refine n_if2 (i := m) zi_51_4 rfl (by omega) (fun c => absurd c (by omega)) (fun _ => ?_)
  refine r_al0 zi_51_7 rfl ?_
  refine q_getIe zi_51_8 rfl cf_169_3 (v := nI m) (by first | exact h3 | ((repeat (first | rw [zup_ne (by first | decide | omega)] | rw [zup_nj (by first | decide | omega)] | rw [fil_ne (by first | decide | omega)])) <;> exact h3) | (simp [up_rd, fil_rd]; exact h3)) ?_
  refine r_push zi_51_11 rfl ?_
  refine n_ic3 (i := m) (j := 32) zi_51_13 rfl (by omega) (by omega) (fun c => absurd c (by omega)) (fun _ => ?_)
  refine r_al0 zi_51_16 rfl ?_
  refine q_getR zi_51_17 rfl cf_169_2 ?_
  refine r_al0 zi_51_20 rfl ?_
  refine q_getIe zi_51_21 rfl cf_169_3 (v := nI m) (by first | exact h3 | ((repeat (first | rw [zup_ne (by first | decide | omega)] | rw [zup_nj (by first | decide | omega)] | rw [fil_ne (by first | decide | omega)])) <;> exact h3) | (simp [up_rd, fil_rd]; exact h3)) ?_
  refine r_il1 zi_51_24 rfl ?_
  refine r_ast zi_51_25 rfl m ca_176 (by first | rfl | (simp only [zI_add, zI_mul] <;> rfl)) (by first | omega | decide) ?_
  refine r_al0 zi_51_26 rfl ?_
  refine r_dupR zi_51_27 rfl ?_
  refine q_getIe zi_51_28 rfl cf_169_3 (v := nI m) (by first | exact h3 | ((repeat (first | rw [zup_ne (by first | decide | omega)] | rw [zup_nj (by first | decide | omega)] | rw [fil_ne (by first | decide | omega)])) <;> exact h3) | (simp [up_rd, fil_rd]; exact h3)) ?_
  refine r_push zi_51_31 rfl ?_
  refine r_b0 zi_51_32 rfl ?_
  rw [show (nI m + 1 : Int32) = nI (m + 1) from nI_add _ _]
  refine q_put zi_51_33 rfl cf_169_3 rfl ?_
  refine r_ret zi_51_36 rfl ?_
  exact ⟨rfl, hq⟩
theorem l_nots {d N j : Nat} {σ : zS} {Q : zS → Prop} {K S : Nat → Nat} {cs0 p0 : List Nat} (hq : ∀ υ, Fg pC σ υ → kCs υ K S N j (ppo 10016 cs0 p0).1 (ppo 10016 cs0 p0).2 → Q υ) : ∀ (p cs : List Nat) (i : Nat) (τ : zS), ppo 10016 cs p = ppo 10016 cs0 p0 → i + opn p ≤ 8 → kCs τ K S N j cs p → Fg pC σ τ → zk (d + 1) 48 2 [.ref 169, .int (nI i)] [] τ (fun r t => r = none ∧ Q t) := by
  intro p
  induction p with
  | nil =>
    intro cs i τ he hi hc hF
    have h := hq τ hF (by rw [← he]; exact hc)
    have hlw : ∀ (Q2 : Int32 → zS → Prop), Q2 (-1) τ → zI1 d 50 [.ref 169] τ Q2 := fun Q2 h2 => s_lastw (p := []) hc.2.2.1 trivial (by decide) h2
    refine r_il1 zi_48_2 rfl ?_
    refine r_push zi_48_3 rfl ?_
    refine n_ic3 (i := i) (j := 8) zi_48_5 rfl (by omega) (by omega) (fun c1 => ?_) (fun c1 => ?_)
    · refine r_ret zi_48_54 rfl ?_
      exact ⟨rfl, h⟩
    · refine r_al0 zi_48_8 rfl ?_
      refine q_cIV zi_48_9 rfl rfl rfl rfl rfl rfl rfl cf_169_0.ob (hlw _ ?_)
      show zk _ _ 12 _ _ _ _
      refine r_push zi_48_12 rfl ?_
      refine r_ic1 zi_48_15 rfl (fun _ => ?_) (fun c => absurd c (by decide))
      refine r_ret zi_48_54 rfl ?_
      exact ⟨rfl, h⟩
  | cons x q ih =>
    intro cs i τ he hi hc hF
    obtain ⟨t1, t2, t3, t4, t5, t6, t7, t8⟩ := id hc
    have hl26 := pok_len t7 t8
    have hlw : ∀ (Q2 : Int32 → zS → Prop), Q2 (nI x) τ → zI1 d 50 [.ref 169] τ Q2 := fun Q2 h2 => s_lastw (p := x :: q) t3 t5 (by omega) h2
    have hx3 : x < 2 ^ 31 := by rcases t7.2 with e | e | ⟨e, _⟩ | ⟨e, _⟩ <;> omega
    by_cases c : x = 10016
    · have e1 : ppo 10016 cs (x :: q) = ppo 10016 (cs ++ [10016]) q := if_pos c
      have e2 : opn (x :: q) = opn q + 1 := by show (if x = 10016 ∨ x = 20040 then 1 else 0) + opn q = _; rw [if_pos (Or.inl c)]; exact Nat.add_comm _ _
      rw [e1] at he
      rw [e2] at hi t4 t8
      rw [List.length_cons] at t3 t6
      subst c
      have hN := t1.2.2.1
      have hjN := t1.2.2.2.2.2.1
      have hlay := fun (Q2 : zS → Prop) k1 => s_lay2 (d := d) (k := 10016) (Q := Q2) t1 t2 (by omega) k1
      have hnew : ∀ υ, Fg pL τ υ → kTk υ K S N j → kDc υ (cs ++ [10016]) → kCs (up (up υ 169 3 (nI q.length)) 169 4 (nI (opn q))) K S N j (cs ++ [10016]) q := fun υ x1 x2 x3 => ⟨kTk_m x2 (((Fg.rf (P := pC)).put (by unfold pC; omega)).put (by unfold pC; omega)) x2.2.2.2.2.1 t1.2.2.2.2.2.1, kDc_f x3 rfl (fun b => rfl), (zup_nj (by decide)).trans zup_eq, zup_eq, kPl_f (fun b => ((zup_ne (by decide)).trans (zup_ne (by decide))).trans (x1 176 b (by unfold pL; omega))) q t5.2, by rw [List.length_append, List.length_singleton]; omega, t7.1, by omega⟩
      have ih := fun υ x1 x2 x3 => ih (cs ++ [10016]) (i + 1) _ he (by omega) (hnew υ x1 x2 x3) (((hF.tr (x1.sub (fun a b => pL_C))).put (by unfold pC; omega)).put (by unfold pC; omega))
      have hw3 : ∀ υ, Fg pL τ υ → υ 169 3 = nI (q.length + 1) := fun υ x => (x 169 3 (by unfold pL; omega)).trans t3
      have hw4 : ∀ υ, Fg pL τ υ → υ 169 4 = nI (opn q + 1) := fun υ x => (x 169 4 (by unfold pL; omega)).trans t4
      generalize q.length = m at *
      generalize opn q = o at *
      refine r_il1 zi_48_2 rfl ?_
      refine r_push zi_48_3 rfl ?_
      refine n_ic3 (i := i) (j := 8) zi_48_5 rfl (by omega) (by omega) (fun c => absurd c (by omega)) (fun _ => ?_)
      refine r_al0 zi_48_8 rfl ?_
      refine q_cIV zi_48_9 rfl rfl rfl rfl rfl rfl rfl cf_169_0.ob (hlw _ ?_)
      show zk _ _ 12 _ _ _ _
      refine r_push zi_48_12 rfl ?_
      refine r_ic1 zi_48_15 rfl (fun c => absurd (by decide) c) (fun _ => ?_)
      refine r_al0 zi_48_18 rfl ?_
      refine q_getR zi_48_19 rfl cf_169_1 ?_
      refine r_push zi_48_22 rfl ?_
      refine q_cVV zi_48_25 rfl rfl rfl rfl rfl rfl rfl cf_173_0.ob (hlay _ (fun υ x1 x2 x3 => ?_))
      show zk _ _ 28 _ _ _ _
      refine r_al0 zi_48_28 rfl ?_
      refine r_dupR zi_48_29 rfl ?_
      refine q_getIe zi_48_30 rfl cf_169_3 (v := nI (m+1)) (by first | exact hw3 υ x1 | ((repeat (first | rw [zup_ne (by first | decide | omega)] | rw [zup_nj (by first | decide | omega)] | rw [fil_ne (by first | decide | omega)])) <;> exact hw3 υ x1) | (simp [up_rd, fil_rd]; exact hw3 υ x1)) ?_
      refine r_push zi_48_33 rfl ?_
      refine r_b1 zi_48_34 rfl ?_
      rw [show (nI (m+1) - 1 : Int32) = nI (m+1 - 1) from pk_sub (a := m+1) (b := 1) (by omega)]
      refine q_put zi_48_35 rfl cf_169_3 rfl ?_
      refine r_al0 zi_48_38 rfl ?_
      refine r_dupR zi_48_39 rfl ?_
      refine q_getIe zi_48_40 rfl cf_169_4 (v := nI (o+1)) (by first | exact (hw4 υ x1) | ((repeat (first | rw [zup_ne (by first | decide | omega)] | rw [zup_nj (by first | decide | omega)] | rw [fil_ne (by first | decide | omega)])) <;> exact (hw4 υ x1)) | (simp [up_rd, fil_rd]; exact (hw4 υ x1))) ?_
      refine r_push zi_48_43 rfl ?_
      refine r_b1 zi_48_44 rfl ?_
      rw [show (nI (o+1) - 1 : Int32) = nI (o+1 - 1) from pk_sub (a := o+1) (b := 1) (by omega)]
      refine q_put zi_48_45 rfl cf_169_4 rfl ?_
      refine r_in1 zi_48_48 rfl ?_
      rw [show (nI i + 1 : Int32) = nI (i + 1) from nI_add _ _]
      refine r_goto zi_48_51 rfl ?_
      exact ih υ x1 x2 x3
    · have e1 : ppo 10016 cs (x :: q) = (cs, x :: q) := if_neg c
      have h := hq τ hF (by rw [← he, e1]; exact hc)
      refine r_il1 zi_48_2 rfl ?_
      refine r_push zi_48_3 rfl ?_
      refine n_ic3 (i := i) (j := 8) zi_48_5 rfl (by omega) (by omega) (fun c1 => ?_) (fun c1 => ?_)
      · refine r_ret zi_48_54 rfl ?_
        exact ⟨rfl, h⟩
      · refine r_al0 zi_48_8 rfl ?_
        refine q_cIV zi_48_9 rfl rfl rfl rfl rfl rfl rfl cf_169_0.ob (hlw _ ?_)
        show zk _ _ 12 _ _ _ _
        refine r_push zi_48_12 rfl ?_
        refine n_ic1 (i := x) (j := 10016) zi_48_15 rfl (by omega) (by omega) (fun _ => ?_) (fun c => absurd c (by omega))
        refine r_ret zi_48_54 rfl ?_
        exact ⟨rfl, h⟩
theorem s_nots {d N j : Nat} {σ : zS} {Q : zS → Prop} {K S : Nat → Nat} {cs p : List Nat} (hc : kCs σ K S N j cs p) (hq : ∀ υ, Fg pC σ υ → kCs υ K S N j (ppo 10016 cs p).1 (ppo 10016 cs p).2 → Q υ) : zV1 (d + 1) 48 [.ref 169] σ Q := by
  have h8 := hc.2.2.2.2.2.2.2
  show zk _ _ 0 [.ref 169, zun] [] _ _
  refine r_push zi_48_0 rfl ?_
  refine r_is1 zi_48_1 rfl ?_
  exact l_nots hq p cs 0 _ rfl (by omega) hc Fg.rf
/-- joins come out: flag 1, AND alone -/
def pjf (g : Bool) (cs p : List Nat) : List Nat × List Nat := if g = true then ppo 10015 cs p else pjn cs p
theorem l_joins {d N j : Nat} {σ : zS} {Q : zS → Prop} {K S : Nat → Nat} {cs0 p0 : List Nat} {g : Bool} (hq : ∀ υ, Fg pC σ υ → kCs υ K S N j (pjf g cs0 p0).1 (pjf g cs0 p0).2 → Q υ) : ∀ (p cs : List Nat) (i : Nat) (τ : zS) (u : Value), pjf g cs p = pjf g cs0 p0 → i + p.length ≤ 32 → kCs τ K S N j cs p → Fg pC σ τ → zk (d + 1) 49 2 [.ref 169, .int (if g = true then 1 else 0), .int (nI i), u] [] τ (fun r t => r = none ∧ Q t) := by
  intro p
  induction p with
  | nil =>
    intro cs i τ u he hi hc hF
    have e1 : pjf g cs [] = (cs, []) := by cases g <;> rfl
    have h := hq τ hF (by rw [← he, e1]; exact hc)
    have hlw : ∀ (Q2 : Int32 → zS → Prop), Q2 (-1) τ → zI1 d 50 [.ref 169] τ Q2 := fun Q2 h2 => s_lastw (p := []) hc.2.2.1 trivial (by decide) h2
    generalize (if g = true then (1 : Int32) else 0) = gv at *
    refine r_il2 zi_49_2 rfl ?_
    refine r_push zi_49_3 rfl ?_
    refine n_ic3 (i := i) (j := 32) zi_49_5 rfl (by omega) (by omega) (fun c1 => ?_) (fun c1 => ?_)
    · refine r_ret zi_49_56 rfl ?_
      exact ⟨rfl, h⟩
    · refine r_al0 zi_49_8 rfl ?_
      refine q_cIV zi_49_9 rfl rfl rfl rfl rfl rfl rfl cf_169_0.ob (hlw _ ?_)
      show zk _ _ 12 _ _ _ _
      refine r_is3 zi_49_12 rfl ?_
      refine r_il3 zi_49_13 rfl ?_
      refine r_push zi_49_14 rfl ?_
      refine r_ic0 zi_49_17 rfl (fun c => absurd c (by decide)) (fun _ => ?_)
      refine r_il1 zi_49_20 rfl ?_
      refine r_if1 zi_49_21 rfl (fun c3 => ?_) (fun c3 => ?_)
      · refine r_ret zi_49_31 rfl ?_
        exact ⟨rfl, h⟩
      · refine r_il3 zi_49_24 rfl ?_
        refine r_push zi_49_25 rfl ?_
        refine r_ic0 zi_49_28 rfl (fun c => absurd c (by decide)) (fun _ => ?_)
        refine r_ret zi_49_31 rfl ?_
        exact ⟨rfl, h⟩
  | cons x q ih =>
    intro cs i τ u he hi hc hF
    obtain ⟨t1, t2, t3, t4, t5, t6, t7, t8⟩ := id hc
    have hl26 := pok_len t7 t8
    have hlw : ∀ (Q2 : Int32 → zS → Prop), Q2 (nI x) τ → zI1 d 50 [.ref 169] τ Q2 := fun Q2 h2 => s_lastw (p := x :: q) t3 t5 (by omega) h2
    have hx3 : x < 2 ^ 31 := by rcases t7.2 with e | e | ⟨e, _⟩ | ⟨e, _⟩ <;> omega
    rw [List.length_cons] at hi t3 t6
    by_cases c : x = 10015 ∨ (x = 10014 ∧ g = false)
    · have e1 : pjf g cs (x :: q) = pjf g (cs ++ [x]) q := by
        cases g with
        | true =>
          have cx : x = 10015 := c.resolve_right (fun z => by cases z.2)
          show ppo 10015 cs (x :: q) = ppo 10015 (cs ++ [x]) q
          rw [show ppo 10015 cs (x :: q) = ppo 10015 (cs ++ [10015]) q from if_pos cx, cx]
        | false => exact if_pos (c.imp id (fun z => z.1))
      have e2 : opn (x :: q) = opn q := by show (if x = 10016 ∨ x = 20040 then 1 else 0) + opn q = _; rw [if_neg (fun z => by omega), Nat.zero_add]
      rw [e1] at he
      rw [e2] at t4 t8
      have hN := t1.2.2.1
      have hjN := t1.2.2.2.2.2.1
      have hlay := fun (Q2 : zS → Prop) k1 => s_lay2 (d := d) (k := x) (Q := Q2) t1 t2 (by omega) k1
      have hnew : ∀ υ, Fg pL τ υ → kTk υ K S N j → kDc υ (cs ++ [x]) → kCs (up υ 169 3 (nI q.length)) K S N j (cs ++ [x]) q := fun υ x1 x2 x3 => ⟨kTk_m x2 ((Fg.rf (P := pC)).put (by unfold pC; omega)) x2.2.2.2.2.1 t1.2.2.2.2.2.1, kDc_f x3 rfl (fun b => rfl), zup_eq, (zup_nj (by decide)).trans ((x1 169 4 (by unfold pL; omega)).trans t4), kPl_f (fun b => (zup_ne (by decide)).trans (x1 176 b (by unfold pL; omega))) q t5.2, by rw [List.length_append, List.length_singleton]; omega, t7.1, t8⟩
      have ih := fun υ u x1 x2 x3 => ih (cs ++ [x]) (i + 1) _ u he (by omega) (hnew υ x1 x2 x3) ((hF.tr (x1.sub (fun a b => pL_C))).put (by unfold pC; omega))
      have hw3 : ∀ υ, Fg pL τ υ → υ 169 3 = nI (q.length + 1) := fun υ x => (x 169 3 (by unfold pL; omega)).trans t3
      generalize q.length = m at *
      by_cases c5 : x = 10015
      · generalize (if g = true then (1 : Int32) else 0) = gv at *
        refine r_il2 zi_49_2 rfl ?_
        refine r_push zi_49_3 rfl ?_
        refine n_ic3 (i := i) (j := 32) zi_49_5 rfl (by omega) (by omega) (fun c => absurd c (by omega)) (fun _ => ?_)
        refine r_al0 zi_49_8 rfl ?_
        refine q_cIV zi_49_9 rfl rfl rfl rfl rfl rfl rfl cf_169_0.ob (hlw _ ?_)
        show zk _ _ 12 _ _ _ _
        refine r_is3 zi_49_12 rfl ?_
        refine r_il3 zi_49_13 rfl ?_
        refine r_push zi_49_14 rfl ?_
        refine n_ic0 (i := x) (j := 10015) zi_49_17 rfl (by omega) (by omega) (fun _ => ?_) (fun c => absurd c (by omega))
        refine r_al0 zi_49_32 rfl ?_
        refine q_getR zi_49_33 rfl cf_169_1 ?_
        refine r_il3 zi_49_36 rfl ?_
        refine q_cVV zi_49_37 rfl rfl rfl rfl rfl rfl rfl cf_173_0.ob (hlay _ (fun υ x1 x2 x3 => ?_))
        show zk _ _ 40 _ _ _ _
        refine r_al0 zi_49_40 rfl ?_
        refine r_dupR zi_49_41 rfl ?_
        refine q_getIe zi_49_42 rfl cf_169_3 (v := nI (m+1)) (by first | exact hw3 υ x1 | ((repeat (first | rw [zup_ne (by first | decide | omega)] | rw [zup_nj (by first | decide | omega)] | rw [fil_ne (by first | decide | omega)])) <;> exact hw3 υ x1) | (simp [up_rd, fil_rd]; exact hw3 υ x1)) ?_
        refine r_push zi_49_45 rfl ?_
        refine r_b1 zi_49_46 rfl ?_
        rw [show (nI (m+1) - 1 : Int32) = nI (m+1 - 1) from pk_sub (a := m+1) (b := 1) (by omega)]
        refine q_put zi_49_47 rfl cf_169_3 rfl ?_
        refine r_in2 zi_49_50 rfl ?_
        rw [show (nI i + 1 : Int32) = nI (i + 1) from nI_add _ _]
        refine r_goto zi_49_53 rfl ?_
        exact ih υ _ x1 x2 x3
      · have c6 := c.resolve_left c5
        have ih : ∀ υ u, Fg pL τ υ → kTk υ K S N j → kDc υ (cs ++ [x]) → zk (d + 1) 49 2 [.ref 169, .int 0, .int (nI (i + 1)), u] [] (up υ 169 3 (nI m)) (fun r t => r = none ∧ Q t) := fun υ u x1 x2 x3 => by
          have := ih υ u x1 x2 x3
          rw [if_neg (by rw [c6.2]; decide)] at this
          exact this
        rw [if_neg (by rw [c6.2]; decide)]
        have c61 := c6.1
        refine r_il2 zi_49_2 rfl ?_
        refine r_push zi_49_3 rfl ?_
        refine n_ic3 (i := i) (j := 32) zi_49_5 rfl (by omega) (by omega) (fun c => absurd c (by omega)) (fun _ => ?_)
        refine r_al0 zi_49_8 rfl ?_
        refine q_cIV zi_49_9 rfl rfl rfl rfl rfl rfl rfl cf_169_0.ob (hlw _ ?_)
        show zk _ _ 12 _ _ _ _
        refine r_is3 zi_49_12 rfl ?_
        refine r_il3 zi_49_13 rfl ?_
        refine r_push zi_49_14 rfl ?_
        refine n_ic0 (i := x) (j := 10015) zi_49_17 rfl (by omega) (by omega) (fun c => absurd c (by omega)) (fun _ => ?_)
        refine r_il1 zi_49_20 rfl ?_
        refine r_if1 zi_49_21 rfl (fun c => absurd (by decide) c) (fun _ => ?_)
        refine r_il3 zi_49_24 rfl ?_
        refine r_push zi_49_25 rfl ?_
        refine n_ic0 (i := x) (j := 10014) zi_49_28 rfl (by omega) (by omega) (fun _ => ?_) (fun c => absurd c (by omega))
        refine r_al0 zi_49_32 rfl ?_
        refine q_getR zi_49_33 rfl cf_169_1 ?_
        refine r_il3 zi_49_36 rfl ?_
        refine q_cVV zi_49_37 rfl rfl rfl rfl rfl rfl rfl cf_173_0.ob (hlay _ (fun υ x1 x2 x3 => ?_))
        show zk _ _ 40 _ _ _ _
        refine r_al0 zi_49_40 rfl ?_
        refine r_dupR zi_49_41 rfl ?_
        refine q_getIe zi_49_42 rfl cf_169_3 (v := nI (m+1)) (by first | exact hw3 υ x1 | ((repeat (first | rw [zup_ne (by first | decide | omega)] | rw [zup_nj (by first | decide | omega)] | rw [fil_ne (by first | decide | omega)])) <;> exact hw3 υ x1) | (simp [up_rd, fil_rd]; exact hw3 υ x1)) ?_
        refine r_push zi_49_45 rfl ?_
        refine r_b1 zi_49_46 rfl ?_
        rw [show (nI (m+1) - 1 : Int32) = nI (m+1 - 1) from pk_sub (a := m+1) (b := 1) (by omega)]
        refine q_put zi_49_47 rfl cf_169_3 rfl ?_
        refine r_in2 zi_49_50 rfl ?_
        rw [show (nI i + 1 : Int32) = nI (i + 1) from nI_add _ _]
        refine r_goto zi_49_53 rfl ?_
        exact ih υ _ x1 x2 x3
    · have e1 : pjf g cs (x :: q) = (cs, x :: q) := by
        cases g with
        | true => exact if_neg (fun z => c (Or.inl z))
        | false => exact if_neg (fun (z : x = 10015 ∨ x = 10014) => c (z.imp id (fun y => ⟨y, rfl⟩)))
      have h := hq τ hF (by rw [← he, e1]; exact hc)
      have c5 : ¬ x = 10015 := fun z => c (Or.inl z)
      cases g with
      | true =>
        rw [if_pos rfl]
        refine r_il2 zi_49_2 rfl ?_
        refine r_push zi_49_3 rfl ?_
        refine n_ic3 (i := i) (j := 32) zi_49_5 rfl (by omega) (by omega) (fun c1 => ?_) (fun c1 => ?_)
        · refine r_ret zi_49_56 rfl ?_
          exact ⟨rfl, h⟩
        · refine r_al0 zi_49_8 rfl ?_
          refine q_cIV zi_49_9 rfl rfl rfl rfl rfl rfl rfl cf_169_0.ob (hlw _ ?_)
          show zk _ _ 12 _ _ _ _
          refine r_is3 zi_49_12 rfl ?_
          refine r_il3 zi_49_13 rfl ?_
          refine r_push zi_49_14 rfl ?_
          refine n_ic0 (i := x) (j := 10015) zi_49_17 rfl (by omega) (by omega) (fun c => absurd c (by omega)) (fun _ => ?_)
          refine r_il1 zi_49_20 rfl ?_
          refine r_if1 zi_49_21 rfl (fun _ => ?_) (fun c => absurd c (by decide))
          refine r_ret zi_49_31 rfl ?_
          exact ⟨rfl, h⟩
      | false =>
        have c6 : ¬ x = 10014 := fun z => c (Or.inr ⟨z, rfl⟩)
        rw [if_neg (by decide)]
        refine r_il2 zi_49_2 rfl ?_
        refine r_push zi_49_3 rfl ?_
        refine n_ic3 (i := i) (j := 32) zi_49_5 rfl (by omega) (by omega) (fun c1 => ?_) (fun c1 => ?_)
        · refine r_ret zi_49_56 rfl ?_
          exact ⟨rfl, h⟩
        · refine r_al0 zi_49_8 rfl ?_
          refine q_cIV zi_49_9 rfl rfl rfl rfl rfl rfl rfl cf_169_0.ob (hlw _ ?_)
          show zk _ _ 12 _ _ _ _
          refine r_is3 zi_49_12 rfl ?_
          refine r_il3 zi_49_13 rfl ?_
          refine r_push zi_49_14 rfl ?_
          refine n_ic0 (i := x) (j := 10015) zi_49_17 rfl (by omega) (by omega) (fun c => absurd c (by omega)) (fun _ => ?_)
          refine r_il1 zi_49_20 rfl ?_
          refine r_if1 zi_49_21 rfl (fun c => absurd (by decide) c) (fun _ => ?_)
          refine r_il3 zi_49_24 rfl ?_
          refine r_push zi_49_25 rfl ?_
          refine n_ic0 (i := x) (j := 10014) zi_49_28 rfl (by omega) (by omega) (fun c => absurd c (by omega)) (fun _ => ?_)
          refine r_ret zi_49_31 rfl ?_
          exact ⟨rfl, h⟩
theorem s_joins {d N j : Nat} {σ : zS} {Q : zS → Prop} {K S : Nat → Nat} {cs p : List Nat} {g : Bool} {gv : Int32} (hg : gv = if g = true then 1 else 0) (hc : kCs σ K S N j cs p) (hq : ∀ υ, Fg pC σ υ → kCs υ K S N j (pjf g cs p).1 (pjf g cs p).2 → Q υ) : zV1 (d + 1) 49 [.ref 169, .int gv] σ Q := by
  have h8 := pok_len hc.2.2.2.2.2.2.1 hc.2.2.2.2.2.2.2
  subst hg
  show zk _ _ 0 [.ref 169, .int (if g = true then 1 else 0), zun, zun] [] _ _
  refine r_push zi_49_0 rfl ?_
  refine r_is2 zi_49_1 rfl ?_
  exact l_joins hq p cs 0 _ _ rfl (by omega) hc Fg.rf

