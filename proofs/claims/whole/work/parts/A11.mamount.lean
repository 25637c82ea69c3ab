/-! E in the model -/
def zdo (v : Nat) : Nat := if v < 10000 then 0 else if v = 10016 then 9 else if v = 10015 then 10 else if v = 10014 then 11 else if v < 20000 then 1 else if v = 20043 then 2 else if v = 20045 then 3 else if v = 20042 then 4 else if v = 20047 then 5 else if v = 20060 then 6 else if v = 20061 then 7 else 8
def zda (v : Nat) : Nat := if v < 10000 then v else if 10003 ≤ v ∧ v ≤ 10012 then v - 10003 else 0
/-- the model's codes of the draft -/
def mDc (τ : zS) (cs : List Nat) : Prop := τ 195 25 = nI cs.length ∧ ∀ i, i < cs.length → τ 209 (800 + i) = nI (zdo (cs.getD i 0)) ∧ τ 210 (800 + i) = nI (zda (cs.getD i 0))
def mA (a b : Nat) : Prop := (a = 209 ∧ 800 ≤ b) ∨ (a = 210 ∧ 800 ≤ b) ∨ (a = 195 ∧ (b = 12 ∨ b = 13 ∨ b = 14 ∨ b = 15 ∨ b = 25 ∨ b = 29 ∨ b = 30))
def mE (a b : Nat) : Prop := (a = 209 ∧ 800 ≤ b) ∨ (a = 210 ∧ 800 ≤ b) ∨ (a = 195 ∧ b = 25)
theorem mR_A {a b : Nat} (h : mR a b) : mA a b := by unfold mR at h; unfold mA; omega
theorem mE_A {a b : Nat} (h : mE a b) : mA a b := by unfold mE at h; unfold mA; omega
theorem mTk_f {τ υ : zS} {t : Nat → Nat} {b i : Nat} (h : mTk τ t b i) (h1 : ∀ q, 11 ≤ q → q ≤ 15 → υ 195 q = τ 195 q) (h2 : ∀ q, υ 202 q = τ 202 q) (h3 : ∀ q, υ 203 q = τ 203 q) : mTk υ t b i := by
  obtain ⟨g1, g2, g3, g4⟩ := h
  refine ⟨mTc_f g1 (h1 11 (by omega) (by omega)) h2 h3, (h1 13 (by omega) (by omega)).trans g2, (h1 12 (by omega) (by omega)).trans g3, ?_⟩
  rw [h1 14 (by omega) (by omega), h1 15 (by omega) (by omega)]
  exact g4
theorem mDc_f {τ υ : zS} {cs : List Nat} (h : mDc τ cs) (h3 : υ 195 25 = τ 195 25) (h5 : ∀ b, υ 209 b = τ 209 b) (h6 : ∀ b, υ 210 b = τ 210 b) : mDc υ cs := ⟨h3.trans h.1, fun i hi => ⟨(h5 _).trans (h.2 i hi).1, (h6 _).trans (h.2 i hi).2⟩⟩
theorem s_emits {d : Nat} {τ : zS} {Q : zS → Prop} {cs : List Nat} {k : Nat} {o a : Int32} (h : mDc τ cs) (hl : cs.length < 400) (ho : o = nI (zdo k)) (ha : a = nI (zda k)) (hq : ∀ υ, Fg mE τ υ → mDc υ (cs ++ [k]) → Q υ) : zV1 d 197 [.ref 195, .int o, .int a] τ Q := by
  have hm : mDc (up (up (up τ 209 (800 + cs.length) o) 210 (800 + cs.length) a) 195 25 (nI (cs.length + 1))) (cs ++ [k]) := by
    refine ⟨by rw [zup_eq, List.length_append]; rfl, fun i hi => ?_⟩
    rw [List.length_append, List.length_singleton] at hi
    rw [zup_ne (by decide), zup_ne (show (209 : Nat) ≠ 210 by decide), zup_ne (show (210 : Nat) ≠ 195 by decide)]
    rw [List.getD_eq_getElem?_getD]
    by_cases e : i = cs.length
    · subst e
      rw [zup_eq, zup_eq, List.getElem?_append_right (Nat.le_refl _), Nat.sub_self]
      exact ⟨ho, ha⟩
    · rw [zup_nj (by omega), zup_nj (by omega), zup_ne (show (210 : Nat) ≠ 209 by decide), List.getElem?_append_left (by omega), ← List.getD_eq_getElem?_getD]
      exact h.2 i (by omega)
  have hq := hq _ (((Fg.rf.put (by unfold mE; omega)).put (by unfold mE; omega)).put (by unfold mE; omega)) hm
  have h1 := h.1
  clear hm h
  generalize cs.length = n at *
  show zk _ _ 0 [.ref 195, .int o, .int a] [] _ _
  refine r_al0 zi_197_0 rfl ?_
  refine q_getR zi_197_1 rfl cf_195_22 ?_
  refine r_push zi_197_4 rfl ?_
  refine r_al0 zi_197_7 rfl ?_
  refine q_getIe zi_197_8 rfl cf_195_25 (v := nI n) (by first | exact h1 | ((repeat (first | rw [zup_ne (by first | decide | omega)] | rw [zup_nj (by first | decide | omega)] | rw [fil_ne (by first | decide | omega)])) <;> exact h1) | (simp [up_rd, fil_rd]; exact h1)) ?_
  refine r_b0 zi_197_11 rfl ?_
  rw [show (800 + nI n : Int32) = nI (800 + n) from nI_add _ _]
  refine r_il1 zi_197_12 rfl ?_
  refine r_ast zi_197_13 rfl (800 + n) ca_209 (by first | rfl | (simp only [zI_add, zI_mul] <;> rfl)) (by first | omega | decide) ?_
  refine r_al0 zi_197_14 rfl ?_
  refine q_getR zi_197_15 rfl cf_195_23 ?_
  refine r_push zi_197_18 rfl ?_
  refine r_al0 zi_197_21 rfl ?_
  refine q_getIe zi_197_22 rfl cf_195_25 (v := nI n) (by first | exact h1 | ((repeat (first | rw [zup_ne (by first | decide | omega)] | rw [zup_nj (by first | decide | omega)] | rw [fil_ne (by first | decide | omega)])) <;> exact h1) | (simp [up_rd, fil_rd]; exact h1)) ?_
  refine r_b0 zi_197_25 rfl ?_
  rw [show (800 + nI n : Int32) = nI (800 + n) from nI_add _ _]
  refine r_il2 zi_197_26 rfl ?_
  refine r_ast zi_197_27 rfl (800 + n) ca_210 (by first | rfl | (simp only [zI_add, zI_mul] <;> rfl)) (by first | omega | decide) ?_
  refine r_al0 zi_197_28 rfl ?_
  refine r_al0 zi_197_29 rfl ?_
  refine q_getIe zi_197_30 rfl cf_195_25 (v := nI n) (by first | exact h1 | ((repeat (first | rw [zup_ne (by first | decide | omega)] | rw [zup_nj (by first | decide | omega)] | rw [fil_ne (by first | decide | omega)])) <;> exact h1) | (simp [up_rd, fil_rd]; exact h1)) ?_
  refine r_push zi_197_33 rfl ?_
  refine r_b0 zi_197_34 rfl ?_
  rw [show (nI n + 1 : Int32) = nI (n + 1) from nI_add _ _]
  refine q_put zi_197_35 rfl cf_195_25 rfl ?_
  refine r_ret zi_197_38 rfl ?_
  exact ⟨rfl, hq⟩
theorem s_msign {d v c : Nat} {σ : zS} {Q : Int32 → zS → Prop} (hk : mkd v (σ 195 14) (σ 195 15)) (hc : c < 256) (h1 : v = 20000 + c → Q 1 σ) (h0 : ¬ v = 20000 + c → Q 0 σ) : zI1 d 196 [.ref 195, .int (nI c)] σ Q := by
  show zk _ _ 0 [.ref 195, .int (nI c)] [] _ _
  rcases hk with ⟨h, e1, e2⟩ | ⟨q, hq, h, e1, e2⟩ | ⟨q, hq, h, e1, e2⟩ | ⟨h, e1⟩ | ⟨h, e1⟩
  · have h0 := h0 (by omega)
    refine r_al0 zi_196_0 rfl ?_
    refine q_getIe zi_196_1 rfl cf_195_14 (v := 3) (by first | exact e1 | ((repeat (first | rw [zup_ne (by first | decide | omega)] | rw [zup_nj (by first | decide | omega)] | rw [fil_ne (by first | decide | omega)])) <;> exact e1) | (simp [up_rd, fil_rd]; exact e1)) ?_
    refine r_push zi_196_4 rfl ?_
    refine r_ic1 zi_196_5 rfl (fun _ => ?_) (fun c => absurd c (by decide))
    refine r_push zi_196_20 rfl ?_
    refine r_retZ zi_196_21 rfl (by decide) ?_
    exact ⟨_, rfl, h0⟩
  · have h0 := h0 (by omega)
    refine r_al0 zi_196_0 rfl ?_
    refine q_getIe zi_196_1 rfl cf_195_14 (v := 2) (by first | exact e1 | ((repeat (first | rw [zup_ne (by first | decide | omega)] | rw [zup_nj (by first | decide | omega)] | rw [fil_ne (by first | decide | omega)])) <;> exact e1) | (simp [up_rd, fil_rd]; exact e1)) ?_
    refine r_push zi_196_4 rfl ?_
    refine r_ic1 zi_196_5 rfl (fun _ => ?_) (fun c => absurd c (by decide))
    refine r_push zi_196_20 rfl ?_
    refine r_retZ zi_196_21 rfl (by decide) ?_
    exact ⟨_, rfl, h0⟩
  · have hq2 : q < 256 := by simp only [tkS, decide_eq_true_eq] at hq; omega
    by_cases e : q = c
    · have h1 := h1 (by omega)
      refine r_al0 zi_196_0 rfl ?_
      refine q_getIe zi_196_1 rfl cf_195_14 (v := 4) (by first | exact e1 | ((repeat (first | rw [zup_ne (by first | decide | omega)] | rw [zup_nj (by first | decide | omega)] | rw [fil_ne (by first | decide | omega)])) <;> exact e1) | (simp [up_rd, fil_rd]; exact e1)) ?_
      refine r_push zi_196_4 rfl ?_
      refine r_ic1 zi_196_5 rfl (fun c => absurd (by decide) c) (fun _ => ?_)
      refine r_al0 zi_196_8 rfl ?_
      refine q_getIe zi_196_9 rfl cf_195_15 (v := nI q) (by first | exact e2 | ((repeat (first | rw [zup_ne (by first | decide | omega)] | rw [zup_nj (by first | decide | omega)] | rw [fil_ne (by first | decide | omega)])) <;> exact e2) | (simp [up_rd, fil_rd]; exact e2)) ?_
      refine r_il1 zi_196_12 rfl ?_
      refine n_ic1 (i := q) (j := c) zi_196_13 rfl (by omega) (by omega) (fun c => absurd c (by omega)) (fun _ => ?_)
      refine r_push zi_196_16 rfl ?_
      refine r_goto zi_196_17 rfl ?_
      refine r_retZ zi_196_21 rfl (by decide) ?_
      exact ⟨_, rfl, h1⟩
    · have h0 := h0 (by omega)
      refine r_al0 zi_196_0 rfl ?_
      refine q_getIe zi_196_1 rfl cf_195_14 (v := 4) (by first | exact e1 | ((repeat (first | rw [zup_ne (by first | decide | omega)] | rw [zup_nj (by first | decide | omega)] | rw [fil_ne (by first | decide | omega)])) <;> exact e1) | (simp [up_rd, fil_rd]; exact e1)) ?_
      refine r_push zi_196_4 rfl ?_
      refine r_ic1 zi_196_5 rfl (fun c => absurd (by decide) c) (fun _ => ?_)
      refine r_al0 zi_196_8 rfl ?_
      refine q_getIe zi_196_9 rfl cf_195_15 (v := nI q) (by first | exact e2 | ((repeat (first | rw [zup_ne (by first | decide | omega)] | rw [zup_nj (by first | decide | omega)] | rw [fil_ne (by first | decide | omega)])) <;> exact e2) | (simp [up_rd, fil_rd]; exact e2)) ?_
      refine r_il1 zi_196_12 rfl ?_
      refine n_ic1 (i := q) (j := c) zi_196_13 rfl (by omega) (by omega) (fun _ => ?_) (fun c => absurd c (by omega))
      refine r_push zi_196_20 rfl ?_
      refine r_retZ zi_196_21 rfl (by decide) ?_
      exact ⟨_, rfl, h0⟩
  · have h0 := h0 (by omega)
    refine r_al0 zi_196_0 rfl ?_
    refine q_getIe zi_196_1 rfl cf_195_14 (v := 1) (by first | exact e1 | ((repeat (first | rw [zup_ne (by first | decide | omega)] | rw [zup_nj (by first | decide | omega)] | rw [fil_ne (by first | decide | omega)])) <;> exact e1) | (simp [up_rd, fil_rd]; exact e1)) ?_
    refine r_push zi_196_4 rfl ?_
    refine r_ic1 zi_196_5 rfl (fun _ => ?_) (fun c => absurd c (by decide))
    refine r_push zi_196_20 rfl ?_
    refine r_retZ zi_196_21 rfl (by decide) ?_
    exact ⟨_, rfl, h0⟩
  · have h0 := h0 (by omega)
    refine r_al0 zi_196_0 rfl ?_
    refine q_getIe zi_196_1 rfl cf_195_14 (v := 0) (by first | exact e1 | ((repeat (first | rw [zup_ne (by first | decide | omega)] | rw [zup_nj (by first | decide | omega)] | rw [fil_ne (by first | decide | omega)])) <;> exact e1) | (simp [up_rd, fil_rd]; exact e1)) ?_
    refine r_push zi_196_4 rfl ?_
    refine r_ic1 zi_196_5 rfl (fun _ => ?_) (fun c => absurd c (by decide))
    refine r_push zi_196_20 rfl ?_
    refine r_retZ zi_196_21 rfl (by decide) ?_
    exact ⟨_, rfl, h0⟩
theorem tkm_b {q : Nat} (h : q < 28) : tkm q < 28 := by unfold tkm; split <;> (try split) <;> (try split) <;> omega
theorem tkm_i {q p : Nat} (hq : q < 28) (hp : p < 28) (h : tkm q = tkm p) : q = p := by
  unfold tkm at h
  (repeat' split at h) <;> omega
theorem s_mwrd {d v c : Nat} {σ : zS} {Q : Int32 → zS → Prop} (hk : mkd v (σ 195 14) (σ 195 15)) (hc : c < 28) (h1 : v = 10000 + c → Q 1 σ) (h0 : ¬ v = 10000 + c → Q 0 σ) : zI1 d 195 [.ref 195, .int (nI (tkm c))] σ Q := by
  have hb := tkm_b hc
  show zk _ _ 0 [.ref 195, .int (nI (tkm c))] [] _ _
  rcases hk with ⟨h, e1, e2⟩ | ⟨q, hq, h, e1, e2⟩ | ⟨q, hq, h, e1, e2⟩ | ⟨h, e1⟩ | ⟨h, e1⟩
  · have h0 := h0 (by omega)
    refine r_al0 zi_195_0 rfl ?_
    refine q_getIe zi_195_1 rfl cf_195_14 (v := 3) (by first | exact e1 | ((repeat (first | rw [zup_ne (by first | decide | omega)] | rw [zup_nj (by first | decide | omega)] | rw [fil_ne (by first | decide | omega)])) <;> exact e1) | (simp [up_rd, fil_rd]; exact e1)) ?_
    refine r_push zi_195_4 rfl ?_
    refine r_ic1 zi_195_5 rfl (fun _ => ?_) (fun c => absurd c (by decide))
    refine r_push zi_195_20 rfl ?_
    refine r_retZ zi_195_21 rfl (by decide) ?_
    exact ⟨_, rfl, h0⟩
  · have hbq := tkm_b hq
    have hi := tkm_i hq hc
    have hi2 : q = c → tkm q = tkm c := fun e => by rw [e]
    generalize tkm q = x at *
    generalize tkm c = y at *
    by_cases e : x = y
    · have h1 := h1 (by have := hi e; omega)
      refine r_al0 zi_195_0 rfl ?_
      refine q_getIe zi_195_1 rfl cf_195_14 (v := 2) (by first | exact e1 | ((repeat (first | rw [zup_ne (by first | decide | omega)] | rw [zup_nj (by first | decide | omega)] | rw [fil_ne (by first | decide | omega)])) <;> exact e1) | (simp [up_rd, fil_rd]; exact e1)) ?_
      refine r_push zi_195_4 rfl ?_
      refine r_ic1 zi_195_5 rfl (fun c => absurd (by decide) c) (fun _ => ?_)
      refine r_al0 zi_195_8 rfl ?_
      refine q_getIe zi_195_9 rfl cf_195_15 (v := nI x) (by first | exact e2 | ((repeat (first | rw [zup_ne (by first | decide | omega)] | rw [zup_nj (by first | decide | omega)] | rw [fil_ne (by first | decide | omega)])) <;> exact e2) | (simp [up_rd, fil_rd]; exact e2)) ?_
      refine r_il1 zi_195_12 rfl ?_
      refine n_ic1 (i := x) (j := y) zi_195_13 rfl (by omega) (by omega) (fun c => absurd c (by omega)) (fun _ => ?_)
      refine r_push zi_195_16 rfl ?_
      refine r_goto zi_195_17 rfl ?_
      refine r_retZ zi_195_21 rfl (by decide) ?_
      exact ⟨_, rfl, h1⟩
    · have h0 := h0 (fun z => e (hi2 (by omega)))
      refine r_al0 zi_195_0 rfl ?_
      refine q_getIe zi_195_1 rfl cf_195_14 (v := 2) (by first | exact e1 | ((repeat (first | rw [zup_ne (by first | decide | omega)] | rw [zup_nj (by first | decide | omega)] | rw [fil_ne (by first | decide | omega)])) <;> exact e1) | (simp [up_rd, fil_rd]; exact e1)) ?_
      refine r_push zi_195_4 rfl ?_
      refine r_ic1 zi_195_5 rfl (fun c => absurd (by decide) c) (fun _ => ?_)
      refine r_al0 zi_195_8 rfl ?_
      refine q_getIe zi_195_9 rfl cf_195_15 (v := nI x) (by first | exact e2 | ((repeat (first | rw [zup_ne (by first | decide | omega)] | rw [zup_nj (by first | decide | omega)] | rw [fil_ne (by first | decide | omega)])) <;> exact e2) | (simp [up_rd, fil_rd]; exact e2)) ?_
      refine r_il1 zi_195_12 rfl ?_
      refine n_ic1 (i := x) (j := y) zi_195_13 rfl (by omega) (by omega) (fun _ => ?_) (fun c => absurd c (by omega))
      refine r_push zi_195_20 rfl ?_
      refine r_retZ zi_195_21 rfl (by decide) ?_
      exact ⟨_, rfl, h0⟩
  · have h0 := h0 (by simp only [tkS, decide_eq_true_eq] at hq; omega)
    refine r_al0 zi_195_0 rfl ?_
    refine q_getIe zi_195_1 rfl cf_195_14 (v := 4) (by first | exact e1 | ((repeat (first | rw [zup_ne (by first | decide | omega)] | rw [zup_nj (by first | decide | omega)] | rw [fil_ne (by first | decide | omega)])) <;> exact e1) | (simp [up_rd, fil_rd]; exact e1)) ?_
    refine r_push zi_195_4 rfl ?_
    refine r_ic1 zi_195_5 rfl (fun _ => ?_) (fun c => absurd c (by decide))
    refine r_push zi_195_20 rfl ?_
    refine r_retZ zi_195_21 rfl (by decide) ?_
    exact ⟨_, rfl, h0⟩
  · have h0 := h0 (by omega)
    refine r_al0 zi_195_0 rfl ?_
    refine q_getIe zi_195_1 rfl cf_195_14 (v := 1) (by first | exact e1 | ((repeat (first | rw [zup_ne (by first | decide | omega)] | rw [zup_nj (by first | decide | omega)] | rw [fil_ne (by first | decide | omega)])) <;> exact e1) | (simp [up_rd, fil_rd]; exact e1)) ?_
    refine r_push zi_195_4 rfl ?_
    refine r_ic1 zi_195_5 rfl (fun _ => ?_) (fun c => absurd c (by decide))
    refine r_push zi_195_20 rfl ?_
    refine r_retZ zi_195_21 rfl (by decide) ?_
    exact ⟨_, rfl, h0⟩
  · have h0 := h0 (by omega)
    refine r_al0 zi_195_0 rfl ?_
    refine q_getIe zi_195_1 rfl cf_195_14 (v := 0) (by first | exact e1 | ((repeat (first | rw [zup_ne (by first | decide | omega)] | rw [zup_nj (by first | decide | omega)] | rw [fil_ne (by first | decide | omega)])) <;> exact e1) | (simp [up_rd, fil_rd]; exact e1)) ?_
    refine r_push zi_195_4 rfl ?_
    refine r_ic1 zi_195_5 rfl (fun _ => ?_) (fun c => absurd c (by decide))
    refine r_push zi_195_20 rfl ?_
    refine r_retZ zi_195_21 rfl (by decide) ?_
    exact ⟨_, rfl, h0⟩
theorem s_errs {d : Nat} {σ : zS} {Q : Int32 → zS → Prop} {n : Int32} (h : Q (-1) (up (up σ 195 29 n) 195 30 (σ 195 13))) : zI1 d 194 [.ref 195, .int n] σ Q := by
  show zk _ _ 0 [.ref 195, .int n] [] _ _
  refine r_al0 zi_194_0 rfl ?_
  refine r_il1 zi_194_1 rfl ?_
  refine q_put zi_194_2 rfl cf_195_29 rfl ?_
  refine r_al0 zi_194_5 rfl ?_
  refine r_al0 zi_194_6 rfl ?_
  refine q_getI zi_194_7 rfl cf_195_13 ?_
  rw [zup_nj (by decide)]
  refine q_put zi_194_10 rfl cf_195_30 rfl ?_
  refine r_push zi_194_13 rfl ?_
  refine r_retI zi_194_14 rfl ?_
  exact ⟨_, rfl, h⟩
/-- a fault of the model at token i -/
theorem s_err {d i n : Nat} {σ : zS} {Q : Int32 → zS → Prop} {t : Nat → Nat} {b : Nat} (hk : mTk σ t b i) (h : ∀ υ, Fg mA σ υ → υ 195 29 = nI n → υ 195 30 = nI (tks t b i) → Q (-1) υ) : zI1 d 194 [.ref 195, .int (nI n)] σ Q :=
  s_errs (h _ ((Fg.rf.put (by unfold mA; omega)).put (by unfold mA; omega)) ((zup_nj (by decide)).trans zup_eq) (zup_eq.trans hk.2.1))
/-- the tokens of a tape: N is the end -/
def mEn (t : Nat → Nat) (b N : Nat) : Prop := tkk t b N = 30001 ∧ N ≤ 400
theorem s_munit {d j N : Nat} {σ : zS} {Q : Int32 → zS → Prop} {t : Nat → Nat} {b : Nat} {cs : List Nat} (hE : mEn t b N) (hj : j ≤ N) (hk : mTk σ t b j) (hd : mDc σ cs) (hl : cs.length ≤ j) (h1 : pun (tkk t b j) = true → j + 1 ≤ N → ∀ υ, Fg mA σ υ → mTk υ t b (j + 1) → mDc υ (cs ++ [tkk t b j]) → Q 0 υ) (h0 : ¬ pun (tkk t b j) = true → ∀ υ, Fg mA σ υ → υ 195 29 = nI 1 → υ 195 30 = nI (tks t b j) → Q (-1) υ) : zI1 (d + 3) 199 [.ref 195] σ Q := by
  have hkd := hk.2.2.2
  have herr : ¬ pun (tkk t b j) = true → ∀ (Q2 : Int32 → zS → Prop), (∀ υ, Q (-1) υ → Q2 (-1) υ) → zI1 (d + 2) 194 [.ref 195, .int 1] σ Q2 := fun z Q2 h2 => s_err (n := 1) hk (fun υ x y w => h2 υ (h0 z υ x y w))
  have hgo : ∀ υ, pun (tkk t b j) = true → Fg mE σ υ → mDc υ (cs ++ [tkk t b j]) → ∀ (Q2 : zS → Prop), (∀ υ, Q 0 υ → Q2 υ) → zV1 (d + 2) 193 [.ref 195] υ Q2 := fun υ g x y Q2 h2 => by
    have hjn : j + 1 ≤ N := by
      by_cases e : j = N
      · rw [e, hE.1] at g; exact absurd g (by decide)
      · omega
    refine s_readn (mTk_f hk (fun q a b => x 195 q (by unfold mE; omega)) (fun q => x 202 q (by unfold mE; omega)) (fun q => x 203 q (by unfold mE; omega))) (fun ρ z w => h2 ρ (h1 g hjn ρ ((x.sub (fun a b => mE_A)).tr (z.sub (fun a b => mR_A))) w (mDc_f y (z 195 25 (by unfold mR; omega)) (fun b => z 209 b (by unfold mR; omega)) (fun b => z 210 b (by unfold mR; omega)))))
  have hlt : pun (tkk t b j) = true → cs.length < 400 := fun g => by
    have := hE.2
    by_cases e : j = N
    · rw [e, hE.1] at g; exact absurd g (by decide)
    · omega
  have hem : ∀ (o a : Int32), pun (tkk t b j) = true → o = nI (zdo (tkk t b j)) → a = nI (zda (tkk t b j)) → ∀ (Q2 : zS → Prop), (∀ υ, Fg mE σ υ → mDc υ (cs ++ [tkk t b j]) → Q2 υ) → zV1 (d + 2) 197 [.ref 195, .int o, .int a] σ Q2 := fun o a g e1 e2 Q2 h2 => s_emits hd (hlt g) e1 e2 h2
  clear h1 h0
  show zk _ _ 0 [.ref 195, zun] [] _ _
  rcases hkd with ⟨h, e1, e2⟩ | ⟨q, hq, h, e1, e2⟩ | ⟨q, hq, h, e1, e2⟩ | ⟨h, e1⟩ | ⟨h, e1⟩
  · have g : pun (tkk t b j) = true := decide_eq_true (Or.inl h)
    have hem := hem 0 (nI (tkk t b j)) g (by unfold zdo; rw [if_pos h]; rfl) (by unfold zda; rw [if_pos h])
    generalize tkk t b j = v at *
    refine r_al0 zi_199_0 rfl ?_
    refine q_getIe zi_199_1 rfl cf_195_14 (v := 3) (by first | exact e1 | ((repeat (first | rw [zup_ne (by first | decide | omega)] | rw [zup_nj (by first | decide | omega)] | rw [fil_ne (by first | decide | omega)])) <;> exact e1) | (simp [up_rd, fil_rd]; exact e1)) ?_
    refine r_push zi_199_4 rfl ?_
    refine r_ic1 zi_199_5 rfl (fun _ => ?_) (fun c => absurd c (by decide))
    refine r_push zi_199_23 rfl ?_
    refine r_is1 zi_199_24 rfl ?_
    refine r_il1 zi_199_25 rfl ?_
    refine r_if1 zi_199_26 rfl (fun c => absurd (by decide) c) (fun _ => ?_)
    refine r_al0 zi_199_29 rfl ?_
    refine q_getIe zi_199_30 rfl cf_195_14 (v := 3) (by first | exact e1 | ((repeat (first | rw [zup_ne (by first | decide | omega)] | rw [zup_nj (by first | decide | omega)] | rw [fil_ne (by first | decide | omega)])) <;> exact e1) | (simp [up_rd, fil_rd]; exact e1)) ?_
    refine r_push zi_199_33 rfl ?_
    refine r_ic0 zi_199_34 rfl (fun _ => ?_) (fun c => absurd (by decide) c)
    refine r_al0 zi_199_43 rfl ?_
    refine r_il1 zi_199_44 rfl ?_
    refine r_if0 zi_199_45 rfl (fun _ => ?_) (fun c => absurd (by decide) c)
    refine r_push zi_199_52 rfl ?_
    refine r_il1 zi_199_53 rfl ?_
    refine r_if0 zi_199_54 rfl (fun _ => ?_) (fun c => absurd (by decide) c)
    refine r_al0 zi_199_67 rfl ?_
    refine q_getIe zi_199_68 rfl cf_195_15 (v := nI v) (by first | exact e2 | ((repeat (first | rw [zup_ne (by first | decide | omega)] | rw [zup_nj (by first | decide | omega)] | rw [fil_ne (by first | decide | omega)])) <;> exact e2) | (simp [up_rd, fil_rd]; exact e2)) ?_
    refine q_cVV zi_199_71 rfl rfl rfl rfl rfl rfl rfl cf_195_0.ob (hem _ (fun υ x1 x2 => ?_))
    show zk _ _ 74 _ _ _ _
    refine r_al0 zi_199_74 rfl ?_
    refine q_cVV zi_199_75 rfl rfl rfl rfl rfl rfl rfl cf_195_0.ob (hgo υ g x1 x2 _ (fun ρ y => ?_))
    show zk _ _ 78 _ _ _ _
    refine r_push zi_199_78 rfl ?_
    refine r_retI zi_199_79 rfl ?_
    exact ⟨_, rfl, y⟩
  · by_cases c : 3 ≤ q ∧ q ≤ 12
    · have g : pun (tkk t b j) = true := decide_eq_true (Or.inr ⟨by omega, by omega⟩)
      have em : tkm q = q + 4 := by unfold tkm; rw [if_neg (by omega), if_pos (by omega)]
      have hem := hem 1 (nI (q + 4 - 7)) g (by unfold zdo; rw [if_neg (by omega), if_neg (by omega), if_neg (by omega), if_neg (by omega), if_pos (by omega)]; rfl) (by unfold zda; rw [if_neg (by omega), if_pos (by omega), h]; exact congrArg nI (by omega))
      rw [em] at e2
      have hin : ∀ (Q2 : Int32 → zS → Prop), Q2 1 σ → zI1 (d + 2) 198 [.ref 195, .int (nI (q + 4))] σ Q2 := fun Q2 h2 => by
        show zk _ _ 0 [.ref 195, .int (nI (q + 4))] [] _ _
        refine r_al0 zi_198_0 rfl ?_
        refine r_il1 zi_198_1 rfl ?_
        refine r_push zi_198_2 rfl ?_
        refine r_push zi_198_4 rfl ?_
        refine q_cIV zi_198_6 rfl rfl rfl rfl rfl rfl rfl cf_195_0.ob (s_isIn (fun _ _ => ?_) (fun x => absurd ⟨(nI_leI (a := 7) (by omega) (by omega)).mpr (by omega), (nI_leI (b := 16) (by omega) (by omega)).mpr (by omega)⟩ x))
        show zk _ _ 9 _ _ _ _
        refine r_retZ zi_198_9 rfl (by decide) ?_
        exact ⟨_, rfl, h2⟩
      refine r_al0 zi_199_0 rfl ?_
      refine q_getIe zi_199_1 rfl cf_195_14 (v := 2) (by first | exact e1 | ((repeat (first | rw [zup_ne (by first | decide | omega)] | rw [zup_nj (by first | decide | omega)] | rw [fil_ne (by first | decide | omega)])) <;> exact e1) | (simp [up_rd, fil_rd]; exact e1)) ?_
      refine r_push zi_199_4 rfl ?_
      refine r_ic1 zi_199_5 rfl (fun c => absurd (by decide) c) (fun _ => ?_)
      refine r_al0 zi_199_8 rfl ?_
      refine r_al0 zi_199_9 rfl ?_
      refine q_getIe zi_199_10 rfl cf_195_15 (v := nI (q+4)) (by first | exact e2 | ((repeat (first | rw [zup_ne (by first | decide | omega)] | rw [zup_nj (by first | decide | omega)] | rw [fil_ne (by first | decide | omega)])) <;> exact e2) | (simp [up_rd, fil_rd]; exact e2)) ?_
      refine q_cIV zi_199_13 rfl rfl rfl rfl rfl rfl rfl cf_195_0.ob (hin _ ?_)
      show zk _ _ 16 _ _ _ _
      refine r_if0 zi_199_16 rfl (fun c => absurd c (by decide)) (fun _ => ?_)
      refine r_push zi_199_19 rfl ?_
      refine r_goto zi_199_20 rfl ?_
      refine r_is1 zi_199_24 rfl ?_
      refine r_il1 zi_199_25 rfl ?_
      refine r_if1 zi_199_26 rfl (fun _ => ?_) (fun c => absurd c (by decide))
      refine r_al0 zi_199_43 rfl ?_
      refine r_il1 zi_199_44 rfl ?_
      refine r_if0 zi_199_45 rfl (fun c => absurd c (by decide)) (fun _ => ?_)
      refine r_push zi_199_48 rfl ?_
      refine r_goto zi_199_49 rfl ?_
      refine r_il1 zi_199_53 rfl ?_
      refine r_if0 zi_199_54 rfl (fun c => absurd c (by decide)) (fun _ => ?_)
      refine r_al0 zi_199_57 rfl ?_
      refine q_getIe zi_199_58 rfl cf_195_15 (v := nI (q+4)) (by first | exact e2 | ((repeat (first | rw [zup_ne (by first | decide | omega)] | rw [zup_nj (by first | decide | omega)] | rw [fil_ne (by first | decide | omega)])) <;> exact e2) | (simp [up_rd, fil_rd]; exact e2)) ?_
      refine r_push zi_199_61 rfl ?_
      refine r_b1 zi_199_63 rfl ?_
      rw [show (nI (q+4) - 7 : Int32) = nI (q+4 - 7) from pk_sub (a := q+4) (b := 7) (by omega)]
      refine r_goto zi_199_64 rfl ?_
      refine q_cVV zi_199_71 rfl rfl rfl rfl rfl rfl rfl cf_195_0.ob (hem _ (fun υ x1 x2 => ?_))
      show zk _ _ 74 _ _ _ _
      refine r_al0 zi_199_74 rfl ?_
      refine q_cVV zi_199_75 rfl rfl rfl rfl rfl rfl rfl cf_195_0.ob (hgo υ g x1 x2 _ (fun ρ y => ?_))
      show zk _ _ 78 _ _ _ _
      refine r_push zi_199_78 rfl ?_
      refine r_retI zi_199_79 rfl ?_
      exact ⟨_, rfl, y⟩
    · have g : ¬ pun (tkk t b j) = true := fun z => by simp only [pun, decide_eq_true_eq] at z; omega
      have em : ¬ (7 ≤ tkm q ∧ tkm q ≤ 16) := by unfold tkm; (repeat' split) <;> omega
      have hbq := tkm_b hq
      generalize tkm q = w at *
      have hin : ∀ (Q2 : Int32 → zS → Prop), Q2 0 σ → zI1 (d + 2) 198 [.ref 195, .int (nI w)] σ Q2 := fun Q2 h2 => by
        show zk _ _ 0 [.ref 195, .int (nI w)] [] _ _
        refine r_al0 zi_198_0 rfl ?_
        refine r_il1 zi_198_1 rfl ?_
        refine r_push zi_198_2 rfl ?_
        refine r_push zi_198_4 rfl ?_
        refine q_cIV zi_198_6 rfl rfl rfl rfl rfl rfl rfl cf_195_0.ob (s_isIn (fun x y => absurd ⟨(nI_leI (a := 7) (by omega) (by omega)).mp x, (nI_leI (b := 16) (by omega) (by omega)).mp y⟩ em) (fun _ => ?_))
        show zk _ _ 9 _ _ _ _
        refine r_retZ zi_198_9 rfl (by decide) ?_
        exact ⟨_, rfl, h2⟩
      have herr := herr g
      refine r_al0 zi_199_0 rfl ?_
      refine q_getIe zi_199_1 rfl cf_195_14 (v := 2) (by first | exact e1 | ((repeat (first | rw [zup_ne (by first | decide | omega)] | rw [zup_nj (by first | decide | omega)] | rw [fil_ne (by first | decide | omega)])) <;> exact e1) | (simp [up_rd, fil_rd]; exact e1)) ?_
      refine r_push zi_199_4 rfl ?_
      refine r_ic1 zi_199_5 rfl (fun c => absurd (by decide) c) (fun _ => ?_)
      refine r_al0 zi_199_8 rfl ?_
      refine r_al0 zi_199_9 rfl ?_
      refine q_getIe zi_199_10 rfl cf_195_15 (v := nI w) (by first | exact e2 | ((repeat (first | rw [zup_ne (by first | decide | omega)] | rw [zup_nj (by first | decide | omega)] | rw [fil_ne (by first | decide | omega)])) <;> exact e2) | (simp [up_rd, fil_rd]; exact e2)) ?_
      refine q_cIV zi_199_13 rfl rfl rfl rfl rfl rfl rfl cf_195_0.ob (hin _ ?_)
      show zk _ _ 16 _ _ _ _
      refine r_if0 zi_199_16 rfl (fun _ => ?_) (fun c => absurd (by decide) c)
      refine r_push zi_199_23 rfl ?_
      refine r_is1 zi_199_24 rfl ?_
      refine r_il1 zi_199_25 rfl ?_
      refine r_if1 zi_199_26 rfl (fun c => absurd (by decide) c) (fun _ => ?_)
      refine r_al0 zi_199_29 rfl ?_
      refine q_getIe zi_199_30 rfl cf_195_14 (v := 2) (by first | exact e1 | ((repeat (first | rw [zup_ne (by first | decide | omega)] | rw [zup_nj (by first | decide | omega)] | rw [fil_ne (by first | decide | omega)])) <;> exact e1) | (simp [up_rd, fil_rd]; exact e1)) ?_
      refine r_push zi_199_33 rfl ?_
      refine r_ic0 zi_199_34 rfl (fun c => absurd c (by decide)) (fun _ => ?_)
      refine r_al0 zi_199_37 rfl ?_
      refine r_push zi_199_38 rfl ?_
      refine q_cIV zi_199_39 rfl rfl rfl rfl rfl rfl rfl cf_195_0.ob (herr _ (fun υ y => ?_))
      show zk _ _ 42 _ _ _ _
      refine r_retI zi_199_42 rfl ?_
      exact ⟨_, rfl, y⟩
  · have herr := herr (fun z => by simp only [pun, decide_eq_true_eq] at z; omega)
    refine r_al0 zi_199_0 rfl ?_
    refine q_getIe zi_199_1 rfl cf_195_14 (v := 4) (by first | exact e1 | ((repeat (first | rw [zup_ne (by first | decide | omega)] | rw [zup_nj (by first | decide | omega)] | rw [fil_ne (by first | decide | omega)])) <;> exact e1) | (simp [up_rd, fil_rd]; exact e1)) ?_
    refine r_push zi_199_4 rfl ?_
    refine r_ic1 zi_199_5 rfl (fun _ => ?_) (fun c => absurd c (by decide))
    refine r_push zi_199_23 rfl ?_
    refine r_is1 zi_199_24 rfl ?_
    refine r_il1 zi_199_25 rfl ?_
    refine r_if1 zi_199_26 rfl (fun c => absurd (by decide) c) (fun _ => ?_)
    refine r_al0 zi_199_29 rfl ?_
    refine q_getIe zi_199_30 rfl cf_195_14 (v := 4) (by first | exact e1 | ((repeat (first | rw [zup_ne (by first | decide | omega)] | rw [zup_nj (by first | decide | omega)] | rw [fil_ne (by first | decide | omega)])) <;> exact e1) | (simp [up_rd, fil_rd]; exact e1)) ?_
    refine r_push zi_199_33 rfl ?_
    refine r_ic0 zi_199_34 rfl (fun c => absurd c (by decide)) (fun _ => ?_)
    refine r_al0 zi_199_37 rfl ?_
    refine r_push zi_199_38 rfl ?_
    refine q_cIV zi_199_39 rfl rfl rfl rfl rfl rfl rfl cf_195_0.ob (herr _ (fun υ y => ?_))
    show zk _ _ 42 _ _ _ _
    refine r_retI zi_199_42 rfl ?_
    exact ⟨_, rfl, y⟩
  · have herr := herr (fun z => by simp only [pun, decide_eq_true_eq] at z; omega)
    refine r_al0 zi_199_0 rfl ?_
    refine q_getIe zi_199_1 rfl cf_195_14 (v := 1) (by first | exact e1 | ((repeat (first | rw [zup_ne (by first | decide | omega)] | rw [zup_nj (by first | decide | omega)] | rw [fil_ne (by first | decide | omega)])) <;> exact e1) | (simp [up_rd, fil_rd]; exact e1)) ?_
    refine r_push zi_199_4 rfl ?_
    refine r_ic1 zi_199_5 rfl (fun _ => ?_) (fun c => absurd c (by decide))
    refine r_push zi_199_23 rfl ?_
    refine r_is1 zi_199_24 rfl ?_
    refine r_il1 zi_199_25 rfl ?_
    refine r_if1 zi_199_26 rfl (fun c => absurd (by decide) c) (fun _ => ?_)
    refine r_al0 zi_199_29 rfl ?_
    refine q_getIe zi_199_30 rfl cf_195_14 (v := 1) (by first | exact e1 | ((repeat (first | rw [zup_ne (by first | decide | omega)] | rw [zup_nj (by first | decide | omega)] | rw [fil_ne (by first | decide | omega)])) <;> exact e1) | (simp [up_rd, fil_rd]; exact e1)) ?_
    refine r_push zi_199_33 rfl ?_
    refine r_ic0 zi_199_34 rfl (fun c => absurd c (by decide)) (fun _ => ?_)
    refine r_al0 zi_199_37 rfl ?_
    refine r_push zi_199_38 rfl ?_
    refine q_cIV zi_199_39 rfl rfl rfl rfl rfl rfl rfl cf_195_0.ob (herr _ (fun υ y => ?_))
    show zk _ _ 42 _ _ _ _
    refine r_retI zi_199_42 rfl ?_
    exact ⟨_, rfl, y⟩
  · have herr := herr (fun z => by simp only [pun, decide_eq_true_eq] at z; omega)
    refine r_al0 zi_199_0 rfl ?_
    refine q_getIe zi_199_1 rfl cf_195_14 (v := 0) (by first | exact e1 | ((repeat (first | rw [zup_ne (by first | decide | omega)] | rw [zup_nj (by first | decide | omega)] | rw [fil_ne (by first | decide | omega)])) <;> exact e1) | (simp [up_rd, fil_rd]; exact e1)) ?_
    refine r_push zi_199_4 rfl ?_
    refine r_ic1 zi_199_5 rfl (fun _ => ?_) (fun c => absurd c (by decide))
    refine r_push zi_199_23 rfl ?_
    refine r_is1 zi_199_24 rfl ?_
    refine r_il1 zi_199_25 rfl ?_
    refine r_if1 zi_199_26 rfl (fun c => absurd (by decide) c) (fun _ => ?_)
    refine r_al0 zi_199_29 rfl ?_
    refine q_getIe zi_199_30 rfl cf_195_14 (v := 0) (by first | exact e1 | ((repeat (first | rw [zup_ne (by first | decide | omega)] | rw [zup_nj (by first | decide | omega)] | rw [fil_ne (by first | decide | omega)])) <;> exact e1) | (simp [up_rd, fil_rd]; exact e1)) ?_
    refine r_push zi_199_33 rfl ?_
    refine r_ic0 zi_199_34 rfl (fun c => absurd c (by decide)) (fun _ => ?_)
    refine r_al0 zi_199_37 rfl ?_
    refine r_push zi_199_38 rfl ?_
    refine q_cIV zi_199_39 rfl rfl rfl rfl rfl rfl rfl cf_195_0.ob (herr _ (fun υ y => ?_))
    show zk _ _ 42 _ _ _ _
    refine r_retI zi_199_42 rfl ?_
    exact ⟨_, rfl, y⟩

