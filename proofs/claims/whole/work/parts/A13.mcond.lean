/-! B in the model -/
def pmc (x : Nat) : Nat := if x = 10016 then 9 else if x = 10015 then 10 else if x = 10014 then 11 else 12
def mPl (τ : zS) : List Nat → Prop
  | [] => True
  | x :: p => τ 211 p.length = nI (pmc x) ∧ mPl τ p
theorem mPl_f {τ υ : zS} (h : ∀ b, υ 211 b = τ 211 b) : ∀ p, mPl τ p → mPl υ p
  | [], _ => trivial
  | x :: p, g => ⟨(h _).trans g.1, mPl_f h p g.2⟩
theorem mPl_up {τ : zS} {m : Nat} {v : Int32} : ∀ p : List Nat, p.length ≤ m → mPl τ p → mPl (up τ 211 m v) p
  | [], _, _ => trivial
  | x :: p, hl, g => by
    rw [List.length_cons] at hl
    exact ⟨(zup_nj (by omega)).trans g.1, mPl_up p (by omega) g.2⟩
def mC (a b : Nat) : Prop := (a = 209 ∧ 800 ≤ b) ∨ (a = 210 ∧ 800 ≤ b) ∨ a = 211 ∨ (a = 195 ∧ (b = 12 ∨ b = 13 ∨ b = 14 ∨ b = 15 ∨ b = 25 ∨ b = 26 ∨ b = 28 ∨ b = 29 ∨ b = 30))
theorem mA_C {a b : Nat} (h : mA a b) : mC a b := by unfold mA at h; unfold mC; omega
theorem mE_C {a b : Nat} (h : mE a b) : mC a b := by unfold mE at h; unfold mC; omega
theorem mR_C {a b : Nat} (h : mR a b) : mC a b := by unfold mR at h; unfold mC; omega
def mCs (τ : zS) (t : Nat → Nat) (b N j : Nat) (cs p : List Nat) : Prop := mSt τ t b N j cs p.length ∧ τ 195 28 = nI p.length ∧ τ 195 26 = nI (opn p) ∧ mPl τ p ∧ pok p ∧ opn p ≤ 8
theorem mSt_f {τ υ : zS} {t : Nat → Nat} {b N j l : Nat} {cs : List Nat} (h : mSt τ t b N j cs l) (h1 : ∀ q, 11 ≤ q → q ≤ 25 → υ 195 q = τ 195 q) (h2 : ∀ a q, 202 ≤ a → a ≤ 210 → υ a q = τ a q) : mSt υ t b N j cs l := by
  obtain ⟨g1, g2, g3, g4⟩ := h
  exact ⟨mTk_f g1 (fun q a b => h1 q a (by omega)) (fun q => h2 202 q (by omega) (by omega)) (fun q => h2 203 q (by omega) (by omega)), mDc_f g2 (h1 25 (by omega) (by omega)) (fun q => h2 209 q (by omega) (by omega)) (fun q => h2 210 q (by omega) (by omega)), g3, g4⟩
theorem s_settles {d N j x : Nat} {t : Nat → Nat} {b : Nat} {Q : zS → Prop} (hE : mEn t b N) (hx : x = 10016 ∨ x = 10015 ∨ x = 10014) {σ : zS} {cs0 p0 : List Nat} (hq : ∀ υ, Fg mC σ υ → mCs υ t b N j (ppo x cs0 p0).1 (ppo x cs0 p0).2 → Q υ) : ∀ (p cs : List Nat) (τ : zS), ppo x cs p = ppo x cs0 p0 → mCs τ t b N j cs p → Fg mC σ τ → zk (d + 1) 204 0 [.ref 195, .int (nI (pmc x))] [] τ (fun r t => r = none ∧ Q t) := by
  intro p
  induction p with
  | nil =>
    intro cs τ he hc hF
    have h := hq τ hF (by rw [← he]; exact hc)
    have h28 : τ 195 28 = nI 0 := hc.2.1
    refine r_al0 zi_204_0 rfl ?_
    refine q_getIe zi_204_1 rfl cf_195_28 (v := nI 0) (by first | exact h28 | ((repeat (first | rw [zup_ne (by first | decide | omega)] | rw [zup_nj (by first | decide | omega)] | rw [fil_ne (by first | decide | omega)])) <;> exact h28) | (simp [up_rd, fil_rd]; exact h28)) ?_
    refine r_if5 zi_204_4 rfl (fun _ => ?_) (fun c => absurd (by decide) c)
    refine r_ret zi_204_57 rfl ?_
    exact ⟨rfl, h⟩
  | cons y q ih =>
    intro cs τ he hc hF
    obtain ⟨t1, t2, t3, t4, t5, t6⟩ := id hc
    have hl26 := pok_len t5 t6
    have hN := hE.2
    have hjN := t1.2.2.1
    have hlj := t1.2.2.2
    have h211 : τ 211 q.length = nI (pmc y) := t4.1
    have hpb : ∀ z, pmc z < 20 := fun z => by unfold pmc; (repeat' split) <;> omega
    have hpx := hpb x
    have hpy := hpb y
    rw [List.length_cons] at t2 hlj hl26
    by_cases c : y = x
    · have e1 : ppo x cs (y :: q) = ppo x (cs ++ [x]) q := if_pos c
      rw [e1] at he
      subst c
      have hzo : nI (pmc y) = nI (zdo y) := by rcases hx with e | e | e <;> (rw [e]; rfl)
      have hzd : (0 : Int32) = nI (zda y) := by rcases hx with e | e | e <;> (rw [e]; rfl)
      have e2 : opn (y :: q) = (if y = 10016 then 1 else 0) + opn q := by
        show (if y = 10016 ∨ y = 20040 then 1 else 0) + opn q = _
        rcases hx with e | e | e <;> (rw [e]; rfl)
      rw [e2] at t3 t6
      have hem : ∀ (Q2 : zS → Prop), (∀ υ, Fg mE (up τ 195 28 (nI q.length)) υ → mDc υ (cs ++ [y]) → Q2 υ) → zV1 d 197 [.ref 195, .int (nI (pmc y)), .int 0] (up τ 195 28 (nI q.length)) Q2 := fun Q2 h2 => s_emits (mDc_f t1.2.1 (zup_nj (by decide)) (fun b => zup_ne (by decide)) (fun b => zup_ne (by decide))) (by omega) hzo hzd h2
      have hFu : ∀ υ, Fg mE (up τ 195 28 (nI q.length)) υ → Fg mC σ υ := fun υ x => (hF.put (by unfold mC; omega)).tr (x.sub (fun a b => mE_C))
      have hst : ∀ υ, Fg mE (up τ 195 28 (nI q.length)) υ → mDc υ (cs ++ [y]) → mSt υ t b N j (cs ++ [y]) q.length := fun υ x z => ⟨mTk_f t1.1 (fun q a b => (x 195 q (by unfold mE; omega)).trans (zup_nj (by omega))) (fun q => (x 202 q (by unfold mE; omega)).trans (zup_ne (by decide))) (fun q => (x 203 q (by unfold mE; omega)).trans (zup_ne (by decide))), z, hjN, by rw [List.length_append, List.length_singleton]; omega⟩
      have h28 : ∀ υ, Fg mE (up τ 195 28 (nI q.length)) υ → υ 195 28 = nI q.length := fun υ x => (x 195 28 (by unfold mE; omega)).trans zup_eq
      have h26 : ∀ υ, Fg mE (up τ 195 28 (nI q.length)) υ → υ 195 26 = nI ((if y = 10016 then 1 else 0) + opn q) := fun υ x => ((x 195 26 (by unfold mE; omega)).trans (zup_nj (by decide))).trans t3
      have hpl : ∀ υ, Fg mE (up τ 195 28 (nI q.length)) υ → mPl υ q := fun υ x => mPl_f (fun b => (x 211 b (by unfold mE; omega)).trans (zup_ne (by decide))) q t4.2
      by_cases c6 : y = 10016
      · have ih := fun υ x z => ih (cs ++ [y]) (up υ 195 26 (nI (opn q))) he ⟨mSt_f (hst υ x z) (fun q a b => zup_nj (by omega)) (fun a q h1 h2 => zup_ne (by omega)), (zup_nj (by decide)).trans (h28 υ x), zup_eq, mPl_f (fun b => zup_ne (by decide)) q (hpl υ x), t5.1, by omega⟩ ((hFu υ x).put (by unfold mC; omega))
        rw [if_pos c6] at h26
        have h26 : ∀ υ, Fg mE (up τ 195 28 (nI q.length)) υ → υ 195 26 = nI (opn q + 1) := fun υ x => by rw [h26 υ x, Nat.add_comm]
        rw [if_pos c6] at t6
        subst c6
        have hpm : pmc 10016 = 9 := rfl
        rw [hpm] at h211 hem ih ⊢
        clear h28 hst hpl
        generalize q.length = m at *
        generalize opn q = o at *
        refine r_al0 zi_204_0 rfl ?_
        refine q_getIe zi_204_1 rfl cf_195_28 (v := nI (m+1)) (by first | exact t2 | ((repeat (first | rw [zup_ne (by first | decide | omega)] | rw [zup_nj (by first | decide | omega)] | rw [fil_ne (by first | decide | omega)])) <;> exact t2) | (simp [up_rd, fil_rd]; exact t2)) ?_
        refine n_if5 (i := m+1) zi_204_4 rfl (by omega) (fun c => absurd c (by omega)) (fun _ => ?_)
        refine r_al0 zi_204_7 rfl ?_
        refine q_getR zi_204_8 rfl cf_195_27 ?_
        refine r_al0 zi_204_11 rfl ?_
        refine q_getIe zi_204_12 rfl cf_195_28 (v := nI (m+1)) (by first | exact t2 | ((repeat (first | rw [zup_ne (by first | decide | omega)] | rw [zup_nj (by first | decide | omega)] | rw [fil_ne (by first | decide | omega)])) <;> exact t2) | (simp [up_rd, fil_rd]; exact t2)) ?_
        refine r_push zi_204_15 rfl ?_
        refine r_b1 zi_204_16 rfl ?_
        rw [show (nI (m+1) - 1 : Int32) = nI (m+1 - 1) from pk_sub (a := m+1) (b := 1) (by omega)]
        refine r_alde zi_204_17 rfl m ca_211 rfl (by omega) (u := nI 9) (by first | exact h211 | ((repeat (first | rw [zup_ne (by first | decide | omega)] | rw [zup_nj (by first | decide | omega)] | rw [fil_ne (by first | decide | omega)])) <;> exact h211) | (simp [up_rd, fil_rd]; exact h211)) ?_
        refine r_il1 zi_204_18 rfl ?_
        refine r_ic1 zi_204_19 rfl (fun c => absurd rfl c) (fun _ => ?_)
        refine r_al0 zi_204_22 rfl ?_
        refine r_al0 zi_204_23 rfl ?_
        refine q_getIe zi_204_24 rfl cf_195_28 (v := nI (m+1)) (by first | exact t2 | ((repeat (first | rw [zup_ne (by first | decide | omega)] | rw [zup_nj (by first | decide | omega)] | rw [fil_ne (by first | decide | omega)])) <;> exact t2) | (simp [up_rd, fil_rd]; exact t2)) ?_
        refine r_push zi_204_27 rfl ?_
        refine r_b1 zi_204_28 rfl ?_
        rw [show (nI (m+1) - 1 : Int32) = nI (m+1 - 1) from pk_sub (a := m+1) (b := 1) (by omega)]
        refine q_put zi_204_29 rfl cf_195_28 rfl ?_
        refine r_al0 zi_204_32 rfl ?_
        refine r_il1 zi_204_33 rfl ?_
        refine r_push zi_204_34 rfl ?_
        refine q_cVV zi_204_35 rfl rfl rfl rfl rfl rfl rfl cf_195_0.ob (hem _ (fun υ x1 x2 => ?_))
        show zk _ _ 38 _ _ _ _
        refine r_il1 zi_204_38 rfl ?_
        refine r_push zi_204_39 rfl ?_
        refine n_ic1 (i := 9) (j := 9) zi_204_41 rfl (by omega) (by omega) (fun c => absurd c (by omega)) (fun _ => ?_)
        refine r_al0 zi_204_44 rfl ?_
        refine r_al0 zi_204_45 rfl ?_
        refine q_getIe zi_204_46 rfl cf_195_26 (v := nI (o+1)) (by first | exact h26 υ x1 | ((repeat (first | rw [zup_ne (by first | decide | omega)] | rw [zup_nj (by first | decide | omega)] | rw [fil_ne (by first | decide | omega)])) <;> exact h26 υ x1) | (simp [up_rd, fil_rd]; exact h26 υ x1)) ?_
        refine r_push zi_204_49 rfl ?_
        refine r_b1 zi_204_50 rfl ?_
        rw [show (nI (o+1) - 1 : Int32) = nI (o+1 - 1) from pk_sub (a := o+1) (b := 1) (by omega)]
        refine q_put zi_204_51 rfl cf_195_26 rfl ?_
        refine r_goto zi_204_54 rfl ?_
        exact ih υ x1 x2
      · have ih := fun υ x z => ih (cs ++ [y]) υ he ⟨hst υ x z, h28 υ x, by rw [h26 υ x, if_neg c6, Nat.zero_add], hpl υ x, t5.1, by rw [if_neg c6] at t6; omega⟩ (hFu υ x)
        have hp9 : ¬ pmc y = 9 := by rcases hx with e | e | e; exact absurd e c6; (rw [e]; decide); (rw [e]; decide)
        clear h28 hst hpl
        generalize pmc y = pv at *
        generalize q.length = m at *
        refine r_al0 zi_204_0 rfl ?_
        refine q_getIe zi_204_1 rfl cf_195_28 (v := nI (m+1)) (by first | exact t2 | ((repeat (first | rw [zup_ne (by first | decide | omega)] | rw [zup_nj (by first | decide | omega)] | rw [fil_ne (by first | decide | omega)])) <;> exact t2) | (simp [up_rd, fil_rd]; exact t2)) ?_
        refine n_if5 (i := m+1) zi_204_4 rfl (by omega) (fun c => absurd c (by omega)) (fun _ => ?_)
        refine r_al0 zi_204_7 rfl ?_
        refine q_getR zi_204_8 rfl cf_195_27 ?_
        refine r_al0 zi_204_11 rfl ?_
        refine q_getIe zi_204_12 rfl cf_195_28 (v := nI (m+1)) (by first | exact t2 | ((repeat (first | rw [zup_ne (by first | decide | omega)] | rw [zup_nj (by first | decide | omega)] | rw [fil_ne (by first | decide | omega)])) <;> exact t2) | (simp [up_rd, fil_rd]; exact t2)) ?_
        refine r_push zi_204_15 rfl ?_
        refine r_b1 zi_204_16 rfl ?_
        rw [show (nI (m+1) - 1 : Int32) = nI (m+1 - 1) from pk_sub (a := m+1) (b := 1) (by omega)]
        refine r_alde zi_204_17 rfl m ca_211 rfl (by omega) (u := nI pv) (by first | exact h211 | ((repeat (first | rw [zup_ne (by first | decide | omega)] | rw [zup_nj (by first | decide | omega)] | rw [fil_ne (by first | decide | omega)])) <;> exact h211) | (simp [up_rd, fil_rd]; exact h211)) ?_
        refine r_il1 zi_204_18 rfl ?_
        refine n_ic1 (i := pv) (j := pv) zi_204_19 rfl (by omega) (by omega) (fun c => absurd c (by omega)) (fun _ => ?_)
        refine r_al0 zi_204_22 rfl ?_
        refine r_al0 zi_204_23 rfl ?_
        refine q_getIe zi_204_24 rfl cf_195_28 (v := nI (m+1)) (by first | exact t2 | ((repeat (first | rw [zup_ne (by first | decide | omega)] | rw [zup_nj (by first | decide | omega)] | rw [fil_ne (by first | decide | omega)])) <;> exact t2) | (simp [up_rd, fil_rd]; exact t2)) ?_
        refine r_push zi_204_27 rfl ?_
        refine r_b1 zi_204_28 rfl ?_
        rw [show (nI (m+1) - 1 : Int32) = nI (m+1 - 1) from pk_sub (a := m+1) (b := 1) (by omega)]
        refine q_put zi_204_29 rfl cf_195_28 rfl ?_
        refine r_al0 zi_204_32 rfl ?_
        refine r_il1 zi_204_33 rfl ?_
        refine r_push zi_204_34 rfl ?_
        refine q_cVV zi_204_35 rfl rfl rfl rfl rfl rfl rfl cf_195_0.ob (hem _ (fun υ x1 x2 => ?_))
        show zk _ _ 38 _ _ _ _
        refine r_il1 zi_204_38 rfl ?_
        refine r_push zi_204_39 rfl ?_
        refine n_ic1 (i := pv) (j := 9) zi_204_41 rfl (by omega) (by omega) (fun _ => ?_) (fun c => absurd c (by omega))
        exact ih υ x1 x2
    · have e1 : ppo x cs (y :: q) = (cs, y :: q) := if_neg c
      have h := hq τ hF (by rw [← he, e1]; exact hc)
      have hne : ¬ pmc y = pmc x := fun z => c (by
        rcases t5.2 with e | e | ⟨e, _⟩ | ⟨e, _⟩ <;> rcases hx with e2 | e2 | e2 <;> (first | (rw [e, e2]; done) | (rw [e, e2] at z; exact absurd z (by decide)) | (rw [e, e2])))
      generalize pmc y = py at *
      generalize pmc x = px at *
      generalize q.length = m at *
      refine r_al0 zi_204_0 rfl ?_
      refine q_getIe zi_204_1 rfl cf_195_28 (v := nI (m+1)) (by first | exact t2 | ((repeat (first | rw [zup_ne (by first | decide | omega)] | rw [zup_nj (by first | decide | omega)] | rw [fil_ne (by first | decide | omega)])) <;> exact t2) | (simp [up_rd, fil_rd]; exact t2)) ?_
      refine n_if5 (i := m+1) zi_204_4 rfl (by omega) (fun c => absurd c (by omega)) (fun _ => ?_)
      refine r_al0 zi_204_7 rfl ?_
      refine q_getR zi_204_8 rfl cf_195_27 ?_
      refine r_al0 zi_204_11 rfl ?_
      refine q_getIe zi_204_12 rfl cf_195_28 (v := nI (m+1)) (by first | exact t2 | ((repeat (first | rw [zup_ne (by first | decide | omega)] | rw [zup_nj (by first | decide | omega)] | rw [fil_ne (by first | decide | omega)])) <;> exact t2) | (simp [up_rd, fil_rd]; exact t2)) ?_
      refine r_push zi_204_15 rfl ?_
      refine r_b1 zi_204_16 rfl ?_
      rw [show (nI (m+1) - 1 : Int32) = nI (m+1 - 1) from pk_sub (a := m+1) (b := 1) (by omega)]
      refine r_alde zi_204_17 rfl m ca_211 rfl (by omega) (u := nI py) (by first | exact h211 | ((repeat (first | rw [zup_ne (by first | decide | omega)] | rw [zup_nj (by first | decide | omega)] | rw [fil_ne (by first | decide | omega)])) <;> exact h211) | (simp [up_rd, fil_rd]; exact h211)) ?_
      refine r_il1 zi_204_18 rfl ?_
      refine n_ic1 (i := py) (j := px) zi_204_19 rfl (by omega) (by omega) (fun _ => ?_) (fun c => absurd c (by omega))
      refine r_ret zi_204_57 rfl ?_
      exact ⟨rfl, h⟩
theorem s_settle {d N j x : Nat} {t : Nat → Nat} {b : Nat} {Q : zS → Prop} {σ : zS} {cs p : List Nat} {xv : Int32} (hxv : xv = nI (pmc x)) (hE : mEn t b N) (hx : x = 10016 ∨ x = 10015 ∨ x = 10014) (hc : mCs σ t b N j cs p) (hq : ∀ υ, Fg mC σ υ → mCs υ t b N j (ppo x cs p).1 (ppo x cs p).2 → Q υ) : zV1 (d + 1) 204 [.ref 195, .int xv] σ Q := by
  subst hxv
  exact s_settles hE hx hq p cs σ rfl hc Fg.rf
theorem s_waits {d m : Nat} {σ : zS} {Q : zS → Prop} {k : Int32} (h : σ 195 28 = nI m) (hm : m < 40) (hq : Q (up (up σ 211 m k) 195 28 (nI (m + 1)))) : zV1 d 203 [.ref 195, .int k] σ Q := by
  show zk _ _ 0 [.ref 195, .int k] [] _ _
  refine r_al0 zi_203_0 rfl ?_
  refine q_getR zi_203_1 rfl cf_195_27 ?_
  refine r_al0 zi_203_4 rfl ?_
  refine q_getIe zi_203_5 rfl cf_195_28 (v := nI m) (by first | exact h | ((repeat (first | rw [zup_ne (by first | decide | omega)] | rw [zup_nj (by first | decide | omega)] | rw [fil_ne (by first | decide | omega)])) <;> exact h) | (simp [up_rd, fil_rd]; exact h)) ?_
  refine r_il1 zi_203_8 rfl ?_
  refine r_ast zi_203_9 rfl m ca_211 (by first | rfl | (simp only [zI_add, zI_mul] <;> rfl)) (by first | omega | decide) ?_
  refine r_al0 zi_203_10 rfl ?_
  refine r_al0 zi_203_11 rfl ?_
  refine q_getIe zi_203_12 rfl cf_195_28 (v := nI m) (by first | exact h | ((repeat (first | rw [zup_ne (by first | decide | omega)] | rw [zup_nj (by first | decide | omega)] | rw [fil_ne (by first | decide | omega)])) <;> exact h) | (simp [up_rd, fil_rd]; exact h)) ?_
  refine r_push zi_203_15 rfl ?_
  refine r_b0 zi_203_16 rfl ?_
  rw [show (nI m + 1 : Int32) = nI (m + 1) from nI_add _ _]
  refine q_put zi_203_17 rfl cf_195_28 rfl ?_
  refine r_ret zi_203_20 rfl ?_
  exact ⟨rfl, hq⟩
theorem s_mcomp {d N l j : Nat} {σ : zS} {Q : Int32 → zS → Prop} {t : Nat → Nat} {b : Nat} {r : (Nat × Nat) ⊕ (Nat × List Nat)} {cs : List Nat} {G : Nat → List Nat → pR} (hE : mEn t b N) (hr : (match pe (tkk t b) 401 j cs with | none => none | some (.inl x) => some (.inl x) | some (.inr (j1, cs1)) => if 20060 ≤ tkk t b j1 ∧ tkk t b j1 ≤ 20062 then (match pe (tkk t b) 401 (j1 + 1) cs1 with | none => none | some (.inl x) => some (.inl x) | some (.inr (j2, cs2)) => G j2 (cs2 ++ [tkk t b j1])) else some (.inl (1, j1))) = some r) (hs : mSt σ t b N j cs l) (h1 : ∀ i ds υ, G i ds = some r → Fg mA σ υ → mSt υ t b N i ds l → Q 0 υ) (h0 : ∀ n i υ, r = .inl (n, i) → Fg mA σ υ → υ 195 29 = nI n → υ 195 30 = nI (tks t b i) → Q (-1) υ) : zI1 (d + 6) 202 [.ref 195] σ Q := by
  show zk _ _ 0 [.ref 195, zun] [] _ _
  cases hp : pe (tkk t b) 401 j cs with
  | none => rw [hp] at hr; cases hr
  | some x =>
    rw [hp] at hr
    have hsm := fun (Q2 : Int32 → zS → Prop) k1 k0 => s_msum (d := d) (l := l) (Q := Q2) hE hp hs k1 k0
    cases x with
    | inl y =>
      have er := Option.some.inj hr
      obtain ⟨n, q⟩ := y
      have h0 := fun υ => h0 n q υ er.symm
      refine r_al0 zi_202_0 rfl ?_
      refine q_cIV zi_202_1 rfl rfl rfl rfl rfl rfl rfl cf_195_0.ob (hsm _ (fun _ _ _ z => by cases z) (fun n2 q2 υ z x1 x2 x3 => ?_))
      show zk _ _ 4 _ _ _ _
      refine r_push zi_202_4 rfl ?_
      refine r_ic1 zi_202_5 rfl (fun c => absurd (by decide) c) (fun _ => ?_)
      refine r_push zi_202_8 rfl ?_
      refine r_retI zi_202_9 rfl ?_
      cases z; exact ⟨_, rfl, h0 υ x1 x2 x3⟩
    | inr y =>
      obtain ⟨j1, cs1⟩ := y
      have hl1 := pe_len hp
      replace hr : (if 20060 ≤ tkk t b j1 ∧ tkk t b j1 ≤ 20062 then (match pe (tkk t b) 401 (j1 + 1) cs1 with | none => none | some (.inl x) => some (.inl x) | some (.inr (j2, cs2)) => G j2 (cs2 ++ [tkk t b j1])) else some (.inl (1, j1))) = some r := hr
      have key : ∀ υ, Fg mA σ υ → mSt υ t b N j1 cs1 l → zk (d + 6) 202 10 [.ref 195, zun] [] υ (fun r t => ∃ v, r = some v ∧ Q v t) := by
        intro υ hF hs1
        obtain ⟨k1, k2, k3, k4⟩ := id hs1
        have hkd := k1.2.2.2
        have hsg : ∀ (c : Nat) (Q2 : Int32 → zS → Prop), c < 256 → (tkk t b j1 = 20000 + c → Q2 1 υ) → (¬ tkk t b j1 = 20000 + c → Q2 0 υ) → zI1 (d + 5) 196 [.ref 195, .int (nI c)] υ Q2 := fun c Q2 hc g1 g0 => s_msign hkd hc g1 g0
        by_cases c : 20060 ≤ tkk t b j1 ∧ tkk t b j1 ≤ 20062
        · rw [if_pos c] at hr
          have hjn : j1 + 1 ≤ N := by
            by_cases e : j1 = N
            · rw [e, hE.1] at c; omega
            · omega
          have e15 : ∀ c, tkk t b j1 = 20000 + c → υ 195 15 = nI c := fun c z => by
            rcases hkd with ⟨h, e1, e2⟩ | ⟨q, hq, h, e1, e2⟩ | ⟨q, hq, h, e1, e2⟩ | ⟨h, e1⟩ | ⟨h, e1⟩
            · omega
            · omega
            · rw [e2]; exact congrArg nI (by omega)
            · omega
            · omega
          have k74 : ∀ (w : Int32), w = nI (zdo (tkk t b j1)) → zk (d + 6) 202 74 [.ref 195, .int w] [] υ (fun r t => ∃ v, r = some v ∧ Q v t) := by
            intro w hw
            have hrd : ∀ (Q2 : zS → Prop), (∀ ρ, Fg mA σ ρ → mSt ρ t b N (j1 + 1) cs1 (l + 1) → Q2 ρ) → zV1 (d + 5) 193 [.ref 195] υ Q2 := fun Q2 h2 => s_readn (d := d + 3) k1 (fun ρ x y => h2 ρ (hF.tr (x.sub (fun a b => mR_A))) ⟨y, mDc_f k2 (x 195 25 (by unfold mR; omega)) (fun b => x 209 b (by unfold mR; omega)) (fun b => x 210 b (by unfold mR; omega)), hjn, by omega⟩)
            have hem : ∀ (ds : List Nat) (i : Nat) (ρ : zS), Fg mA σ ρ → mSt ρ t b N i ds (l + 1) → ∀ (Q2 : zS → Prop), (∀ ω, Fg mA σ ω → mSt ω t b N i (ds ++ [tkk t b j1]) l → Q2 ω) → zV1 (d + 5) 197 [.ref 195, .int w, .int 0] ρ Q2 := fun ds i ρ x y Q2 h2 => s_emits (a := 0) y.2.1 (by have := hE.2; have := y.2.2.1; have := y.2.2.2; omega) hw (by unfold zda; rw [if_neg (by omega), if_neg (by omega)]; rfl) (fun ω u1 u2 => h2 ω (x.tr (u1.sub (fun a b => mE_A))) ⟨mTk_f y.1 (fun q a b => u1 195 q (by unfold mE; omega)) (fun q => u1 202 q (by unfold mE; omega)) (fun q => u1 203 q (by unfold mE; omega)), u2, y.2.2.1, by rw [List.length_append, List.length_singleton]; have := y.2.2.2; omega⟩)
            cases hp2 : pe (tkk t b) 401 (j1 + 1) cs1 with
            | none => rw [hp2] at hr; cases hr
            | some x =>
              rw [hp2] at hr
              have hsm2 := fun ρ (g : mSt ρ t b N (j1 + 1) cs1 (l + 1)) (Q2 : Int32 → zS → Prop) k1 k0 => s_msum (d := d) (l := l + 1) (Q := Q2) hE hp2 g k1 k0
              cases x with
              | inl y =>
                have er := Option.some.inj hr
                obtain ⟨n, q⟩ := y
                have h0 := fun υ => h0 n q υ er.symm
                refine r_al0 zi_202_74 rfl ?_
                refine q_cVV zi_202_75 rfl rfl rfl rfl rfl rfl rfl cf_195_0.ob (hrd _ (fun ρ x1 x2 => ?_))
                show zk _ _ 78 _ _ _ _
                refine r_al0 zi_202_78 rfl ?_
                refine q_cIV zi_202_79 rfl rfl rfl rfl rfl rfl rfl cf_195_0.ob (hsm2 ρ x2 _ (fun _ _ _ z => by cases z) (fun n2 q2 ω z y1 y2 y3 => ?_))
                show zk _ _ 82 _ _ _ _
                refine r_push zi_202_82 rfl ?_
                refine r_ic1 zi_202_83 rfl (fun c => absurd (by decide) c) (fun _ => ?_)
                refine r_push zi_202_86 rfl ?_
                refine r_retI zi_202_87 rfl ?_
                cases z; exact ⟨_, rfl, h0 ω (x1.tr y1) y2 y3⟩
              | inr y =>
                obtain ⟨j2, cs2⟩ := y
                have hr : G j2 (cs2 ++ [tkk t b j1]) = some r := hr
                have h1 := fun ω => h1 j2 _ ω hr
                refine r_al0 zi_202_74 rfl ?_
                refine q_cVV zi_202_75 rfl rfl rfl rfl rfl rfl rfl cf_195_0.ob (hrd _ (fun ρ x1 x2 => ?_))
                show zk _ _ 78 _ _ _ _
                refine r_al0 zi_202_78 rfl ?_
                refine q_cIV zi_202_79 rfl rfl rfl rfl rfl rfl rfl cf_195_0.ob (hsm2 ρ x2 _ (fun i2 ds ω z y1 y2 => ?_) (fun _ _ _ z => by cases z))
                show zk _ _ 82 _ _ _ _
                refine r_push zi_202_82 rfl ?_
                refine r_ic1 zi_202_83 rfl (fun _ => ?_) (fun c => absurd c (by decide))
                refine r_al0 zi_202_88 rfl ?_
                refine r_il1 zi_202_89 rfl ?_
                refine r_push zi_202_90 rfl ?_
                refine q_cVV zi_202_91 rfl rfl rfl rfl rfl rfl rfl cf_195_0.ob (hem cs2 j2 ω (x1.tr y1) (by cases z; exact y2) _ (fun ξ z1 z2 => ?_))
                show zk _ _ 94 _ _ _ _
                refine r_push zi_202_94 rfl ?_
                refine r_retI zi_202_95 rfl ?_
                exact ⟨_, rfl, h1 ξ z1 z2⟩
          by_cases c0 : tkk t b j1 = 20060
          · have e15 := e15 60 c0
            have k74 := k74 6 (by rw [c0]; rfl)
            refine r_al0 zi_202_10 rfl ?_
            refine r_push zi_202_11 rfl ?_
            refine q_cIV zi_202_13 rfl rfl rfl rfl rfl rfl rfl cf_195_0.ob (hsg 60 _ (by decide) (fun _ => ?_) (fun z => absurd c0 z))
            show zk _ _ 16 _ _ _ _
            refine r_if1 zi_202_16 rfl (fun _ => ?_) (fun c => absurd c (by decide))
            refine r_al0 zi_202_43 rfl ?_
            refine q_getIe zi_202_44 rfl cf_195_15 (v := 60) (by first | exact e15 | ((repeat (first | rw [zup_ne (by first | decide | omega)] | rw [zup_nj (by first | decide | omega)] | rw [fil_ne (by first | decide | omega)])) <;> exact e15) | (simp [up_rd, fil_rd]; exact e15)) ?_
            refine r_push zi_202_47 rfl ?_
            refine r_ic1 zi_202_49 rfl (fun c => absurd (by decide) c) (fun _ => ?_)
            refine r_push zi_202_52 rfl ?_
            refine r_goto zi_202_54 rfl ?_
            refine r_is1 zi_202_73 rfl ?_
            exact k74
          · by_cases c7 : tkk t b j1 = 20061
            · have e15 := e15 61 c7
              have k74 := k74 7 (by rw [c7]; rfl)
              refine r_al0 zi_202_10 rfl ?_
              refine r_push zi_202_11 rfl ?_
              refine q_cIV zi_202_13 rfl rfl rfl rfl rfl rfl rfl cf_195_0.ob (hsg 60 _ (by decide) (fun z => absurd z c0) (fun _ => ?_))
              show zk _ _ 16 _ _ _ _
              refine r_if1 zi_202_16 rfl (fun c => absurd (by decide) c) (fun _ => ?_)
              refine r_al0 zi_202_19 rfl ?_
              refine r_push zi_202_20 rfl ?_
              refine q_cIV zi_202_22 rfl rfl rfl rfl rfl rfl rfl cf_195_0.ob (hsg 61 _ (by decide) (fun _ => ?_) (fun z => absurd c7 z))
              show zk _ _ 25 _ _ _ _
              refine r_if1 zi_202_25 rfl (fun _ => ?_) (fun c => absurd c (by decide))
              refine r_al0 zi_202_43 rfl ?_
              refine q_getIe zi_202_44 rfl cf_195_15 (v := 61) (by first | exact e15 | ((repeat (first | rw [zup_ne (by first | decide | omega)] | rw [zup_nj (by first | decide | omega)] | rw [fil_ne (by first | decide | omega)])) <;> exact e15) | (simp [up_rd, fil_rd]; exact e15)) ?_
              refine r_push zi_202_47 rfl ?_
              refine r_ic1 zi_202_49 rfl (fun _ => ?_) (fun c => absurd c (by decide))
              refine r_al0 zi_202_57 rfl ?_
              refine q_getIe zi_202_58 rfl cf_195_15 (v := 61) (by first | exact e15 | ((repeat (first | rw [zup_ne (by first | decide | omega)] | rw [zup_nj (by first | decide | omega)] | rw [fil_ne (by first | decide | omega)])) <;> exact e15) | (simp [up_rd, fil_rd]; exact e15)) ?_
              refine r_push zi_202_61 rfl ?_
              refine r_ic1 zi_202_63 rfl (fun c => absurd (by decide) c) (fun _ => ?_)
              refine r_push zi_202_66 rfl ?_
              refine r_goto zi_202_68 rfl ?_
              refine r_is1 zi_202_73 rfl ?_
              exact k74
            · have c8 : tkk t b j1 = 20062 := by omega
              have e15 := e15 62 c8
              have k74 := k74 8 (by rw [c8]; rfl)
              refine r_al0 zi_202_10 rfl ?_
              refine r_push zi_202_11 rfl ?_
              refine q_cIV zi_202_13 rfl rfl rfl rfl rfl rfl rfl cf_195_0.ob (hsg 60 _ (by decide) (fun z => absurd z c0) (fun _ => ?_))
              show zk _ _ 16 _ _ _ _
              refine r_if1 zi_202_16 rfl (fun c => absurd (by decide) c) (fun _ => ?_)
              refine r_al0 zi_202_19 rfl ?_
              refine r_push zi_202_20 rfl ?_
              refine q_cIV zi_202_22 rfl rfl rfl rfl rfl rfl rfl cf_195_0.ob (hsg 61 _ (by decide) (fun z => absurd z c7) (fun _ => ?_))
              show zk _ _ 25 _ _ _ _
              refine r_if1 zi_202_25 rfl (fun c => absurd (by decide) c) (fun _ => ?_)
              refine r_al0 zi_202_28 rfl ?_
              refine r_push zi_202_29 rfl ?_
              refine q_cIV zi_202_31 rfl rfl rfl rfl rfl rfl rfl cf_195_0.ob (hsg 62 _ (by decide) (fun _ => ?_) (fun z => absurd c8 z))
              show zk _ _ 34 _ _ _ _
              refine r_if1 zi_202_34 rfl (fun _ => ?_) (fun c => absurd c (by decide))
              refine r_al0 zi_202_43 rfl ?_
              refine q_getIe zi_202_44 rfl cf_195_15 (v := 62) (by first | exact e15 | ((repeat (first | rw [zup_ne (by first | decide | omega)] | rw [zup_nj (by first | decide | omega)] | rw [fil_ne (by first | decide | omega)])) <;> exact e15) | (simp [up_rd, fil_rd]; exact e15)) ?_
              refine r_push zi_202_47 rfl ?_
              refine r_ic1 zi_202_49 rfl (fun _ => ?_) (fun c => absurd c (by decide))
              refine r_al0 zi_202_57 rfl ?_
              refine q_getIe zi_202_58 rfl cf_195_15 (v := 62) (by first | exact e15 | ((repeat (first | rw [zup_ne (by first | decide | omega)] | rw [zup_nj (by first | decide | omega)] | rw [fil_ne (by first | decide | omega)])) <;> exact e15) | (simp [up_rd, fil_rd]; exact e15)) ?_
              refine r_push zi_202_61 rfl ?_
              refine r_ic1 zi_202_63 rfl (fun _ => ?_) (fun c => absurd c (by decide))
              refine r_push zi_202_71 rfl ?_
              refine r_is1 zi_202_73 rfl ?_
              exact k74
        · rw [if_neg c] at hr
          have er := Option.some.inj hr
          have herr : ∀ (Q2 : Int32 → zS → Prop), (∀ ρ, Q (-1) ρ → Q2 (-1) ρ) → zI1 (d + 5) 194 [.ref 195, .int 1] υ Q2 := fun Q2 h2 => s_err (n := 1) k1 (fun ρ x y w => h2 ρ (h0 1 j1 ρ er.symm (hF.tr x) y w))
          refine r_al0 zi_202_10 rfl ?_
          refine r_push zi_202_11 rfl ?_
          refine q_cIV zi_202_13 rfl rfl rfl rfl rfl rfl rfl cf_195_0.ob (hsg 60 _ (by decide) (fun z => absurd ⟨by omega, by omega⟩ c) (fun _ => ?_))
          show zk _ _ 16 _ _ _ _
          refine r_if1 zi_202_16 rfl (fun c => absurd (by decide) c) (fun _ => ?_)
          refine r_al0 zi_202_19 rfl ?_
          refine r_push zi_202_20 rfl ?_
          refine q_cIV zi_202_22 rfl rfl rfl rfl rfl rfl rfl cf_195_0.ob (hsg 61 _ (by decide) (fun z => absurd ⟨by omega, by omega⟩ c) (fun _ => ?_))
          show zk _ _ 25 _ _ _ _
          refine r_if1 zi_202_25 rfl (fun c => absurd (by decide) c) (fun _ => ?_)
          refine r_al0 zi_202_28 rfl ?_
          refine r_push zi_202_29 rfl ?_
          refine q_cIV zi_202_31 rfl rfl rfl rfl rfl rfl rfl cf_195_0.ob (hsg 62 _ (by decide) (fun z => absurd ⟨by omega, by omega⟩ c) (fun _ => ?_))
          show zk _ _ 34 _ _ _ _
          refine r_if1 zi_202_34 rfl (fun c => absurd (by decide) c) (fun _ => ?_)
          refine r_al0 zi_202_37 rfl ?_
          refine r_push zi_202_38 rfl ?_
          refine q_cIV zi_202_39 rfl rfl rfl rfl rfl rfl rfl cf_195_0.ob (herr _ (fun ρ y => ?_))
          show zk _ _ 42 _ _ _ _
          refine r_retI zi_202_42 rfl ?_
          exact ⟨_, rfl, y⟩
      refine r_al0 zi_202_0 rfl ?_
      refine q_cIV zi_202_1 rfl rfl rfl rfl rfl rfl rfl cf_195_0.ob (hsm _ (fun i2 ds υ z x1 x2 => ?_) (fun _ _ _ z => by cases z))
      show zk _ _ 4 _ _ _ _
      refine r_push zi_202_4 rfl ?_
      refine r_ic1 zi_202_5 rfl (fun _ => ?_) (fun c => absurd c (by decide))
      cases z; exact key υ x1 x2

