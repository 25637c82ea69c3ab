/-! sits: where to meet, class -/
def zMb (R : Nat → Nat) : Nat → Nat
  | 0 => 12
  | p + 1 => if R p < 100000000 ∧ (zMb R p = 12 ∨ R p < R (zMb R p)) then p else zMb R p
theorem zMb_b {R : Nat → Nat} : ∀ p, zMb R p = 12 ∨ (zMb R p < p ∧ R (zMb R p) < 100000000)
  | 0 => Or.inl rfl
  | p + 1 => by
    have ih := zMb_b (R := R) p
    unfold zMb
    split
    · rename_i h; exact Or.inr ⟨Nat.lt_succ_self p, h.1⟩
    · rcases ih with e | e
      · exact Or.inl e
      · exact Or.inr ⟨Nat.lt_succ_of_lt e.1, e.2⟩
theorem s_kmeet {d n p : Nat} {σ V : zS} {Q : Int32 → zS → Prop} {B : Nat → Int32} (hV : zVk σ 2 false V) (hg : zVg V n) (hB : σ 28 = B) (hBk : zBok B) (hh : zhd σ 27) (hp : p < 12) (hq : Q (if zRt V n B p 18 < 100000000 then nI (zRt V n B p 18) else -1) σ) : zI1 (d + 3) 58 [.ref 1, .int (nI p)] σ Q := by
  show zk _ _ 0 [.ref 1, .int (nI p), zun, zun, zun] [] _ _
  refine r_push zi_58_0 rfl ?_
  refine r_is2 zi_58_1 rfl ?_
  refine r_push zi_58_2 rfl ?_
  refine r_is3 zi_58_3 rfl ?_
  exact l_kmeet hV hg hB hBk hh hp hq 18 0 _ (by omega) (by unfold zRt; omega)
theorem l_kmeeting {d : Nat} {σ : zS} {Q : Int32 → zS → Prop} {R : Nat → Nat} (hR : ∀ (p : Nat) (Q2 : Int32 → zS → Prop), p < 12 → Q2 (if R p < 100000000 then nI (R p) else -1) σ → zI1 d 58 [.ref 1, .int (nI p)] σ Q2) (hq : Q (if zMb R 12 = 12 then -1 else nI (zMb R 12)) σ) : ∀ (m p : Nat) (u4 : Value), p + m = 12 → zk (d + 1) 57 6 [.ref 1, .int (if zMb R p = 12 then -1 else nI (zMb R p)), .int (if zMb R p = 12 then -1 else nI (R (zMb R p))), .int (nI p), u4] [] σ (fun r t => ∃ v, r = some v ∧ Q v t) := by
  intro m
  induction m with
  | zero =>
    intro p u4 hp
    have e : p = 12 := by omega
    subst e
    refine r_il3 zi_57_6 rfl ?_
    refine r_push zi_57_7 rfl ?_
    refine r_ic3 zi_57_9 rfl (fun _ => ?_) (fun c => absurd (by decide) c)
    refine r_il1 zi_57_47 rfl ?_
    refine r_retI zi_57_48 rfl ?_
    exact ⟨_, rfl, hq⟩
  | succ m ih =>
    intro p u4 hp
    have ih := fun u => ih (p + 1) u (by omega)
    have hR := fun Q2 h2 => hR p Q2 (by omega) h2
    have hb := zMb_b (R := R) p
    have e1 : zMb R (p + 1) = if R p < 100000000 ∧ (zMb R p = 12 ∨ R p < R (zMb R p)) then p else zMb R p := rfl
    have hp12 : ¬ p = 12 := by omega
    rw [e1] at ih
    generalize zMb R p = k at *
    by_cases c1 : R p < 100000000
    · rw [if_pos c1] at hR
      have cn : ¬ nI (R p) = -1 := fun z => absurd (nI_pos' (n := R p) (by omega)) (by rw [z]; decide)
      by_cases c2 : k = 12
      · have e2 : (if R p < 100000000 ∧ (k = 12 ∨ R p < R k) then p else k) = p := if_pos ⟨c1, Or.inl c2⟩
        rw [e2, if_neg hp12, if_neg hp12] at ih
        rw [if_pos c2, if_pos c2]
        refine r_il3 zi_57_6 rfl ?_
        refine r_push zi_57_7 rfl ?_
        refine n_ic3 (i := p) (j := 12) zi_57_9 rfl (by omega) (by omega) (fun c => absurd c (by omega)) (fun _ => ?_)
        refine r_al0 zi_57_12 rfl ?_
        refine r_il3 zi_57_13 rfl ?_
        refine q_cIV zi_57_14 rfl rfl rfl rfl rfl rfl rfl cf_1_0.ob (hR _ ?_)
        show zk _ _ 17 _ _ _ _
        refine r_is4 zi_57_17 rfl ?_
        refine r_il4 zi_57_19 rfl ?_
        refine r_push zi_57_21 rfl ?_
        refine r_ic0 zi_57_22 rfl (fun c => absurd c cn) (fun _ => ?_)
        refine r_il1 zi_57_25 rfl ?_
        refine r_push zi_57_26 rfl ?_
        refine r_ic0 zi_57_27 rfl (fun _ => ?_) (fun c => absurd rfl c)
        refine r_il3 zi_57_36 rfl ?_
        refine r_is1 zi_57_37 rfl ?_
        refine r_il4 zi_57_38 rfl ?_
        refine r_is2 zi_57_40 rfl ?_
        refine r_in3 zi_57_41 rfl ?_
        rw [show (nI p + 1 : Int32) = nI (p + 1) from nI_add _ _]
        refine r_goto zi_57_44 rfl ?_
        exact ih _
      · have kn : ¬ nI k = -1 := fun z => absurd (nI_pos' (n := k) (by omega)) (by rw [z]; decide)
        have hk : R k < 100000000 := (hb.resolve_left c2).2
        rw [if_neg c2, if_neg c2]
        by_cases c3 : R p < R k
        · have e2 : (if R p < 100000000 ∧ (k = 12 ∨ R p < R k) then p else k) = p := if_pos ⟨c1, Or.inr c3⟩
          rw [e2, if_neg hp12, if_neg hp12] at ih
          generalize R k = rk at *
          refine r_il3 zi_57_6 rfl ?_
          refine r_push zi_57_7 rfl ?_
          refine n_ic3 (i := p) (j := 12) zi_57_9 rfl (by omega) (by omega) (fun c => absurd c (by omega)) (fun _ => ?_)
          refine r_al0 zi_57_12 rfl ?_
          refine r_il3 zi_57_13 rfl ?_
          refine q_cIV zi_57_14 rfl rfl rfl rfl rfl rfl rfl cf_1_0.ob (hR _ ?_)
          show zk _ _ 17 _ _ _ _
          refine r_is4 zi_57_17 rfl ?_
          refine r_il4 zi_57_19 rfl ?_
          refine r_push zi_57_21 rfl ?_
          refine r_ic0 zi_57_22 rfl (fun c => absurd c cn) (fun _ => ?_)
          refine r_il1 zi_57_25 rfl ?_
          refine r_push zi_57_26 rfl ?_
          refine r_ic0 zi_57_27 rfl (fun c => absurd c kn) (fun _ => ?_)
          refine r_il4 zi_57_30 rfl ?_
          refine r_il2 zi_57_32 rfl ?_
          refine n_ic3 (i := R p) (j := rk) zi_57_33 rfl (by omega) (by omega) (fun c => absurd c (by omega)) (fun _ => ?_)
          refine r_il3 zi_57_36 rfl ?_
          refine r_is1 zi_57_37 rfl ?_
          refine r_il4 zi_57_38 rfl ?_
          refine r_is2 zi_57_40 rfl ?_
          refine r_in3 zi_57_41 rfl ?_
          rw [show (nI p + 1 : Int32) = nI (p + 1) from nI_add _ _]
          refine r_goto zi_57_44 rfl ?_
          exact ih _
        · have e2 : (if R p < 100000000 ∧ (k = 12 ∨ R p < R k) then p else k) = k := if_neg (fun z => z.2.elim c2 c3)
          rw [e2, if_neg c2, if_neg c2] at ih
          generalize R k = rk at *
          refine r_il3 zi_57_6 rfl ?_
          refine r_push zi_57_7 rfl ?_
          refine n_ic3 (i := p) (j := 12) zi_57_9 rfl (by omega) (by omega) (fun c => absurd c (by omega)) (fun _ => ?_)
          refine r_al0 zi_57_12 rfl ?_
          refine r_il3 zi_57_13 rfl ?_
          refine q_cIV zi_57_14 rfl rfl rfl rfl rfl rfl rfl cf_1_0.ob (hR _ ?_)
          show zk _ _ 17 _ _ _ _
          refine r_is4 zi_57_17 rfl ?_
          refine r_il4 zi_57_19 rfl ?_
          refine r_push zi_57_21 rfl ?_
          refine r_ic0 zi_57_22 rfl (fun c => absurd c cn) (fun _ => ?_)
          refine r_il1 zi_57_25 rfl ?_
          refine r_push zi_57_26 rfl ?_
          refine r_ic0 zi_57_27 rfl (fun c => absurd c kn) (fun _ => ?_)
          refine r_il4 zi_57_30 rfl ?_
          refine r_il2 zi_57_32 rfl ?_
          refine n_ic3 (i := R p) (j := rk) zi_57_33 rfl (by omega) (by omega) (fun _ => ?_) (fun c => absurd c (by omega))
          refine r_in3 zi_57_41 rfl ?_
          rw [show (nI p + 1 : Int32) = nI (p + 1) from nI_add _ _]
          refine r_goto zi_57_44 rfl ?_
          exact ih _
    · rw [if_neg c1] at hR
      have e2 : (if R p < 100000000 ∧ (k = 12 ∨ R p < R k) then p else k) = k := if_neg (fun z => c1 z.1)
      rw [e2] at ih
      refine r_il3 zi_57_6 rfl ?_
      refine r_push zi_57_7 rfl ?_
      refine n_ic3 (i := p) (j := 12) zi_57_9 rfl (by omega) (by omega) (fun c => absurd c (by omega)) (fun _ => ?_)
      refine r_al0 zi_57_12 rfl ?_
      refine r_il3 zi_57_13 rfl ?_
      refine q_cIV zi_57_14 rfl rfl rfl rfl rfl rfl rfl cf_1_0.ob (hR _ ?_)
      show zk _ _ 17 _ _ _ _
      refine r_is4 zi_57_17 rfl ?_
      refine r_il4 zi_57_19 rfl ?_
      refine r_push zi_57_21 rfl ?_
      refine r_ic0 zi_57_22 rfl (fun _ => ?_) (fun c => absurd rfl c)
      refine r_in3 zi_57_41 rfl ?_
      rw [show (nI p + 1 : Int32) = nI (p + 1) from nI_add _ _]
      refine r_goto zi_57_44 rfl ?_
      exact ih _

