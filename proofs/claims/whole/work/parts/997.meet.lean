/-! sits: the roads to meet at a place, both sides -/
def zRd (B : Nat → Int32) (a p : Nat) : Nat := if zds B p a < 12 then zds B p a else 100000000
def zRt (V : zS) (n : Nat) (B : Nat → Int32) (p : Nat) : Nat → Nat
  | 0 => 0
  | s + 1 => if s < n ∧ V 6 s = 1 then min 100000000 (zRt V n B p s + zRd B (un (V 3 s)) p) else zRt V n B p s
theorem zRt_b {V : zS} {n : Nat} {B : Nat → Int32} {p : Nat} : ∀ s, zRt V n B p s = 100000000 ∨ zRt V n B p s ≤ 11 * s
  | 0 => Or.inr (Nat.le_refl _)
  | s + 1 => by
    have ih := zRt_b (V := V) (n := n) (B := B) (p := p) s
    unfold zRt
    split
    · unfold zRd
      split
      · omega
      · omega
    · omega
theorem zRt_m {V : zS} {n : Nat} {B : Nat → Int32} {p : Nat} {s : Nat} (h : zRt V n B p s = 100000000) : ∀ m, zRt V n B p (s + m) = 100000000
  | 0 => h
  | m + 1 => by
    have ih := zRt_m h m
    show zRt V n B p (s + m + 1) = _
    unfold zRt
    split
    · omega
    · exact ih
theorem zRt_e {V : zS} {n : Nat} {B : Nat → Int32} {p : Nat} : ∀ m, zRt V n B p (n + m) = zRt V n B p n
  | 0 => rfl
  | m + 1 => by
    show (if n + m < n ∧ V 6 (n + m) = 1 then min 100000000 (zRt V n B p (n + m) + zRd B (un (V 3 (n + m))) p) else zRt V n B p (n + m)) = _
    rw [if_neg (fun z => absurd z.1 (by omega))]
    exact zRt_e m
theorem l_kmeet {d n p : Nat} {σ V : zS} {Q : Int32 → zS → Prop} {B : Nat → Int32} (hV : zVk σ 2 false V) (hg : zVg V n) (hB : σ 28 = B) (hBk : zBok B) (hh : zhd σ 27) (hp : p < 12) (hq : Q (if zRt V n B p 18 < 100000000 then nI (zRt V n B p 18) else -1) σ) : ∀ (m s : Nat) (u4 : Value), s + m = 18 → zRt V n B p s < 100000000 → zk (d + 3) 58 4 [.ref 1, .int (nI p), .int (nI (zRt V n B p s)), .int (nI s), u4] [] σ (fun r t => ∃ v, r = some v ∧ Q v t) := by
  obtain ⟨gn, gn18, gat, _⟩ := id hg
  have hsub : σ 2 11 = nI n := (hV.2.1 11 (by decide) (by decide)).trans gn
  intro m
  induction m with
  | zero =>
    intro s u4 hs hr
    have e : s = 18 := by omega
    subst e
    rw [if_pos hr] at hq
    refine r_il3 zi_58_4 rfl ?_
    refine r_push zi_58_5 rfl ?_
    refine r_ic3 zi_58_7 rfl (fun _ => ?_) (fun c => absurd (by decide) c)
    refine r_il2 zi_58_59 rfl ?_
    refine r_retI zi_58_60 rfl ?_
    exact ⟨_, rfl, hq⟩
  | succ m ih =>
    intro s u4 hs hr
    have ih := fun u => ih (s + 1) u (by omega)
    have hm := fun z => zRt_m (V := V) (n := n) (B := B) (p := p) (s := s + 1) z m
    rw [show s + 1 + m = 18 by omega] at hm
    have hb := zRt_b (V := V) (n := n) (B := B) (p := p) s
    have l0 := nI_pos' (n := s) (by omega)
    have hal : σ (2 + 1 + 6) s = V 6 s := hV.1 6 (by decide) s
    have hinj : ∀ q, q < n → nI s = nI q → q = s := fun q hq e => ((nI_eq (by omega) (by omega)).mp e).symm
    by_cases hc : s < n ∧ V 6 s = 1
    · obtain ⟨a, ha, haV⟩ := gat s hc.1
      have hat : σ (2 + 1 + 3) s = nI a := (hV.1 3 (by decide) s).trans haV
      have hua : un (V 3 s) = a := by rw [haV]; exact un_nI (by omega)
      have e1 : zRt V n B p (s + 1) = min 100000000 (zRt V n B p s + zRd B a p) := by
        show (if s < n ∧ V 6 s = 1 then _ else _) = _
        rw [if_pos hc, hua]
      have hlv : ∀ (Q2 : Int32 → zS → Prop), Q2 1 σ → zI1 (d + 2) 19 [.ref 2, .int (nI s)] σ Q2 := fun Q2 h2 => s_dlives zDu_2 hsub gn18 (fun q hq1 e al => h2) (fun z => absurd ⟨l0, nI_lt hc.1 (by omega)⟩ z) (fun q hq1 e al => absurd (hal.trans hc.2) (by rw [← hinj q hq1 e]; exact al))
      have hfa : ∀ (Q2 : Int32 → zS → Prop), Q2 (if zds B p a < 12 then nI (zds B p a) else -1) σ → zI1 (d + 2) 118 [.ref 27, .int (nI a), .int (nI p)] σ Q2 := fun Q2 h2 => s_far zWa27 hh ha hp (by unfold zdV; rw [show σ (27 + 1) = B from hB, zds_sym hBk ha hp]; exact h2)
      unfold zRd at e1
      generalize zRt V n B p s = r at *
      by_cases h12 : zds B p a < 12
      · rw [if_pos h12] at e1 hfa
        have e2 : zRt V n B p (s + 1) = r + zds B p a := by omega
        rw [e2] at ih
        refine r_il3 zi_58_4 rfl ?_
        refine r_push zi_58_5 rfl ?_
        refine n_ic3 (i := s) (j := 18) zi_58_7 rfl (by omega) (by omega) (fun c => absurd c (by omega)) (fun _ => ?_)
        refine r_al0 zi_58_10 rfl ?_
        refine q_getR zi_58_11 rfl cf_1_0 ?_
        refine r_il3 zi_58_14 rfl ?_
        refine q_cIV zi_58_15 rfl rfl rfl rfl rfl rfl rfl cf_2_0.ob (hlv _ ?_)
        show zk _ _ 18 _ _ _ _
        refine r_if0 zi_58_18 rfl (fun c => absurd c (by decide)) (fun _ => ?_)
        refine r_al0 zi_58_21 rfl ?_
        refine q_getR zi_58_22 rfl cf_1_6 ?_
        refine r_al0 zi_58_25 rfl ?_
        refine q_getR zi_58_26 rfl cf_1_0 ?_
        refine q_getR zi_58_29 rfl cf_2_3 ?_
        refine r_il3 zi_58_32 rfl ?_
        refine r_alde zi_58_33 rfl s ca_6 (by first | rfl | (simp only [zI_add, zI_mul] <;> rfl)) (by first | omega | decide) (u := nI a) (by first | exact hat | ((repeat (first | rw [zup_ne (by first | decide | omega)] | rw [zup_nj (by first | decide | omega)] | rw [fil_ne (by first | decide | omega)])) <;> exact hat) | (simp [up_rd, fil_rd]; exact hat)) ?_
        refine r_il1 zi_58_34 rfl ?_
        refine q_cIV zi_58_35 rfl rfl rfl rfl rfl rfl rfl cf_27_0.ob (hfa _ ?_)
        show zk _ _ 38 _ _ _ _
        refine r_is4 zi_58_38 rfl ?_
        refine r_il4 zi_58_40 rfl ?_
        refine r_push zi_58_42 rfl ?_
        refine r_ic1 zi_58_43 rfl (fun _ => ?_) (fun c => absurd c (fun z => absurd (nI_pos' (n := zds B p a) (by omega)) (by rw [z]; decide)))
        refine r_il2 zi_58_48 rfl ?_
        refine r_il4 zi_58_49 rfl ?_
        refine r_b0 zi_58_51 rfl ?_
        rw [show (nI r + nI (zds B p a) : Int32) = nI (r + zds B p a) from nI_add _ _]
        refine r_is2 zi_58_52 rfl ?_
        refine r_in3 zi_58_53 rfl ?_
        rw [show (nI s + 1 : Int32) = nI (s + 1) from nI_add _ _]
        refine r_goto zi_58_56 rfl ?_
        exact ih _ (by omega)
      · rw [if_neg h12] at e1 hfa
        have h18 := hm (e1.trans (Nat.min_eq_left (Nat.le_add_left _ _)))
        rw [h18, if_neg (Nat.lt_irrefl _)] at hq
        refine r_il3 zi_58_4 rfl ?_
        refine r_push zi_58_5 rfl ?_
        refine n_ic3 (i := s) (j := 18) zi_58_7 rfl (by omega) (by omega) (fun c => absurd c (by omega)) (fun _ => ?_)
        refine r_al0 zi_58_10 rfl ?_
        refine q_getR zi_58_11 rfl cf_1_0 ?_
        refine r_il3 zi_58_14 rfl ?_
        refine q_cIV zi_58_15 rfl rfl rfl rfl rfl rfl rfl cf_2_0.ob (hlv _ ?_)
        show zk _ _ 18 _ _ _ _
        refine r_if0 zi_58_18 rfl (fun c => absurd c (by decide)) (fun _ => ?_)
        refine r_al0 zi_58_21 rfl ?_
        refine q_getR zi_58_22 rfl cf_1_6 ?_
        refine r_al0 zi_58_25 rfl ?_
        refine q_getR zi_58_26 rfl cf_1_0 ?_
        refine q_getR zi_58_29 rfl cf_2_3 ?_
        refine r_il3 zi_58_32 rfl ?_
        refine r_alde zi_58_33 rfl s ca_6 (by first | rfl | (simp only [zI_add, zI_mul] <;> rfl)) (by first | omega | decide) (u := nI a) (by first | exact hat | ((repeat (first | rw [zup_ne (by first | decide | omega)] | rw [zup_nj (by first | decide | omega)] | rw [fil_ne (by first | decide | omega)])) <;> exact hat) | (simp [up_rd, fil_rd]; exact hat)) ?_
        refine r_il1 zi_58_34 rfl ?_
        refine q_cIV zi_58_35 rfl rfl rfl rfl rfl rfl rfl cf_27_0.ob (hfa _ ?_)
        show zk _ _ 38 _ _ _ _
        refine r_is4 zi_58_38 rfl ?_
        refine r_il4 zi_58_40 rfl ?_
        refine r_push zi_58_42 rfl ?_
        refine r_ic1 zi_58_43 rfl (fun c => absurd rfl c) (fun _ => ?_)
        refine r_push zi_58_46 rfl ?_
        refine r_retI zi_58_47 rfl ?_
        exact ⟨_, rfl, hq⟩
    · have e1 : zRt V n B p (s + 1) = zRt V n B p s := by
        show (if s < n ∧ V 6 s = 1 then _ else _) = _
        rw [if_neg hc]
      have hlv : ∀ (Q2 : Int32 → zS → Prop), Q2 0 σ → zI1 (d + 2) 19 [.ref 2, .int (nI s)] σ Q2 := fun Q2 h2 => s_dlives zDu_2 hsub gn18 (fun q hq1 e al => absurd ⟨by rw [← hinj q hq1 e]; exact hq1, hal.symm.trans (by rw [← hinj q hq1 e]; exact al)⟩ hc) (fun z => h2) (fun q hq1 e al => h2)
      rw [e1] at ih
      refine r_il3 zi_58_4 rfl ?_
      refine r_push zi_58_5 rfl ?_
      refine n_ic3 (i := s) (j := 18) zi_58_7 rfl (by omega) (by omega) (fun c => absurd c (by omega)) (fun _ => ?_)
      refine r_al0 zi_58_10 rfl ?_
      refine q_getR zi_58_11 rfl cf_1_0 ?_
      refine r_il3 zi_58_14 rfl ?_
      refine q_cIV zi_58_15 rfl rfl rfl rfl rfl rfl rfl cf_2_0.ob (hlv _ ?_)
      show zk _ _ 18 _ _ _ _
      refine r_if0 zi_58_18 rfl (fun _ => ?_) (fun c => absurd (by decide) c)
      refine r_in3 zi_58_53 rfl ?_
      rw [show (nI s + 1 : Int32) = nI (s + 1) from nI_add _ _]
      refine r_goto zi_58_56 rfl ?_
      exact ih _ hr

