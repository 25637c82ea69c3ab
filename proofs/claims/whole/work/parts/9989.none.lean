/-! sits in the class: no place to meet -/
theorem s_farn {d a : Nat} {σ : zS} {Q : Int32 → zS → Prop} (ha : a < 12) (h : Q (-1) σ) : zI1 (d + 1) 118 [.ref 27, .int (nI a), .int (-1)] σ Q := by
  have la : nI a < 12 := nI_lt (b := 12) ha (by omega)
  have pa := nI_pos' (n := a) (by omega)
  show zk _ _ 0 [.ref 27, .int (nI a), .int (-1)] [] _ _
  refine r_il1 zi_118_0 rfl ?_
  refine r_cIS zi_118_1 rfl rfl rfl rfl rfl rfl (s_kplace (fun _ _ => ?_) (fun z => absurd ⟨pa, la⟩ z))
  show zk _ _ 4 _ _ _ _
  refine r_if0 zi_118_4 rfl (fun c => absurd c (by decide)) (fun _ => ?_)
  refine r_il2 zi_118_7 rfl ?_
  refine r_cIS zi_118_8 rfl rfl rfl rfl rfl rfl (s_kplace (fun z _ => absurd z (by decide)) (fun _ => ?_))
  show zk _ _ 11 _ _ _ _
  refine r_if0 zi_118_11 rfl (fun _ => ?_) (fun c => absurd (by decide) c)
  refine r_push zi_118_28 rfl ?_
  refine r_retI zi_118_29 rfl ?_
  exact ⟨_, rfl, h⟩
theorem l_knone {d n : Nat} {σ V : zS} {Q : Int32 → zS → Prop} (hV : zVk σ 2 false V) (hg : zVg V n) (hq : Q (-1) σ) : ∀ (m s : Nat) (u4 : Value), s + m = 18 → (∃ q, s ≤ q ∧ q < n ∧ V 6 q = 1) → zk (d + 3) 58 4 [.ref 1, .int (-1), .int (nI 0), .int (nI s), u4] [] σ (fun r t => ∃ v, r = some v ∧ Q v t) := by
  obtain ⟨gn, gn18, gat, _⟩ := id hg
  have hsub : σ 2 11 = nI n := (hV.2.1 11 (by decide) (by decide)).trans gn
  intro m
  induction m with
  | zero =>
    intro s u4 hs hx
    obtain ⟨q, h1, h2, _⟩ := hx
    exact absurd h2 (by omega)
  | succ m ih =>
    intro s u4 hs hx
    have l0 := nI_pos' (n := s) (by omega)
    have hal : σ (2 + 1 + 6) s = V 6 s := hV.1 6 (by decide) s
    have hinj : ∀ q, q < n → nI s = nI q → q = s := fun q hq e => ((nI_eq (by omega) (by omega)).mp e).symm
    by_cases hc : s < n ∧ V 6 s = 1
    · obtain ⟨a, ha, haV⟩ := gat s hc.1
      have hat : σ (2 + 1 + 3) s = nI a := (hV.1 3 (by decide) s).trans haV
      clear hx
      have hlv : ∀ (Q2 : Int32 → zS → Prop), Q2 1 σ → zI1 (d + 2) 19 [.ref 2, .int (nI s)] σ Q2 := fun Q2 h2 => s_dlives zDu_2 hsub gn18 (fun q hq1 e al => h2) (fun z => absurd ⟨l0, nI_lt hc.1 (by omega)⟩ z) (fun q hq1 e al => absurd (hal.trans hc.2) (by rw [← hinj q hq1 e]; exact al))
      have hfa : ∀ (Q2 : Int32 → zS → Prop), Q2 (-1) σ → zI1 (d + 2) 118 [.ref 27, .int (nI a), .int (-1)] σ Q2 := fun Q2 h2 => s_farn ha h2
      refine r_il3 zi_58_4 rfl ?_
      refine r_push zi_58_5 rfl ?_
      refine n_ic3 (i := s) (j := 18) zi_58_7 rfl (by omega) (by omega) (fun c => absurd c (by omega)) (fun _ => ?_)
      refine r_al0 zi_58_10 rfl ?_
      refine q_getR zi_58_11 rfl cf_1_0 ?_
      refine r_il3 zi_58_14 rfl ?_
      refine q_cIV zi_58_15 rfl rfl rfl rfl rfl rfl rfl cf_2_0.ob (hlv _ ?_)
      show zk _ _ 18 _ _ _ _
      refine r_if0 zi_58_18 rfl (fun c => absurd c (by decide)) (fun _ => ?_)
      refine r_al0 zi_58_21 rfl ?_
      refine q_getR zi_58_22 rfl cf_1_6 ?_
      refine r_al0 zi_58_25 rfl ?_
      refine q_getR zi_58_26 rfl cf_1_0 ?_
      refine q_getR zi_58_29 rfl cf_2_3 ?_
      refine r_il3 zi_58_32 rfl ?_
      refine r_alde zi_58_33 rfl s ca_6 (by first | rfl | (simp only [zI_add, zI_mul] <;> rfl)) (by first | omega | decide) (u := nI a) (by first | exact hat | ((repeat (first | rw [zup_ne (by first | decide | omega)] | rw [zup_nj (by first | decide | omega)] | rw [fil_ne (by first | decide | omega)])) <;> exact hat) | (simp [up_rd, fil_rd]; exact hat)) ?_
      refine r_il1 zi_58_34 rfl ?_
      refine q_cIV zi_58_35 rfl rfl rfl rfl rfl rfl rfl cf_27_0.ob (hfa _ ?_)
      show zk _ _ 38 _ _ _ _
      refine r_is4 zi_58_38 rfl ?_
      refine r_il4 zi_58_40 rfl ?_
      refine r_push zi_58_42 rfl ?_
      refine r_ic1 zi_58_43 rfl (fun c => absurd rfl c) (fun _ => ?_)
      refine r_push zi_58_46 rfl ?_
      refine r_retI zi_58_47 rfl ?_
      exact ⟨_, rfl, hq⟩
    · have hlv : ∀ (Q2 : Int32 → zS → Prop), Q2 0 σ → zI1 (d + 2) 19 [.ref 2, .int (nI s)] σ Q2 := fun Q2 h2 => s_dlives zDu_2 hsub gn18 (fun q hq1 e al => absurd ⟨by rw [← hinj q hq1 e]; exact hq1, hal.symm.trans (by rw [← hinj q hq1 e]; exact al)⟩ hc) (fun z => h2) (fun q hq1 e al => h2)
      have hx2 : ∃ q, s + 1 ≤ q ∧ q < n ∧ V 6 q = 1 := by
        obtain ⟨q, h1, h2, h3⟩ := hx
        refine ⟨q, ?_, h2, h3⟩
        by_cases e : q = s
        · subst e; exact absurd ⟨h2, h3⟩ hc
        · omega
      clear hx
      have ih := fun u => ih (s + 1) u (by omega) hx2
      clear hx2
      refine r_il3 zi_58_4 rfl ?_
      refine r_push zi_58_5 rfl ?_
      refine n_ic3 (i := s) (j := 18) zi_58_7 rfl (by omega) (by omega) (fun c => absurd c (by omega)) (fun _ => ?_)
      refine r_al0 zi_58_10 rfl ?_
      refine q_getR zi_58_11 rfl cf_1_0 ?_
      refine r_il3 zi_58_14 rfl ?_
      refine q_cIV zi_58_15 rfl rfl rfl rfl rfl rfl rfl cf_2_0.ob (hlv _ ?_)
      show zk _ _ 18 _ _ _ _
      refine r_if0 zi_58_18 rfl (fun _ => ?_) (fun c => absurd (by decide) c)
      refine r_in3 zi_58_53 rfl ?_
      rw [show (nI s + 1 : Int32) = nI (s + 1) from nI_add _ _]
      refine r_goto zi_58_56 rfl ?_
      exact ih _

