/-! sits: most at one place, class -/
theorem zMo_b {V : zS} {n : Nat} : ∀ p, zMo V n p ≤ 32
  | 0 => by unfold zMo; omega
  | p + 1 => by
    have ih := zMo_b (V := V) (n := n) p
    have h := zpop_le (zset (fun s => decide (V 6 s = 1) && decide (V 3 s = nI p)) n)
    unfold zMo
    omega
theorem l_kmost {d n : Nat} {σ V : zS} {Q : Int32 → zS → Prop} (hV : zVk σ 2 false V) (hg : zVg V n) (hq : Q (nI (zMo V n 12)) σ) : ∀ (m p : Nat), p + m = 12 → zk (d + 1) 56 4 [.ref 1, .int (nI (zMo V n p)), .int (nI p)] [] σ (fun r t => ∃ v, r = some v ∧ Q v t) := by
  obtain ⟨gn, gn18, _⟩ := id hg
  have hsub : σ 2 11 = nI n := (hV.2.1 11 (by decide) (by decide)).trans gn
  intro m
  induction m with
  | zero =>
    intro p hp
    have e : p = 12 := by omega
    subst e
    refine r_il2 zi_56_4 rfl ?_
    refine r_push zi_56_5 rfl ?_
    refine r_ic3 zi_56_7 rfl (fun _ => ?_) (fun c => absurd (by decide) c)
    refine r_il1 zi_56_32 rfl ?_
    refine r_retI zi_56_33 rfl ?_
    exact ⟨_, rfl, hq⟩
  | succ m ih =>
    intro p hp
    have ih := ih (p + 1) (by omega)
    have e1 : zMo V n (p + 1) = max (zMo V n p) (zpop (zset (fun s => decide (V 6 s = 1) && decide (V 3 s = nI p)) n)) := rfl
    rw [e1] at ih
    have hb := zMo_b (V := V) (n := n) p
    have hb2 := zpop_le (zset (fun s => decide (V 6 s = 1) && decide (V 3 s = nI p)) n)
    have hth : ∀ (Q2 : Int32 → zS → Prop), Q2 (zset (fun s => decide (V 6 s = 1) && decide (V 3 s = nI p)) n) σ → zI1 d 20 [.ref 2, .int (nI p)] σ Q2 := fun Q2 h2 => s_dthose zDu_2 hsub gn18 (by rw [zka_v hV]; exact h2)
    generalize zset (fun s => decide (V 6 s = 1) && decide (V 3 s = nI p)) n = z at *
    generalize zMo V n p = r at *
    generalize hq9 : zpop z = q at *
    have hbt : ∀ (Q2 : Int32 → zS → Prop), Q2 (nI q) σ → zI1 d 290 [.int z] σ Q2 := fun Q2 h2 => s_bits (by rw [hq9]; exact h2)
    have hmx : (if nI r < nI q then nI q else nI r) = nI (max r q) := by
      by_cases z : r < q
      · rw [Nat.max_eq_right (by omega), if_pos (nI_lt z (by omega))]
      · have z2 : nI q ≤ nI r := nI_le (by omega) (by omega)
        rw [Nat.max_eq_left (by omega), if_neg (by grind)]
    refine r_il2 zi_56_4 rfl ?_
    refine r_push zi_56_5 rfl ?_
    refine n_ic3 (i := p) (j := 12) zi_56_7 rfl (by omega) (by omega) (fun c => absurd c (by omega)) (fun _ => ?_)
    refine r_il1 zi_56_10 rfl ?_
    refine r_al0 zi_56_11 rfl ?_
    refine q_getR zi_56_12 rfl cf_1_0 ?_
    refine r_il2 zi_56_15 rfl ?_
    refine q_cIV zi_56_16 rfl rfl rfl rfl rfl rfl rfl cf_2_0.ob (hth _ ?_)
    show zk _ _ 19 _ _ _ _
    refine r_cIS zi_56_19 rfl rfl rfl rfl rfl rfl (hbt _ ?_)
    show zk _ _ 22 _ _ _ _
    refine r_max zi_56_22 rfl ?_
    refine r_is1 zi_56_25 rfl ?_
    refine r_in2 zi_56_26 rfl ?_
    rw [show (nI p + 1 : Int32) = nI (p + 1) from nI_add _ _]
    refine r_goto zi_56_29 rfl ?_
    rw [hmx]; exact ih

