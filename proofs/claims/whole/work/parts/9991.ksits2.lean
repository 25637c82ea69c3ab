/-! sits in the class: the call -/
theorem zkl_v {σ V : zS} {n : Nat} (hV : zVk σ 2 false V) (hn : n ≤ 18) : zset (zkl σ 2 n) 18 = zset (fun s => decide (V 6 s = 1)) n := zset_eq (by omega) (by omega) (fun k hk => by
  show (decide (k < 18) && (decide (k < n) && decide (σ (2 + 1 + 6) k = 1))) = _
  rw [hV.1 6 (by decide) k]
  by_cases e : k < n
  · simp [e, show k < 18 by omega]
  · simp [e])
theorem s_ksits {d n : Nat} {σ V : zS} {Q : Int32 → zS → Prop} {B : Nat → Int32} {q : Int32} (hV : zVk σ 2 false V) (hg : zVg V n) (hB : σ 28 = B) (hBk : zBok B) (hh : zhd σ 27) (h : Q (zSi V n B q) σ) : zI1 (d + 5) 150 [.ref 0, .int q] σ Q := by
  obtain ⟨gn, gn18, gat, _⟩ := id hg
  have hsub : σ 2 11 = nI n := (hV.2.1 11 (by decide) (by decide)).trans gn
  have hall : ∀ (Q2 : Int32 → zS → Prop), Q2 (zset (fun s => decide (V 6 s = 1)) n) σ → zI1 (d + 4) 21 [.ref 2] σ Q2 := fun Q2 h2 => s_dall (d := d + 2) zDu_2 hsub gn18 (by rw [zkl_v hV gn18]; exact h2)
  have hmt : ∀ (Q2 : Int32 → zS → Prop), Q2 (if zMb (fun p => zRt V n B p 18) 12 = 12 then -1 else nI (zMb (fun p => zRt V n B p 18) 12)) σ → zI1 (d + 4) 57 [.ref 1] σ Q2 := fun Q2 h2 => s_kmeeting hV hg hB hBk hh h2
  have hmo : ∀ (Q2 : Int32 → zS → Prop), Q2 (nI (zMo V n 12)) σ → zI1 (d + 4) 56 [.ref 1] σ Q2 := fun Q2 h2 => s_kmost (d := d + 3) hV hg h2
  have hb := zMb_b (R := fun p => zRt V n B p 18) 12
  have hrd : ¬ zset (fun s => decide (V 6 s = 1)) n = 0 → ∀ (Q2 : Int32 → zS → Prop), Q2 (if zMb (fun p => zRt V n B p 18) 12 = 12 then -1 else nI (zRt V n B (zMb (fun p => zRt V n B p 18) 12) 18)) σ → zI1 (d + 4) 58 [.ref 1, .int (if zMb (fun p => zRt V n B p 18) 12 = 12 then -1 else nI (zMb (fun p => zRt V n B p 18) 12))] σ Q2 := fun hne Q2 h2 => by
    by_cases e : zMb (fun p => zRt V n B p 18) 12 = 12
    · rw [if_pos e] at h2
      rw [if_pos e]
      have hx : ∃ q, 0 ≤ q ∧ q < n ∧ V 6 q = 1 := Classical.byContradiction (fun z => hne (zset_no gn18 (fun y => by
        obtain ⟨q, h1, h3⟩ := y
        exact z ⟨q, Nat.zero_le _, h1, of_decide_eq_true h3⟩)))
      show zk _ _ 0 [.ref 1, .int (-1), zun, zun, zun] [] _ _
      refine r_push zi_58_0 rfl ?_
      refine r_is2 zi_58_1 rfl ?_
      refine r_push zi_58_2 rfl ?_
      refine r_is3 zi_58_3 rfl ?_
      exact l_knone (d := d + 1) hV hg h2 18 0 _ (by omega) hx
    · rw [if_neg e] at h2
      rw [if_neg e]
      have hb2 := hb.resolve_left e
      exact s_kmeet (d := d + 1) hV hg hB hBk hh hb2.1 (by rw [if_pos hb2.2]; exact h2)
  unfold zSi at h
  generalize nI (zMo V n 12) = mo at *
  generalize zset (fun s => decide (V 6 s = 1)) n = al at *
  generalize (if zMb (fun p => zRt V n B p 18) 12 = 12 then (-1 : Int32) else nI (zMb (fun p => zRt V n B p 18) 12)) = mp at *
  generalize (if zMb (fun p => zRt V n B p 18) 12 = 12 then (-1 : Int32) else nI (zRt V n B (zMb (fun p => zRt V n B p 18) 12) 18)) = rm at *
  show zk _ _ 0 [.ref 0, .int q] [] _ _
  by_cases ha : al = 0
  · have a0 : q = 0 → Q mo σ := fun z => by rw [if_pos z] at h; exact h
    have a1 : q = 1 → Q 0 σ := fun z => by rw [if_neg (by rw [z]; decide), if_pos z, if_pos ha] at h; exact h
    have a2 : q = 2 → Q (-1) σ := fun z => by rw [if_neg (by rw [z]; decide), if_neg (by rw [z]; decide), if_pos z, if_pos ha] at h; exact h
    have a3 : ¬ q = 0 → ¬ q = 1 → ¬ q = 2 → Q (-1) σ := fun z0 z1 z2 => by rw [if_neg z0, if_neg z1, if_neg z2] at h; exact h
    refine r_il1 zi_150_0 rfl ?_
    refine r_sw zi_150_1 rfl ?_
    by_cases c1_0 : q = 0
    · rw [c1_0]
      show zk _ _ 28 _ _ _ _
      refine r_al0 zi_150_28 rfl ?_
      refine q_getR zi_150_29 rfl cf_0_0 ?_
      refine q_cIV zi_150_32 rfl rfl rfl rfl rfl rfl rfl cf_1_0.ob (hmo _ ?_)
      show zk _ _ 35 _ _ _ _
      refine r_retI zi_150_35 rfl ?_
      exact ⟨_, rfl, a0 c1_0⟩
    by_cases c1_1 : q = 1
    · rw [c1_1]
      show zk _ _ 36 _ _ _ _
      refine r_al0 zi_150_36 rfl ?_
      refine q_getR zi_150_37 rfl cf_0_0 ?_
      refine q_getR zi_150_40 rfl cf_1_0 ?_
      refine q_cIV zi_150_43 rfl rfl rfl rfl rfl rfl rfl cf_2_0.ob (hall _ ?_)
      show zk _ _ 46 _ _ _ _
      refine r_if1 zi_150_46 rfl (fun c => absurd ha c) (fun _ => ?_)
      refine r_push zi_150_49 rfl ?_
      refine r_goto zi_150_50 rfl ?_
      refine r_retI zi_150_67 rfl ?_
      exact ⟨_, rfl, a1 c1_1⟩
    by_cases c1_2 : q = 2
    · rw [c1_2]
      show zk _ _ 68 _ _ _ _
      refine r_al0 zi_150_68 rfl ?_
      refine q_getR zi_150_69 rfl cf_0_0 ?_
      refine q_getR zi_150_72 rfl cf_1_0 ?_
      refine q_cIV zi_150_75 rfl rfl rfl rfl rfl rfl rfl cf_2_0.ob (hall _ ?_)
      show zk _ _ 78 _ _ _ _
      refine r_if1 zi_150_78 rfl (fun c => absurd ha c) (fun _ => ?_)
      refine r_push zi_150_81 rfl ?_
      refine r_goto zi_150_82 rfl ?_
      refine r_retI zi_150_92 rfl ?_
      exact ⟨_, rfl, a2 c1_2⟩
    rw [show zsw [(0, 28), (1, 36), (2, 68)] 93 q = 93 from by simp [zsw, c1_0, c1_1, c1_2]]
    refine r_push zi_150_93 rfl ?_
    refine r_retI zi_150_94 rfl ?_
    exact ⟨_, rfl, a3 c1_0 c1_1 c1_2⟩
  · have hrd := hrd ha
    have a0 : q = 0 → Q mo σ := fun z => by rw [if_pos z] at h; exact h
    have a1 : q = 1 → Q rm σ := fun z => by rw [if_neg (by rw [z]; decide), if_pos z, if_neg ha] at h; exact h
    have a2 : q = 2 → Q mp σ := fun z => by rw [if_neg (by rw [z]; decide), if_neg (by rw [z]; decide), if_pos z, if_neg ha] at h; exact h
    have a3 : ¬ q = 0 → ¬ q = 1 → ¬ q = 2 → Q (-1) σ := fun z0 z1 z2 => by rw [if_neg z0, if_neg z1, if_neg z2] at h; exact h
    refine r_il1 zi_150_0 rfl ?_
    refine r_sw zi_150_1 rfl ?_
    by_cases c1_0 : q = 0
    · rw [c1_0]
      show zk _ _ 28 _ _ _ _
      refine r_al0 zi_150_28 rfl ?_
      refine q_getR zi_150_29 rfl cf_0_0 ?_
      refine q_cIV zi_150_32 rfl rfl rfl rfl rfl rfl rfl cf_1_0.ob (hmo _ ?_)
      show zk _ _ 35 _ _ _ _
      refine r_retI zi_150_35 rfl ?_
      exact ⟨_, rfl, a0 c1_0⟩
    by_cases c1_1 : q = 1
    · rw [c1_1]
      show zk _ _ 36 _ _ _ _
      refine r_al0 zi_150_36 rfl ?_
      refine q_getR zi_150_37 rfl cf_0_0 ?_
      refine q_getR zi_150_40 rfl cf_1_0 ?_
      refine q_cIV zi_150_43 rfl rfl rfl rfl rfl rfl rfl cf_2_0.ob (hall _ ?_)
      show zk _ _ 46 _ _ _ _
      refine r_if1 zi_150_46 rfl (fun _ => ?_) (fun c => absurd c ha)
      refine r_al0 zi_150_53 rfl ?_
      refine q_getR zi_150_54 rfl cf_0_0 ?_
      refine r_al0 zi_150_57 rfl ?_
      refine q_getR zi_150_58 rfl cf_0_0 ?_
      refine q_cIV zi_150_61 rfl rfl rfl rfl rfl rfl rfl cf_1_0.ob (hmt _ ?_)
      show zk _ _ 64 _ _ _ _
      refine q_cIV zi_150_64 rfl rfl rfl rfl rfl rfl rfl cf_1_0.ob (hrd _ ?_)
      show zk _ _ 67 _ _ _ _
      refine r_retI zi_150_67 rfl ?_
      exact ⟨_, rfl, a1 c1_1⟩
    by_cases c1_2 : q = 2
    · rw [c1_2]
      show zk _ _ 68 _ _ _ _
      refine r_al0 zi_150_68 rfl ?_
      refine q_getR zi_150_69 rfl cf_0_0 ?_
      refine q_getR zi_150_72 rfl cf_1_0 ?_
      refine q_cIV zi_150_75 rfl rfl rfl rfl rfl rfl rfl cf_2_0.ob (hall _ ?_)
      show zk _ _ 78 _ _ _ _
      refine r_if1 zi_150_78 rfl (fun _ => ?_) (fun c => absurd c ha)
      refine r_al0 zi_150_85 rfl ?_
      refine q_getR zi_150_86 rfl cf_0_0 ?_
      refine q_cIV zi_150_89 rfl rfl rfl rfl rfl rfl rfl cf_1_0.ob (hmt _ ?_)
      show zk _ _ 92 _ _ _ _
      refine r_retI zi_150_92 rfl ?_
      exact ⟨_, rfl, a2 c1_2⟩
    rw [show zsw [(0, 28), (1, 36), (2, 68)] 93 q = 93 from by simp [zsw, c1_0, c1_1, c1_2]]
    refine r_push zi_150_93 rfl ?_
    refine r_retI zi_150_94 rfl ?_
    exact ⟨_, rfl, a3 c1_0 c1_1 c1_2⟩

