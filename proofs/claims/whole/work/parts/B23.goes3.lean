/-- what GOES answers -/
def goV (U : zS) (n : Nat) (w : Int32) : Int32 := if w = 0 then nI (zpop (zset (fun s => decide (U 6 s = 1)) n)) else if w = 1 then zsm (U 1) 12 else if w = 2 then zsm (U 2) 12 else U 11 16
theorem zkl_t {σ V : zS} {n : Nat} (hV : zVk σ 75 true V) (hn : n ≤ 18) : zset (zkl σ 75 n) 18 = zset (fun s => decide (V 6 s = 1)) n := zset_eq (by omega) (by omega) (fun k hk => by
  have e : σ (75 + 1 + 6) k = V 6 k := hV.1 6 (by omega) k
  have e2 : zkl σ 75 n k = (decide (k < n) && decide (σ (75 + 1 + 6) k = 1)) := rfl
  rw [e2, e]
  by_cases h : k < n
  · simp [h]; omega
  · simp [h])
theorem l_kgo2 {d n : Nat} {υ U : zS} {Q : Int32 → zS → Prop} {k w : Int32} {u : Value} (hV : zVk υ 75 true U) (hg : zVg U n) (h : Q (goV U n w) υ) : zk (d + 7) 134 56 [.ref 0, .int k, .int w, u] [] υ (fun r t => ∃ v, r = some v ∧ Q v t) := by
  have hn18 := hg.2.1
  have hsub : υ 75 11 = nI n := (hV.2.1 11 (by decide) (by decide)).trans hg.1
  have e16 : υ 75 16 = U 11 16 := hV.2.1 16 (by decide) (by decide)
  have e77 : υ 77 = U 1 := funext fun i => hV.1 1 (by omega) i
  have e78 : υ 78 = U 2 := funext fun i => hV.1 2 (by omega) i
  have hkl := zkl_t hV hn18
  unfold goV at h
  have a0 : w = 0 → Q (nI (zpop (zset (zkl υ 75 n) 18))) υ := fun z => by rw [if_pos z] at h; rw [hkl]; exact h
  have a1 : w = 1 → Q (zsm (υ 77) 12) υ := fun z => by rw [if_neg (by rw [z]; decide), if_pos z] at h; rw [e77]; exact h
  have a2 : w = 2 → Q (zsm (υ 78) 12) υ := fun z => by rw [if_neg (by rw [z]; decide), if_neg (by rw [z]; decide), if_pos z] at h; rw [e78]; exact h
  have a3 : ¬ w = 0 → ¬ w = 1 → ¬ w = 2 → Q (υ 75 16) υ := fun z0 z1 z2 => by rw [if_neg z0, if_neg z1, if_neg z2] at h; rw [e16]; exact h
  refine r_il2 zi_134_56 rfl ?_
  refine r_sw zi_134_57 rfl ?_
  by_cases c1_0 : w = 0
  · rw [c1_0]
    show zk _ _ 84 _ _ _ _
    refine r_al0 zi_134_84 rfl ?_
    refine q_getR zi_134_85 rfl cf_0_3 ?_
    refine q_cIV zi_134_88 rfl rfl rfl rfl rfl rfl rfl cf_75_0.ob (s_dall (d := d + 4) zDu_75 hsub hn18 ?_)
    show zk _ _ 91 _ _ _ _
    refine r_cIS zi_134_91 rfl rfl rfl rfl rfl rfl (s_bits ?_)
    show zk _ _ 94 _ _ _ _
    refine r_retI zi_134_94 rfl ?_
    exact ⟨_, rfl, a0 (by assumption)⟩
  by_cases c1_1 : w = 1
  · rw [c1_1]
    show zk _ _ 95 _ _ _ _
    refine r_al0 zi_134_95 rfl ?_
    refine q_getR zi_134_96 rfl cf_0_3 ?_
    refine q_getR zi_134_99 rfl cf_75_1 ?_
    refine r_cIS zi_134_102 rfl rfl rfl rfl rfl rfl (s_ksm ca_77 ?_)
    show zk _ _ 105 _ _ _ _
    refine r_retI zi_134_105 rfl ?_
    exact ⟨_, rfl, a1 (by assumption)⟩
  by_cases c1_2 : w = 2
  · rw [c1_2]
    show zk _ _ 106 _ _ _ _
    refine r_al0 zi_134_106 rfl ?_
    refine q_getR zi_134_107 rfl cf_0_3 ?_
    refine q_getR zi_134_110 rfl cf_75_2 ?_
    refine r_cIS zi_134_113 rfl rfl rfl rfl rfl rfl (s_ksm ca_78 ?_)
    show zk _ _ 116 _ _ _ _
    refine r_retI zi_134_116 rfl ?_
    exact ⟨_, rfl, a2 (by assumption)⟩
  rw [show zsw [(0, 84), (1, 95), (2, 106)] 117 w = 117 from by simp [zsw, c1_0, c1_1, c1_2]]
  refine r_al0 zi_134_117 rfl ?_
  refine q_getR zi_134_118 rfl cf_0_3 ?_
  refine q_getI zi_134_121 rfl cf_75_16 ?_
  refine r_retI zi_134_124 rfl ?_
  exact ⟨_, rfl, a3 (by assumption) (by assumption) (by assumption)⟩

