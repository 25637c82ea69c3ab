theorem zsm_c {f g : Nat → Int32} : ∀ k, (∀ i, i < k → f i = g i) → zsm f k = zsm g k
  | 0, _ => rfl
  | k + 1, h => by
    unfold zsm
    rw [zsm_c k (fun i hi => h i (by omega)), h k (by omega)]
theorem l_mgo2 {d n : Nat} {υ U : zS} {Q : Int32 → zS → Prop} {k w : Int32} {u : Value} (hs : υ 195 6 = nI n) (hn18 : n ≤ 18) (hV : zVm υ U n true) (h : ∀ τ, (∀ a b, a ≠ 196 → ¬ (a = 195 ∧ b = 5) → τ a b = υ a b) → (∀ b, b < 170 → τ 196 b = υ 198 b) → τ 195 5 = 0 → Q (goV U n w) τ) : zk (d + 10) 249 50 [.ref 195, .int k, .int w, u] [] υ (fun r t => ∃ v, r = some v ∧ Q v t) := by
  have e5 : υ 196 5 = U 11 16 := hV.1.2.2.2.2.2
  have e1 : zsm (fun i => υ 196 (6 + i)) 12 = zsm (U 1) 12 := zsm_c 12 (fun i hi => (hV.2.1 i hi).1)
  have e2 : zsm (fun i => υ 196 (18 + i)) 12 = zsm (U 2) 12 := zsm_c 12 (fun i hi => (hV.2.1 i hi).2.1)
  have ea := zmal_v hV
  have a0 : w = 0 → goV U n w = nI (zpop (zset (fun s => decide (υ 196 (66 + s) = 0)) n)) := fun z => by unfold goV; rw [if_pos z, ea]
  have a1 : w = 1 → goV U n w = zsm (fun i => υ 196 (6 + i)) 12 := fun z => by unfold goV; rw [if_neg (by rw [z]; decide), if_pos z, e1]
  have a2 : w = 2 → goV U n w = zsm (fun i => υ 196 (18 + i)) 12 := fun z => by unfold goV; rw [if_neg (by rw [z]; decide), if_neg (by rw [z]; decide), if_pos z, e2]
  have a3 : ¬ w = 0 → ¬ w = 1 → ¬ w = 2 → goV U n w = υ 196 5 := fun z0 z1 z2 => by unfold goV; rw [if_neg z0, if_neg z1, if_neg z2, e5]
  refine r_il2 zi_249_50 rfl ?_
  refine r_if1 zi_249_51 rfl (fun c1 => ?_) (fun c1 => ?_)
  · refine r_il2 zi_249_65 rfl ?_
    refine r_push zi_249_66 rfl ?_
    refine r_ic1 zi_249_67 rfl (fun c2 => ?_) (fun c2 => ?_)
    · refine r_il2 zi_249_79 rfl ?_
      refine r_push zi_249_80 rfl ?_
      refine r_ic1 zi_249_81 rfl (fun c3 => ?_) (fun c3 => ?_)
      · refine r_al0 zi_249_93 rfl ?_
        refine q_getR zi_249_94 rfl cf_195_1 ?_
        refine r_push zi_249_97 rfl ?_
        refine r_ald zi_249_98 rfl 5 ca_196 (by first | rfl | (simp only [zI_add, zI_mul] <;> rfl)) (by first | omega | decide) ?_
        refine r_is3 zi_249_99 rfl ?_
        refine r_al0 zi_249_100 rfl ?_
        refine q_cVV zi_249_101 rfl rfl rfl rfl rfl rfl rfl cf_195_0.ob (s_endsT (fun τ t1 t2 t3 => ?_))
        show zk _ _ 104 _ _ _ _
        refine r_il3 zi_249_104 rfl ?_
        refine r_retI zi_249_105 rfl ?_
        first
        | exact ⟨_, rfl, by have q := h τ t1 t2 t3; rw [a0 (by assumption)] at q; exact q⟩
        | exact ⟨_, rfl, by have q := h τ t1 t2 t3; rw [a1 (by assumption)] at q; exact q⟩
        | exact ⟨_, rfl, by have q := h τ t1 t2 t3; rw [a2 (by assumption)] at q; exact q⟩
        | exact ⟨_, rfl, by have q := h τ t1 t2 t3; rw [a3 (by assumption) (by assumption) (by assumption)] at q; exact q⟩
      · refine r_al0 zi_249_84 rfl ?_
        refine r_push zi_249_85 rfl ?_
        refine q_cIV zi_249_87 rfl rfl rfl rfl rfl rfl rfl cf_195_0.ob (s_msm (b := 18) (by omega) ?_)
        show zk _ _ 90 _ _ _ _
        refine r_goto zi_249_90 rfl ?_
        refine r_is3 zi_249_99 rfl ?_
        refine r_al0 zi_249_100 rfl ?_
        refine q_cVV zi_249_101 rfl rfl rfl rfl rfl rfl rfl cf_195_0.ob (s_endsT (fun τ t1 t2 t3 => ?_))
        show zk _ _ 104 _ _ _ _
        refine r_il3 zi_249_104 rfl ?_
        refine r_retI zi_249_105 rfl ?_
        first
        | exact ⟨_, rfl, by have q := h τ t1 t2 t3; rw [a0 (by assumption)] at q; exact q⟩
        | exact ⟨_, rfl, by have q := h τ t1 t2 t3; rw [a1 (by assumption)] at q; exact q⟩
        | exact ⟨_, rfl, by have q := h τ t1 t2 t3; rw [a2 (by assumption)] at q; exact q⟩
        | exact ⟨_, rfl, by have q := h τ t1 t2 t3; rw [a3 (by assumption) (by assumption) (by assumption)] at q; exact q⟩
    · refine r_al0 zi_249_70 rfl ?_
      refine r_push zi_249_71 rfl ?_
      refine q_cIV zi_249_73 rfl rfl rfl rfl rfl rfl rfl cf_195_0.ob (s_msm (b := 6) (by omega) ?_)
      show zk _ _ 76 _ _ _ _
      refine r_goto zi_249_76 rfl ?_
      refine r_is3 zi_249_99 rfl ?_
      refine r_al0 zi_249_100 rfl ?_
      refine q_cVV zi_249_101 rfl rfl rfl rfl rfl rfl rfl cf_195_0.ob (s_endsT (fun τ t1 t2 t3 => ?_))
      show zk _ _ 104 _ _ _ _
      refine r_il3 zi_249_104 rfl ?_
      refine r_retI zi_249_105 rfl ?_
      first
      | exact ⟨_, rfl, by have q := h τ t1 t2 t3; rw [a0 (by assumption)] at q; exact q⟩
      | exact ⟨_, rfl, by have q := h τ t1 t2 t3; rw [a1 (by assumption)] at q; exact q⟩
      | exact ⟨_, rfl, by have q := h τ t1 t2 t3; rw [a2 (by assumption)] at q; exact q⟩
      | exact ⟨_, rfl, by have q := h τ t1 t2 t3; rw [a3 (by assumption) (by assumption) (by assumption)] at q; exact q⟩
  · refine r_al0 zi_249_54 rfl ?_
    refine r_al0 zi_249_55 rfl ?_
    refine q_cIV zi_249_56 rfl rfl rfl rfl rfl rfl rfl cf_195_0.ob (s_mall (d := d + 8) hs hn18 ?_)
    show zk _ _ 59 _ _ _ _
    refine q_cIV zi_249_59 rfl rfl rfl rfl rfl rfl rfl cf_195_0.ob (s_ones ?_)
    show zk _ _ 62 _ _ _ _
    refine r_goto zi_249_62 rfl ?_
    refine r_is3 zi_249_99 rfl ?_
    refine r_al0 zi_249_100 rfl ?_
    refine q_cVV zi_249_101 rfl rfl rfl rfl rfl rfl rfl cf_195_0.ob (s_endsT (fun τ t1 t2 t3 => ?_))
    show zk _ _ 104 _ _ _ _
    refine r_il3 zi_249_104 rfl ?_
    refine r_retI zi_249_105 rfl ?_
    first
    | exact ⟨_, rfl, by have q := h τ t1 t2 t3; rw [a0 (by assumption)] at q; exact q⟩
    | exact ⟨_, rfl, by have q := h τ t1 t2 t3; rw [a1 (by assumption)] at q; exact q⟩
    | exact ⟨_, rfl, by have q := h τ t1 t2 t3; rw [a2 (by assumption)] at q; exact q⟩
    | exact ⟨_, rfl, by have q := h τ t1 t2 t3; rw [a3 (by assumption) (by assumption) (by assumption)] at q; exact q⟩

