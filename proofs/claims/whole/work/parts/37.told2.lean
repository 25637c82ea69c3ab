/-! COMERS, LETTERS, WORDS: told -/
theorem s_kcomer {d : Nat} {σ : zS} {Q : Int32 → zS → Prop} {c : Nat} {v w : Int32} (hc : σ 34 1 = nI c) (hcN : c ≤ 10) (h : tlQ σ 34 c 10 (v = -1) (0 ≤ v ∧ v ≤ 99 ∧ 1 ≤ w ∧ w ≤ 20) (v * 100 + w) Q) : zI1 (d + 1) 145 [.ref 0, .int v, .int w] σ Q := by
  obtain ⟨h1, h2, h3⟩ := h
  show zk _ _ 0 [.ref 0, .int v, .int w] [] _ _
  refine r_al0 zi_145_0 rfl ?_
  refine q_getR zi_145_1 rfl cf_0_0 ?_
  refine q_getR zi_145_4 rfl cf_1_9 ?_
  refine r_il1 zi_145_7 rfl ?_
  refine r_push zi_145_8 rfl ?_
  refine r_b2 zi_145_10 rfl ?_
  refine r_il2 zi_145_11 rfl ?_
  refine r_b0 zi_145_12 rfl ?_
  refine r_il1 zi_145_13 rfl ?_
  refine r_push zi_145_14 rfl ?_
  refine r_ic1 zi_145_15 rfl (fun c1 => ?_) (fun c1 => ?_)
  · refine r_push zi_145_22 rfl ?_
    refine r_il1 zi_145_23 rfl ?_
    refine r_push zi_145_24 rfl ?_
    refine r_push zi_145_25 rfl ?_
    refine r_cIS zi_145_27 rfl rfl rfl rfl rfl rfl (s_within (fun i2 a2 => ?_) (fun i2 => ?_))
    · show zk _ _ 30 _ _ _ _
      refine r_if0 zi_145_30 rfl (fun c => absurd c (by decide)) (fun _ => ?_)
      refine r_il2 zi_145_33 rfl ?_
      refine r_push zi_145_34 rfl ?_
      refine r_push zi_145_35 rfl ?_
      refine r_cIS zi_145_37 rfl rfl rfl rfl rfl rfl (s_within (fun i3 a3 => ?_) (fun i3 => ?_))
      · show zk _ _ 40 _ _ _ _
        refine r_if0 zi_145_40 rfl (fun c => absurd c (by decide)) (fun _ => ?_)
        refine r_push zi_145_43 rfl ?_
        refine r_goto zi_145_44 rfl ?_
        refine q_cIV zi_145_48 rfl rfl rfl rfl rfl rfl rfl cf_34_0.ob (s_tell zTo34 (by omega) hc hcN ⟨fun t1 => ?_, fun t1 t2 t3 => ?_, fun t1 t2 => ?_⟩)
        · show zk _ _ 51 _ _ _ _
          refine r_retI zi_145_51 rfl ?_
          first | (exact ⟨_, rfl, h1 (by grind)⟩) | (exact ⟨_, rfl, h2 (by grind) (by grind) t3⟩) | (exact ⟨_, rfl, h3 (by grind) (by grind)⟩) | (exfalso; grind)
        · show zk _ _ 51 _ _ _ _
          refine r_retI zi_145_51 rfl ?_
          first | (exact ⟨_, rfl, h1 (by grind)⟩) | (exact ⟨_, rfl, h2 (by grind) (by grind) t3⟩) | (exact ⟨_, rfl, h3 (by grind) (by grind)⟩) | (exfalso; grind)
        · show zk _ _ 51 _ _ _ _
          refine r_retI zi_145_51 rfl ?_
          first | (exact ⟨_, rfl, h1 (by grind)⟩) | (exact ⟨_, rfl, h2 (by grind) (by grind) t3⟩) | (exact ⟨_, rfl, h3 (by grind) (by grind)⟩) | (exfalso; grind)
      · show zk _ _ 40 _ _ _ _
        refine r_if0 zi_145_40 rfl (fun _ => ?_) (fun c => absurd (by decide) c)
        refine r_push zi_145_47 rfl ?_
        refine q_cIV zi_145_48 rfl rfl rfl rfl rfl rfl rfl cf_34_0.ob (s_tell zTo34 (by omega) hc hcN ⟨fun t1 => ?_, fun t1 t2 t3 => ?_, fun t1 t2 => ?_⟩)
        · show zk _ _ 51 _ _ _ _
          refine r_retI zi_145_51 rfl ?_
          first | (exact ⟨_, rfl, h1 (by grind)⟩) | (exact ⟨_, rfl, h2 (by grind) (by grind) t3⟩) | (exact ⟨_, rfl, h3 (by grind) (by grind)⟩) | (exfalso; grind)
        · show zk _ _ 51 _ _ _ _
          refine r_retI zi_145_51 rfl ?_
          first | (exact ⟨_, rfl, h1 (by grind)⟩) | (exact ⟨_, rfl, h2 (by grind) (by grind) t3⟩) | (exact ⟨_, rfl, h3 (by grind) (by grind)⟩) | (exfalso; grind)
        · show zk _ _ 51 _ _ _ _
          refine r_retI zi_145_51 rfl ?_
          first | (exact ⟨_, rfl, h1 (by grind)⟩) | (exact ⟨_, rfl, h2 (by grind) (by grind) t3⟩) | (exact ⟨_, rfl, h3 (by grind) (by grind)⟩) | (exfalso; grind)
    · show zk _ _ 30 _ _ _ _
      refine r_if0 zi_145_30 rfl (fun _ => ?_) (fun c => absurd (by decide) c)
      refine r_push zi_145_47 rfl ?_
      refine q_cIV zi_145_48 rfl rfl rfl rfl rfl rfl rfl cf_34_0.ob (s_tell zTo34 (by omega) hc hcN ⟨fun t1 => ?_, fun t1 t2 t3 => ?_, fun t1 t2 => ?_⟩)
      · show zk _ _ 51 _ _ _ _
        refine r_retI zi_145_51 rfl ?_
        first | (exact ⟨_, rfl, h1 (by grind)⟩) | (exact ⟨_, rfl, h2 (by grind) (by grind) t3⟩) | (exact ⟨_, rfl, h3 (by grind) (by grind)⟩) | (exfalso; grind)
      · show zk _ _ 51 _ _ _ _
        refine r_retI zi_145_51 rfl ?_
        first | (exact ⟨_, rfl, h1 (by grind)⟩) | (exact ⟨_, rfl, h2 (by grind) (by grind) t3⟩) | (exact ⟨_, rfl, h3 (by grind) (by grind)⟩) | (exfalso; grind)
      · show zk _ _ 51 _ _ _ _
        refine r_retI zi_145_51 rfl ?_
        first | (exact ⟨_, rfl, h1 (by grind)⟩) | (exact ⟨_, rfl, h2 (by grind) (by grind) t3⟩) | (exact ⟨_, rfl, h3 (by grind) (by grind)⟩) | (exfalso; grind)
  · refine r_push zi_145_18 rfl ?_
    refine r_goto zi_145_19 rfl ?_
    refine r_il1 zi_145_23 rfl ?_
    refine r_push zi_145_24 rfl ?_
    refine r_push zi_145_25 rfl ?_
    refine r_cIS zi_145_27 rfl rfl rfl rfl rfl rfl (s_within (fun i7 a7 => ?_) (fun i7 => ?_))
    · show zk _ _ 30 _ _ _ _
      refine r_if0 zi_145_30 rfl (fun c => absurd c (by decide)) (fun _ => ?_)
      refine r_il2 zi_145_33 rfl ?_
      refine r_push zi_145_34 rfl ?_
      refine r_push zi_145_35 rfl ?_
      refine r_cIS zi_145_37 rfl rfl rfl rfl rfl rfl (s_within (fun i8 a8 => ?_) (fun i8 => ?_))
      · show zk _ _ 40 _ _ _ _
        refine r_if0 zi_145_40 rfl (fun c => absurd c (by decide)) (fun _ => ?_)
        refine r_push zi_145_43 rfl ?_
        refine r_goto zi_145_44 rfl ?_
        refine q_cIV zi_145_48 rfl rfl rfl rfl rfl rfl rfl cf_34_0.ob (s_tell zTo34 (by omega) hc hcN ⟨fun t1 => ?_, fun t1 t2 t3 => ?_, fun t1 t2 => ?_⟩)
        · show zk _ _ 51 _ _ _ _
          refine r_retI zi_145_51 rfl ?_
          first | (exact ⟨_, rfl, h1 (by grind)⟩) | (exact ⟨_, rfl, h2 (by grind) (by grind) t3⟩) | (exact ⟨_, rfl, h3 (by grind) (by grind)⟩) | (exfalso; grind)
        · show zk _ _ 51 _ _ _ _
          refine r_retI zi_145_51 rfl ?_
          first | (exact ⟨_, rfl, h1 (by grind)⟩) | (exact ⟨_, rfl, h2 (by grind) (by grind) t3⟩) | (exact ⟨_, rfl, h3 (by grind) (by grind)⟩) | (exfalso; grind)
        · show zk _ _ 51 _ _ _ _
          refine r_retI zi_145_51 rfl ?_
          first | (exact ⟨_, rfl, h1 (by grind)⟩) | (exact ⟨_, rfl, h2 (by grind) (by grind) t3⟩) | (exact ⟨_, rfl, h3 (by grind) (by grind)⟩) | (exfalso; grind)
      · show zk _ _ 40 _ _ _ _
        refine r_if0 zi_145_40 rfl (fun _ => ?_) (fun c => absurd (by decide) c)
        refine r_push zi_145_47 rfl ?_
        refine q_cIV zi_145_48 rfl rfl rfl rfl rfl rfl rfl cf_34_0.ob (s_tell zTo34 (by omega) hc hcN ⟨fun t1 => ?_, fun t1 t2 t3 => ?_, fun t1 t2 => ?_⟩)
        · show zk _ _ 51 _ _ _ _
          refine r_retI zi_145_51 rfl ?_
          first | (exact ⟨_, rfl, h1 (by grind)⟩) | (exact ⟨_, rfl, h2 (by grind) (by grind) t3⟩) | (exact ⟨_, rfl, h3 (by grind) (by grind)⟩) | (exfalso; grind)
        · show zk _ _ 51 _ _ _ _
          refine r_retI zi_145_51 rfl ?_
          first | (exact ⟨_, rfl, h1 (by grind)⟩) | (exact ⟨_, rfl, h2 (by grind) (by grind) t3⟩) | (exact ⟨_, rfl, h3 (by grind) (by grind)⟩) | (exfalso; grind)
        · show zk _ _ 51 _ _ _ _
          refine r_retI zi_145_51 rfl ?_
          first | (exact ⟨_, rfl, h1 (by grind)⟩) | (exact ⟨_, rfl, h2 (by grind) (by grind) t3⟩) | (exact ⟨_, rfl, h3 (by grind) (by grind)⟩) | (exfalso; grind)
    · show zk _ _ 30 _ _ _ _
      refine r_if0 zi_145_30 rfl (fun _ => ?_) (fun c => absurd (by decide) c)
      refine r_push zi_145_47 rfl ?_
      refine q_cIV zi_145_48 rfl rfl rfl rfl rfl rfl rfl cf_34_0.ob (s_tell zTo34 (by omega) hc hcN ⟨fun t1 => ?_, fun t1 t2 t3 => ?_, fun t1 t2 => ?_⟩)
      · show zk _ _ 51 _ _ _ _
        refine r_retI zi_145_51 rfl ?_
        first | (exact ⟨_, rfl, h1 (by grind)⟩) | (exact ⟨_, rfl, h2 (by grind) (by grind) t3⟩) | (exact ⟨_, rfl, h3 (by grind) (by grind)⟩) | (exfalso; grind)
      · show zk _ _ 51 _ _ _ _
        refine r_retI zi_145_51 rfl ?_
        first | (exact ⟨_, rfl, h1 (by grind)⟩) | (exact ⟨_, rfl, h2 (by grind) (by grind) t3⟩) | (exact ⟨_, rfl, h3 (by grind) (by grind)⟩) | (exfalso; grind)
      · show zk _ _ 51 _ _ _ _
        refine r_retI zi_145_51 rfl ?_
        first | (exact ⟨_, rfl, h1 (by grind)⟩) | (exact ⟨_, rfl, h2 (by grind) (by grind) t3⟩) | (exact ⟨_, rfl, h3 (by grind) (by grind)⟩) | (exfalso; grind)
theorem s_kletter {d : Nat} {σ : zS} {Q : Int32 → zS → Prop} {c : Nat} {v w : Int32} (hc : σ 36 1 = nI c) (hcN : c ≤ 10) (h : tlQ σ 36 c 10 (v = -1) (0 ≤ v ∧ v ≤ 99 ∧ v + 1 ≤ w ∧ w ≤ 99) (v * 100 + w) Q) : zI1 (d + 1) 147 [.ref 0, .int v, .int w] σ Q := by
  obtain ⟨h1, h2, h3⟩ := h
  show zk _ _ 0 [.ref 0, .int v, .int w] [] _ _
  refine r_al0 zi_147_0 rfl ?_
  refine q_getR zi_147_1 rfl cf_0_0 ?_
  refine q_getR zi_147_4 rfl cf_1_10 ?_
  refine r_il1 zi_147_7 rfl ?_
  refine r_push zi_147_8 rfl ?_
  refine r_b2 zi_147_10 rfl ?_
  refine r_il2 zi_147_11 rfl ?_
  refine r_b0 zi_147_12 rfl ?_
  refine r_il1 zi_147_13 rfl ?_
  refine r_push zi_147_14 rfl ?_
  refine r_ic1 zi_147_15 rfl (fun c1 => ?_) (fun c1 => ?_)
  · refine r_push zi_147_22 rfl ?_
    refine r_il1 zi_147_23 rfl ?_
    refine r_push zi_147_24 rfl ?_
    refine r_push zi_147_25 rfl ?_
    refine r_cIS zi_147_27 rfl rfl rfl rfl rfl rfl (s_within (fun i2 a2 => ?_) (fun i2 => ?_))
    · show zk _ _ 30 _ _ _ _
      refine r_if0 zi_147_30 rfl (fun c => absurd c (by decide)) (fun _ => ?_)
      refine r_il2 zi_147_33 rfl ?_
      refine r_il1 zi_147_34 rfl ?_
      refine r_push zi_147_35 rfl ?_
      refine r_b0 zi_147_36 rfl ?_
      refine r_push zi_147_37 rfl ?_
      refine r_cIS zi_147_39 rfl rfl rfl rfl rfl rfl (s_within (fun i3 a3 => ?_) (fun i3 => ?_))
      · show zk _ _ 42 _ _ _ _
        refine r_if0 zi_147_42 rfl (fun c => absurd c (by decide)) (fun _ => ?_)
        refine r_push zi_147_45 rfl ?_
        refine r_goto zi_147_46 rfl ?_
        refine q_cIV zi_147_50 rfl rfl rfl rfl rfl rfl rfl cf_36_0.ob (s_tell zTo36 (by omega) hc hcN ⟨fun t1 => ?_, fun t1 t2 t3 => ?_, fun t1 t2 => ?_⟩)
        · show zk _ _ 53 _ _ _ _
          refine r_retI zi_147_53 rfl ?_
          first | (exact ⟨_, rfl, h1 (by grind)⟩) | (exact ⟨_, rfl, h2 (by grind) (by grind) t3⟩) | (exact ⟨_, rfl, h3 (by grind) (by grind)⟩) | (exfalso; grind)
        · show zk _ _ 53 _ _ _ _
          refine r_retI zi_147_53 rfl ?_
          first | (exact ⟨_, rfl, h1 (by grind)⟩) | (exact ⟨_, rfl, h2 (by grind) (by grind) t3⟩) | (exact ⟨_, rfl, h3 (by grind) (by grind)⟩) | (exfalso; grind)
        · show zk _ _ 53 _ _ _ _
          refine r_retI zi_147_53 rfl ?_
          first | (exact ⟨_, rfl, h1 (by grind)⟩) | (exact ⟨_, rfl, h2 (by grind) (by grind) t3⟩) | (exact ⟨_, rfl, h3 (by grind) (by grind)⟩) | (exfalso; grind)
      · show zk _ _ 42 _ _ _ _
        refine r_if0 zi_147_42 rfl (fun _ => ?_) (fun c => absurd (by decide) c)
        refine r_push zi_147_49 rfl ?_
        refine q_cIV zi_147_50 rfl rfl rfl rfl rfl rfl rfl cf_36_0.ob (s_tell zTo36 (by omega) hc hcN ⟨fun t1 => ?_, fun t1 t2 t3 => ?_, fun t1 t2 => ?_⟩)
        · show zk _ _ 53 _ _ _ _
          refine r_retI zi_147_53 rfl ?_
          first | (exact ⟨_, rfl, h1 (by grind)⟩) | (exact ⟨_, rfl, h2 (by grind) (by grind) t3⟩) | (exact ⟨_, rfl, h3 (by grind) (by grind)⟩) | (exfalso; grind)
        · show zk _ _ 53 _ _ _ _
          refine r_retI zi_147_53 rfl ?_
          first | (exact ⟨_, rfl, h1 (by grind)⟩) | (exact ⟨_, rfl, h2 (by grind) (by grind) t3⟩) | (exact ⟨_, rfl, h3 (by grind) (by grind)⟩) | (exfalso; grind)
        · show zk _ _ 53 _ _ _ _
          refine r_retI zi_147_53 rfl ?_
          first | (exact ⟨_, rfl, h1 (by grind)⟩) | (exact ⟨_, rfl, h2 (by grind) (by grind) t3⟩) | (exact ⟨_, rfl, h3 (by grind) (by grind)⟩) | (exfalso; grind)
    · show zk _ _ 30 _ _ _ _
      refine r_if0 zi_147_30 rfl (fun _ => ?_) (fun c => absurd (by decide) c)
      refine r_push zi_147_49 rfl ?_
      refine q_cIV zi_147_50 rfl rfl rfl rfl rfl rfl rfl cf_36_0.ob (s_tell zTo36 (by omega) hc hcN ⟨fun t1 => ?_, fun t1 t2 t3 => ?_, fun t1 t2 => ?_⟩)
      · show zk _ _ 53 _ _ _ _
        refine r_retI zi_147_53 rfl ?_
        first | (exact ⟨_, rfl, h1 (by grind)⟩) | (exact ⟨_, rfl, h2 (by grind) (by grind) t3⟩) | (exact ⟨_, rfl, h3 (by grind) (by grind)⟩) | (exfalso; grind)
      · show zk _ _ 53 _ _ _ _
        refine r_retI zi_147_53 rfl ?_
        first | (exact ⟨_, rfl, h1 (by grind)⟩) | (exact ⟨_, rfl, h2 (by grind) (by grind) t3⟩) | (exact ⟨_, rfl, h3 (by grind) (by grind)⟩) | (exfalso; grind)
      · show zk _ _ 53 _ _ _ _
        refine r_retI zi_147_53 rfl ?_
        first | (exact ⟨_, rfl, h1 (by grind)⟩) | (exact ⟨_, rfl, h2 (by grind) (by grind) t3⟩) | (exact ⟨_, rfl, h3 (by grind) (by grind)⟩) | (exfalso; grind)
  · refine r_push zi_147_18 rfl ?_
    refine r_goto zi_147_19 rfl ?_
    refine r_il1 zi_147_23 rfl ?_
    refine r_push zi_147_24 rfl ?_
    refine r_push zi_147_25 rfl ?_
    refine r_cIS zi_147_27 rfl rfl rfl rfl rfl rfl (s_within (fun i7 a7 => ?_) (fun i7 => ?_))
    · show zk _ _ 30 _ _ _ _
      refine r_if0 zi_147_30 rfl (fun c => absurd c (by decide)) (fun _ => ?_)
      refine r_il2 zi_147_33 rfl ?_
      refine r_il1 zi_147_34 rfl ?_
      refine r_push zi_147_35 rfl ?_
      refine r_b0 zi_147_36 rfl ?_
      refine r_push zi_147_37 rfl ?_
      refine r_cIS zi_147_39 rfl rfl rfl rfl rfl rfl (s_within (fun i8 a8 => ?_) (fun i8 => ?_))
      · show zk _ _ 42 _ _ _ _
        refine r_if0 zi_147_42 rfl (fun c => absurd c (by decide)) (fun _ => ?_)
        refine r_push zi_147_45 rfl ?_
        refine r_goto zi_147_46 rfl ?_
        refine q_cIV zi_147_50 rfl rfl rfl rfl rfl rfl rfl cf_36_0.ob (s_tell zTo36 (by omega) hc hcN ⟨fun t1 => ?_, fun t1 t2 t3 => ?_, fun t1 t2 => ?_⟩)
        · show zk _ _ 53 _ _ _ _
          refine r_retI zi_147_53 rfl ?_
          first | (exact ⟨_, rfl, h1 (by grind)⟩) | (exact ⟨_, rfl, h2 (by grind) (by grind) t3⟩) | (exact ⟨_, rfl, h3 (by grind) (by grind)⟩) | (exfalso; grind)
        · show zk _ _ 53 _ _ _ _
          refine r_retI zi_147_53 rfl ?_
          first | (exact ⟨_, rfl, h1 (by grind)⟩) | (exact ⟨_, rfl, h2 (by grind) (by grind) t3⟩) | (exact ⟨_, rfl, h3 (by grind) (by grind)⟩) | (exfalso; grind)
        · show zk _ _ 53 _ _ _ _
          refine r_retI zi_147_53 rfl ?_
          first | (exact ⟨_, rfl, h1 (by grind)⟩) | (exact ⟨_, rfl, h2 (by grind) (by grind) t3⟩) | (exact ⟨_, rfl, h3 (by grind) (by grind)⟩) | (exfalso; grind)
      · show zk _ _ 42 _ _ _ _
        refine r_if0 zi_147_42 rfl (fun _ => ?_) (fun c => absurd (by decide) c)
        refine r_push zi_147_49 rfl ?_
        refine q_cIV zi_147_50 rfl rfl rfl rfl rfl rfl rfl cf_36_0.ob (s_tell zTo36 (by omega) hc hcN ⟨fun t1 => ?_, fun t1 t2 t3 => ?_, fun t1 t2 => ?_⟩)
        · show zk _ _ 53 _ _ _ _
          refine r_retI zi_147_53 rfl ?_
          first | (exact ⟨_, rfl, h1 (by grind)⟩) | (exact ⟨_, rfl, h2 (by grind) (by grind) t3⟩) | (exact ⟨_, rfl, h3 (by grind) (by grind)⟩) | (exfalso; grind)
        · show zk _ _ 53 _ _ _ _
          refine r_retI zi_147_53 rfl ?_
          first | (exact ⟨_, rfl, h1 (by grind)⟩) | (exact ⟨_, rfl, h2 (by grind) (by grind) t3⟩) | (exact ⟨_, rfl, h3 (by grind) (by grind)⟩) | (exfalso; grind)
        · show zk _ _ 53 _ _ _ _
          refine r_retI zi_147_53 rfl ?_
          first | (exact ⟨_, rfl, h1 (by grind)⟩) | (exact ⟨_, rfl, h2 (by grind) (by grind) t3⟩) | (exact ⟨_, rfl, h3 (by grind) (by grind)⟩) | (exfalso; grind)
    · show zk _ _ 30 _ _ _ _
      refine r_if0 zi_147_30 rfl (fun _ => ?_) (fun c => absurd (by decide) c)
      refine r_push zi_147_49 rfl ?_
      refine q_cIV zi_147_50 rfl rfl rfl rfl rfl rfl rfl cf_36_0.ob (s_tell zTo36 (by omega) hc hcN ⟨fun t1 => ?_, fun t1 t2 t3 => ?_, fun t1 t2 => ?_⟩)
      · show zk _ _ 53 _ _ _ _
        refine r_retI zi_147_53 rfl ?_
        first | (exact ⟨_, rfl, h1 (by grind)⟩) | (exact ⟨_, rfl, h2 (by grind) (by grind) t3⟩) | (exact ⟨_, rfl, h3 (by grind) (by grind)⟩) | (exfalso; grind)
      · show zk _ _ 53 _ _ _ _
        refine r_retI zi_147_53 rfl ?_
        first | (exact ⟨_, rfl, h1 (by grind)⟩) | (exact ⟨_, rfl, h2 (by grind) (by grind) t3⟩) | (exact ⟨_, rfl, h3 (by grind) (by grind)⟩) | (exfalso; grind)
      · show zk _ _ 53 _ _ _ _
        refine r_retI zi_147_53 rfl ?_
        first | (exact ⟨_, rfl, h1 (by grind)⟩) | (exact ⟨_, rfl, h2 (by grind) (by grind) t3⟩) | (exact ⟨_, rfl, h3 (by grind) (by grind)⟩) | (exfalso; grind)
theorem s_mcomer {d : Nat} {σ : zS} {Q : Int32 → zS → Prop} {c : Nat} {v w : Int32} (hc : σ 195 56 = nI c) (hcN : c ≤ 10) (h1 : v = -1 → Q 0 (up (up σ 195 0 0) 195 56 0)) (h2 : ¬ v = -1 → 0 ≤ v → v ≤ 99 → 1 ≤ w → w ≤ 20 → c < 10 → Q (nI (c + 1)) (up (up (up (up σ 195 0 0) 229 c v) 230 c w) 195 56 (nI (c + 1)))) (h3 : ¬ v = -1 → ¬ (0 ≤ v ∧ v ≤ 99 ∧ 1 ≤ w ∧ w ≤ 20) ∨ c = 10 → Q (-1) (up σ 195 0 0)) : zI1 (d + 1) 272 [.ref 195, .int v, .int w] σ Q := by
  show zk _ _ 0 [.ref 195, .int v, .int w] [] _ _
  by_cases hv : v = -1
  · refine r_al0 zi_272_0 rfl ?_
    refine r_push zi_272_1 rfl ?_
    refine q_put zi_272_2 rfl cf_195_0 rfl ?_
    refine r_il1 zi_272_5 rfl ?_
    refine r_push zi_272_6 rfl ?_
    refine r_ic1 zi_272_7 rfl (fun c => absurd hv c) (fun _ => ?_)
    refine r_al0 zi_272_10 rfl ?_
    refine r_push zi_272_11 rfl ?_
    refine q_put zi_272_12 rfl cf_195_56 rfl ?_
    refine r_push zi_272_15 rfl ?_
    refine r_retI zi_272_16 rfl ?_
    exact ⟨_, rfl, h1 hv⟩
  · by_cases hc8 : c = 10
    · refine r_al0 zi_272_0 rfl ?_
      refine r_push zi_272_1 rfl ?_
      refine q_put zi_272_2 rfl cf_195_0 rfl ?_
      refine r_il1 zi_272_5 rfl ?_
      refine r_push zi_272_6 rfl ?_
      refine r_ic1 zi_272_7 rfl (fun _ => ?_) (fun c => absurd c hv)
      refine r_al0 zi_272_17 rfl ?_
      refine r_il1 zi_272_18 rfl ?_
      refine r_push zi_272_19 rfl ?_
      refine r_push zi_272_20 rfl ?_
      refine q_cIV zi_272_22 rfl rfl rfl rfl rfl rfl rfl cf_195_0.ob (s_isIn (fun i1 a1 => ?_) (fun i1 => ?_))
      · show zk _ _ 25 _ _ _ _
        refine r_if0 zi_272_25 rfl (fun c => absurd c (by decide)) (fun _ => ?_)
        refine r_al0 zi_272_28 rfl ?_
        refine r_il2 zi_272_29 rfl ?_
        refine r_push zi_272_30 rfl ?_
        refine r_push zi_272_31 rfl ?_
        refine q_cIV zi_272_33 rfl rfl rfl rfl rfl rfl rfl cf_195_0.ob (s_isIn (fun i2 a2 => ?_) (fun i2 => ?_))
        · show zk _ _ 36 _ _ _ _
          refine r_if0 zi_272_36 rfl (fun c => absurd c (by decide)) (fun _ => ?_)
          refine r_al0 zi_272_39 rfl ?_
          refine q_getI zi_272_40 rfl cf_195_56 ?_
          rw [zup_nj (by decide), hc]
          refine r_push zi_272_43 rfl ?_
          refine r_ic1 zi_272_45 rfl (fun c => absurd (by rw [hc8]; rfl) c) (fun _ => ?_)
          refine r_push zi_272_48 rfl ?_
          refine r_retI zi_272_49 rfl ?_
          exact ⟨_, rfl, h3 hv (by grind)⟩
        · show zk _ _ 36 _ _ _ _
          refine r_if0 zi_272_36 rfl (fun _ => ?_) (fun c => absurd (by decide) c)
          refine r_push zi_272_48 rfl ?_
          refine r_retI zi_272_49 rfl ?_
          exact ⟨_, rfl, h3 hv (by grind)⟩
      · show zk _ _ 25 _ _ _ _
        refine r_if0 zi_272_25 rfl (fun _ => ?_) (fun c => absurd (by decide) c)
        refine r_push zi_272_48 rfl ?_
        refine r_retI zi_272_49 rfl ?_
        exact ⟨_, rfl, h3 hv (by grind)⟩
    · refine r_al0 zi_272_0 rfl ?_
      refine r_push zi_272_1 rfl ?_
      refine q_put zi_272_2 rfl cf_195_0 rfl ?_
      refine r_il1 zi_272_5 rfl ?_
      refine r_push zi_272_6 rfl ?_
      refine r_ic1 zi_272_7 rfl (fun _ => ?_) (fun c => absurd c hv)
      refine r_al0 zi_272_17 rfl ?_
      refine r_il1 zi_272_18 rfl ?_
      refine r_push zi_272_19 rfl ?_
      refine r_push zi_272_20 rfl ?_
      refine q_cIV zi_272_22 rfl rfl rfl rfl rfl rfl rfl cf_195_0.ob (s_isIn (fun i1 a1 => ?_) (fun i1 => ?_))
      · show zk _ _ 25 _ _ _ _
        refine r_if0 zi_272_25 rfl (fun c => absurd c (by decide)) (fun _ => ?_)
        refine r_al0 zi_272_28 rfl ?_
        refine r_il2 zi_272_29 rfl ?_
        refine r_push zi_272_30 rfl ?_
        refine r_push zi_272_31 rfl ?_
        refine q_cIV zi_272_33 rfl rfl rfl rfl rfl rfl rfl cf_195_0.ob (s_isIn (fun i2 a2 => ?_) (fun i2 => ?_))
        · show zk _ _ 36 _ _ _ _
          refine r_if0 zi_272_36 rfl (fun c => absurd c (by decide)) (fun _ => ?_)
          refine r_al0 zi_272_39 rfl ?_
          refine q_getI zi_272_40 rfl cf_195_56 ?_
          rw [zup_nj (by decide), hc]
          refine r_push zi_272_43 rfl ?_
          refine r_ic1 zi_272_45 rfl (fun _ => ?_) (fun c => absurd c (fun e => hc8 ((nI_eq (b := 10) (by omega) (by omega)).mp e)))
          refine r_al0 zi_272_50 rfl ?_
          refine q_getR zi_272_51 rfl cf_195_57 ?_
          refine r_al0 zi_272_54 rfl ?_
          refine q_getI zi_272_55 rfl cf_195_56 ?_
          rw [zup_nj (by decide), hc]
          refine r_il1 zi_272_58 rfl ?_
          refine r_ast zi_272_59 rfl c ca_229 (by first | rfl | (simp only [zI_add, zI_mul] <;> rfl)) (by first | omega | decide) ?_
          refine r_al0 zi_272_60 rfl ?_
          refine q_getR zi_272_61 rfl cf_195_58 ?_
          refine r_al0 zi_272_64 rfl ?_
          refine q_getI zi_272_65 rfl cf_195_56 ?_
          rw [zup_ne (by decide), zup_nj (by decide), hc]
          refine r_il2 zi_272_68 rfl ?_
          refine r_ast zi_272_69 rfl c ca_230 (by first | rfl | (simp only [zI_add, zI_mul] <;> rfl)) (by first | omega | decide) ?_
          refine r_al0 zi_272_70 rfl ?_
          refine r_al0 zi_272_71 rfl ?_
          refine q_getI zi_272_72 rfl cf_195_56 ?_
          rw [zup_ne (by decide), zup_ne (by decide), zup_nj (by decide), hc]
          refine r_push zi_272_75 rfl ?_
          refine r_b0 zi_272_76 rfl ?_
          rw [show (nI c + 1 : Int32) = nI (c + 1) from nI_add _ _]
          refine q_put zi_272_77 rfl cf_195_56 rfl ?_
          refine r_al0 zi_272_80 rfl ?_
          refine q_getI zi_272_81 rfl cf_195_56 ?_
          rw [zup_eq]
          refine r_retI zi_272_84 rfl ?_
          first | (exact ⟨_, rfl, h2 hv (by assumption) (by assumption) (by assumption) (by assumption) (by omega)⟩) | (exact ⟨_, rfl, h3 hv (by grind)⟩)
        · show zk _ _ 36 _ _ _ _
          refine r_if0 zi_272_36 rfl (fun _ => ?_) (fun c => absurd (by decide) c)
          refine r_push zi_272_48 rfl ?_
          refine r_retI zi_272_49 rfl ?_
          first | (exact ⟨_, rfl, h2 hv (by assumption) (by assumption) (by assumption) (by assumption) (by omega)⟩) | (exact ⟨_, rfl, h3 hv (by grind)⟩)
      · show zk _ _ 25 _ _ _ _
        refine r_if0 zi_272_25 rfl (fun _ => ?_) (fun c => absurd (by decide) c)
        refine r_push zi_272_48 rfl ?_
        refine r_retI zi_272_49 rfl ?_
        first | (exact ⟨_, rfl, h2 hv (by assumption) (by assumption) (by assumption) (by assumption) (by omega)⟩) | (exact ⟨_, rfl, h3 hv (by grind)⟩)
theorem s_mletter {d : Nat} {σ : zS} {Q : Int32 → zS → Prop} {c : Nat} {v w : Int32} (hc : σ 195 61 = nI c) (hcN : c ≤ 10) (h1 : v = -1 → Q 0 (up (up σ 195 0 0) 195 61 0)) (h2 : ¬ v = -1 → 0 ≤ v → v ≤ 99 → v + 1 ≤ w → w ≤ 99 → c < 10 → Q (nI (c + 1)) (up (up (up (up σ 195 0 0) 233 c v) 234 c w) 195 61 (nI (c + 1)))) (h3 : ¬ v = -1 → ¬ (0 ≤ v ∧ v ≤ 99 ∧ v + 1 ≤ w ∧ w ≤ 99) ∨ c = 10 → Q (-1) (up σ 195 0 0)) : zI1 (d + 1) 275 [.ref 195, .int v, .int w] σ Q := by
  show zk _ _ 0 [.ref 195, .int v, .int w] [] _ _
  by_cases hv : v = -1
  · refine r_al0 zi_275_0 rfl ?_
    refine r_push zi_275_1 rfl ?_
    refine q_put zi_275_2 rfl cf_195_0 rfl ?_
    refine r_il1 zi_275_5 rfl ?_
    refine r_push zi_275_6 rfl ?_
    refine r_ic1 zi_275_7 rfl (fun c => absurd hv c) (fun _ => ?_)
    refine r_al0 zi_275_10 rfl ?_
    refine r_push zi_275_11 rfl ?_
    refine q_put zi_275_12 rfl cf_195_61 rfl ?_
    refine r_push zi_275_15 rfl ?_
    refine r_retI zi_275_16 rfl ?_
    exact ⟨_, rfl, h1 hv⟩
  · by_cases hc8 : c = 10
    · refine r_al0 zi_275_0 rfl ?_
      refine r_push zi_275_1 rfl ?_
      refine q_put zi_275_2 rfl cf_195_0 rfl ?_
      refine r_il1 zi_275_5 rfl ?_
      refine r_push zi_275_6 rfl ?_
      refine r_ic1 zi_275_7 rfl (fun _ => ?_) (fun c => absurd c hv)
      refine r_al0 zi_275_17 rfl ?_
      refine r_il1 zi_275_18 rfl ?_
      refine r_push zi_275_19 rfl ?_
      refine r_push zi_275_20 rfl ?_
      refine q_cIV zi_275_22 rfl rfl rfl rfl rfl rfl rfl cf_195_0.ob (s_isIn (fun i1 a1 => ?_) (fun i1 => ?_))
      · show zk _ _ 25 _ _ _ _
        refine r_if0 zi_275_25 rfl (fun c => absurd c (by decide)) (fun _ => ?_)
        refine r_al0 zi_275_28 rfl ?_
        refine r_il2 zi_275_29 rfl ?_
        refine r_il1 zi_275_30 rfl ?_
        refine r_push zi_275_31 rfl ?_
        refine r_b0 zi_275_32 rfl ?_
        refine r_push zi_275_33 rfl ?_
        refine q_cIV zi_275_35 rfl rfl rfl rfl rfl rfl rfl cf_195_0.ob (s_isIn (fun i2 a2 => ?_) (fun i2 => ?_))
        · show zk _ _ 38 _ _ _ _
          refine r_if0 zi_275_38 rfl (fun c => absurd c (by decide)) (fun _ => ?_)
          refine r_al0 zi_275_41 rfl ?_
          refine q_getI zi_275_42 rfl cf_195_61 ?_
          rw [zup_nj (by decide), hc]
          refine r_push zi_275_45 rfl ?_
          refine r_ic1 zi_275_47 rfl (fun c => absurd (by rw [hc8]; rfl) c) (fun _ => ?_)
          refine r_push zi_275_50 rfl ?_
          refine r_retI zi_275_51 rfl ?_
          exact ⟨_, rfl, h3 hv (by grind)⟩
        · show zk _ _ 38 _ _ _ _
          refine r_if0 zi_275_38 rfl (fun _ => ?_) (fun c => absurd (by decide) c)
          refine r_push zi_275_50 rfl ?_
          refine r_retI zi_275_51 rfl ?_
          exact ⟨_, rfl, h3 hv (by grind)⟩
      · show zk _ _ 25 _ _ _ _
        refine r_if0 zi_275_25 rfl (fun _ => ?_) (fun c => absurd (by decide) c)
        refine r_push zi_275_50 rfl ?_
        refine r_retI zi_275_51 rfl ?_
        exact ⟨_, rfl, h3 hv (by grind)⟩
    · refine r_al0 zi_275_0 rfl ?_
      refine r_push zi_275_1 rfl ?_
      refine q_put zi_275_2 rfl cf_195_0 rfl ?_
      refine r_il1 zi_275_5 rfl ?_
      refine r_push zi_275_6 rfl ?_
      refine r_ic1 zi_275_7 rfl (fun _ => ?_) (fun c => absurd c hv)
      refine r_al0 zi_275_17 rfl ?_
      refine r_il1 zi_275_18 rfl ?_
      refine r_push zi_275_19 rfl ?_
      refine r_push zi_275_20 rfl ?_
      refine q_cIV zi_275_22 rfl rfl rfl rfl rfl rfl rfl cf_195_0.ob (s_isIn (fun i1 a1 => ?_) (fun i1 => ?_))
      · show zk _ _ 25 _ _ _ _
        refine r_if0 zi_275_25 rfl (fun c => absurd c (by decide)) (fun _ => ?_)
        refine r_al0 zi_275_28 rfl ?_
        refine r_il2 zi_275_29 rfl ?_
        refine r_il1 zi_275_30 rfl ?_
        refine r_push zi_275_31 rfl ?_
        refine r_b0 zi_275_32 rfl ?_
        refine r_push zi_275_33 rfl ?_
        refine q_cIV zi_275_35 rfl rfl rfl rfl rfl rfl rfl cf_195_0.ob (s_isIn (fun i2 a2 => ?_) (fun i2 => ?_))
        · show zk _ _ 38 _ _ _ _
          refine r_if0 zi_275_38 rfl (fun c => absurd c (by decide)) (fun _ => ?_)
          refine r_al0 zi_275_41 rfl ?_
          refine q_getI zi_275_42 rfl cf_195_61 ?_
          rw [zup_nj (by decide), hc]
          refine r_push zi_275_45 rfl ?_
          refine r_ic1 zi_275_47 rfl (fun _ => ?_) (fun c => absurd c (fun e => hc8 ((nI_eq (b := 10) (by omega) (by omega)).mp e)))
          refine r_al0 zi_275_52 rfl ?_
          refine q_getR zi_275_53 rfl cf_195_62 ?_
          refine r_al0 zi_275_56 rfl ?_
          refine q_getI zi_275_57 rfl cf_195_61 ?_
          rw [zup_nj (by decide), hc]
          refine r_il1 zi_275_60 rfl ?_
          refine r_ast zi_275_61 rfl c ca_233 (by first | rfl | (simp only [zI_add, zI_mul] <;> rfl)) (by first | omega | decide) ?_
          refine r_al0 zi_275_62 rfl ?_
          refine q_getR zi_275_63 rfl cf_195_63 ?_
          refine r_al0 zi_275_66 rfl ?_
          refine q_getI zi_275_67 rfl cf_195_61 ?_
          rw [zup_ne (by decide), zup_nj (by decide), hc]
          refine r_il2 zi_275_70 rfl ?_
          refine r_ast zi_275_71 rfl c ca_234 (by first | rfl | (simp only [zI_add, zI_mul] <;> rfl)) (by first | omega | decide) ?_
          refine r_al0 zi_275_72 rfl ?_
          refine r_al0 zi_275_73 rfl ?_
          refine q_getI zi_275_74 rfl cf_195_61 ?_
          rw [zup_ne (by decide), zup_ne (by decide), zup_nj (by decide), hc]
          refine r_push zi_275_77 rfl ?_
          refine r_b0 zi_275_78 rfl ?_
          rw [show (nI c + 1 : Int32) = nI (c + 1) from nI_add _ _]
          refine q_put zi_275_79 rfl cf_195_61 rfl ?_
          refine r_al0 zi_275_82 rfl ?_
          refine q_getI zi_275_83 rfl cf_195_61 ?_
          rw [zup_eq]
          refine r_retI zi_275_86 rfl ?_
          first | (exact ⟨_, rfl, h2 hv (by assumption) (by assumption) (by assumption) (by assumption) (by omega)⟩) | (exact ⟨_, rfl, h3 hv (by grind)⟩)
        · show zk _ _ 38 _ _ _ _
          refine r_if0 zi_275_38 rfl (fun _ => ?_) (fun c => absurd (by decide) c)
          refine r_push zi_275_50 rfl ?_
          refine r_retI zi_275_51 rfl ?_
          first | (exact ⟨_, rfl, h2 hv (by assumption) (by assumption) (by assumption) (by assumption) (by omega)⟩) | (exact ⟨_, rfl, h3 hv (by grind)⟩)
      · show zk _ _ 25 _ _ _ _
        refine r_if0 zi_275_25 rfl (fun _ => ?_) (fun c => absurd (by decide) c)
        refine r_push zi_275_50 rfl ?_
        refine r_retI zi_275_51 rfl ?_
        first | (exact ⟨_, rfl, h2 hv (by assumption) (by assumption) (by assumption) (by assumption) (by omega)⟩) | (exact ⟨_, rfl, h3 hv (by grind)⟩)
/-- a word: 1 .. 9999, no 0 in it -/
def wok : Nat → Nat → Bool
  | 0, _ => true
  | f + 1, n => if n = 0 then true else n % 10 != 0 && wok f (n / 10)
theorem l_kw {d : Nat} {σ : zS} {Q : Int32 → zS → Prop} {v : Int32} : ∀ (f n : Nat) (b : Int32), n < 10 ^ f → n < 2 ^ 31 → (b = 0 ∨ b = 1) → (h1 : b = 1 → wok f n = true → Q 1 σ) → (h0 : ¬ (b = 1 ∧ wok f n = true) → Q 0 σ) → zk d 75 11 [.int v, .int b, .int (nI n)] [] σ (fun r t => ∃ v, r = some v ∧ Q v t) := by
  intro f
  induction f with
  | zero =>
    intro n b hn hn2 hb h1 h0
    have hz : n = 0 := by omega
    subst hz
    simp only [wok] at h1 h0
    refine r_il2 zi_75_11 rfl ?_
    refine r_if5 zi_75_12 rfl (fun _ => ?_) (fun c => absurd (by decide) c)
    refine r_il1 zi_75_40 rfl ?_
    refine r_retZ zi_75_41 rfl hb ?_
    exact ⟨_, rfl, by grind⟩
  | succ f ih =>
    intro n b hn hn2 hb h1 h0
    simp only [wok] at h1 h0
    rw [Nat.pow_succ] at hn
    by_cases hz : n = 0
    · subst hz
      refine r_il2 zi_75_11 rfl ?_
      refine r_if5 zi_75_12 rfl (fun _ => ?_) (fun c => absurd (by decide) c)
      refine r_il1 zi_75_40 rfl ?_
      refine r_retZ zi_75_41 rfl hb ?_
      exact ⟨_, rfl, by grind⟩
    · have hm : nI (n % 10) = 0 ↔ n % 10 = 0 := nI_eq (b := 0) (by omega) (by omega)
      refine r_il2 zi_75_11 rfl ?_
      refine r_if5 zi_75_12 rfl (fun c => absurd c (nI_nle (by omega) (by omega))) (fun _ => ?_)
      refine r_il1 zi_75_15 rfl ?_
      refine r_if0 zi_75_16 rfl (fun c1 => ?_) (fun c1 => ?_)
      · refine r_push zi_75_30 rfl ?_
        refine r_is1 zi_75_31 rfl ?_
        refine r_il2 zi_75_32 rfl ?_
        refine r_push zi_75_33 rfl ?_
        refine r_div zi_75_35 rfl (by decide) ?_
        rw [show (nI n / 10 : Int32) = nI (n / 10) from pk_div (d := 10) (by omega) (by omega) (by omega)]
        refine r_is2 zi_75_36 rfl ?_
        refine r_goto zi_75_37 rfl ?_
        exact ih (n / 10) _ (by omega) (by omega) (by grind) (by grind) (by grind)
      · refine r_il2 zi_75_19 rfl ?_
        refine r_push zi_75_20 rfl ?_
        refine r_rem zi_75_22 rfl (by decide) ?_
        rw [show (nI n % 10 : Int32) = nI (n % 10) from zI_rem (d := 10) (by omega) (by omega) (by omega)]
        refine r_if0 zi_75_23 rfl (fun c2 => ?_) (fun c2 => ?_)
        · refine r_push zi_75_30 rfl ?_
          refine r_is1 zi_75_31 rfl ?_
          refine r_il2 zi_75_32 rfl ?_
          refine r_push zi_75_33 rfl ?_
          refine r_div zi_75_35 rfl (by decide) ?_
          rw [show (nI n / 10 : Int32) = nI (n / 10) from pk_div (d := 10) (by omega) (by omega) (by omega)]
          refine r_is2 zi_75_36 rfl ?_
          refine r_goto zi_75_37 rfl ?_
          exact ih (n / 10) _ (by omega) (by omega) (by grind) (by grind) (by grind)
        · refine r_push zi_75_26 rfl ?_
          refine r_goto zi_75_27 rfl ?_
          refine r_is1 zi_75_31 rfl ?_
          refine r_il2 zi_75_32 rfl ?_
          refine r_push zi_75_33 rfl ?_
          refine r_div zi_75_35 rfl (by decide) ?_
          rw [show (nI n / 10 : Int32) = nI (n / 10) from pk_div (d := 10) (by omega) (by omega) (by omega)]
          refine r_is2 zi_75_36 rfl ?_
          refine r_goto zi_75_37 rfl ?_
          exact ih (n / 10) _ (by omega) (by omega) (by grind) (by grind) (by grind)
theorem l_kw0 {d : Nat} {σ : zS} {Q : Int32 → zS → Prop} {v n : Int32} (hn : n ≤ 0) (h0 : Q 0 σ) : zk d 75 11 [.int v, .int 0, .int n] [] σ (fun r t => ∃ v, r = some v ∧ Q v t) := by
  refine r_il2 zi_75_11 rfl ?_
  refine r_if5 zi_75_12 rfl (fun _ => ?_) (fun c => absurd hn c)
  refine r_il1 zi_75_40 rfl ?_
  refine r_retZ zi_75_41 rfl (by decide) ?_
  exact ⟨_, rfl, h0⟩
theorem s_kisword {d : Nat} {σ : zS} {Q : Int32 → zS → Prop} {v : Int32} (h1 : ∀ n, 1 ≤ n → n ≤ 9999 → v = nI n → wok 4 n = true → Q 1 σ) (h0 : (∀ n, 1 ≤ n → n ≤ 9999 → v = nI n → wok 4 n = false) → Q 0 σ) : zI1 (d + 1) 75 [.int v] σ Q := by
  show zk _ _ 0 [.int v, zun, zun] [] _ _
  by_cases hp : v ≤ 0
  · have hq : Q 0 σ := h0 (fun n hn hn2 e => by subst e; exact absurd hp (nI_nle (by omega) (by omega)))
    refine r_il0 zi_75_0 rfl ?_
    refine r_push zi_75_1 rfl ?_
    refine r_push zi_75_2 rfl ?_
    refine r_cIS zi_75_5 rfl rfl rfl rfl rfl rfl (s_within (fun i1 a1 => ?_) (fun i1 => ?_))
    · show zk _ _ 8 _ _ _ _
      refine r_is1 zi_75_8 rfl ?_
      refine r_il0 zi_75_9 rfl ?_
      refine r_is2 zi_75_10 rfl ?_
      first | (exact l_kw0 hp hq) | (exfalso; grind)
    · show zk _ _ 8 _ _ _ _
      refine r_is1 zi_75_8 rfl ?_
      refine r_il0 zi_75_9 rfl ?_
      refine r_is2 zi_75_10 rfl ?_
      first | (exact l_kw0 hp hq) | (exfalso; grind)
  · by_cases hb : v ≤ 9999
    · obtain ⟨n, hn, rfl⟩ := zI_ofle (v := v) (n := 9999) (by grind) hb (by omega)
      have hn1 : 1 ≤ n := by
        rcases Nat.eq_zero_or_pos n with rfl | hp2
        · exact absurd (Int32.le_refl _) hp
        · exact hp2
      refine r_il0 zi_75_0 rfl ?_
      refine r_push zi_75_1 rfl ?_
      refine r_push zi_75_2 rfl ?_
      refine r_cIS zi_75_5 rfl rfl rfl rfl rfl rfl (s_within (fun i1 a1 => ?_) (fun i1 => ?_))
      · show zk _ _ 8 _ _ _ _
        refine r_is1 zi_75_8 rfl ?_
        refine r_il0 zi_75_9 rfl ?_
        refine r_is2 zi_75_10 rfl ?_
        first | (exact l_kw 4 n 1 (by omega) (by omega) (Or.inr rfl) (fun _ z => h1 n hn1 hn rfl z) (fun z => h0 (fun m g1 g2 g3 => by
          have := (nI_eq (by omega) (by omega)).mp g3
          subst this
          cases hw : wok 4 n with
          | true => exact absurd ⟨rfl, hw⟩ z
          | false => rfl))) | (exfalso; have := nI_le (a := 1) hn1 (by omega); grind)
      · show zk _ _ 8 _ _ _ _
        refine r_is1 zi_75_8 rfl ?_
        refine r_il0 zi_75_9 rfl ?_
        refine r_is2 zi_75_10 rfl ?_
        first | (exact l_kw 4 n 1 (by omega) (by omega) (Or.inr rfl) (fun _ z => h1 n hn1 hn rfl z) (fun z => h0 (fun m g1 g2 g3 => by
          have := (nI_eq (by omega) (by omega)).mp g3
          subst this
          cases hw : wok 4 n with
          | true => exact absurd ⟨rfl, hw⟩ z
          | false => rfl))) | (exfalso; have := nI_le (a := 1) hn1 (by omega); grind)
    · obtain ⟨n, hn, rfl⟩ := nI_of (x := v) (by grind)
      have hq : Q 0 σ := h0 (fun m g1 g2 e => absurd (e ▸ (show nI m ≤ 9999 from nI_le (b := 9999) g2 (by omega))) hb)
      refine r_il0 zi_75_0 rfl ?_
      refine r_push zi_75_1 rfl ?_
      refine r_push zi_75_2 rfl ?_
      refine r_cIS zi_75_5 rfl rfl rfl rfl rfl rfl (s_within (fun i1 a1 => ?_) (fun i1 => ?_))
      · show zk _ _ 8 _ _ _ _
        refine r_is1 zi_75_8 rfl ?_
        refine r_il0 zi_75_9 rfl ?_
        refine r_is2 zi_75_10 rfl ?_
        first | (exact l_kw 10 n 0 (by omega) hn (Or.inl rfl) (fun z _ => absurd z (by decide)) (fun _ => hq)) | (exfalso; grind)
      · show zk _ _ 8 _ _ _ _
        refine r_is1 zi_75_8 rfl ?_
        refine r_il0 zi_75_9 rfl ?_
        refine r_is2 zi_75_10 rfl ?_
        first | (exact l_kw 10 n 0 (by omega) hn (Or.inl rfl) (fun z _ => absurd z (by decide)) (fun _ => hq)) | (exfalso; grind)
/-- a number that is a word -/
def zwd (v : Int32) : Prop := ∃ n, 1 ≤ n ∧ n ≤ 9999 ∧ v = nI n ∧ wok 4 n = true
theorem s_kspell {d : Nat} {σ : zS} {Q : Int32 → zS → Prop} {c : Nat} {v : Int32} (hc : σ 32 1 = nI c) (hcN : c ≤ 5) (h : tlQ σ 32 c 5 (v = -1) (zwd v) v Q) : zI1 (d + 2) 142 [.ref 0, .int v] σ Q := by
  obtain ⟨h1, h2, h3⟩ := h
  show zk _ _ 0 [.ref 0, .int v] [] _ _
  have hy : ∀ n, 1 ≤ n → n ≤ 9999 → v = nI n → wok 4 n = true → zwd v := fun n a b e k => ⟨n, a, b, e, k⟩
  have hn : (∀ n, 1 ≤ n → n ≤ 9999 → v = nI n → wok 4 n = false) → ¬ zwd v := fun k z => by
    obtain ⟨n, a, b, e, z⟩ := z
    rw [k n a b e] at z
    cases z
  refine r_al0 zi_142_0 rfl ?_
  refine q_getR zi_142_1 rfl cf_0_0 ?_
  refine q_getR zi_142_4 rfl cf_1_8 ?_
  refine r_il1 zi_142_7 rfl ?_
  refine r_il1 zi_142_8 rfl ?_
  refine r_push zi_142_9 rfl ?_
  refine r_ic1 zi_142_10 rfl (fun c1 => ?_) (fun c1 => ?_)
  · refine r_push zi_142_17 rfl ?_
    refine r_il1 zi_142_18 rfl ?_
    refine r_cIS zi_142_19 rfl rfl rfl rfl rfl rfl (s_kisword (fun w_ g1_2 g2_2 e_2 k_2 => ?_) (fun k_2 => ?_))
    · show zk _ _ 22 _ _ _ _
      refine q_cIV zi_142_22 rfl rfl rfl rfl rfl rfl rfl cf_32_0.ob (s_tell zTo32 (by omega) hc hcN ⟨fun t1 => ?_, fun t1 t2 t3 => ?_, fun t1 t2 => ?_⟩)
      · show zk _ _ 25 _ _ _ _
        refine r_retI zi_142_25 rfl ?_
        first | (exact ⟨_, rfl, h1 (by grind)⟩) | (exact ⟨_, rfl, h2 (by grind) (hy _ (by assumption) (by assumption) (by assumption) (by assumption)) t3⟩) | (exact ⟨_, rfl, h3 (by grind) (by grind)⟩) | (exfalso; grind)
      · show zk _ _ 25 _ _ _ _
        refine r_retI zi_142_25 rfl ?_
        first | (exact ⟨_, rfl, h1 (by grind)⟩) | (exact ⟨_, rfl, h2 (by grind) (hy _ (by assumption) (by assumption) (by assumption) (by assumption)) t3⟩) | (exact ⟨_, rfl, h3 (by grind) (by grind)⟩) | (exfalso; grind)
      · show zk _ _ 25 _ _ _ _
        refine r_retI zi_142_25 rfl ?_
        first | (exact ⟨_, rfl, h1 (by grind)⟩) | (exact ⟨_, rfl, h2 (by grind) (hy _ (by assumption) (by assumption) (by assumption) (by assumption)) t3⟩) | (exact ⟨_, rfl, h3 (by grind) (by grind)⟩) | (exfalso; grind)
    · show zk _ _ 22 _ _ _ _
      refine q_cIV zi_142_22 rfl rfl rfl rfl rfl rfl rfl cf_32_0.ob (s_tell zTo32 (by omega) hc hcN ⟨fun t1 => ?_, fun t1 t2 t3 => ?_, fun t1 t2 => ?_⟩)
      · show zk _ _ 25 _ _ _ _
        refine r_retI zi_142_25 rfl ?_
        first | (exact ⟨_, rfl, h1 (by grind)⟩) | (exact ⟨_, rfl, h2 (by grind) (hy _ (by assumption) (by assumption) (by assumption) (by assumption)) t3⟩) | (exact ⟨_, rfl, h3 (by grind) (by grind)⟩) | (exfalso; grind)
      · show zk _ _ 25 _ _ _ _
        refine r_retI zi_142_25 rfl ?_
        first | (exact ⟨_, rfl, h1 (by grind)⟩) | (exact ⟨_, rfl, h2 (by grind) (hy _ (by assumption) (by assumption) (by assumption) (by assumption)) t3⟩) | (exact ⟨_, rfl, h3 (by grind) (by grind)⟩) | (exfalso; grind)
      · show zk _ _ 25 _ _ _ _
        refine r_retI zi_142_25 rfl ?_
        first | (exact ⟨_, rfl, h1 (by grind)⟩) | (exact ⟨_, rfl, h2 (by grind) (hy _ (by assumption) (by assumption) (by assumption) (by assumption)) t3⟩) | (exact ⟨_, rfl, h3 (by grind) (by grind)⟩) | (exfalso; grind)
  · refine r_push zi_142_13 rfl ?_
    refine r_goto zi_142_14 rfl ?_
    refine r_il1 zi_142_18 rfl ?_
    refine r_cIS zi_142_19 rfl rfl rfl rfl rfl rfl (s_kisword (fun w_ g1_5 g2_5 e_5 k_5 => ?_) (fun k_5 => ?_))
    · show zk _ _ 22 _ _ _ _
      refine q_cIV zi_142_22 rfl rfl rfl rfl rfl rfl rfl cf_32_0.ob (s_tell zTo32 (by omega) hc hcN ⟨fun t1 => ?_, fun t1 t2 t3 => ?_, fun t1 t2 => ?_⟩)
      · show zk _ _ 25 _ _ _ _
        refine r_retI zi_142_25 rfl ?_
        first | (exact ⟨_, rfl, h1 (by grind)⟩) | (exact ⟨_, rfl, h2 (by grind) (hy _ (by assumption) (by assumption) (by assumption) (by assumption)) t3⟩) | (exact ⟨_, rfl, h3 (by grind) (by grind)⟩) | (exfalso; grind)
      · show zk _ _ 25 _ _ _ _
        refine r_retI zi_142_25 rfl ?_
        first | (exact ⟨_, rfl, h1 (by grind)⟩) | (exact ⟨_, rfl, h2 (by grind) (hy _ (by assumption) (by assumption) (by assumption) (by assumption)) t3⟩) | (exact ⟨_, rfl, h3 (by grind) (by grind)⟩) | (exfalso; grind)
      · show zk _ _ 25 _ _ _ _
        refine r_retI zi_142_25 rfl ?_
        first | (exact ⟨_, rfl, h1 (by grind)⟩) | (exact ⟨_, rfl, h2 (by grind) (hy _ (by assumption) (by assumption) (by assumption) (by assumption)) t3⟩) | (exact ⟨_, rfl, h3 (by grind) (by grind)⟩) | (exfalso; grind)
    · show zk _ _ 22 _ _ _ _
      refine q_cIV zi_142_22 rfl rfl rfl rfl rfl rfl rfl cf_32_0.ob (s_tell zTo32 (by omega) hc hcN ⟨fun t1 => ?_, fun t1 t2 t3 => ?_, fun t1 t2 => ?_⟩)
      · show zk _ _ 25 _ _ _ _
        refine r_retI zi_142_25 rfl ?_
        first | (exact ⟨_, rfl, h1 (by grind)⟩) | (exact ⟨_, rfl, h2 (by grind) (hy _ (by assumption) (by assumption) (by assumption) (by assumption)) t3⟩) | (exact ⟨_, rfl, h3 (by grind) (by grind)⟩) | (exfalso; grind)
      · show zk _ _ 25 _ _ _ _
        refine r_retI zi_142_25 rfl ?_
        first | (exact ⟨_, rfl, h1 (by grind)⟩) | (exact ⟨_, rfl, h2 (by grind) (hy _ (by assumption) (by assumption) (by assumption) (by assumption)) t3⟩) | (exact ⟨_, rfl, h3 (by grind) (by grind)⟩) | (exfalso; grind)
      · show zk _ _ 25 _ _ _ _
        refine r_retI zi_142_25 rfl ?_
        first | (exact ⟨_, rfl, h1 (by grind)⟩) | (exact ⟨_, rfl, h2 (by grind) (hy _ (by assumption) (by assumption) (by assumption) (by assumption)) t3⟩) | (exact ⟨_, rfl, h3 (by grind) (by grind)⟩) | (exfalso; grind)
theorem l_mw {d : Nat} {σ : zS} {Q : Option Int32 → zS → Prop} {v : Int32} : ∀ (f n : Nat), n < 10 ^ f → n ≤ 9999 → (h1 : wok f n = true → ∀ u, zk d 265 62 [.ref 195, .int v, u] [] σ Q) → (h0 : wok f n = false → Q (some (-1)) σ) → zk d 265 41 [.ref 195, .int v, .int (nI n)] [] σ Q := by
  intro f
  induction f with
  | zero =>
    intro n hn hn2 h1 h0
    have hz : n = 0 := by omega
    subst hz
    refine r_il2 zi_265_41 rfl ?_
    refine r_if5 zi_265_42 rfl (fun _ => ?_) (fun c => absurd (by decide) c)
    exact h1 rfl _
  | succ f ih =>
    intro n hn hn2 h1 h0
    simp only [wok] at h1 h0
    rw [Nat.pow_succ] at hn
    by_cases hz : n = 0
    · subst hz
      refine r_il2 zi_265_41 rfl ?_
      refine r_if5 zi_265_42 rfl (fun _ => ?_) (fun c => absurd (by decide) c)
      exact h1 rfl _
    · have hm : nI (n % 10) = 0 ↔ n % 10 = 0 := nI_eq (b := 0) (by omega) (by omega)
      by_cases hq : n % 10 = 0
      · refine r_il2 zi_265_41 rfl ?_
        refine r_if5 zi_265_42 rfl (fun c => absurd c (nI_nle (by omega) (by omega))) (fun _ => ?_)
        refine r_il2 zi_265_45 rfl ?_
        refine r_push zi_265_46 rfl ?_
        refine r_rem zi_265_48 rfl (by decide) ?_
        rw [show (nI n % 10 : Int32) = nI (n % 10) from zI_rem (d := 10) (by omega) (by omega) (by omega)]
        refine r_if1 zi_265_49 rfl (fun c => absurd (hm.mpr hq) c) (fun _ => ?_)
        refine r_push zi_265_52 rfl ?_
        refine r_retI zi_265_53 rfl ?_
        exact h0 (by simp [hz, hq])
      · refine r_il2 zi_265_41 rfl ?_
        refine r_if5 zi_265_42 rfl (fun c => absurd c (nI_nle (by omega) (by omega))) (fun _ => ?_)
        refine r_il2 zi_265_45 rfl ?_
        refine r_push zi_265_46 rfl ?_
        refine r_rem zi_265_48 rfl (by decide) ?_
        rw [show (nI n % 10 : Int32) = nI (n % 10) from zI_rem (d := 10) (by omega) (by omega) (by omega)]
        refine r_if1 zi_265_49 rfl (fun _ => ?_) (fun c => absurd c (fun e => hq (hm.mp e)))
        refine r_il2 zi_265_54 rfl ?_
        refine r_push zi_265_55 rfl ?_
        refine r_div zi_265_57 rfl (by decide) ?_
        rw [show (nI n / 10 : Int32) = nI (n / 10) from pk_div (d := 10) (by omega) (by omega) (by omega)]
        refine r_is2 zi_265_58 rfl ?_
        refine r_goto zi_265_59 rfl ?_
        exact ih (n / 10) (by omega) (by omega) (fun k => h1 (by simp [hz, hq, k])) (fun k => h0 (by simp [hz, hq, k]))
theorem s_mspell {d : Nat} {σ : zS} {Q : Int32 → zS → Prop} {c : Nat} {v : Int32} (hc : σ 195 50 = nI c) (hcN : c ≤ 5) (h1 : v = -1 → Q 0 (up (up σ 195 0 0) 195 50 0)) (h2 : ¬ v = -1 → zwd v → c < 5 → Q (nI (c + 1)) (up (up (up σ 195 0 0) 225 c v) 195 50 (nI (c + 1)))) (h3 : ¬ v = -1 → ¬ zwd v ∨ c = 5 → Q (-1) (up σ 195 0 0)) : zI1 (d + 1) 265 [.ref 195, .int v] σ Q := by
  show zk _ _ 0 [.ref 195, .int v, zun] [] _ _
  have hno : ¬ (1 ≤ v ∧ v ≤ 9999) → ¬ zwd v := fun k z => by
    obtain ⟨n, a, b, rfl, z⟩ := z
    exact k ⟨nI_le (a := 1) a (by omega), nI_le (b := 9999) b (by omega)⟩
  by_cases hv : v = -1
  · refine r_al0 zi_265_0 rfl ?_
    refine r_push zi_265_1 rfl ?_
    refine q_put zi_265_2 rfl cf_195_0 rfl ?_
    refine r_il1 zi_265_5 rfl ?_
    refine r_push zi_265_6 rfl ?_
    refine r_ic1 zi_265_7 rfl (fun c => absurd hv c) (fun _ => ?_)
    refine r_al0 zi_265_10 rfl ?_
    refine r_push zi_265_11 rfl ?_
    refine q_put zi_265_12 rfl cf_195_50 rfl ?_
    refine r_push zi_265_15 rfl ?_
    refine r_retI zi_265_16 rfl ?_
    exact ⟨_, rfl, h1 hv⟩
  · by_cases hc8 : c = 5
    · refine r_al0 zi_265_0 rfl ?_
      refine r_push zi_265_1 rfl ?_
      refine q_put zi_265_2 rfl cf_195_0 rfl ?_
      refine r_il1 zi_265_5 rfl ?_
      refine r_push zi_265_6 rfl ?_
      refine r_ic1 zi_265_7 rfl (fun _ => ?_) (fun c => absurd c hv)
      refine r_al0 zi_265_17 rfl ?_
      refine r_il1 zi_265_18 rfl ?_
      refine r_push zi_265_19 rfl ?_
      refine r_push zi_265_20 rfl ?_
      refine q_cIV zi_265_23 rfl rfl rfl rfl rfl rfl rfl cf_195_0.ob (s_isIn (fun i1 a1 => ?_) (fun i1 => ?_))
      · show zk _ _ 26 _ _ _ _
        refine r_if0 zi_265_26 rfl (fun c => absurd c (by decide)) (fun _ => ?_)
        refine r_al0 zi_265_29 rfl ?_
        refine q_getI zi_265_30 rfl cf_195_50 ?_
        rw [zup_nj (by decide), hc]
        refine r_push zi_265_33 rfl ?_
        refine r_ic1 zi_265_34 rfl (fun c => absurd (by rw [hc8]; rfl) c) (fun _ => ?_)
        refine r_push zi_265_37 rfl ?_
        refine r_retI zi_265_38 rfl ?_
        exact ⟨_, rfl, h3 hv (by grind)⟩
      · show zk _ _ 26 _ _ _ _
        refine r_if0 zi_265_26 rfl (fun _ => ?_) (fun c => absurd (by decide) c)
        refine r_push zi_265_37 rfl ?_
        refine r_retI zi_265_38 rfl ?_
        exact ⟨_, rfl, h3 hv (by grind)⟩
    · have key : 1 ≤ v → v ≤ 9999 → ∀ u, zk (d + 1) 265 39 [.ref 195, .int v, u] [] (up σ 195 0 0) (fun r t => ∃ v, r = some v ∧ Q v t) := by
        intro g1 g2 u
        obtain ⟨n, hn, rfl⟩ := zI_ofle (v := v) (n := 9999) (by grind) g2 (by omega)
        have hn1 : 1 ≤ n := by
          rcases Nat.eq_zero_or_pos n with rfl | hp
          · exact absurd g1 (by decide)
          · exact hp
        have hq : wok 4 n = false → ¬ zwd (nI n) := fun k z => by
          obtain ⟨m, a, b, e, z⟩ := z
          have := (nI_eq (by omega) (by omega)).mp e
          subst this
          rw [k] at z
          cases z
        have hgo : wok 4 n = true → ∀ u, zk (d + 1) 265 62 [.ref 195, .int (nI n), u] [] (up σ 195 0 0) (fun r t => ∃ v, r = some v ∧ Q v t) := by
          intro hw u
          refine r_al0 zi_265_62 rfl ?_
          refine q_getR zi_265_63 rfl cf_195_51 ?_
          refine r_al0 zi_265_66 rfl ?_
          refine q_getI zi_265_67 rfl cf_195_50 ?_
          rw [zup_nj (by decide), hc]
          refine r_il1 zi_265_70 rfl ?_
          refine r_ast zi_265_71 rfl c ca_225 (by first | rfl | (simp only [zI_add, zI_mul] <;> rfl)) (by first | omega | decide) ?_
          refine r_al0 zi_265_72 rfl ?_
          refine r_al0 zi_265_73 rfl ?_
          refine q_getI zi_265_74 rfl cf_195_50 ?_
          rw [zup_ne (by decide), zup_nj (by decide), hc]
          refine r_push zi_265_77 rfl ?_
          refine r_b0 zi_265_78 rfl ?_
          rw [show (nI c + 1 : Int32) = nI (c + 1) from nI_add _ _]
          refine q_put zi_265_79 rfl cf_195_50 rfl ?_
          refine r_al0 zi_265_82 rfl ?_
          refine q_getI zi_265_83 rfl cf_195_50 ?_
          rw [zup_eq]
          refine r_retI zi_265_86 rfl ?_
          exact ⟨_, rfl, h2 hv ⟨n, hn1, hn, rfl, hw⟩ (by omega)⟩
        refine r_il1 zi_265_39 rfl ?_
        refine r_is2 zi_265_40 rfl ?_
        exact l_mw 4 n (by omega) hn hgo (fun k => ⟨_, rfl, h3 hv (Or.inl (hq k))⟩)
      refine r_al0 zi_265_0 rfl ?_
      refine r_push zi_265_1 rfl ?_
      refine q_put zi_265_2 rfl cf_195_0 rfl ?_
      refine r_il1 zi_265_5 rfl ?_
      refine r_push zi_265_6 rfl ?_
      refine r_ic1 zi_265_7 rfl (fun _ => ?_) (fun c => absurd c hv)
      refine r_al0 zi_265_17 rfl ?_
      refine r_il1 zi_265_18 rfl ?_
      refine r_push zi_265_19 rfl ?_
      refine r_push zi_265_20 rfl ?_
      refine q_cIV zi_265_23 rfl rfl rfl rfl rfl rfl rfl cf_195_0.ob (s_isIn (fun i1 a1 => ?_) (fun i1 => ?_))
      · show zk _ _ 26 _ _ _ _
        refine r_if0 zi_265_26 rfl (fun c => absurd c (by decide)) (fun _ => ?_)
        refine r_al0 zi_265_29 rfl ?_
        refine q_getI zi_265_30 rfl cf_195_50 ?_
        rw [zup_nj (by decide), hc]
        refine r_push zi_265_33 rfl ?_
        refine r_ic1 zi_265_34 rfl (fun _ => ?_) (fun c => absurd c (fun e => hc8 ((nI_eq (b := 5) (by omega) (by omega)).mp e)))
        exact key (by assumption) (by assumption) _
      · show zk _ _ 26 _ _ _ _
        refine r_if0 zi_265_26 rfl (fun _ => ?_) (fun c => absurd (by decide) c)
        refine r_push zi_265_37 rfl ?_
        refine r_retI zi_265_38 rfl ?_
        exact ⟨_, rfl, h3 hv (Or.inl (hno (by assumption)))⟩

