/-! MODEL: sets by numbers -/
def zset (f : Nat → Bool) : Nat → Int32
  | 0 => 0
  | n + 1 => if f n then zset f n ||| (1 <<< (nI n &&& 31)) else zset f n
abbrev zma (σ : zS) (p : Int32) (s : Nat) : Bool := decide (σ 196 (66 + s) = 0) && decide (σ 196 (30 + s) = p)
theorem s_mthose1 {d : Nat} {σ : zS} {Q : Int32 → zS → Prop} {p : Int32} {n : Nat} (hn : σ 195 6 = nI n) (hn18 : n ≤ 18) (h : Q (zset (zma σ p) n) σ) : ∀ (m s : Nat) (a : Int32), s + m = n → a = zset (zma σ p) s → zk (d + 1) 180 4 [.ref 195, .int p, .int a, .int (nI s)] [] σ (fun r t => ∃ v, r = some v ∧ Q v t) := by
  intro m
  induction m with
  | zero =>
    intro s a hs ha
    refine r_il3 zi_180_4 rfl ?_
    refine r_al0 zi_180_5 rfl ?_
    refine q_getI zi_180_6 rfl cf_195_6 ?_
    rw [hn]
    refine r_ic3 zi_180_9 rfl (fun _ => ?_) (fun c => absurd (nI_le (by omega) (by omega)) c)
    refine r_il2 zi_180_45 rfl ?_
    refine r_retI zi_180_46 rfl ?_
    exact ⟨_, rfl, by rw [ha, show s = n by omega]; exact h⟩
  | succ m ih =>
    intro s a hs ha
    refine r_il3 zi_180_4 rfl ?_
    refine r_al0 zi_180_5 rfl ?_
    refine q_getI zi_180_6 rfl cf_195_6 ?_
    rw [hn]
    refine r_ic3 zi_180_9 rfl (fun c => absurd c (nI_ge (by omega) (by omega))) (fun _ => ?_)
    refine r_al0 zi_180_12 rfl ?_
    refine r_il3 zi_180_13 rfl ?_
    refine q_cIV zi_180_14 rfl rfl rfl rfl rfl rfl rfl cf_195_0.ob (s_malive (by omega) (fun i1 => ?_) (fun i1 => ?_))
    · show zk _ _ 17 _ _ _ _
      refine r_if0 zi_180_17 rfl (fun c => absurd c (by decide)) (fun _ => ?_)
      refine r_al0 zi_180_20 rfl ?_
      refine q_getR zi_180_21 rfl cf_195_1 ?_
      refine r_push zi_180_24 rfl ?_
      refine r_il3 zi_180_26 rfl ?_
      refine r_b0 zi_180_27 rfl ?_
      rw [show (30 + nI s : Int32) = nI (30 + s) from nI_add _ _]
      refine r_ald zi_180_28 rfl (30 + s) ca_196 (by first | rfl | (simp only [zI_add, zI_mul] <;> rfl)) (by first | omega | decide) ?_
      refine r_il1 zi_180_29 rfl ?_
      refine r_ic1 zi_180_30 rfl (fun c2 => ?_) (fun c2 => ?_)
      · refine r_in3 zi_180_39 rfl ?_
        rw [show (nI s + 1 : Int32) = nI (s + 1) from nI_add _ _]
        refine r_goto zi_180_42 rfl ?_
        exact ih (s + 1) _ (by omega) (by grind [zset])
      · refine r_il2 zi_180_33 rfl ?_
        refine r_push zi_180_34 rfl ?_
        refine r_il3 zi_180_35 rfl ?_
        refine r_b6 zi_180_36 rfl ?_
        refine r_b4 zi_180_37 rfl ?_
        refine r_is2 zi_180_38 rfl ?_
        refine r_in3 zi_180_39 rfl ?_
        rw [show (nI s + 1 : Int32) = nI (s + 1) from nI_add _ _]
        refine r_goto zi_180_42 rfl ?_
        exact ih (s + 1) _ (by omega) (by grind [zset])
    · show zk _ _ 17 _ _ _ _
      refine r_if0 zi_180_17 rfl (fun _ => ?_) (fun c => absurd (by decide) c)
      refine r_in3 zi_180_39 rfl ?_
      rw [show (nI s + 1 : Int32) = nI (s + 1) from nI_add _ _]
      refine r_goto zi_180_42 rfl ?_
      exact ih (s + 1) _ (by omega) (by grind [zset])
theorem s_mthose {d : Nat} {σ : zS} {Q : Int32 → zS → Prop} {p : Int32} {n : Nat} (hn : σ 195 6 = nI n) (hn18 : n ≤ 18) (h : Q (zset (zma σ p) n) σ) : zI1 (d + 1) 180 [.ref 195, .int p] σ Q := by
  show zk _ _ 0 [.ref 195, .int p, zun, zun] [] _ _
  refine r_push zi_180_0 rfl ?_
  refine r_is2 zi_180_1 rfl ?_
  refine r_push zi_180_2 rfl ?_
  refine r_is3 zi_180_3 rfl ?_
  exact s_mthose1 hn hn18 h n 0 0 (by omega) rfl

