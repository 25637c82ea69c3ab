/-! CLASS: Duchy, leaves -/
theorem s_dsubj {d : Nat} {σ : zS} {Q : Int32 → zS → Prop} {k n : Nat} {w : Int32} (hk : zDu k) (hn : σ k 11 = nI n) (hn18 : n ≤ 18) (h1 : ∀ s, s < n → w = nI s → Q 1 σ) (h0 : ¬ (0 ≤ w ∧ w < nI n) → Q 0 σ) : zI1 d 18 [.ref k, .int w] σ Q := by
  show zk _ _ 0 [.ref k, .int w] [] _ _
  have hb : nI n ≤ 18 := nI_le (b := 18) hn18 (by omega)
  have h2 : 0 ≤ w → w < nI n → Q 1 σ := fun a b => by
    obtain ⟨s, hs, e⟩ := zI_of a b (by omega)
    exact h1 s hs e
  refine r_il1 zi_18_0 rfl ?_
  refine r_if2 zi_18_1 rfl (fun c1 => ?_) (fun c1 => ?_)
  · refine r_push zi_18_22 rfl ?_
    refine r_retZ zi_18_23 rfl (by decide) ?_
    first | (exact ⟨_, rfl, h2 (by grind) (by grind)⟩) | (exact ⟨_, rfl, h0 (by grind)⟩) | (exfalso; grind)
  · refine r_il1 zi_18_4 rfl ?_
    refine r_al0 zi_18_5 rfl ?_
    refine q_getI zi_18_6 rfl (hk.2.1 11 (by omega) (by omega)) ?_
    rw [hn]
    refine r_ic3 zi_18_9 rfl (fun c2 => ?_) (fun c2 => ?_)
    · refine r_push zi_18_22 rfl ?_
      refine r_retZ zi_18_23 rfl (by decide) ?_
      first | (exact ⟨_, rfl, h2 (by grind) (by grind)⟩) | (exact ⟨_, rfl, h0 (by grind)⟩) | (exfalso; grind)
    · refine r_il1 zi_18_12 rfl ?_
      refine r_push zi_18_13 rfl ?_
      refine r_ic3 zi_18_15 rfl (fun c3 => ?_) (fun c3 => ?_)
      · refine r_push zi_18_22 rfl ?_
        refine r_retZ zi_18_23 rfl (by decide) ?_
        first | (exact ⟨_, rfl, h2 (by grind) (by grind)⟩) | (exact ⟨_, rfl, h0 (by grind)⟩) | (exfalso; grind)
      · refine r_push zi_18_18 rfl ?_
        refine r_goto zi_18_19 rfl ?_
        refine r_retZ zi_18_23 rfl (by decide) ?_
        first | (exact ⟨_, rfl, h2 (by grind) (by grind)⟩) | (exact ⟨_, rfl, h0 (by grind)⟩) | (exfalso; grind)
theorem s_dlives {d : Nat} {σ : zS} {Q : Int32 → zS → Prop} {k n : Nat} {w : Int32} (hk : zDu k) (hn : σ k 11 = nI n) (hn18 : n ≤ 18) (h1 : ∀ s, s < n → w = nI s → σ (k + 1 + 6) s = 1 → Q 1 σ) (h0 : ¬ (0 ≤ w ∧ w < nI n) → Q 0 σ) (h2 : ∀ s, s < n → w = nI s → ¬ σ (k + 1 + 6) s = 1 → Q 0 σ) : zI1 (d + 1) 19 [.ref k, .int w] σ Q := by
  show zk _ _ 0 [.ref k, .int w] [] _ _
  refine r_al0 zi_19_0 rfl ?_
  refine r_il1 zi_19_1 rfl ?_
  refine q_cIV zi_19_2 rfl rfl rfl rfl rfl rfl rfl (hk.1 0 (by omega)).ob (s_dsubj hk hn hn18 (fun s i e => ?_) (fun i => ?_))
  · show zk _ _ 5 _ _ _ _
    refine r_if0 zi_19_5 rfl (fun c => absurd c (by decide)) (fun _ => ?_)
    refine r_al0 zi_19_8 rfl ?_
    refine q_getR zi_19_9 rfl (hk.1 6 (by omega)) ?_
    refine r_il1 zi_19_12 rfl ?_
    refine r_ald zi_19_13 rfl s (hk.2.2.2.1 6 (by omega) (by omega)) e (by omega) ?_
    refine r_push zi_19_14 rfl ?_
    refine r_ic1 zi_19_15 rfl (fun c2 => ?_) (fun c2 => ?_)
    · refine r_push zi_19_22 rfl ?_
      refine r_retZ zi_19_23 rfl (by decide) ?_
      first | (exact ⟨_, rfl, h1 s i e (by assumption)⟩) | (exact ⟨_, rfl, h2 s i e (by assumption)⟩) | (exact ⟨_, rfl, h0 i⟩)
    · refine r_push zi_19_18 rfl ?_
      refine r_goto zi_19_19 rfl ?_
      refine r_retZ zi_19_23 rfl (by decide) ?_
      first | (exact ⟨_, rfl, h1 s i e (by assumption)⟩) | (exact ⟨_, rfl, h2 s i e (by assumption)⟩) | (exact ⟨_, rfl, h0 i⟩)
  · show zk _ _ 5 _ _ _ _
    refine r_if0 zi_19_5 rfl (fun _ => ?_) (fun c => absurd (by decide) c)
    refine r_push zi_19_22 rfl ?_
    refine r_retZ zi_19_23 rfl (by decide) ?_
    first | (exact ⟨_, rfl, h1 s i e (by assumption)⟩) | (exact ⟨_, rfl, h2 s i e (by assumption)⟩) | (exact ⟨_, rfl, h0 i⟩)
abbrev zka (σ : zS) (k : Nat) (p : Int32) (s : Nat) : Bool := decide (σ (k + 1 + 6) s = 1) && decide (σ (k + 1 + 3) s = p)
theorem l_dthose {d : Nat} {σ : zS} {Q : Int32 → zS → Prop} {k n : Nat} {p : Int32} (hk : zDu k) (hn : σ k 11 = nI n) (hn18 : n ≤ 18) (h : Q (zset (zka σ k p) n) σ) : ∀ (m s : Nat) (a : Int32), s + m = n → a = zset (zka σ k p) s → zk d 20 4 [.ref k, .int p, .int a, .int (nI s)] [] σ (fun r t => ∃ v, r = some v ∧ Q v t) := by
  intro m
  induction m with
  | zero =>
    intro s a hs ha
    refine r_il3 zi_20_4 rfl ?_
    refine r_al0 zi_20_5 rfl ?_
    refine q_getI zi_20_6 rfl (hk.2.1 11 (by omega) (by omega)) ?_
    rw [hn]
    refine r_ic3 zi_20_9 rfl (fun _ => ?_) (fun c => absurd (nI_le (by omega) (by omega)) c)
    refine r_il2 zi_20_50 rfl ?_
    refine r_retI zi_20_51 rfl ?_
    exact ⟨_, rfl, by rw [ha, show s = n by omega]; exact h⟩
  | succ m ih =>
    intro s a hs ha
    refine r_il3 zi_20_4 rfl ?_
    refine r_al0 zi_20_5 rfl ?_
    refine q_getI zi_20_6 rfl (hk.2.1 11 (by omega) (by omega)) ?_
    rw [hn]
    refine r_ic3 zi_20_9 rfl (fun c => absurd c (nI_ge (by omega) (by omega))) (fun _ => ?_)
    refine r_il3 zi_20_12 rfl ?_
    refine r_push zi_20_13 rfl ?_
    refine r_ic3 zi_20_15 rfl (fun c => absurd c (nI_ge (b := 18) (by omega) (by omega))) (fun _ => ?_)
    refine r_al0 zi_20_18 rfl ?_
    refine q_getR zi_20_19 rfl (hk.1 6 (by omega)) ?_
    refine r_il3 zi_20_22 rfl ?_
    refine r_ald zi_20_23 rfl s (hk.2.2.2.1 6 (by omega) (by omega)) (by first | rfl | (simp only [zI_add, zI_mul] <;> rfl)) (by first | omega | decide) ?_
    refine r_push zi_20_24 rfl ?_
    refine r_ic1 zi_20_25 rfl (fun c1 => ?_) (fun c1 => ?_)
    · refine r_in3 zi_20_44 rfl ?_
      rw [show (nI s + 1 : Int32) = nI (s + 1) from nI_add _ _]
      refine r_goto zi_20_47 rfl ?_
      exact ih (s + 1) _ (by omega) (by grind [zset])
    · refine r_al0 zi_20_28 rfl ?_
      refine q_getR zi_20_29 rfl (hk.1 3 (by omega)) ?_
      refine r_il3 zi_20_32 rfl ?_
      refine r_ald zi_20_33 rfl s (hk.2.2.2.1 3 (by omega) (by omega)) (by first | rfl | (simp only [zI_add, zI_mul] <;> rfl)) (by first | omega | decide) ?_
      refine r_il1 zi_20_34 rfl ?_
      refine r_ic1 zi_20_35 rfl (fun c2 => ?_) (fun c2 => ?_)
      · refine r_in3 zi_20_44 rfl ?_
        rw [show (nI s + 1 : Int32) = nI (s + 1) from nI_add _ _]
        refine r_goto zi_20_47 rfl ?_
        exact ih (s + 1) _ (by omega) (by grind [zset])
      · refine r_il2 zi_20_38 rfl ?_
        refine r_push zi_20_39 rfl ?_
        refine r_il3 zi_20_40 rfl ?_
        refine r_b6 zi_20_41 rfl ?_
        refine r_b4 zi_20_42 rfl ?_
        refine r_is2 zi_20_43 rfl ?_
        refine r_in3 zi_20_44 rfl ?_
        rw [show (nI s + 1 : Int32) = nI (s + 1) from nI_add _ _]
        refine r_goto zi_20_47 rfl ?_
        exact ih (s + 1) _ (by omega) (by grind [zset])
theorem s_dthose {d : Nat} {σ : zS} {Q : Int32 → zS → Prop} {k n : Nat} {p : Int32} (hk : zDu k) (hn : σ k 11 = nI n) (hn18 : n ≤ 18) (h : Q (zset (zka σ k p) n) σ) : zI1 d 20 [.ref k, .int p] σ Q := by
  show zk _ _ 0 [.ref k, .int p, zun, zun] [] _ _
  refine r_push zi_20_0 rfl ?_
  refine r_is2 zi_20_1 rfl ?_
  refine r_push zi_20_2 rfl ?_
  refine r_is3 zi_20_3 rfl ?_
  exact l_dthose hk hn hn18 h n 0 0 (by omega) rfl
abbrev zkl (σ : zS) (k n s : Nat) : Bool := decide (s < n) && decide (σ (k + 1 + 6) s = 1)
theorem l_dall {d : Nat} {σ : zS} {Q : Int32 → zS → Prop} {k n : Nat} (hk : zDu k) (hn : σ k 11 = nI n) (hn18 : n ≤ 18) (h : Q (zset (zkl σ k n) 18) σ) : ∀ (m s : Nat) (a : Int32), s + m = 18 → a = zset (zkl σ k n) s → zk (d + 2) 21 4 [.ref k, .int a, .int (nI s)] [] σ (fun r t => ∃ v, r = some v ∧ Q v t) := by
  intro m
  induction m with
  | zero =>
    intro s a hs ha
    refine r_il2 zi_21_4 rfl ?_
    refine r_push zi_21_5 rfl ?_
    refine r_ic3 zi_21_7 rfl (fun _ => ?_) (fun c => absurd (nI_le (a := 18) (by omega) (by omega)) c)
    refine r_il1 zi_21_30 rfl ?_
    refine r_retI zi_21_31 rfl ?_
    exact ⟨_, rfl, by rw [ha, show s = 18 by omega]; exact h⟩
  | succ m ih =>
    intro s a hs ha
    have hu : ∀ q, q < n → nI s = nI q → q = s := fun q hq e => ((nI_eq (by omega) (by omega)).mp e).symm
    have hv : ¬ (0 ≤ nI s ∧ nI s < nI n) → ¬ s < n := fun z q => z ⟨nI_pos' (by omega), nI_lt q (by omega)⟩
    refine r_il2 zi_21_4 rfl ?_
    refine r_push zi_21_5 rfl ?_
    refine r_ic3 zi_21_7 rfl (fun c => absurd c (nI_ge (b := 18) (by omega) (by omega))) (fun _ => ?_)
    refine r_al0 zi_21_10 rfl ?_
    refine r_il2 zi_21_11 rfl ?_
    refine q_cIV zi_21_12 rfl rfl rfl rfl rfl rfl rfl (hk.1 0 (by omega)).ob (s_dlives hk hn hn18 (fun q i e al => ?_) (fun i => ?_) (fun q i e al => ?_))
    · show zk _ _ 15 _ _ _ _
      refine r_if0 zi_21_15 rfl (fun c => absurd c (by decide)) (fun _ => ?_)
      refine r_il1 zi_21_18 rfl ?_
      refine r_push zi_21_19 rfl ?_
      refine r_il2 zi_21_20 rfl ?_
      refine r_b6 zi_21_21 rfl ?_
      refine r_b4 zi_21_22 rfl ?_
      refine r_is1 zi_21_23 rfl ?_
      refine r_in2 zi_21_24 rfl ?_
      rw [show (nI s + 1 : Int32) = nI (s + 1) from nI_add _ _]
      refine r_goto zi_21_27 rfl ?_
      first | (have hq := hu q i e; subst hq; exact ih (q + 1) _ (by omega) (by grind [zset])) | (have hq := hv i; exact ih (s + 1) _ (by omega) (by grind [zset]))
    · show zk _ _ 15 _ _ _ _
      refine r_if0 zi_21_15 rfl (fun _ => ?_) (fun c => absurd (by decide) c)
      refine r_in2 zi_21_24 rfl ?_
      rw [show (nI s + 1 : Int32) = nI (s + 1) from nI_add _ _]
      refine r_goto zi_21_27 rfl ?_
      first | (have hq := hu q i e; subst hq; exact ih (q + 1) _ (by omega) (by grind [zset])) | (have hq := hv i; exact ih (s + 1) _ (by omega) (by grind [zset]))
    · show zk _ _ 15 _ _ _ _
      refine r_if0 zi_21_15 rfl (fun _ => ?_) (fun c => absurd (by decide) c)
      refine r_in2 zi_21_24 rfl ?_
      rw [show (nI s + 1 : Int32) = nI (s + 1) from nI_add _ _]
      refine r_goto zi_21_27 rfl ?_
      first | (have hq := hu q i e; subst hq; exact ih (q + 1) _ (by omega) (by grind [zset])) | (have hq := hv i; exact ih (s + 1) _ (by omega) (by grind [zset]))
theorem s_dall {d : Nat} {σ : zS} {Q : Int32 → zS → Prop} {k n : Nat} (hk : zDu k) (hn : σ k 11 = nI n) (hn18 : n ≤ 18) (h : Q (zset (zkl σ k n) 18) σ) : zI1 (d + 2) 21 [.ref k] σ Q := by
  show zk _ _ 0 [.ref k, zun, zun] [] _ _
  refine r_push zi_21_0 rfl ?_
  refine r_is1 zi_21_1 rfl ?_
  refine r_push zi_21_2 rfl ?_
  refine r_is2 zi_21_3 rfl ?_
  exact l_dall hk hn hn18 h 18 0 0 (by omega) rfl
theorem s_dgiven {d : Nat} {σ : zS} {Q : zS → Prop} {k n : Nat} {v : Int32} (hk : zDu k) (hn : σ k 12 = nI n) (hn24 : n ≤ 24) (h1 : n < 24 → Q (up (up σ (k + 1 + 9) n v) k 12 (nI (n + 1)))) (h0 : n = 24 → Q σ) : zV1 d 17 [.ref k, .int v] σ Q := by
  show zk _ _ 0 [.ref k, .int v] [] _ _
  by_cases h24 : n = 24
  · refine r_al0 zi_17_0 rfl ?_
    refine q_getI zi_17_1 rfl (hk.2.1 12 (by omega) (by omega)) ?_
    rw [hn]
    refine r_if2 zi_17_4 rfl (fun c => absurd c (nI_pos (by omega))) (fun _ => ?_)
    refine r_al0 zi_17_7 rfl ?_
    refine q_getI zi_17_8 rfl (hk.2.1 12 (by omega) (by omega)) ?_
    rw [hn]
    refine r_push zi_17_11 rfl ?_
    refine r_ic3 zi_17_13 rfl (fun _ => ?_) (fun c => absurd (nI_le (a := 24) (by omega) (by omega)) c)
    refine r_ret zi_17_36 rfl ?_
    exact ⟨rfl, h0 h24⟩
  · refine r_al0 zi_17_0 rfl ?_
    refine q_getI zi_17_1 rfl (hk.2.1 12 (by omega) (by omega)) ?_
    rw [hn]
    refine r_if2 zi_17_4 rfl (fun c => absurd c (nI_pos (by omega))) (fun _ => ?_)
    refine r_al0 zi_17_7 rfl ?_
    refine q_getI zi_17_8 rfl (hk.2.1 12 (by omega) (by omega)) ?_
    rw [hn]
    refine r_push zi_17_11 rfl ?_
    refine r_ic3 zi_17_13 rfl (fun c => absurd c (nI_ge (b := 24) (by omega) (by omega))) (fun _ => ?_)
    refine r_al0 zi_17_16 rfl ?_
    refine q_getR zi_17_17 rfl (hk.1 9 (by omega)) ?_
    refine r_al0 zi_17_20 rfl ?_
    refine q_getI zi_17_21 rfl (hk.2.1 12 (by omega) (by omega)) ?_
    rw [hn]
    refine r_il1 zi_17_24 rfl ?_
    refine r_ast zi_17_25 rfl n (hk.2.2.2.2 9 (by omega) (by omega)) (by first | rfl | (simp only [zI_add, zI_mul] <;> rfl)) (by first | omega | decide) ?_
    refine r_al0 zi_17_26 rfl ?_
    refine r_dupR zi_17_27 rfl ?_
    refine q_getI zi_17_28 rfl (hk.2.1 12 (by omega) (by omega)) ?_
    rw [zup_ne (by omega), hn]
    refine r_push zi_17_31 rfl ?_
    refine r_b0 zi_17_32 rfl ?_
    rw [show (nI n + 1 : Int32) = nI (n + 1) from nI_add _ _]
    refine q_put zi_17_33 rfl (hk.2.1 12 (by omega) (by omega)) rfl ?_
    refine r_ret zi_17_36 rfl ?_
    exact ⟨rfl, h1 (by omega)⟩
/-- the next STATE, and what is drawn of it -/
def zdr (v : Int32) : Int32 := v * 1664525 + 1013904223
def zdw (v m : Int32) : Int32 := ((zdr v).toUInt32 >>> (8 &&& 31 : Int32).toUInt32).toInt32 % m
theorem s_ddraw {d : Nat} {σ : zS} {Q : Int32 → zS → Prop} {k : Nat} (hk : zDu k) (h : Q (zdw (σ k 18) 1000) (up σ k 18 (zdr (σ k 18)))) : zI1 d 22 [.ref k, .int 1000] σ Q := by
  show zk _ _ 0 [.ref k, .int 1000] [] _ _
  refine r_al0 zi_22_0 rfl ?_
  refine r_al0 zi_22_1 rfl ?_
  refine q_getI zi_22_2 rfl (hk.2.1 18 (by omega) (by omega)) ?_
  refine r_push zi_22_5 rfl ?_
  refine r_b2 zi_22_7 rfl ?_
  refine r_push zi_22_8 rfl ?_
  refine r_b0 zi_22_10 rfl ?_
  refine q_put zi_22_11 rfl (hk.2.1 18 (by omega) (by omega)) rfl ?_
  refine r_il1 zi_22_14 rfl ?_
  refine r_if5 zi_22_15 rfl (fun c => absurd c (by decide)) (fun _ => ?_)
  refine r_al0 zi_22_18 rfl ?_
  refine q_getI zi_22_19 rfl (hk.2.1 18 (by omega) (by omega)) ?_
  rw [zup_eq]
  refine r_push zi_22_22 rfl ?_
  refine r_b8 zi_22_24 rfl ?_
  refine r_il1 zi_22_25 rfl ?_
  refine r_rem zi_22_26 rfl (by decide) ?_
  refine r_goto zi_22_27 rfl ?_
  refine r_retI zi_22_31 rfl ?_
  exact ⟨_, rfl, h⟩
theorem s_mdraw {d : Nat} {σ : zS} {Q : Int32 → zS → Prop} (h : Q (zdw (σ 196 1) 1000) (up σ 196 1 (zdr (σ 196 1)))) : zI1 d 176 [.ref 195, .int 1000] σ Q := by
  have e1 : 1664525 * σ 196 1 + 1013904223 = zdr (σ 196 1) := by rw [Int32.mul_comm]; rfl
  show zk _ _ 0 [.ref 195, .int 1000] [] _ _
  refine r_al0 zi_176_0 rfl ?_
  refine q_getR zi_176_1 rfl cf_195_1 ?_
  refine r_push zi_176_4 rfl ?_
  refine r_push zi_176_5 rfl ?_
  refine r_al0 zi_176_7 rfl ?_
  refine q_getR zi_176_8 rfl cf_195_1 ?_
  refine r_push zi_176_11 rfl ?_
  refine r_ald zi_176_12 rfl 1 ca_196 rfl (by decide) ?_
  refine r_b2 zi_176_13 rfl ?_
  refine r_push zi_176_14 rfl ?_
  refine r_b0 zi_176_16 rfl ?_
  refine r_ast zi_176_17 rfl 1 ca_196 rfl (by decide) ?_
  refine r_al0 zi_176_18 rfl ?_
  refine q_getR zi_176_19 rfl cf_195_1 ?_
  refine r_push zi_176_22 rfl ?_
  refine r_ald zi_176_23 rfl 1 ca_196 rfl (by decide) ?_
  rw [zup_eq, e1]
  refine r_push zi_176_24 rfl ?_
  refine r_b8 zi_176_26 rfl ?_
  refine r_il1 zi_176_27 rfl ?_
  refine r_rem zi_176_28 rfl (by decide) ?_
  refine r_retI zi_176_29 rfl ?_
  exact ⟨_, rfl, h⟩
theorem s_mgiven {d : Nat} {σ : zS} {Q : zS → Prop} {n : Nat} {v : Int32} (hn : σ 196 120 = nI n) (hn24 : n ≤ 24) (h1 : n < 24 → Q (up (up σ 196 (121 + n) v) 196 120 (nI (n + 1)))) (h0 : n = 24 → Q σ) : zV1 d 242 [.ref 195, .int v] σ Q := by
  show zk _ _ 0 [.ref 195, .int v] [] _ _
  by_cases h24 : n = 24
  · refine r_al0 zi_242_0 rfl ?_
    refine q_getR zi_242_1 rfl cf_195_1 ?_
    refine r_push zi_242_4 rfl ?_
    refine r_ald zi_242_6 rfl 120 ca_196 (by first | rfl | (simp only [zI_add, zI_mul] <;> rfl)) (by first | omega | decide) ?_
    rw [hn]
    refine r_push zi_242_7 rfl ?_
    refine r_ic1 zi_242_9 rfl (fun c => absurd (by rw [h24]; rfl) c) (fun _ => ?_)
    refine r_ret zi_242_12 rfl ?_
    exact ⟨rfl, h0 h24⟩
  · refine r_al0 zi_242_0 rfl ?_
    refine q_getR zi_242_1 rfl cf_195_1 ?_
    refine r_push zi_242_4 rfl ?_
    refine r_ald zi_242_6 rfl 120 ca_196 (by first | rfl | (simp only [zI_add, zI_mul] <;> rfl)) (by first | omega | decide) ?_
    rw [hn]
    refine r_push zi_242_7 rfl ?_
    refine r_ic1 zi_242_9 rfl (fun _ => ?_) (fun c => absurd c (fun e => h24 ((nI_eq (b := 24) (by omega) (by omega)).mp e)))
    refine r_al0 zi_242_13 rfl ?_
    refine q_getR zi_242_14 rfl cf_195_1 ?_
    refine r_push zi_242_17 rfl ?_
    refine r_al0 zi_242_19 rfl ?_
    refine q_getR zi_242_20 rfl cf_195_1 ?_
    refine r_push zi_242_23 rfl ?_
    refine r_ald zi_242_25 rfl 120 ca_196 (by first | rfl | (simp only [zI_add, zI_mul] <;> rfl)) (by first | omega | decide) ?_
    rw [hn]
    refine r_b0 zi_242_26 rfl ?_
    rw [show (121 + nI n : Int32) = nI (121 + n) from nI_add _ _]
    refine r_il1 zi_242_27 rfl ?_
    refine r_ast zi_242_28 rfl (121 + n) ca_196 (by first | rfl | (simp only [zI_add, zI_mul] <;> rfl)) (by first | omega | decide) ?_
    refine r_al0 zi_242_29 rfl ?_
    refine q_getR zi_242_30 rfl cf_195_1 ?_
    refine r_push zi_242_33 rfl ?_
    refine r_al0 zi_242_35 rfl ?_
    refine q_getR zi_242_36 rfl cf_195_1 ?_
    refine r_push zi_242_39 rfl ?_
    refine r_ald zi_242_41 rfl 120 ca_196 (by first | rfl | (simp only [zI_add, zI_mul] <;> rfl)) (by first | omega | decide) ?_
    rw [zup_nj (by omega), hn]
    refine r_push zi_242_42 rfl ?_
    refine r_b0 zi_242_43 rfl ?_
    rw [show (nI n + 1 : Int32) = nI (n + 1) from nI_add _ _]
    refine r_ast zi_242_44 rfl 120 ca_196 (by first | rfl | (simp only [zI_add, zI_mul] <;> rfl)) (by first | omega | decide) ?_
    refine r_ret zi_242_45 rfl ?_
    exact ⟨rfl, h1 (by omega)⟩
theorem l_mall {d : Nat} {σ : zS} {Q : Int32 → zS → Prop} {n : Nat} (hn : σ 195 6 = nI n) (hn18 : n ≤ 18) (h : Q (zset (fun s => decide (σ 196 (66 + s) = 0)) n) σ) : ∀ (m s : Nat) (a : Int32), s + m = n → a = zset (fun s => decide (σ 196 (66 + s) = 0)) s → zk (d + 1) 181 4 [.ref 195, .int a, .int (nI s)] [] σ (fun r t => ∃ v, r = some v ∧ Q v t) := by
  intro m
  induction m with
  | zero =>
    intro s a hs ha
    refine r_il2 zi_181_4 rfl ?_
    refine r_al0 zi_181_5 rfl ?_
    refine q_getI zi_181_6 rfl cf_195_6 ?_
    rw [hn]
    refine r_ic3 zi_181_9 rfl (fun _ => ?_) (fun c => absurd (nI_le (by omega) (by omega)) c)
    refine r_il1 zi_181_32 rfl ?_
    refine r_retI zi_181_33 rfl ?_
    exact ⟨_, rfl, by rw [ha, show s = n by omega]; exact h⟩
  | succ m ih =>
    intro s a hs ha
    refine r_il2 zi_181_4 rfl ?_
    refine r_al0 zi_181_5 rfl ?_
    refine q_getI zi_181_6 rfl cf_195_6 ?_
    rw [hn]
    refine r_ic3 zi_181_9 rfl (fun c => absurd c (nI_ge (by omega) (by omega))) (fun _ => ?_)
    refine r_al0 zi_181_12 rfl ?_
    refine r_il2 zi_181_13 rfl ?_
    refine q_cIV zi_181_14 rfl rfl rfl rfl rfl rfl rfl cf_195_0.ob (s_malive (by omega) (fun i1 => ?_) (fun i1 => ?_))
    · show zk _ _ 17 _ _ _ _
      refine r_if0 zi_181_17 rfl (fun c => absurd c (by decide)) (fun _ => ?_)
      refine r_il1 zi_181_20 rfl ?_
      refine r_push zi_181_21 rfl ?_
      refine r_il2 zi_181_22 rfl ?_
      refine r_b6 zi_181_23 rfl ?_
      refine r_b4 zi_181_24 rfl ?_
      refine r_is1 zi_181_25 rfl ?_
      refine r_in2 zi_181_26 rfl ?_
      rw [show (nI s + 1 : Int32) = nI (s + 1) from nI_add _ _]
      refine r_goto zi_181_29 rfl ?_
      exact ih (s + 1) _ (by omega) (by grind [zset])
    · show zk _ _ 17 _ _ _ _
      refine r_if0 zi_181_17 rfl (fun _ => ?_) (fun c => absurd (by decide) c)
      refine r_in2 zi_181_26 rfl ?_
      rw [show (nI s + 1 : Int32) = nI (s + 1) from nI_add _ _]
      refine r_goto zi_181_29 rfl ?_
      exact ih (s + 1) _ (by omega) (by grind [zset])
theorem s_mall {d : Nat} {σ : zS} {Q : Int32 → zS → Prop} {n : Nat} (hn : σ 195 6 = nI n) (hn18 : n ≤ 18) (h : Q (zset (fun s => decide (σ 196 (66 + s) = 0)) n) σ) : zI1 (d + 1) 181 [.ref 195] σ Q := by
  show zk _ _ 0 [.ref 195, zun, zun] [] _ _
  refine r_push zi_181_0 rfl ?_
  refine r_is1 zi_181_1 rfl ?_
  refine r_push zi_181_2 rfl ?_
  refine r_is2 zi_181_3 rfl ?_
  exact l_mall hn hn18 h n 0 0 (by omega) rfl

