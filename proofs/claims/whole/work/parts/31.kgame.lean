/-! GAME, of the class -/
theorem gf_stop : ∀ (f a b n : Nat), n < b → gf f a b n = a
  | 0, a, b, n, _ => rfl
  | f + 1, a, b, n, h => by simp only [gf]; rw [if_neg (by omega)]
theorem gf_succ (f a b n : Nat) : gf (f + 1) a b n = if b ≤ n then gf f b (a + b) n else a := rfl
theorem l_kg1 {d : Nat} {σ : zS} {Q : Int32 → zS → Prop} {n : Nat} (hn : n ≤ 100000) : ∀ (f i a b : Nat) (u : Value), i + f = 40 → a ≤ 100001 → b ≤ 200002 → (h : Q (nI (gf f a b n)) σ) →
    zk d 91 6 [.int (nI n), .int (nI a), .int (nI b), .int (nI i), u] [] σ (fun r t => ∃ v, r = some v ∧ Q v t) := by
  intro f
  induction f with
  | zero =>
    intro i a b u hi ha hb h
    simp only [gf] at h
    refine r_il3 zi_91_6 rfl ?_
    refine r_push zi_91_7 rfl ?_
    refine r_ic3 zi_91_9 rfl (fun _ => ?_) (fun c => absurd (nI_le (a := 40) (by omega) (by omega)) c)
    refine r_il1 zi_91_33 rfl ?_
    refine r_retI zi_91_34 rfl ?_
    exact ⟨_, rfl, h⟩
  | succ f ih =>
    intro i a b u hi ha hb h
    simp only [gf] at h
    by_cases hbn : b ≤ n
    · rw [if_pos hbn] at h
      refine r_il3 zi_91_6 rfl ?_
      refine r_push zi_91_7 rfl ?_
      refine r_ic3 zi_91_9 rfl (fun c => absurd c (nI_ge (b := 40) (by omega) (by omega))) (fun _ => ?_)
      refine r_il2 zi_91_12 rfl ?_
      refine r_il0 zi_91_13 rfl ?_
      refine r_ic4 zi_91_14 rfl (fun c => absurd c (nI_nlt (by omega) (by omega))) (fun _ => ?_)
      refine r_il1 zi_91_17 rfl ?_
      refine r_il2 zi_91_18 rfl ?_
      refine r_b0 zi_91_19 rfl ?_
      rw [show (nI a + nI b : Int32) = nI (a + b) from nI_add _ _]
      refine r_is4 zi_91_20 rfl ?_
      refine r_il2 zi_91_22 rfl ?_
      refine r_is1 zi_91_23 rfl ?_
      refine r_il4 zi_91_24 rfl ?_
      refine r_is2 zi_91_26 rfl ?_
      refine r_in3 zi_91_27 rfl ?_
      rw [show (nI i + 1 : Int32) = nI (i + 1) from nI_add _ _]
      refine r_goto zi_91_30 rfl ?_
      exact ih (i + 1) b (a + b) _ (by omega) (by omega) (by omega) h
    · rw [if_neg hbn] at h
      refine r_il3 zi_91_6 rfl ?_
      refine r_push zi_91_7 rfl ?_
      refine r_ic3 zi_91_9 rfl (fun c => absurd c (nI_ge (b := 40) (by omega) (by omega))) (fun _ => ?_)
      refine r_il2 zi_91_12 rfl ?_
      refine r_il0 zi_91_13 rfl ?_
      refine r_ic4 zi_91_14 rfl (fun _ => ?_) (fun c => absurd (nI_lt (by omega) (by omega)) c)
      refine r_il1 zi_91_33 rfl ?_
      refine r_retI zi_91_34 rfl ?_
      exact ⟨_, rfl, h⟩
theorem s_kgf {d : Nat} {σ : zS} {Q : Int32 → zS → Prop} {n : Nat} (h1 : 1 ≤ n) (hn : n ≤ 100000) (h : Q (nI (gf 39 1 2 n)) σ) : zI1 d 91 [.int (nI n)] σ Q := by
  show zk _ _ 0 [.int (nI n), zun, zun, zun, zun] [] _ _
  have h2 : Q (nI (gf 40 1 1 n)) σ := by
    rw [(gf_succ 39 1 1 n).trans (if_pos h1)]
    exact h
  refine r_push zi_91_0 rfl ?_
  refine r_is1 zi_91_1 rfl ?_
  refine r_push zi_91_2 rfl ?_
  refine r_is2 zi_91_3 rfl ?_
  refine r_push zi_91_4 rfl ?_
  refine r_is3 zi_91_5 rfl ?_
  exact l_kg1 hn 40 0 1 1 _ (by omega) (by omega) (by omega) h2
theorem l_kg2 {d : Nat} {σ : zS} {Q : Int32 → zS → Prop} {v1 : Nat} (hv : v1 ≤ 100000) : ∀ (f i n l : Nat), i + f = 40 → n ≤ 100000 → (h : Q (ga v1 (gt f n l)) σ) →
    zk (d + 1) 90 6 [.int (nI v1), .int (nI n), .int (nI l), .int (nI i)] [] σ (fun r t => ∃ v, r = some v ∧ Q v t) := by
  intro f
  induction f with
  | zero =>
    intro i n l hi hn h
    simp only [gt] at h
    refine r_il3 zi_90_6 rfl ?_
    refine r_push zi_90_7 rfl ?_
    refine r_ic3 zi_90_9 rfl (fun _ => ?_) (fun c => absurd (nI_le (a := 40) (by omega) (by omega)) c)
    refine r_il2 zi_90_31 rfl ?_
    refine r_il0 zi_90_32 rfl ?_
    refine r_ic1 zi_90_33 rfl (fun c1 => ?_) (fun c1 => ?_)
    · refine r_il2 zi_90_40 rfl ?_
      refine r_retI zi_90_41 rfl ?_
      exact ⟨_, rfl, by grind [ga]⟩
    · refine r_push zi_90_36 rfl ?_
      refine r_goto zi_90_37 rfl ?_
      refine r_retI zi_90_41 rfl ?_
      exact ⟨_, rfl, by grind [ga]⟩
  | succ f ih =>
    intro i n l hi hn h
    simp only [gt] at h
    by_cases h0 : n = 0
    · subst h0
      rw [if_pos rfl] at h
      refine r_il3 zi_90_6 rfl ?_
      refine r_push zi_90_7 rfl ?_
      refine r_ic3 zi_90_9 rfl (fun c => absurd c (nI_ge (b := 40) (by omega) (by omega))) (fun _ => ?_)
      refine r_il1 zi_90_12 rfl ?_
      refine r_if5 zi_90_13 rfl (fun _ => ?_) (fun c => absurd (by decide) c)
      refine r_il2 zi_90_31 rfl ?_
      refine r_il0 zi_90_32 rfl ?_
      refine r_ic1 zi_90_33 rfl (fun c1 => ?_) (fun c1 => ?_)
      · refine r_il2 zi_90_40 rfl ?_
        refine r_retI zi_90_41 rfl ?_
        exact ⟨_, rfl, by grind [ga]⟩
      · refine r_push zi_90_36 rfl ?_
        refine r_goto zi_90_37 rfl ?_
        refine r_retI zi_90_41 rfl ?_
        exact ⟨_, rfl, by grind [ga]⟩
    · rw [if_neg h0] at h
      have hl := gf_le 39 1 2 n (by omega)
      refine r_il3 zi_90_6 rfl ?_
      refine r_push zi_90_7 rfl ?_
      refine r_ic3 zi_90_9 rfl (fun c => absurd c (nI_ge (b := 40) (by omega) (by omega))) (fun _ => ?_)
      refine r_il1 zi_90_12 rfl ?_
      refine r_if5 zi_90_13 rfl (fun c => absurd c (nI_nle (by omega) (by omega))) (fun _ => ?_)
      refine r_il1 zi_90_16 rfl ?_
      refine r_cIS zi_90_17 rfl rfl rfl rfl rfl rfl (s_kgf (by omega) hn ?_)
      show zk _ _ 20 _ _ _ _
      refine r_is2 zi_90_20 rfl ?_
      refine r_il1 zi_90_21 rfl ?_
      refine r_il2 zi_90_22 rfl ?_
      refine r_b1 zi_90_23 rfl ?_
      rw [show (nI n - nI (gf 39 1 2 n) : Int32) = nI (n - (gf 39 1 2 n)) from pk_sub hl]
      refine r_is1 zi_90_24 rfl ?_
      refine r_in3 zi_90_25 rfl ?_
      rw [show (nI i + 1 : Int32) = nI (i + 1) from nI_add _ _]
      refine r_goto zi_90_28 rfl ?_
      exact ih (i + 1) _ _ (by omega) (by omega) h
theorem s_kft {d : Nat} {σ : zS} {Q : Int32 → zS → Prop} {v : Int32} (hv1 : 1 ≤ v) (hv2 : v ≤ 100000) (h1 : ∀ n, 1 ≤ n → n ≤ 100000 → v = nI n → Q (ga n (gt 17 n 0)) σ) : zI1 (d + 1) 90 [.int v] σ Q := by
  obtain ⟨n, hn, rfl⟩ := zI_ofle (v := v) (n := 100000) (by grind) hv2 (by omega)
  have hn1 : 1 ≤ n := by
    rcases Nat.eq_zero_or_pos n with rfl | hp
    · exact absurd hv1 (by decide)
    · exact hp
  have h2 := h1 n hn1 hn rfl
  rw [gt_more 17 40 n 0 (by omega) (by omega) hn] at h2
  show zk _ _ 0 [.int (nI n), zun, zun, zun] [] _ _
  refine r_il0 zi_90_0 rfl ?_
  refine r_is1 zi_90_1 rfl ?_
  refine r_push zi_90_2 rfl ?_
  refine r_is2 zi_90_3 rfl ?_
  refine r_push zi_90_4 rfl ?_
  refine r_is3 zi_90_5 rfl ?_
  exact l_kg2 hn 40 0 n 0 (by omega) hn h2
theorem s_kgame {d : Nat} {σ : zS} {Q : Int32 → zS → Prop} {v : Int32} (h1 : ∀ n, 1 ≤ n → n ≤ 100000 → v = nI n → Q (ga n (gt 17 n 0)) σ) (h0 : ¬ (1 ≤ v ∧ v ≤ 100000) → Q (-1) σ) : zI1 (d + 2) 152 [.ref 0, .int v] σ Q := by
  show zk _ _ 0 [.ref 0, .int v] [] _ _
  refine r_il1 zi_152_0 rfl ?_
  refine r_push zi_152_1 rfl ?_
  refine r_push zi_152_2 rfl ?_
  refine r_cIS zi_152_5 rfl rfl rfl rfl rfl rfl (s_within (fun i1 a1 => ?_) (fun i1 => ?_))
  · show zk _ _ 8 _ _ _ _
    refine r_if0 zi_152_8 rfl (fun c => absurd c (by decide)) (fun _ => ?_)
    refine r_il1 zi_152_11 rfl ?_
    refine r_cIS zi_152_12 rfl rfl rfl rfl rfl rfl (s_kft i1 a1 (fun n g1 g2 g3 => ?_))
    show zk _ _ 15 _ _ _ _
    refine r_goto zi_152_15 rfl ?_
    refine r_retI zi_152_19 rfl ?_
    exact ⟨_, rfl, h1 n g1 g2 g3⟩
  · show zk _ _ 8 _ _ _ _
    refine r_if0 zi_152_8 rfl (fun _ => ?_) (fun c => absurd (by decide) c)
    refine r_push zi_152_18 rfl ?_
    refine r_retI zi_152_19 rfl ?_
    exact ⟨_, rfl, h0 (by grind)⟩

