/-! GAME -/
def gb : Nat → Nat → Nat → Nat
  | 0, _, b => b
  | f + 1, a, b => gb f b (a + b)
def gf : Nat → Nat → Nat → Nat → Nat
  | 0, a, _, _ => a
  | f + 1, a, b, n => if b ≤ n then gf f b (a + b) n else a
def gt : Nat → Nat → Nat → Nat
  | 0, _, l => l
  | f + 1, n, l => if n = 0 then l else gt f (n - gf 39 1 2 n) (gf 39 1 2 n)
def ga (n r : Nat) : Int32 := if nI r = nI n then -1 else nI r
theorem gf_le : ∀ (f a b n : Nat), a ≤ n → gf f a b n ≤ n
  | 0, a, b, n, h => h
  | f + 1, a, b, n, h => by
    simp only [gf]
    split
    · exact gf_le f b (a + b) n (by assumption)
    · exact h
theorem gf_half : ∀ (f a b n : Nat), a ≤ b → b ≤ 2 * a → n < gb f a b → n < 2 * gf f a b n ∧ 1 ≤ 2 * gf f a b n
  | 0, a, b, n, h1, h2, h => by simp only [gb, gf] at *; omega
  | f + 1, a, b, n, h1, h2, h => by
    simp only [gb] at h
    simp only [gf]
    split
    · exact gf_half f b (a + b) n (by omega) (by omega) h
    · omega
theorem gt_more : ∀ (f g n l : Nat), n < 2 ^ f → n < 2 ^ g → n ≤ 100000 → gt f n l = gt g n l
  | 0, 0, n, l, _, _, _ => rfl
  | 0, g + 1, n, l, h1, _, _ => by
    have : n = 0 := by omega
    subst this
    simp [gt]
  | f + 1, 0, n, l, _, h2, _ => by
    have : n = 0 := by omega
    subst this
    simp [gt]
  | f + 1, g + 1, n, l, h1, h2, h3 => by
    simp only [gt]
    split
    · rfl
    · have hh := gf_half 39 1 2 n (by omega) (by omega) (Nat.lt_of_le_of_lt h3 (by decide +kernel))
      have hl := gf_le 39 1 2 n (by omega)
      rw [Nat.pow_succ] at h1 h2
      exact gt_more f g _ _ (by omega) (by omega) (by omega)
theorem l_mg1 {d : Nat} {σ : zS} {Q : Option Int32 → zS → Prop} {v1 v3 : Int32} {n : Nat} (hn : n ≤ 100000) : ∀ (f a b : Nat) (u : Value), a ≤ 100001 → b ≤ 200002 → n < gb f a b → (∀ (b' : Nat) (u' : Value), zk d 284 57 [.ref 195, .int v1, .int (nI n), .int v3, .int (nI (gf f a b n)), .int (nI b'), u'] [] σ Q) →
    zk d 284 33 [.ref 195, .int v1, .int (nI n), .int v3, .int (nI a), .int (nI b), u] [] σ Q := by
  intro f
  induction f with
  | zero =>
    intro a b u ha hb hg h
    simp only [gb] at hg
    simp only [gf] at h
    refine r_il5 zi_284_33 rfl ?_
    refine r_il2 zi_284_35 rfl ?_
    refine r_ic4 zi_284_36 rfl (fun _ => ?_) (fun c => absurd (nI_lt (by omega) (by omega)) c)
    exact h b u
  | succ f ih =>
    intro a b u ha hb hg h
    simp only [gb] at hg
    simp only [gf] at h
    by_cases hbn : b ≤ n
    · rw [if_pos hbn] at h
      refine r_il5 zi_284_33 rfl ?_
      refine r_il2 zi_284_35 rfl ?_
      refine r_ic4 zi_284_36 rfl (fun c => absurd c (nI_nlt (by omega) (by omega))) (fun _ => ?_)
      refine r_il4 zi_284_39 rfl ?_
      refine r_il5 zi_284_41 rfl ?_
      refine r_b0 zi_284_43 rfl ?_
      rw [show (nI a + nI b : Int32) = nI (a + b) from nI_add _ _]
      refine r_is6 zi_284_44 rfl ?_
      refine r_il5 zi_284_46 rfl ?_
      refine r_is4 zi_284_48 rfl ?_
      refine r_il6 zi_284_50 rfl ?_
      refine r_is5 zi_284_52 rfl ?_
      refine r_goto zi_284_54 rfl ?_
      exact ih b (a + b) _ (by omega) (by omega) hg h
    · rw [if_neg hbn] at h
      refine r_il5 zi_284_33 rfl ?_
      refine r_il2 zi_284_35 rfl ?_
      refine r_ic4 zi_284_36 rfl (fun _ => ?_) (fun c => absurd (nI_lt (by omega) (by omega)) c)
      exact h b u
theorem l_mg2 {d : Nat} {σ : zS} {Q : Int32 → zS → Prop} {v1 : Nat} (hv : v1 ≤ 100000) : ∀ (f n l : Nat) (u4 u5 u6 : Value), n < 2 ^ f → n ≤ 100000 → (h : Q (ga v1 (gt f n l)) σ) →
    zk d 284 23 [.ref 195, .int (nI v1), .int (nI n), .int (nI l), u4, u5, u6] [] σ (fun r t => ∃ v, r = some v ∧ Q v t) := by
  intro f
  induction f with
  | zero =>
    intro n l u4 u5 u6 hf hn h
    have : n = 0 := by omega
    subst this
    simp only [gt] at h
    refine r_il2 zi_284_23 rfl ?_
    refine r_if5 zi_284_24 rfl (fun _ => ?_) (fun c => absurd (by decide) c)
    refine r_il3 zi_284_68 rfl ?_
    refine r_il1 zi_284_69 rfl ?_
    refine r_ic1 zi_284_70 rfl (fun c1 => ?_) (fun c1 => ?_)
    · refine r_il3 zi_284_77 rfl ?_
      refine r_retI zi_284_78 rfl ?_
      exact ⟨_, rfl, by grind [ga]⟩
    · refine r_push zi_284_73 rfl ?_
      refine r_goto zi_284_74 rfl ?_
      refine r_retI zi_284_78 rfl ?_
      exact ⟨_, rfl, by grind [ga]⟩
  | succ f ih =>
    intro n l u4 u5 u6 hf hn h
    simp only [gt] at h
    by_cases h0 : n = 0
    · subst h0
      rw [if_pos rfl] at h
      refine r_il2 zi_284_23 rfl ?_
      refine r_if5 zi_284_24 rfl (fun _ => ?_) (fun c => absurd (by decide) c)
      refine r_il3 zi_284_68 rfl ?_
      refine r_il1 zi_284_69 rfl ?_
      refine r_ic1 zi_284_70 rfl (fun c1 => ?_) (fun c1 => ?_)
      · refine r_il3 zi_284_77 rfl ?_
        refine r_retI zi_284_78 rfl ?_
        exact ⟨_, rfl, by grind [ga]⟩
      · refine r_push zi_284_73 rfl ?_
        refine r_goto zi_284_74 rfl ?_
        refine r_retI zi_284_78 rfl ?_
        exact ⟨_, rfl, by grind [ga]⟩
    · rw [if_neg h0] at h
      have hh := gf_half 39 1 2 n (by omega) (by omega) (Nat.lt_of_le_of_lt hn (by decide +kernel))
      have hl := gf_le 39 1 2 n (by omega)
      rw [Nat.pow_succ] at hf
      refine r_il2 zi_284_23 rfl ?_
      refine r_if5 zi_284_24 rfl (fun c => absurd c (nI_nle (by omega) (by omega))) (fun _ => ?_)
      refine r_push zi_284_27 rfl ?_
      refine r_is4 zi_284_28 rfl ?_
      refine r_push zi_284_30 rfl ?_
      refine r_is5 zi_284_31 rfl ?_
      refine l_mg1 hn 39 1 2 _ (by omega) (by omega) (Nat.lt_of_le_of_lt hn (by decide +kernel)) (fun b2 u2 => ?_)
      generalize hg : gf 39 1 2 n = g at *
      show zk _ _ 57 _ _ _ _
      refine r_il4 zi_284_57 rfl ?_
      refine r_is3 zi_284_59 rfl ?_
      refine r_il2 zi_284_60 rfl ?_
      refine r_il4 zi_284_61 rfl ?_
      refine r_b1 zi_284_63 rfl ?_
      rw [show (nI n - nI g : Int32) = nI (n - g) from pk_sub hl]
      refine r_is2 zi_284_64 rfl ?_
      refine r_goto zi_284_65 rfl ?_
      exact ih (n - g) g _ _ _ (by omega) (by omega) h
theorem s_mgame {d : Nat} {σ : zS} {Q : Int32 → zS → Prop} {v : Int32} (h1 : ∀ n, 1 ≤ n → n ≤ 100000 → v = nI n → Q (ga n (gt 17 n 0)) (up σ 195 0 0)) (h0 : ¬ (1 ≤ v ∧ v ≤ 100000) → Q (-1) (up σ 195 0 0)) : zI1 (d + 1) 284 [.ref 195, .int v] σ Q := by
  show zk _ _ 0 [.ref 195, .int v, zun, zun, zun, zun, zun] [] _ _
  refine r_al0 zi_284_0 rfl ?_
  refine r_push zi_284_1 rfl ?_
  refine q_put zi_284_2 rfl cf_195_0 rfl ?_
  refine r_al0 zi_284_5 rfl ?_
  refine r_il1 zi_284_6 rfl ?_
  refine r_push zi_284_7 rfl ?_
  refine r_push zi_284_8 rfl ?_
  refine q_cIV zi_284_11 rfl rfl rfl rfl rfl rfl rfl cf_195_0.ob (s_isIn (fun i1 a1 => ?_) (fun i1 => ?_))
  · show zk _ _ 14 _ _ _ _
    refine r_if1 zi_284_14 rfl (fun _ => ?_) (fun c => absurd c (by decide))
    obtain ⟨n, hn, rfl⟩ := zI_ofle (v := v) (n := 100000) (by grind) a1 (by omega)
    have hn1 : 1 ≤ n := by
      rcases Nat.eq_zero_or_pos n with rfl | hp
      · exact absurd i1 (by decide)
      · exact hp
    refine r_il1 zi_284_19 rfl ?_
    refine r_is2 zi_284_20 rfl ?_
    refine r_push zi_284_21 rfl ?_
    refine r_is3 zi_284_22 rfl ?_
    exact l_mg2 (v1 := n) hn 17 n 0 _ _ _ (by omega) hn (h1 n hn1 hn rfl)
  · show zk _ _ 14 _ _ _ _
    refine r_if1 zi_284_14 rfl (fun c => absurd (by decide) c) (fun _ => ?_)
    refine r_push zi_284_17 rfl ?_
    refine r_retI zi_284_18 rfl ?_
    exact ⟨_, rfl, h0 (by grind)⟩

