/-! LIGHTS, of the reference -/
theorem l_ml1 {d : Nat} {σ : zS} {Q : Option Int32 → zS → Prop} {r n v : Int32} : ∀ (m k : Nat), k + m = 256 → (h : ∀ u, zk d 283 103 [.ref 195, .int r, .int n, .int 1, .int v, u] [] (fil σ 236 256 (fun _ => 0)) Q) → zk d 283 81 [.ref 195, .int r, .int n, .int 1, .int v, .int (nI k)] [] (fil σ 236 k (fun _ => 0)) Q := by
  intro m
  induction m with
  | zero =>
    intro k hk h
    have hk2 : k = 256 := by omega
    subst hk2
    refine r_il5 zi_283_81 rfl ?_
    refine r_push zi_283_83 rfl ?_
    refine r_ic3 zi_283_86 rfl (fun _ => ?_) (fun c => absurd (nI_le (a := 256) (by omega) (by omega)) c)
    exact h _
  | succ m ih =>
    intro k hk h
    refine r_il5 zi_283_81 rfl ?_
    refine r_push zi_283_83 rfl ?_
    refine r_ic3 zi_283_86 rfl (fun c => absurd c (nI_ge (b := 256) (by omega) (by omega))) (fun _ => ?_)
    refine r_al0 zi_283_89 rfl ?_
    refine q_getR zi_283_90 rfl cf_195_65 ?_
    refine r_il5 zi_283_93 rfl ?_
    refine r_push zi_283_95 rfl ?_
    refine r_ast zi_283_96 rfl k ca_236 (by first | rfl | (simp only [zI_add, zI_mul] <;> rfl)) (by first | omega | decide) ?_
    refine r_in5 zi_283_97 rfl ?_
    rw [show (nI k + 1 : Int32) = nI (k + 1) from nI_add _ _]
    refine r_goto zi_283_100 rfl ?_
    rw [show (0 : Int32) = (fun _ => 0 : Nat → Int32) k from rfl, fil_s]
    exact ih (k + 1) (by omega) h
theorem l_ml2 {d : Nat} {σ : zS} {Q : Int32 → zS → Prop} {r n : Int32} {k : Nat} (hk : k < 256) : ∀ (m t : Nat) (τ : zS), t + m = 6 → Fr [236] σ τ → (∀ j, j < 256 → (τ 236 j = 0 ↔ ∀ s, s < t → ¬ lni s (nI k) = nI j)) → (h : ∀ τ, Fr [236] σ τ → Q (nI (lfst (nI k) (m + 1) t)) τ) → zk (d + 1) 283 106 [.ref 195, .int r, .int n, .int 1, .int (lni t (nI k)), .int (nI t)] [] τ (fun r t => ∃ v, r = some v ∧ Q v t) := by
  intro m
  induction m with
  | zero =>
    intro t τ ht hF hm h
    obtain ⟨j, hj, ej⟩ := lni_in t hk
    have hr : lrep (nI k) t = true := by rw [show t = 6 by omega]; exact lrep6 k hk
    have h2 := h τ hF
    rw [lfst, if_pos hr] at h2
    have hne : ¬ τ 236 j = 0 := fun e => by
      simp only [lrep, List.any_eq_true, List.mem_range, decide_eq_true_eq] at hr
      obtain ⟨s, hs, e2⟩ := hr
      exact (hm j hj).mp e s hs (e2.trans ej)
    rw [ej]
    refine r_al0 zi_283_106 rfl ?_
    refine q_getR zi_283_107 rfl cf_195_65 ?_
    refine r_il4 zi_283_110 rfl ?_
    refine r_ald zi_283_112 rfl j ca_236 (by first | rfl | (simp only [zI_add, zI_mul] <;> rfl)) (by first | omega | decide) ?_
    refine r_if1 zi_283_113 rfl (fun _ => ?_) (fun c => absurd c hne)
    refine r_il5 zi_283_141 rfl ?_
    refine r_retI zi_283_143 rfl ?_
    exact ⟨_, rfl, h2⟩
  | succ m ih =>
    intro t τ ht hF hm h
    obtain ⟨j, hj, ej⟩ := lni_in t hk
    by_cases hr : lrep (nI k) t = true
    · have h2 := h τ hF
      rw [lfst, if_pos hr] at h2
      have hne : ¬ τ 236 j = 0 := fun e => by
        simp only [lrep, List.any_eq_true, List.mem_range, decide_eq_true_eq] at hr
        obtain ⟨s, hs, e2⟩ := hr
        exact (hm j hj).mp e s hs (e2.trans ej)
      rw [ej]
      refine r_al0 zi_283_106 rfl ?_
      refine q_getR zi_283_107 rfl cf_195_65 ?_
      refine r_il4 zi_283_110 rfl ?_
      refine r_ald zi_283_112 rfl j ca_236 (by first | rfl | (simp only [zI_add, zI_mul] <;> rfl)) (by first | omega | decide) ?_
      refine r_if1 zi_283_113 rfl (fun _ => ?_) (fun c => absurd c hne)
      refine r_il5 zi_283_141 rfl ?_
      refine r_retI zi_283_143 rfl ?_
      exact ⟨_, rfl, h2⟩
    · have h3 : ∀ τ, Fr [236] σ τ → Q (nI (lfst (nI k) (m + 1) (t + 1))) τ := fun τ hτ => by
        have h4 := h τ hτ
        rw [lfst, if_neg hr] at h4
        exact h4
      have he : τ 236 j = 0 := (hm j hj).mpr (fun s hs e2 => hr (by
        simp only [lrep, List.any_eq_true, List.mem_range, decide_eq_true_eq]
        exact ⟨s, hs, e2.trans ej.symm⟩))
      have hm2 : ∀ i, i < 256 → (up τ 236 j 1 236 i = 0 ↔ ∀ s, s < t + 1 → ¬ lni s (nI k) = nI i) := by
        intro i hi
        by_cases hij : i = j
        · subst hij
          rw [zup_eq]
          exact ⟨fun z => absurd z (by decide), fun z => absurd ej (z t (by omega))⟩
        · rw [zup_nj hij, hm i hi]
          constructor
          · intro z s hs
            rcases Nat.lt_or_ge s t with q | q
            · exact z s q
            · rw [show s = t by omega, ej]
              exact fun e => hij ((nI_eq (by omega) (by omega)).mp e).symm
          · intro z s hs
            exact z s (by omega)
      rw [ej]
      refine r_al0 zi_283_106 rfl ?_
      refine q_getR zi_283_107 rfl cf_195_65 ?_
      refine r_il4 zi_283_110 rfl ?_
      refine r_ald zi_283_112 rfl j ca_236 (by first | rfl | (simp only [zI_add, zI_mul] <;> rfl)) (by first | omega | decide) ?_
      refine r_if1 zi_283_113 rfl (fun c => absurd he c) (fun _ => ?_)
      refine r_al0 zi_283_116 rfl ?_
      refine q_getR zi_283_117 rfl cf_195_65 ?_
      refine r_il4 zi_283_120 rfl ?_
      refine r_push zi_283_122 rfl ?_
      refine r_ast zi_283_123 rfl j ca_236 (by first | rfl | (simp only [zI_add, zI_mul] <;> rfl)) (by first | omega | decide) ?_
      refine r_al0 zi_283_124 rfl ?_
      refine r_il4 zi_283_125 rfl ?_
      refine q_cIV zi_283_127 rfl rfl rfl rfl rfl rfl rfl cf_195_0.ob (s_mln ?_)
      show zk _ _ 130 _ _ _ _
      refine r_is4 zi_283_130 rfl ?_
      refine r_il5 zi_283_132 rfl ?_
      refine r_push zi_283_134 rfl ?_
      refine r_b0 zi_283_135 rfl ?_
      rw [show (nI t + 1 : Int32) = nI (t + 1) from nI_add _ _]
      refine r_is5 zi_283_136 rfl ?_
      refine r_goto zi_283_138 rfl ?_
      rw [← ej, ← lni_s]
      exact ih (t + 1) _ (by omega) (hF.put (by decide)) hm2 h3
theorem s_mlights {d : Nat} {σ : zS} {Q : Int32 → zS → Prop} {r n w : Int32} (h1 : ∀ k, k < 256 → r = nI k → w = 1 → ∀ τ, Fr [236] (up σ 195 0 0) τ → Q (nI (lfst (nI k) 7 0)) τ) (h2 : ∀ m, 0 ≤ r → r ≤ 255 → w = 0 → m ≤ 100000 → n = nI m → Q (lni m r) (up σ 195 0 0)) (h0 : ¬ (0 ≤ r ∧ r ≤ 255 ∧ (w = 1 ∨ (w = 0 ∧ 0 ≤ n ∧ n ≤ 100000))) → Q (-1) (up σ 195 0 0)) : zI1 (d + 1) 283 [.ref 195, .int r, .int n, .int w] σ Q := by
  show zk _ _ 0 [.ref 195, .int r, .int n, .int w, zun, zun] [] _ _
  have key : ∀ u4 u5, 0 ≤ r → r ≤ 255 → (w = 1 ∨ (w = 0 ∧ 0 ≤ n ∧ n ≤ 100000)) → zk (d + 1) 283 45 [.ref 195, .int r, .int n, .int w, u4, u5] [] (up σ 195 0 0) (fun r t => ∃ v, r = some v ∧ Q v t) := by
    intro u4 u5 hr1 hr2 hw
    obtain ⟨k, hk, rfl⟩ := zI_ofle (v := r) (n := 255) hr1 hr2 (by omega)
    rcases hw with rfl | ⟨rfl, hn1, hn2⟩
    · refine r_il1 zi_283_45 rfl ?_
      refine r_is4 zi_283_46 rfl ?_
      refine r_il3 zi_283_48 rfl ?_
      refine r_if1 zi_283_49 rfl (fun _ => ?_) (fun c => absurd c (by decide))
      refine r_push zi_283_78 rfl ?_
      refine r_is5 zi_283_79 rfl ?_
      rw [← fil_0 (up σ 195 0 0) 236 (fun _ => 0)]
      refine l_ml1 256 0 rfl (fun u => ?_)
      show zk _ _ 103 _ _ _ _
      refine r_push zi_283_103 rfl ?_
      refine r_is5 zi_283_104 rfl ?_
      refine l_ml2 (by omega) 6 0 _ rfl ((Fr.rf).fil (by decide)) (fun j hj => ⟨fun _ s hs => absurd hs (by omega), fun _ => ?_⟩) (fun τ hτ => h1 k (by omega) rfl rfl τ hτ)
      show (if 236 = 236 ∧ j < 256 then (0 : Int32) else _) = 0
      rw [if_pos ⟨rfl, hj⟩]
    · obtain ⟨m, hm, rfl⟩ := zI_ofle (v := n) (n := 100000) hn1 hn2 (by omega)
      refine r_il1 zi_283_45 rfl ?_
      refine r_is4 zi_283_46 rfl ?_
      refine r_il3 zi_283_48 rfl ?_
      refine r_if1 zi_283_49 rfl (fun c => absurd (by decide) c) (fun _ => ?_)
      refine r_push zi_283_52 rfl ?_
      refine r_is5 zi_283_53 rfl ?_
      exact l_ml0 hm m 0 _ (by omega) (h2 m hr1 hr2 rfl hm rfl)
  refine r_al0 zi_283_0 rfl ?_
  refine r_push zi_283_1 rfl ?_
  refine q_put zi_283_2 rfl cf_195_0 rfl ?_
  refine r_al0 zi_283_5 rfl ?_
  refine r_il1 zi_283_6 rfl ?_
  refine r_push zi_283_7 rfl ?_
  refine r_push zi_283_8 rfl ?_
  refine q_cIV zi_283_11 rfl rfl rfl rfl rfl rfl rfl cf_195_0.ob (s_isIn (fun i1 a1 => ?_) (fun i1 => ?_))
  · show zk _ _ 14 _ _ _ _
    refine r_if0 zi_283_14 rfl (fun c => absurd c (by decide)) (fun _ => ?_)
    refine r_al0 zi_283_17 rfl ?_
    refine r_il3 zi_283_18 rfl ?_
    refine r_push zi_283_19 rfl ?_
    refine r_push zi_283_20 rfl ?_
    refine q_cIV zi_283_21 rfl rfl rfl rfl rfl rfl rfl cf_195_0.ob (s_isIn (fun i2 a2 => ?_) (fun i2 => ?_))
    · show zk _ _ 24 _ _ _ _
      refine r_if0 zi_283_24 rfl (fun c => absurd c (by decide)) (fun _ => ?_)
      refine r_il3 zi_283_27 rfl ?_
      refine r_if1 zi_283_28 rfl (fun c3 => ?_) (fun c3 => ?_)
      · exact key _ _ (by assumption) (by assumption) (by grind)
      · refine r_al0 zi_283_31 rfl ?_
        refine r_il2 zi_283_32 rfl ?_
        refine r_push zi_283_33 rfl ?_
        refine r_push zi_283_34 rfl ?_
        refine q_cIV zi_283_37 rfl rfl rfl rfl rfl rfl rfl cf_195_0.ob (s_isIn (fun i4 a4 => ?_) (fun i4 => ?_))
        · show zk _ _ 40 _ _ _ _
          refine r_if1 zi_283_40 rfl (fun _ => ?_) (fun c => absurd c (by decide))
          exact key _ _ (by assumption) (by assumption) (by grind)
        · show zk _ _ 40 _ _ _ _
          refine r_if1 zi_283_40 rfl (fun c => absurd (by decide) c) (fun _ => ?_)
          refine r_push zi_283_43 rfl ?_
          refine r_retI zi_283_44 rfl ?_
          exact ⟨_, rfl, h0 (by grind)⟩
    · show zk _ _ 24 _ _ _ _
      refine r_if0 zi_283_24 rfl (fun _ => ?_) (fun c => absurd (by decide) c)
      refine r_push zi_283_43 rfl ?_
      refine r_retI zi_283_44 rfl ?_
      exact ⟨_, rfl, h0 (by grind)⟩
  · show zk _ _ 14 _ _ _ _
    refine r_if0 zi_283_14 rfl (fun _ => ?_) (fun c => absurd (by decide) c)
    refine r_push zi_283_43 rfl ?_
    refine r_retI zi_283_44 rfl ?_
    exact ⟨_, rfl, h0 (by grind)⟩

