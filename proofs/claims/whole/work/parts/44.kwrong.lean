/-! CLASS: wrong -/
theorem l_kys {d c t : Nat} {σ : zS} {R : Option Int32 → zS → Prop} {was n a r f : Int32} {u9 : Value} (hc : σ 30 1 = nI c) (hc8 : c ≤ 8) (h : zk (d + 1) 74 64 [.ref 30, .int was, .int n, .int a, .int r, .int f, .int (nI t), .int (zys (σ 31) c t), .int (nI c), u9] [] σ R) : ∀ (m k : Nat) (y : Int32), k + m = c → y = zset (fun k => zbt (σ 31 k) t) k → zk (d + 1) 74 30 [.ref 30, .int was, .int n, .int a, .int r, .int f, .int (nI t), .int y, .int (nI k), u9] [] σ R := by
  intro m
  induction m with
  | zero =>
    intro k y hk hy
    refine r_il8 zi_74_30 rfl ?_
    refine r_al0 zi_74_32 rfl ?_
    refine q_getI zi_74_33 rfl cf_30_1 ?_
    rw [hc]
    refine r_ic3 zi_74_36 rfl (fun _ => ?_) (fun c => absurd (nI_le (by omega) (by omega)) c)
    have e : k = c := by omega
    subst e
    rw [hy]; exact h
  | succ m ih =>
    intro k y hk hy
    refine r_il8 zi_74_30 rfl ?_
    refine r_al0 zi_74_32 rfl ?_
    refine q_getI zi_74_33 rfl cf_30_1 ?_
    rw [hc]
    refine r_ic3 zi_74_36 rfl (fun c => absurd c (nI_ge (by omega) (by omega))) (fun _ => ?_)
    refine r_il7 zi_74_39 rfl ?_
    refine r_al0 zi_74_41 rfl ?_
    refine r_il8 zi_74_42 rfl ?_
    refine q_cIV zi_74_44 rfl rfl rfl rfl rfl rfl rfl cf_30_0.ob (s_trow zTo30 (by omega) hc hc8 (i := k) (by omega) ?_)
    show zk _ _ 47 _ _ _ _
    refine r_il6 zi_74_47 rfl ?_
    refine r_b7 zi_74_49 rfl ?_
    refine r_push zi_74_50 rfl ?_
    refine r_b3 zi_74_51 rfl ?_
    refine r_il8 zi_74_52 rfl ?_
    refine r_b6 zi_74_54 rfl ?_
    refine r_b4 zi_74_55 rfl ?_
    refine r_is7 zi_74_56 rfl ?_
    refine r_in8 zi_74_58 rfl ?_
    rw [show (nI k + 1 : Int32) = nI (k + 1) from nI_add _ _]
    refine r_goto zi_74_61 rfl ?_
    exact ih (k + 1) _ (by omega) (by rw [hy]; exact zbor)
theorem l_kfo {d c n : Nat} {σ : zS} {Q : Int32 → zS → Prop} {was a : Int32} (hc : σ 30 1 = nI c) (hc8 : c ≤ 8) (hn : n ≤ 10) : ∀ (m t : Nat) (r : Int32) (f : Nat) (u7 u8 u9 : Value), t + m = n → Q (nI (zfo (σ 31) c was a m t r f)) σ → zk (d + 1) 74 18 [.ref 30, .int was, .int (nI n), .int a, .int r, .int (nI f), .int (nI t), u7, u8, u9] [] σ (fun r t => ∃ v, r = some v ∧ Q v t) := by
  intro m
  induction m with
  | zero =>
    intro t r f u7 u8 u9 ht h
    refine r_il6 zi_74_18 rfl ?_
    refine r_il2 zi_74_20 rfl ?_
    refine r_ic3 zi_74_21 rfl (fun _ => ?_) (fun c => absurd (nI_le (by omega) (by omega)) c)
    refine r_il5 zi_74_161 rfl ?_
    refine r_retI zi_74_163 rfl ?_
    exact ⟨_, rfl, h⟩
  | succ m ih =>
    intro t r f u7 u8 u9 ht h
    have hz := zdbl (zpop_le (zys (σ 31) c t &&& r)) (zpop_le r)
    by_cases hs : was >>> (nI t &&& 31) &&& 1 = 1
    · by_cases hg : zpop r < 2 * zpop (zys (σ 31) c t &&& r)
      · obtain ⟨h1, h2⟩ := zfo_s (Q := Q) (σ := σ) (decide_eq_true hs) (decide_eq_true hg) (q := r &&& zys (σ 31) c t) rfl h
        refine r_il6 zi_74_18 rfl ?_
        refine r_il2 zi_74_20 rfl ?_
        refine r_ic3 zi_74_21 rfl (fun c => absurd c (nI_ge (by omega) (by omega))) (fun _ => ?_)
        refine r_push zi_74_24 rfl ?_
        refine r_is7 zi_74_25 rfl ?_
        refine r_push zi_74_27 rfl ?_
        refine r_is8 zi_74_28 rfl ?_
        refine l_kys hc hc8 ?_ c 0 0 (by omega) rfl
        show zk _ _ 64 _ _ _ _
        refine r_push zi_74_64 rfl ?_
        refine r_il7 zi_74_65 rfl ?_
        refine r_il4 zi_74_67 rfl ?_
        refine r_b3 zi_74_69 rfl ?_
        refine r_cIS zi_74_70 rfl rfl rfl rfl rfl rfl (s_bits ?_)
        show zk _ _ 73 _ _ _ _
        refine r_b2 zi_74_73 rfl ?_
        refine r_il4 zi_74_74 rfl ?_
        refine r_cIS zi_74_76 rfl rfl rfl rfl rfl rfl (s_bits ?_)
        show zk _ _ 79 _ _ _ _
        refine r_ic5 zi_74_79 rfl (fun c => absurd c (fun z => hz.mp z hg)) (fun _ => ?_)
        refine r_push zi_74_82 rfl ?_
        refine r_goto zi_74_83 rfl ?_
        refine r_is8 zi_74_87 rfl ?_
        refine r_il1 zi_74_89 rfl ?_
        refine r_il6 zi_74_90 rfl ?_
        refine r_b7 zi_74_92 rfl ?_
        refine r_push zi_74_93 rfl ?_
        refine r_b3 zi_74_94 rfl ?_
        refine r_push zi_74_95 rfl ?_
        refine r_ic1 zi_74_96 rfl (fun c => absurd hs c) (fun _ => ?_)
        refine r_push zi_74_99 rfl ?_
        refine r_goto zi_74_100 rfl ?_
        refine r_is9 zi_74_104 rfl ?_
        refine r_il5 zi_74_106 rfl ?_
        refine r_il8 zi_74_108 rfl ?_
        refine r_il9 zi_74_110 rfl ?_
        refine r_ic1 zi_74_112 rfl (fun c => absurd (by decide) c) (fun _ => ?_)
        refine r_push zi_74_115 rfl ?_
        refine r_goto zi_74_116 rfl ?_
        refine r_b0 zi_74_120 rfl ?_
        rw [show (nI f + 0 : Int32) = nI (f + 0) from nI_add _ _]
        refine r_is5 zi_74_121 rfl ?_
        refine r_il4 zi_74_123 rfl ?_
        refine r_il9 zi_74_125 rfl ?_
        refine r_if0 zi_74_127 rfl (fun c => absurd c (by decide)) (fun _ => ?_)
        refine r_il7 zi_74_130 rfl ?_
        refine r_goto zi_74_132 rfl ?_
        refine r_b3 zi_74_139 rfl ?_
        refine r_is4 zi_74_140 rfl ?_
        refine r_il4 zi_74_142 rfl ?_
        refine r_if1 zi_74_144 rfl (fun c3 => ?_) (fun c3 => ?_)
        · refine r_il4 zi_74_151 rfl ?_
          refine r_is4 zi_74_153 rfl ?_
          refine r_in6 zi_74_155 rfl ?_
          rw [show (nI t + 1 : Int32) = nI (t + 1) from nI_add _ _]
          refine r_goto zi_74_158 rfl ?_
          first | exact ih (t + 1) _ _ _ _ _ (by omega) (h1 (by assumption)) | exact ih (t + 1) _ _ _ _ _ (by omega) (h2 (by assumption))
        · refine r_il3 zi_74_147 rfl ?_
          refine r_goto zi_74_148 rfl ?_
          refine r_is4 zi_74_153 rfl ?_
          refine r_in6 zi_74_155 rfl ?_
          rw [show (nI t + 1 : Int32) = nI (t + 1) from nI_add _ _]
          refine r_goto zi_74_158 rfl ?_
          first | exact ih (t + 1) _ _ _ _ _ (by omega) (h1 (by assumption)) | exact ih (t + 1) _ _ _ _ _ (by omega) (h2 (by assumption))
      · obtain ⟨h1, h2⟩ := zfo_s (Q := Q) (σ := σ) (decide_eq_true hs) (decide_eq_false hg) (q := r &&& zys (σ 31) c t) rfl h
        refine r_il6 zi_74_18 rfl ?_
        refine r_il2 zi_74_20 rfl ?_
        refine r_ic3 zi_74_21 rfl (fun c => absurd c (nI_ge (by omega) (by omega))) (fun _ => ?_)
        refine r_push zi_74_24 rfl ?_
        refine r_is7 zi_74_25 rfl ?_
        refine r_push zi_74_27 rfl ?_
        refine r_is8 zi_74_28 rfl ?_
        refine l_kys hc hc8 ?_ c 0 0 (by omega) rfl
        show zk _ _ 64 _ _ _ _
        refine r_push zi_74_64 rfl ?_
        refine r_il7 zi_74_65 rfl ?_
        refine r_il4 zi_74_67 rfl ?_
        refine r_b3 zi_74_69 rfl ?_
        refine r_cIS zi_74_70 rfl rfl rfl rfl rfl rfl (s_bits ?_)
        show zk _ _ 73 _ _ _ _
        refine r_b2 zi_74_73 rfl ?_
        refine r_il4 zi_74_74 rfl ?_
        refine r_cIS zi_74_76 rfl rfl rfl rfl rfl rfl (s_bits ?_)
        show zk _ _ 79 _ _ _ _
        refine r_ic5 zi_74_79 rfl (fun _ => ?_) (fun c => absurd (hz.mpr hg) c)
        refine r_push zi_74_86 rfl ?_
        refine r_is8 zi_74_87 rfl ?_
        refine r_il1 zi_74_89 rfl ?_
        refine r_il6 zi_74_90 rfl ?_
        refine r_b7 zi_74_92 rfl ?_
        refine r_push zi_74_93 rfl ?_
        refine r_b3 zi_74_94 rfl ?_
        refine r_push zi_74_95 rfl ?_
        refine r_ic1 zi_74_96 rfl (fun c => absurd hs c) (fun _ => ?_)
        refine r_push zi_74_99 rfl ?_
        refine r_goto zi_74_100 rfl ?_
        refine r_is9 zi_74_104 rfl ?_
        refine r_il5 zi_74_106 rfl ?_
        refine r_il8 zi_74_108 rfl ?_
        refine r_il9 zi_74_110 rfl ?_
        refine r_ic1 zi_74_112 rfl (fun _ => ?_) (fun c => absurd c (by decide))
        refine r_push zi_74_119 rfl ?_
        refine r_b0 zi_74_120 rfl ?_
        rw [show (nI f + 1 : Int32) = nI (f + 1) from nI_add _ _]
        refine r_is5 zi_74_121 rfl ?_
        refine r_il4 zi_74_123 rfl ?_
        refine r_il9 zi_74_125 rfl ?_
        refine r_if0 zi_74_127 rfl (fun c => absurd c (by decide)) (fun _ => ?_)
        refine r_il7 zi_74_130 rfl ?_
        refine r_goto zi_74_132 rfl ?_
        refine r_b3 zi_74_139 rfl ?_
        refine r_is4 zi_74_140 rfl ?_
        refine r_il4 zi_74_142 rfl ?_
        refine r_if1 zi_74_144 rfl (fun c3 => ?_) (fun c3 => ?_)
        · refine r_il4 zi_74_151 rfl ?_
          refine r_is4 zi_74_153 rfl ?_
          refine r_in6 zi_74_155 rfl ?_
          rw [show (nI t + 1 : Int32) = nI (t + 1) from nI_add _ _]
          refine r_goto zi_74_158 rfl ?_
          first | exact ih (t + 1) _ _ _ _ _ (by omega) (h1 (by assumption)) | exact ih (t + 1) _ _ _ _ _ (by omega) (h2 (by assumption))
        · refine r_il3 zi_74_147 rfl ?_
          refine r_goto zi_74_148 rfl ?_
          refine r_is4 zi_74_153 rfl ?_
          refine r_in6 zi_74_155 rfl ?_
          rw [show (nI t + 1 : Int32) = nI (t + 1) from nI_add _ _]
          refine r_goto zi_74_158 rfl ?_
          first | exact ih (t + 1) _ _ _ _ _ (by omega) (h1 (by assumption)) | exact ih (t + 1) _ _ _ _ _ (by omega) (h2 (by assumption))
    · by_cases hg : zpop r < 2 * zpop (zys (σ 31) c t &&& r)
      · obtain ⟨h1, h2⟩ := zfo_s (Q := Q) (σ := σ) (decide_eq_false hs) (decide_eq_true hg) (q := r &&& (zys (σ 31) c t ^^^ -1)) rfl h
        refine r_il6 zi_74_18 rfl ?_
        refine r_il2 zi_74_20 rfl ?_
        refine r_ic3 zi_74_21 rfl (fun c => absurd c (nI_ge (by omega) (by omega))) (fun _ => ?_)
        refine r_push zi_74_24 rfl ?_
        refine r_is7 zi_74_25 rfl ?_
        refine r_push zi_74_27 rfl ?_
        refine r_is8 zi_74_28 rfl ?_
        refine l_kys hc hc8 ?_ c 0 0 (by omega) rfl
        show zk _ _ 64 _ _ _ _
        refine r_push zi_74_64 rfl ?_
        refine r_il7 zi_74_65 rfl ?_
        refine r_il4 zi_74_67 rfl ?_
        refine r_b3 zi_74_69 rfl ?_
        refine r_cIS zi_74_70 rfl rfl rfl rfl rfl rfl (s_bits ?_)
        show zk _ _ 73 _ _ _ _
        refine r_b2 zi_74_73 rfl ?_
        refine r_il4 zi_74_74 rfl ?_
        refine r_cIS zi_74_76 rfl rfl rfl rfl rfl rfl (s_bits ?_)
        show zk _ _ 79 _ _ _ _
        refine r_ic5 zi_74_79 rfl (fun c => absurd c (fun z => hz.mp z hg)) (fun _ => ?_)
        refine r_push zi_74_82 rfl ?_
        refine r_goto zi_74_83 rfl ?_
        refine r_is8 zi_74_87 rfl ?_
        refine r_il1 zi_74_89 rfl ?_
        refine r_il6 zi_74_90 rfl ?_
        refine r_b7 zi_74_92 rfl ?_
        refine r_push zi_74_93 rfl ?_
        refine r_b3 zi_74_94 rfl ?_
        refine r_push zi_74_95 rfl ?_
        refine r_ic1 zi_74_96 rfl (fun _ => ?_) (fun c => absurd c hs)
        refine r_push zi_74_103 rfl ?_
        refine r_is9 zi_74_104 rfl ?_
        refine r_il5 zi_74_106 rfl ?_
        refine r_il8 zi_74_108 rfl ?_
        refine r_il9 zi_74_110 rfl ?_
        refine r_ic1 zi_74_112 rfl (fun _ => ?_) (fun c => absurd c (by decide))
        refine r_push zi_74_119 rfl ?_
        refine r_b0 zi_74_120 rfl ?_
        rw [show (nI f + 1 : Int32) = nI (f + 1) from nI_add _ _]
        refine r_is5 zi_74_121 rfl ?_
        refine r_il4 zi_74_123 rfl ?_
        refine r_il9 zi_74_125 rfl ?_
        refine r_if0 zi_74_127 rfl (fun _ => ?_) (fun c => absurd (by decide) c)
        refine r_il7 zi_74_135 rfl ?_
        refine r_push zi_74_137 rfl ?_
        refine r_b5 zi_74_138 rfl ?_
        refine r_b3 zi_74_139 rfl ?_
        refine r_is4 zi_74_140 rfl ?_
        refine r_il4 zi_74_142 rfl ?_
        refine r_if1 zi_74_144 rfl (fun c3 => ?_) (fun c3 => ?_)
        · refine r_il4 zi_74_151 rfl ?_
          refine r_is4 zi_74_153 rfl ?_
          refine r_in6 zi_74_155 rfl ?_
          rw [show (nI t + 1 : Int32) = nI (t + 1) from nI_add _ _]
          refine r_goto zi_74_158 rfl ?_
          first | exact ih (t + 1) _ _ _ _ _ (by omega) (h1 (by assumption)) | exact ih (t + 1) _ _ _ _ _ (by omega) (h2 (by assumption))
        · refine r_il3 zi_74_147 rfl ?_
          refine r_goto zi_74_148 rfl ?_
          refine r_is4 zi_74_153 rfl ?_
          refine r_in6 zi_74_155 rfl ?_
          rw [show (nI t + 1 : Int32) = nI (t + 1) from nI_add _ _]
          refine r_goto zi_74_158 rfl ?_
          first | exact ih (t + 1) _ _ _ _ _ (by omega) (h1 (by assumption)) | exact ih (t + 1) _ _ _ _ _ (by omega) (h2 (by assumption))
      · obtain ⟨h1, h2⟩ := zfo_s (Q := Q) (σ := σ) (decide_eq_false hs) (decide_eq_false hg) (q := r &&& (zys (σ 31) c t ^^^ -1)) rfl h
        refine r_il6 zi_74_18 rfl ?_
        refine r_il2 zi_74_20 rfl ?_
        refine r_ic3 zi_74_21 rfl (fun c => absurd c (nI_ge (by omega) (by omega))) (fun _ => ?_)
        refine r_push zi_74_24 rfl ?_
        refine r_is7 zi_74_25 rfl ?_
        refine r_push zi_74_27 rfl ?_
        refine r_is8 zi_74_28 rfl ?_
        refine l_kys hc hc8 ?_ c 0 0 (by omega) rfl
        show zk _ _ 64 _ _ _ _
        refine r_push zi_74_64 rfl ?_
        refine r_il7 zi_74_65 rfl ?_
        refine r_il4 zi_74_67 rfl ?_
        refine r_b3 zi_74_69 rfl ?_
        refine r_cIS zi_74_70 rfl rfl rfl rfl rfl rfl (s_bits ?_)
        show zk _ _ 73 _ _ _ _
        refine r_b2 zi_74_73 rfl ?_
        refine r_il4 zi_74_74 rfl ?_
        refine r_cIS zi_74_76 rfl rfl rfl rfl rfl rfl (s_bits ?_)
        show zk _ _ 79 _ _ _ _
        refine r_ic5 zi_74_79 rfl (fun _ => ?_) (fun c => absurd (hz.mpr hg) c)
        refine r_push zi_74_86 rfl ?_
        refine r_is8 zi_74_87 rfl ?_
        refine r_il1 zi_74_89 rfl ?_
        refine r_il6 zi_74_90 rfl ?_
        refine r_b7 zi_74_92 rfl ?_
        refine r_push zi_74_93 rfl ?_
        refine r_b3 zi_74_94 rfl ?_
        refine r_push zi_74_95 rfl ?_
        refine r_ic1 zi_74_96 rfl (fun _ => ?_) (fun c => absurd c hs)
        refine r_push zi_74_103 rfl ?_
        refine r_is9 zi_74_104 rfl ?_
        refine r_il5 zi_74_106 rfl ?_
        refine r_il8 zi_74_108 rfl ?_
        refine r_il9 zi_74_110 rfl ?_
        refine r_ic1 zi_74_112 rfl (fun c => absurd (by decide) c) (fun _ => ?_)
        refine r_push zi_74_115 rfl ?_
        refine r_goto zi_74_116 rfl ?_
        refine r_b0 zi_74_120 rfl ?_
        rw [show (nI f + 0 : Int32) = nI (f + 0) from nI_add _ _]
        refine r_is5 zi_74_121 rfl ?_
        refine r_il4 zi_74_123 rfl ?_
        refine r_il9 zi_74_125 rfl ?_
        refine r_if0 zi_74_127 rfl (fun _ => ?_) (fun c => absurd (by decide) c)
        refine r_il7 zi_74_135 rfl ?_
        refine r_push zi_74_137 rfl ?_
        refine r_b5 zi_74_138 rfl ?_
        refine r_b3 zi_74_139 rfl ?_
        refine r_is4 zi_74_140 rfl ?_
        refine r_il4 zi_74_142 rfl ?_
        refine r_if1 zi_74_144 rfl (fun c3 => ?_) (fun c3 => ?_)
        · refine r_il4 zi_74_151 rfl ?_
          refine r_is4 zi_74_153 rfl ?_
          refine r_in6 zi_74_155 rfl ?_
          rw [show (nI t + 1 : Int32) = nI (t + 1) from nI_add _ _]
          refine r_goto zi_74_158 rfl ?_
          first | exact ih (t + 1) _ _ _ _ _ (by omega) (h1 (by assumption)) | exact ih (t + 1) _ _ _ _ _ (by omega) (h2 (by assumption))
        · refine r_il3 zi_74_147 rfl ?_
          refine r_goto zi_74_148 rfl ?_
          refine r_is4 zi_74_153 rfl ?_
          refine r_in6 zi_74_155 rfl ?_
          rw [show (nI t + 1 : Int32) = nI (t + 1) from nI_add _ _]
          refine r_goto zi_74_158 rfl ?_
          first | exact ih (t + 1) _ _ _ _ _ (by omega) (h1 (by assumption)) | exact ih (t + 1) _ _ _ _ _ (by omega) (h2 (by assumption))
theorem s_kfooled {d c n : Nat} {σ : zS} {Q : Int32 → zS → Prop} {was : Int32} (hc : σ 30 1 = nI c) (hc8 : c ≤ 8) (hn : n ≤ 10) (h : Q (nI (zfo (σ 31) c was (zfi c) n 0 (zfi c) 0)) σ) : zI1 (d + 1) 74 [.ref 30, .int was, .int (nI n)] σ Q := by
  show zk _ _ 0 [.ref 30, .int was, .int (nI n), zun, zun, zun, zun, zun, zun, zun] [] _ _
  refine r_push zi_74_0 rfl ?_
  refine r_al0 zi_74_1 rfl ?_
  refine q_getI zi_74_2 rfl cf_30_1 ?_
  rw [hc]
  refine r_b6 zi_74_5 rfl ?_
  refine r_push zi_74_6 rfl ?_
  refine r_b1 zi_74_7 rfl ?_
  refine r_is3 zi_74_8 rfl ?_
  refine r_il3 zi_74_9 rfl ?_
  refine r_is4 zi_74_10 rfl ?_
  refine r_push zi_74_12 rfl ?_
  refine r_is5 zi_74_13 rfl ?_
  refine r_push zi_74_15 rfl ?_
  refine r_is6 zi_74_16 rfl ?_
  exact l_kfo hc hc8 hn n 0 _ 0 _ _ _ (by omega) h
theorem zbs_le {f : Nat → Int32} (hf : ∀ k, ∃ n, n ≤ 32 ∧ f k = nI n) : ∀ k, ∃ n, (k = 0 ∨ n ≤ 32) ∧ n ≤ 100000000 ∧ zbs f k = nI n
  | 0 => ⟨100000000, Or.inl rfl, by omega, rfl⟩
  | k + 1 => by
    obtain ⟨n, hn, hN, e⟩ := zbs_le hf k
    obtain ⟨m, hm, e2⟩ := hf k
    unfold zbs
    rw [e, e2]
    by_cases hlt : n < m
    · rw [if_pos (nI_lt hlt (by omega))]; exact ⟨n, Or.inr (by omega), hN, rfl⟩
    · rw [if_neg (nI_nlt (by omega) (by omega))]; exact ⟨m, Or.inr hm, by omega, rfl⟩
theorem zwf_le (P : Nat → Int32) (was y : Int32) (k : Nat) : ∃ n, n ≤ 32 ∧ zwf P was y k = nI n := ⟨_, zpop_le _, rfl⟩
theorem zbs_s {f : Nat → Int32} (hf : ∀ k, ∃ n, n ≤ 32 ∧ f k = nI n) {k : Nat} {w : Int32} (hw : w = if k = 0 then -1 else zbs f k) : (w = -1 → f k = if k + 1 = 0 then -1 else zbs f (k + 1)) ∧ (¬ w = -1 → (if w < f k then w else f k) = if k + 1 = 0 then -1 else zbs f (k + 1)) := by
  obtain ⟨b, hb1, hb2, hb3⟩ := zbs_le hf k
  obtain ⟨n, hn, e2⟩ := hf k
  rw [if_neg (by omega : ¬ k + 1 = 0)]
  by_cases hk : k = 0
  · subst hk
    rw [if_pos rfl] at hw
    refine ⟨fun _ => ?_, fun z => absurd hw z⟩
    show f 0 = if (100000000 : Int32) < f 0 then _ else f 0
    rw [if_neg (by rw [e2]; exact nI_nlt (a := 100000000) (by omega) (by omega))]
  · rw [if_neg hk] at hw
    refine ⟨fun z => ?_, fun _ => by rw [hw]; rfl⟩
    have := nI_pos (n := b) (by omega)
    rw [hw, hb3] at z
    exact absurd z (by intro z; rw [z] at this; exact absurd this (by decide))
theorem zbs_f {f : Nat → Int32} (hf : ∀ k, ∃ n, n ≤ 32 ∧ f k = nI n) {k : Nat} {w : Int32} (hw : w = if k = 0 then -1 else zbs f k) : (if k = 0 then 0 else zbs f k) = (if 0 < w then w else 0) := by
  obtain ⟨b, hb1, hb2, hb3⟩ := zbs_le hf k
  by_cases hk : k = 0
  · rw [if_pos hk] at hw ⊢; rw [hw]; rfl
  · rw [if_neg hk] at hw ⊢
    rw [hw, hb3]
    have := nI_pos (n := b) (by omega)
    by_cases h0 : 0 < nI b
    · rw [if_pos h0]
    · rw [if_neg h0]; grind
theorem l_kbest {d c : Nat} {σ : zS} {Q : Int32 → zS → Prop} {was y : Int32} (hc : σ 30 1 = nI c) (hc8 : c ≤ 8) (h : Q (if c = 0 then 0 else zbs (zwf (σ 31) was y) c) σ) : ∀ (m k : Nat) (w : Int32) (u5 : Value), k + m = c → w = (if k = 0 then -1 else zbs (zwf (σ 31) was y) k) → zk (d + 1) 73 5 [.ref 30, .int was, .int y, .int w, .int (nI k), u5] [] σ (fun r t => ∃ v, r = some v ∧ Q v t) := by
  intro m
  induction m with
  | zero =>
    intro k w u5 hk hw
    have e : k = c := by omega
    subst e
    have hs := zbs_s (zwf_le (σ 31) was y) hw
    have hf := zbs_f (zwf_le (σ 31) was y) hw
    refine r_il4 zi_73_5 rfl ?_
    refine r_al0 zi_73_7 rfl ?_
    refine q_getI zi_73_8 rfl cf_30_1 ?_
    rw [hc]
    refine r_ic3 zi_73_11 rfl (fun _ => ?_) (fun c => absurd (nI_le (by omega) (by omega)) c)
    refine r_push zi_73_52 rfl ?_
    refine r_il3 zi_73_53 rfl ?_
    refine r_max zi_73_54 rfl ?_
    refine r_retI zi_73_57 rfl ?_
    rw [hf] at h; exact ⟨_, rfl, by grind⟩
  | succ m ih =>
    intro k w u5 hk hw
    have hs := zbs_s (zwf_le (σ 31) was y) hw
    have hf := zbs_f (zwf_le (σ 31) was y) hw
    by_cases hw1 : w = -1
    · refine r_il4 zi_73_5 rfl ?_
      refine r_al0 zi_73_7 rfl ?_
      refine q_getI zi_73_8 rfl cf_30_1 ?_
      rw [hc]
      refine r_ic3 zi_73_11 rfl (fun c => absurd c (nI_ge (by omega) (by omega))) (fun _ => ?_)
      refine r_al0 zi_73_14 rfl ?_
      refine r_il4 zi_73_15 rfl ?_
      refine q_cIV zi_73_17 rfl rfl rfl rfl rfl rfl rfl cf_30_0.ob (s_trow zTo30 (by omega) hc hc8 (i := k) (by omega) ?_)
      show zk _ _ 20 _ _ _ _
      refine r_il1 zi_73_20 rfl ?_
      refine r_b5 zi_73_21 rfl ?_
      refine r_il2 zi_73_22 rfl ?_
      refine r_b3 zi_73_23 rfl ?_
      refine r_cIS zi_73_24 rfl rfl rfl rfl rfl rfl (s_bits ?_)
      show zk _ _ 27 _ _ _ _
      refine r_is5 zi_73_27 rfl ?_
      refine r_il3 zi_73_29 rfl ?_
      refine r_push zi_73_30 rfl ?_
      refine r_ic1 zi_73_31 rfl (fun c => absurd hw1 c) (fun _ => ?_)
      refine r_il5 zi_73_34 rfl ?_
      refine r_goto zi_73_36 rfl ?_
      refine r_is3 zi_73_45 rfl ?_
      refine r_in4 zi_73_46 rfl ?_
      rw [show (nI k + 1 : Int32) = nI (k + 1) from nI_add _ _]
      refine r_goto zi_73_49 rfl ?_
      exact ih (k + 1) _ _ (by omega) (hs.1 hw1)
    · refine r_il4 zi_73_5 rfl ?_
      refine r_al0 zi_73_7 rfl ?_
      refine q_getI zi_73_8 rfl cf_30_1 ?_
      rw [hc]
      refine r_ic3 zi_73_11 rfl (fun c => absurd c (nI_ge (by omega) (by omega))) (fun _ => ?_)
      refine r_al0 zi_73_14 rfl ?_
      refine r_il4 zi_73_15 rfl ?_
      refine q_cIV zi_73_17 rfl rfl rfl rfl rfl rfl rfl cf_30_0.ob (s_trow zTo30 (by omega) hc hc8 (i := k) (by omega) ?_)
      show zk _ _ 20 _ _ _ _
      refine r_il1 zi_73_20 rfl ?_
      refine r_b5 zi_73_21 rfl ?_
      refine r_il2 zi_73_22 rfl ?_
      refine r_b3 zi_73_23 rfl ?_
      refine r_cIS zi_73_24 rfl rfl rfl rfl rfl rfl (s_bits ?_)
      show zk _ _ 27 _ _ _ _
      refine r_is5 zi_73_27 rfl ?_
      refine r_il3 zi_73_29 rfl ?_
      refine r_push zi_73_30 rfl ?_
      refine r_ic1 zi_73_31 rfl (fun _ => ?_) (fun c => absurd c hw1)
      refine r_il3 zi_73_39 rfl ?_
      refine r_il5 zi_73_40 rfl ?_
      refine r_min zi_73_42 rfl ?_
      refine r_is3 zi_73_45 rfl ?_
      refine r_in4 zi_73_46 rfl ?_
      rw [show (nI k + 1 : Int32) = nI (k + 1) from nI_add _ _]
      refine r_goto zi_73_49 rfl ?_
      exact ih (k + 1) _ _ (by omega) (hs.2 hw1)
theorem s_kbest {d c : Nat} {σ : zS} {Q : Int32 → zS → Prop} {was y : Int32} (hc : σ 30 1 = nI c) (hc8 : c ≤ 8) (h : Q (if c = 0 then 0 else zbs (zwf (σ 31) was y) c) σ) : zI1 (d + 1) 73 [.ref 30, .int was, .int y] σ Q := by
  show zk _ _ 0 [.ref 30, .int was, .int y, zun, zun, zun] [] _ _
  refine r_push zi_73_0 rfl ?_
  refine r_is3 zi_73_1 rfl ?_
  refine r_push zi_73_2 rfl ?_
  refine r_is4 zi_73_3 rfl ?_
  exact l_kbest hc hc8 h c 0 _ _ (by omega) rfl
theorem s_kwrong {d c : Nat} {σ : zS} {Q : Int32 → zS → Prop} {was n i : Int32} (hc : σ 30 1 = nI c) (hc8 : c ≤ 8)
    (h0 : ¬ (0 ≤ was ∧ was ≤ 1023 ∧ 0 ≤ n ∧ n ≤ 10 ∧ -2 ≤ i ∧ i < nI c) → Q (-1) σ)
    (h1 : ∀ m, m ≤ 10 → n = nI m → 0 ≤ was → was ≤ 1023 → i = -2 → Q (nI (zfo (σ 31) c was (zfi c) m 0 (zfi c) 0)) σ)
    (h2 : ∀ m, m ≤ 10 → n = nI m → 0 ≤ was → was ≤ 1023 → i = -1 → Q (if c = 0 then 0 else zbs (zwf (σ 31) was (zfi m)) c) σ)
    (h3 : ∀ m, m ≤ 10 → n = nI m → 0 ≤ was → was ≤ 1023 → ∀ j, j < c → i = nI j → Q (zwf (σ 31) was (zfi m) j) σ) : zI1 (d + 2) 141 [.ref 0, .int was, .int n, .int i] σ Q := by
  show zk _ _ 0 [.ref 0, .int was, .int n, .int i, zun] [] _ _
  have hc2 : nI c ≤ 8 := nI_le (a := c) (b := 8) hc8 (by omega)
  have hc3 := nI_pos (n := c) (by omega)
  by_cases hb : 0 ≤ n ∧ n ≤ 10
  · obtain ⟨m, hm, rfl⟩ := zI_ofle (n := 10) hb.1 hb.2 (by omega)
    replace h1 := h1 m hm rfl
    replace h2 := h2 m hm rfl
    replace h3 := h3 m hm rfl
    refine r_il1 zi_141_0 rfl ?_
    refine r_push zi_141_1 rfl ?_
    refine r_push zi_141_2 rfl ?_
    refine r_cIS zi_141_5 rfl rfl rfl rfl rfl rfl (s_within (fun i1 a1 => ?_) (fun i1 => ?_))
    · show zk _ _ 8 _ _ _ _
      refine r_if0 zi_141_8 rfl (fun c => absurd c (by decide)) (fun _ => ?_)
      refine r_il2 zi_141_11 rfl ?_
      refine r_push zi_141_12 rfl ?_
      refine r_push zi_141_13 rfl ?_
      refine r_cIS zi_141_15 rfl rfl rfl rfl rfl rfl (s_within (fun i2 a2 => ?_) (fun i2 => ?_))
      · show zk _ _ 18 _ _ _ _
        refine r_if0 zi_141_18 rfl (fun c => absurd c (by decide)) (fun _ => ?_)
        refine r_il3 zi_141_21 rfl ?_
        refine r_push zi_141_22 rfl ?_
        refine r_ic2 zi_141_24 rfl (fun c3 => ?_) (fun c3 => ?_)
        · refine r_push zi_141_41 rfl ?_
          refine r_retI zi_141_42 rfl ?_
          exact ⟨_, rfl, h0 (by grind)⟩
        · refine r_il3 zi_141_27 rfl ?_
          refine r_al0 zi_141_28 rfl ?_
          refine q_getR zi_141_29 rfl cf_0_0 ?_
          refine q_getR zi_141_32 rfl cf_1_7 ?_
          refine q_getI zi_141_35 rfl cf_30_1 ?_
          rw [hc]
          refine r_ic2 zi_141_38 rfl (fun c4 => ?_) (fun c4 => ?_)
          · refine r_push zi_141_43 rfl ?_
            refine r_il2 zi_141_44 rfl ?_
            refine r_b6 zi_141_45 rfl ?_
            refine r_push zi_141_46 rfl ?_
            refine r_b1 zi_141_47 rfl ?_
            refine r_is4 zi_141_48 rfl ?_
            refine r_il3 zi_141_50 rfl ?_
            refine r_push zi_141_51 rfl ?_
            refine r_ic1 zi_141_52 rfl (fun c5 => ?_) (fun c5 => ?_)
            · refine r_il3 zi_141_69 rfl ?_
              refine r_push zi_141_70 rfl ?_
              refine r_ic3 zi_141_71 rfl (fun c6 => ?_) (fun c6 => ?_)
              · obtain ⟨j, hj, rfl⟩ := zI_of (v := i) (n := c) (by grind) (by grind) (by omega)
                refine r_al0 zi_141_87 rfl ?_
                refine q_getR zi_141_88 rfl cf_0_0 ?_
                refine q_getR zi_141_91 rfl cf_1_7 ?_
                refine r_il3 zi_141_94 rfl ?_
                refine q_cIV zi_141_95 rfl rfl rfl rfl rfl rfl rfl cf_30_0.ob (s_trow zTo30 (by omega) hc hc8 (i := j) hj ?_)
                show zk _ _ 98 _ _ _ _
                refine r_il1 zi_141_98 rfl ?_
                refine r_b5 zi_141_99 rfl ?_
                refine r_il4 zi_141_100 rfl ?_
                refine r_b3 zi_141_102 rfl ?_
                refine r_cIS zi_141_103 rfl rfl rfl rfl rfl rfl (s_bits ?_)
                show zk _ _ 106 _ _ _ _
                refine r_retI zi_141_106 rfl ?_
                exact ⟨_, rfl, h3 (by grind) (by grind) j hj rfl⟩
              · refine r_al0 zi_141_74 rfl ?_
                refine q_getR zi_141_75 rfl cf_0_0 ?_
                refine q_getR zi_141_78 rfl cf_1_7 ?_
                refine r_il1 zi_141_81 rfl ?_
                refine r_il2 zi_141_82 rfl ?_
                refine r_cIS zi_141_83 rfl rfl rfl rfl rfl rfl (s_kfooled hc hc8 hm ?_)
                show zk _ _ 86 _ _ _ _
                refine r_retI zi_141_86 rfl ?_
                exact ⟨_, rfl, h1 (by grind) (by grind) (by grind)⟩
            · refine r_al0 zi_141_55 rfl ?_
              refine q_getR zi_141_56 rfl cf_0_0 ?_
              refine q_getR zi_141_59 rfl cf_1_7 ?_
              refine r_il1 zi_141_62 rfl ?_
              refine r_il4 zi_141_63 rfl ?_
              refine r_cIS zi_141_65 rfl rfl rfl rfl rfl rfl (s_kbest hc hc8 ?_)
              show zk _ _ 68 _ _ _ _
              refine r_retI zi_141_68 rfl ?_
              exact ⟨_, rfl, h2 (by grind) (by grind) (by grind)⟩
          · refine r_push zi_141_41 rfl ?_
            refine r_retI zi_141_42 rfl ?_
            exact ⟨_, rfl, h0 (by grind)⟩
      · show zk _ _ 18 _ _ _ _
        refine r_if0 zi_141_18 rfl (fun _ => ?_) (fun c => absurd (by decide) c)
        refine r_push zi_141_41 rfl ?_
        refine r_retI zi_141_42 rfl ?_
        exact ⟨_, rfl, h0 (by grind)⟩
    · show zk _ _ 8 _ _ _ _
      refine r_if0 zi_141_8 rfl (fun _ => ?_) (fun c => absurd (by decide) c)
      refine r_push zi_141_41 rfl ?_
      refine r_retI zi_141_42 rfl ?_
      exact ⟨_, rfl, h0 (by grind)⟩
  · refine r_il1 zi_141_0 rfl ?_
    refine r_push zi_141_1 rfl ?_
    refine r_push zi_141_2 rfl ?_
    refine r_cIS zi_141_5 rfl rfl rfl rfl rfl rfl (s_within (fun i1 a1 => ?_) (fun i1 => ?_))
    · show zk _ _ 8 _ _ _ _
      refine r_if0 zi_141_8 rfl (fun c => absurd c (by decide)) (fun _ => ?_)
      refine r_il2 zi_141_11 rfl ?_
      refine r_push zi_141_12 rfl ?_
      refine r_push zi_141_13 rfl ?_
      refine r_cIS zi_141_15 rfl rfl rfl rfl rfl rfl (s_within (fun i2 a2 => ?_) (fun i2 => ?_))
      · show zk _ _ 18 _ _ _ _
        refine r_if0 zi_141_18 rfl (fun c => absurd c (by decide)) (fun _ => ?_)
        refine r_il3 zi_141_21 rfl ?_
        refine r_push zi_141_22 rfl ?_
        refine r_ic2 zi_141_24 rfl (fun c3 => ?_) (fun c3 => ?_)
        · refine r_push zi_141_41 rfl ?_
          refine r_retI zi_141_42 rfl ?_
          exact ⟨_, rfl, h0 (by grind)⟩
        · refine r_il3 zi_141_27 rfl ?_
          refine r_al0 zi_141_28 rfl ?_
          refine q_getR zi_141_29 rfl cf_0_0 ?_
          refine q_getR zi_141_32 rfl cf_1_7 ?_
          refine q_getI zi_141_35 rfl cf_30_1 ?_
          rw [hc]
          refine r_ic2 zi_141_38 rfl (fun c4 => ?_) (fun c4 => ?_)
          · exfalso; grind
          · refine r_push zi_141_41 rfl ?_
            refine r_retI zi_141_42 rfl ?_
            exact ⟨_, rfl, h0 (by grind)⟩
      · show zk _ _ 18 _ _ _ _
        refine r_if0 zi_141_18 rfl (fun _ => ?_) (fun c => absurd (by decide) c)
        refine r_push zi_141_41 rfl ?_
        refine r_retI zi_141_42 rfl ?_
        exact ⟨_, rfl, h0 (by grind)⟩
    · show zk _ _ 8 _ _ _ _
      refine r_if0 zi_141_8 rfl (fun _ => ?_) (fun c => absurd (by decide) c)
      refine r_push zi_141_41 rfl ?_
      refine r_retI zi_141_42 rfl ?_
      exact ⟨_, rfl, h0 (by grind)⟩

