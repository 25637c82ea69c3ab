/-! PROPHETS: what was wrong, who is fooled -/
theorem un_and1 (x : Int32) : x &&& 1 = 0 ∨ x &&& 1 = 1 := by
  have h : un (x &&& 1) = un x % 2 := by rw [un_and]; exact Nat.and_two_pow_sub_one_eq_mod _ 1
  rcases Nat.mod_two_eq_zero_or_one (un x) with e | e
  · exact Or.inl (un_inj (by rw [h, e]; rfl))
  · exact Or.inr (un_inj (by rw [h, e]; rfl))
abbrev zbt (x : Int32) (t : Nat) : Bool := decide (x >>> (nI t &&& 31) &&& 1 = 1)
abbrev zys (P : Nat → Int32) (c t : Nat) : Int32 := zset (fun k => zbt (P k) t) c
abbrev zfi (n : Nat) : Int32 := (1 <<< (nI n &&& 31)) - 1
def zfo (P : Nat → Int32) (c : Nat) (was a : Int32) : Nat → Nat → Int32 → Nat → Nat
  | 0, _, _, f => f
  | m + 1, t, r, f => zfo P c was a m (t + 1)
      (if (r &&& (if zbt was t then zys P c t else zys P c t ^^^ -1)) = 0 then a else (r &&& (if zbt was t then zys P c t else zys P c t ^^^ -1)))
      (f + if decide (zpop r < 2 * zpop (zys P c t &&& r)) = zbt was t then 0 else 1)
theorem zfo_s {Q : Int32 → zS → Prop} {σ : zS} {P : Nat → Int32} {c m t f : Nat} {was a r q : Int32} {b g : Bool} (hs : zbt was t = b) (hg : decide (zpop r < 2 * zpop (zys P c t &&& r)) = g) (hq : q = r &&& (if b then zys P c t else zys P c t ^^^ -1)) (h : Q (nI (zfo P c was a (m + 1) t r f)) σ) : (q = 0 → Q (nI (zfo P c was a m (t + 1) a (f + if g = b then 0 else 1))) σ) ∧ (¬ q = 0 → Q (nI (zfo P c was a m (t + 1) q (f + if g = b then 0 else 1))) σ) := by
  unfold zfo at h
  rw [hs, hg, ← hq] at h
  exact ⟨fun e => by rw [if_pos e] at h; exact h, fun e => by rw [if_neg e] at h; exact h⟩
theorem zbor {y x : Int32} {k : Nat} : y ||| ((x &&& 1) <<< (nI k &&& 31)) = if decide (x &&& 1 = 1) then y ||| (1 <<< (nI k &&& 31)) else y := by
  rcases un_and1 x with h | h
  · rw [h]
    have : (0 : Int32) <<< (nI k &&& 31) = 0 := by
      apply Int32.toBitVec_inj.mp
      rw [Int32.toBitVec_shiftLeft]; simp
    simp [this]
  · simp [h]
theorem zdbl {a b : Nat} (ha : a ≤ 32) (hb : b ≤ 32) : (2 * nI a ≤ nI b ↔ ¬ b < 2 * a) := by
  have e : (2 : Int32) * nI a = nI (2 * a) := (zI_mul 2 a).symm
  rw [e]
  constructor
  · intro h c
    have := nI_lt (a := b) (b := 2 * a) c (by omega)
    grind
  · intro h
    exact nI_le (by omega) (by omega)
theorem l_mys {d c t : Nat} {σ : zS} {R : Option Int32 → zS → Prop} {was n a r f : Int32} (hc : σ 195 48 = nI c) (hc8 : c ≤ 8) (h : zk (d + 1) 263 70 [.ref 195, .int was, .int n, .int a, .int r, .int f, .int (nI t), .int (zys (σ 224) c t), .int (nI c)] [] σ R) : ∀ (m k : Nat) (y : Int32), k + m = c → y = zset (fun k => zbt (σ 224 k) t) k → zk (d + 1) 263 30 [.ref 195, .int was, .int n, .int a, .int r, .int f, .int (nI t), .int y, .int (nI k)] [] σ R := by
  intro m
  induction m with
  | zero =>
    intro k y hk hy
    refine r_il8 zi_263_30 rfl ?_
    refine r_al0 zi_263_32 rfl ?_
    refine q_getI zi_263_33 rfl cf_195_48 ?_
    rw [hc]
    refine r_ic3 zi_263_36 rfl (fun _ => ?_) (fun c => absurd (nI_le (by omega) (by omega)) c)
    have e : k = c := by omega
    subst e
    rw [hy]; exact h
  | succ m ih =>
    intro k y hk hy
    refine r_il8 zi_263_30 rfl ?_
    refine r_al0 zi_263_32 rfl ?_
    refine q_getI zi_263_33 rfl cf_195_48 ?_
    rw [hc]
    refine r_ic3 zi_263_36 rfl (fun c => absurd c (nI_ge (by omega) (by omega))) (fun _ => ?_)
    refine r_al0 zi_263_39 rfl ?_
    refine r_al0 zi_263_40 rfl ?_
    refine q_getR zi_263_41 rfl cf_195_49 ?_
    refine r_il8 zi_263_44 rfl ?_
    refine r_ald zi_263_46 rfl k ca_224 (by first | rfl | (simp only [zI_add, zI_mul] <;> rfl)) (by first | omega | decide) ?_
    refine r_il6 zi_263_47 rfl ?_
    refine q_cIV zi_263_49 rfl rfl rfl rfl rfl rfl rfl cf_195_0.ob (s_has (fun i1 => ?_) (fun i1 => ?_))
    · show zk _ _ 52 _ _ _ _
      refine r_if0 zi_263_52 rfl (fun c => absurd c (by decide)) (fun _ => ?_)
      refine r_il7 zi_263_55 rfl ?_
      refine r_push zi_263_57 rfl ?_
      refine r_il8 zi_263_58 rfl ?_
      refine r_b6 zi_263_60 rfl ?_
      refine r_b4 zi_263_61 rfl ?_
      refine r_is7 zi_263_62 rfl ?_
      refine r_in8 zi_263_64 rfl ?_
      rw [show (nI k + 1 : Int32) = nI (k + 1) from nI_add _ _]
      refine r_goto zi_263_67 rfl ?_
      exact ih (k + 1) _ (by omega) (by simp_all [zset])
    · show zk _ _ 52 _ _ _ _
      refine r_if0 zi_263_52 rfl (fun _ => ?_) (fun c => absurd (by decide) c)
      refine r_in8 zi_263_64 rfl ?_
      rw [show (nI k + 1 : Int32) = nI (k + 1) from nI_add _ _]
      refine r_goto zi_263_67 rfl ?_
      exact ih (k + 1) _ (by omega) (by simp_all [zset])
theorem l_mfo {d c n : Nat} {σ : zS} {Q : Int32 → zS → Prop} {was a : Int32} (hc : σ 195 48 = nI c) (hc8 : c ≤ 8) (hn : n ≤ 10) : ∀ (m t : Nat) (r : Int32) (f : Nat) (u7 u8 : Value), t + m = n → Q (nI (zfo (σ 224) c was a m t r f)) σ → zk (d + 1) 263 18 [.ref 195, .int was, .int (nI n), .int a, .int r, .int (nI f), .int (nI t), u7, u8] [] σ (fun r t => ∃ v, r = some v ∧ Q v t) := by
  intro m
  induction m with
  | zero =>
    intro t r f u7 u8 ht h
    refine r_il6 zi_263_18 rfl ?_
    refine r_il2 zi_263_20 rfl ?_
    refine r_ic3 zi_263_21 rfl (fun _ => ?_) (fun c => absurd (nI_le (by omega) (by omega)) c)
    refine r_il5 zi_263_153 rfl ?_
    refine r_retI zi_263_155 rfl ?_
    exact ⟨_, rfl, h⟩
  | succ m ih =>
    intro t r f u7 u8 ht h
    have hz := zdbl (zpop_le (zys (σ 224) c t &&& r)) (zpop_le r)
    by_cases hs : was >>> (nI t &&& 31) &&& 1 = 1
    · by_cases hg : zpop r < 2 * zpop (zys (σ 224) c t &&& r)
      · obtain ⟨h1, h2⟩ := zfo_s (Q := Q) (σ := σ) (decide_eq_true hs) (decide_eq_true hg) (q := r &&& zys (σ 224) c t) rfl h
        refine r_il6 zi_263_18 rfl ?_
        refine r_il2 zi_263_20 rfl ?_
        refine r_ic3 zi_263_21 rfl (fun c => absurd c (nI_ge (by omega) (by omega))) (fun _ => ?_)
        refine r_push zi_263_24 rfl ?_
        refine r_is7 zi_263_25 rfl ?_
        refine r_push zi_263_27 rfl ?_
        refine r_is8 zi_263_28 rfl ?_
        refine l_mys hc hc8 ?_ c 0 0 (by omega) rfl
        show zk _ _ 70 _ _ _ _
        refine r_push zi_263_70 rfl ?_
        refine r_al0 zi_263_71 rfl ?_
        refine r_il7 zi_263_72 rfl ?_
        refine r_il4 zi_263_74 rfl ?_
        refine r_b3 zi_263_76 rfl ?_
        refine q_cIV zi_263_77 rfl rfl rfl rfl rfl rfl rfl cf_195_0.ob (s_ones ?_)
        show zk _ _ 80 _ _ _ _
        refine r_b2 zi_263_80 rfl ?_
        refine r_al0 zi_263_81 rfl ?_
        refine r_il4 zi_263_82 rfl ?_
        refine q_cIV zi_263_84 rfl rfl rfl rfl rfl rfl rfl cf_195_0.ob (s_ones ?_)
        show zk _ _ 87 _ _ _ _
        refine r_ic5 zi_263_87 rfl (fun c => absurd c (fun z => hz.mp z hg)) (fun _ => ?_)
        refine r_push zi_263_90 rfl ?_
        refine r_goto zi_263_91 rfl ?_
        refine r_is8 zi_263_95 rfl ?_
        refine r_il8 zi_263_97 rfl ?_
        refine r_al0 zi_263_99 rfl ?_
        refine r_il1 zi_263_100 rfl ?_
        refine r_il6 zi_263_101 rfl ?_
        refine q_cIV zi_263_103 rfl rfl rfl rfl rfl rfl rfl cf_195_0.ob (s_has (fun _ => ?_) (fun z => absurd hs z))
        show zk _ _ 106 _ _ _ _
        refine r_ic0 zi_263_106 rfl (fun _ => ?_) (fun c => absurd (by decide) c)
        refine r_il4 zi_263_115 rfl ?_
        refine r_al0 zi_263_117 rfl ?_
        refine r_il1 zi_263_118 rfl ?_
        refine r_il6 zi_263_119 rfl ?_
        refine q_cIV zi_263_121 rfl rfl rfl rfl rfl rfl rfl cf_195_0.ob (s_has (fun _ => ?_) (fun z => absurd hs z))
        show zk _ _ 124 _ _ _ _
        refine r_if0 zi_263_124 rfl (fun c => absurd c (by decide)) (fun _ => ?_)
        refine r_il7 zi_263_127 rfl ?_
        refine r_goto zi_263_129 rfl ?_
        refine r_b3 zi_263_136 rfl ?_
        refine r_is4 zi_263_137 rfl ?_
        refine r_il4 zi_263_139 rfl ?_
        refine r_if1 zi_263_141 rfl (fun c5 => ?_) (fun c5 => ?_)
        · refine r_in6 zi_263_147 rfl ?_
          rw [show (nI t + 1 : Int32) = nI (t + 1) from nI_add _ _]
          refine r_goto zi_263_150 rfl ?_
          first | exact ih (t + 1) _ _ _ _ (by omega) (h1 (by assumption)) | exact ih (t + 1) _ _ _ _ (by omega) (h2 (by assumption))
        · refine r_il3 zi_263_144 rfl ?_
          refine r_is4 zi_263_145 rfl ?_
          refine r_in6 zi_263_147 rfl ?_
          rw [show (nI t + 1 : Int32) = nI (t + 1) from nI_add _ _]
          refine r_goto zi_263_150 rfl ?_
          first | exact ih (t + 1) _ _ _ _ (by omega) (h1 (by assumption)) | exact ih (t + 1) _ _ _ _ (by omega) (h2 (by assumption))
      · obtain ⟨h1, h2⟩ := zfo_s (Q := Q) (σ := σ) (decide_eq_true hs) (decide_eq_false hg) (q := r &&& zys (σ 224) c t) rfl h
        refine r_il6 zi_263_18 rfl ?_
        refine r_il2 zi_263_20 rfl ?_
        refine r_ic3 zi_263_21 rfl (fun c => absurd c (nI_ge (by omega) (by omega))) (fun _ => ?_)
        refine r_push zi_263_24 rfl ?_
        refine r_is7 zi_263_25 rfl ?_
        refine r_push zi_263_27 rfl ?_
        refine r_is8 zi_263_28 rfl ?_
        refine l_mys hc hc8 ?_ c 0 0 (by omega) rfl
        show zk _ _ 70 _ _ _ _
        refine r_push zi_263_70 rfl ?_
        refine r_al0 zi_263_71 rfl ?_
        refine r_il7 zi_263_72 rfl ?_
        refine r_il4 zi_263_74 rfl ?_
        refine r_b3 zi_263_76 rfl ?_
        refine q_cIV zi_263_77 rfl rfl rfl rfl rfl rfl rfl cf_195_0.ob (s_ones ?_)
        show zk _ _ 80 _ _ _ _
        refine r_b2 zi_263_80 rfl ?_
        refine r_al0 zi_263_81 rfl ?_
        refine r_il4 zi_263_82 rfl ?_
        refine q_cIV zi_263_84 rfl rfl rfl rfl rfl rfl rfl cf_195_0.ob (s_ones ?_)
        show zk _ _ 87 _ _ _ _
        refine r_ic5 zi_263_87 rfl (fun _ => ?_) (fun c => absurd (hz.mpr hg) c)
        refine r_push zi_263_94 rfl ?_
        refine r_is8 zi_263_95 rfl ?_
        refine r_il8 zi_263_97 rfl ?_
        refine r_al0 zi_263_99 rfl ?_
        refine r_il1 zi_263_100 rfl ?_
        refine r_il6 zi_263_101 rfl ?_
        refine q_cIV zi_263_103 rfl rfl rfl rfl rfl rfl rfl cf_195_0.ob (s_has (fun _ => ?_) (fun z => absurd hs z))
        show zk _ _ 106 _ _ _ _
        refine r_ic0 zi_263_106 rfl (fun c => absurd c (by decide)) (fun _ => ?_)
        refine r_il5 zi_263_109 rfl ?_
        refine r_push zi_263_111 rfl ?_
        refine r_b0 zi_263_112 rfl ?_
        rw [show (nI f + 1 : Int32) = nI (f + 1) from nI_add _ _]
        refine r_is5 zi_263_113 rfl ?_
        refine r_il4 zi_263_115 rfl ?_
        refine r_al0 zi_263_117 rfl ?_
        refine r_il1 zi_263_118 rfl ?_
        refine r_il6 zi_263_119 rfl ?_
        refine q_cIV zi_263_121 rfl rfl rfl rfl rfl rfl rfl cf_195_0.ob (s_has (fun _ => ?_) (fun z => absurd hs z))
        show zk _ _ 124 _ _ _ _
        refine r_if0 zi_263_124 rfl (fun c => absurd c (by decide)) (fun _ => ?_)
        refine r_il7 zi_263_127 rfl ?_
        refine r_goto zi_263_129 rfl ?_
        refine r_b3 zi_263_136 rfl ?_
        refine r_is4 zi_263_137 rfl ?_
        refine r_il4 zi_263_139 rfl ?_
        refine r_if1 zi_263_141 rfl (fun c5 => ?_) (fun c5 => ?_)
        · refine r_in6 zi_263_147 rfl ?_
          rw [show (nI t + 1 : Int32) = nI (t + 1) from nI_add _ _]
          refine r_goto zi_263_150 rfl ?_
          first | exact ih (t + 1) _ _ _ _ (by omega) (h1 (by assumption)) | exact ih (t + 1) _ _ _ _ (by omega) (h2 (by assumption))
        · refine r_il3 zi_263_144 rfl ?_
          refine r_is4 zi_263_145 rfl ?_
          refine r_in6 zi_263_147 rfl ?_
          rw [show (nI t + 1 : Int32) = nI (t + 1) from nI_add _ _]
          refine r_goto zi_263_150 rfl ?_
          first | exact ih (t + 1) _ _ _ _ (by omega) (h1 (by assumption)) | exact ih (t + 1) _ _ _ _ (by omega) (h2 (by assumption))
    · by_cases hg : zpop r < 2 * zpop (zys (σ 224) c t &&& r)
      · obtain ⟨h1, h2⟩ := zfo_s (Q := Q) (σ := σ) (decide_eq_false hs) (decide_eq_true hg) (q := r &&& (zys (σ 224) c t ^^^ -1)) rfl h
        refine r_il6 zi_263_18 rfl ?_
        refine r_il2 zi_263_20 rfl ?_
        refine r_ic3 zi_263_21 rfl (fun c => absurd c (nI_ge (by omega) (by omega))) (fun _ => ?_)
        refine r_push zi_263_24 rfl ?_
        refine r_is7 zi_263_25 rfl ?_
        refine r_push zi_263_27 rfl ?_
        refine r_is8 zi_263_28 rfl ?_
        refine l_mys hc hc8 ?_ c 0 0 (by omega) rfl
        show zk _ _ 70 _ _ _ _
        refine r_push zi_263_70 rfl ?_
        refine r_al0 zi_263_71 rfl ?_
        refine r_il7 zi_263_72 rfl ?_
        refine r_il4 zi_263_74 rfl ?_
        refine r_b3 zi_263_76 rfl ?_
        refine q_cIV zi_263_77 rfl rfl rfl rfl rfl rfl rfl cf_195_0.ob (s_ones ?_)
        show zk _ _ 80 _ _ _ _
        refine r_b2 zi_263_80 rfl ?_
        refine r_al0 zi_263_81 rfl ?_
        refine r_il4 zi_263_82 rfl ?_
        refine q_cIV zi_263_84 rfl rfl rfl rfl rfl rfl rfl cf_195_0.ob (s_ones ?_)
        show zk _ _ 87 _ _ _ _
        refine r_ic5 zi_263_87 rfl (fun c => absurd c (fun z => hz.mp z hg)) (fun _ => ?_)
        refine r_push zi_263_90 rfl ?_
        refine r_goto zi_263_91 rfl ?_
        refine r_is8 zi_263_95 rfl ?_
        refine r_il8 zi_263_97 rfl ?_
        refine r_al0 zi_263_99 rfl ?_
        refine r_il1 zi_263_100 rfl ?_
        refine r_il6 zi_263_101 rfl ?_
        refine q_cIV zi_263_103 rfl rfl rfl rfl rfl rfl rfl cf_195_0.ob (s_has (fun z => absurd z hs) (fun _ => ?_))
        show zk _ _ 106 _ _ _ _
        refine r_ic0 zi_263_106 rfl (fun c => absurd c (by decide)) (fun _ => ?_)
        refine r_il5 zi_263_109 rfl ?_
        refine r_push zi_263_111 rfl ?_
        refine r_b0 zi_263_112 rfl ?_
        rw [show (nI f + 1 : Int32) = nI (f + 1) from nI_add _ _]
        refine r_is5 zi_263_113 rfl ?_
        refine r_il4 zi_263_115 rfl ?_
        refine r_al0 zi_263_117 rfl ?_
        refine r_il1 zi_263_118 rfl ?_
        refine r_il6 zi_263_119 rfl ?_
        refine q_cIV zi_263_121 rfl rfl rfl rfl rfl rfl rfl cf_195_0.ob (s_has (fun z => absurd z hs) (fun _ => ?_))
        show zk _ _ 124 _ _ _ _
        refine r_if0 zi_263_124 rfl (fun _ => ?_) (fun c => absurd (by decide) c)
        refine r_il7 zi_263_132 rfl ?_
        refine r_push zi_263_134 rfl ?_
        refine r_b5 zi_263_135 rfl ?_
        refine r_b3 zi_263_136 rfl ?_
        refine r_is4 zi_263_137 rfl ?_
        refine r_il4 zi_263_139 rfl ?_
        refine r_if1 zi_263_141 rfl (fun c5 => ?_) (fun c5 => ?_)
        · refine r_in6 zi_263_147 rfl ?_
          rw [show (nI t + 1 : Int32) = nI (t + 1) from nI_add _ _]
          refine r_goto zi_263_150 rfl ?_
          first | exact ih (t + 1) _ _ _ _ (by omega) (h1 (by assumption)) | exact ih (t + 1) _ _ _ _ (by omega) (h2 (by assumption))
        · refine r_il3 zi_263_144 rfl ?_
          refine r_is4 zi_263_145 rfl ?_
          refine r_in6 zi_263_147 rfl ?_
          rw [show (nI t + 1 : Int32) = nI (t + 1) from nI_add _ _]
          refine r_goto zi_263_150 rfl ?_
          first | exact ih (t + 1) _ _ _ _ (by omega) (h1 (by assumption)) | exact ih (t + 1) _ _ _ _ (by omega) (h2 (by assumption))
      · obtain ⟨h1, h2⟩ := zfo_s (Q := Q) (σ := σ) (decide_eq_false hs) (decide_eq_false hg) (q := r &&& (zys (σ 224) c t ^^^ -1)) rfl h
        refine r_il6 zi_263_18 rfl ?_
        refine r_il2 zi_263_20 rfl ?_
        refine r_ic3 zi_263_21 rfl (fun c => absurd c (nI_ge (by omega) (by omega))) (fun _ => ?_)
        refine r_push zi_263_24 rfl ?_
        refine r_is7 zi_263_25 rfl ?_
        refine r_push zi_263_27 rfl ?_
        refine r_is8 zi_263_28 rfl ?_
        refine l_mys hc hc8 ?_ c 0 0 (by omega) rfl
        show zk _ _ 70 _ _ _ _
        refine r_push zi_263_70 rfl ?_
        refine r_al0 zi_263_71 rfl ?_
        refine r_il7 zi_263_72 rfl ?_
        refine r_il4 zi_263_74 rfl ?_
        refine r_b3 zi_263_76 rfl ?_
        refine q_cIV zi_263_77 rfl rfl rfl rfl rfl rfl rfl cf_195_0.ob (s_ones ?_)
        show zk _ _ 80 _ _ _ _
        refine r_b2 zi_263_80 rfl ?_
        refine r_al0 zi_263_81 rfl ?_
        refine r_il4 zi_263_82 rfl ?_
        refine q_cIV zi_263_84 rfl rfl rfl rfl rfl rfl rfl cf_195_0.ob (s_ones ?_)
        show zk _ _ 87 _ _ _ _
        refine r_ic5 zi_263_87 rfl (fun _ => ?_) (fun c => absurd (hz.mpr hg) c)
        refine r_push zi_263_94 rfl ?_
        refine r_is8 zi_263_95 rfl ?_
        refine r_il8 zi_263_97 rfl ?_
        refine r_al0 zi_263_99 rfl ?_
        refine r_il1 zi_263_100 rfl ?_
        refine r_il6 zi_263_101 rfl ?_
        refine q_cIV zi_263_103 rfl rfl rfl rfl rfl rfl rfl cf_195_0.ob (s_has (fun z => absurd z hs) (fun _ => ?_))
        show zk _ _ 106 _ _ _ _
        refine r_ic0 zi_263_106 rfl (fun _ => ?_) (fun c => absurd (by decide) c)
        refine r_il4 zi_263_115 rfl ?_
        refine r_al0 zi_263_117 rfl ?_
        refine r_il1 zi_263_118 rfl ?_
        refine r_il6 zi_263_119 rfl ?_
        refine q_cIV zi_263_121 rfl rfl rfl rfl rfl rfl rfl cf_195_0.ob (s_has (fun z => absurd z hs) (fun _ => ?_))
        show zk _ _ 124 _ _ _ _
        refine r_if0 zi_263_124 rfl (fun _ => ?_) (fun c => absurd (by decide) c)
        refine r_il7 zi_263_132 rfl ?_
        refine r_push zi_263_134 rfl ?_
        refine r_b5 zi_263_135 rfl ?_
        refine r_b3 zi_263_136 rfl ?_
        refine r_is4 zi_263_137 rfl ?_
        refine r_il4 zi_263_139 rfl ?_
        refine r_if1 zi_263_141 rfl (fun c5 => ?_) (fun c5 => ?_)
        · refine r_in6 zi_263_147 rfl ?_
          rw [show (nI t + 1 : Int32) = nI (t + 1) from nI_add _ _]
          refine r_goto zi_263_150 rfl ?_
          first | exact ih (t + 1) _ _ _ _ (by omega) (h1 (by assumption)) | exact ih (t + 1) _ _ _ _ (by omega) (h2 (by assumption))
        · refine r_il3 zi_263_144 rfl ?_
          refine r_is4 zi_263_145 rfl ?_
          refine r_in6 zi_263_147 rfl ?_
          rw [show (nI t + 1 : Int32) = nI (t + 1) from nI_add _ _]
          refine r_goto zi_263_150 rfl ?_
          first | exact ih (t + 1) _ _ _ _ (by omega) (h1 (by assumption)) | exact ih (t + 1) _ _ _ _ (by omega) (h2 (by assumption))
theorem s_mfooled {d c n : Nat} {σ : zS} {Q : Int32 → zS → Prop} {was : Int32} (hc : σ 195 48 = nI c) (hc8 : c ≤ 8) (hn : n ≤ 10) (h : Q (nI (zfo (σ 224) c was (zfi c) n 0 (zfi c) 0)) σ) : zI1 (d + 1) 263 [.ref 195, .int was, .int (nI n)] σ Q := by
  show zk _ _ 0 [.ref 195, .int was, .int (nI n), zun, zun, zun, zun, zun, zun] [] _ _
  refine r_push zi_263_0 rfl ?_
  refine r_al0 zi_263_1 rfl ?_
  refine q_getI zi_263_2 rfl cf_195_48 ?_
  rw [hc]
  refine r_b6 zi_263_5 rfl ?_
  refine r_push zi_263_6 rfl ?_
  refine r_b1 zi_263_7 rfl ?_
  refine r_is3 zi_263_8 rfl ?_
  refine r_il3 zi_263_9 rfl ?_
  refine r_is4 zi_263_10 rfl ?_
  refine r_push zi_263_12 rfl ?_
  refine r_is5 zi_263_13 rfl ?_
  refine r_push zi_263_15 rfl ?_
  refine r_is6 zi_263_16 rfl ?_
  exact l_mfo hc hc8 hn n 0 _ 0 _ _ (by omega) h
def zbs (f : Nat → Int32) : Nat → Int32
  | 0 => 100000000
  | k + 1 => if zbs f k < f k then zbs f k else f k
abbrev zwf (P : Nat → Int32) (was y : Int32) (k : Nat) : Int32 := nI (zpop ((P k ^^^ was) &&& y))
theorem l_mbest {d c : Nat} {σ : zS} {Q : Int32 → zS → Prop} {was n i y : Int32} (hc : σ 195 48 = nI c) (hc8 : c ≤ 8) (h : Q (if c = 0 then 0 else zbs (zwf (σ 224) was y) c) σ) : ∀ (m k : Nat) (w : Int32), k + m = c → w = zbs (zwf (σ 224) was y) k → zk (d + 1) 264 95 [.ref 195, .int was, .int n, .int i, .int y, .int w, .int (nI k)] [] σ (fun r t => ∃ v, r = some v ∧ Q v t) := by
  intro m
  induction m with
  | zero =>
    intro k w hk hw
    have e : k = c := by omega
    subst e
    by_cases h0 : k = 0
    · rw [if_pos h0] at h
      refine r_il6 zi_264_95 rfl ?_
      refine r_al0 zi_264_97 rfl ?_
      refine q_getI zi_264_98 rfl cf_195_48 ?_
      rw [hc]
      refine r_ic3 zi_264_101 rfl (fun _ => ?_) (fun c => absurd (nI_le (by omega) (by omega)) c)
      refine r_al0 zi_264_134 rfl ?_
      refine q_getI zi_264_135 rfl cf_195_48 ?_
      rw [hc]
      refine r_if1 zi_264_138 rfl (fun c => absurd (by rw [h0]; rfl) c) (fun _ => ?_)
      refine r_push zi_264_141 rfl ?_
      refine r_goto zi_264_142 rfl ?_
      refine r_retI zi_264_147 rfl ?_
      exact ⟨_, rfl, h⟩
    · rw [if_neg h0, ← hw] at h
      refine r_il6 zi_264_95 rfl ?_
      refine r_al0 zi_264_97 rfl ?_
      refine q_getI zi_264_98 rfl cf_195_48 ?_
      rw [hc]
      refine r_ic3 zi_264_101 rfl (fun _ => ?_) (fun c => absurd (nI_le (by omega) (by omega)) c)
      refine r_al0 zi_264_134 rfl ?_
      refine q_getI zi_264_135 rfl cf_195_48 ?_
      rw [hc]
      refine r_if1 zi_264_138 rfl (fun _ => ?_) (fun c => absurd c (nI_ne0 (by omega) (by omega)))
      refine r_il5 zi_264_145 rfl ?_
      refine r_retI zi_264_147 rfl ?_
      exact ⟨_, rfl, h⟩
  | succ m ih =>
    intro k w hk hw
    refine r_il6 zi_264_95 rfl ?_
    refine r_al0 zi_264_97 rfl ?_
    refine q_getI zi_264_98 rfl cf_195_48 ?_
    rw [hc]
    refine r_ic3 zi_264_101 rfl (fun c => absurd c (nI_ge (by omega) (by omega))) (fun _ => ?_)
    refine r_al0 zi_264_104 rfl ?_
    refine r_il5 zi_264_105 rfl ?_
    refine r_al0 zi_264_107 rfl ?_
    refine r_al0 zi_264_108 rfl ?_
    refine q_getR zi_264_109 rfl cf_195_49 ?_
    refine r_il6 zi_264_112 rfl ?_
    refine r_ald zi_264_114 rfl k ca_224 (by first | rfl | (simp only [zI_add, zI_mul] <;> rfl)) (by first | omega | decide) ?_
    refine r_il1 zi_264_115 rfl ?_
    refine r_b5 zi_264_116 rfl ?_
    refine r_il4 zi_264_117 rfl ?_
    refine r_b3 zi_264_119 rfl ?_
    refine q_cIV zi_264_120 rfl rfl rfl rfl rfl rfl rfl cf_195_0.ob (s_ones ?_)
    show zk _ _ 123 _ _ _ _
    refine q_cIV zi_264_123 rfl rfl rfl rfl rfl rfl rfl cf_195_0.ob (s_lesser ?_)
    show zk _ _ 126 _ _ _ _
    refine r_is5 zi_264_126 rfl ?_
    refine r_in6 zi_264_128 rfl ?_
    rw [show (nI k + 1 : Int32) = nI (k + 1) from nI_add _ _]
    refine r_goto zi_264_131 rfl ?_
    exact ih (k + 1) _ (by omega) (by rw [hw]; rfl)
theorem s_mwrong {d c : Nat} {σ : zS} {Q : Int32 → zS → Prop} {was n i : Int32} (hc : σ 195 48 = nI c) (hc8 : c ≤ 8)
    (h0 : ¬ (0 ≤ was ∧ was ≤ 1023 ∧ 0 ≤ n ∧ n ≤ 10 ∧ -2 ≤ i ∧ i < nI c) → Q (-1) (up σ 195 0 0))
    (h1 : ∀ m, m ≤ 10 → n = nI m → 0 ≤ was → was ≤ 1023 → i = -2 → Q (nI (zfo (σ 224) c was (zfi c) m 0 (zfi c) 0)) (up σ 195 0 0))
    (h2 : ∀ m, m ≤ 10 → n = nI m → 0 ≤ was → was ≤ 1023 → i = -1 → Q (if c = 0 then 0 else zbs (zwf (σ 224) was (zfi m)) c) (up σ 195 0 0))
    (h3 : ∀ m, m ≤ 10 → n = nI m → 0 ≤ was → was ≤ 1023 → ∀ j, j < c → i = nI j → Q (zwf (σ 224) was (zfi m) j) (up σ 195 0 0)) : zI1 (d + 2) 264 [.ref 195, .int was, .int n, .int i] σ Q := by
  show zk _ _ 0 [.ref 195, .int was, .int n, .int i, zun, zun, zun] [] _ _
  have hc1 : nI c - 1 < nI c := by have := nI_le (a := c) (b := 8) hc8 (by omega); have := nI_pos (n := c) (by omega); grind
  have hc2 : nI c ≤ 8 := nI_le (a := c) (b := 8) hc8 (by omega)
  have hc' : up σ 195 0 0 195 48 = nI c := hc
  have hP : up σ 195 0 0 224 = σ 224 := rfl
  by_cases hb : 0 ≤ n ∧ n ≤ 10
  · obtain ⟨m, hm, rfl⟩ := zI_ofle (n := 10) hb.1 hb.2 (by omega)
    replace h1 := h1 m hm rfl
    replace h2 := h2 m hm rfl
    replace h3 := h3 m hm rfl
    refine r_al0 zi_264_0 rfl ?_
    refine r_push zi_264_1 rfl ?_
    refine q_put zi_264_2 rfl cf_195_0 rfl ?_
    refine r_al0 zi_264_5 rfl ?_
    refine r_il1 zi_264_6 rfl ?_
    refine r_push zi_264_7 rfl ?_
    refine r_push zi_264_8 rfl ?_
    refine q_cIV zi_264_11 rfl rfl rfl rfl rfl rfl rfl cf_195_0.ob (s_isIn (fun i1 a1 => ?_) (fun i1 => ?_))
    · show zk _ _ 14 _ _ _ _
      refine r_if0 zi_264_14 rfl (fun c => absurd c (by decide)) (fun _ => ?_)
      refine r_al0 zi_264_17 rfl ?_
      refine r_il2 zi_264_18 rfl ?_
      refine r_push zi_264_19 rfl ?_
      refine r_push zi_264_20 rfl ?_
      refine q_cIV zi_264_22 rfl rfl rfl rfl rfl rfl rfl cf_195_0.ob (s_isIn (fun i2 a2 => ?_) (fun i2 => ?_))
      · show zk _ _ 25 _ _ _ _
        refine r_if0 zi_264_25 rfl (fun c => absurd c (by decide)) (fun _ => ?_)
        refine r_al0 zi_264_28 rfl ?_
        refine r_il3 zi_264_29 rfl ?_
        refine r_push zi_264_30 rfl ?_
        refine r_al0 zi_264_32 rfl ?_
        refine q_getI zi_264_33 rfl cf_195_48 ?_
        rw [hc']
        refine r_push zi_264_36 rfl ?_
        refine r_b1 zi_264_37 rfl ?_
        refine q_cIV zi_264_38 rfl rfl rfl rfl rfl rfl rfl cf_195_0.ob (s_isIn (fun i3 a3 => ?_) (fun i3 => ?_))
        · show zk _ _ 41 _ _ _ _
          refine r_if1 zi_264_41 rfl (fun _ => ?_) (fun c => absurd c (by decide))
          refine r_il3 zi_264_46 rfl ?_
          refine r_push zi_264_47 rfl ?_
          refine r_ic1 zi_264_49 rfl (fun c4 => ?_) (fun c4 => ?_)
          · refine r_push zi_264_59 rfl ?_
            refine r_il2 zi_264_60 rfl ?_
            refine r_b6 zi_264_61 rfl ?_
            refine r_push zi_264_62 rfl ?_
            refine r_b1 zi_264_63 rfl ?_
            refine r_is4 zi_264_64 rfl ?_
            refine r_il3 zi_264_66 rfl ?_
            refine r_push zi_264_67 rfl ?_
            refine r_ic0 zi_264_68 rfl (fun c5 => ?_) (fun c5 => ?_)
            · refine r_push zi_264_87 rfl ?_
              refine r_is5 zi_264_90 rfl ?_
              refine r_push zi_264_92 rfl ?_
              refine r_is6 zi_264_93 rfl ?_
              exact l_mbest hc' hc8 (h2 (by grind) (by grind) (by grind)) c 0 _ (by omega) rfl
            · obtain ⟨j, hj, rfl⟩ := zI_of (v := i) (n := c) (by grind) (by grind) (by omega)
              refine r_al0 zi_264_71 rfl ?_
              refine r_al0 zi_264_72 rfl ?_
              refine q_getR zi_264_73 rfl cf_195_49 ?_
              refine r_il3 zi_264_76 rfl ?_
              refine r_ald zi_264_77 rfl j ca_224 rfl (by omega) ?_
              refine r_il1 zi_264_78 rfl ?_
              refine r_b5 zi_264_79 rfl ?_
              refine r_il4 zi_264_80 rfl ?_
              refine r_b3 zi_264_82 rfl ?_
              refine q_cIV zi_264_83 rfl rfl rfl rfl rfl rfl rfl cf_195_0.ob (s_ones ?_)
              show zk _ _ 86 _ _ _ _
              refine r_retI zi_264_86 rfl ?_
              exact ⟨_, rfl, h3 (by grind) (by grind) j hj rfl⟩
          · refine r_al0 zi_264_52 rfl ?_
            refine r_il1 zi_264_53 rfl ?_
            refine r_il2 zi_264_54 rfl ?_
            refine q_cIV zi_264_55 rfl rfl rfl rfl rfl rfl rfl cf_195_0.ob (s_mfooled hc' hc8 hm ?_)
            show zk _ _ 58 _ _ _ _
            refine r_retI zi_264_58 rfl ?_
            exact ⟨_, rfl, h1 (by grind) (by grind) (by grind)⟩
        · show zk _ _ 41 _ _ _ _
          refine r_if1 zi_264_41 rfl (fun c => absurd (by decide) c) (fun _ => ?_)
          refine r_push zi_264_44 rfl ?_
          refine r_retI zi_264_45 rfl ?_
          exact ⟨_, rfl, h0 (by grind)⟩
      · show zk _ _ 25 _ _ _ _
        refine r_if0 zi_264_25 rfl (fun _ => ?_) (fun c => absurd (by decide) c)
        refine r_push zi_264_44 rfl ?_
        refine r_retI zi_264_45 rfl ?_
        exact ⟨_, rfl, h0 (by grind)⟩
    · show zk _ _ 14 _ _ _ _
      refine r_if0 zi_264_14 rfl (fun _ => ?_) (fun c => absurd (by decide) c)
      refine r_push zi_264_44 rfl ?_
      refine r_retI zi_264_45 rfl ?_
      exact ⟨_, rfl, h0 (by grind)⟩
  · refine r_al0 zi_264_0 rfl ?_
    refine r_push zi_264_1 rfl ?_
    refine q_put zi_264_2 rfl cf_195_0 rfl ?_
    refine r_al0 zi_264_5 rfl ?_
    refine r_il1 zi_264_6 rfl ?_
    refine r_push zi_264_7 rfl ?_
    refine r_push zi_264_8 rfl ?_
    refine q_cIV zi_264_11 rfl rfl rfl rfl rfl rfl rfl cf_195_0.ob (s_isIn (fun i1 a1 => ?_) (fun i1 => ?_))
    · show zk _ _ 14 _ _ _ _
      refine r_if0 zi_264_14 rfl (fun c => absurd c (by decide)) (fun _ => ?_)
      refine r_al0 zi_264_17 rfl ?_
      refine r_il2 zi_264_18 rfl ?_
      refine r_push zi_264_19 rfl ?_
      refine r_push zi_264_20 rfl ?_
      refine q_cIV zi_264_22 rfl rfl rfl rfl rfl rfl rfl cf_195_0.ob (s_isIn (fun i2 a2 => ?_) (fun i2 => ?_))
      · show zk _ _ 25 _ _ _ _
        refine r_if0 zi_264_25 rfl (fun c => absurd c (by decide)) (fun _ => ?_)
        refine r_al0 zi_264_28 rfl ?_
        refine r_il3 zi_264_29 rfl ?_
        refine r_push zi_264_30 rfl ?_
        refine r_al0 zi_264_32 rfl ?_
        refine q_getI zi_264_33 rfl cf_195_48 ?_
        rw [hc']
        refine r_push zi_264_36 rfl ?_
        refine r_b1 zi_264_37 rfl ?_
        refine q_cIV zi_264_38 rfl rfl rfl rfl rfl rfl rfl cf_195_0.ob (s_isIn (fun i3 a3 => ?_) (fun i3 => ?_))
        · show zk _ _ 41 _ _ _ _
          refine r_if1 zi_264_41 rfl (fun _ => ?_) (fun c => absurd c (by decide))
          exfalso; grind
        · show zk _ _ 41 _ _ _ _
          refine r_if1 zi_264_41 rfl (fun c => absurd (by decide) c) (fun _ => ?_)
          refine r_push zi_264_44 rfl ?_
          refine r_retI zi_264_45 rfl ?_
          exact ⟨_, rfl, h0 (by grind)⟩
      · show zk _ _ 25 _ _ _ _
        refine r_if0 zi_264_25 rfl (fun _ => ?_) (fun c => absurd (by decide) c)
        refine r_push zi_264_44 rfl ?_
        refine r_retI zi_264_45 rfl ?_
        exact ⟨_, rfl, h0 (by grind)⟩
    · show zk _ _ 14 _ _ _ _
      refine r_if0 zi_264_14 rfl (fun _ => ?_) (fun c => absurd (by decide) c)
      refine r_push zi_264_44 rfl ?_
      refine r_retI zi_264_45 rfl ?_
      exact ⟨_, rfl, h0 (by grind)⟩

