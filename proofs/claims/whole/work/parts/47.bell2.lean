/-! BELL, both sides -/
theorem popF_mono : ∀ (k a b : Nat), (∀ i, a.testBit i = true → b.testBit i = true) → popF k a ≤ popF k b ∧ (a < 2 ^ k → b < 2 ^ k → a ≠ b → popF k a < popF k b) := by
  intro k
  induction k with
  | zero => intro a b h; refine ⟨Nat.le_refl _, fun h1 h2 h3 => ?_⟩; simp only [Nat.pow_zero] at h1 h2; omega
  | succ k ih =>
    intro a b h
    have h2 : 2 ^ (k + 1) = 2 * 2 ^ k := by rw [Nat.pow_succ, Nat.mul_comm]
    have h0 : a % 2 ≤ b % 2 := by
      have := h 0
      rw [Nat.testBit_zero, Nat.testBit_zero] at this
      simp at this; omega
    obtain ⟨i1, i2⟩ := ih (a / 2) (b / 2) (fun i => by have := h (i + 1); rwa [Nat.testBit_succ, Nat.testBit_succ] at this)
    simp only [popF]
    refine ⟨by omega, fun h3 h4 h5 => ?_⟩
    by_cases he : a / 2 = b / 2
    · rw [he]; omega
    · have := i2 (by omega) (by omega) he
      omega
theorem zpop_or {s x : Int32} (h : s ||| x ≠ s) : zpop s < zpop (s ||| x) := by
  refine (popF_mono 32 (un s) (un (s ||| x)) (fun i hi => ?_)).2 (un_lt _) (un_lt _) (fun e => h (un_inj e).symm)
  rw [un_or, Nat.testBit_or, hi]; rfl
theorem zpop_12 {s : Int32} (h : un s < 4096) : zpop s ≤ 12 := by
  have e : popF 32 (un s) = popF 12 (un s) + popF 20 0 := by have := popF_split 12 20 (un s) 0 h; simpa only [Nat.mul_zero, Nat.add_zero, Nat.reduceAdd] using this
  have e2 : ∀ k, popF k 0 = 0 := by intro k; induction k with | zero => rfl | succ k ih => simp [popF, ih]
  rw [e2] at e
  have := popF_le 12 (un s)
  unfold zpop
  omega
theorem zpop_pos {s : Int32} (h : s ≠ 0) : 1 ≤ zpop s := by have := zpop_low h; omega
theorem un_not (s : Int32) (k : Nat) (hk : k < 32) : (un (s ^^^ -1)).testBit k = !(un s).testBit k := by
  rw [un_xor, Nat.testBit_xor, show un (-1) = 2 ^ 32 - 1 by rfl, Nat.testBit_two_pow_sub_one]
  simp [hk]
theorem or_andn {s x : Int32} (h : (s ||| x) &&& (s ^^^ -1) = 0) : s ||| x = s := by
  apply un_ext
  intro k hk
  have e : (un ((s ||| x) &&& (s ^^^ -1))).testBit k = (un 0).testBit k := by rw [h]
  rw [un_and, Nat.testBit_and, un_not s k hk, un_or, Nat.testBit_or, show un 0 = 0 by rfl, Nat.zero_testBit] at e
  rw [un_or, Nat.testBit_or]
  revert e
  cases (un s).testBit k <;> cases (un x).testBit k <;> simp
theorem zbl_ne (B : Nat → Int32) : ∀ s : Int32, s ≠ 4095 → zor B s s 12 = 4095 → zor B s s 12 &&& (s ^^^ -1) ≠ 0 := by
  intro s hs he h0
  rw [zor_out] at he h0
  exact hs ((or_andn h0).symm.trans he)
theorem zor_lt {B : Nat → Int32} (hB : ∀ p, p < 12 → un (B p) < 4096) {s a : Int32} (ha : un a < 4096) : ∀ n, n ≤ 12 → un (zor B s a n) < 4096
  | 0, _ => ha
  | n + 1, hn => by
    have ih := zor_lt hB (s := s) ha n (by omega)
    simp only [zor]
    by_cases h : zbt s n
    · rw [if_pos h, un_or]; exact Nat.or_lt_two_pow (n := 12) ih (hB n (by omega))
    · rw [if_neg h]; exact ih
def zkb (B : Nat → Int32) (what : Int32) : Nat → Nat → Int32 → Int32 → Int32
  | 0, day, s, l => if s = 4095 then (if what = 0 then nI day else nI (ztz l)) else -1
  | m + 1, day, s, l => if s = 4095 then (if what = 0 then nI day else nI (ztz l)) else zkb B what m (day + 1) (zor B s s 12) (zor B s s 12 &&& (s ^^^ -1))
theorem zkb_eq {B : Nat → Int32} (hB : ∀ p, p < 12 → un (B p) < 4096) {w : Int32} : ∀ (m day : Nat) (s l l2 : Int32), un s < 4096 → (s = 4095 → l = l2) → ((zor B s s 12 = s ∧ s ≠ 4095) ∨ 13 - m ≤ zpop s) → zkb B w m day s l = zbl B w m day s l2 := by
  intro m
  induction m with
  | zero =>
    intro day s l l2 hs hl hc
    rcases hc with ⟨_, h⟩ | h
    · show (if s = 4095 then _ else _) = _; rw [if_neg h]; rfl
    · have := zpop_12 hs; omega
  | succ m ih =>
    intro day s l l2 hs hl hc
    show (if s = 4095 then _ else _) = (if s = 4095 then _ else _)
    by_cases h4 : s = 4095
    · rw [if_pos h4, if_pos h4, hl h4]
    · rw [if_neg h4, if_neg h4]
      refine ih _ _ _ _ (zor_lt hB hs 12 (by omega)) (fun _ => rfl) ?_
      by_cases hz : zor B s s 12 = s
      · left; rw [hz]; exact ⟨hz, h4⟩
      · rcases hc with ⟨h, _⟩ | h
        · exact absurd h hz
        · right
          have : zpop s < zpop (zor B s s 12) := by rw [zor_out] at hz ⊢; exact zpop_or hz
          omega
theorem s_mbell {d : Nat} {σ : zS} {Q : Int32 → zS → Prop} {v w : Int32} (h1 : 1 ≤ v → v ≤ 4095 → 0 ≤ w → w ≤ 1 → Q (zbl (σ 214) w 12 0 v v) (up σ 195 0 0)) (h0 : ¬ (1 ≤ v ∧ v ≤ 4095 ∧ 0 ≤ w ∧ w ≤ 1) → Q (-1) (up σ 195 0 0)) : zI1 (d + 2) 278 [.ref 195, .int v, .int w] σ Q := by
  show zk _ _ 0 [.ref 195, .int v, .int w, zun, zun, zun, zun, zun] [] _ _
  refine r_al0 zi_278_0 rfl ?_
  refine r_push zi_278_1 rfl ?_
  refine q_put zi_278_2 rfl cf_195_0 rfl ?_
  refine r_al0 zi_278_5 rfl ?_
  refine r_il1 zi_278_6 rfl ?_
  refine r_push zi_278_7 rfl ?_
  refine r_push zi_278_8 rfl ?_
  refine q_cIV zi_278_11 rfl rfl rfl rfl rfl rfl rfl cf_195_0.ob (s_isIn (fun i1 a1 => ?_) (fun i1 => ?_))
  · show zk _ _ 14 _ _ _ _
    refine r_if0 zi_278_14 rfl (fun c => absurd c (by decide)) (fun _ => ?_)
    refine r_al0 zi_278_17 rfl ?_
    refine r_il2 zi_278_18 rfl ?_
    refine r_push zi_278_19 rfl ?_
    refine r_push zi_278_20 rfl ?_
    refine q_cIV zi_278_21 rfl rfl rfl rfl rfl rfl rfl cf_195_0.ob (s_isIn (fun i2 a2 => ?_) (fun i2 => ?_))
    · show zk _ _ 24 _ _ _ _
      refine r_if1 zi_278_24 rfl (fun _ => ?_) (fun c => absurd c (by decide))
      refine r_il1 zi_278_29 rfl ?_
      refine r_is3 zi_278_30 rfl ?_
      refine r_il1 zi_278_31 rfl ?_
      refine r_is4 zi_278_32 rfl ?_
      refine r_push zi_278_34 rfl ?_
      refine r_is5 zi_278_35 rfl ?_
      exact l_mbell (zbl_ne _) 12 0 _ _ _ _ (by omega) (fun e => by grind) (h1 (by assumption) (by assumption) (by assumption) (by assumption))
    · show zk _ _ 24 _ _ _ _
      refine r_if1 zi_278_24 rfl (fun c => absurd (by decide) c) (fun _ => ?_)
      refine r_push zi_278_27 rfl ?_
      refine r_retI zi_278_28 rfl ?_
      exact ⟨_, rfl, h0 (by grind)⟩
  · show zk _ _ 14 _ _ _ _
    refine r_if0 zi_278_14 rfl (fun _ => ?_) (fun c => absurd (by decide) c)
    refine r_push zi_278_27 rfl ?_
    refine r_retI zi_278_28 rfl ?_
    exact ⟨_, rfl, h0 (by grind)⟩
theorem l_kbell {d : Nat} {σ : zS} {Q : Int32 → zS → Prop} {v w : Int32} : ∀ (m day : Nat) (s l : Int32) (u7 : Value), day + m = 12 → (s = 4095 → l ≠ 0) → Q (zkb (σ 28) w m day s l) σ → zk (d + 2) 149 35 [.ref 0, .int v, .int w, .int s, .int l, .int (nI day), .int (nI day), u7] [] σ (fun r t => ∃ v, r = some v ∧ Q v t) := by
  intro m
  induction m with
  | zero =>
    intro day s l u7 hd hl h
    have e : day = 12 := by omega
    subst e
    unfold zkb at h
    by_cases hs : s = 4095
    · rw [if_pos hs] at h
      have hl' := hl hs
      by_cases hw : w = 0
      · rw [if_pos hw] at h
        refine r_il6 zi_149_35 rfl ?_
        refine r_push zi_149_37 rfl ?_
        refine r_ic3 zi_149_39 rfl (fun _ => ?_) (fun c => absurd (nI_le (a := 12) (b := 12) (by omega) (by omega)) c)
        refine r_il3 zi_149_84 rfl ?_
        refine r_push zi_149_85 rfl ?_
        refine r_ic0 zi_149_88 rfl (fun _ => ?_) (fun c => absurd hs c)
        refine r_il2 zi_149_93 rfl ?_
        refine r_if1 zi_149_94 rfl (fun c => absurd hw c) (fun _ => ?_)
        refine r_il5 zi_149_97 rfl ?_
        refine r_goto zi_149_99 rfl ?_
        refine r_retI zi_149_107 rfl ?_
        exact ⟨_, rfl, h⟩
      · rw [if_neg hw] at h
        refine r_il6 zi_149_35 rfl ?_
        refine r_push zi_149_37 rfl ?_
        refine r_ic3 zi_149_39 rfl (fun _ => ?_) (fun c => absurd (nI_le (a := 12) (b := 12) (by omega) (by omega)) c)
        refine r_il3 zi_149_84 rfl ?_
        refine r_push zi_149_85 rfl ?_
        refine r_ic0 zi_149_88 rfl (fun _ => ?_) (fun c => absurd hs c)
        refine r_il2 zi_149_93 rfl ?_
        refine r_if1 zi_149_94 rfl (fun _ => ?_) (fun c => absurd c hw)
        refine r_il4 zi_149_102 rfl ?_
        refine r_cIS zi_149_104 rfl rfl rfl rfl rfl rfl (s_least hl' ?_)
        show zk _ _ 107 _ _ _ _
        refine r_retI zi_149_107 rfl ?_
        exact ⟨_, rfl, h⟩
    · rw [if_neg hs] at h
      refine r_il6 zi_149_35 rfl ?_
      refine r_push zi_149_37 rfl ?_
      refine r_ic3 zi_149_39 rfl (fun _ => ?_) (fun c => absurd (nI_le (a := 12) (b := 12) (by omega) (by omega)) c)
      refine r_il3 zi_149_84 rfl ?_
      refine r_push zi_149_85 rfl ?_
      refine r_ic0 zi_149_88 rfl (fun c => absurd c hs) (fun _ => ?_)
      refine r_push zi_149_91 rfl ?_
      refine r_retI zi_149_92 rfl ?_
      exact ⟨_, rfl, h⟩
  | succ m ih =>
    intro day s l u7 hd hl h
    unfold zkb at h
    by_cases hs : s = 4095
    · rw [if_pos hs] at h
      have hl' := hl hs
      by_cases hw : w = 0
      · rw [if_pos hw] at h
        refine r_il6 zi_149_35 rfl ?_
        refine r_push zi_149_37 rfl ?_
        refine r_ic3 zi_149_39 rfl (fun c => absurd c (nI_ge (b := 12) (by omega) (by omega))) (fun _ => ?_)
        refine r_il3 zi_149_42 rfl ?_
        refine r_push zi_149_43 rfl ?_
        refine r_ic0 zi_149_46 rfl (fun _ => ?_) (fun c => absurd hs c)
        refine r_il3 zi_149_84 rfl ?_
        refine r_push zi_149_85 rfl ?_
        refine r_ic0 zi_149_88 rfl (fun _ => ?_) (fun c => absurd hs c)
        refine r_il2 zi_149_93 rfl ?_
        refine r_if1 zi_149_94 rfl (fun c => absurd hw c) (fun _ => ?_)
        refine r_il5 zi_149_97 rfl ?_
        refine r_goto zi_149_99 rfl ?_
        refine r_retI zi_149_107 rfl ?_
        exact ⟨_, rfl, h⟩
      · rw [if_neg hw] at h
        refine r_il6 zi_149_35 rfl ?_
        refine r_push zi_149_37 rfl ?_
        refine r_ic3 zi_149_39 rfl (fun c => absurd c (nI_ge (b := 12) (by omega) (by omega))) (fun _ => ?_)
        refine r_il3 zi_149_42 rfl ?_
        refine r_push zi_149_43 rfl ?_
        refine r_ic0 zi_149_46 rfl (fun _ => ?_) (fun c => absurd hs c)
        refine r_il3 zi_149_84 rfl ?_
        refine r_push zi_149_85 rfl ?_
        refine r_ic0 zi_149_88 rfl (fun _ => ?_) (fun c => absurd hs c)
        refine r_il2 zi_149_93 rfl ?_
        refine r_if1 zi_149_94 rfl (fun _ => ?_) (fun c => absurd c hw)
        refine r_il4 zi_149_102 rfl ?_
        refine r_cIS zi_149_104 rfl rfl rfl rfl rfl rfl (s_least hl' ?_)
        show zk _ _ 107 _ _ _ _
        refine r_retI zi_149_107 rfl ?_
        exact ⟨_, rfl, h⟩
    · rw [if_neg hs] at h
      have ho := zor_out (σ 28) s s 12
      have hn := zbl_ne (σ 28) s hs
      rw [ho] at h hn
      refine r_il6 zi_149_35 rfl ?_
      refine r_push zi_149_37 rfl ?_
      refine r_ic3 zi_149_39 rfl (fun c => absurd c (nI_ge (b := 12) (by omega) (by omega))) (fun _ => ?_)
      refine r_il3 zi_149_42 rfl ?_
      refine r_push zi_149_43 rfl ?_
      refine r_ic0 zi_149_46 rfl (fun c => absurd c hs) (fun _ => ?_)
      refine r_il3 zi_149_49 rfl ?_
      refine r_al0 zi_149_50 rfl ?_
      refine q_getR zi_149_51 rfl cf_0_0 ?_
      refine q_getR zi_149_54 rfl cf_1_6 ?_
      refine r_il3 zi_149_57 rfl ?_
      refine q_cIV zi_149_58 rfl rfl rfl rfl rfl rfl rfl cf_27_0.ob (s_beside zWa27 ?_)
      show zk _ _ 61 _ _ _ _
      refine r_b4 zi_149_61 rfl ?_
      refine r_is7 zi_149_62 rfl ?_
      refine r_il7 zi_149_64 rfl ?_
      refine r_il3 zi_149_66 rfl ?_
      refine r_push zi_149_67 rfl ?_
      refine r_b5 zi_149_68 rfl ?_
      refine r_b3 zi_149_69 rfl ?_
      refine r_is4 zi_149_70 rfl ?_
      refine r_il7 zi_149_72 rfl ?_
      refine r_is3 zi_149_74 rfl ?_
      refine r_in5 zi_149_75 rfl ?_
      rw [show (nI day + 1 : Int32) = nI (day + 1) from nI_add _ _]
      refine r_in6 zi_149_78 rfl ?_
      rw [show (nI day + 1 : Int32) = nI (day + 1) from nI_add _ _]
      refine r_goto zi_149_81 rfl ?_
      exact ih (day + 1) _ _ _ (by omega) hn h
theorem s_kbell {d : Nat} {σ : zS} {Q : Int32 → zS → Prop} {v w : Int32} (hB : ∀ p, p < 12 → un (σ 28 p) < 4096) (h1 : 1 ≤ v → v ≤ 4095 → 0 ≤ w → w ≤ 1 → Q (zbl (σ 28) w 12 0 v v) σ) (h0 : ¬ (1 ≤ v ∧ v ≤ 4095 ∧ 0 ≤ w ∧ w ≤ 1) → Q (-1) σ) : zI1 (d + 2) 149 [.ref 0, .int v, .int w] σ Q := by
  have key : 1 ≤ v → v ≤ 4095 → 0 ≤ w → w ≤ 1 → Q (zkb (σ 28) w 12 0 v 4095) σ := by
    intro a b c e
    obtain ⟨n, hn, rfl⟩ := zI_ofle (v := v) (n := 4095) (by grind) b (by omega)
    have hne : nI n ≠ 0 := by intro z; rw [z] at a; exact absurd a (by decide)
    rw [zkb_eq hB 12 0 (nI n) 4095 (nI n) (by rw [un_nI (by omega)]; omega) (fun z => z.symm) (Or.inr (zpop_pos hne))]
    exact h1 a b c e
  show zk _ _ 0 [.ref 0, .int v, .int w, zun, zun, zun, zun, zun] [] _ _
  refine r_il1 zi_149_0 rfl ?_
  refine r_push zi_149_1 rfl ?_
  refine r_push zi_149_2 rfl ?_
  refine r_cIS zi_149_5 rfl rfl rfl rfl rfl rfl (s_within (fun i1 a1 => ?_) (fun i1 => ?_))
  · show zk _ _ 8 _ _ _ _
    refine r_if0 zi_149_8 rfl (fun c => absurd c (by decide)) (fun _ => ?_)
    refine r_il2 zi_149_11 rfl ?_
    refine r_push zi_149_12 rfl ?_
    refine r_push zi_149_13 rfl ?_
    refine r_cIS zi_149_14 rfl rfl rfl rfl rfl rfl (s_within (fun i2 a2 => ?_) (fun i2 => ?_))
    · show zk _ _ 17 _ _ _ _
      refine r_if1 zi_149_17 rfl (fun _ => ?_) (fun c => absurd c (by decide))
      refine r_il1 zi_149_22 rfl ?_
      refine r_is3 zi_149_23 rfl ?_
      refine r_push zi_149_24 rfl ?_
      refine r_is4 zi_149_27 rfl ?_
      refine r_push zi_149_29 rfl ?_
      refine r_is5 zi_149_30 rfl ?_
      refine r_push zi_149_32 rfl ?_
      refine r_is6 zi_149_33 rfl ?_
      exact l_kbell 12 0 _ _ _ (by omega) (fun _ => by decide) (key (by assumption) (by assumption) (by assumption) (by assumption))
    · show zk _ _ 17 _ _ _ _
      refine r_if1 zi_149_17 rfl (fun c => absurd (by decide) c) (fun _ => ?_)
      refine r_push zi_149_20 rfl ?_
      refine r_retI zi_149_21 rfl ?_
      exact ⟨_, rfl, h0 (by grind)⟩
  · show zk _ _ 8 _ _ _ _
    refine r_if0 zi_149_8 rfl (fun _ => ?_) (fun c => absurd (by decide) c)
    refine r_push zi_149_20 rfl ?_
    refine r_retI zi_149_21 rfl ?_
    exact ⟨_, rfl, h0 (by grind)⟩

