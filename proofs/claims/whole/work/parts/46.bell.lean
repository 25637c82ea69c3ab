/-! WAYS, and the bell -/
def zWa (k : Nat) : Prop := zFR k 10 0 (k + 1) ∧ zFR k 10 1 (k + 2) ∧ zIs (k + 1) (.inl 12) ∧ zIs (k + 2) (.inl 144)
theorem zWa27 : zWa 27 := ⟨cf_27_0, cf_27_1, ca_28, ca_29⟩
theorem zWa64 : zWa 64 := ⟨cf_64_0, cf_64_1, ca_65, ca_66⟩
def zor (B : Nat → Int32) (s : Int32) (a : Int32) : Nat → Int32
  | 0 => a
  | n + 1 => if zbt s n then zor B s a n ||| B n else zor B s a n
theorem zor_out (B : Nat → Int32) (s a : Int32) : ∀ n, zor B s a n = a ||| zor B s 0 n
  | 0 => by show a = a ||| 0; exact (Int32.or_zero).symm
  | n + 1 => by
    simp only [zor]
    by_cases h : zbt s n
    · rw [if_pos h, if_pos h, zor_out B s a n, Int32.or_assoc]
    · rw [if_neg h, if_neg h, zor_out B s a n]
theorem l_beside {d k : Nat} {σ : zS} {Q : Int32 → zS → Prop} {s : Int32} (hk : zWa k) (h : Q (zor (σ (k + 1)) s 0 12) σ) : ∀ (m p : Nat) (a : Int32), p + m = 12 → a = zor (σ (k + 1)) s 0 p → zk d 117 4 [.ref k, .int s, .int a, .int (nI p)] [] σ (fun r t => ∃ v, r = some v ∧ Q v t) := by
  intro m
  induction m with
  | zero =>
    intro p a hp ha
    have e : p = 12 := by omega
    subst e
    refine r_il3 zi_117_4 rfl ?_
    refine r_push zi_117_5 rfl ?_
    refine r_ic3 zi_117_7 rfl (fun _ => ?_) (fun c => absurd (nI_le (a := 12) (b := 12) (by omega) (by omega)) c)
    refine r_il2 zi_117_33 rfl ?_
    refine r_retI zi_117_34 rfl ?_
    exact ⟨_, rfl, by rw [ha]; exact h⟩
  | succ m ih =>
    intro p a hp ha
    by_cases hs : s >>> (nI p &&& 31) &&& 1 = 1
    · refine r_il3 zi_117_4 rfl ?_
      refine r_push zi_117_5 rfl ?_
      refine r_ic3 zi_117_7 rfl (fun c => absurd c (nI_ge (b := 12) (by omega) (by omega))) (fun _ => ?_)
      refine r_il1 zi_117_10 rfl ?_
      refine r_il3 zi_117_11 rfl ?_
      refine r_b7 zi_117_12 rfl ?_
      refine r_push zi_117_13 rfl ?_
      refine r_b3 zi_117_14 rfl ?_
      refine r_if0 zi_117_15 rfl (fun c => absurd c (by rw [hs]; decide)) (fun _ => ?_)
      refine r_il2 zi_117_18 rfl ?_
      refine r_al0 zi_117_19 rfl ?_
      refine q_getR zi_117_20 rfl hk.1 ?_
      refine r_il3 zi_117_23 rfl ?_
      refine r_ald zi_117_24 rfl p hk.2.2.1 (by first | rfl | (simp only [zI_add, zI_mul] <;> rfl)) (by first | omega | decide) ?_
      refine r_b4 zi_117_25 rfl ?_
      refine r_is2 zi_117_26 rfl ?_
      refine r_in3 zi_117_27 rfl ?_
      rw [show (nI p + 1 : Int32) = nI (p + 1) from nI_add _ _]
      refine r_goto zi_117_30 rfl ?_
      exact ih (p + 1) _ (by omega) (by rw [ha]; simp only [zor]; rw [if_pos (decide_eq_true hs)])
    · have h0 := (un_and1 (s >>> (nI p &&& 31))).resolve_right hs
      refine r_il3 zi_117_4 rfl ?_
      refine r_push zi_117_5 rfl ?_
      refine r_ic3 zi_117_7 rfl (fun c => absurd c (nI_ge (b := 12) (by omega) (by omega))) (fun _ => ?_)
      refine r_il1 zi_117_10 rfl ?_
      refine r_il3 zi_117_11 rfl ?_
      refine r_b7 zi_117_12 rfl ?_
      refine r_push zi_117_13 rfl ?_
      refine r_b3 zi_117_14 rfl ?_
      refine r_if0 zi_117_15 rfl (fun _ => ?_) (fun c => absurd h0 c)
      refine r_in3 zi_117_27 rfl ?_
      rw [show (nI p + 1 : Int32) = nI (p + 1) from nI_add _ _]
      refine r_goto zi_117_30 rfl ?_
      exact ih (p + 1) _ (by omega) (by rw [ha]; simp only [zor]; rw [if_neg (fun z => hs (of_decide_eq_true z))])
theorem s_beside {d k : Nat} {σ : zS} {Q : Int32 → zS → Prop} {s : Int32} (hk : zWa k) (h : Q (zor (σ (k + 1)) s 0 12) σ) : zI1 d 117 [.ref k, .int s] σ Q := by
  show zk _ _ 0 [.ref k, .int s, zun, zun] [] _ _
  refine r_push zi_117_0 rfl ?_
  refine r_is2 zi_117_1 rfl ?_
  refine r_push zi_117_2 rfl ?_
  refine r_is3 zi_117_3 rfl ?_
  exact l_beside hk h 12 0 0 (by omega) rfl
def zbl (B : Nat → Int32) (what : Int32) : Nat → Nat → Int32 → Int32 → Int32
  | 0, _, _, _ => -1
  | m + 1, day, s, l => if s = 4095 then (if what = 0 then nI day else nI (ztz l)) else zbl B what m (day + 1) (zor B s s 12) (zor B s s 12 &&& (s ^^^ -1))
theorem l_mheard {d : Nat} {σ : zS} {R : Option Int32 → zS → Prop} {v w s l t : Int32} (h : zk (d + 1) 278 113 [.ref 195, .int v, .int w, .int s, .int l, .int t, .int (zor (σ 214) s s 12), .int (nI 12)] [] σ R) : ∀ (m p : Nat) (a : Int32), p + m = 12 → a = zor (σ 214) s s p → zk (d + 1) 278 78 [.ref 195, .int v, .int w, .int s, .int l, .int t, .int a, .int (nI p)] [] σ R := by
  intro m
  induction m with
  | zero =>
    intro p a hp ha
    have e : p = 12 := by omega
    subst e
    refine r_il7 zi_278_78 rfl ?_
    refine r_push zi_278_80 rfl ?_
    refine r_ic3 zi_278_82 rfl (fun _ => ?_) (fun c => absurd (nI_le (a := 12) (b := 12) (by omega) (by omega)) c)
    rw [ha]; exact h
  | succ m ih =>
    intro p a hp ha
    by_cases hs : s >>> (nI p &&& 31) &&& 1 = 1
    · refine r_il7 zi_278_78 rfl ?_
      refine r_push zi_278_80 rfl ?_
      refine r_ic3 zi_278_82 rfl (fun c => absurd c (nI_ge (b := 12) (by omega) (by omega))) (fun _ => ?_)
      refine r_al0 zi_278_85 rfl ?_
      refine r_il3 zi_278_86 rfl ?_
      refine r_il7 zi_278_87 rfl ?_
      refine q_cIV zi_278_89 rfl rfl rfl rfl rfl rfl rfl cf_195_0.ob (s_has (fun _ => ?_) (fun z => absurd hs z))
      show zk _ _ 92 _ _ _ _
      refine r_if0 zi_278_92 rfl (fun c => absurd c (by decide)) (fun _ => ?_)
      refine r_il6 zi_278_95 rfl ?_
      refine r_al0 zi_278_97 rfl ?_
      refine q_getR zi_278_98 rfl cf_195_38 ?_
      refine r_il7 zi_278_101 rfl ?_
      refine r_ald zi_278_103 rfl p ca_214 (by first | rfl | (simp only [zI_add, zI_mul] <;> rfl)) (by first | omega | decide) ?_
      refine r_b4 zi_278_104 rfl ?_
      refine r_is6 zi_278_105 rfl ?_
      refine r_in7 zi_278_107 rfl ?_
      rw [show (nI p + 1 : Int32) = nI (p + 1) from nI_add _ _]
      refine r_goto zi_278_110 rfl ?_
      exact ih (p + 1) _ (by omega) (by rw [ha]; simp only [zor]; rw [if_pos (decide_eq_true hs)])
    · refine r_il7 zi_278_78 rfl ?_
      refine r_push zi_278_80 rfl ?_
      refine r_ic3 zi_278_82 rfl (fun c => absurd c (nI_ge (b := 12) (by omega) (by omega))) (fun _ => ?_)
      refine r_al0 zi_278_85 rfl ?_
      refine r_il3 zi_278_86 rfl ?_
      refine r_il7 zi_278_87 rfl ?_
      refine q_cIV zi_278_89 rfl rfl rfl rfl rfl rfl rfl cf_195_0.ob (s_has (fun z => absurd z hs) (fun _ => ?_))
      show zk _ _ 92 _ _ _ _
      refine r_if0 zi_278_92 rfl (fun _ => ?_) (fun c => absurd (by decide) c)
      refine r_in7 zi_278_107 rfl ?_
      rw [show (nI p + 1 : Int32) = nI (p + 1) from nI_add _ _]
      refine r_goto zi_278_110 rfl ?_
      exact ih (p + 1) _ (by omega) (by rw [ha]; simp only [zor]; rw [if_neg (fun z => hs (of_decide_eq_true z))])
theorem l_mbell {d : Nat} {σ : zS} {Q : Int32 → zS → Prop} {v w : Int32} (hl0 : ∀ s : Int32, s ≠ 4095 → zor (σ 214) s s 12 = 4095 → zor (σ 214) s s 12 &&& (s ^^^ -1) ≠ 0) : ∀ (m day : Nat) (s l : Int32) (u6 u7 : Value), day + m = 12 → (s = 4095 → l ≠ 0) → Q (zbl (σ 214) w m day s l) σ → zk (d + 2) 278 37 [.ref 195, .int v, .int w, .int s, .int l, .int (nI day), u6, u7] [] σ (fun r t => ∃ v, r = some v ∧ Q v t) := by
  intro m
  induction m with
  | zero =>
    intro day s l u6 u7 hd hl h
    have e : day = 12 := by omega
    subst e
    refine r_il5 zi_278_37 rfl ?_
    refine r_push zi_278_39 rfl ?_
    refine r_ic3 zi_278_41 rfl (fun _ => ?_) (fun c => absurd (nI_le (a := 12) (b := 12) (by omega) (by omega)) c)
    refine r_push zi_278_130 rfl ?_
    refine r_retI zi_278_131 rfl ?_
    exact ⟨_, rfl, h⟩
  | succ m ih =>
    intro day s l u6 u7 hd hl h
    unfold zbl at h
    by_cases hs : s = 4095
    · rw [if_pos hs] at h
      have hl' := hl hs
      by_cases hw : w = 0
      · rw [if_pos hw] at h
        refine r_il5 zi_278_37 rfl ?_
        refine r_push zi_278_39 rfl ?_
        refine r_ic3 zi_278_41 rfl (fun c => absurd c (nI_ge (b := 12) (by omega) (by omega))) (fun _ => ?_)
        refine r_il3 zi_278_44 rfl ?_
        refine r_push zi_278_45 rfl ?_
        refine r_ic1 zi_278_48 rfl (fun c => absurd hs c) (fun _ => ?_)
        refine r_il2 zi_278_51 rfl ?_
        refine r_if1 zi_278_52 rfl (fun c => absurd hw c) (fun _ => ?_)
        refine r_il5 zi_278_55 rfl ?_
        refine r_retI zi_278_57 rfl ?_
        exact ⟨_, rfl, h⟩
      · rw [if_neg hw] at h
        refine r_il5 zi_278_37 rfl ?_
        refine r_push zi_278_39 rfl ?_
        refine r_ic3 zi_278_41 rfl (fun c => absurd c (nI_ge (b := 12) (by omega) (by omega))) (fun _ => ?_)
        refine r_il3 zi_278_44 rfl ?_
        refine r_push zi_278_45 rfl ?_
        refine r_ic1 zi_278_48 rfl (fun c => absurd hs c) (fun _ => ?_)
        refine r_il2 zi_278_51 rfl ?_
        refine r_if1 zi_278_52 rfl (fun _ => ?_) (fun c => absurd c hw)
        refine r_il3 zi_278_58 rfl ?_
        refine r_push zi_278_59 rfl ?_
        refine r_ic1 zi_278_62 rfl (fun c => absurd hs c) (fun _ => ?_)
        refine r_al0 zi_278_65 rfl ?_
        refine r_il4 zi_278_66 rfl ?_
        refine q_cIV zi_278_68 rfl rfl rfl rfl rfl rfl rfl cf_195_0.ob (s_lowest hl' ?_)
        show zk _ _ 71 _ _ _ _
        refine r_retI zi_278_71 rfl ?_
        exact ⟨_, rfl, h⟩
    · rw [if_neg hs] at h
      refine r_il5 zi_278_37 rfl ?_
      refine r_push zi_278_39 rfl ?_
      refine r_ic3 zi_278_41 rfl (fun c => absurd c (nI_ge (b := 12) (by omega) (by omega))) (fun _ => ?_)
      refine r_il3 zi_278_44 rfl ?_
      refine r_push zi_278_45 rfl ?_
      refine r_ic1 zi_278_48 rfl (fun _ => ?_) (fun c => absurd c hs)
      refine r_il3 zi_278_58 rfl ?_
      refine r_push zi_278_59 rfl ?_
      refine r_ic1 zi_278_62 rfl (fun _ => ?_) (fun c => absurd c hs)
      refine r_il3 zi_278_72 rfl ?_
      refine r_is6 zi_278_73 rfl ?_
      refine r_push zi_278_75 rfl ?_
      refine r_is7 zi_278_76 rfl ?_
      refine l_mheard ?_ 12 0 _ (by omega) rfl
      show zk _ _ 113 _ _ _ _
      refine r_il6 zi_278_113 rfl ?_
      refine r_il3 zi_278_115 rfl ?_
      refine r_push zi_278_116 rfl ?_
      refine r_b5 zi_278_117 rfl ?_
      refine r_b3 zi_278_118 rfl ?_
      refine r_is4 zi_278_119 rfl ?_
      refine r_il6 zi_278_121 rfl ?_
      refine r_is3 zi_278_123 rfl ?_
      refine r_in5 zi_278_124 rfl ?_
      rw [show (nI day + 1 : Int32) = nI (day + 1) from nI_add _ _]
      refine r_goto zi_278_127 rfl ?_
      exact ih (day + 1) _ _ _ _ (by omega) (hl0 s hs) h

