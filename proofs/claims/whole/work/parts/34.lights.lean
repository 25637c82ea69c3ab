/-! LIGHTS -/
def ln (v : Int32) : Int32 := ((v <<< (1 &&& 31) ||| v >>> (7 &&& 31)) ^^^ (v >>> (1 &&& 31) ||| v <<< (7 &&& 31))) &&& 255
def lni : Nat → Int32 → Int32
  | 0, v => v
  | n + 1, v => lni n (ln v)
theorem lni_s : ∀ (n : Nat) (v : Int32), lni (n + 1) v = ln (lni n v)
  | 0, v => rfl
  | n + 1, v => by
    show lni (n + 1) (ln v) = ln (lni n (ln v))
    exact lni_s n (ln v)
def lrep (v : Int32) (t : Nat) : Bool := (List.range t).any (fun s => decide (lni s v = lni t v))
def lfst (v : Int32) : Nat → Nat → Nat
  | 0, t => t
  | m + 1, t => if lrep v t = true then t else lfst v m (t + 1)
theorem lrep6 : ∀ k, k < 256 → lrep (nI k) 6 = true := by decide +kernel
theorem ln_in (v : Int32) : ∃ k, k < 256 ∧ ln v = nI k := by
  obtain ⟨k, hk, e⟩ := pk_andE ((v <<< (1 &&& 31) ||| v >>> (7 &&& 31)) ^^^ (v >>> (1 &&& 31) ||| v <<< (7 &&& 31))) (m := 255) 8 (by decide +kernel)
  exact ⟨k, hk, e⟩
theorem lni_in (n : Nat) {k : Nat} (hk : k < 256) : ∃ j, j < 256 ∧ lni n (nI k) = nI j := by
  cases n with
  | zero => exact ⟨k, hk, rfl⟩
  | succ n =>
    rw [lni_s]
    exact ln_in _
theorem s_mln {d : Nat} {σ : zS} {Q : Int32 → zS → Prop} {v : Int32} (h : Q (ln v) σ) : zI1 d 282 [.ref 195, .int v] σ Q := by
  show zk _ _ 0 [.ref 195, .int v] [] _ _
  refine r_il1 zi_282_0 rfl ?_
  refine r_push zi_282_1 rfl ?_
  refine r_b6 zi_282_2 rfl ?_
  refine r_il1 zi_282_3 rfl ?_
  refine r_push zi_282_4 rfl ?_
  refine r_b7 zi_282_6 rfl ?_
  refine r_b4 zi_282_7 rfl ?_
  refine r_il1 zi_282_8 rfl ?_
  refine r_push zi_282_9 rfl ?_
  refine r_b7 zi_282_10 rfl ?_
  refine r_il1 zi_282_11 rfl ?_
  refine r_push zi_282_12 rfl ?_
  refine r_b6 zi_282_14 rfl ?_
  refine r_b4 zi_282_15 rfl ?_
  refine r_b5 zi_282_16 rfl ?_
  refine r_push zi_282_17 rfl ?_
  refine r_b3 zi_282_20 rfl ?_
  refine r_retI zi_282_21 rfl ?_
  exact ⟨_, rfl, h⟩
theorem s_kln {d : Nat} {σ : zS} {Q : Int32 → zS → Prop} {v : Int32} (h : Q (ln v) σ) : zI1 d 88 [.int v] σ Q := by
  show zk _ _ 0 [.int v, zun, zun] [] _ _
  refine r_il0 zi_88_0 rfl ?_
  refine r_push zi_88_1 rfl ?_
  refine r_b6 zi_88_2 rfl ?_
  refine r_il0 zi_88_3 rfl ?_
  refine r_push zi_88_4 rfl ?_
  refine r_b7 zi_88_6 rfl ?_
  refine r_b4 zi_88_7 rfl ?_
  refine r_is1 zi_88_8 rfl ?_
  refine r_il0 zi_88_9 rfl ?_
  refine r_push zi_88_10 rfl ?_
  refine r_b7 zi_88_11 rfl ?_
  refine r_il0 zi_88_12 rfl ?_
  refine r_push zi_88_13 rfl ?_
  refine r_b6 zi_88_15 rfl ?_
  refine r_b4 zi_88_16 rfl ?_
  refine r_is2 zi_88_17 rfl ?_
  refine r_il1 zi_88_18 rfl ?_
  refine r_il2 zi_88_19 rfl ?_
  refine r_b5 zi_88_20 rfl ?_
  refine r_push zi_88_21 rfl ?_
  refine r_b3 zi_88_24 rfl ?_
  refine r_retI zi_88_25 rfl ?_
  exact ⟨_, rfl, h⟩
theorem l_ml0 {d : Nat} {σ : zS} {Q : Int32 → zS → Prop} {r : Int32} {n : Nat} (hn : n ≤ 100000) : ∀ (m t : Nat) (v : Int32), t + m = n → (h : Q (lni m v) σ) → zk (d + 1) 283 55 [.ref 195, .int r, .int (nI n), .int 0, .int v, .int (nI t)] [] σ (fun r t => ∃ v, r = some v ∧ Q v t) := by
  intro m
  induction m with
  | zero =>
    intro t v ht h
    refine r_il5 zi_283_55 rfl ?_
    refine r_il2 zi_283_57 rfl ?_
    refine r_ic3 zi_283_58 rfl (fun _ => ?_) (fun c => absurd (nI_le (by omega) (by omega)) c)
    refine r_il4 zi_283_75 rfl ?_
    refine r_retI zi_283_77 rfl ?_
    exact ⟨_, rfl, h⟩
  | succ m ih =>
    intro t v ht h
    refine r_il5 zi_283_55 rfl ?_
    refine r_il2 zi_283_57 rfl ?_
    refine r_ic3 zi_283_58 rfl (fun c => absurd c (nI_ge (by omega) (by omega))) (fun _ => ?_)
    refine r_al0 zi_283_61 rfl ?_
    refine r_il4 zi_283_62 rfl ?_
    refine q_cIV zi_283_64 rfl rfl rfl rfl rfl rfl rfl cf_195_0.ob (s_mln ?_)
    show zk _ _ 67 _ _ _ _
    refine r_is4 zi_283_67 rfl ?_
    refine r_in5 zi_283_69 rfl ?_
    rw [show (nI t + 1 : Int32) = nI (t + 1) from nI_add _ _]
    refine r_goto zi_283_72 rfl ?_
    exact ih (t + 1) _ (by omega) h
theorem l_kl0 {d : Nat} {σ : zS} {Q : Int32 → zS → Prop} {r : Int32} {n : Nat} (hn : n ≤ 100000) : ∀ (m t : Nat) (v : Int32), t + m = n → (h : Q (lni m v) σ) → zk (d + 1) 87 4 [.int r, .int (nI n), .int v, .int (nI t)] [] σ (fun r t => ∃ v, r = some v ∧ Q v t) := by
  intro m
  induction m with
  | zero =>
    intro t v ht h
    refine r_il3 zi_87_4 rfl ?_
    refine r_il1 zi_87_5 rfl ?_
    refine r_ic3 zi_87_6 rfl (fun _ => ?_) (fun c => absurd (nI_le (by omega) (by omega)) c)
    refine r_il2 zi_87_24 rfl ?_
    refine r_retI zi_87_25 rfl ?_
    exact ⟨_, rfl, h⟩
  | succ m ih =>
    intro t v ht h
    by_cases h0 : v = 0
    · have hz : ∀ k, lni k (0 : Int32) = 0 := by
        intro k
        induction k with
        | zero => rfl
        | succ k ihk => rw [lni_s, ihk]; decide
      rw [h0, hz] at h
      refine r_il3 zi_87_4 rfl ?_
      refine r_il1 zi_87_5 rfl ?_
      refine r_ic3 zi_87_6 rfl (fun c => absurd c (nI_ge (by omega) (by omega))) (fun _ => ?_)
      refine r_il2 zi_87_9 rfl ?_
      refine r_if0 zi_87_10 rfl (fun _ => ?_) (fun c => absurd h0 c)
      refine r_il2 zi_87_24 rfl ?_
      refine r_retI zi_87_25 rfl ?_
      exact ⟨_, rfl, by rw [h0]; exact h⟩
    · refine r_il3 zi_87_4 rfl ?_
      refine r_il1 zi_87_5 rfl ?_
      refine r_ic3 zi_87_6 rfl (fun c => absurd c (nI_ge (by omega) (by omega))) (fun _ => ?_)
      refine r_il2 zi_87_9 rfl ?_
      refine r_if0 zi_87_10 rfl (fun c => absurd c h0) (fun _ => ?_)
      refine r_il2 zi_87_13 rfl ?_
      refine r_cIS zi_87_14 rfl rfl rfl rfl rfl rfl (s_kln ?_)
      show zk _ _ 17 _ _ _ _
      refine r_is2 zi_87_17 rfl ?_
      refine r_in3 zi_87_18 rfl ?_
      rw [show (nI t + 1 : Int32) = nI (t + 1) from nI_add _ _]
      refine r_goto zi_87_21 rfl ?_
      exact ih (t + 1) _ (by omega) h
theorem s_krb {d : Nat} {σ : zS} {Q : Int32 → zS → Prop} {r v : Int32} (h0 : 0 ≤ v) (h1 : v ≤ 100000) (h : ∀ n, v = nI n → n ≤ 100000 → Q (lni n r) σ) : zI1 (d + 1) 87 [.int r, .int v] σ Q := by
  obtain ⟨n, hn, rfl⟩ := zI_ofle (v := v) (n := 100000) h0 h1 (by omega)
  show zk _ _ 0 [.int r, .int (nI n), zun, zun] [] _ _
  refine r_il0 zi_87_0 rfl ?_
  refine r_is2 zi_87_1 rfl ?_
  refine r_push zi_87_2 rfl ?_
  refine r_is3 zi_87_3 rfl ?_
  exact l_kl0 hn n 0 r (by omega) (h n rfl hn)
theorem l_kl1 {d : Nat} {τ : zS} {Q : Int32 → zS → Prop} {r : Int32} {k t : Nat} (hk : k < 256) (ht : t ≤ 6) (hrow : ∀ s, s < t → τ 193 s = lni s (nI k)) (hy : lrep (nI k) t = true → Q (nI t) τ)
    (hno : lrep (nI k) t = false → ∀ u, zk (d + 1) 89 41 [.ref 177, .int r, .int (lni t (nI k)), .int (nI t), u] [] τ (fun r t => ∃ v, r = some v ∧ Q v t)) : ∀ (m b : Nat), b + m = t → (∀ s, s < b → ¬ lni s (nI k) = lni t (nI k)) → zk (d + 1) 89 16 [.ref 177, .int r, .int (lni t (nI k)), .int (nI t), .int (nI b)] [] τ (fun r t => ∃ v, r = some v ∧ Q v t) := by
  intro m
  induction m with
  | zero =>
    intro b hb hn
    have hb' : b = t := by omega
    subst hb'
    have hf : lrep (nI k) b = false := by
      simp only [lrep, List.any_eq_false, List.mem_range, decide_eq_true_eq]
      exact hn
    refine r_il4 zi_89_16 rfl ?_
    refine r_il3 zi_89_18 rfl ?_
    refine r_ic3 zi_89_19 rfl (fun _ => ?_) (fun c => absurd (nI_le (by omega) (by omega)) c)
    exact hno hf _
  | succ m ih =>
    intro b hb hn
    by_cases he : lni b (nI k) = lni t (nI k)
    · have hy2 := hy (by
        simp only [lrep, List.any_eq_true, List.mem_range, decide_eq_true_eq]
        exact ⟨b, by omega, he⟩)
      refine r_il4 zi_89_16 rfl ?_
      refine r_il3 zi_89_18 rfl ?_
      refine r_ic3 zi_89_19 rfl (fun c => absurd c (nI_ge (by omega) (by omega))) (fun _ => ?_)
      refine r_al0 zi_89_22 rfl ?_
      refine q_getR zi_89_23 rfl cf_177_19 ?_
      refine r_il4 zi_89_26 rfl ?_
      refine r_ald zi_89_28 rfl b ca_193 (by first | rfl | (simp only [zI_add, zI_mul] <;> rfl)) (by first | omega | decide) ?_
      rw [hrow b (by omega)]
      refine r_il2 zi_89_29 rfl ?_
      refine r_ic1 zi_89_30 rfl (fun c => absurd he c) (fun _ => ?_)
      refine r_il3 zi_89_33 rfl ?_
      refine r_retI zi_89_34 rfl ?_
      exact ⟨_, rfl, hy2⟩
    · refine r_il4 zi_89_16 rfl ?_
      refine r_il3 zi_89_18 rfl ?_
      refine r_ic3 zi_89_19 rfl (fun c => absurd c (nI_ge (by omega) (by omega))) (fun _ => ?_)
      refine r_al0 zi_89_22 rfl ?_
      refine q_getR zi_89_23 rfl cf_177_19 ?_
      refine r_il4 zi_89_26 rfl ?_
      refine r_ald zi_89_28 rfl b ca_193 (by first | rfl | (simp only [zI_add, zI_mul] <;> rfl)) (by first | omega | decide) ?_
      rw [hrow b (by omega)]
      refine r_il2 zi_89_29 rfl ?_
      refine r_ic1 zi_89_30 rfl (fun _ => ?_) (fun c => absurd c he)
      refine r_in4 zi_89_35 rfl ?_
      rw [show (nI b + 1 : Int32) = nI (b + 1) from nI_add _ _]
      refine r_goto zi_89_38 rfl ?_
      refine ih (b + 1) (by omega) (fun s hs => ?_)
      rcases Nat.lt_or_ge s b with z | z
      · exact hn s z
      · rw [show s = b by omega]; exact he
theorem l_kl2 {d : Nat} {σ : zS} {Q : Int32 → zS → Prop} {r : Int32} {k : Nat} (hk : k < 256) : ∀ (m t : Nat) (u : Value) (τ : zS), t + m = 6 → Fr [193] σ τ → (∀ s, s < t → τ 193 s = lni s (nI k)) → (h : ∀ τ, Fr [193] σ τ → Q (nI (lfst (nI k) (m + 1) t)) τ) → zk (d + 1) 89 4 [.ref 177, .int r, .int (lni t (nI k)), .int (nI t), u] [] τ (fun r t => ∃ v, r = some v ∧ Q v t) := by
  intro m
  induction m with
  | zero =>
    intro t u τ ht hF hrow h
    have h2 := h τ hF
    rw [lfst] at h2
    refine r_il3 zi_89_4 rfl ?_
    refine r_al0 zi_89_5 rfl ?_
    refine q_getR zi_89_6 rfl cf_177_19 ?_
    refine r_alen zi_89_9 rfl ca_193 ?_
    refine r_ic3 zi_89_10 rfl (fun c => absurd c (nI_ge (b := 257) (by omega) (by omega))) (fun _ => ?_)
    refine r_push zi_89_13 rfl ?_
    refine r_is4 zi_89_14 rfl ?_
    refine l_kl1 hk (by omega) hrow (fun hy => ?_) (fun hno u => ?_) t 0 (by omega) (fun s hs => by omega)
    · rw [if_pos hy] at h2
      exact h2
    · rw [show t = 6 by omega, lrep6 k hk] at hno
      cases hno
  | succ m ih =>
    intro t u τ ht hF hrow h
    have key : lrep (nI k) t = false → ∀ u, zk (d + 1) 89 41 [.ref 177, .int r, .int (lni t (nI k)), .int (nI t), u] [] τ (fun r t => ∃ v, r = some v ∧ Q v t) := by
      intro hno u
      have h3 : ∀ τ, Fr [193] σ τ → Q (nI (lfst (nI k) (m + 1) (t + 1))) τ := fun τ hτ => by
        have h4 := h τ hτ
        rw [lfst, if_neg (by rw [hno]; decide)] at h4
        exact h4
      refine r_al0 zi_89_41 rfl ?_
      refine q_getR zi_89_42 rfl cf_177_19 ?_
      refine r_il3 zi_89_45 rfl ?_
      refine r_il2 zi_89_46 rfl ?_
      refine r_ast zi_89_47 rfl t ca_193 (by first | rfl | (simp only [zI_add, zI_mul] <;> rfl)) (by first | omega | decide) ?_
      refine r_il2 zi_89_48 rfl ?_
      refine r_cIS zi_89_49 rfl rfl rfl rfl rfl rfl (s_kln ?_)
      show zk _ _ 52 _ _ _ _
      refine r_is2 zi_89_52 rfl ?_
      refine r_in3 zi_89_53 rfl ?_
      rw [show (nI t + 1 : Int32) = nI (t + 1) from nI_add _ _]
      refine r_goto zi_89_56 rfl ?_
      rw [← lni_s]
      exact ih (t + 1) _ _ (by omega) (hF.put (by decide)) (fun s hs => by
        by_cases hst : s = t
        · subst hst; exact zup_eq
        · rw [zup_nj hst]; exact hrow s (by omega)) h3
    refine r_il3 zi_89_4 rfl ?_
    refine r_al0 zi_89_5 rfl ?_
    refine q_getR zi_89_6 rfl cf_177_19 ?_
    refine r_alen zi_89_9 rfl ca_193 ?_
    refine r_ic3 zi_89_10 rfl (fun c => absurd c (nI_ge (b := 257) (by omega) (by omega))) (fun _ => ?_)
    refine r_push zi_89_13 rfl ?_
    refine r_is4 zi_89_14 rfl ?_
    refine l_kl1 hk (by omega) hrow (fun hy => ?_) key t 0 (by omega) (fun s hs => by omega)
    have h2 := h τ hF
    rw [lfst, if_pos hy] at h2
    exact h2
theorem s_kfa {d : Nat} {σ : zS} {Q : Int32 → zS → Prop} {k : Nat} (hk : k < 256) (h : ∀ τ, Fr [193] σ τ → Q (nI (lfst (nI k) 7 0)) τ) : zI1 (d + 1) 89 [.ref 177, .int (nI k)] σ Q := by
  show zk _ _ 0 [.ref 177, .int (nI k), zun, zun, zun] [] _ _
  refine r_il1 zi_89_0 rfl ?_
  refine r_is2 zi_89_1 rfl ?_
  refine r_push zi_89_2 rfl ?_
  refine r_is3 zi_89_3 rfl ?_
  exact l_kl2 hk 6 0 _ σ (by omega) Fr.rf (fun s hs => by omega) h

theorem s_klights {d : Nat} {σ : zS} {Q : Int32 → zS → Prop} {r n w : Int32} (h1 : ∀ k, k < 256 → r = nI k → w = 1 → ∀ τ, Fr [193] σ τ → Q (nI (lfst (nI k) 7 0)) τ) (h2 : ∀ m, 0 ≤ r → r ≤ 255 → w = 0 → m ≤ 100000 → n = nI m → Q (lni m r) σ) (h0 : ¬ (0 ≤ r ∧ r ≤ 255 ∧ (w = 1 ∨ (w = 0 ∧ 0 ≤ n ∧ n ≤ 100000))) → Q (-1) σ) : zI1 (d + 2) 151 [.ref 0, .int r, .int n, .int w] σ Q := by
  show zk _ _ 0 [.ref 0, .int r, .int n, .int w] [] _ _
  have key : 0 ≤ r → r ≤ 255 → 0 ≤ w → w ≤ 1 → zk (d + 2) 151 22 [.ref 0, .int r, .int n, .int w] [] σ (fun r t => ∃ v, r = some v ∧ Q v t) := by
    intro hr1 hr2 hw1 hw2
    obtain ⟨k, hk, rfl⟩ := zI_ofle (v := r) (n := 255) hr1 hr2 (by omega)
    by_cases hw : w = 1
    · refine r_il3 zi_151_22 rfl ?_
      refine r_push zi_151_23 rfl ?_
      refine r_ic1 zi_151_24 rfl (fun c => absurd hw c) (fun _ => ?_)
      refine r_al0 zi_151_27 rfl ?_
      refine q_getR zi_151_28 rfl cf_0_8 ?_
      refine r_il1 zi_151_31 rfl ?_
      refine q_cIV zi_151_32 rfl rfl rfl rfl rfl rfl rfl cf_177_0.ob (s_kfa (k := k) (by omega) (fun τ hτ => ?_))
      show zk _ _ 35 _ _ _ _
      refine r_retI zi_151_35 rfl ?_
      exact ⟨_, rfl, h1 k (by omega) rfl hw τ hτ⟩
    · have hw0 : w = 0 := by grind
      refine r_il3 zi_151_22 rfl ?_
      refine r_push zi_151_23 rfl ?_
      refine r_ic1 zi_151_24 rfl (fun _ => ?_) (fun c => absurd c hw)
      refine r_il2 zi_151_36 rfl ?_
      refine r_push zi_151_37 rfl ?_
      refine r_push zi_151_38 rfl ?_
      refine r_cIS zi_151_41 rfl rfl rfl rfl rfl rfl (s_within (fun i1 a1 => ?_) (fun i1 => ?_))
      · show zk _ _ 44 _ _ _ _
        refine r_if0 zi_151_44 rfl (fun c => absurd c (by decide)) (fun _ => ?_)
        refine r_il1 zi_151_47 rfl ?_
        refine r_il2 zi_151_48 rfl ?_
        refine r_cIS zi_151_49 rfl rfl rfl rfl rfl rfl (s_krb (by assumption) (by assumption) (fun m hm hm2 => ?_))
        show zk _ _ 52 _ _ _ _
        refine r_goto zi_151_52 rfl ?_
        refine r_retI zi_151_56 rfl ?_
        exact ⟨_, rfl, h2 m hr1 hr2 hw0 hm2 hm⟩
      · show zk _ _ 44 _ _ _ _
        refine r_if0 zi_151_44 rfl (fun _ => ?_) (fun c => absurd (by decide) c)
        refine r_push zi_151_55 rfl ?_
        refine r_retI zi_151_56 rfl ?_
        exact ⟨_, rfl, h0 (by grind)⟩
  refine r_il1 zi_151_0 rfl ?_
  refine r_push zi_151_1 rfl ?_
  refine r_push zi_151_2 rfl ?_
  refine r_cIS zi_151_5 rfl rfl rfl rfl rfl rfl (s_within (fun i1 a1 => ?_) (fun i1 => ?_))
  · show zk _ _ 8 _ _ _ _
    refine r_if0 zi_151_8 rfl (fun c => absurd c (by decide)) (fun _ => ?_)
    refine r_il3 zi_151_11 rfl ?_
    refine r_push zi_151_12 rfl ?_
    refine r_push zi_151_13 rfl ?_
    refine r_cIS zi_151_14 rfl rfl rfl rfl rfl rfl (s_within (fun i2 a2 => ?_) (fun i2 => ?_))
    · show zk _ _ 17 _ _ _ _
      refine r_if1 zi_151_17 rfl (fun _ => ?_) (fun c => absurd c (by decide))
      exact key (by assumption) (by assumption) (by assumption) (by assumption)
    · show zk _ _ 17 _ _ _ _
      refine r_if1 zi_151_17 rfl (fun c => absurd (by decide) c) (fun _ => ?_)
      refine r_push zi_151_20 rfl ?_
      refine r_retI zi_151_21 rfl ?_
      exact ⟨_, rfl, h0 (by grind)⟩
  · show zk _ _ 8 _ _ _ _
    refine r_if0 zi_151_8 rfl (fun _ => ?_) (fun c => absurd (by decide) c)
    refine r_push zi_151_20 rfl ?_
    refine r_retI zi_151_21 rfl ?_
    exact ⟨_, rfl, h0 (by grind)⟩

