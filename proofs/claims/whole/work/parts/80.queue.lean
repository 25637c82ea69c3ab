/-! QUEUE, numbers -/
def zat (A P : Nat → Nat) (v : Nat) : Nat → Nat
  | 0 => 0
  | n + 1 => if v < A (P n) then zat A P v n else n + 1
def zPi (P : Nat → Nat) (a i : Nat) : Nat → Nat := fun t => if t < a then P t else if t = a then i else P (t - 1)
def zPm (A : Nat → Nat) : Nat → Nat → Nat
  | 0 => fun _ => 0
  | i + 1 => zPi (zPm A i) (zat A (zPm A i) (A i) i) i
abbrev zKy (A : Nat → Nat) (j : Nat) : Nat := A j * 16 + j
def zSo (A : Nat → Nat) (i : Nat) (P : Nat → Nat) : Prop := (∀ t, t < i → P t < i) ∧ ∀ t u, t < u → u < i → zKy A (P t) < zKy A (P u)
theorem zat_le {A P : Nat → Nat} {v : Nat} : ∀ n, zat A P v n ≤ n
  | 0 => Nat.le_refl _
  | n + 1 => by unfold zat; have := zat_le (A := A) (P := P) (v := v) n; split <;> omega
theorem zat_hi {A P : Nat → Nat} {v : Nat} : ∀ n t, zat A P v n ≤ t → t < n → v < A (P t)
  | 0, t, _, h => by omega
  | n + 1, t, h1, h2 => by
    unfold zat at h1
    by_cases e : v < A (P n)
    · rw [if_pos e] at h1
      by_cases e2 : t = n
      · subst e2; exact e
      · exact zat_hi n t h1 (by omega)
    · rw [if_neg e] at h1; omega
theorem zat_lo {A P : Nat → Nat} {v : Nat} : ∀ n, 0 < zat A P v n → A (P (zat A P v n - 1)) ≤ v
  | 0, h => by unfold zat at h; omega
  | n + 1, h => by
    unfold zat at h ⊢
    by_cases e : v < A (P n)
    · rw [if_pos e] at h ⊢; exact zat_lo n h
    · rw [if_neg e]; show A (P n) ≤ v; omega
theorem zSo_s {A P : Nat → Nat} {i : Nat} (hi : i < 16) (h : zSo A i P) : zSo A (i + 1) (zPi P (zat A P (A i) i) i) := by
  obtain ⟨h1, h2⟩ := h
  have hle := zat_le (A := A) (P := P) (v := A i) i
  have hhi := zat_hi (A := A) (P := P) (v := A i) i
  have hlo := zat_lo (A := A) (P := P) (v := A i) i
  generalize zat A P (A i) i = a at *
  have lo : ∀ t, t < a → zKy A (P t) < zKy A i := fun t ht => by
    have g1 := hlo (by omega)
    have g2 := h1 (a - 1) (by omega)
    by_cases e : t = a - 1
    · subst e; show A _ * 16 + _ < A i * 16 + i; omega
    · have g3 := h2 t (a - 1) (by omega) (by omega)
      have g3' : A (P t) * 16 + P t < A (P (a - 1)) * 16 + P (a - 1) := g3
      show A _ * 16 + _ < A i * 16 + i; omega
  have hi2 : ∀ t, a ≤ t → t < i → zKy A i < zKy A (P t) := fun t ht ht2 => by
    have g1 := hhi t ht ht2
    show A i * 16 + i < A _ * 16 + _; omega
  refine ⟨fun t ht => ?_, fun t u htu hu => ?_⟩
  · unfold zPi
    split
    · have := h1 t (by omega); omega
    · split
      · omega
      · have := h1 (t - 1) (by omega); omega
  · unfold zPi
    by_cases e1 : u < a
    · rw [if_pos e1, if_pos (by omega)]; exact h2 t u htu (by omega)
    · rw [if_neg e1]
      by_cases e2 : u = a
      · rw [if_pos e2, if_pos (by omega)]; exact lo t (by omega)
      · rw [if_neg e2]
        by_cases e3 : t < a
        · rw [if_pos e3]; exact h2 t (u - 1) (by omega) (by omega)
        · rw [if_neg e3]
          by_cases e4 : t = a
          · rw [if_pos e4]; exact hi2 (u - 1) (by omega) (by omega)
          · rw [if_neg e4]; exact h2 (t - 1) (u - 1) (by omega) (by omega)
theorem zSo_m (A : Nat → Nat) : ∀ i, i ≤ 16 → zSo A i (zPm A i)
  | 0, _ => ⟨fun t ht => (by omega), fun t u _ hu => (by omega)⟩
  | i + 1, h => zSo_s (by omega) (zSo_m A i (by omega))
theorem zSo_inj {A P : Nat → Nat} {c : Nat} (h : zSo A c P) {t u : Nat} (ht : t < c) (hu : u < c) (e : P t = P u) : t = u := by
  by_cases e1 : t < u
  · have := h.2 t u e1 hu; rw [e] at this; omega
  · by_cases e2 : u < t
    · have := h.2 u t e2 ht; rw [e] at this; omega
    · omega
theorem zsum_mark {P f : Nat → Nat} {c : Nat} (hP : ∀ t, t < c → P t < c) (hinj : ∀ t u, t < c → u < c → P t = P u → t = u) : ∀ m, m ≤ c → zsum (fun w => if zpr P m w = true then f w else 0) c = zsum (fun t => f (P t)) m := by
  intro m
  induction m with
  | zero =>
    intro _
    show zsum (fun w => if false = true then f w else 0) c = 0
    have : zsum (fun w => if false = true then f w else 0) c = zsum (fun w => 0 * 1) c := zsum_congr c (fun k _ => by simp)
    rw [this, zsum_mul 0]; simp
  | succ m ih =>
    intro hm
    have ih := ih (by omega)
    have hn : zpr P m (P m) = false := by
      cases hz : zpr P m (P m) with
      | false => rfl
      | true => obtain ⟨p, hp1, hp2⟩ := (zpr_iff m).mp hz; have := hinj p m (by omega) (by omega) hp2; omega
    have key : ∀ n, zsum (fun w => if zpr P (m + 1) w = true then f w else 0) n = zsum (fun w => if zpr P m w = true then f w else 0) n + (if P m < n then f (P m) else 0) := by
      intro n
      induction n with
      | zero => rfl
      | succ n ihn =>
        show zsum _ n + (if (zpr P m n || decide (P m = n)) = true then f n else 0) = zsum _ n + (if zpr P m n = true then f n else 0) + _
        rw [ihn]
        by_cases e : P m = n
        · rw [← e, hn, if_neg (show ¬ P m < P m by omega), if_pos (show P m < P m + 1 by omega)]
          simp
        · rw [decide_eq_false e, Bool.or_false]
          by_cases e2 : P m < n
          · rw [if_pos e2, if_pos (show P m < n + 1 by omega)]; omega
          · rw [if_neg e2, if_neg (show ¬ P m < n + 1 by omega)]; omega
    rw [key c, ih, if_pos (hP m (by omega))]
    rfl
theorem zSo_surj {A P : Nat → Nat} {c : Nat} (h : zSo A c P) {j : Nat} (hj : j < c) : ∃ t, t < c ∧ P t = j := by
  refine (zpr_iff c).mp ?_
  cases hz : zpr P c j with
  | true => rfl
  | false =>
    exfalso
    have h1 := zsum_mark (f := fun _ => 1) h.1 (fun t u ht hu e => zSo_inj h ht hu e) c (Nat.le_refl _)
    have h2 : zsum (fun w => if zpr P c w = true then 1 else 0) c < zsum (fun _ => 1) c := zsum_lt c (fun w hw => by split <;> omega) ⟨j, hj, by rw [hz]; simp⟩
    omega
theorem zsum_perm {A P f : Nat → Nat} {c : Nat} (h : zSo A c P) : zsum (fun t => f (P t)) c = zsum f c := by
  rw [← zsum_mark h.1 (fun t u ht hu e => zSo_inj h ht hu e) c (Nat.le_refl _)]
  refine zsum_congr c (fun k hk => ?_)
  obtain ⟨t, ht, e⟩ := zSo_surj h hk
  rw [if_pos ((zpr_iff c).mpr ⟨t, ht, e⟩)]
theorem zmx_leB {f : Nat → Nat} {B : Nat} : ∀ n, (∀ k, k < n → f k ≤ B) → zmx f n ≤ B
  | 0, _ => Nat.zero_le _
  | n + 1, h => Nat.max_le.mpr ⟨zmx_leB n (fun k hk => h k (by omega)), h n (by omega)⟩
theorem zmx_perm {A P f : Nat → Nat} {c : Nat} (h : zSo A c P) : zmx (fun t => f (P t)) c = zmx f c := by
  apply Nat.le_antisymm
  · exact zmx_leB c (fun k hk => zmx_ub c (P k) (h.1 k hk))
  · refine zmx_leB c (fun k hk => ?_)
    obtain ⟨t, ht, e⟩ := zSo_surj h hk
    have := zmx_ub (C := fun t => f (P t)) c t ht
    rw [← e]; exact this
/-- who serves, and when -/
def zsv (F : Nat → Nat) : Nat → Nat
  | 0 => 0
  | 1 => 0
  | n + 2 => if F (n + 1) < F (zsv F (n + 1)) then n + 1 else zsv F (n + 1)
theorem zsv_lt {F : Nat → Nat} : ∀ n, zsv F (n + 1) < n + 1
  | 0 => by show 0 < 1; omega
  | n + 1 => by
    have := zsv_lt (F := F) n
    show (if F (n + 1) < F (zsv F (n + 1)) then n + 1 else zsv F (n + 1)) < n + 2
    split <;> omega
def zqF (A N P : Nat → Nat) (k : Nat) : Nat → Nat → Nat
  | 0 => fun _ => 0
  | t + 1 => zpd (zqF A N P k t) (zsv (zqF A N P k t) k) (max (A (P t)) (zqF A N P k t (zsv (zqF A N P k t) k)) + N (P t))
abbrev zqb (A N P : Nat → Nat) (k t : Nat) : Nat := max (A (P t)) (zqF A N P k t (zsv (zqF A N P k t) k))
def zqT (A N P : Nat → Nat) (k : Nat) : Nat → Nat
  | 0 => 0
  | t + 1 => max (zqT A N P k t) (zqb A N P k t + N (P t))
theorem zqF_le {A N P : Nat → Nat} {k c : Nat} (hA : ∀ j, j < c → A j ≤ 99) (hN : ∀ j, j < c → N j ≤ 20) (hP : ∀ t, t < c → P t < c) : ∀ t, t ≤ c → (∀ s, zqF A N P k t s ≤ 99 + 20 * t) ∧ zqT A N P k t ≤ 99 + 20 * t
  | 0, _ => ⟨fun s => Nat.zero_le _, Nat.zero_le _⟩
  | t + 1, ht => by
    obtain ⟨h1, h2⟩ := zqF_le (k := k) hA hN hP t (by omega)
    have a1 := hA (P t) (hP t (by omega))
    have a2 := hN (P t) (hP t (by omega))
    have a3 := h1 (zsv (zqF A N P k t) k)
    refine ⟨fun s => ?_, ?_⟩
    · show zpd _ _ _ s ≤ _
      unfold zpd
      have := h1 s
      split <;> omega
    · show max _ _ ≤ _
      unfold zqb
      omega
/-- what queue answers: G: when each one begins -/
def zqW (A G : Nat → Nat) (c : Nat) : Nat := zsum (fun j => G j - A j) c
def zqn (A G : Nat → Nat) (c i : Nat) : Nat := zsum (fun j => if A j ≤ A i ∧ A i < G j then 1 else 0) c
def zqM (A G : Nat → Nat) (c : Nat) : Nat := zmx (zqn A G c) c
theorem zqW_perm {A P G : Nat → Nat} {c : Nat} (h : zSo A c P) : zqW (fun t => A (P t)) (fun t => G (P t)) c = zqW A G c := zsum_perm (f := fun j => G j - A j) h
theorem zqM_perm {A P G : Nat → Nat} {c : Nat} (h : zSo A c P) : zqM (fun t => A (P t)) (fun t => G (P t)) c = zqM A G c := by
  have e : ∀ i, zqn (fun t => A (P t)) (fun t => G (P t)) c i = zqn A G c (P i) := fun i => zsum_perm (f := fun j => if A j ≤ A (P i) ∧ A (P i) < G j then 1 else 0) h
  unfold zqM
  rw [show zqn (fun t => A (P t)) (fun t => G (P t)) c = fun i => zqn A G c (P i) from funext e]
  exact zmx_perm (f := zqn A G c) h

