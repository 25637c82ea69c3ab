/-! ONE OP ON BOTH SIDES -/
def vN (σ : zS) (n : Nat) (V : zS) (N : Nat) (Wd Fr' Wh To O A : Nat → Nat) (B : Nat → Int32) : Prop := vD σ n V ∧ zLw N Wd Fr' Wh To O A ∧ zLwK σ 15 N Wd Fr' Wh To O A ∧ zLwM σ N Wd Fr' Wh To O A ∧ σ 28 = B ∧ σ 214 = B ∧ zBok B ∧ zhd σ 27
theorem zwl_c {σ τ : zS} (h : ∀ k, k < 238 → (List.range (match zsh k with | .inl n => n | .inr (.inl _) => 0 | .inr (.inr (_, fl)) => fl.length)).map (τ k) = (List.range (match zsh k with | .inl n => n | .inr (.inl _) => 0 | .inr (.inr (_, fl)) => fl.length)).map (σ k)) : zwl τ = zwl σ := by
  unfold zwl
  apply List.map_congr_left
  intro k hk
  have h1 := h k (List.mem_range.mp hk)
  unfold zcel
  split
  · rename_i n e; rw [e] at h1; exact congrArg _ h1
  · rfl
  · rename_i ci fl e
    rw [e] at h1
    refine congrArg _ (congrArg _ (congrArg _ ?_))
    apply List.map_congr_left
    intro j hj
    have h2 := (List.map_inj_left.mp h1) j hj
    unfold zfv
    split
    · rw [h2]
    · rfl
def nm (σ : zS) : zS := fun a b => if a = 28 ∧ 12 ≤ b then σ 214 b else σ a b
theorem nm_w (σ : zS) : zwl (nm σ) = zwl σ := by
  apply zwl_c
  intro k hk
  by_cases e : k = 28
  · subst e
    apply List.map_congr_left
    intro j hj
    have h2 : j < 12 := List.mem_range.mp hj
    unfold nm
    rw [if_neg (by omega)]
  · have : nm σ k = σ k := by funext b; unfold nm; rw [if_neg (by omega)]
    rw [this]
theorem nm_in {d a : Nat} {as : List Value} {σ : zS} {Q : Int32 → zS → Prop} (h : INV σ) (k : ∀ τ, INV τ → τ 28 = τ 214 → zI1 d a as τ Q) : zI1 d a as σ Q := by
  have hn : INV (nm σ) := by
    obtain ⟨n, V, h1, h2, h3, h4, h5, h6, h7, h8, h9⟩ := h
    have e : ∀ a b, ¬ (a = 28 ∧ 12 ≤ b) → nm σ a b = σ a b := fun a b x => by unfold nm; rw [if_neg x]
    refine ⟨n, V, vD_f h1 (fun a b x => e a b (by omega)), vL_f h2 (fun a b x => e a b (by omega)), ?_, vT_f h4 (fun a b x => e a b (by omega)), vE_f h5 (fun a b x => e a b (by omega)), vO_f h6 (fun a b x => e a b (by omega)), vA_f h7 (fun a b x => e a b (by omega)), vP_f h8 (fun a b x => e a b (by omega)), vI_f h9 (fun a b x => e a b (by omega))⟩
    obtain ⟨rows, r⟩ := id h3
    exact vR_f h3 (fun a b x => e a b (by omega)) (vR_z r.2.2.2.2.2.2 (fun a b x => e a b (by omega)))
  have := k (nm σ) hn (by
    obtain ⟨n, V, h1, h2, ⟨rows, r⟩, _⟩ := h
    funext b
    by_cases hb : 12 ≤ b
    · have e1 : nm σ 28 b = σ 214 b := by unfold nm; rw [if_pos (by omega)]
      have e2 : nm σ 214 b = σ 214 b := by unfold nm; rw [if_neg (by omega)]
      rw [e1, e2]
    · have e1 : nm σ 28 b = σ 28 b := by unfold nm; rw [if_neg (by omega)]
      have e2 : nm σ 214 b = σ 214 b := by unfold nm; rw [if_neg (by omega)]
      rw [e1, e2, (r.2.2.2.2.2.1 b (by omega)).1, (r.2.2.2.2.2.1 b (by omega)).2])
  unfold zI1 zk at this ⊢
  rw [nm_w] at this
  exact this
theorem INV_N {σ : zS} (h : INV σ) (e : σ 28 = σ 214) : ∃ n V N Wd Fr' Wh To O A B, vN σ n V N Wd Fr' Wh To O A B := by
  obtain ⟨n, V, h1, ⟨N, Wd, Fr', Wh, To, O, A, h2, h3, h4⟩, ⟨rows, r⟩, _⟩ := h
  exact ⟨n, V, N, Wd, Fr', Wh, To, O, A, σ 214, h1, h2, h3, h4, e, rfl, zBok_x (zBok_b r.2.1) (fun p hp => (r.2.2.2.2.2.1 p hp).2), r.2.2.2.2.2.2⟩
theorem vN_k {σ : zS} {n N : Nat} {V : zS} {Wd Fr' Wh To O A : Nat → Nat} {B : Nat → Int32} (h : vN σ n V N Wd Fr' Wh To O A B) : zKd σ N Wd Fr' Wh To O A B := ⟨h.2.1, h.2.2.1, h.2.2.2.2.1, h.2.2.2.2.2.2.1, h.2.2.2.2.2.2.2⟩
theorem vN_m {σ : zS} {n N : Nat} {V : zS} {Wd Fr' Wh To O A : Nat → Nat} {B : Nat → Int32} (h : vN σ n V N Wd Fr' Wh To O A B) : zMd σ n false N Wd Fr' Wh To O A B := ⟨h.1.2.2.2.2.1, h.1.2.2.1.2.1, h.1.2.2.2.2.2.1, h.2.1, h.2.2.2.1, h.2.2.2.2.2.1, h.2.2.2.2.2.2.1⟩
theorem vN_f {σ τ : zS} {n N : Nat} {V : zS} {Wd Fr' Wh To O A : Nat → Nat} {B : Nat → Int32} (h : vN σ n V N Wd Fr' Wh To O A B) (e : Fg sc σ τ) : vN τ n V N Wd Fr' Wh To O A B := by
  obtain ⟨h1, h2, h3, h4, h5, h6, h7, h8⟩ := h
  have h16 := h2.1
  refine ⟨vD_f h1 (fun a b x => e a b (by unfold sc; omega)), h2, ⟨(e 15 2 (by unfold sc; omega)).trans h3.1, fun l hl => ?_⟩, ⟨(e 204 0 (by unfold sc; omega)).trans h4.1, fun l hl => ?_⟩, ?_, ?_, h7, vR_z h8 (fun a b x => e a b (by unfold sc; omega))⟩
  · obtain ⟨_, _, _, t4, _⟩ := h2.2 l hl
    obtain ⟨a1, a2, a3, a4, a5⟩ := h3.2 l hl
    exact ⟨(e 16 _ (by unfold sc; omega)).trans a1, (e 16 _ (by unfold sc; omega)).trans a2, (e 16 _ (by unfold sc; omega)).trans a3, (e 16 _ (by unfold sc; omega)).trans a4, fun j g1 g2 => (e 17 j (by unfold sc; omega)).trans (a5 j g1 g2)⟩
  · obtain ⟨_, _, _, t4, _⟩ := h2.2 l hl
    obtain ⟨a1, a2, a3, a4, a5⟩ := h4.2 l hl
    exact ⟨(e 205 l (by unfold sc; omega)).trans a1, (e 206 l (by unfold sc; omega)).trans a2, (e 207 l (by unfold sc; omega)).trans a3, (e 208 l (by unfold sc; omega)).trans a4, fun j g1 g2 => ⟨(e 209 j (by unfold sc; omega)).trans (a5 j g1 g2).1, (e 210 j (by unfold sc; omega)).trans (a5 j g1 g2).2⟩⟩
  · rw [← h5]; funext b; exact e 28 b (by unfold sc; omega)
  · rw [← h6]; funext b; exact e 214 b (by unfold sc; omega)
def scA (a : Nat) : Bool := Nat.beq a 89 || Nat.beq a 90 || Nat.beq a 93 || Nat.beq a 94 || (Nat.ble 171 a && Nat.ble a 193) || (Nat.ble 215 a && Nat.ble a 223) || (Nat.ble 226 a && Nat.ble a 228) || (Nat.ble 231 a && Nat.ble a 232) || (Nat.ble 235 a && Nat.ble a 236)
theorem sc_A {a b : Nat} (h : scA a = true) : sc a b := by
  unfold scA at h
  simp only [Bool.or_eq_true, Bool.and_eq_true, Nat.beq_eq, Nat.ble_eq] at h
  rcases h with (((((((h | h) | h) | h) | h) | h) | h) | h) | h
  · exact Or.inr (Or.inr (Or.inl h))
  · exact Or.inr (Or.inr (Or.inr (Or.inl h)))
  · exact Or.inr (Or.inr (Or.inr (Or.inr (Or.inl h))))
  · exact Or.inr (Or.inr (Or.inr (Or.inr (Or.inr (Or.inl h)))))
  · exact Or.inr (Or.inr (Or.inr (Or.inr (Or.inr (Or.inr (Or.inr (Or.inr (Or.inl h))))))))
  · exact Or.inr (Or.inr (Or.inr (Or.inr (Or.inr (Or.inr (Or.inr (Or.inr (Or.inr (Or.inr (Or.inr (Or.inr (Or.inl h))))))))))))
  · exact Or.inr (Or.inr (Or.inr (Or.inr (Or.inr (Or.inr (Or.inr (Or.inr (Or.inr (Or.inr (Or.inr (Or.inr (Or.inr (Or.inl h)))))))))))))
  · have h2 : a = 231 ∨ a = 232 := by omega
    rcases h2 with h2 | h2
    · exact Or.inr (Or.inr (Or.inr (Or.inr (Or.inr (Or.inr (Or.inr (Or.inr (Or.inr (Or.inr (Or.inr (Or.inr (Or.inr (Or.inr (Or.inl h2))))))))))))))
    · exact Or.inr (Or.inr (Or.inr (Or.inr (Or.inr (Or.inr (Or.inr (Or.inr (Or.inr (Or.inr (Or.inr (Or.inr (Or.inr (Or.inr (Or.inr (Or.inl h2)))))))))))))))
  · have h2 : a = 235 ∨ a = 236 := by omega
    rcases h2 with h2 | h2
    · exact Or.inr (Or.inr (Or.inr (Or.inr (Or.inr (Or.inr (Or.inr (Or.inr (Or.inr (Or.inr (Or.inr (Or.inr (Or.inr (Or.inr (Or.inr (Or.inr (Or.inl h2))))))))))))))))
    · exact Or.inr (Or.inr (Or.inr (Or.inr (Or.inr (Or.inr (Or.inr (Or.inr (Or.inr (Or.inr (Or.inr (Or.inr (Or.inr (Or.inr (Or.inr (Or.inr (Or.inr (Or.inl h2)))))))))))))))))
theorem sc_fr {l : List Nat} {σ τ : zS} (h : Fr l σ τ) (hl : l.all scA = true) : Fg sc σ τ := fun a b hn => h a (fun z => hn (sc_A (List.all_eq_true.mp hl a z))) b
theorem sc_up {σ τ : zS} {l : List Nat} {v : Int32} (h : Fr l (up σ 195 0 v) τ) (hl : l.all scA = true) : Fg sc σ τ := ((Fg.rf (P := sc) (σ := σ)).put (by unfold sc; omega)).tr (sc_fr h hl)
theorem sc_u {σ : zS} {v : Int32} : Fg sc σ (up σ 195 0 v) := (Fg.rf (P := sc) (σ := σ)).put (by unfold sc; omega)
/-- class, then model: the same number, and all is as it must be -/
def zPr (a b : Nat) (as : List Value) : Prop := ∀ σ, INV σ → zI1 10 a (.ref 0 :: as) σ (fun v τ => zI1 10 b (.ref 195 :: as) τ (fun w υ => w = v ∧ INV υ))
theorem zPr_i {σ τ : zS} {v : Int32} (h : INV σ) (e : Fg sc σ τ) : v = v ∧ INV τ := ⟨rfl, INV_sc h e⟩
theorem c_game {v : Int32} : zPr 152 284 [.int v] := fun σ h => by
  refine s_kgame (d := 8) (fun n a1 a2 e => ?_) (fun z => ?_)
  · refine s_mgame (d := 9) (fun m b1 b2 e2 => ?_) (fun y => absurd ⟨by rw [e]; exact nI_le (a := 1) a1 (by omega), by rw [e]; exact nI_le (b := 100000) a2 (by omega)⟩ y)
    have : m = n := (nI_eq (by omega) (by omega)).mp (e2.symm.trans e)
    subst this
    exact zPr_i h sc_u
  · refine s_mgame (d := 9) (fun m b1 b2 e2 => absurd ⟨by rw [e2]; exact nI_le (a := 1) b1 (by omega), by rw [e2]; exact nI_le (b := 100000) b2 (by omega)⟩ z) (fun y => zPr_i h sc_u)
theorem c_ranks {v w : Int32} : zPr 144 271 [.int v, .int w] := fun σ h => by
  refine s_kranks (d := 9) (fun n a1 a2 e a3 a4 => ?_) (fun z => ?_)
  · refine s_mranks (d := 9) (fun m b1 b2 e2 _ _ => ?_) (fun y => absurd ⟨by rw [e]; exact nI_le (a := 1) a1 (by omega), by rw [e]; exact nI_le (b := 999) a2 (by omega), a3, a4⟩ y)
    have : m = n := (nI_eq (by omega) (by omega)).mp (e2.symm.trans e)
    subst this
    exact zPr_i h sc_u
  · refine s_mranks (d := 9) (fun m b1 b2 e2 b3 b4 => absurd ⟨by rw [e2]; exact nI_le (a := 1) b1 (by omega), by rw [e2]; exact nI_le (b := 999) b2 (by omega), b3, b4⟩ z) (fun y => zPr_i h sc_u)
theorem c_lights {r n w : Int32} : zPr 151 283 [.int r, .int n, .int w] := fun σ h => by
  have k0 : ∀ k, k < 256 → r = nI k → 0 ≤ r ∧ r ≤ 255 := fun k hk e => by rw [e]; exact ⟨nI_le (a := 0) (Nat.zero_le _) (by omega), nI_le (b := 255) (by omega) (by omega)⟩
  have m0 : ∀ m, m ≤ 100000 → n = nI m → 0 ≤ n ∧ n ≤ 100000 := fun k hk e => by rw [e]; exact ⟨nI_le (a := 0) (Nat.zero_le _) (by omega), nI_le (b := 100000) hk (by omega)⟩
  refine s_klights (d := 8) (fun k a1 e ew τ hτ => ?_) (fun m a0 a1 ew a2 e => ?_) (fun z => ?_)
  · refine s_mlights (d := 9) (fun k2 b1 e2 _ υ hυ => ?_) (fun m b0 b1 ew2 b2 e2 => absurd (ew.symm.trans ew2) (by decide)) (fun y => absurd ⟨(k0 k a1 e).1, (k0 k a1 e).2, Or.inl ew⟩ y)
    have : k2 = k := (nI_eq (by omega) (by omega)).mp (e2.symm.trans e)
    subst this
    exact zPr_i h ((sc_fr hτ rfl).tr (sc_up hυ rfl))
  · refine s_mlights (d := 9) (fun k2 b1 e2 ew2 υ hυ => absurd (ew.symm.trans ew2) (by decide)) (fun m2 b0 b1 ew2 b2 e2 => ?_) (fun y => absurd ⟨a0, a1, Or.inr ⟨ew, m0 m a2 e⟩⟩ y)
    have : m2 = m := (nI_eq (by omega) (by omega)).mp (e2.symm.trans e)
    subst this
    exact zPr_i h sc_u
  · exact s_mlights (d := 9) (fun k2 b1 e2 ew2 υ hυ => absurd ⟨(k0 k2 b1 e2).1, (k0 k2 b1 e2).2, Or.inl ew2⟩ z) (fun m2 b0 b1 ew2 b2 e2 => absurd ⟨b0, b1, Or.inr ⟨ew2, m0 m2 b2 e2⟩⟩ z) (fun y => zPr_i h sc_u)
theorem c_sits {q : Int32} : zPr 150 281 [.int q] := fun σ h => by
  refine nm_in h (fun σ h e => ?_)
  obtain ⟨n, V, N, Wd, Fr', Wh, To, O, A, B, hN⟩ := INV_N h e
  have hk := vN_k hN
  have hm := vN_m hN
  exact s_ksits (d := 5) hN.1.1 hN.1.2.2.1 hk.2.2.1 hk.2.2.2.1 hk.2.2.2.2 (s_msits (d := 7) hN.1.2.1 hm.1 hm.2.1 hN.1.2.2.1 hm.2.2.2.2.2.1 hm.2.2.2.2.2.2 (fun τ hτ => zPr_i h (sc_up hτ rfl)))
theorem c_place {p f : Int32} : zPr 131 245 [.int p, .int f] := fun σ h => by
  refine nm_in h (fun σ h e => ?_)
  obtain ⟨n, V, N, Wd, Fr', Wh, To, O, A, B, hN⟩ := INV_N h e
  have hin : ∀ q, q < 12 → p = nI q → 0 ≤ p ∧ p < 12 := fun q hq e => by rw [e]; exact ⟨nI_le (a := 0) (Nat.zero_le _) (by omega), nI_lt (b := 12) hq (by omega)⟩
  refine s_kplaceOf (d := 7) hN.1.1 hN.1.2.2.1 (vN_k hN) (fun q hq eq τ hτ => ?_) (fun z => ?_)
  · have hN2 := vN_f hN (sc_fr hτ rfl)
    refine s_mplaceOf (d := 5) (vN_m hN2) hN2.1.2.1 hN2.1.2.2.1 (fun q2 hq2 e2 υ hυ => ?_) (fun y => absurd (hin q hq eq) y)
    have : q2 = q := (nI_eq (by omega) (by omega)).mp (e2.symm.trans eq)
    subst this
    exact zPr_i h ((sc_fr hτ rfl).tr (sc_up hυ rfl))
  · exact s_mplaceOf (d := 5) (vN_m hN) hN.1.2.1 hN.1.2.2.1 (fun q2 hq2 e2 υ hυ => absurd (hin q2 hq2 e2) z) (fun y => zPr_i h sc_u)
theorem c_of {p f : Int32} : zPr 132 246 [.int p, .int f] := fun σ h => by
  refine nm_in h (fun σ h e => ?_)
  obtain ⟨n, V, N, Wd, Fr', Wh, To, O, A, B, hN⟩ := INV_N h e
  have hn18 := hN.1.2.2.1.2.1
  have hin : ∀ q, q < n → p = nI q → 0 ≤ p ∧ p < nI n := fun q hq e => by rw [e]; exact ⟨nI_le (a := 0) (Nat.zero_le _) (by omega), nI_lt hq (by omega)⟩
  refine s_kof (d := 7) hN.1.1 hN.1.2.2.1 (vN_k hN) (fun q hq eq τ hτ => ?_) (fun z => ?_)
  · have hN2 := vN_f hN (sc_fr hτ rfl)
    refine s_mof (d := 5) (vN_m hN2) hN2.1.2.1 hN2.1.2.2.1 (fun q2 hq2 e2 υ hυ => ?_) (fun y => absurd (hin q hq eq) y)
    have : q2 = q := (nI_eq (by omega) (by omega)).mp (e2.symm.trans eq)
    subst this
    exact zPr_i h ((sc_fr hτ rfl).tr (sc_up hυ rfl))
  · exact s_mof (d := 5) (vN_m hN) hN.1.2.1 hN.1.2.2.1 (fun q2 hq2 e2 υ hυ => absurd (hin q2 hq2 e2) z) (fun y => zPr_i h sc_u)
theorem c_bell {v w : Int32} : zPr 149 278 [.int v, .int w] := fun σ h => by
  refine nm_in h (fun σ h e => ?_)
  obtain ⟨n, V, N, Wd, Fr', Wh, To, O, A, B, hN⟩ := INV_N h e
  have hk := vN_k hN
  refine s_kbell (d := 8) (by rw [hk.2.2.1]; exact hk.2.2.2.1.1) (fun a1 a2 a3 a4 => ?_) (fun z => ?_)
  · refine s_mbell (d := 8) (fun _ _ _ _ => ?_) (fun y => absurd ⟨a1, a2, a3, a4⟩ y)
    rw [e]; exact zPr_i h sc_u
  · exact s_mbell (d := 8) (fun b1 b2 b3 b4 => absurd ⟨b1, b2, b3, b4⟩ z) (fun _ => zPr_i h sc_u)
theorem c_caught {v w : Int32} : zPr 138 258 [.int v, .int w] := fun σ h => by
  refine nm_in h (fun σ h e => ?_)
  obtain ⟨n, V, N0, Wd, Fr', Wh, To, O, A, B, hN⟩ := INV_N h e
  have hk := vN_k hN
  have hB : zBok (σ 28) := by rw [hk.2.2.1]; exact hk.2.2.2.1
  have hB2 : zBok (σ 214) := by rw [← e]; exact hB
  have hin : ∀ q, q < 12 → ∀ p : Int32, p = nI q → 0 ≤ p ∧ p < 12 := fun q hq p e => by rw [e]; exact ⟨nI_le (a := 0) (Nat.zero_le _) (by omega), nI_lt (b := 12) hq (by omega)⟩
  refine s_kcaught (d := 7) hB (fun p q N hp hq ep eq hN1 hfx hnf τ hτ => ?_) (fun p N hp ep ew hN1 hfx hnf τ hτ => ?_) (fun z => ?_)
  · have e28 : σ 28 = τ 214 := e.trans (funext fun b => (hτ 214 (by decide) b)).symm
    refine s_mcaught (d := 6) (N := N) (by rw [← e28]; exact hB) hN1 (by rw [← e28]; exact hfx) (by rw [← e28]; exact hnf) (fun p2 q2 hp2 hq2 ep2 eq2 υ hυ => ?_) (fun p2 hp2 ep2 ew2 υ hυ => ?_) (fun y => absurd ⟨(hin p hp v ep).1, (hin p hp v ep).2, Or.inr (hin q hq w eq)⟩ y)
    · have h1 : p2 = p := (nI_eq (by omega) (by omega)).mp (ep2.symm.trans ep)
      have h2 : q2 = q := (nI_eq (by omega) (by omega)).mp (eq2.symm.trans eq)
      subst h1 h2
      rw [e28]
      exact zPr_i h ((sc_fr hτ rfl).tr (sc_up hυ rfl))
    · exact absurd (hin q hq w eq).1 (by rw [ew2]; decide)
  · have e28 : σ 28 = τ 214 := e.trans (funext fun b => (hτ 214 (by decide) b)).symm
    refine s_mcaught (d := 6) (N := N) (by rw [← e28]; exact hB) hN1 (by rw [← e28]; exact hfx) (by rw [← e28]; exact hnf) (fun p2 q2 hp2 hq2 ep2 eq2 υ hυ => ?_) (fun p2 hp2 ep2 ew2 υ hυ => ?_) (fun y => absurd ⟨(hin p hp v ep).1, (hin p hp v ep).2, Or.inl ew⟩ y)
    · exact absurd (hin q2 hq2 w eq2).1 (by rw [ew]; decide)
    · have h1 : p2 = p := (nI_eq (by omega) (by omega)).mp (ep2.symm.trans ep)
      subst h1
      rw [zclock hB hN1 hp, e28]
      exact zPr_i h ((sc_fr hτ rfl).tr (sc_up hυ rfl))
  · obtain ⟨N, hN1, hfx, hnf⟩ := zfx_ex (σ 214)
    exact s_mcaught (d := 6) (N := N) hB2 hN1 hfx hnf (fun p2 q2 hp2 hq2 ep2 eq2 υ hυ => absurd ⟨(hin p2 hp2 v ep2).1, (hin p2 hp2 v ep2).2, Or.inr (hin q2 hq2 w eq2)⟩ z) (fun p2 hp2 ep2 ew2 υ hυ => absurd ⟨(hin p2 hp2 v ep2).1, (hin p2 hp2 v ep2).2, Or.inl ew2⟩ z) (fun y => zPr_i h sc_u)

