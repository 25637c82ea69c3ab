/-! DAYS, both sides -/
def dyN (F : zS → zS × Nat) : Nat → zS → Nat → (Nat → zS) → Int32 → zS × Nat × (Nat → zS) × Int32
  | 0, V, c, H, a => (V, c, H, a)
  | m + 1, V, c, H, a => dyN F m (F V).1 (min 6 (c + 1)) (hcons V H) (a + nI (F V).2)
theorem zLwK_g {σ τ : zS} {N : Nat} {Wd Fr' Wh To O A : Nat → Nat} (h2 : zLw N Wd Fr' Wh To O A) (h3 : zLwK σ 15 N Wd Fr' Wh To O A) (e : ∀ a b, 15 ≤ a → a < 18 → τ a b = σ a b) : zLwK τ 15 N Wd Fr' Wh To O A := by
  refine ⟨(e 15 2 (by omega) (by omega)).trans h3.1, fun l hl => ?_⟩
  obtain ⟨a1, a2, a3, a4, a5⟩ := h3.2 l hl
  exact ⟨(e 16 _ (by omega) (by omega)).trans a1, (e 16 _ (by omega) (by omega)).trans a2, (e 16 _ (by omega) (by omega)).trans a3, (e 16 _ (by omega) (by omega)).trans a4, fun j g1 g2 => (e 17 j (by omega) (by omega)).trans (a5 j g1 g2)⟩
theorem zLwM_g {σ τ : zS} {N : Nat} {Wd Fr' Wh To O A : Nat → Nat} (h4 : zLwM σ N Wd Fr' Wh To O A) (e : ∀ a b, 204 ≤ a → a ≤ 210 → τ a b = σ a b) : zLwM τ N Wd Fr' Wh To O A := by
  refine ⟨(e 204 0 (by omega) (by omega)).trans h4.1, fun l hl => ?_⟩
  obtain ⟨a1, a2, a3, a4, a5⟩ := h4.2 l hl
  exact ⟨(e 205 l (by omega) (by omega)).trans a1, (e 206 l (by omega) (by omega)).trans a2, (e 207 l (by omega) (by omega)).trans a3, (e 208 l (by omega) (by omega)).trans a4, fun j g1 g2 => ⟨(e 209 j (by omega) (by omega)).trans (a5 j g1 g2).1, (e 210 j (by omega) (by omega)).trans (a5 j g1 g2).2⟩⟩
theorem zKd_g {σ τ : zS} {N : Nat} {Wd Fr' Wh To O A : Nat → Nat} {B : Nat → Int32} (h : zKd σ N Wd Fr' Wh To O A B) (e : ∀ a b, 15 ≤ a → a < 30 → τ a b = σ a b) : zKd τ N Wd Fr' Wh To O A B := ⟨h.1, zLwK_g h.1 h.2.1 (fun a b g1 g2 => e a b g1 (by omega)), (funext fun b => e 28 b (by omega) (by omega)).trans h.2.2.1, h.2.2.2.1, vR_z h.2.2.2.2 (fun a b x => e a b (by omega) (by omega))⟩
theorem zMd_g {σ τ : zS} {n N : Nat} {th : Bool} {Wd Fr' Wh To O A : Nat → Nat} {B : Nat → Int32} (h : zMd σ n th N Wd Fr' Wh To O A B) (e : ∀ a b, (204 ≤ a ∧ a ≤ 210) ∨ a = 214 ∨ (a = 195 ∧ (b = 5 ∨ b = 6)) → τ a b = σ a b) : zMd τ n th N Wd Fr' Wh To O A B := ⟨(e 195 6 (by omega)).trans h.1, h.2.1, (e 195 5 (by omega)).trans h.2.2.1, h.2.2.2.1, zLwM_g h.2.2.2.2.1 (fun a b g1 g2 => e a b (by omega)), (funext fun b => e 214 b (by omega)).trans h.2.2.2.2.2.1, h.2.2.2.2.2.2⟩
theorem zTk_g {σ τ : zS} {nT : Nat} {td tp tv : Nat → Nat} (h : zTk σ nT td tp tv) (e : ∀ a b, 15 ≤ a → a < 30 → τ a b = σ a b) : zTk τ nT td tp tv := ⟨(e 21 2 (by omega) (by omega)).trans h.1, h.2.1, fun l hl => by
  rw [e 22 _ (by omega) (by omega), e 22 _ (by omega) (by omega), e 22 _ (by omega) (by omega)]; exact h.2.2 l hl⟩
theorem zEk_g {σ τ : zS} {nE : Nat} {ed : Nat → Nat} {eo : Nat → Int32} (h : zEk σ nE ed eo) (e : ∀ a b, 15 ≤ a → a < 30 → τ a b = σ a b) : zEk τ nE ed eo := ⟨(e 18 2 (by omega) (by omega)).trans h.1, h.2.1, fun l hl => by
  rw [e 19 _ (by omega) (by omega), e 19 _ (by omega) (by omega)]; exact h.2.2 l hl⟩
theorem zTm_g {σ τ : zS} {nT : Nat} {td tp tv : Nat → Nat} (h : zTm σ nT td tp tv) (e : ∀ a b, a = 213 ∨ (a = 195 ∧ b = 35) → τ a b = σ a b) : zTm τ nT td tp tv := ⟨(e 195 35 (by omega)).trans h.1, h.2.1, fun l hl => by
  rw [e 213 _ (by omega), e 213 _ (by omega), e 213 _ (by omega)]; exact h.2.2 l hl⟩
theorem zEm_g {σ τ : zS} {n nE : Nat} {ed : Nat → Nat} {eo : Nat → Int32} (h : zEm σ n nE ed eo) (e : ∀ a b, a = 212 ∨ (a = 195 ∧ b = 33) → τ a b = σ a b) : zEm τ n nE ed eo := ⟨(e 195 33 (by omega)).trans h.1, h.2.1, fun l hl => by
  rw [e 212 _ (by omega), e 212 _ (by omega)]; exact h.2.2 l hl⟩
def kdP (a b : Nat) : Prop := (2 ≤ a ∧ a ≤ 14) ∨ a = 89 ∨ a = 90 ∨ (a = 87 ∧ b = 4) ∨ (a = 95 ∧ (b = 1 ∨ b = 2)) ∨ (97 ≤ a ∧ a ≤ 168)
def mdP (a b : Nat) : Prop := a = 196 ∨ a = 197 ∨ a = 201 ∨ (215 ≤ a ∧ a ≤ 217) ∨ (a = 195 ∧ b = 3)
theorem l_kdays {d n N nT nE k : Nat} {td tp tv ed : Nat → Nat} {eo : Nat → Int32} {σ : zS} {Q : Int32 → zS → Prop} {Wd Fr' Wh To O A : Nat → Nat} {B : Nat → Int32} (hd : zKd σ N Wd Fr' Wh To O A B) (hth : σ 87 3 = 0) (hT : zTk σ nT td tp tv) (hE : zEk σ nE ed eo) (ho : ∀ l, l < nE → zOg n (eo l)) (hk : k ≤ 60) : ∀ (m i c la : Nat) (V : zS) (H : Nat → zS) (a : Int32) (τ : zS), i + m = k → Fg kdP σ τ → zVk τ 2 false V → zVg V n → cP τ c la H → c ≤ 6 → la < 6 → (∀ υ la', Fg kdP σ υ → la' < 6 → zVk υ 2 false (dyN (dDay (zTl N Wd Fr' Wh To O A) B n false nT td tp tv nE ed eo) m V c H a).1 → cP υ (dyN (dDay (zTl N Wd Fr' Wh To O A) B n false nT td tp tv nE ed eo) m V c H a).2.1 la' (dyN (dDay (zTl N Wd Fr' Wh To O A) B n false nT td tp tv nE ed eo) m V c H a).2.2.1 → Q (dyN (dDay (zTl N Wd Fr' Wh To O A) B n false nT td tp tv nE ed eo) m V c H a).2.2.2 υ) → zk (d + 7) 126 34 [.ref 0, .int (nI k), .int a, .int (nI i)] [] τ (fun r s => ∃ v, r = some v ∧ Q v s) := by
  intro m
  induction m with
  | zero =>
    intro i c la V H a τ hi hF hV hg hP hc hl hq
    refine r_il3 zi_126_34 rfl ?_
    refine r_il1 zi_126_35 rfl ?_
    refine n_ic3 (i := i) (j := k) zi_126_36 rfl (by omega) (by omega) (fun _ => ?_) (fun c => absurd c (by omega))
    refine r_il2 zi_126_69 rfl ?_
    refine r_retI zi_126_70 rfl ?_
    exact ⟨_, rfl, hq τ la hF hl hV hP⟩
  | succ m ih =>
    intro i c la V H a τ hi hF hV hg hP hc hl hq
    have hs : ∀ (Q2 : Int32 → zS → Prop) (τ1 : zS), kpF τ τ1 → (∀ υ, Fg kdP σ υ → (∀ a b, 95 ≤ a → υ a b = τ1 a b) → zVk υ 2 false (dDay (zTl N Wd Fr' Wh To O A) B n false nT td tp tv nE ed eo V).1 → Q2 (nI (dDay (zTl N Wd Fr' Wh To O A) B n false nT td tp tv nE ed eo V).2) υ) → zI1 (d + 6) 1 [.ref 87] τ1 Q2 := fun Q2 τ1 h1 h2 => by
      have fr : Fg kdP σ τ1 := fun a b g => (h1 a b (by unfold kdP at g; omega) (by unfold kdP at g; omega)).trans (hF a b g)
      have fe : ∀ a b, 15 ≤ a → a < 30 → τ1 a b = σ a b := fun a b g1 g2 => fr a b (by unfold kdP; omega)
      refine s_goByR (d := d) (zVk_g hV (fun a b g1 g2 => h1 a b (by omega) (by omega))) hg (zKd_g hd fe) ((fr 87 3 (by unfold kdP; omega)).trans hth) (zTk_g hT fe) (zEk_g hE fe) ho (fun υ k1 k2 k3 => h2 υ (fun a b g => ?_) (fun a b g => k1 a b (by simp; omega) (fun z => by omega)) k2)
      refine (k1 a b (by unfold kdP at g; simp; omega) (fun z => ?_)).trans (fr a b g)
      unfold kdP at g; simp; omega
    refine r_il3 zi_126_34 rfl ?_
    refine r_il1 zi_126_35 rfl ?_
    refine n_ic3 (i := i) (j := k) zi_126_36 rfl (by omega) (by omega) (fun c => absurd c (by omega)) (fun _ => ?_)
    refine r_al0 zi_126_39 rfl ?_
    refine q_getR zi_126_40 rfl cf_0_6 ?_
    refine r_al0 zi_126_43 rfl ?_
    refine q_getR zi_126_44 rfl cf_0_0 ?_
    refine q_getR zi_126_47 rfl cf_1_0 ?_
    refine q_cVV zi_126_50 rfl rfl rfl rfl rfl rfl rfl cf_95_0.ob (s_keep hV hP hc hl (fun τ1 h1 h2 => ?_))
    show zk _ _ 53 _ _ _ _
    refine r_il2 zi_126_53 rfl ?_
    refine r_al0 zi_126_54 rfl ?_
    refine q_getR zi_126_55 rfl cf_0_4 ?_
    refine q_cIV zi_126_58 rfl rfl rfl rfl rfl rfl rfl cf_87_0.ob (hs _ τ1 h1 (fun υ k1 k2 k3 => ?_))
    show zk _ _ 61 _ _ _ _
    refine r_b0 zi_126_61 rfl ?_
    refine r_is2 zi_126_62 rfl ?_
    refine r_in3 zi_126_63 rfl ?_
    rw [show (nI i + 1 : Int32) = nI (i + 1) from nI_add _ _]
    refine r_goto zi_126_66 rfl ?_
    exact ih (i + 1) _ _ _ _ _ υ (by omega) k1 k3 (dDay_g hd.2.2.2.1 hg ho).1 (cP_f h2 (fun a b g => k2 a b g.1)) (by omega) (Nat.mod_lt _ (by decide)) hq
theorem l_mdays {d n N nT nE k : Nat} {td tp tv ed : Nat → Nat} {eo : Nat → Int32} {σ : zS} {Q : Int32 → zS → Prop} {Wd Fr' Wh To O A : Nat → Nat} {B : Nat → Int32} (hM : zMd σ n false N Wd Fr' Wh To O A B) (hT : zTm σ nT td tp tv) (hE : zEm σ n nE ed eo) (ho : ∀ l, l < nE → zOg n (eo l)) (hk : k ≤ 60) : ∀ (m i c : Nat) (V : zS) (H : Nat → zS) (a : Int32) (τ : zS), i + m = k → Fg mdP σ τ → zVm τ V n false → zVg V n → mP τ n c H → c ≤ 6 → (∀ υ, Fg mdP σ υ → zVm υ (dyN (dDay (zTl N Wd Fr' Wh To O A) B n false nT td tp tv nE ed eo) m V c H a).1 n false → mP υ n (dyN (dDay (zTl N Wd Fr' Wh To O A) B n false nT td tp tv nE ed eo) m V c H a).2.1 (dyN (dDay (zTl N Wd Fr' Wh To O A) B n false nT td tp tv nE ed eo) m V c H a).2.2.1 → Q (dyN (dDay (zTl N Wd Fr' Wh To O A) B n false nT td tp tv nE ed eo) m V c H a).2.2.2 υ) → zk (d + 10) 244 36 [.ref 195, .int (nI k), .int a, .int (nI i)] [] τ (fun r s => ∃ v, r = some v ∧ Q v s) := by
  intro m
  induction m with
  | zero =>
    intro i c V H a τ hi hF hV hg hP hc hq
    refine r_il3 zi_244_36 rfl ?_
    refine r_il1 zi_244_37 rfl ?_
    refine n_ic3 (i := i) (j := k) zi_244_38 rfl (by omega) (by omega) (fun _ => ?_) (fun c => absurd c (by omega))
    refine r_il2 zi_244_58 rfl ?_
    refine r_retI zi_244_59 rfl ?_
    exact ⟨_, rfl, hq τ hF hV hP⟩
  | succ m ih =>
    intro i c V H a τ hi hF hV hg hP hc hq
    have hn18 := hg.2.1
    have hs : ∀ (Q2 : Int32 → zS → Prop) (τ1 : zS), maF τ τ1 → (∀ υ, Fg mdP σ υ → (∀ a b, a = 197 ∨ a = 199 ∨ a = 200 ∨ a = 195 → υ a b = τ1 a b) → zVm υ (dDay (zTl N Wd Fr' Wh To O A) B n false nT td tp tv nE ed eo V).1 n false → Q2 (nI (dDay (zTl N Wd Fr' Wh To O A) B n false nT td tp tv nE ed eo V).2) υ) → zI1 (d + 9) 243 [.ref 195] τ1 Q2 := fun Q2 τ1 h1 h2 => by
      have fr : Fg mdP σ τ1 := fun a b g => (h1 a b (by unfold mdP at g; omega) (by unfold mdP at g; omega)).trans (hF a b g)
      refine s_goesBy (d := d) (zMd_g hM (fun a b g => fr a b (by unfold mdP; omega))) (zVm_a hn18 hV (fun a b g => h1 a b (by omega) (by omega))) hg (zTm_g hT (fun a b g => fr a b (by unfold mdP; omega))) (zEm_g hE (fun a b g => fr a b (by unfold mdP; omega))) (fun υ k1 k2 => h2 υ (fun a b g => ?_) (fun a b g => k1.1 a (by simp; omega) b) k2)
      exact (k1.1 a (by unfold mdP at g; simp; omega) b).trans (fr a b g)
    refine r_il3 zi_244_36 rfl ?_
    refine r_il1 zi_244_37 rfl ?_
    refine n_ic3 (i := i) (j := k) zi_244_38 rfl (by omega) (by omega) (fun c => absurd c (by omega)) (fun _ => ?_)
    refine r_al0 zi_244_41 rfl ?_
    refine q_cVV zi_244_42 rfl rfl rfl rfl rfl rfl rfl cf_195_0.ob (s_ahead hn18 hV hP hc (fun τ1 h1 h2 => ?_))
    show zk _ _ 45 _ _ _ _
    refine r_il2 zi_244_45 rfl ?_
    refine r_al0 zi_244_46 rfl ?_
    refine q_cIV zi_244_47 rfl rfl rfl rfl rfl rfl rfl cf_195_0.ob (hs _ τ1 h1 (fun υ k1 k2 k3 => ?_))
    show zk _ _ 50 _ _ _ _
    refine r_b0 zi_244_50 rfl ?_
    refine r_is2 zi_244_51 rfl ?_
    refine r_in3 zi_244_52 rfl ?_
    rw [show (nI i + 1 : Int32) = nI (i + 1) from nI_add _ _]
    refine r_goto zi_244_55 rfl ?_
    exact ih (i + 1) _ _ _ _ υ (by omega) k1 k3 (dDay_g hM.2.2.2.2.2.2 hg ho).1 (mP_f hn18 h2 (fun a b g => k2 a b (by omega))) (by omega) hq
theorem dyN_g {T : zTe} {B : Nat → Int32} {n nT nE : Nat} {td tp tv ed : Nat → Nat} {eo : Nat → Int32} (hB : zBok B) (ho : ∀ l, l < nE → zOg n (eo l)) : ∀ (m D c : Nat) (V : zS) (H : Nat → zS) (a : Int32), D + m ≤ 9999 → V 11 17 = nI D → zVg V n → (∀ s, n ≤ s → s < 18 → V 5 s = 0 ∧ V 7 s = 0) → (∀ p, p < 12 → V 2 p ≤ 99) → gP n c H → c ≤ 6 → zVg (dyN (dDay T B n false nT td tp tv nE ed eo) m V c H a).1 n ∧ (∀ s, n ≤ s → s < 18 → (dyN (dDay T B n false nT td tp tv nE ed eo) m V c H a).1 5 s = 0 ∧ (dyN (dDay T B n false nT td tp tv nE ed eo) m V c H a).1 7 s = 0) ∧ vX (dyN (dDay T B n false nT td tp tv nE ed eo) m V c H a).1 ∧ gP n (dyN (dDay T B n false nT td tp tv nE ed eo) m V c H a).2.1 (dyN (dDay T B n false nT td tp tv nE ed eo) m V c H a).2.2.1 ∧ (dyN (dDay T B n false nT td tp tv nE ed eo) m V c H a).2.1 ≤ 6
  | 0, D, c, V, H, a, h1, h2, h3, h4, h5, h6, h7 => ⟨h3, h4, ⟨h5, D, by omega, h2⟩, h6, h7⟩
  | m + 1, D, c, V, H, a, h1, h2, h3, h4, h5, h6, h7 => by
    obtain ⟨q1, q2, q3, q4⟩ := dDay_g (T := T) (B := B) (n := n) (nT := nT) (nE := nE) (th := false) (td := td) (tp := tp) (tv := tv) (ed := ed) (eo := eo) (V := V) hB h3 ho
    exact dyN_g hB ho m (D + 1) _ _ _ _ (by omega) (by rw [q3, h2]; exact (nI_add D 1).symm ▸ rfl) q1 (fun s g1 g2 => by rw [(q4 s g1).1, (q4 s g1).2]; exact h4 s g1 g2) (fun p hp => q2 p hp (h5 p hp)) (gP_c h6 h3 h4 ⟨h5, D, by omega, h2⟩) (by omega)

