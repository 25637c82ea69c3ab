/-! MODEL: a text is read -/
theorem l_mlaws {d N : Nat} {t : Nat → Nat} {b : Nat} {σ : zS} {Q : Int32 → zS → Prop} {r : (Nat × Nat) ⊕ (List Nat × List pRw)} (hE : mEn t b N) (h1 : ∀ cs rows υ, r = .inr (cs, rows) → Fg mX σ υ → mDc υ cs → cs.length ≤ 400 → mRl υ 32 rows → rows.length ≤ 16 → Q (nI rows.length) υ) (h0 : ∀ q i υ, r = .inl (q, i) → Fg mX σ υ → υ 195 29 = nI q → υ 195 30 = nI (tks t b i) → Q (-1) υ) : ∀ (f j : Nat) (cs : List Nat) (rows : List pRw) (τ : zS) (u2 : Value), ptx 10000 10002 (plw (tkk t b)) (tkk t b) f j cs rows = some r → mSt τ t b N j cs 0 → τ 195 26 = 0 → mRl τ 32 rows → rows.length ≤ 16 → Fg mX σ τ → zk (d + 8) 207 2 [.ref 195, .int (nI rows.length), u2] [] τ (fun r t => ∃ v, r = some v ∧ Q v t) := by
  intro f
  induction f with
  | zero => intro j cs rows τ u2 hr; cases hr
  | succ f ih =>
    intro j cs rows τ u2 hr hs h26 hR h16 hF
    have hk := hs.1
    have hr2 : (if tkk t b j = 30001 then some (.inr (cs, rows)) else if ¬ (10000 ≤ tkk t b j ∧ tkk t b j ≤ 10002) then some (.inl (1, j)) else if rows.length = 16 then some (.inl (3, j)) else match plw (tkk t b) j cs with | none => none | some (.inl x) => some (.inl x) | some (.inr (i, ds, row)) => ptx 10000 10002 (plw (tkk t b)) (tkk t b) f i ds (rows ++ [row])) = some r := hr
    have herr : ∀ q, r = .inl (q, j) → ∀ (Q3 : Int32 → zS → Prop), (∀ ω, Q (-1) ω → Q3 (-1) ω) → zI1 (d + 7) 194 [.ref 195, .int (nI q)] τ Q3 := fun q e Q3 h2 => s_err (n := q) hk (fun ω z1 z2 z3 => h2 ω (h0 q j ω e (hF.tr (z1.sub (fun a b => mA_X))) z2 z3))
    by_cases c0 : tkk t b j = 30001
    · rw [if_pos c0] at hr2
      have hN := hE.2
      have h1 := h1 cs rows τ (Option.some.inj hr2).symm hF hs.2.1 (by have := hs.2.2.1; have := hs.2.2.2; omega) hR h16
      have e14 : τ 195 14 = 0 := by
        rcases hk.2.2.2 with ⟨h, e1, e2⟩ | ⟨q, hq, h, e1, e2⟩ | ⟨q, hq, h, e1, e2⟩ | ⟨h, e1⟩ | ⟨h, e1⟩
        · omega
        · omega
        · simp only [tkS, decide_eq_true_eq] at hq; omega
        · omega
        · exact e1
      refine r_al0 zi_207_2 rfl ?_
      refine q_cIV zi_207_3 rfl rfl rfl rfl rfl rfl rfl cf_195_0.ob (s_mlword (d := d + 6) hk.2.2.2 (fun z _ => absurd z (by omega)) (fun _ => ?_))
      show zk _ _ 6 _ _ _ _
      refine r_if0 zi_207_6 rfl (fun _ => ?_) (fun c => absurd (by decide) c)
      refine r_al0 zi_207_128 rfl ?_
      refine q_getIe zi_207_129 rfl cf_195_14 (v := 0) (by first | exact e14 | ((repeat (first | rw [zup_ne (by first | decide | omega)] | rw [zup_nj (by first | decide | omega)] | rw [fil_ne (by first | decide | omega)])) <;> exact e14) | (simp [up_rd, fil_rd]; exact e14)) ?_
      refine r_if1 zi_207_132 rfl (fun c => absurd (by decide) c) (fun _ => ?_)
      refine r_il1 zi_207_135 rfl ?_
      refine r_goto zi_207_136 rfl ?_
      refine r_retI zi_207_144 rfl ?_
      exact ⟨_, rfl, h1⟩
    · rw [if_neg c0] at hr2
      have e14 : ¬ τ 195 14 = 0 := fun z => by
        rcases hk.2.2.2 with ⟨h, e1, e2⟩ | ⟨q, hq, h, e1, e2⟩ | ⟨q, hq, h, e1, e2⟩ | ⟨h, e1⟩ | ⟨h, e1⟩
        · rw [e1] at z; exact absurd z (by decide)
        · rw [e1] at z; exact absurd z (by decide)
        · rw [e1] at z; exact absurd z (by decide)
        · rw [e1] at z; exact absurd z (by decide)
        · exact c0 h
      by_cases c : 10000 ≤ tkk t b j ∧ tkk t b j ≤ 10002
      · rw [if_neg (fun z => z c)] at hr2
        by_cases c16 : rows.length = 16
        · rw [if_pos c16] at hr2
          have herr := herr 3 (Option.some.inj hr2).symm
          refine r_al0 zi_207_2 rfl ?_
          refine q_cIV zi_207_3 rfl rfl rfl rfl rfl rfl rfl cf_195_0.ob (s_mlword (d := d + 6) hk.2.2.2 (fun _ _ => ?_) (fun z => absurd c z))
          show zk _ _ 6 _ _ _ _
          refine r_if0 zi_207_6 rfl (fun c => absurd c (by decide)) (fun _ => ?_)
          refine r_il1 zi_207_9 rfl ?_
          refine r_push zi_207_10 rfl ?_
          refine n_ic1 (i := rows.length) (j := 16) zi_207_12 rfl (by omega) (by omega) (fun c => absurd c (by omega)) (fun _ => ?_)
          refine r_al0 zi_207_15 rfl ?_
          refine r_push zi_207_16 rfl ?_
          refine q_cIV zi_207_17 rfl rfl rfl rfl rfl rfl rfl cf_195_0.ob (herr _ (fun ω fin => ?_))
          show zk _ _ 20 _ _ _ _
          refine r_retI zi_207_20 rfl ?_
          exact ⟨_, rfl, fin⟩
        · rw [if_neg c16] at hr2
          cases hp : plw (tkk t b) j cs with
          | none => rw [hp] at hr2; cases hr2
          | some y =>
            rw [hp] at hr2
            have hbad : ∀ υ, mFa σ t b y υ → Q (-1) υ := fun υ ⟨q, i, e1, e2, e3, e4⟩ => h0 q i υ (by rw [e1] at hr2; exact (Option.some.inj hr2).symm) e2 e3 e4
            have hgo : ∀ i ds row, y = .inr (i, ds, row) → ptx 10000 10002 (plw (tkk t b)) (tkk t b) f i ds (rows ++ [row]) = some r := fun i ds row e => by rw [e] at hr2; exact hr2
            have hback : ∀ i ds row υ u2, y = .inr (i, ds, row) → Fg mX σ υ → mSt υ t b N i ds 0 → υ 195 26 = 0 → mRl υ 32 (rows ++ [row]) → zk (d + 8) 207 2 [.ref 195, .int (nI (rows.length + 1)), u2] [] υ (fun r t => ∃ v, r = some v ∧ Q v t) := fun i ds row υ u2 e x z w v => by
              have := ih i ds (rows ++ [row]) υ u2 (hgo i ds row e) z w v (by rw [List.length_append, List.length_singleton]; omega) x
              rw [List.length_append, List.length_singleton] at this
              exact this
            have k21 := fun hv u2 => l_mlaw1 (d := d) (u2 := u2) hE c hv (by omega) hs h26 hR hF hp hbad hback
            refine r_al0 zi_207_2 rfl ?_
            refine q_cIV zi_207_3 rfl rfl rfl rfl rfl rfl rfl cf_195_0.ob (s_mlword (d := d + 6) hk.2.2.2 (fun _ hv => ?_) (fun z => absurd c z))
            show zk _ _ 6 _ _ _ _
            refine r_if0 zi_207_6 rfl (fun c => absurd c (by decide)) (fun _ => ?_)
            refine r_il1 zi_207_9 rfl ?_
            refine r_push zi_207_10 rfl ?_
            refine n_ic1 (i := rows.length) (j := 16) zi_207_12 rfl (by omega) (by omega) (fun _ => ?_) (fun c => absurd c (by omega))
            exact k21 hv _
      · rw [if_pos c] at hr2
        have herr := herr 1 (Option.some.inj hr2).symm
        refine r_al0 zi_207_2 rfl ?_
        refine q_cIV zi_207_3 rfl rfl rfl rfl rfl rfl rfl cf_195_0.ob (s_mlword (d := d + 6) hk.2.2.2 (fun z _ => absurd z c) (fun _ => ?_))
        show zk _ _ 6 _ _ _ _
        refine r_if0 zi_207_6 rfl (fun _ => ?_) (fun c => absurd (by decide) c)
        refine r_al0 zi_207_128 rfl ?_
        refine q_getI zi_207_129 rfl cf_195_14 ?_
        refine r_if1 zi_207_132 rfl (fun _ => ?_) (fun c => absurd c e14)
        refine r_al0 zi_207_139 rfl ?_
        refine r_push zi_207_140 rfl ?_
        refine q_cIV zi_207_141 rfl rfl rfl rfl rfl rfl rfl cf_195_0.ob (herr _ (fun ω fin => ?_))
        show zk _ _ 144 _ _ _ _
        refine r_retI zi_207_144 rfl ?_
        exact ⟨_, rfl, fin⟩
/-- what a text's reading leaves in the model's drafts -/
def mDr (k n : Nat) (υ : zS) (cs : List Nat) (rows : List pRw) : Prop := (k = 0 → mDc υ cs ∧ cs.length ≤ 400 ∧ mRl υ 32 rows) ∧ (k = 1 → mRe υ n 32 rows) ∧ (k = 2 → mRd υ 48 rows) ∧ (k = 3 → (∀ p, p < 12 → υ 214 (12 + p) = pBs rows p) ∧ ∀ x, x ∈ rows → pRv x)
theorem ptx_cs {lo hi : Nat} {L : Nat → List Nat → pLn} {K : Nat → Nat} (hL : ∀ j cs i ds row, L j cs = some (.inr (i, ds, row)) → ds = cs) : ∀ (f j : Nat) (cs : List Nat) (rows : List pRw) (ds : List Nat) (ro : List pRw), ptx lo hi L K f j cs rows = some (.inr (ds, ro)) → ds = cs
  | 0, j, cs, rows, ds, ro, h => by cases h
  | f + 1, j, cs, rows, ds, ro, h => by
    have h2 : (if K j = 30001 then some (.inr (cs, rows)) else if ¬ (lo ≤ K j ∧ K j ≤ hi) then some (.inl (1, j)) else if rows.length = 16 then some (.inl (3, j)) else match L j cs with | none => none | some (.inl x) => some (.inl x) | some (.inr (i, ds, row)) => ptx lo hi L K f i ds (rows ++ [row])) = some (.inr (ds, ro)) := h
    split at h2
    · have e := Option.some.inj h2
      injection e with e
      injection e with e1 e2
      exact e1.symm
    · split at h2
      · cases h2
      · split at h2
        · cases h2
        · split at h2
          · cases h2
          · cases h2
          · rename_i i ds2 row hp
            rw [ptx_cs hL f i ds2 _ ds ro h2]
            exact hL j cs i ds2 row hp
theorem pkw_cs {K : Nat → Nat} {j v : Nat} {k : pLn} {x : Nat × List Nat × pRw} (h : pkw K j v k = some (.inr x)) : k = some (.inr x) := by
  unfold pkw at h
  split at h
  · exact h
  · cases h
theorem pnum_cs {K : Nat → Nat} {j m : Nat} {k : Nat → pLn} {x : Nat × List Nat × pRw} (h : pnum K j m k = some (.inr x)) : k (K j) = some (.inr x) := by
  unfold pnum at h
  split at h
  · cases h
  · split at h
    · cases h
    · exact h
theorem inr_cs {i j : Nat} {cs ds : List Nat} {r s : pRw} (h : (some (.inr (i, cs, r)) : pLn) = some (.inr (j, ds, s))) : ds = cs := by
  have e := Option.some.inj h
  injection e with e
  injection e with e1 e2
  injection e2 with e3 e4
  exact e3.symm
theorem ptl_cs {K : Nat → Nat} {cs ds : List Nat} {day w who a i j : Nat} {row : pRw} (h : ptl K cs day w who a i = some (.inr (j, ds, row))) : ds = cs := by
  unfold ptl at h
  split at h
  · exact inr_cs (pkw_cs h)
  · exact inr_cs (pkw_cs h)
theorem ple_cs {n : Nat} {K : Nat → Nat} (j : Nat) (cs : List Nat) (i : Nat) (ds : List Nat) (row : pRw) (h : ple n K j cs = some (.inr (i, ds, row))) : ds = cs := by
  have h := pnum_cs (pkw_cs (pnum_cs h))
  split at h
  · split at h
    · exact ptl_cs (pnum_cs (k := fun a => ptl K cs (K (j + 1)) 0 (K (j + 3)) a (j + 6)) h)
    · exact ptl_cs h
  · cases h
theorem pti_cs {K : Nat → Nat} (j : Nat) (cs : List Nat) (i : Nat) (ds : List Nat) (row : pRw) (h : pti K j cs = some (.inr (i, ds, row))) : ds = cs := by
  have h := pnum_cs h
  split at h
  · exact inr_cs (pkw_cs (pnum_cs h))
  · exact inr_cs (pkw_cs (pnum_cs (pnum_cs (pkw_cs h))))
theorem pro_cs {K : Nat → Nat} (j : Nat) (cs : List Nat) (i : Nat) (ds : List Nat) (row : pRw) (h : pro K j cs = some (.inr (i, ds, row))) : ds = cs := by
  have h := pkw_cs (pnum_cs h)
  split at h
  · cases h
  · exact inr_cs (pkw_cs (pnum_cs h))
theorem s_mreads {d b n k N : Nat} {t : Nat → Nat} {σ : zS} {Q : Int32 → zS → Prop} (hE : mEn t b N) (hc : mTc σ t b) (hk4 : k ≤ 3) (hn : n ≤ 18) (hsub : σ 195 6 = nI n) (h12 : σ 195 12 = 0) (h25 : σ 195 25 = 0) (h26 : σ 195 26 = 0) (hx : ptx (pklo k) (pkhi k) (pkL n k (tkk t b)) (tkk t b) 18 0 [] [] ≠ none) (h1 : ∀ cs rows υ, ptx (pklo k) (pkhi k) (pkL n k (tkk t b)) (tkk t b) 18 0 [] [] = some (.inr (cs, rows)) → Fg mX (up σ 195 24 0) υ → mDr k n υ cs rows → rows.length ≤ 16 → Q (nI rows.length) υ) (h0 : ∀ q i υ, ptx (pklo k) (pkhi k) (pkL n k (tkk t b)) (tkk t b) 18 0 [] [] = some (.inl (q, i)) → Fg mX (up σ 195 24 0) υ → υ 195 29 = nI q → υ 195 30 = nI (tks t b i) → Q (-1) υ) : zI1 (d + 9) 219 [.ref 195, .int (nI k)] σ Q := by
  have hrd : ∀ (Q2 : zS → Prop), (∀ υ, Fg mX (up σ 195 24 0) υ → mTk υ t b 0 → υ 195 25 = 0 → υ 195 26 = 0 → υ 195 6 = nI n → Q2 υ) → zV1 (d + 8) 193 [.ref 195] (up σ 195 24 0) Q2 := fun Q2 h2 => s_read0 (d := d + 6) (t := t) (b := b) (mTc_f hc (zup_nj (by decide)) (fun i => zup_ne (by decide)) (fun i => zup_ne (by decide))) ((zup_nj (by decide)).trans h12) (fun υ x y => h2 υ (x.sub (fun a b => mR_X)) y ((x 195 25 (by unfold mR; omega)).trans ((zup_nj (by decide)).trans h25)) ((x 195 26 (by unfold mR; omega)).trans ((zup_nj (by decide)).trans h26)) ((x 195 6 (by unfold mR; omega)).trans ((zup_nj (by decide)).trans hsub)))
  generalize hs1 : up σ 195 24 0 = σ1 at *
  cases hp : ptx (pklo k) (pkhi k) (pkL n k (tkk t b)) (tkk t b) 18 0 [] [] with
  | none => exact absurd hp hx
  | some r =>
    replace h0 : ∀ q i υ, r = .inl (q, i) → Fg mX σ1 υ → υ 195 29 = nI q → υ 195 30 = nI (tks t b i) → Q (-1) υ := fun q i υ e x y z => h0 q i υ (by rw [hp, e]) x y z
    replace h1 : ∀ cs rows υ, r = .inr (cs, rows) → Fg mX σ1 υ → mDr k n υ cs rows → rows.length ≤ 16 → Q (nI rows.length) υ := fun cs rows υ e x y z => h1 cs rows υ (by rw [hp, e]) x y z
    have hkc : k = 0 ∨ k = 1 ∨ k = 2 ∨ k = 3 := by omega
    rcases hkc with e | e | e | e
    · subst e
      replace hp : ptx 10000 10002 (plw (tkk t b)) (tkk t b) 18 0 [] [] = some r := hp
      have hlw : ∀ υ, Fg mX σ1 υ → mTk υ t b 0 → υ 195 25 = 0 → υ 195 26 = 0 → zI1 (d + 8) 207 [.ref 195] υ Q := fun υ x y z w => by
        have lp := fun u2 => l_mlaws (d := d) (Q := Q) (u2 := u2) hE (fun cs rows ρ e g1 g2 g3 g4 g5 => h1 cs rows ρ e g1 ⟨fun _ => ⟨g2, g3, g4⟩, fun z => absurd z (by decide), fun z => absurd z (by decide), fun z => absurd z (by decide)⟩ g5) h0 18 0 [] [] υ
        show zk _ _ 0 [.ref 195, zun, zun] [] _ _
        refine r_push zi_207_0 rfl ?_
        refine r_is1 zi_207_1 rfl ?_
        exact lp _ hp ⟨y, ⟨z, fun i hi => absurd hi (Nat.not_lt_zero i)⟩, Nat.zero_le _, Nat.le_refl _⟩ w (fun l hl => absurd hl (Nat.not_lt_zero l)) (Nat.zero_le _) x
      show zk _ _ 0 [.ref 195, .int 0] [] _ _
      refine r_al0 zi_219_0 rfl ?_
      refine r_push zi_219_1 rfl ?_
      refine q_put zi_219_2 rfl cf_195_24 rfl ?_
      rw [hs1]
      refine r_al0 zi_219_5 rfl ?_
      refine q_cVV zi_219_6 rfl rfl rfl rfl rfl rfl rfl cf_195_0.ob (hrd _ (fun υ x y z w v => ?_))
      show zk _ _ 9 _ _ _ _
      refine r_il1 zi_219_9 rfl ?_
      refine r_push zi_219_10 rfl ?_
      refine r_ic1 zi_219_11 rfl (fun _ => ?_) (fun c => absurd c (by decide))
      refine r_il1 zi_219_19 rfl ?_
      refine r_push zi_219_20 rfl ?_
      refine r_ic1 zi_219_21 rfl (fun _ => ?_) (fun c => absurd c (by decide))
      refine r_il1 zi_219_29 rfl ?_
      refine r_push zi_219_30 rfl ?_
      refine r_ic1 zi_219_31 rfl (fun _ => ?_) (fun c => absurd c (by decide))
      refine r_al0 zi_219_41 rfl ?_
      refine q_cIV zi_219_42 rfl rfl rfl rfl rfl rfl rfl cf_195_0.ob ((hlw υ x y z w).mono (fun v ρ fin => ?_))
      show zk _ _ 45 _ _ _ _
      refine r_retI zi_219_45 rfl ?_
      exact ⟨_, rfl, fin⟩
    · subst e
      replace hp : ptx 10017 10017 (ple n (tkk t b)) (tkk t b) 18 0 [] [] = some r := hp
      have hlw : ∀ υ, Fg mX σ1 υ → mTk υ t b 0 → υ 195 6 = nI n → zI1 (d + 8) 214 [.ref 195] υ Q := fun υ x y z => by
        have lp := l_mledg (d := d + 2) (Q := Q) (σ := υ) hE hn z (fun rows ρ e g1 g2 g3 => h1 [] rows ρ e (x.tr g1) ⟨fun z => absurd z (by decide), fun _ => g2, fun z => absurd z (by decide), fun z => absurd z (by decide)⟩ g3) (fun q i ρ e g1 g2 g3 => h0 q i ρ e (x.tr g1) g2 g3) 18 0 [] υ hp y (Nat.zero_le _) (fun l hl => absurd hl (Nat.not_lt_zero l)) (Nat.zero_le _) Fg.rf
        show zk _ _ 0 [.ref 195, zun] [] _ _
        refine r_push zi_214_0 rfl ?_
        refine r_is1 zi_214_1 rfl ?_
        exact lp
      show zk _ _ 0 [.ref 195, .int 1] [] _ _
      refine r_al0 zi_219_0 rfl ?_
      refine r_push zi_219_1 rfl ?_
      refine q_put zi_219_2 rfl cf_195_24 rfl ?_
      rw [hs1]
      refine r_al0 zi_219_5 rfl ?_
      refine q_cVV zi_219_6 rfl rfl rfl rfl rfl rfl rfl cf_195_0.ob (hrd _ (fun υ x y z w v => ?_))
      show zk _ _ 9 _ _ _ _
      refine r_il1 zi_219_9 rfl ?_
      refine r_push zi_219_10 rfl ?_
      refine r_ic1 zi_219_11 rfl (fun c => absurd (by decide) c) (fun _ => ?_)
      refine r_al0 zi_219_14 rfl ?_
      refine q_cIV zi_219_15 rfl rfl rfl rfl rfl rfl rfl cf_195_0.ob ((hlw υ x y v).mono (fun v ρ fin => ?_))
      show zk _ _ 18 _ _ _ _
      refine r_retI zi_219_18 rfl ?_
      exact ⟨_, rfl, fin⟩
    · subst e
      replace hp : ptx 10017 10017 (pti (tkk t b)) (tkk t b) 18 0 [] [] = some r := hp
      have hlw : ∀ υ, Fg mX σ1 υ → mTk υ t b 0 → zI1 (d + 8) 216 [.ref 195] υ Q := fun υ x y => by
        have lp := l_mtid (d := d + 2) (Q := Q) (σ := υ) hE (fun rows ρ e g1 g2 g3 => h1 [] rows ρ e (x.tr g1) ⟨fun z => absurd z (by decide), fun z => absurd z (by decide), fun _ => g2, fun z => absurd z (by decide)⟩ g3) (fun q i ρ e g1 g2 g3 => h0 q i ρ e (x.tr g1) g2 g3) 18 0 [] υ hp y (Nat.zero_le _) (fun l hl => absurd hl (Nat.not_lt_zero l)) (Nat.zero_le _) Fg.rf
        show zk _ _ 0 [.ref 195, zun] [] _ _
        refine r_push zi_216_0 rfl ?_
        refine r_is1 zi_216_1 rfl ?_
        exact lp
      show zk _ _ 0 [.ref 195, .int 2] [] _ _
      refine r_al0 zi_219_0 rfl ?_
      refine r_push zi_219_1 rfl ?_
      refine q_put zi_219_2 rfl cf_195_24 rfl ?_
      rw [hs1]
      refine r_al0 zi_219_5 rfl ?_
      refine q_cVV zi_219_6 rfl rfl rfl rfl rfl rfl rfl cf_195_0.ob (hrd _ (fun υ x y z w v => ?_))
      show zk _ _ 9 _ _ _ _
      refine r_il1 zi_219_9 rfl ?_
      refine r_push zi_219_10 rfl ?_
      refine r_ic1 zi_219_11 rfl (fun _ => ?_) (fun c => absurd c (by decide))
      refine r_il1 zi_219_19 rfl ?_
      refine r_push zi_219_20 rfl ?_
      refine r_ic1 zi_219_21 rfl (fun c => absurd (by decide) c) (fun _ => ?_)
      refine r_al0 zi_219_24 rfl ?_
      refine q_cIV zi_219_25 rfl rfl rfl rfl rfl rfl rfl cf_195_0.ob ((hlw υ x y).mono (fun v ρ fin => ?_))
      show zk _ _ 28 _ _ _ _
      refine r_retI zi_219_28 rfl ?_
      exact ⟨_, rfl, fin⟩
    · subst e
      replace hp : ptx 10026 10026 (pro (tkk t b)) (tkk t b) 18 0 [] [] = some r := hp
      have hlw : ∀ υ, Fg mX σ1 υ → mTk υ t b 0 → zI1 (d + 8) 218 [.ref 195] υ Q := fun υ x y => by
        have lp := fun τ x2 y2 h2 => l_mroads2 (d := d + 2) (Q := Q) (σ := υ) hE (fun rows ρ e g1 g2 g3 => h1 [] rows ρ e (x.tr g1) ⟨fun z => absurd z (by decide), fun z => absurd z (by decide), fun z => absurd z (by decide), fun _ => g2⟩ g3) (fun q i ρ e g1 g2 g3 => h0 q i ρ e (x.tr g1) g2 g3) 18 0 [] τ hp y2 (Nat.zero_le _) ⟨h2, fun x hx => absurd hx (by simp)⟩ (Nat.zero_le _) x2
        have clr : ∀ (m p : Nat) (τ : zS), p + m = 12 → Fg mX υ τ → mTk τ t b 0 → (∀ q, q < p → τ 214 (12 + q) = 0) → zk (d + 8) 218 2 [.ref 195, .int (nI p)] [] τ (fun r t => ∃ v, r = some v ∧ Q v t) := by
          intro m
          induction m with
          | zero =>
            intro p τ hp2 x2 y2 h2
            have e : p = 12 := by omega
            subst e
            have lp := lp τ x2 y2 (fun p hp => by rw [h2 p hp]; rfl)
            refine r_il1 zi_218_2 rfl ?_
            refine r_push zi_218_3 rfl ?_
            refine n_ic3 (i := 12) (j := 12) zi_218_5 rfl (by omega) (by omega) (fun _ => ?_) (fun c => absurd c (by omega))
            refine r_push zi_218_24 rfl ?_
            refine r_is1 zi_218_25 rfl ?_
            exact lp
          | succ m ih =>
            intro p τ hp2 x2 y2 h2
            have ih := ih (p + 1) (up τ 214 (12 + p) 0) (by omega) (x2.put (by unfold mX; omega)) (mTk_f y2 (fun q _ _ => zup_ne (by decide)) (fun q => zup_ne (by decide)) (fun q => zup_ne (by decide))) (fun q hq => by
              by_cases e : q = p
              · rw [e, zup_eq]
              · rw [zup_nj (by omega)]; exact h2 q (by omega))
            refine r_il1 zi_218_2 rfl ?_
            refine r_push zi_218_3 rfl ?_
            refine n_ic3 (i := p) (j := 12) zi_218_5 rfl (by omega) (by omega) (fun c => absurd c (by omega)) (fun _ => ?_)
            refine r_al0 zi_218_8 rfl ?_
            refine q_getR zi_218_9 rfl cf_195_38 ?_
            refine r_push zi_218_12 rfl ?_
            refine r_il1 zi_218_14 rfl ?_
            refine r_b0 zi_218_15 rfl ?_
            rw [show (12 + nI p : Int32) = nI (12 + p) from nI_add _ _]
            refine r_push zi_218_16 rfl ?_
            refine r_ast zi_218_17 rfl (12 + p) ca_214 (by first | rfl | (simp only [zI_add, zI_mul] <;> rfl)) (by first | omega | decide) ?_
            refine r_in1 zi_218_18 rfl ?_
            rw [show (nI p + 1 : Int32) = nI (p + 1) from nI_add _ _]
            refine r_goto zi_218_21 rfl ?_
            exact ih
        show zk _ _ 0 [.ref 195, zun] [] _ _
        refine r_push zi_218_0 rfl ?_
        refine r_is1 zi_218_1 rfl ?_
        exact clr 12 0 υ rfl Fg.rf y (fun q hq => absurd hq (Nat.not_lt_zero q))
      show zk _ _ 0 [.ref 195, .int 3] [] _ _
      refine r_al0 zi_219_0 rfl ?_
      refine r_push zi_219_1 rfl ?_
      refine q_put zi_219_2 rfl cf_195_24 rfl ?_
      rw [hs1]
      refine r_al0 zi_219_5 rfl ?_
      refine q_cVV zi_219_6 rfl rfl rfl rfl rfl rfl rfl cf_195_0.ob (hrd _ (fun υ x y z w v => ?_))
      show zk _ _ 9 _ _ _ _
      refine r_il1 zi_219_9 rfl ?_
      refine r_push zi_219_10 rfl ?_
      refine r_ic1 zi_219_11 rfl (fun _ => ?_) (fun c => absurd c (by decide))
      refine r_il1 zi_219_19 rfl ?_
      refine r_push zi_219_20 rfl ?_
      refine r_ic1 zi_219_21 rfl (fun _ => ?_) (fun c => absurd c (by decide))
      refine r_il1 zi_219_29 rfl ?_
      refine r_push zi_219_30 rfl ?_
      refine r_ic1 zi_219_31 rfl (fun c => absurd (by decide) c) (fun _ => ?_)
      refine r_al0 zi_219_34 rfl ?_
      refine q_cIV zi_219_35 rfl rfl rfl rfl rfl rfl rfl cf_195_0.ob ((hlw υ x y).mono (fun v ρ fin => ?_))
      show zk _ _ 38 _ _ _ _
      refine r_goto zi_219_38 rfl ?_
      refine r_retI zi_219_45 rfl ?_
      exact ⟨_, rfl, fin⟩

