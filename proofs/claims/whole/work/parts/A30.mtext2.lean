/-! MODEL: text -/
def mT0 (a c : Nat) : Prop := mX a c ∨ (a = 195 ∧ (c = 0 ∨ c = 11 ∨ c = 12 ∨ c = 24 ∨ c = 25 ∨ c = 26 ∨ c = 31 ∨ c = 32))
def mLv (k a c : Nat) : Prop := (k = 0 ∧ (a = 204 ∨ (205 ≤ a ∧ a ≤ 208 ∧ c < 16) ∨ ((a = 209 ∨ a = 210) ∧ c < 400))) ∨ (k = 1 ∧ ((a = 212 ∧ c < 32) ∨ (a = 195 ∧ (c = 33 ∨ c = 3)))) ∨ (k = 2 ∧ ((a = 213 ∧ c < 48) ∨ (a = 195 ∧ (c = 35 ∨ c = 3)))) ∨ (k = 3 ∧ ((a = 214 ∧ c < 12) ∨ (a = 195 ∧ (c = 37 ∨ c = 3))))
def mLt (k n : Nat) (ω : zS) (cs : List Nat) (rows : List pRw) : Prop := (k = 0 → ω 204 0 = nI rows.length ∧ mRl ω 0 rows ∧ ∀ i, i < cs.length → ω 209 i = nI (zdo (cs.getD i 0)) ∧ ω 210 i = nI (zda (cs.getD i 0))) ∧ (k = 1 → ω 195 33 = nI rows.length ∧ mRe ω n 0 rows) ∧ (k = 2 → ω 195 35 = nI rows.length ∧ mRd ω 0 rows) ∧ (k = 3 → ω 195 37 = nI rows.length ∧ ∀ p, p < 12 → ω 214 p = pBs rows p)
theorem s_mtext {d b n N : Nat} {t : Nat → Nat} {σ : zS} {Q : Int32 → zS → Prop} {kv : Int32} (hE : mEn t b N) (hc : mTc σ t b) (hn : n ≤ 18) (hsub : σ 195 6 = nI n) (h1 : ∀ k cs rows ω, k ≤ 3 → kv = nI k → ptR n k t b = some (.inr (cs, rows)) → rows.length ≤ 16 → (∀ a c, ¬ mT0 a c → ¬ mLv k a c → ω a c = σ a c) → ω 195 11 = 0 → ω 195 31 = 0 → ω 195 32 = -1 → (k ≠ 0 → ω 195 3 = 0) → mLt k n ω cs rows → Q (nI rows.length) ω) (h0 : ∀ ω q s, (∀ a c, ¬ mT0 a c → ω a c = σ a c) → ω 195 11 = 0 → ω 195 31 = q → ω 195 32 = s → (¬ (0 ≤ kv ∧ kv ≤ 3) ∧ q = 0 ∧ s = -1 ∨ ∃ k w i, k ≤ 3 ∧ kv = nI k ∧ ptR n k t b = some (.inl (w, i)) ∧ q = nI w ∧ s = nI (tks t b i)) → Q (-1) ω) : zI1 (d + 10) 221 [.ref 195, .int kv] σ Q := by
  have hbb := hc.2.1
  have f0 : ∀ a c, ¬ (a = 195 ∧ (c = 0 ∨ c = 31 ∨ c = 32 ∨ c = 12 ∨ c = 25 ∨ c = 26)) → up (up (up (up (up (up σ 195 0 0) 195 31 0) 195 32 (-1)) 195 12 0) 195 25 0) 195 26 0 a c = σ a c := fun a c h => by
    rw [zup_n2 (by omega), zup_n2 (by omega), zup_n2 (by omega), zup_n2 (by omega), zup_n2 (by omega), zup_n2 (by omega)]
  have e31 : up (up (up (up (up (up σ 195 0 0) 195 31 0) 195 32 (-1)) 195 12 0) 195 25 0) 195 26 0 195 31 = 0 := by rw [zup_nj (by decide), zup_nj (by decide), zup_nj (by decide), zup_nj (by decide), zup_eq]
  have e32 : up (up (up (up (up (up σ 195 0 0) 195 31 0) 195 32 (-1)) 195 12 0) 195 25 0) 195 26 0 195 32 = -1 := by rw [zup_nj (by decide), zup_nj (by decide), zup_nj (by decide), zup_eq]
  have e12 : up (up (up (up (up (up σ 195 0 0) 195 31 0) 195 32 (-1)) 195 12 0) 195 25 0) 195 26 0 195 12 = 0 := by rw [zup_nj (by decide), zup_nj (by decide), zup_eq]
  have e25 : up (up (up (up (up (up σ 195 0 0) 195 31 0) 195 32 (-1)) 195 12 0) 195 25 0) 195 26 0 195 25 = 0 := by rw [zup_nj (by decide), zup_eq]
  have e26 : up (up (up (up (up (up σ 195 0 0) 195 31 0) 195 32 (-1)) 195 12 0) 195 25 0) 195 26 0 195 26 = 0 := zup_eq
  show zk _ _ 0 [.ref 195, .int kv, zun] [] _ _
  have key : zk (d + 10) 221 30 [.ref 195, .int kv, zun] [] (up (up (up (up (up (up σ 195 0 0) 195 31 0) 195 32 (-1)) 195 12 0) 195 25 0) 195 26 0) (fun r t => ∃ v, r = some v ∧ Q v t) := by
    generalize up (up (up (up (up (up σ 195 0 0) 195 31 0) 195 32 (-1)) 195 12 0) 195 25 0) 195 26 0 = σ1 at *
    by_cases c : 0 ≤ kv ∧ kv ≤ 3
    · obtain ⟨k, hk, rfl⟩ := nI_ex (n := 3) c.1 c.2 (by decide)
      have hin : ∀ (Q2 : Int32 → zS → Prop), Q2 1 σ1 → zI1 (d + 9) 164 [.ref 195, .int (nI k), .int 0, .int 3] σ1 Q2 := fun Q2 h2 => s_isIn (fun _ _ => h2) (fun q => absurd c q)
      have hfr : ∀ υ a c, Fg mX (up σ1 195 24 0) υ → ¬ mT0 a c → υ a c = σ a c := fun υ a c x h => (x a c (fun z => h (Or.inl z))).trans ((zup_n2 (fun z => h (Or.inr (by omega)))).trans (f0 a c (fun z => h (Or.inr (by omega)))))
      have hmr : ∀ (Q2 : Int32 → zS → Prop), (∀ cs rows υ, ptR n k t b = some (.inr (cs, rows)) → Fg mX (up σ1 195 24 0) υ → mDr k n υ cs rows → rows.length ≤ 16 → Q2 (nI rows.length) υ) → (∀ υ, (∃ w i, ptR n k t b = some (.inl (w, i)) ∧ Fg mX (up σ1 195 24 0) υ ∧ υ 195 29 = nI w ∧ υ 195 30 = nI (tks t b i)) → Q2 (-1) υ) → zI1 (d + 9) 219 [.ref 195, .int (nI k)] σ1 Q2 := fun Q2 k1 k0 => s_mreads hE (mTc_f hc (f0 195 11 (by omega)) (fun i => f0 202 i (by omega)) (fun i => f0 203 i (by omega))) hk hn ((f0 195 6 (by omega)).trans hsub) e12 e25 e26 (ptx_all hk hbb) k1 (fun q i υ e x y z => k0 υ ⟨q, i, e, x, y, z⟩)
      have hbad : ∀ υ, (∃ w i, ptR n k t b = some (.inl (w, i)) ∧ Fg mX (up σ1 195 24 0) υ ∧ υ 195 29 = nI w ∧ υ 195 30 = nI (tks t b i)) → Q (-1) (up (up (up υ 195 31 (υ 195 29)) 195 32 (up υ 195 31 (υ 195 29) 195 30)) 195 11 0) := fun υ ⟨w, i, e, x, y, z⟩ => h0 _ (nI w) (nI (tks t b i)) (fun a c h => by
        rw [zup_n2 (fun g => h (Or.inr (by omega))), zup_n2 (fun g => h (Or.inr (by omega))), zup_n2 (fun g => h (Or.inr (by omega)))]
        exact hfr υ a c x h) zup_eq (by rw [zup_nj (by decide), zup_nj (by decide), zup_eq]; exact y) (by rw [zup_nj (by decide), zup_eq, zup_nj (by decide)]; exact z) (Or.inr ⟨k, w, i, hk, rfl, e, rfl, rfl⟩)
      have hfr2 : ∀ υ a c, Fg mX (up σ1 195 24 0) υ → ¬ mT0 a c → up υ 195 11 0 a c = σ a c := fun υ a c x h => (zup_n2 (fun z => h (Or.inr (by omega)))).trans (hfr υ a c x h)
      have g31 : ∀ υ, Fg mX (up σ1 195 24 0) υ → up υ 195 11 0 195 31 = 0 := fun υ x => (zup_nj (by decide)).trans ((x 195 31 (by unfold mX; omega)).trans ((zup_nj (by decide)).trans e31))
      have g32 : ∀ υ, Fg mX (up σ1 195 24 0) υ → up υ 195 11 0 195 32 = -1 := fun υ x => (zup_nj (by decide)).trans ((x 195 32 (by unfold mX; omega)).trans ((zup_nj (by decide)).trans e32))
      have g24 : ∀ υ, Fg mX (up σ1 195 24 0) υ → up υ 195 11 0 195 24 = 0 := fun υ x => (zup_nj (by decide)).trans ((x 195 24 (by unfold mX; omega)).trans zup_eq)
      by_cases k0 : k = 0
      · subst k0
        have hcl : ∀ cs rows υ, mDr 0 n υ cs rows → cs.length ≤ 400 := fun cs rows υ g => (g.1 rfl).2.1
        have htl : ∀ cs rows υ, ptR n 0 t b = some (.inr (cs, rows)) → Fg mX (up σ1 195 24 0) υ → mDr 0 n υ cs rows → rows.length ≤ 16 → ∀ (Q2 : zS → Prop), (∀ ω, Q (nI rows.length) ω → Q2 ω) → zV1 (d + 9) 208 [.ref 195, .int (nI rows.length)] (up υ 195 11 0) Q2 := fun cs rows υ e x g h16 Q2 h2 => by
          obtain ⟨gc, gl, gr⟩ := g.1 rfl
          refine s_tlaw h16 gl (g24 υ x) ((zup_nj (by decide)).trans gc.1) (fun τ ρ K1 K2 => h2 _ (h1 0 cs rows _ hk rfl e h16 (fun a c m1 m2 => ?_) ?_ ?_ ?_ (fun z => absurd rfl z) ⟨fun _ => ⟨zup_eq, fun l hl => ?_, fun i hi => ?_⟩, fun z => absurd z (by decide), fun z => absurd z (by decide), fun z => absurd z (by decide)⟩))
          · rw [zup_n2 (fun z => m2 (Or.inl ⟨rfl, Or.inl z.1⟩)), K2.1 a c (fun z => m2 (Or.inl ⟨rfl, Or.inr (Or.inr z)⟩)), K1.1 a c (fun z => m2 (Or.inl ⟨rfl, Or.inr (Or.inl z)⟩))]
            exact hfr2 υ a c x m1
          · rw [zup_ne (by decide), K2.1 195 11 (by omega), K1.1 195 11 (by omega), zup_eq]
          · rw [zup_ne (by decide), K2.1 195 31 (by omega), K1.1 195 31 (by omega)]; exact g31 υ x
          · rw [zup_ne (by decide), K2.1 195 32 (by omega), K1.1 195 32 (by omega)]; exact g32 υ x
          · obtain ⟨b1, b2, b3, b4⟩ := gr l hl
            have q0 : ∀ a, a = 205 ∨ a = 206 ∨ a = 207 ∨ a = 208 → up ρ 204 0 (nI rows.length) a (0 + l) = τ a l := fun a ha => by
              rw [zup_ne (by omega), Nat.zero_add, K2.1 a l (by omega)]
            have q1 : ∀ a, a = 205 ∨ a = 206 ∨ a = 207 ∨ a = 208 → up υ 195 11 0 a (32 + l) = υ a (32 + l) := fun a ha => zup_ne (by omega)
            refine ⟨?_, ?_, ?_, ?_⟩
            · obtain ⟨w, w1, w2, w3⟩ := b1
              exact ⟨w, w1, by rw [q0 205 (by omega), K1.2.1 l hl, q1 205 (by omega)]; exact w2, w3⟩
            · rw [q0 206 (by omega), K1.2.2.1 l hl, q1 206 (by omega)]; exact b2
            · rw [q0 207 (by omega), K1.2.2.2.1 l hl, q1 207 (by omega)]; exact b3
            · rw [q0 208 (by omega), K1.2.2.2.2 l hl, q1 208 (by omega)]; exact b4
          · obtain ⟨b1, b2⟩ := gc.2 i hi
            constructor
            · rw [zup_ne (by decide), K2.2.1 i hi, K1.1 209 _ (by omega), zup_ne (by decide)]; exact b1
            · rw [zup_ne (by decide), K2.2.2 i hi, K1.1 210 _ (by omega), zup_ne (by decide)]; exact b2
        show zk _ _ 30 [.ref 195, .int 0, zun] [] σ1 _
        refine r_push zi_221_30 rfl ?_
        refine r_is2 zi_221_31 rfl ?_
        refine r_al0 zi_221_32 rfl ?_
        refine r_il1 zi_221_33 rfl ?_
        refine r_push zi_221_34 rfl ?_
        refine r_push zi_221_35 rfl ?_
        refine q_cIV zi_221_36 rfl rfl rfl rfl rfl rfl rfl cf_195_0.ob (hin _ ?_)
        show zk _ _ 39 _ _ _ _
        refine r_if0 zi_221_39 rfl (fun c => absurd c (by decide)) (fun _ => ?_)
        refine r_al0 zi_221_42 rfl ?_
        refine r_il1 zi_221_43 rfl ?_
        refine q_cIV zi_221_44 rfl rfl rfl rfl rfl rfl rfl cf_195_0.ob (hmr _ (fun cs rows υ e x g h16 => ?_) (fun υ bad => ?_))
        · show zk _ _ 47 _ _ _ _
          refine r_is2 zi_221_47 rfl ?_
          refine r_il2 zi_221_48 rfl ?_
          refine r_push zi_221_49 rfl ?_
          refine r_ic1 zi_221_50 rfl (fun _ => ?_) (fun c => absurd c (nI_m1 (by omega)))
          refine r_al0 zi_221_69 rfl ?_
          refine r_push zi_221_70 rfl ?_
          refine q_put zi_221_71 rfl cf_195_11 rfl ?_
          refine r_il2 zi_221_74 rfl ?_
          refine r_push zi_221_75 rfl ?_
          refine r_ic1 zi_221_76 rfl (fun _ => ?_) (fun c => absurd c (nI_m1 (by omega)))
          refine r_il1 zi_221_81 rfl ?_
          refine r_if1 zi_221_82 rfl (fun c => absurd (by decide) c) (fun _ => ?_)
          refine r_al0 zi_221_85 rfl ?_
          refine r_il2 zi_221_86 rfl ?_
          refine q_cVV zi_221_87 rfl rfl rfl rfl rfl rfl rfl cf_195_0.ob (htl cs rows υ e x g h16 _ (fun ω fin => ?_))
          show zk _ _ 90 _ _ _ _
          refine r_goto zi_221_90 rfl ?_
          refine r_il2 zi_221_99 rfl ?_
          refine r_retI zi_221_100 rfl ?_
          exact ⟨_, rfl, fin⟩
        · show zk _ _ 47 _ _ _ _
          refine r_is2 zi_221_47 rfl ?_
          refine r_il2 zi_221_48 rfl ?_
          refine r_push zi_221_49 rfl ?_
          refine r_ic1 zi_221_50 rfl (fun c => absurd (by decide) c) (fun _ => ?_)
          refine r_al0 zi_221_53 rfl ?_
          refine r_al0 zi_221_54 rfl ?_
          refine q_getI zi_221_55 rfl cf_195_29 ?_
          refine q_put zi_221_58 rfl cf_195_31 rfl ?_
          refine r_al0 zi_221_61 rfl ?_
          refine r_al0 zi_221_62 rfl ?_
          refine q_getI zi_221_63 rfl cf_195_30 ?_
          refine q_put zi_221_66 rfl cf_195_32 rfl ?_
          refine r_al0 zi_221_69 rfl ?_
          refine r_push zi_221_70 rfl ?_
          refine q_put zi_221_71 rfl cf_195_11 rfl ?_
          refine r_il2 zi_221_74 rfl ?_
          refine r_push zi_221_75 rfl ?_
          refine r_ic1 zi_221_76 rfl (fun c => absurd (by decide) c) (fun _ => ?_)
          refine r_push zi_221_79 rfl ?_
          refine r_retI zi_221_80 rfl ?_
          exact ⟨_, rfl, hbad υ bad⟩
      · have hot : ∀ cs rows υ, ptR n k t b = some (.inr (cs, rows)) → Fg mX (up σ1 195 24 0) υ → mDr k n υ cs rows → rows.length ≤ 16 → ∀ (Q2 : zS → Prop), (∀ ω, Q (nI rows.length) ω → Q2 ω) → zV1 (d + 9) 220 [.ref 195, .int (nI k), .int (nI rows.length)] (up υ 195 11 0) Q2 := fun cs rows υ e x g h16 Q2 h2 => by
          have fin : ∀ (τ : zS) (c s f : Nat) (L : Nat), mK3 (up υ 195 11 0) c s L τ → (c = 212 ∨ c = 213 ∨ c = 214) → (f = 33 ∨ f = 35 ∨ f = 37) → (∀ q, q < s → mLv k c q) → mLv k 195 f → mLv k 195 3 → mLt k n (up (up τ 195 f (nI rows.length)) 195 3 0) cs rows → Q (nI rows.length) (up (up τ 195 f (nI rows.length)) 195 3 0) := fun τ c s f L K hcc hff hl1 hl2 hl3 hlt => by
            refine h1 k cs rows _ hk rfl e h16 (fun a q m1 m2 => ?_) ?_ ?_ ?_ (fun _ => zup_eq) hlt
            · rw [zup_n2 (fun z => m2 (by rw [z.1, z.2]; exact hl3)), zup_n2 (fun z => m2 (by rw [z.1, z.2]; exact hl2)), K.1 a q (fun z => m2 (by rw [z.1]; exact hl1 q z.2))]
              exact hfr2 υ a q x m1
            · rw [zup_nj (by decide), zup_nj (by omega), K.1 195 11 (by omega), zup_eq]
            · rw [zup_nj (by decide), zup_nj (by omega), K.1 195 31 (by omega)]; exact g31 υ x
            · rw [zup_nj (by decide), zup_nj (by omega), K.1 195 32 (by omega)]; exact g32 υ x
          have ne : ∀ (τ : zS) (f a q : Nat), a ≠ 195 → up (up τ 195 f (nI rows.length)) 195 3 0 a q = τ a q := fun τ f a q h => (zup_ne h).trans (zup_ne h)
          refine s_tother (by omega) h16 (fun kk τ K => h2 _ (fin τ 212 32 33 _ K (by omega) (by omega) (fun q hq => by unfold mLv; omega) (by unfold mLv; omega) (by unfold mLv; omega) ⟨fun z => absurd z k0, fun _ => ⟨(zup_nj (by decide)).trans zup_eq, fun l hl => ?_⟩, fun z => by omega, fun z => by omega⟩)) (fun kk τ K => h2 _ (fin τ 213 48 35 _ K (by omega) (by omega) (fun q hq => by unfold mLv; omega) (by unfold mLv; omega) (by unfold mLv; omega) ⟨fun z => absurd z k0, fun z => by omega, fun _ => ⟨(zup_nj (by decide)).trans zup_eq, fun l hl => ?_⟩, fun z => by omega⟩)) (fun kk τ K => h2 _ (fin τ 214 12 37 _ K (by omega) (by omega) (fun q hq => by unfold mLv; omega) (by unfold mLv; omega) (by unfold mLv; omega) ⟨fun z => absurd z k0, fun z => by omega, fun z => by omega, fun _ => ⟨(zup_nj (by decide)).trans zup_eq, fun p hp => ?_⟩⟩))
          · obtain ⟨b1, b2⟩ := g.2.1 kk l hl
            rw [ne τ 33 212 _ (by decide), ne τ 33 212 _ (by decide), Nat.zero_add, K.2 (2 * l) (by omega), K.2 (2 * l + 1) (by omega), zup_ne (by decide), zup_ne (by decide)]
            exact ⟨b1, b2⟩
          · obtain ⟨b1, b2, p, b3, b4, b5⟩ := g.2.2.1 kk l hl
            rw [ne τ 35 213 _ (by decide), ne τ 35 213 _ (by decide), ne τ 35 213 _ (by decide), Nat.zero_add, K.2 (3 * l) (by omega), K.2 (3 * l + 1) (by omega), K.2 (3 * l + 2) (by omega), zup_ne (by decide), zup_ne (by decide), zup_ne (by decide)]
            exact ⟨b1, b2, p, b3, b4, b5⟩
          · rw [ne τ 37 214 _ (by decide), K.2 p hp, zup_ne (by decide)]
            exact (g.2.2.2 kk).1 p hp
        refine r_push zi_221_30 rfl ?_
        refine r_is2 zi_221_31 rfl ?_
        refine r_al0 zi_221_32 rfl ?_
        refine r_il1 zi_221_33 rfl ?_
        refine r_push zi_221_34 rfl ?_
        refine r_push zi_221_35 rfl ?_
        refine q_cIV zi_221_36 rfl rfl rfl rfl rfl rfl rfl cf_195_0.ob (hin _ ?_)
        show zk _ _ 39 _ _ _ _
        refine r_if0 zi_221_39 rfl (fun c => absurd c (by decide)) (fun _ => ?_)
        refine r_al0 zi_221_42 rfl ?_
        refine r_il1 zi_221_43 rfl ?_
        refine q_cIV zi_221_44 rfl rfl rfl rfl rfl rfl rfl cf_195_0.ob (hmr _ (fun cs rows υ e x g h16 => ?_) (fun υ bad => ?_))
        · show zk _ _ 47 _ _ _ _
          refine r_is2 zi_221_47 rfl ?_
          refine r_il2 zi_221_48 rfl ?_
          refine r_push zi_221_49 rfl ?_
          refine r_ic1 zi_221_50 rfl (fun _ => ?_) (fun c => absurd c (nI_m1 (by omega)))
          refine r_al0 zi_221_69 rfl ?_
          refine r_push zi_221_70 rfl ?_
          refine q_put zi_221_71 rfl cf_195_11 rfl ?_
          refine r_il2 zi_221_74 rfl ?_
          refine r_push zi_221_75 rfl ?_
          refine r_ic1 zi_221_76 rfl (fun _ => ?_) (fun c => absurd c (nI_m1 (by omega)))
          refine r_il1 zi_221_81 rfl ?_
          refine n_if1 (i := k) zi_221_82 rfl (by omega) (fun _ => ?_) (fun c => absurd c (by omega))
          refine r_al0 zi_221_93 rfl ?_
          refine r_il1 zi_221_94 rfl ?_
          refine r_il2 zi_221_95 rfl ?_
          refine q_cVV zi_221_96 rfl rfl rfl rfl rfl rfl rfl cf_195_0.ob (hot cs rows υ e x g h16 _ (fun ω fin => ?_))
          show zk _ _ 99 _ _ _ _
          refine r_il2 zi_221_99 rfl ?_
          refine r_retI zi_221_100 rfl ?_
          exact ⟨_, rfl, fin⟩
        · show zk _ _ 47 _ _ _ _
          refine r_is2 zi_221_47 rfl ?_
          refine r_il2 zi_221_48 rfl ?_
          refine r_push zi_221_49 rfl ?_
          refine r_ic1 zi_221_50 rfl (fun c => absurd (by decide) c) (fun _ => ?_)
          refine r_al0 zi_221_53 rfl ?_
          refine r_al0 zi_221_54 rfl ?_
          refine q_getI zi_221_55 rfl cf_195_29 ?_
          refine q_put zi_221_58 rfl cf_195_31 rfl ?_
          refine r_al0 zi_221_61 rfl ?_
          refine r_al0 zi_221_62 rfl ?_
          refine q_getI zi_221_63 rfl cf_195_30 ?_
          refine q_put zi_221_66 rfl cf_195_32 rfl ?_
          refine r_al0 zi_221_69 rfl ?_
          refine r_push zi_221_70 rfl ?_
          refine q_put zi_221_71 rfl cf_195_11 rfl ?_
          refine r_il2 zi_221_74 rfl ?_
          refine r_push zi_221_75 rfl ?_
          refine r_ic1 zi_221_76 rfl (fun c => absurd (by decide) c) (fun _ => ?_)
          refine r_push zi_221_79 rfl ?_
          refine r_retI zi_221_80 rfl ?_
          exact ⟨_, rfl, hbad υ bad⟩
    · have h0 := h0 (up σ1 195 11 0) 0 (-1) (fun a q h => (zup_n2 (fun z => h (Or.inr (by omega)))).trans (f0 a q (fun z => h (Or.inr (by omega))))) zup_eq ((zup_nj (by decide)).trans e31) ((zup_nj (by decide)).trans e32) (Or.inl ⟨c, rfl, rfl⟩)
      refine r_push zi_221_30 rfl ?_
      refine r_is2 zi_221_31 rfl ?_
      refine r_al0 zi_221_32 rfl ?_
      refine r_il1 zi_221_33 rfl ?_
      refine r_push zi_221_34 rfl ?_
      refine r_push zi_221_35 rfl ?_
      refine q_cIV zi_221_36 rfl rfl rfl rfl rfl rfl rfl cf_195_0.ob (s_isIn (fun p q => absurd ⟨p, q⟩ c) (fun _ => ?_))
      show zk _ _ 39 _ _ _ _
      refine r_if0 zi_221_39 rfl (fun _ => ?_) (fun c => absurd (by decide) c)
      refine r_al0 zi_221_69 rfl ?_
      refine r_push zi_221_70 rfl ?_
      refine q_put zi_221_71 rfl cf_195_11 rfl ?_
      refine r_il2 zi_221_74 rfl ?_
      refine r_push zi_221_75 rfl ?_
      refine r_ic1 zi_221_76 rfl (fun c => absurd (by decide) c) (fun _ => ?_)
      refine r_push zi_221_79 rfl ?_
      refine r_retI zi_221_80 rfl ?_
      exact ⟨_, rfl, h0⟩
  refine r_al0 zi_221_0 rfl ?_
  refine r_push zi_221_1 rfl ?_
  refine q_put zi_221_2 rfl cf_195_0 rfl ?_
  refine r_al0 zi_221_5 rfl ?_
  refine r_push zi_221_6 rfl ?_
  refine q_put zi_221_7 rfl cf_195_31 rfl ?_
  refine r_al0 zi_221_10 rfl ?_
  refine r_push zi_221_11 rfl ?_
  refine q_put zi_221_12 rfl cf_195_32 rfl ?_
  refine r_al0 zi_221_15 rfl ?_
  refine r_push zi_221_16 rfl ?_
  refine q_put zi_221_17 rfl cf_195_12 rfl ?_
  refine r_al0 zi_221_20 rfl ?_
  refine r_push zi_221_21 rfl ?_
  refine q_put zi_221_22 rfl cf_195_25 rfl ?_
  refine r_al0 zi_221_25 rfl ?_
  refine r_push zi_221_26 rfl ?_
  refine q_put zi_221_27 rfl cf_195_26 rfl ?_
  exact key

