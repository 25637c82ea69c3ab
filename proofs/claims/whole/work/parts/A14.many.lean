/-! B in the model, whole -/
theorem s_mword1 {d c w : Nat} {σ : zS} {Q : Int32 → zS → Prop} {v : Nat} {wv : Int32} (hw : wv = nI (tkm c)) (hk : mkd v (σ 195 14) (σ 195 15)) (hc : c < 28) (h1 : v = 10000 + c → Q 1 σ) (h0 : ¬ v = 10000 + c → Q 0 σ) : zI1 d 195 [.ref 195, .int wv] σ Q := by
  subst hw; exact s_mwrd hk hc h1 h0
theorem mCs_push {τ : zS} {t : Nat → Nat} {b N j x : Nat} {cs p : List Nat} {kv : Int32} (h : mCs τ t b N j cs p) (hk : kv = nI (pmc x)) (hpk : pok (x :: p)) : ∀ υ, Fg (fun a b => a = 195 ∧ (b = 12 ∨ b = 13 ∨ b = 14 ∨ b = 15)) (up (up τ 211 p.length kv) 195 28 (nI (p.length + 1))) υ → mTk υ t b (j + 1) → j + 1 ≤ N → opn (x :: p) = opn p → mCs υ t b N (j + 1) cs (x :: p) := fun υ x1 x2 hj ho => by
  obtain ⟨t1, t2, t3, t4, t5, t6⟩ := h
  refine ⟨⟨x2, mDc_f t1.2.1 ((x1 195 25 (by omega)).trans ((zup_nj (by decide)).trans (zup_ne (by decide)))) (fun b => (x1 209 b (by omega)).trans ((zup_ne (by decide)).trans (zup_ne (by decide)))) (fun b => (x1 210 b (by omega)).trans ((zup_ne (by decide)).trans (zup_ne (by decide)))), hj, by rw [List.length_cons]; have := t1.2.2.2; omega⟩, (x1 195 28 (by omega)).trans zup_eq, ?_, ⟨?_, ?_⟩, hpk, by rw [ho]; exact t6⟩
  · rw [ho]; exact (x1 195 26 (by omega)).trans ((zup_nj (by decide)).trans ((zup_ne (by decide)).trans t3))
  · rw [← hk]; exact (x1 211 _ (by omega)).trans ((zup_ne (by decide)).trans zup_eq)
  · exact mPl_f (fun b => (x1 211 b (by omega)).trans (zup_ne (by decide))) p (mPl_up p (Nat.le_refl _) t4)
theorem l_any {d N : Nat} {σ : zS} {Q : Int32 → zS → Prop} {t : Nat → Nat} {b : Nat} {r : (Nat × Nat) ⊕ (Nat × List Nat)} (hE : mEn t b N) (h1 : ∀ j cs υ, r = .inr (j, cs) → Fg mC σ υ → mSt υ t b N j cs 0 → υ 195 26 = 0 → Q 0 υ) (h0 : ∀ n i υ, r = .inl (n, i) → Fg mC σ υ → υ 195 29 = nI n → υ 195 30 = nI (tks t b i) → Q (-1) υ) : ∀ (f : Nat) (g : Bool) (j : Nat) (cs p : List Nat) (τ : zS) (u3 : Value), pcd (tkk t b) f g j cs p = some r → mCs τ t b N j cs p → (g = false → p.head? ≠ some 10016) → Fg mC σ τ → zk (d + 7) 205 9 [.ref 195, .int (nI (brn p)), .int (if g = true then 1 else 0), u3] [] τ (fun r t => ∃ v, r = some v ∧ Q v t) := by
  intro f
  induction f with
  | zero => intro g j cs p τ u3 hr; cases g <;> cases hr
  | succ f ih =>
    intro g j cs p τ u3 hr hc hh hF
    obtain ⟨t1, t2, t3, t4, t5, t6⟩ := id hc
    have hl26 := pok_len t5 t6
    have hN := hE.2
    have hkd := t1.1.2.2.2
    have hjn : tkk t b j ≠ 30001 → j + 1 ≤ N := fun z => by
      by_cases e : j = N
      · rw [e, hE.1] at z; exact absurd rfl z
      · have := t1.2.2.1; omega
    have hsg : ∀ (c : Nat) (Q2 : Int32 → zS → Prop), c < 256 → (tkk t b j = 20000 + c → Q2 1 τ) → (¬ tkk t b j = 20000 + c → Q2 0 τ) → zI1 (d + 6) 196 [.ref 195, .int (nI c)] τ Q2 := fun c Q2 hc g1 g0 => s_msign hkd hc g1 g0
    have hwd : ∀ (c : Nat) (wv : Int32) (Q2 : Int32 → zS → Prop), wv = nI (tkm c) → c < 28 → (tkk t b j = 10000 + c → Q2 1 τ) → (¬ tkk t b j = 10000 + c → Q2 0 τ) → zI1 (d + 6) 195 [.ref 195, .int wv] τ Q2 := fun c wv Q2 e hc g1 g0 => s_mword1 (w := 0) e hkd hc g1 g0
    have hbo := brn_o p
    have hb26 : brn p < 100 := by omega
    cases g with
    | true =>
      rw [if_pos rfl]
      have hr2 : (if tkk t b j = 10016 ∨ tkk t b j = 20040 then (if opn p = 8 then some (.inl (3, j)) else pcd (tkk t b) f true (j + 1) cs (tkk t b j :: p)) else match pe (tkk t b) 401 j cs with | none => none | some (.inl x) => some (.inl x) | some (.inr (j1, cs1)) => if 20060 ≤ tkk t b j1 ∧ tkk t b j1 ≤ 20062 then (match pe (tkk t b) 401 (j1 + 1) cs1 with | none => none | some (.inl x) => some (.inl x) | some (.inr (j2, cs2)) => pcd (tkk t b) f false j2 (ppo 10016 (cs2 ++ [tkk t b j1]) p).1 (ppo 10016 (cs2 ++ [tkk t b j1]) p).2) else some (.inl (1, j1))) = some r := hr
      by_cases c : tkk t b j = 10016 ∨ tkk t b j = 20040
      · rw [if_pos c] at hr2
        have hj := hjn (by omega)
        by_cases o8 : opn p = 8
        · rw [if_pos o8] at hr2
          have er := Option.some.inj hr2
          have herr : ∀ (Q2 : Int32 → zS → Prop), (∀ ρ, Q (-1) ρ → Q2 (-1) ρ) → zI1 (d + 6) 194 [.ref 195, .int 3] τ Q2 := fun Q2 h2 => s_err (n := 3) t1.1 (fun ρ x y w => h2 ρ (h0 3 j ρ er.symm (hF.tr (x.sub (fun a b => mA_C))) y w))
          rw [o8] at t3
          by_cases c1 : tkk t b j = 10016
          · refine r_il2 zi_205_9 rfl ?_
            refine r_if0 zi_205_10 rfl (fun c => absurd c (by decide)) (fun _ => ?_)
            refine r_al0 zi_205_13 rfl ?_
            refine r_push zi_205_14 rfl ?_
            refine q_cIV zi_205_16 rfl rfl rfl rfl rfl rfl rfl cf_195_0.ob (hwd 16 _ _ rfl (by decide) (fun _ => ?_) (fun z => absurd c1 z))
            show zk _ _ 19 _ _ _ _
            refine r_is3 zi_205_19 rfl ?_
            refine r_il3 zi_205_20 rfl ?_
            refine r_if1 zi_205_21 rfl (fun _ => ?_) (fun c => absurd c (by decide))
            refine r_al0 zi_205_33 rfl ?_
            refine q_getIe zi_205_34 rfl cf_195_26 (v := 8) (by first | exact t3 | ((repeat (first | rw [zup_ne (by first | decide | omega)] | rw [zup_nj (by first | decide | omega)] | rw [fil_ne (by first | decide | omega)])) <;> exact t3) | (simp [up_rd, fil_rd]; exact t3)) ?_
            refine r_push zi_205_37 rfl ?_
            refine r_ic1 zi_205_39 rfl (fun c => absurd (by decide) c) (fun _ => ?_)
            refine r_al0 zi_205_42 rfl ?_
            refine r_push zi_205_43 rfl ?_
            refine q_cIV zi_205_44 rfl rfl rfl rfl rfl rfl rfl cf_195_0.ob (herr _ (fun ρ y => ?_))
            show zk _ _ 47 _ _ _ _
            refine r_retI zi_205_47 rfl ?_
            exact ⟨_, rfl, y⟩
          · have c2 := c.resolve_left c1
            refine r_il2 zi_205_9 rfl ?_
            refine r_if0 zi_205_10 rfl (fun c => absurd c (by decide)) (fun _ => ?_)
            refine r_al0 zi_205_13 rfl ?_
            refine r_push zi_205_14 rfl ?_
            refine q_cIV zi_205_16 rfl rfl rfl rfl rfl rfl rfl cf_195_0.ob (hwd 16 _ _ rfl (by decide) (fun z => absurd z c1) (fun _ => ?_))
            show zk _ _ 19 _ _ _ _
            refine r_is3 zi_205_19 rfl ?_
            refine r_il3 zi_205_20 rfl ?_
            refine r_if1 zi_205_21 rfl (fun c => absurd (by decide) c) (fun _ => ?_)
            refine r_al0 zi_205_24 rfl ?_
            refine r_push zi_205_25 rfl ?_
            refine q_cIV zi_205_27 rfl rfl rfl rfl rfl rfl rfl cf_195_0.ob (hsg 40 _ (by decide) (fun _ => ?_) (fun z => absurd c2 z))
            show zk _ _ 30 _ _ _ _
            refine r_if0 zi_205_30 rfl (fun c => absurd c (by decide)) (fun _ => ?_)
            refine r_al0 zi_205_33 rfl ?_
            refine q_getIe zi_205_34 rfl cf_195_26 (v := 8) (by first | exact t3 | ((repeat (first | rw [zup_ne (by first | decide | omega)] | rw [zup_nj (by first | decide | omega)] | rw [fil_ne (by first | decide | omega)])) <;> exact t3) | (simp [up_rd, fil_rd]; exact t3)) ?_
            refine r_push zi_205_37 rfl ?_
            refine r_ic1 zi_205_39 rfl (fun c => absurd (by decide) c) (fun _ => ?_)
            refine r_al0 zi_205_42 rfl ?_
            refine r_push zi_205_43 rfl ?_
            refine q_cIV zi_205_44 rfl rfl rfl rfl rfl rfl rfl cf_195_0.ob (herr _ (fun ρ y => ?_))
            show zk _ _ 47 _ _ _ _
            refine r_retI zi_205_47 rfl ?_
            exact ⟨_, rfl, y⟩
        · rw [if_neg o8] at hr2
          have eo : opn (tkk t b j :: p) = opn p + 1 := by
            show (if tkk t b j = 10016 ∨ tkk t b j = 20040 then 1 else 0) + opn p = _
            rw [if_pos c]; exact Nat.add_comm _ _
          have hpk : pok (tkk t b j :: p) := ⟨t5, c.imp id Or.inl⟩
          have hrd : ∀ (kv : Int32), kv = nI (pmc (tkk t b j)) → ∀ (Q2 : zS → Prop), (∀ υ, Fg mC σ υ → mCs υ t b N (j + 1) cs (tkk t b j :: p) → Q2 υ) → zV1 (d + 6) 193 [.ref 195] (up (up (up τ 195 26 (nI (opn p + 1))) 211 p.length kv) 195 28 (nI (p.length + 1))) Q2 := fun kv hkv Q2 h2 => s_readn (d := d + 4) (mTk_f t1.1 (fun q a b => (zup_nj (by omega)).trans ((zup_ne (by decide)).trans (zup_nj (by omega)))) (fun q => (zup_ne (by decide)).trans ((zup_ne (by decide)).trans (zup_ne (by decide)))) (fun q => (zup_ne (by decide)).trans ((zup_ne (by decide)).trans (zup_ne (by decide))))) (fun υ x y => by
            refine h2 υ ((((hF.put (by unfold mC; omega)).put (by unfold mC; omega)).put (by unfold mC; omega)).tr (x.sub (fun a b => mR_C))) ⟨⟨y, mDc_f t1.2.1 ((x 195 25 (by unfold mR; omega)).trans ((zup_nj (by decide)).trans ((zup_ne (by decide)).trans (zup_nj (by decide))))) (fun b => (x 209 b (by unfold mR; omega)).trans ((zup_ne (by decide)).trans ((zup_ne (by decide)).trans (zup_ne (by decide))))) (fun b => (x 210 b (by unfold mR; omega)).trans ((zup_ne (by decide)).trans ((zup_ne (by decide)).trans (zup_ne (by decide))))), hj, by rw [List.length_cons]; have := t1.2.2.2; omega⟩, (x 195 28 (by unfold mR; omega)).trans zup_eq, ?_, ⟨?_, ?_⟩, hpk, by omega⟩
            · rw [eo]; exact (x 195 26 (by unfold mR; omega)).trans ((zup_nj (by decide)).trans ((zup_ne (by decide)).trans zup_eq))
            · rw [← hkv]; exact (x 211 _ (by unfold mR; omega)).trans ((zup_ne (by decide)).trans zup_eq)
            · exact mPl_f (fun b => (x 211 b (by unfold mR; omega)).trans (zup_ne (by decide))) p (mPl_up p (Nat.le_refl _) (mPl_f (fun b => zup_ne (by decide)) p t4)))
          have h28 : ∀ v : Int32, up τ 195 26 v 195 28 = nI p.length := fun v => (zup_nj (by decide)).trans t2
          have hpl : p.length < 40 := by omega
          have ih := fun υ u3 x y => ih true (j + 1) cs (tkk t b j :: p) υ u3 hr2 y (fun z => by cases z) x
          rw [if_pos rfl] at ih
          by_cases c1 : tkk t b j = 10016
          · have hrd := hrd 9 (by rw [c1]; rfl)
            have eb : brn (tkk t b j :: p) = brn p := by
              show (if tkk t b j = 20040 then 1 else 0) + brn p = _
              rw [if_neg (by omega), Nat.zero_add]
            rw [eb] at ih
            generalize opn p = o at *
            generalize p.length = m at *
            refine r_il2 zi_205_9 rfl ?_
            refine r_if0 zi_205_10 rfl (fun c => absurd c (by decide)) (fun _ => ?_)
            refine r_al0 zi_205_13 rfl ?_
            refine r_push zi_205_14 rfl ?_
            refine q_cIV zi_205_16 rfl rfl rfl rfl rfl rfl rfl cf_195_0.ob (hwd 16 _ _ rfl (by decide) (fun _ => ?_) (fun z => absurd c1 z))
            show zk _ _ 19 _ _ _ _
            refine r_is3 zi_205_19 rfl ?_
            refine r_il3 zi_205_20 rfl ?_
            refine r_if1 zi_205_21 rfl (fun _ => ?_) (fun c => absurd c (by decide))
            refine r_al0 zi_205_33 rfl ?_
            refine q_getIe zi_205_34 rfl cf_195_26 (v := nI o) (by first | exact t3 | ((repeat (first | rw [zup_ne (by first | decide | omega)] | rw [zup_nj (by first | decide | omega)] | rw [fil_ne (by first | decide | omega)])) <;> exact t3) | (simp [up_rd, fil_rd]; exact t3)) ?_
            refine r_push zi_205_37 rfl ?_
            refine n_ic1 (i := o) (j := 8) zi_205_39 rfl (by omega) (by omega) (fun _ => ?_) (fun c => absurd c (by omega))
            refine r_al0 zi_205_48 rfl ?_
            refine r_al0 zi_205_49 rfl ?_
            refine q_getIe zi_205_50 rfl cf_195_26 (v := nI o) (by first | exact t3 | ((repeat (first | rw [zup_ne (by first | decide | omega)] | rw [zup_nj (by first | decide | omega)] | rw [fil_ne (by first | decide | omega)])) <;> exact t3) | (simp [up_rd, fil_rd]; exact t3)) ?_
            refine r_push zi_205_53 rfl ?_
            refine r_b0 zi_205_54 rfl ?_
            rw [show (nI o + 1 : Int32) = nI (o + 1) from nI_add _ _]
            refine q_put zi_205_55 rfl cf_195_26 rfl ?_
            refine r_il3 zi_205_58 rfl ?_
            refine r_if1 zi_205_59 rfl (fun _ => ?_) (fun c => absurd c (by decide))
            refine r_al0 zi_205_66 rfl ?_
            refine r_il3 zi_205_67 rfl ?_
            refine r_if0 zi_205_68 rfl (fun c => absurd c (by decide)) (fun _ => ?_)
            refine r_push zi_205_71 rfl ?_
            refine r_goto zi_205_73 rfl ?_
            refine q_cVV zi_205_78 rfl rfl rfl rfl rfl rfl rfl cf_195_0.ob (s_waits (h28 _) hpl ?_)
            show zk _ _ 81 _ _ _ _
            refine r_al0 zi_205_81 rfl ?_
            refine q_cVV zi_205_82 rfl rfl rfl rfl rfl rfl rfl cf_195_0.ob (hrd _ (fun υ x1 x2 => ?_))
            show zk _ _ 85 _ _ _ _
            refine r_goto zi_205_85 rfl ?_
            exact ih υ _ x1 x2
          · have c2 := c.resolve_left c1
            have hrd := hrd 12 (by rw [c2]; rfl)
            have eb : brn (tkk t b j :: p) = brn p + 1 := by
              show (if tkk t b j = 20040 then 1 else 0) + brn p = _
              rw [if_pos c2]; exact Nat.add_comm _ _
            rw [eb] at ih
            generalize opn p = o at *
            generalize p.length = m at *
            generalize brn p = br at *
            refine r_il2 zi_205_9 rfl ?_
            refine r_if0 zi_205_10 rfl (fun c => absurd c (by decide)) (fun _ => ?_)
            refine r_al0 zi_205_13 rfl ?_
            refine r_push zi_205_14 rfl ?_
            refine q_cIV zi_205_16 rfl rfl rfl rfl rfl rfl rfl cf_195_0.ob (hwd 16 _ _ rfl (by decide) (fun z => absurd z c1) (fun _ => ?_))
            show zk _ _ 19 _ _ _ _
            refine r_is3 zi_205_19 rfl ?_
            refine r_il3 zi_205_20 rfl ?_
            refine r_if1 zi_205_21 rfl (fun c => absurd (by decide) c) (fun _ => ?_)
            refine r_al0 zi_205_24 rfl ?_
            refine r_push zi_205_25 rfl ?_
            refine q_cIV zi_205_27 rfl rfl rfl rfl rfl rfl rfl cf_195_0.ob (hsg 40 _ (by decide) (fun _ => ?_) (fun z => absurd c2 z))
            show zk _ _ 30 _ _ _ _
            refine r_if0 zi_205_30 rfl (fun c => absurd c (by decide)) (fun _ => ?_)
            refine r_al0 zi_205_33 rfl ?_
            refine q_getIe zi_205_34 rfl cf_195_26 (v := nI o) (by first | exact t3 | ((repeat (first | rw [zup_ne (by first | decide | omega)] | rw [zup_nj (by first | decide | omega)] | rw [fil_ne (by first | decide | omega)])) <;> exact t3) | (simp [up_rd, fil_rd]; exact t3)) ?_
            refine r_push zi_205_37 rfl ?_
            refine n_ic1 (i := o) (j := 8) zi_205_39 rfl (by omega) (by omega) (fun _ => ?_) (fun c => absurd c (by omega))
            refine r_al0 zi_205_48 rfl ?_
            refine r_al0 zi_205_49 rfl ?_
            refine q_getIe zi_205_50 rfl cf_195_26 (v := nI o) (by first | exact t3 | ((repeat (first | rw [zup_ne (by first | decide | omega)] | rw [zup_nj (by first | decide | omega)] | rw [fil_ne (by first | decide | omega)])) <;> exact t3) | (simp [up_rd, fil_rd]; exact t3)) ?_
            refine r_push zi_205_53 rfl ?_
            refine r_b0 zi_205_54 rfl ?_
            rw [show (nI o + 1 : Int32) = nI (o + 1) from nI_add _ _]
            refine q_put zi_205_55 rfl cf_195_26 rfl ?_
            refine r_il3 zi_205_58 rfl ?_
            refine r_if1 zi_205_59 rfl (fun c => absurd (by decide) c) (fun _ => ?_)
            refine r_il1 zi_205_62 rfl ?_
            refine r_push zi_205_63 rfl ?_
            refine r_b0 zi_205_64 rfl ?_
            rw [show (nI br + 1 : Int32) = nI (br + 1) from nI_add _ _]
            refine r_is1 zi_205_65 rfl ?_
            refine r_al0 zi_205_66 rfl ?_
            refine r_il3 zi_205_67 rfl ?_
            refine r_if0 zi_205_68 rfl (fun _ => ?_) (fun c => absurd (by decide) c)
            refine r_push zi_205_76 rfl ?_
            refine q_cVV zi_205_78 rfl rfl rfl rfl rfl rfl rfl cf_195_0.ob (s_waits (h28 _) hpl ?_)
            show zk _ _ 81 _ _ _ _
            refine r_al0 zi_205_81 rfl ?_
            refine q_cVV zi_205_82 rfl rfl rfl rfl rfl rfl rfl cf_195_0.ob (hrd _ (fun υ x1 x2 => ?_))
            show zk _ _ 85 _ _ _ _
            refine r_goto zi_205_85 rfl ?_
            exact ih υ _ x1 x2
      · rw [if_neg c] at hr2
        have hcm := fun (Q2 : Int32 → zS → Prop) k1 k0 => s_mcomp (d := d) (l := p.length) (G := fun j2 ds => pcd (tkk t b) f false j2 (ppo 10016 ds p).1 (ppo 10016 ds p).2) (Q := Q2) hE hr2 t1 k1 k0
        have h0 := fun n i υ e x y z => h0 n i υ e (hF.tr (Fg.sub (P := mA) x (fun a b => mA_C))) y z
        have hcs : ∀ υ i ds, Fg mA τ υ → mSt υ t b N i ds p.length → mCs υ t b N i ds p := fun υ i ds x y => ⟨y, (x 195 28 (by unfold mA; omega)).trans t2, (x 195 26 (by unfold mA; omega)).trans t3, mPl_f (fun b => x 211 b (by unfold mA; omega)) p t4, t5, t6⟩
        have hst := fun υ i ds x y (Q2 : zS → Prop) h2 => s_settle (d := d + 5) (xv := 9) (x := 10016) (Q := Q2) rfl hE (Or.inl rfl) (hcs υ i ds x y) h2
        have ih := fun i ds υ u3 e x y => ih false i (ppo 10016 ds p).1 (ppo 10016 ds p).2 υ u3 e y (fun _ => ppo_h p ds) x
        have ebr : ∀ ds, brn (ppo 10016 ds p).2 = brn p := fun ds => ppo_br (by decide) p ds
        have hF2 : ∀ υ ρ, Fg mA τ υ → Fg mC υ ρ → Fg mC σ ρ := fun υ ρ x y => (hF.tr (x.sub (fun a b => mA_C))).tr y
        have c1 : ¬ tkk t b j = 10016 := fun z => c (Or.inl z)
        have c2 : ¬ tkk t b j = 20040 := fun z => c (Or.inr z)
        generalize brn p = br at *
        refine r_il2 zi_205_9 rfl ?_
        refine r_if0 zi_205_10 rfl (fun c => absurd c (by decide)) (fun _ => ?_)
        refine r_al0 zi_205_13 rfl ?_
        refine r_push zi_205_14 rfl ?_
        refine q_cIV zi_205_16 rfl rfl rfl rfl rfl rfl rfl cf_195_0.ob (hwd 16 _ _ rfl (by decide) (fun z => absurd z c1) (fun _ => ?_))
        show zk _ _ 19 _ _ _ _
        refine r_is3 zi_205_19 rfl ?_
        refine r_il3 zi_205_20 rfl ?_
        refine r_if1 zi_205_21 rfl (fun c => absurd (by decide) c) (fun _ => ?_)
        refine r_al0 zi_205_24 rfl ?_
        refine r_push zi_205_25 rfl ?_
        refine q_cIV zi_205_27 rfl rfl rfl rfl rfl rfl rfl cf_195_0.ob (hsg 40 _ (by decide) (fun z => absurd z c2) (fun _ => ?_))
        show zk _ _ 30 _ _ _ _
        refine r_if0 zi_205_30 rfl (fun _ => ?_) (fun c => absurd (by decide) c)
        refine r_al0 zi_205_88 rfl ?_
        refine q_cIV zi_205_89 rfl rfl rfl rfl rfl rfl rfl cf_195_0.ob (hcm _ (fun i2 ds υ e x1 x2 => ?_) (fun n i υ e x y z => ?_))
        · show zk _ _ 92 _ _ _ _
          refine r_push zi_205_92 rfl ?_
          refine r_ic1 zi_205_93 rfl (fun _ => ?_) (fun c => absurd c (by decide))
          refine r_al0 zi_205_98 rfl ?_
          refine r_push zi_205_99 rfl ?_
          refine q_cVV zi_205_101 rfl rfl rfl rfl rfl rfl rfl cf_195_0.ob (hst υ i2 ds x1 x2 _ (fun ρ y1 y2 => ?_))
          show zk _ _ 104 _ _ _ _
          refine r_push zi_205_104 rfl ?_
          refine r_is2 zi_205_105 rfl ?_
          refine r_goto zi_205_106 rfl ?_
          rw [← ebr ds]; exact ih i2 ds ρ _ e (hF2 υ ρ x1 y1) y2
        · show zk _ _ 92 _ _ _ _
          refine r_push zi_205_92 rfl ?_
          refine r_ic1 zi_205_93 rfl (fun c => absurd (by decide) c) (fun _ => ?_)
          refine r_push zi_205_96 rfl ?_
          refine r_retI zi_205_97 rfl ?_
          exact ⟨_, rfl, h0 n i υ e x y z⟩
    | false =>
      have hh := hh rfl
      rw [if_neg (by decide)]
      have hr2 : (if tkk t b j = 10015 then pcd (tkk t b) f true (j + 1) (ppo 10015 cs p).1 (10015 :: (ppo 10015 cs p).2) else if tkk t b j = 10014 then pcd (tkk t b) f true (j + 1) (pjo cs p).1 (10014 :: (pjo cs p).2) else if tkk t b j = 20041 ∧ 0 < brn p then pcd (tkk t b) f false (j + 1) (ppo 10016 (pjo cs p).1 (pjo cs p).2.tail).1 (ppo 10016 (pjo cs p).1 (pjo cs p).2.tail).2 else if brn p = 0 then some (.inr (j, (pjo cs p).1)) else some (.inl (1, j))) = some r := hr
      obtain ⟨ej, et⟩ := pjo_top (cs := cs) t5 hh
      have ha := fun (Q2 : zS → Prop) h2 => s_settle (d := d + 5) (xv := 10) (x := 10015) (Q := Q2) rfl hE (Or.inr (Or.inl rfl)) hc h2
      have ho := fun υ (Q2 : zS → Prop) (y : mCs υ t b N j (ppo 10015 cs p).1 (ppo 10015 cs p).2) h2 => s_settle (d := d + 5) (σ := υ) (xv := 11) (x := 10014) (Q := Q2) rfl hE (Or.inr (Or.inr rfl)) y h2
      have hpush : ∀ (x : Nat) (ds q : List Nat) (υ : zS) (kv : Int32), j + 1 ≤ N → x = 10015 ∨ x = 10014 → kv = nI (pmc x) → pok (x :: q) → mCs υ t b N j ds q → Fg mC σ υ → ∀ (Q2 : zS → Prop), (∀ ρ, Fg mC σ ρ → mCs ρ t b N (j + 1) ds (x :: q) → Q2 ρ) → zV1 (d + 6) 193 [.ref 195] (up (up υ 211 q.length kv) 195 28 (nI (q.length + 1))) Q2 := fun x ds q υ kv hj hx hkv hpk y z Q2 h2 => s_readn (d := d + 4) (mTk_f y.1.1 (fun q a b => (zup_nj (by omega)).trans (zup_ne (by decide))) (fun q => (zup_ne (by decide)).trans (zup_ne (by decide))) (fun q => (zup_ne (by decide)).trans (zup_ne (by decide)))) (fun ρ u1 u2 => h2 ρ (((z.put (by unfold mC; omega)).put (by unfold mC; omega)).tr (u1.sub (fun a b => mR_C))) (mCs_push y hkv hpk ρ u1 u2 hj (by
        show (if x = 10016 ∨ x = 20040 then 1 else 0) + opn q = _
        rw [if_neg (by omega), Nat.zero_add])))
      have hlen : ∀ υ ds q, mCs υ t b N j ds q → q.length < 40 := fun υ ds q y => by have := pok_len y.2.2.2.2.1 y.2.2.2.2.2; omega
      by_cases c1 : tkk t b j = 10015
      · rw [if_pos c1] at hr2
        have hj := hjn (by omega)
        have hpk : pok (10015 :: (ppo 10015 cs p).2) := ⟨ppo_ok p cs t5, Or.inr (Or.inr (Or.inl ⟨rfl, ppo_h p cs, ppo_nh t5 hh⟩))⟩
        have ebr : brn (10015 :: (ppo 10015 cs p).2) = brn p := (Nat.zero_add _).trans (ppo_br (by decide) p cs)
        have ih := fun ρ u3 x y => ih true (j + 1) _ _ ρ u3 hr2 y (fun z => by cases z) x
        rw [if_pos rfl, ebr] at ih
        have hrd := fun υ y z (Q2 : zS → Prop) h2 => hpush 10015 (ppo 10015 cs p).1 (ppo 10015 cs p).2 υ 10 hj (Or.inl rfl) rfl hpk y z Q2 h2
        generalize brn p = br at *
        refine r_il2 zi_205_9 rfl ?_
        refine r_if0 zi_205_10 rfl (fun _ => ?_) (fun c => absurd (by decide) c)
        refine r_al0 zi_205_109 rfl ?_
        refine r_push zi_205_110 rfl ?_
        refine q_cIV zi_205_111 rfl rfl rfl rfl rfl rfl rfl cf_195_0.ob (hwd 15 _ _ rfl (by decide) (fun _ => ?_) (fun z => absurd c1 z))
        show zk _ _ 114 _ _ _ _
        refine r_if0 zi_205_114 rfl (fun c => absurd c (by decide)) (fun _ => ?_)
        refine r_al0 zi_205_117 rfl ?_
        refine r_push zi_205_118 rfl ?_
        refine q_cVV zi_205_120 rfl rfl rfl rfl rfl rfl rfl cf_195_0.ob (ha _ (fun υ x1 x2 => ?_))
        show zk _ _ 123 _ _ _ _
        refine r_al0 zi_205_123 rfl ?_
        refine r_push zi_205_124 rfl ?_
        refine q_cVV zi_205_126 rfl rfl rfl rfl rfl rfl rfl cf_195_0.ob (s_waits x2.2.1 (hlen _ _ _ x2) ?_)
        show zk _ _ 129 _ _ _ _
        refine r_al0 zi_205_129 rfl ?_
        refine q_cVV zi_205_130 rfl rfl rfl rfl rfl rfl rfl cf_195_0.ob (hrd υ x2 (hF.tr x1) _ (fun ρ y1 y2 => ?_))
        show zk _ _ 133 _ _ _ _
        refine r_push zi_205_133 rfl ?_
        refine r_is2 zi_205_134 rfl ?_
        refine r_goto zi_205_135 rfl ?_
        exact ih ρ _ y1 y2
      · rw [if_neg c1] at hr2
        by_cases c2 : tkk t b j = 10014
        · rw [if_pos c2] at hr2
          have hj := hjn (by omega)
          have hpk : pok (10014 :: (pjo cs p).2) := by
            refine ⟨ppo_ok _ _ (ppo_ok p cs t5), Or.inr (Or.inr (Or.inr ⟨rfl, ?_⟩))⟩
            rcases et with e | ⟨q, e⟩
            · rw [e]; exact ⟨fun z => (by cases z), fun z => (by cases z), fun z => (by cases z)⟩
            · rw [e]; exact ⟨fun z => absurd (Option.some.inj z) (by decide), fun z => absurd (Option.some.inj z) (by decide), fun z => absurd (Option.some.inj z) (by decide)⟩
          have ebr : brn (10014 :: (pjo cs p).2) = brn p := (Nat.zero_add _).trans (by unfold pjo; rw [ppo_br (by decide), ppo_br (by decide)])
          have ih := fun ρ u3 x y => ih true (j + 1) _ _ ρ u3 hr2 y (fun z => by cases z) x
          rw [if_pos rfl, ebr] at ih
          have hrd := fun υ y z (Q2 : zS → Prop) h2 => hpush 10014 (pjo cs p).1 (pjo cs p).2 υ 11 hj (Or.inr rfl) rfl hpk y z Q2 h2
          generalize brn p = br at *
          refine r_il2 zi_205_9 rfl ?_
          refine r_if0 zi_205_10 rfl (fun _ => ?_) (fun c => absurd (by decide) c)
          refine r_al0 zi_205_109 rfl ?_
          refine r_push zi_205_110 rfl ?_
          refine q_cIV zi_205_111 rfl rfl rfl rfl rfl rfl rfl cf_195_0.ob (hwd 15 _ _ rfl (by decide) (fun z => absurd z c1) (fun _ => ?_))
          show zk _ _ 114 _ _ _ _
          refine r_if0 zi_205_114 rfl (fun _ => ?_) (fun c => absurd (by decide) c)
          refine r_al0 zi_205_138 rfl ?_
          refine r_push zi_205_139 rfl ?_
          refine q_cIV zi_205_140 rfl rfl rfl rfl rfl rfl rfl cf_195_0.ob (hwd 14 _ _ rfl (by decide) (fun _ => ?_) (fun z => absurd c2 z))
          show zk _ _ 143 _ _ _ _
          refine r_if0 zi_205_143 rfl (fun c => absurd c (by decide)) (fun _ => ?_)
          refine r_al0 zi_205_146 rfl ?_
          refine r_push zi_205_147 rfl ?_
          refine q_cVV zi_205_149 rfl rfl rfl rfl rfl rfl rfl cf_195_0.ob (ha _ (fun υ x1 x2 => ?_))
          show zk _ _ 152 _ _ _ _
          refine r_al0 zi_205_152 rfl ?_
          refine r_push zi_205_153 rfl ?_
          refine q_cVV zi_205_155 rfl rfl rfl rfl rfl rfl rfl cf_195_0.ob (ho υ _ x2 (fun ρ y1 y2 => ?_))
          show zk _ _ 158 _ _ _ _
          refine r_al0 zi_205_158 rfl ?_
          refine r_push zi_205_159 rfl ?_
          refine q_cVV zi_205_161 rfl rfl rfl rfl rfl rfl rfl cf_195_0.ob (s_waits y2.2.1 (hlen _ _ _ y2) ?_)
          show zk _ _ 164 _ _ _ _
          refine r_al0 zi_205_164 rfl ?_
          refine q_cVV zi_205_165 rfl rfl rfl rfl rfl rfl rfl cf_195_0.ob (hrd ρ y2 ((hF.tr x1).tr y1) _ (fun ω z1 z2 => ?_))
          show zk _ _ 168 _ _ _ _
          refine r_push zi_205_168 rfl ?_
          refine r_is2 zi_205_169 rfl ?_
          refine r_goto zi_205_170 rfl ?_
          exact ih ω _ z1 z2
        · rw [if_neg c2] at hr2
          have hpj : ∀ ρ, mCs ρ t b N j (ppo 10014 (ppo 10015 cs p).1 (ppo 10015 cs p).2).1 (ppo 10014 (ppo 10015 cs p).1 (ppo 10015 cs p).2).2 → mCs ρ t b N j (pjo cs p).1 (pjo cs p).2 := fun ρ y => y
          have ebr : brn (pjo cs p).2 = brn p := by unfold pjo; rw [ppo_br (by decide), ppo_br (by decide)]
          have eop : opn (pjo cs p).2 = opn p := by unfold pjo; rw [ppo_oe (by decide), ppo_oe (by decide)]
          by_cases c0 : brn p = 0
          · rw [if_neg (fun z => by omega), if_pos c0] at hr2
            have er := Option.some.inj hr2
            have h1 := fun ρ x (y : mCs ρ t b N j (pjo cs p).1 (pjo cs p).2) => h1 j _ ρ er.symm x ⟨y.1.1, y.1.2.1, y.1.2.2.1, by have := y.1.2.2.2; omega⟩ (by rw [y.2.2.1, eop, pok_b p t5 hh c0]; rfl)
            rw [c0]
            refine r_il2 zi_205_9 rfl ?_
            refine r_if0 zi_205_10 rfl (fun _ => ?_) (fun c => absurd (by decide) c)
            refine r_al0 zi_205_109 rfl ?_
            refine r_push zi_205_110 rfl ?_
            refine q_cIV zi_205_111 rfl rfl rfl rfl rfl rfl rfl cf_195_0.ob (hwd 15 _ _ rfl (by decide) (fun z => absurd z c1) (fun _ => ?_))
            show zk _ _ 114 _ _ _ _
            refine r_if0 zi_205_114 rfl (fun _ => ?_) (fun c => absurd (by decide) c)
            refine r_al0 zi_205_138 rfl ?_
            refine r_push zi_205_139 rfl ?_
            refine q_cIV zi_205_140 rfl rfl rfl rfl rfl rfl rfl cf_195_0.ob (hwd 14 _ _ rfl (by decide) (fun z => absurd z c2) (fun _ => ?_))
            show zk _ _ 143 _ _ _ _
            refine r_if0 zi_205_143 rfl (fun _ => ?_) (fun c => absurd (by decide) c)
            refine r_al0 zi_205_173 rfl ?_
            refine r_push zi_205_174 rfl ?_
            refine q_cVV zi_205_176 rfl rfl rfl rfl rfl rfl rfl cf_195_0.ob (ha _ (fun υ x1 x2 => ?_))
            show zk _ _ 179 _ _ _ _
            refine r_al0 zi_205_179 rfl ?_
            refine r_push zi_205_180 rfl ?_
            refine q_cVV zi_205_182 rfl rfl rfl rfl rfl rfl rfl cf_195_0.ob (ho υ _ x2 (fun ρ y1 y2 => ?_))
            show zk _ _ 185 _ _ _ _
            refine r_il1 zi_205_185 rfl ?_
            refine n_if1 (i := 0) zi_205_186 rfl (by omega) (fun c => absurd c (by omega)) (fun _ => ?_)
            refine r_push zi_205_189 rfl ?_
            refine r_retI zi_205_190 rfl ?_
            exact ⟨_, rfl, h1 ρ ((hF.tr x1).tr y1) (hpj ρ y2)⟩
          · have hkd2 : ∀ ρ, mCs ρ t b N j (pjo cs p).1 (pjo cs p).2 → mkd (tkk t b j) (ρ 195 14) (ρ 195 15) := fun ρ y => y.1.1.2.2.2
            by_cases c4 : tkk t b j = 20041
            · have hj := hjn (by omega)
              rw [if_pos ⟨c4, by omega⟩] at hr2
              obtain ⟨q, eq⟩ := et.resolve_left (fun z => by rw [z] at ebr; have : brn [] = 0 := rfl; omega)
              rw [eq] at ebr eop hr2 hpj hkd2
              rw [List.tail_cons] at hr2
              have ebq : brn (20040 :: q) = brn q + 1 := Nat.add_comm _ _
              have eoq : opn (20040 :: q) = opn q + 1 := Nat.add_comm _ _
              rw [← ebr, ebq]
              have hnew : ∀ ρ, mCs ρ t b N j (pjo cs p).1 (20040 :: q) → mCs (up (up ρ 195 28 (nI q.length)) 195 26 (nI (opn q))) t b N j (pjo cs p).1 q := fun ρ y => ⟨⟨(mSt_f y.1 (fun q a b => (zup_nj (by omega)).trans (zup_nj (by omega))) (fun a q h1 h2 => (zup_ne (by omega)).trans (zup_ne (by omega)))).1, (mSt_f y.1 (fun q a b => (zup_nj (by omega)).trans (zup_nj (by omega))) (fun a q h1 h2 => (zup_ne (by omega)).trans (zup_ne (by omega)))).2.1, y.1.2.2.1, by have := y.1.2.2.2; rw [List.length_cons] at this; omega⟩, (zup_nj (by decide)).trans zup_eq, zup_eq, mPl_f (fun b => (zup_ne (by decide)).trans (zup_ne (by decide))) q y.2.2.2.1.2, y.2.2.2.2.1.1, by have := y.2.2.2.2.2; omega⟩
              have hst := fun ρ y (Q2 : zS → Prop) h2 => s_settle (d := d + 5) (xv := 9) (x := 10016) (Q := Q2) rfl hE (Or.inl rfl) (hnew ρ y) h2
              have ih := fun ω u3 x y => ih false (j + 1) _ _ ω u3 hr2 y (fun _ => ppo_h q _) x
              rw [if_neg (by decide), ppo_br (by decide) q] at ih
              have hrd : ∀ ω, Fg mC σ ω → mCs ω t b N j (ppo 10016 (pjo cs p).1 q).1 (ppo 10016 (pjo cs p).1 q).2 → ∀ (Q2 : zS → Prop), (∀ ξ, Fg mC σ ξ → mCs ξ t b N (j + 1) (ppo 10016 (pjo cs p).1 q).1 (ppo 10016 (pjo cs p).1 q).2 → Q2 ξ) → zV1 (d + 6) 193 [.ref 195] ω Q2 := fun ω x y Q2 h2 => s_readn (d := d + 4) y.1.1 (fun ξ u1 u2 => h2 ξ (x.tr (u1.sub (fun a b => mR_C))) ⟨⟨u2, mDc_f y.1.2.1 (u1 195 25 (by unfold mR; omega)) (fun b => u1 209 b (by unfold mR; omega)) (fun b => u1 210 b (by unfold mR; omega)), hj, by have := y.1.2.2.2; omega⟩, (u1 195 28 (by unfold mR; omega)).trans y.2.1, (u1 195 26 (by unfold mR; omega)).trans y.2.2.1, mPl_f (fun b => u1 211 b (by unfold mR; omega)) _ y.2.2.2.1, y.2.2.2.2.1, y.2.2.2.2.2⟩)
              have hF2 : ∀ ρ ω, Fg mC σ ρ → Fg mC (up (up ρ 195 28 (nI q.length)) 195 26 (nI (opn q))) ω → Fg mC σ ω := fun ρ ω x y => ((x.put (by unfold mC; omega)).put (by unfold mC; omega)).tr y
              have h28 : ∀ ρ, mCs ρ t b N j (pjo cs p).1 (20040 :: q) → ρ 195 28 = nI (q.length + 1) := fun ρ y => y.2.1
              have h26 : ∀ ρ (v : Int32), mCs ρ t b N j (pjo cs p).1 (20040 :: q) → up ρ 195 28 v 195 26 = nI (opn q + 1) := fun ρ v y => (zup_nj (by decide)).trans (y.2.2.1.trans (by rw [eoq]))
              have hsg2 : ∀ ρ, mCs ρ t b N j (pjo cs p).1 (20040 :: q) → ∀ (Q2 : Int32 → zS → Prop), Q2 1 ρ → zI1 (d + 6) 196 [.ref 195, .int 41] ρ Q2 := fun ρ y Q2 h2 => s_msign (c := 41) (hkd2 ρ y) (by decide) (fun _ => h2) (fun z => absurd c4 z)
              have hbq : brn q < 100 := by omega
              clear hnew
              generalize brn q = bq at *
              generalize opn q = oq at *
              generalize q.length = qm at *
              refine r_il2 zi_205_9 rfl ?_
              refine r_if0 zi_205_10 rfl (fun _ => ?_) (fun c => absurd (by decide) c)
              refine r_al0 zi_205_109 rfl ?_
              refine r_push zi_205_110 rfl ?_
              refine q_cIV zi_205_111 rfl rfl rfl rfl rfl rfl rfl cf_195_0.ob (hwd 15 _ _ rfl (by decide) (fun z => absurd z c1) (fun _ => ?_))
              show zk _ _ 114 _ _ _ _
              refine r_if0 zi_205_114 rfl (fun _ => ?_) (fun c => absurd (by decide) c)
              refine r_al0 zi_205_138 rfl ?_
              refine r_push zi_205_139 rfl ?_
              refine q_cIV zi_205_140 rfl rfl rfl rfl rfl rfl rfl cf_195_0.ob (hwd 14 _ _ rfl (by decide) (fun z => absurd z c2) (fun _ => ?_))
              show zk _ _ 143 _ _ _ _
              refine r_if0 zi_205_143 rfl (fun _ => ?_) (fun c => absurd (by decide) c)
              refine r_al0 zi_205_173 rfl ?_
              refine r_push zi_205_174 rfl ?_
              refine q_cVV zi_205_176 rfl rfl rfl rfl rfl rfl rfl cf_195_0.ob (ha _ (fun υ x1 x2 => ?_))
              show zk _ _ 179 _ _ _ _
              refine r_al0 zi_205_179 rfl ?_
              refine r_push zi_205_180 rfl ?_
              refine q_cVV zi_205_182 rfl rfl rfl rfl rfl rfl rfl cf_195_0.ob (ho υ _ x2 (fun ρ y1 y2 => ?_))
              show zk _ _ 185 _ _ _ _
              refine r_il1 zi_205_185 rfl ?_
              refine n_if1 (i := (bq+1)) zi_205_186 rfl (by omega) (fun _ => ?_) (fun c => absurd c (by omega))
              refine r_al0 zi_205_191 rfl ?_
              refine r_push zi_205_192 rfl ?_
              refine q_cIV zi_205_194 rfl rfl rfl rfl rfl rfl rfl cf_195_0.ob (hsg2 ρ (hpj ρ y2) _ ?_)
              show zk _ _ 197 _ _ _ _
              refine r_if1 zi_205_197 rfl (fun _ => ?_) (fun c => absurd c (by decide))
              refine r_al0 zi_205_206 rfl ?_
              refine r_al0 zi_205_207 rfl ?_
              refine q_getIe zi_205_208 rfl cf_195_28 (v := nI (qm+1)) (by first | exact h28 ρ (hpj ρ y2) | ((repeat (first | rw [zup_ne (by first | decide | omega)] | rw [zup_nj (by first | decide | omega)] | rw [fil_ne (by first | decide | omega)])) <;> exact h28 ρ (hpj ρ y2)) | (simp [up_rd, fil_rd]; exact h28 ρ (hpj ρ y2))) ?_
              refine r_push zi_205_211 rfl ?_
              refine r_b1 zi_205_212 rfl ?_
              rw [show (nI (qm+1) - 1 : Int32) = nI (qm+1 - 1) from pk_sub (a := qm+1) (b := 1) (by omega)]
              refine q_put zi_205_213 rfl cf_195_28 rfl ?_
              refine r_il1 zi_205_216 rfl ?_
              refine r_push zi_205_217 rfl ?_
              refine r_b1 zi_205_218 rfl ?_
              rw [show (nI (bq+1) - 1 : Int32) = nI ((bq+1) - 1) from pk_sub (a := (bq+1)) (b := 1) (by omega)]
              refine r_is1 zi_205_219 rfl ?_
              refine r_al0 zi_205_220 rfl ?_
              refine r_al0 zi_205_221 rfl ?_
              refine q_getIe zi_205_222 rfl cf_195_26 (v := nI (oq+1)) (by first | exact h26 ρ _ (hpj ρ y2) | ((repeat (first | rw [zup_ne (by first | decide | omega)] | rw [zup_nj (by first | decide | omega)] | rw [fil_ne (by first | decide | omega)])) <;> exact h26 ρ _ (hpj ρ y2)) | (simp [up_rd, fil_rd]; exact h26 ρ _ (hpj ρ y2))) ?_
              refine r_push zi_205_225 rfl ?_
              refine r_b1 zi_205_226 rfl ?_
              rw [show (nI (oq+1) - 1 : Int32) = nI (oq+1 - 1) from pk_sub (a := oq+1) (b := 1) (by omega)]
              refine q_put zi_205_227 rfl cf_195_26 rfl ?_
              refine r_al0 zi_205_230 rfl ?_
              refine r_push zi_205_231 rfl ?_
              refine q_cVV zi_205_233 rfl rfl rfl rfl rfl rfl rfl cf_195_0.ob (hst ρ (hpj ρ y2) _ (fun ω z1 z2 => ?_))
              show zk _ _ 236 _ _ _ _
              refine r_al0 zi_205_236 rfl ?_
              refine q_cVV zi_205_237 rfl rfl rfl rfl rfl rfl rfl cf_195_0.ob (hrd ω (hF2 ρ ω ((hF.tr x1).tr y1) z1) z2 _ (fun ξ w1 w2 => ?_))
              show zk _ _ 240 _ _ _ _
              refine r_goto zi_205_240 rfl ?_
              exact ih ξ _ w1 w2
            · rw [if_neg (fun z => c4 z.1), if_neg c0] at hr2
              have er := Option.some.inj hr2
              have hsg2 : ∀ ρ, mCs ρ t b N j (pjo cs p).1 (pjo cs p).2 → ∀ (Q2 : Int32 → zS → Prop), Q2 0 ρ → zI1 (d + 6) 196 [.ref 195, .int 41] ρ Q2 := fun ρ y Q2 h2 => s_msign (c := 41) (hkd2 ρ y) (by decide) (fun z => absurd z c4) (fun _ => h2)
              have herr : ∀ ρ, Fg mC σ ρ → mCs ρ t b N j (pjo cs p).1 (pjo cs p).2 → ∀ (Q2 : Int32 → zS → Prop), (∀ ω, Q (-1) ω → Q2 (-1) ω) → zI1 (d + 6) 194 [.ref 195, .int 1] ρ Q2 := fun ρ x y Q2 h2 => s_err (n := 1) y.1.1 (fun ω u1 u2 u3 => h2 ω (h0 1 j ω er.symm (x.tr (u1.sub (fun a b => mA_C))) u2 u3))
              generalize brn p = br at *
              refine r_il2 zi_205_9 rfl ?_
              refine r_if0 zi_205_10 rfl (fun _ => ?_) (fun c => absurd (by decide) c)
              refine r_al0 zi_205_109 rfl ?_
              refine r_push zi_205_110 rfl ?_
              refine q_cIV zi_205_111 rfl rfl rfl rfl rfl rfl rfl cf_195_0.ob (hwd 15 _ _ rfl (by decide) (fun z => absurd z c1) (fun _ => ?_))
              show zk _ _ 114 _ _ _ _
              refine r_if0 zi_205_114 rfl (fun _ => ?_) (fun c => absurd (by decide) c)
              refine r_al0 zi_205_138 rfl ?_
              refine r_push zi_205_139 rfl ?_
              refine q_cIV zi_205_140 rfl rfl rfl rfl rfl rfl rfl cf_195_0.ob (hwd 14 _ _ rfl (by decide) (fun z => absurd z c2) (fun _ => ?_))
              show zk _ _ 143 _ _ _ _
              refine r_if0 zi_205_143 rfl (fun _ => ?_) (fun c => absurd (by decide) c)
              refine r_al0 zi_205_173 rfl ?_
              refine r_push zi_205_174 rfl ?_
              refine q_cVV zi_205_176 rfl rfl rfl rfl rfl rfl rfl cf_195_0.ob (ha _ (fun υ x1 x2 => ?_))
              show zk _ _ 179 _ _ _ _
              refine r_al0 zi_205_179 rfl ?_
              refine r_push zi_205_180 rfl ?_
              refine q_cVV zi_205_182 rfl rfl rfl rfl rfl rfl rfl cf_195_0.ob (ho υ _ x2 (fun ρ y1 y2 => ?_))
              show zk _ _ 185 _ _ _ _
              refine r_il1 zi_205_185 rfl ?_
              refine n_if1 (i := br) zi_205_186 rfl (by omega) (fun _ => ?_) (fun c => absurd c (by omega))
              refine r_al0 zi_205_191 rfl ?_
              refine r_push zi_205_192 rfl ?_
              refine q_cIV zi_205_194 rfl rfl rfl rfl rfl rfl rfl cf_195_0.ob (hsg2 ρ (hpj ρ y2) _ ?_)
              show zk _ _ 197 _ _ _ _
              refine r_if1 zi_205_197 rfl (fun c => absurd (by decide) c) (fun _ => ?_)
              refine r_al0 zi_205_200 rfl ?_
              refine r_push zi_205_201 rfl ?_
              refine q_cIV zi_205_202 rfl rfl rfl rfl rfl rfl rfl cf_195_0.ob (herr ρ ((hF.tr x1).tr y1) (hpj ρ y2) _ (fun ω z => ?_))
              show zk _ _ 205 _ _ _ _
              refine r_retI zi_205_205 rfl ?_
              exact ⟨_, rfl, z⟩
theorem s_many {d N f j : Nat} {σ : zS} {Q : Int32 → zS → Prop} {t : Nat → Nat} {b : Nat} {r : (Nat × Nat) ⊕ (Nat × List Nat)} {cs : List Nat} (hE : mEn t b N) (hr : pcd (tkk t b) f true j cs [] = some r) (hs : mSt σ t b N j cs 0) (h26 : σ 195 26 = 0) (h1 : ∀ j cs υ, r = .inr (j, cs) → Fg mC σ υ → mSt υ t b N j cs 0 → υ 195 26 = 0 → Q 0 υ) (h0 : ∀ n i υ, r = .inl (n, i) → Fg mC σ υ → υ 195 29 = nI n → υ 195 30 = nI (tks t b i) → Q (-1) υ) : zI1 (d + 7) 205 [.ref 195] σ Q := by
  have hc : mCs (up σ 195 28 0) t b N j cs [] := ⟨mSt_f hs (fun q a b => zup_nj (by omega)) (fun a q h1 h2 => zup_ne (by omega)), zup_eq, (zup_nj (by decide)).trans h26, trivial, trivial, Nat.zero_le _⟩
  show zk _ _ 0 [.ref 195, zun, zun, zun] [] _ _
  refine r_push zi_205_0 rfl ?_
  refine r_is1 zi_205_1 rfl ?_
  refine r_al0 zi_205_2 rfl ?_
  refine r_push zi_205_3 rfl ?_
  refine q_put zi_205_4 rfl cf_195_28 rfl ?_
  refine r_push zi_205_7 rfl ?_
  refine r_is2 zi_205_8 rfl ?_
  exact l_any hE h1 h0 f true j cs [] _ _ hr hc (fun z => by cases z) (Fg.rf.put (by unfold mC; omega))

