/-! MODEL: an order is obeyed -/
theorem zTl_b {N : Nat} {Wd Fr' Wh To O A : Nat → Nat} {F : Nat → Int32} : ∃ k, k ≤ 1000 ∧ zTl N Wd Fr' Wh To O A 0 F = nI k := by
  unfold zTl zhld
  split
  · exact ⟨0, by omega, rfl⟩
  · rename_i h0
    split
    · exact ⟨1000, by omega, rfl⟩
    · rename_i h1
      exact nI_ex (n := 1000) (by grind) (by have e : (zmo 0) = nI 1000 := rfl; rw [e] at h1; grind) (by omega)
theorem s_mobeys {d n s w a N : Nat} {σ : zS} {Q : Int32 → zS → Prop} {V : zS} {th : Bool} {Wd Fr' Wh To O A : Nat → Nat} {B : Nat → Int32} (hM : zMd σ n th N Wd Fr' Wh To O A B) (hV : zVm σ V n th) (hg : zVg V n) (hs : s < n) (hw : w ≤ 4) (ha : a < 12) (h1 : dIs (zTl N Wd Fr' Wh To O A) n th V s w = true → ∀ τ, zFm th σ τ → zVm τ (dOb (zTl N Wd Fr' Wh To O A) B n th V s w a) n th → Q 1 τ) (h0 : ¬ dIs (zTl N Wd Fr' Wh To O A) n th V s w = true → ∀ τ, zFm th σ τ → zVm τ (dOb (zTl N Wd Fr' Wh To O A) B n th V s w a) n th → Q 0 τ) : zI1 (d + 6) 238 [.ref 195, .int (nI s), .int (nI w), .int (nI a)] σ Q := by
  obtain ⟨p, hp, hpV⟩ := hg.2.2.1 s hs
  have hup : un (V 3 s) = p := by rw [hpV]; exact un_nI (by omega)
  have hn18 := hM.2.1
  have hat : σ 196 (30 + s) = nI p := (hV.2.2.1 s hs).1.trans hpV
  have h5 := hM.2.2.1
  have hgD : zVg (dDr (zTl N Wd Fr' Wh To O A) n th V s w) n := dDr_g hg
  have h16 : dDr (zTl N Wd Fr' Wh To O A) n th V s w 11 16 = V 11 16 := by unfold dDr; split <;> first | rfl | exact zup_nj (by decide)
  have hor : ∀ (Q2 : Int32 → zS → Prop), (∀ υ, Fr [215, 216] σ υ → zVm υ V n th → Q2 (zTl N Wd Fr' Wh To O A 0 (zFv V n true s p (nI w))) υ) → zI1 (d + 5) 228 [.ref 195, .int (nI s), .int (nI w)] σ Q2 := fun Q2 hq => s_obeysOf (d := d + 1) hM.1 hn18 (by omega) hp hat hM.2.2.2.1 hM.2.2.2.2.1 (fun υ x => by rw [zfM_v hV hn18 hs hp]; exact hq υ x (zVm_o hV x (by decide)))
  obtain ⟨k, hk, hkv⟩ := zTl_b (N := N) (Wd := Wd) (Fr' := Fr') (Wh := Wh) (To := To) (O := O) (A := A) (F := zFv V n true s p (nI w))
  have hOd : dOd (zTl N Wd Fr' Wh To O A) n V s w = nI k := by unfold dOd; rw [hup]; exact hkv
  rw [hkv] at hor
  unfold dOb at h1 h0
  have z1 : nI 1 = 0 ∨ nI 1 = 1 := Or.inr rfl
  have z0 : nI 0 = 0 ∨ nI 0 = 1 := Or.inl rfl
  have hfin : ∀ (τ : zS), zFm th σ τ → zVm τ (dDr (zTl N Wd Fr' Wh To O A) n th V s w) n th → (dIs (zTl N Wd Fr' Wh To O A) n th V s w = true → zk (d + 6) 238 57 [.ref 195, .int (nI s), .int (nI w), .int (nI a), .int (nI k), .int (nI 1)] [] τ (fun r t => ∃ v, r = some v ∧ Q v t)) ∧ (¬ dIs (zTl N Wd Fr' Wh To O A) n th V s w = true → zk (d + 6) 238 57 [.ref 195, .int (nI s), .int (nI w), .int (nI a), .int (nI k), .int (nI 0)] [] τ (fun r t => ∃ v, r = some v ∧ Q v t)) := by
    intro τ hF hVD
    generalize dDr (zTl N Wd Fr' Wh To O A) n th V s w = U at *
    obtain ⟨wr, gw, gw2⟩ := hgD.2.2.2.2.2.2.2
    have hMt := zMd_fr hF.1 hM
    have hnt : ∀ (j : Nat) (Q2 : zS → Prop), (∀ υ, zFm th σ υ → zMd υ n th N Wd Fr' Wh To O A B → zVm υ (dW th (nI j) (nI s) (nI w) U) n th → Q2 υ) → zV1 (d + 5) 233 [.ref 195, .int (nI j), .int (nI s), .int (nI w)] τ Q2 := fun j Q2 hq => s_mnotes hMt hVD gw2 gw (fun υ x y => hq υ (hF.tr x) (zMd_fr x.1 hMt) y)
    refine ⟨fun hi => ?_, fun hi => ?_⟩
    · rw [if_pos hi] at h1
      have hdn : ∀ (υ : zS) (Q2 : zS → Prop), zFm th σ υ → zMd υ n th N Wd Fr' Wh To O A B → zVm υ (dW th (nI 0) (nI s) (nI w) U) n th → (∀ ρ, zFm th σ ρ → zVm ρ (dW th (nI 0) (nI s) (nI w) (dDn (zTl N Wd Fr' Wh To O A) B n U s w a)) n th → Q2 ρ) → zV1 (d + 5) 237 [.ref 195, .int (nI s), .int (nI w), .int (nI a)] υ Q2 := fun υ Q2 x1 x2 x3 hq => s_isDone x2 x3 (dW_g hgD) hs hw ha (fun ρ y1 y2 => hq ρ (x1.tr y1) (by rw [← dDn_dW]; exact y2))
      refine r_al0 zi_238_57 rfl ?_
      refine r_il5 zi_238_58 rfl ?_
      refine r_if0 zi_238_60 rfl (fun c => absurd c (by decide)) (fun _ => ?_)
      refine r_push zi_238_63 rfl ?_
      refine r_goto zi_238_64 rfl ?_
      refine r_il1 zi_238_68 rfl ?_
      refine r_il2 zi_238_69 rfl ?_
      refine q_cVV zi_238_70 rfl rfl rfl rfl rfl rfl rfl cf_195_0.ob (hnt 0 _ (fun υ x1 x2 x3 => ?_))
      show zk _ _ 73 _ _ _ _
      refine r_il5 zi_238_73 rfl ?_
      refine r_if0 zi_238_75 rfl (fun c => absurd c (by decide)) (fun _ => ?_)
      refine r_al0 zi_238_78 rfl ?_
      refine r_il1 zi_238_79 rfl ?_
      refine r_il2 zi_238_80 rfl ?_
      refine r_il3 zi_238_81 rfl ?_
      refine q_cVV zi_238_82 rfl rfl rfl rfl rfl rfl rfl cf_195_0.ob (hdn υ _ x1 x2 x3 (fun ρ y1 y2 => ?_))
      show zk _ _ 85 _ _ _ _
      refine r_goto zi_238_85 rfl ?_
      refine r_il5 zi_238_102 rfl ?_
      refine r_retZ zi_238_104 rfl (by assumption) ?_
      exact ⟨_, rfl, h1 hi ρ y1 y2⟩
    · rw [if_neg hi] at h0
      have e16 : dW th (nI 1) (nI s) (nI w) U 11 16 = V 11 16 := (dW_r (by decide) (by decide)).trans h16
      rw [dW_up (by decide) (by decide)] at h0
      refine r_al0 zi_238_57 rfl ?_
      refine r_il5 zi_238_58 rfl ?_
      refine r_if0 zi_238_60 rfl (fun _ => ?_) (fun c => absurd (by decide) c)
      refine r_push zi_238_67 rfl ?_
      refine r_il1 zi_238_68 rfl ?_
      refine r_il2 zi_238_69 rfl ?_
      refine q_cVV zi_238_70 rfl rfl rfl rfl rfl rfl rfl cf_195_0.ob (hnt 1 _ (fun υ x1 x2 x3 => ?_))
      show zk _ _ 73 _ _ _ _
      refine r_il5 zi_238_73 rfl ?_
      refine r_if0 zi_238_75 rfl (fun _ => ?_) (fun c => absurd (by decide) c)
      refine r_al0 zi_238_88 rfl ?_
      refine q_getR zi_238_89 rfl cf_195_1 ?_
      refine r_push zi_238_92 rfl ?_
      refine r_al0 zi_238_93 rfl ?_
      refine q_getR zi_238_94 rfl cf_195_1 ?_
      refine r_push zi_238_97 rfl ?_
      refine r_alde zi_238_98 rfl 5 ca_196 rfl (by decide) (u := V 11 16) (by first | exact (x3.1.2.2.2.2.2.trans e16) | ((repeat (first | rw [zup_ne (by first | decide | omega)] | rw [zup_nj (by first | decide | omega)] | rw [fil_ne (by first | decide | omega)])) <;> exact (x3.1.2.2.2.2.2.trans e16)) | (simp [up_rd, fil_rd]; exact (x3.1.2.2.2.2.2.trans e16))) ?_
      refine r_push zi_238_99 rfl ?_
      refine r_b0 zi_238_100 rfl ?_
      refine r_ast zi_238_101 rfl 5 ca_196 rfl (by decide) ?_
      refine r_il5 zi_238_102 rfl ?_
      refine r_retZ zi_238_104 rfl (by assumption) ?_
      exact ⟨_, rfl, h0 hi _ x1.put (zVm_u hn18 x3 (zCm_k (zCnf (by decide)) (by decide) (by decide)))⟩
  clear h1 h0
  show zk _ _ 0 [.ref 195, .int (nI s), .int (nI w), .int (nI a), zun, zun] [] _ _
  by_cases ht : th = true
  · rw [if_pos ht] at h5
    have hU : dDr (zTl N Wd Fr' Wh To O A) n th V s w = V := by unfold dDr; rw [if_neg (fun z => by rw [ht] at z; exact absurd z.1 (by decide))]
    have hI : dIs (zTl N Wd Fr' Wh To O A) n th V s w = decide (500 ≤ k) := by
      unfold dIs
      rw [if_pos ht, hOd]
      exact decide_eq_decide.mpr ⟨fun z => by
        by_cases q : 500 ≤ k
        · exact q
        · have h9 : nI k < nI 500 := nI_lt (by omega) (by omega)
          have z : nI 500 ≤ nI k := z
          exact absurd z (by grind), fun z => nI_le (a := 500) (by omega) (by omega)⟩
    rw [hI, hU] at hfin
    by_cases e : 500 ≤ k
    · refine r_al0 zi_238_0 rfl ?_
      refine r_il1 zi_238_1 rfl ?_
      refine r_il2 zi_238_2 rfl ?_
      refine q_cIV zi_238_3 rfl rfl rfl rfl rfl rfl rfl cf_195_0.ob (hor _ (fun υ x1 x2 => ?_))
      show zk _ _ 6 _ _ _ _
      refine r_is4 zi_238_6 rfl ?_
      refine r_al0 zi_238_8 rfl ?_
      refine q_getIe zi_238_9 rfl cf_195_5 (v := 1) (by first | exact ((x1 195 (by decide) 5).trans h5) | ((repeat (first | rw [zup_ne (by first | decide | omega)] | rw [zup_nj (by first | decide | omega)] | rw [fil_ne (by first | decide | omega)])) <;> exact ((x1 195 (by decide) 5).trans h5)) | (simp [up_rd, fil_rd]; exact ((x1 195 (by decide) 5).trans h5))) ?_
      refine r_if0 zi_238_12 rfl (fun c => absurd c (by decide)) (fun _ => ?_)
      refine r_push zi_238_15 rfl ?_
      refine r_il4 zi_238_16 rfl ?_
      refine r_b2 zi_238_18 rfl ?_
      rw [show (2 * nI k : Int32) = nI (2 * k) from pk_mul _ _]
      refine r_push zi_238_19 rfl ?_
      refine n_ic2 (i := (2 * k)) (j := 1000) zi_238_22 rfl (by omega) (by omega) (fun c => absurd c (by omega)) (fun _ => ?_)
      refine r_push zi_238_25 rfl ?_
      refine r_goto zi_238_26 rfl ?_
      refine r_is5 zi_238_55 rfl ?_
      exact (hfin υ (zFm.of x1 (by simp)) x2).1 (decide_eq_true e)
    · refine r_al0 zi_238_0 rfl ?_
      refine r_il1 zi_238_1 rfl ?_
      refine r_il2 zi_238_2 rfl ?_
      refine q_cIV zi_238_3 rfl rfl rfl rfl rfl rfl rfl cf_195_0.ob (hor _ (fun υ x1 x2 => ?_))
      show zk _ _ 6 _ _ _ _
      refine r_is4 zi_238_6 rfl ?_
      refine r_al0 zi_238_8 rfl ?_
      refine q_getIe zi_238_9 rfl cf_195_5 (v := 1) (by first | exact ((x1 195 (by decide) 5).trans h5) | ((repeat (first | rw [zup_ne (by first | decide | omega)] | rw [zup_nj (by first | decide | omega)] | rw [fil_ne (by first | decide | omega)])) <;> exact ((x1 195 (by decide) 5).trans h5)) | (simp [up_rd, fil_rd]; exact ((x1 195 (by decide) 5).trans h5))) ?_
      refine r_if0 zi_238_12 rfl (fun c => absurd c (by decide)) (fun _ => ?_)
      refine r_push zi_238_15 rfl ?_
      refine r_il4 zi_238_16 rfl ?_
      refine r_b2 zi_238_18 rfl ?_
      rw [show (2 * nI k : Int32) = nI (2 * k) from pk_mul _ _]
      refine r_push zi_238_19 rfl ?_
      refine n_ic2 (i := (2 * k)) (j := 1000) zi_238_22 rfl (by omega) (by omega) (fun _ => ?_) (fun c => absurd c (by omega))
      refine r_push zi_238_29 rfl ?_
      refine r_goto zi_238_30 rfl ?_
      refine r_is5 zi_238_55 rfl ?_
      exact (hfin υ (zFm.of x1 (by simp)) x2).2 (fun z => e (of_decide_eq_true z))
  · rw [if_neg ht] at h5
    have htf : th = false := by cases th; rfl; exact absurd rfl ht
    by_cases k0 : k = 0
    · have hU : dDr (zTl N Wd Fr' Wh To O A) n th V s w = V := by unfold dDr; rw [hOd, if_neg (fun z => by rw [k0] at z; exact absurd z.2 (by decide))]
      have hI : ¬ dIs (zTl N Wd Fr' Wh To O A) n th V s w = true := by
        unfold dIs
        rw [if_neg ht, hOd, k0]
        exact fun z => absurd (of_decide_eq_true z).1 (by decide)
      rw [hU] at hfin
      refine r_al0 zi_238_0 rfl ?_
      refine r_il1 zi_238_1 rfl ?_
      refine r_il2 zi_238_2 rfl ?_
      refine q_cIV zi_238_3 rfl rfl rfl rfl rfl rfl rfl cf_195_0.ob (hor _ (fun υ x1 x2 => ?_))
      show zk _ _ 6 _ _ _ _
      refine r_is4 zi_238_6 rfl ?_
      refine r_al0 zi_238_8 rfl ?_
      refine q_getIe zi_238_9 rfl cf_195_5 (v := 0) (by first | exact ((x1 195 (by decide) 5).trans h5) | ((repeat (first | rw [zup_ne (by first | decide | omega)] | rw [zup_nj (by first | decide | omega)] | rw [fil_ne (by first | decide | omega)])) <;> exact ((x1 195 (by decide) 5).trans h5)) | (simp [up_rd, fil_rd]; exact ((x1 195 (by decide) 5).trans h5))) ?_
      refine r_if0 zi_238_12 rfl (fun _ => ?_) (fun c => absurd (by decide) c)
      refine r_il4 zi_238_33 rfl ?_
      refine n_if5 (i := k) zi_238_35 rfl (by omega) (fun _ => ?_) (fun c => absurd c (by omega))
      refine r_push zi_238_54 rfl ?_
      refine r_is5 zi_238_55 rfl ?_
      exact (hfin υ (zFm.of x1 (by simp)) x2).2 hI
    · have hpos : 0 < nI k := nI_lt (a := 0) (by omega) (by omega)
      have hU : dDr (zTl N Wd Fr' Wh To O A) n th V s w = up V 11 18 (zdr (V 11 18)) := by unfold dDr; rw [hOd, if_pos ⟨htf, hpos⟩]
      have hI : dIs (zTl N Wd Fr' Wh To O A) n th V s w = decide (zdw (V 11 18) 1000 < nI k) := by
        unfold dIs
        rw [if_neg ht, hOd]
        exact decide_eq_decide.mpr ⟨fun z => z.2, fun z => ⟨hpos, z⟩⟩
      rw [hI, hU] at hfin
      have hdr : ∀ (υ : zS) (Q2 : Int32 → zS → Prop), Fr [215, 216] σ υ → zVm υ V n th → (∀ ρ, zFm th σ ρ → zVm ρ (up V 11 18 (zdr (V 11 18))) n th → Q2 (zdw (V 11 18) 1000) ρ) → zI1 (d + 5) 176 [.ref 195, .int 1000] υ Q2 := fun υ Q2 x1 x2 hq => s_mdraw (by rw [x2.1.2.1]; exact hq _ (zFm.of x1 (by simp)).put (zVm_u hn18 x2 (zCm_k (zCnf (by decide)) (by decide) (by decide))))
      by_cases e : zdw (V 11 18) 1000 < nI k
      · refine r_al0 zi_238_0 rfl ?_
        refine r_il1 zi_238_1 rfl ?_
        refine r_il2 zi_238_2 rfl ?_
        refine q_cIV zi_238_3 rfl rfl rfl rfl rfl rfl rfl cf_195_0.ob (hor _ (fun υ x1 x2 => ?_))
        show zk _ _ 6 _ _ _ _
        refine r_is4 zi_238_6 rfl ?_
        refine r_al0 zi_238_8 rfl ?_
        refine q_getIe zi_238_9 rfl cf_195_5 (v := 0) (by first | exact ((x1 195 (by decide) 5).trans h5) | ((repeat (first | rw [zup_ne (by first | decide | omega)] | rw [zup_nj (by first | decide | omega)] | rw [fil_ne (by first | decide | omega)])) <;> exact ((x1 195 (by decide) 5).trans h5)) | (simp [up_rd, fil_rd]; exact ((x1 195 (by decide) 5).trans h5))) ?_
        refine r_if0 zi_238_12 rfl (fun _ => ?_) (fun c => absurd (by decide) c)
        refine r_il4 zi_238_33 rfl ?_
        refine n_if5 (i := k) zi_238_35 rfl (by omega) (fun c => absurd c (by omega)) (fun _ => ?_)
        refine r_al0 zi_238_38 rfl ?_
        refine r_push zi_238_39 rfl ?_
        refine q_cIV zi_238_42 rfl rfl rfl rfl rfl rfl rfl cf_195_0.ob (hdr υ _ x1 x2 (fun ρ y1 y2 => ?_))
        show zk _ _ 45 _ _ _ _
        refine r_il4 zi_238_45 rfl ?_
        refine r_ic3 zi_238_47 rfl (fun c => absurd c (by grind)) (fun _ => ?_)
        refine r_push zi_238_50 rfl ?_
        refine r_goto zi_238_51 rfl ?_
        refine r_is5 zi_238_55 rfl ?_
        exact (hfin ρ y1 y2).1 (decide_eq_true e)
      · refine r_al0 zi_238_0 rfl ?_
        refine r_il1 zi_238_1 rfl ?_
        refine r_il2 zi_238_2 rfl ?_
        refine q_cIV zi_238_3 rfl rfl rfl rfl rfl rfl rfl cf_195_0.ob (hor _ (fun υ x1 x2 => ?_))
        show zk _ _ 6 _ _ _ _
        refine r_is4 zi_238_6 rfl ?_
        refine r_al0 zi_238_8 rfl ?_
        refine q_getIe zi_238_9 rfl cf_195_5 (v := 0) (by first | exact ((x1 195 (by decide) 5).trans h5) | ((repeat (first | rw [zup_ne (by first | decide | omega)] | rw [zup_nj (by first | decide | omega)] | rw [fil_ne (by first | decide | omega)])) <;> exact ((x1 195 (by decide) 5).trans h5)) | (simp [up_rd, fil_rd]; exact ((x1 195 (by decide) 5).trans h5))) ?_
        refine r_if0 zi_238_12 rfl (fun _ => ?_) (fun c => absurd (by decide) c)
        refine r_il4 zi_238_33 rfl ?_
        refine n_if5 (i := k) zi_238_35 rfl (by omega) (fun c => absurd c (by omega)) (fun _ => ?_)
        refine r_al0 zi_238_38 rfl ?_
        refine r_push zi_238_39 rfl ?_
        refine q_cIV zi_238_42 rfl rfl rfl rfl rfl rfl rfl cf_195_0.ob (hdr υ _ x1 x2 (fun ρ y1 y2 => ?_))
        show zk _ _ 45 _ _ _ _
        refine r_il4 zi_238_45 rfl ?_
        refine r_ic3 zi_238_47 rfl (fun _ => ?_) (fun c => absurd (by grind) c)
        refine r_push zi_238_54 rfl ?_
        refine r_is5 zi_238_55 rfl ?_
        exact (hfin ρ y1 y2).2 (fun z => e (of_decide_eq_true z))

