theorem s_mgives {d n c t : Nat} {σ V : zS} {H : Nat → zS} {Q : Int32 → zS → Prop} {what who wr g : Int32} (hgg : g = 0 ∨ g = 1) (hs : σ 195 6 = nI n) (hV : zVm σ V n false) (hg : zVg V n) (ht2 : V 11 12 = nI t) (ht24 : t ≤ 24) (hP : mP σ n c H) (hc : c ≤ 6) (h1 : ∀ w s a gg, orN what who wr g n t V w s a gg → ∀ τ, maF (up σ 195 0 0) τ → mP τ n (min 6 (c + 1)) (hcons V H) → Q (nI (t + 1)) (up (up τ 196 (121 + t) (nI (w + 10 * a + 200 * s + 4000 * gg))) 196 120 (nI (t + 1)))) (h0 : ¬ orOK what who wr g n t V → Q (-1) (up σ 195 0 0)) : zI1 (d + 1) 235 [.ref 195, .int what, .int who, .int wr, .int g] σ Q := by
  have hn18 := hg.2.1
  have hV' : zVm (up σ 195 0 0) V n false := zVm_a hn18 hV (fun a b h => zup_n2 (by omega))
  have hP' : mP (up σ 195 0 0) n c H := mP_f hn18 hP (fun a b h => zup_n2 (by omega))
  have hsub : up σ 195 0 0 195 6 = nI n := (zup_n2 (by omega)).trans hs
  have ht : up σ 195 0 0 196 120 = nI t := hV'.2.2.2.2.1.1.trans ht2
  have et : ∀ τ, maF (up σ 195 0 0) τ → τ 196 120 = nI t := fun τ h => (h 196 120 (by omega) (by omega)).trans ht
  have e6 : ∀ s, s < n → up σ 195 0 0 196 (66 + s) = (if V 6 s = 1 then 0 else 1) := fun s hs => (hV'.2.2.1 s hs).2.1
  show zk _ _ 0 [.ref 195, .int what, .int who, .int wr, .int g] [] _ _
  by_cases hk : orOK what who wr g n t V
  · obtain ⟨w, s, a, gg, hN⟩ := orN_ex hn18 hgg hk
    replace h1 := h1 w s a gg hN
    obtain ⟨k1, k2, k3, k4, k5, k6, k7, k8, k9, k10, k11, k12⟩ := hN
    clear h0 hk hgg
    have hw5 : 0 ≤ what ∧ what ≤ 5 := nI_r (b := 0) (c := 5) k5 (by omega) k1 (by omega)
    have hsr : 0 ≤ who ∧ who < up σ 195 0 0 195 6 := by rw [hsub, k6]; exact ⟨nI_z (by omega), nI_lt k2 (by omega)⟩
    have hal : up σ 195 0 0 196 (66 + s) = 0 := by rw [e6 s k2, if_pos k11]
    have hpl0 : w = 0 → 0 ≤ wr ∧ wr < 12 := fun z => by rw [k7 z]; exact ⟨nI_z (by omega), nI_lt (b := 12) k3 (by omega)⟩
    by_cases w0 : w = 0
    · have hpl := hpl0 w0
      replace k7 := k7 w0
      subst w0
      subst k5 k6 k7
      have g01 : gg = 0 ∨ gg = 1 := by omega
      rcases g01 with e | e
      · subst e
        subst k9
        refine r_al0 zi_235_0 rfl ?_
        refine r_push zi_235_1 rfl ?_
        refine q_put zi_235_2 rfl cf_195_0 rfl ?_
        refine r_al0 zi_235_5 rfl ?_
        refine r_il1 zi_235_6 rfl ?_
        refine r_push zi_235_7 rfl ?_
        refine r_push zi_235_8 rfl ?_
        refine q_cIV zi_235_9 rfl rfl rfl rfl rfl rfl rfl cf_195_0.ob (s_isIn (fun _ _ => ?_) (fun z => absurd hw5 z))
        show zk _ _ 12 _ _ _ _
        refine r_if0 zi_235_12 rfl (fun c => absurd c (by decide)) (fun _ => ?_)
        refine r_al0 zi_235_15 rfl ?_
        refine r_il2 zi_235_16 rfl ?_
        refine q_cIV zi_235_17 rfl rfl rfl rfl rfl rfl rfl cf_195_0.ob (s_msubj (fun _ _ => ?_) (fun z => absurd hsr z))
        show zk _ _ 20 _ _ _ _
        refine r_if0 zi_235_20 rfl (fun c => absurd c (by decide)) (fun _ => ?_)
        refine r_al0 zi_235_23 rfl ?_
        refine r_il2 zi_235_24 rfl ?_
        refine q_cIV zi_235_25 rfl rfl rfl rfl rfl rfl rfl cf_195_0.ob (s_malive (by omega) (fun _ => ?_) (fun z => absurd hal z))
        show zk _ _ 28 _ _ _ _
        refine r_if0 zi_235_28 rfl (fun c => absurd c (by decide)) (fun _ => ?_)
        refine r_il1 zi_235_31 rfl ?_
        refine r_push zi_235_32 rfl ?_
        refine r_ic1 zi_235_33 rfl (fun _ => ?_) (fun c => absurd c (by decide))
        refine r_il1 zi_235_41 rfl ?_
        refine r_if1 zi_235_42 rfl (fun c => absurd (by decide) c) (fun _ => ?_)
        refine r_al0 zi_235_45 rfl ?_
        refine r_il3 zi_235_46 rfl ?_
        refine q_cIV zi_235_47 rfl rfl rfl rfl rfl rfl rfl cf_195_0.ob (s_mplace (fun _ _ => ?_) (fun z => absurd hpl z))
        show zk _ _ 50 _ _ _ _
        refine r_if0 zi_235_50 rfl (fun c => absurd c (by decide)) (fun _ => ?_)
        refine r_al0 zi_235_53 rfl ?_
        refine q_getR zi_235_54 rfl cf_195_1 ?_
        refine r_push zi_235_57 rfl ?_
        refine r_alde zi_235_59 rfl 120 ca_196 (by first | rfl | (simp only [zI_add, zI_mul] <;> rfl)) (by first | omega | decide) (u := nI t) (by first | exact ht | ((repeat (first | rw [zup_ne (by first | decide | omega)] | rw [zup_nj (by first | decide | omega)] | rw [fil_ne (by first | decide | omega)])) <;> exact ht) | (simp [up_rd, fil_rd]; exact ht)) ?_
        refine r_push zi_235_60 rfl ?_
        refine n_ic1 (i := t) (j := 24) zi_235_62 rfl (by omega) (by omega) (fun _ => ?_) (fun c => absurd c (by omega))
        refine r_al0 zi_235_67 rfl ?_
        refine q_cVV zi_235_68 rfl rfl rfl rfl rfl rfl rfl cf_195_0.ob (s_ahead hn18 hV' hP' hc (fun τ hτ h3 => ?_))
        show zk _ _ 71 _ _ _ _
        refine r_al0 zi_235_71 rfl ?_
        refine q_getR zi_235_72 rfl cf_195_1 ?_
        refine r_push zi_235_75 rfl ?_
        refine r_al0 zi_235_77 rfl ?_
        refine q_getR zi_235_78 rfl cf_195_1 ?_
        refine r_push zi_235_81 rfl ?_
        refine r_alde zi_235_83 rfl 120 ca_196 (by first | rfl | (simp only [zI_add, zI_mul] <;> rfl)) (by first | omega | decide) (u := nI t) (by first | exact (et _ hτ) | ((repeat (first | rw [zup_ne (by first | decide | omega)] | rw [zup_nj (by first | decide | omega)] | rw [fil_ne (by first | decide | omega)])) <;> exact (et _ hτ)) | (simp [up_rd, fil_rd]; exact (et _ hτ))) ?_
        refine r_b0 zi_235_84 rfl ?_
        rw [show (121 + nI t : Int32) = nI (121 + t) from nI_add _ _]
        refine r_al0 zi_235_85 rfl ?_
        refine r_il1 zi_235_86 rfl ?_
        refine r_il1 zi_235_87 rfl ?_
        refine r_if1 zi_235_88 rfl (fun c => absurd (by decide) c) (fun _ => ?_)
        refine r_il3 zi_235_91 rfl ?_
        refine r_goto zi_235_92 rfl ?_
        refine r_il2 zi_235_96 rfl ?_
        refine r_il4 zi_235_97 rfl ?_
        refine r_if0 zi_235_99 rfl (fun _ => ?_) (fun c => absurd (by decide) c)
        refine r_push zi_235_106 rfl ?_
        refine q_cIV zi_235_107 rfl rfl rfl rfl rfl rfl rfl cf_195_0.ob (s_orderOf (w := 0) (a := a) (s := s) (g := 0) ?_)
        show zk _ _ 110 _ _ _ _
        refine r_ast zi_235_110 rfl (121 + t) ca_196 (by first | rfl | (simp only [zI_add, zI_mul] <;> rfl)) (by first | omega | decide) ?_
        refine r_al0 zi_235_111 rfl ?_
        refine q_getR zi_235_112 rfl cf_195_1 ?_
        refine r_push zi_235_115 rfl ?_
        refine r_al0 zi_235_117 rfl ?_
        refine q_getR zi_235_118 rfl cf_195_1 ?_
        refine r_push zi_235_121 rfl ?_
        refine r_alde zi_235_123 rfl 120 ca_196 (by first | rfl | (simp only [zI_add, zI_mul] <;> rfl)) (by first | omega | decide) (u := nI t) (by first | exact ((zup_n2 (by omega)).trans (et _ hτ)) | ((repeat (first | rw [zup_ne (by first | decide | omega)] | rw [zup_nj (by first | decide | omega)] | rw [fil_ne (by first | decide | omega)])) <;> exact ((zup_n2 (by omega)).trans (et _ hτ))) | (simp [up_rd, fil_rd]; exact ((zup_n2 (by omega)).trans (et _ hτ)))) ?_
        refine r_push zi_235_124 rfl ?_
        refine r_b0 zi_235_125 rfl ?_
        rw [show (nI t + 1 : Int32) = nI (t + 1) from nI_add _ _]
        refine r_ast zi_235_126 rfl 120 ca_196 (by first | rfl | (simp only [zI_add, zI_mul] <;> rfl)) (by first | omega | decide) ?_
        refine r_al0 zi_235_127 rfl ?_
        refine q_getR zi_235_128 rfl cf_195_1 ?_
        refine r_push zi_235_131 rfl ?_
        refine r_alde zi_235_133 rfl 120 ca_196 (by first | rfl | (simp only [zI_add, zI_mul] <;> rfl)) (by first | omega | decide) (u := nI (t + 1)) (by first | exact zup_eq | ((repeat (first | rw [zup_ne (by first | decide | omega)] | rw [zup_nj (by first | decide | omega)] | rw [fil_ne (by first | decide | omega)])) <;> exact zup_eq) | (simp [up_rd, fil_rd]; exact zup_eq)) ?_
        refine r_retI zi_235_134 rfl ?_
        first | exact ⟨_, rfl, h1 τ hτ h3⟩ | (exfalso; omega)
      · subst e
        subst k9
        refine r_al0 zi_235_0 rfl ?_
        refine r_push zi_235_1 rfl ?_
        refine q_put zi_235_2 rfl cf_195_0 rfl ?_
        refine r_al0 zi_235_5 rfl ?_
        refine r_il1 zi_235_6 rfl ?_
        refine r_push zi_235_7 rfl ?_
        refine r_push zi_235_8 rfl ?_
        refine q_cIV zi_235_9 rfl rfl rfl rfl rfl rfl rfl cf_195_0.ob (s_isIn (fun _ _ => ?_) (fun z => absurd hw5 z))
        show zk _ _ 12 _ _ _ _
        refine r_if0 zi_235_12 rfl (fun c => absurd c (by decide)) (fun _ => ?_)
        refine r_al0 zi_235_15 rfl ?_
        refine r_il2 zi_235_16 rfl ?_
        refine q_cIV zi_235_17 rfl rfl rfl rfl rfl rfl rfl cf_195_0.ob (s_msubj (fun _ _ => ?_) (fun z => absurd hsr z))
        show zk _ _ 20 _ _ _ _
        refine r_if0 zi_235_20 rfl (fun c => absurd c (by decide)) (fun _ => ?_)
        refine r_al0 zi_235_23 rfl ?_
        refine r_il2 zi_235_24 rfl ?_
        refine q_cIV zi_235_25 rfl rfl rfl rfl rfl rfl rfl cf_195_0.ob (s_malive (by omega) (fun _ => ?_) (fun z => absurd hal z))
        show zk _ _ 28 _ _ _ _
        refine r_if0 zi_235_28 rfl (fun c => absurd c (by decide)) (fun _ => ?_)
        refine r_il1 zi_235_31 rfl ?_
        refine r_push zi_235_32 rfl ?_
        refine r_ic1 zi_235_33 rfl (fun _ => ?_) (fun c => absurd c (by decide))
        refine r_il1 zi_235_41 rfl ?_
        refine r_if1 zi_235_42 rfl (fun c => absurd (by decide) c) (fun _ => ?_)
        refine r_al0 zi_235_45 rfl ?_
        refine r_il3 zi_235_46 rfl ?_
        refine q_cIV zi_235_47 rfl rfl rfl rfl rfl rfl rfl cf_195_0.ob (s_mplace (fun _ _ => ?_) (fun z => absurd hpl z))
        show zk _ _ 50 _ _ _ _
        refine r_if0 zi_235_50 rfl (fun c => absurd c (by decide)) (fun _ => ?_)
        refine r_al0 zi_235_53 rfl ?_
        refine q_getR zi_235_54 rfl cf_195_1 ?_
        refine r_push zi_235_57 rfl ?_
        refine r_alde zi_235_59 rfl 120 ca_196 (by first | rfl | (simp only [zI_add, zI_mul] <;> rfl)) (by first | omega | decide) (u := nI t) (by first | exact ht | ((repeat (first | rw [zup_ne (by first | decide | omega)] | rw [zup_nj (by first | decide | omega)] | rw [fil_ne (by first | decide | omega)])) <;> exact ht) | (simp [up_rd, fil_rd]; exact ht)) ?_
        refine r_push zi_235_60 rfl ?_
        refine n_ic1 (i := t) (j := 24) zi_235_62 rfl (by omega) (by omega) (fun _ => ?_) (fun c => absurd c (by omega))
        refine r_al0 zi_235_67 rfl ?_
        refine q_cVV zi_235_68 rfl rfl rfl rfl rfl rfl rfl cf_195_0.ob (s_ahead hn18 hV' hP' hc (fun τ hτ h3 => ?_))
        show zk _ _ 71 _ _ _ _
        refine r_al0 zi_235_71 rfl ?_
        refine q_getR zi_235_72 rfl cf_195_1 ?_
        refine r_push zi_235_75 rfl ?_
        refine r_al0 zi_235_77 rfl ?_
        refine q_getR zi_235_78 rfl cf_195_1 ?_
        refine r_push zi_235_81 rfl ?_
        refine r_alde zi_235_83 rfl 120 ca_196 (by first | rfl | (simp only [zI_add, zI_mul] <;> rfl)) (by first | omega | decide) (u := nI t) (by first | exact (et _ hτ) | ((repeat (first | rw [zup_ne (by first | decide | omega)] | rw [zup_nj (by first | decide | omega)] | rw [fil_ne (by first | decide | omega)])) <;> exact (et _ hτ)) | (simp [up_rd, fil_rd]; exact (et _ hτ))) ?_
        refine r_b0 zi_235_84 rfl ?_
        rw [show (121 + nI t : Int32) = nI (121 + t) from nI_add _ _]
        refine r_al0 zi_235_85 rfl ?_
        refine r_il1 zi_235_86 rfl ?_
        refine r_il1 zi_235_87 rfl ?_
        refine r_if1 zi_235_88 rfl (fun c => absurd (by decide) c) (fun _ => ?_)
        refine r_il3 zi_235_91 rfl ?_
        refine r_goto zi_235_92 rfl ?_
        refine r_il2 zi_235_96 rfl ?_
        refine r_il4 zi_235_97 rfl ?_
        refine r_if0 zi_235_99 rfl (fun c => absurd c (by decide)) (fun _ => ?_)
        refine r_push zi_235_102 rfl ?_
        refine r_goto zi_235_103 rfl ?_
        refine q_cIV zi_235_107 rfl rfl rfl rfl rfl rfl rfl cf_195_0.ob (s_orderOf (w := 0) (a := a) (s := s) (g := 1) ?_)
        show zk _ _ 110 _ _ _ _
        refine r_ast zi_235_110 rfl (121 + t) ca_196 (by first | rfl | (simp only [zI_add, zI_mul] <;> rfl)) (by first | omega | decide) ?_
        refine r_al0 zi_235_111 rfl ?_
        refine q_getR zi_235_112 rfl cf_195_1 ?_
        refine r_push zi_235_115 rfl ?_
        refine r_al0 zi_235_117 rfl ?_
        refine q_getR zi_235_118 rfl cf_195_1 ?_
        refine r_push zi_235_121 rfl ?_
        refine r_alde zi_235_123 rfl 120 ca_196 (by first | rfl | (simp only [zI_add, zI_mul] <;> rfl)) (by first | omega | decide) (u := nI t) (by first | exact ((zup_n2 (by omega)).trans (et _ hτ)) | ((repeat (first | rw [zup_ne (by first | decide | omega)] | rw [zup_nj (by first | decide | omega)] | rw [fil_ne (by first | decide | omega)])) <;> exact ((zup_n2 (by omega)).trans (et _ hτ))) | (simp [up_rd, fil_rd]; exact ((zup_n2 (by omega)).trans (et _ hτ)))) ?_
        refine r_push zi_235_124 rfl ?_
        refine r_b0 zi_235_125 rfl ?_
        rw [show (nI t + 1 : Int32) = nI (t + 1) from nI_add _ _]
        refine r_ast zi_235_126 rfl 120 ca_196 (by first | rfl | (simp only [zI_add, zI_mul] <;> rfl)) (by first | omega | decide) ?_
        refine r_al0 zi_235_127 rfl ?_
        refine q_getR zi_235_128 rfl cf_195_1 ?_
        refine r_push zi_235_131 rfl ?_
        refine r_alde zi_235_133 rfl 120 ca_196 (by first | rfl | (simp only [zI_add, zI_mul] <;> rfl)) (by first | omega | decide) (u := nI (t + 1)) (by first | exact zup_eq | ((repeat (first | rw [zup_ne (by first | decide | omega)] | rw [zup_nj (by first | decide | omega)] | rw [fil_ne (by first | decide | omega)])) <;> exact zup_eq) | (simp [up_rd, fil_rd]; exact zup_eq)) ?_
        refine r_retI zi_235_134 rfl ?_
        first | exact ⟨_, rfl, h1 τ hτ h3⟩ | (exfalso; omega)
    · replace k8 := k8 w0
      subst k8
      subst k5 k6
      have g01 : gg = 0 ∨ gg = 1 := by omega
      rcases g01 with e | e
      · subst e
        subst k9
        refine r_al0 zi_235_0 rfl ?_
        refine r_push zi_235_1 rfl ?_
        refine q_put zi_235_2 rfl cf_195_0 rfl ?_
        refine r_al0 zi_235_5 rfl ?_
        refine r_il1 zi_235_6 rfl ?_
        refine r_push zi_235_7 rfl ?_
        refine r_push zi_235_8 rfl ?_
        refine q_cIV zi_235_9 rfl rfl rfl rfl rfl rfl rfl cf_195_0.ob (s_isIn (fun _ _ => ?_) (fun z => absurd hw5 z))
        show zk _ _ 12 _ _ _ _
        refine r_if0 zi_235_12 rfl (fun c => absurd c (by decide)) (fun _ => ?_)
        refine r_al0 zi_235_15 rfl ?_
        refine r_il2 zi_235_16 rfl ?_
        refine q_cIV zi_235_17 rfl rfl rfl rfl rfl rfl rfl cf_195_0.ob (s_msubj (fun _ _ => ?_) (fun z => absurd hsr z))
        show zk _ _ 20 _ _ _ _
        refine r_if0 zi_235_20 rfl (fun c => absurd c (by decide)) (fun _ => ?_)
        refine r_al0 zi_235_23 rfl ?_
        refine r_il2 zi_235_24 rfl ?_
        refine q_cIV zi_235_25 rfl rfl rfl rfl rfl rfl rfl cf_195_0.ob (s_malive (by omega) (fun _ => ?_) (fun z => absurd hal z))
        show zk _ _ 28 _ _ _ _
        refine r_if0 zi_235_28 rfl (fun c => absurd c (by decide)) (fun _ => ?_)
        refine r_il1 zi_235_31 rfl ?_
        refine r_push zi_235_32 rfl ?_
        refine n_ic1 (i := w) (j := 5) zi_235_33 rfl (by omega) (by omega) (fun c4 => ?_) (fun c4 => ?_)
        · refine r_il1 zi_235_41 rfl ?_
          refine n_if1 (i := w) zi_235_42 rfl (by omega) (fun _ => ?_) (fun c => absurd c (by omega))
          refine r_al0 zi_235_53 rfl ?_
          refine q_getR zi_235_54 rfl cf_195_1 ?_
          refine r_push zi_235_57 rfl ?_
          refine r_alde zi_235_59 rfl 120 ca_196 (by first | rfl | (simp only [zI_add, zI_mul] <;> rfl)) (by first | omega | decide) (u := nI t) (by first | exact ht | ((repeat (first | rw [zup_ne (by first | decide | omega)] | rw [zup_nj (by first | decide | omega)] | rw [fil_ne (by first | decide | omega)])) <;> exact ht) | (simp [up_rd, fil_rd]; exact ht)) ?_
          refine r_push zi_235_60 rfl ?_
          refine n_ic1 (i := t) (j := 24) zi_235_62 rfl (by omega) (by omega) (fun _ => ?_) (fun c => absurd c (by omega))
          refine r_al0 zi_235_67 rfl ?_
          refine q_cVV zi_235_68 rfl rfl rfl rfl rfl rfl rfl cf_195_0.ob (s_ahead hn18 hV' hP' hc (fun τ hτ h3 => ?_))
          show zk _ _ 71 _ _ _ _
          refine r_al0 zi_235_71 rfl ?_
          refine q_getR zi_235_72 rfl cf_195_1 ?_
          refine r_push zi_235_75 rfl ?_
          refine r_al0 zi_235_77 rfl ?_
          refine q_getR zi_235_78 rfl cf_195_1 ?_
          refine r_push zi_235_81 rfl ?_
          refine r_alde zi_235_83 rfl 120 ca_196 (by first | rfl | (simp only [zI_add, zI_mul] <;> rfl)) (by first | omega | decide) (u := nI t) (by first | exact (et _ hτ) | ((repeat (first | rw [zup_ne (by first | decide | omega)] | rw [zup_nj (by first | decide | omega)] | rw [fil_ne (by first | decide | omega)])) <;> exact (et _ hτ)) | (simp [up_rd, fil_rd]; exact (et _ hτ))) ?_
          refine r_b0 zi_235_84 rfl ?_
          rw [show (121 + nI t : Int32) = nI (121 + t) from nI_add _ _]
          refine r_al0 zi_235_85 rfl ?_
          refine r_il1 zi_235_86 rfl ?_
          refine r_il1 zi_235_87 rfl ?_
          refine n_if1 (i := w) zi_235_88 rfl (by omega) (fun _ => ?_) (fun c => absurd c (by omega))
          refine r_push zi_235_95 rfl ?_
          refine r_il2 zi_235_96 rfl ?_
          refine r_il4 zi_235_97 rfl ?_
          refine r_if0 zi_235_99 rfl (fun _ => ?_) (fun c => absurd (by decide) c)
          refine r_push zi_235_106 rfl ?_
          refine q_cIV zi_235_107 rfl rfl rfl rfl rfl rfl rfl cf_195_0.ob (s_orderOf (w := w) (a := 0) (s := s) (g := 0) ?_)
          show zk _ _ 110 _ _ _ _
          refine r_ast zi_235_110 rfl (121 + t) ca_196 (by first | rfl | (simp only [zI_add, zI_mul] <;> rfl)) (by first | omega | decide) ?_
          refine r_al0 zi_235_111 rfl ?_
          refine q_getR zi_235_112 rfl cf_195_1 ?_
          refine r_push zi_235_115 rfl ?_
          refine r_al0 zi_235_117 rfl ?_
          refine q_getR zi_235_118 rfl cf_195_1 ?_
          refine r_push zi_235_121 rfl ?_
          refine r_alde zi_235_123 rfl 120 ca_196 (by first | rfl | (simp only [zI_add, zI_mul] <;> rfl)) (by first | omega | decide) (u := nI t) (by first | exact ((zup_n2 (by omega)).trans (et _ hτ)) | ((repeat (first | rw [zup_ne (by first | decide | omega)] | rw [zup_nj (by first | decide | omega)] | rw [fil_ne (by first | decide | omega)])) <;> exact ((zup_n2 (by omega)).trans (et _ hτ))) | (simp [up_rd, fil_rd]; exact ((zup_n2 (by omega)).trans (et _ hτ)))) ?_
          refine r_push zi_235_124 rfl ?_
          refine r_b0 zi_235_125 rfl ?_
          rw [show (nI t + 1 : Int32) = nI (t + 1) from nI_add _ _]
          refine r_ast zi_235_126 rfl 120 ca_196 (by first | rfl | (simp only [zI_add, zI_mul] <;> rfl)) (by first | omega | decide) ?_
          refine r_al0 zi_235_127 rfl ?_
          refine q_getR zi_235_128 rfl cf_195_1 ?_
          refine r_push zi_235_131 rfl ?_
          refine r_alde zi_235_133 rfl 120 ca_196 (by first | rfl | (simp only [zI_add, zI_mul] <;> rfl)) (by first | omega | decide) (u := nI (t + 1)) (by first | exact zup_eq | ((repeat (first | rw [zup_ne (by first | decide | omega)] | rw [zup_nj (by first | decide | omega)] | rw [fil_ne (by first | decide | omega)])) <;> exact zup_eq) | (simp [up_rd, fil_rd]; exact zup_eq)) ?_
          refine r_retI zi_235_134 rfl ?_
          first | exact ⟨_, rfl, h1 τ hτ h3⟩ | (exfalso; omega)
        · refine r_il4 zi_235_36 rfl ?_
          refine r_if1 zi_235_38 rfl (fun c => absurd (by decide) c) (fun _ => ?_)
          refine r_il1 zi_235_41 rfl ?_
          refine n_if1 (i := w) zi_235_42 rfl (by omega) (fun _ => ?_) (fun c => absurd c (by omega))
          refine r_al0 zi_235_53 rfl ?_
          refine q_getR zi_235_54 rfl cf_195_1 ?_
          refine r_push zi_235_57 rfl ?_
          refine r_alde zi_235_59 rfl 120 ca_196 (by first | rfl | (simp only [zI_add, zI_mul] <;> rfl)) (by first | omega | decide) (u := nI t) (by first | exact ht | ((repeat (first | rw [zup_ne (by first | decide | omega)] | rw [zup_nj (by first | decide | omega)] | rw [fil_ne (by first | decide | omega)])) <;> exact ht) | (simp [up_rd, fil_rd]; exact ht)) ?_
          refine r_push zi_235_60 rfl ?_
          refine n_ic1 (i := t) (j := 24) zi_235_62 rfl (by omega) (by omega) (fun _ => ?_) (fun c => absurd c (by omega))
          refine r_al0 zi_235_67 rfl ?_
          refine q_cVV zi_235_68 rfl rfl rfl rfl rfl rfl rfl cf_195_0.ob (s_ahead hn18 hV' hP' hc (fun τ hτ h3 => ?_))
          show zk _ _ 71 _ _ _ _
          refine r_al0 zi_235_71 rfl ?_
          refine q_getR zi_235_72 rfl cf_195_1 ?_
          refine r_push zi_235_75 rfl ?_
          refine r_al0 zi_235_77 rfl ?_
          refine q_getR zi_235_78 rfl cf_195_1 ?_
          refine r_push zi_235_81 rfl ?_
          refine r_alde zi_235_83 rfl 120 ca_196 (by first | rfl | (simp only [zI_add, zI_mul] <;> rfl)) (by first | omega | decide) (u := nI t) (by first | exact (et _ hτ) | ((repeat (first | rw [zup_ne (by first | decide | omega)] | rw [zup_nj (by first | decide | omega)] | rw [fil_ne (by first | decide | omega)])) <;> exact (et _ hτ)) | (simp [up_rd, fil_rd]; exact (et _ hτ))) ?_
          refine r_b0 zi_235_84 rfl ?_
          rw [show (121 + nI t : Int32) = nI (121 + t) from nI_add _ _]
          refine r_al0 zi_235_85 rfl ?_
          refine r_il1 zi_235_86 rfl ?_
          refine r_il1 zi_235_87 rfl ?_
          refine n_if1 (i := w) zi_235_88 rfl (by omega) (fun _ => ?_) (fun c => absurd c (by omega))
          refine r_push zi_235_95 rfl ?_
          refine r_il2 zi_235_96 rfl ?_
          refine r_il4 zi_235_97 rfl ?_
          refine r_if0 zi_235_99 rfl (fun _ => ?_) (fun c => absurd (by decide) c)
          refine r_push zi_235_106 rfl ?_
          refine q_cIV zi_235_107 rfl rfl rfl rfl rfl rfl rfl cf_195_0.ob (s_orderOf (w := w) (a := 0) (s := s) (g := 0) ?_)
          show zk _ _ 110 _ _ _ _
          refine r_ast zi_235_110 rfl (121 + t) ca_196 (by first | rfl | (simp only [zI_add, zI_mul] <;> rfl)) (by first | omega | decide) ?_
          refine r_al0 zi_235_111 rfl ?_
          refine q_getR zi_235_112 rfl cf_195_1 ?_
          refine r_push zi_235_115 rfl ?_
          refine r_al0 zi_235_117 rfl ?_
          refine q_getR zi_235_118 rfl cf_195_1 ?_
          refine r_push zi_235_121 rfl ?_
          refine r_alde zi_235_123 rfl 120 ca_196 (by first | rfl | (simp only [zI_add, zI_mul] <;> rfl)) (by first | omega | decide) (u := nI t) (by first | exact ((zup_n2 (by omega)).trans (et _ hτ)) | ((repeat (first | rw [zup_ne (by first | decide | omega)] | rw [zup_nj (by first | decide | omega)] | rw [fil_ne (by first | decide | omega)])) <;> exact ((zup_n2 (by omega)).trans (et _ hτ))) | (simp [up_rd, fil_rd]; exact ((zup_n2 (by omega)).trans (et _ hτ)))) ?_
          refine r_push zi_235_124 rfl ?_
          refine r_b0 zi_235_125 rfl ?_
          rw [show (nI t + 1 : Int32) = nI (t + 1) from nI_add _ _]
          refine r_ast zi_235_126 rfl 120 ca_196 (by first | rfl | (simp only [zI_add, zI_mul] <;> rfl)) (by first | omega | decide) ?_
          refine r_al0 zi_235_127 rfl ?_
          refine q_getR zi_235_128 rfl cf_195_1 ?_
          refine r_push zi_235_131 rfl ?_
          refine r_alde zi_235_133 rfl 120 ca_196 (by first | rfl | (simp only [zI_add, zI_mul] <;> rfl)) (by first | omega | decide) (u := nI (t + 1)) (by first | exact zup_eq | ((repeat (first | rw [zup_ne (by first | decide | omega)] | rw [zup_nj (by first | decide | omega)] | rw [fil_ne (by first | decide | omega)])) <;> exact zup_eq) | (simp [up_rd, fil_rd]; exact zup_eq)) ?_
          refine r_retI zi_235_134 rfl ?_
          first | exact ⟨_, rfl, h1 τ hτ h3⟩ | (exfalso; omega)
      · subst e
        subst k9
        refine r_al0 zi_235_0 rfl ?_
        refine r_push zi_235_1 rfl ?_
        refine q_put zi_235_2 rfl cf_195_0 rfl ?_
        refine r_al0 zi_235_5 rfl ?_
        refine r_il1 zi_235_6 rfl ?_
        refine r_push zi_235_7 rfl ?_
        refine r_push zi_235_8 rfl ?_
        refine q_cIV zi_235_9 rfl rfl rfl rfl rfl rfl rfl cf_195_0.ob (s_isIn (fun _ _ => ?_) (fun z => absurd hw5 z))
        show zk _ _ 12 _ _ _ _
        refine r_if0 zi_235_12 rfl (fun c => absurd c (by decide)) (fun _ => ?_)
        refine r_al0 zi_235_15 rfl ?_
        refine r_il2 zi_235_16 rfl ?_
        refine q_cIV zi_235_17 rfl rfl rfl rfl rfl rfl rfl cf_195_0.ob (s_msubj (fun _ _ => ?_) (fun z => absurd hsr z))
        show zk _ _ 20 _ _ _ _
        refine r_if0 zi_235_20 rfl (fun c => absurd c (by decide)) (fun _ => ?_)
        refine r_al0 zi_235_23 rfl ?_
        refine r_il2 zi_235_24 rfl ?_
        refine q_cIV zi_235_25 rfl rfl rfl rfl rfl rfl rfl cf_195_0.ob (s_malive (by omega) (fun _ => ?_) (fun z => absurd hal z))
        show zk _ _ 28 _ _ _ _
        refine r_if0 zi_235_28 rfl (fun c => absurd c (by decide)) (fun _ => ?_)
        refine r_il1 zi_235_31 rfl ?_
        refine r_push zi_235_32 rfl ?_
        refine n_ic1 (i := w) (j := 5) zi_235_33 rfl (by omega) (by omega) (fun c4 => ?_) (fun c4 => ?_)
        · refine r_il1 zi_235_41 rfl ?_
          refine n_if1 (i := w) zi_235_42 rfl (by omega) (fun _ => ?_) (fun c => absurd c (by omega))
          refine r_al0 zi_235_53 rfl ?_
          refine q_getR zi_235_54 rfl cf_195_1 ?_
          refine r_push zi_235_57 rfl ?_
          refine r_alde zi_235_59 rfl 120 ca_196 (by first | rfl | (simp only [zI_add, zI_mul] <;> rfl)) (by first | omega | decide) (u := nI t) (by first | exact ht | ((repeat (first | rw [zup_ne (by first | decide | omega)] | rw [zup_nj (by first | decide | omega)] | rw [fil_ne (by first | decide | omega)])) <;> exact ht) | (simp [up_rd, fil_rd]; exact ht)) ?_
          refine r_push zi_235_60 rfl ?_
          refine n_ic1 (i := t) (j := 24) zi_235_62 rfl (by omega) (by omega) (fun _ => ?_) (fun c => absurd c (by omega))
          refine r_al0 zi_235_67 rfl ?_
          refine q_cVV zi_235_68 rfl rfl rfl rfl rfl rfl rfl cf_195_0.ob (s_ahead hn18 hV' hP' hc (fun τ hτ h3 => ?_))
          show zk _ _ 71 _ _ _ _
          refine r_al0 zi_235_71 rfl ?_
          refine q_getR zi_235_72 rfl cf_195_1 ?_
          refine r_push zi_235_75 rfl ?_
          refine r_al0 zi_235_77 rfl ?_
          refine q_getR zi_235_78 rfl cf_195_1 ?_
          refine r_push zi_235_81 rfl ?_
          refine r_alde zi_235_83 rfl 120 ca_196 (by first | rfl | (simp only [zI_add, zI_mul] <;> rfl)) (by first | omega | decide) (u := nI t) (by first | exact (et _ hτ) | ((repeat (first | rw [zup_ne (by first | decide | omega)] | rw [zup_nj (by first | decide | omega)] | rw [fil_ne (by first | decide | omega)])) <;> exact (et _ hτ)) | (simp [up_rd, fil_rd]; exact (et _ hτ))) ?_
          refine r_b0 zi_235_84 rfl ?_
          rw [show (121 + nI t : Int32) = nI (121 + t) from nI_add _ _]
          refine r_al0 zi_235_85 rfl ?_
          refine r_il1 zi_235_86 rfl ?_
          refine r_il1 zi_235_87 rfl ?_
          refine n_if1 (i := w) zi_235_88 rfl (by omega) (fun _ => ?_) (fun c => absurd c (by omega))
          refine r_push zi_235_95 rfl ?_
          refine r_il2 zi_235_96 rfl ?_
          refine r_il4 zi_235_97 rfl ?_
          refine r_if0 zi_235_99 rfl (fun c => absurd c (by decide)) (fun _ => ?_)
          refine r_push zi_235_102 rfl ?_
          refine r_goto zi_235_103 rfl ?_
          refine q_cIV zi_235_107 rfl rfl rfl rfl rfl rfl rfl cf_195_0.ob (s_orderOf (w := w) (a := 0) (s := s) (g := 1) ?_)
          show zk _ _ 110 _ _ _ _
          refine r_ast zi_235_110 rfl (121 + t) ca_196 (by first | rfl | (simp only [zI_add, zI_mul] <;> rfl)) (by first | omega | decide) ?_
          refine r_al0 zi_235_111 rfl ?_
          refine q_getR zi_235_112 rfl cf_195_1 ?_
          refine r_push zi_235_115 rfl ?_
          refine r_al0 zi_235_117 rfl ?_
          refine q_getR zi_235_118 rfl cf_195_1 ?_
          refine r_push zi_235_121 rfl ?_
          refine r_alde zi_235_123 rfl 120 ca_196 (by first | rfl | (simp only [zI_add, zI_mul] <;> rfl)) (by first | omega | decide) (u := nI t) (by first | exact ((zup_n2 (by omega)).trans (et _ hτ)) | ((repeat (first | rw [zup_ne (by first | decide | omega)] | rw [zup_nj (by first | decide | omega)] | rw [fil_ne (by first | decide | omega)])) <;> exact ((zup_n2 (by omega)).trans (et _ hτ))) | (simp [up_rd, fil_rd]; exact ((zup_n2 (by omega)).trans (et _ hτ)))) ?_
          refine r_push zi_235_124 rfl ?_
          refine r_b0 zi_235_125 rfl ?_
          rw [show (nI t + 1 : Int32) = nI (t + 1) from nI_add _ _]
          refine r_ast zi_235_126 rfl 120 ca_196 (by first | rfl | (simp only [zI_add, zI_mul] <;> rfl)) (by first | omega | decide) ?_
          refine r_al0 zi_235_127 rfl ?_
          refine q_getR zi_235_128 rfl cf_195_1 ?_
          refine r_push zi_235_131 rfl ?_
          refine r_alde zi_235_133 rfl 120 ca_196 (by first | rfl | (simp only [zI_add, zI_mul] <;> rfl)) (by first | omega | decide) (u := nI (t + 1)) (by first | exact zup_eq | ((repeat (first | rw [zup_ne (by first | decide | omega)] | rw [zup_nj (by first | decide | omega)] | rw [fil_ne (by first | decide | omega)])) <;> exact zup_eq) | (simp [up_rd, fil_rd]; exact zup_eq)) ?_
          refine r_retI zi_235_134 rfl ?_
          first | exact ⟨_, rfl, h1 τ hτ h3⟩ | (exfalso; omega)
        · refine r_il4 zi_235_36 rfl ?_
          refine r_if1 zi_235_38 rfl (fun _ => ?_) (fun c => absurd c (by decide))
          refine r_push zi_235_65 rfl ?_
          refine r_retI zi_235_66 rfl ?_
          first | exact ⟨_, rfl, h1 τ hτ h3⟩ | (exfalso; omega)
  · replace h0 := h0 hk
    clear h1
    have hsu : ∀ (Q2 : Int32 → zS → Prop), ((∃ s, s < n ∧ who = nI s) → Q2 1 (up σ 195 0 0)) → (¬ (∃ s, s < n ∧ who = nI s) → Q2 0 (up σ 195 0 0)) → zI1 d 178 [.ref 195, .int who] (up σ 195 0 0) Q2 := fun Q2 q1 q0 => s_msubj (fun a b => q1 (by rw [hsub] at b; exact zI_of a b (by omega))) (fun z => q0 (fun ⟨s, hs, e⟩ => z (by rw [hsub, e]; exact ⟨nI_z (by omega), nI_lt hs (by omega)⟩)))
    have hlv : ∀ (Q2 : Int32 → zS → Prop), (∃ s, s < n ∧ who = nI s) → ((∃ s, s < n ∧ who = nI s ∧ V 6 s = 1) → Q2 1 (up σ 195 0 0)) → (¬ (∃ s, s < n ∧ who = nI s ∧ V 6 s = 1) → Q2 0 (up σ 195 0 0)) → zI1 d 179 [.ref 195, .int who] (up σ 195 0 0) Q2 := fun Q2 hx q1 q0 => by
      obtain ⟨s, hs, e⟩ := hx
      subst e
      refine s_malive (by omega) (fun z => q1 ⟨s, hs, rfl, ?_⟩) (fun z => q0 (fun ⟨s2, h2, e2, a2⟩ => z ?_))
      · rw [e6 s hs] at z
        by_cases y : V 6 s = 1
        · exact y
        · rw [if_neg y] at z; exact absurd z (by decide)
      · have := nI_j e2 rfl (by omega) (by omega)
        rw [e6 s hs, this, if_pos a2]
    refine r_al0 zi_235_0 rfl ?_
    refine r_push zi_235_1 rfl ?_
    refine q_put zi_235_2 rfl cf_195_0 rfl ?_
    refine r_al0 zi_235_5 rfl ?_
    refine r_il1 zi_235_6 rfl ?_
    refine r_push zi_235_7 rfl ?_
    refine r_push zi_235_8 rfl ?_
    refine q_cIV zi_235_9 rfl rfl rfl rfl rfl rfl rfl cf_195_0.ob (s_isIn (fun i1 a1 => ?_) (fun i1 => ?_))
    · show zk _ _ 12 _ _ _ _
      refine r_if0 zi_235_12 rfl (fun c => absurd c (by decide)) (fun _ => ?_)
      refine r_al0 zi_235_15 rfl ?_
      refine r_il2 zi_235_16 rfl ?_
      refine q_cIV zi_235_17 rfl rfl rfl rfl rfl rfl rfl cf_195_0.ob (hsu _ (fun i2 => ?_) (fun i2 => ?_))
      · show zk _ _ 20 _ _ _ _
        refine r_if0 zi_235_20 rfl (fun c => absurd c (by decide)) (fun _ => ?_)
        refine r_al0 zi_235_23 rfl ?_
        refine r_il2 zi_235_24 rfl ?_
        refine q_cIV zi_235_25 rfl rfl rfl rfl rfl rfl rfl cf_195_0.ob (hlv _ (by assumption) (fun i3 => ?_) (fun i3 => ?_))
        · show zk _ _ 28 _ _ _ _
          refine r_if0 zi_235_28 rfl (fun c => absurd c (by decide)) (fun _ => ?_)
          refine r_il1 zi_235_31 rfl ?_
          refine r_push zi_235_32 rfl ?_
          refine r_ic1 zi_235_33 rfl (fun c4 => ?_) (fun c4 => ?_)
          · refine r_il1 zi_235_41 rfl ?_
            refine r_if1 zi_235_42 rfl (fun c5 => ?_) (fun c5 => ?_)
            · refine r_al0 zi_235_53 rfl ?_
              refine q_getR zi_235_54 rfl cf_195_1 ?_
              refine r_push zi_235_57 rfl ?_
              refine r_alde zi_235_59 rfl 120 ca_196 (by first | rfl | (simp only [zI_add, zI_mul] <;> rfl)) (by first | omega | decide) (u := nI t) (by first | exact ht | ((repeat (first | rw [zup_ne (by first | decide | omega)] | rw [zup_nj (by first | decide | omega)] | rw [fil_ne (by first | decide | omega)])) <;> exact ht) | (simp [up_rd, fil_rd]; exact ht)) ?_
              refine r_push zi_235_60 rfl ?_
              refine n_ic1 (i := t) (j := 24) zi_235_62 rfl (by omega) (by omega) (fun c6 => ?_) (fun c6 => ?_)
              · exact absurd ⟨by assumption, by assumption, by assumption, fun z => by first | exact ⟨by assumption, by assumption⟩ | (exact absurd z (by assumption)), fun z => by first | assumption | (exact absurd z (by assumption)), by omega⟩ hk
              · refine r_push zi_235_65 rfl ?_
                refine r_retI zi_235_66 rfl ?_
                exact ⟨_, rfl, h0⟩
            · refine r_al0 zi_235_45 rfl ?_
              refine r_il3 zi_235_46 rfl ?_
              refine q_cIV zi_235_47 rfl rfl rfl rfl rfl rfl rfl cf_195_0.ob (s_mplace (fun i7 a7 => ?_) (fun i7 => ?_))
              · show zk _ _ 50 _ _ _ _
                refine r_if0 zi_235_50 rfl (fun c => absurd c (by decide)) (fun _ => ?_)
                refine r_al0 zi_235_53 rfl ?_
                refine q_getR zi_235_54 rfl cf_195_1 ?_
                refine r_push zi_235_57 rfl ?_
                refine r_alde zi_235_59 rfl 120 ca_196 (by first | rfl | (simp only [zI_add, zI_mul] <;> rfl)) (by first | omega | decide) (u := nI t) (by first | exact ht | ((repeat (first | rw [zup_ne (by first | decide | omega)] | rw [zup_nj (by first | decide | omega)] | rw [fil_ne (by first | decide | omega)])) <;> exact ht) | (simp [up_rd, fil_rd]; exact ht)) ?_
                refine r_push zi_235_60 rfl ?_
                refine n_ic1 (i := t) (j := 24) zi_235_62 rfl (by omega) (by omega) (fun c8 => ?_) (fun c8 => ?_)
                · exact absurd ⟨by assumption, by assumption, by assumption, fun z => by first | exact ⟨by assumption, by assumption⟩ | (exact absurd z (by assumption)), fun z => by first | assumption | (exact absurd z (by assumption)), by omega⟩ hk
                · refine r_push zi_235_65 rfl ?_
                  refine r_retI zi_235_66 rfl ?_
                  exact ⟨_, rfl, h0⟩
              · show zk _ _ 50 _ _ _ _
                refine r_if0 zi_235_50 rfl (fun _ => ?_) (fun c => absurd (by decide) c)
                refine r_push zi_235_65 rfl ?_
                refine r_retI zi_235_66 rfl ?_
                exact ⟨_, rfl, h0⟩
          · refine r_il4 zi_235_36 rfl ?_
            refine r_if1 zi_235_38 rfl (fun c9 => ?_) (fun c9 => ?_)
            · refine r_push zi_235_65 rfl ?_
              refine r_retI zi_235_66 rfl ?_
              exact ⟨_, rfl, h0⟩
            · refine r_il1 zi_235_41 rfl ?_
              refine r_if1 zi_235_42 rfl (fun c10 => ?_) (fun c10 => ?_)
              · refine r_al0 zi_235_53 rfl ?_
                refine q_getR zi_235_54 rfl cf_195_1 ?_
                refine r_push zi_235_57 rfl ?_
                refine r_alde zi_235_59 rfl 120 ca_196 (by first | rfl | (simp only [zI_add, zI_mul] <;> rfl)) (by first | omega | decide) (u := nI t) (by first | exact ht | ((repeat (first | rw [zup_ne (by first | decide | omega)] | rw [zup_nj (by first | decide | omega)] | rw [fil_ne (by first | decide | omega)])) <;> exact ht) | (simp [up_rd, fil_rd]; exact ht)) ?_
                refine r_push zi_235_60 rfl ?_
                refine n_ic1 (i := t) (j := 24) zi_235_62 rfl (by omega) (by omega) (fun c11 => ?_) (fun c11 => ?_)
                · exact absurd ⟨by assumption, by assumption, by assumption, fun z => by first | exact ⟨by assumption, by assumption⟩ | (exact absurd z (by assumption)), fun z => by first | assumption | (exact absurd z (by assumption)), by omega⟩ hk
                · refine r_push zi_235_65 rfl ?_
                  refine r_retI zi_235_66 rfl ?_
                  exact ⟨_, rfl, h0⟩
              · refine r_al0 zi_235_45 rfl ?_
                refine r_il3 zi_235_46 rfl ?_
                refine q_cIV zi_235_47 rfl rfl rfl rfl rfl rfl rfl cf_195_0.ob (s_mplace (fun i12 a12 => ?_) (fun i12 => ?_))
                · show zk _ _ 50 _ _ _ _
                  refine r_if0 zi_235_50 rfl (fun c => absurd c (by decide)) (fun _ => ?_)
                  refine r_al0 zi_235_53 rfl ?_
                  refine q_getR zi_235_54 rfl cf_195_1 ?_
                  refine r_push zi_235_57 rfl ?_
                  refine r_alde zi_235_59 rfl 120 ca_196 (by first | rfl | (simp only [zI_add, zI_mul] <;> rfl)) (by first | omega | decide) (u := nI t) (by first | exact ht | ((repeat (first | rw [zup_ne (by first | decide | omega)] | rw [zup_nj (by first | decide | omega)] | rw [fil_ne (by first | decide | omega)])) <;> exact ht) | (simp [up_rd, fil_rd]; exact ht)) ?_
                  refine r_push zi_235_60 rfl ?_
                  refine n_ic1 (i := t) (j := 24) zi_235_62 rfl (by omega) (by omega) (fun c13 => ?_) (fun c13 => ?_)
                  · exact absurd ⟨by assumption, by assumption, by assumption, fun z => by first | exact ⟨by assumption, by assumption⟩ | (exact absurd z (by assumption)), fun z => by first | assumption | (exact absurd z (by assumption)), by omega⟩ hk
                  · refine r_push zi_235_65 rfl ?_
                    refine r_retI zi_235_66 rfl ?_
                    exact ⟨_, rfl, h0⟩
                · show zk _ _ 50 _ _ _ _
                  refine r_if0 zi_235_50 rfl (fun _ => ?_) (fun c => absurd (by decide) c)
                  refine r_push zi_235_65 rfl ?_
                  refine r_retI zi_235_66 rfl ?_
                  exact ⟨_, rfl, h0⟩
        · show zk _ _ 28 _ _ _ _
          refine r_if0 zi_235_28 rfl (fun _ => ?_) (fun c => absurd (by decide) c)
          refine r_push zi_235_65 rfl ?_
          refine r_retI zi_235_66 rfl ?_
          exact ⟨_, rfl, h0⟩
      · show zk _ _ 20 _ _ _ _
        refine r_if0 zi_235_20 rfl (fun _ => ?_) (fun c => absurd (by decide) c)
        refine r_push zi_235_65 rfl ?_
        refine r_retI zi_235_66 rfl ?_
        exact ⟨_, rfl, h0⟩
    · show zk _ _ 12 _ _ _ _
      refine r_if0 zi_235_12 rfl (fun _ => ?_) (fun c => absurd (by decide) c)
      refine r_push zi_235_65 rfl ?_
      refine r_retI zi_235_66 rfl ?_
      exact ⟨_, rfl, h0⟩
theorem c_order {what who wr g : Int32} (hgg : g = 0 ∨ g = 1) : zPr 124 235 [.int what, .int who, .int wr, .int g] := fun σ hI => by
  obtain ⟨n, V, hD, h2, h3, h4, h5, h6, h7, h8, h9⟩ := id hI
  obtain ⟨hV, hm, hg, hz, hs, h50, hx⟩ := id hD
  have hn18 := hg.2.1
  obtain ⟨c, la, H, c6, l6, hc, hmP, hgP⟩ := vP_e h8
  obtain ⟨t, ht24, ht, _⟩ := id hg.2.2.2.2.2.1
  refine s_kgives (d := 8) hgg hV hg ht ht24 hc c6 l6 (fun w s a gg hN τ hτ hcp => ?_) (fun z => ?_)
  · have f1 : ∀ a2 b, a2 ≠ 12 → ¬ (a2 = 2 ∧ b = 12) → a2 < 97 ∨ 168 < a2 → ¬ (a2 = 95 ∧ (b = 1 ∨ b = 2)) → up (up τ 12 t (pok1 w s a gg)) 2 12 (nI (t + 1)) a2 b = σ a2 b := fun a2 b g0 g1 g2 g3 => (zup_n2 (by omega)).trans ((zup_n2 (by omega)).trans (hτ a2 b g2 g3))
    refine s_mgives (d := 9) hgg ((f1 195 6 (by omega) (by omega) (by omega) (by omega)).trans hs) (zVm_a hn18 hm (fun a b h => f1 a b (by omega) (by omega) (by omega) (by omega))) hg ht ht24 (mP_f hn18 hmP (fun a b h => f1 a b (by omega) (by omega) (by omega) (by omega))) c6 (fun w' s' a' gg' hN' υ hυ hmp => ?_) (fun y => absurd (orN_ok hn18 hN) y)
    obtain ⟨q1, q2, q3, q4⟩ := orN_u hn18 hN hN'
    subst q1 q2 q3 q4
    obtain ⟨k1, k2, k3, k4, k5, k6, k7, k8, k9, k10, k11, k12⟩ := id hN
    have hom : zOm n (pok1 w' s' a' gg') (nI (w' + 10 * a' + 200 * s' + 4000 * gg')) := ⟨w', a', s', gg', k1, k3, k2, k4, k10, rfl, rfl⟩
    have hg' : zVg (up (up V 9 t (pok1 w' s' a' gg')) 11 12 (nI (t + 1))) n := by
      have hd := dGv_g hg (zOm_g hom)
      unfold dGv at hd
      rw [ht, if_neg (fun z => by have := nI_j (b := t) (a := 24) z rfl (by omega) (by omega); omega), un_nI (by omega), show nI t + 1 = nI (t + 1) from (nI_add t 1)] at hd
      exact hd
    have fu : ∀ a2 b, a2 ≠ 196 → a2 ≠ 197 → ¬ (a2 = 195 ∧ (b = 0 ∨ b = 3)) → up (up υ 196 (121 + t) (nI (w' + 10 * a' + 200 * s' + 4000 * gg'))) 196 120 (nI (t + 1)) a2 b = up (up τ 12 t (pok1 w' s' a' gg')) 2 12 (nI (t + 1)) a2 b := fun a2 b g1 g2 g3 => (zup_n2 (by omega)).trans ((zup_n2 (by omega)).trans ((hυ a2 b (by omega) (by omega)).trans (zup_n2 (by omega))))
    refine ⟨rfl, INV_W (V' := up (up V 9 t (pok1 w' s' a' gg')) 11 12 (nI (t + 1))) hI hD ⟨?_, ?_, hg', fun s g1 g2 => ?_, ?_, ?_, vX_x hx (fun j i h => (zup_n2 (by omega)).trans (zup_n2 (by omega)))⟩ ?_ (fun a b g1 g2 g3 g4 g5 g6 g7 => ?_)⟩
    · exact zVk_g (zVk_f zKk2 (zVk_a zKk2 (zVk_g hV (fun a b g1 g2 => hτ a b (by omega) (by omega))) (j := 9) (i := t) (v := pok1 w' s' a' gg') (by omega)) (f := 12) (v := nI (t + 1)) (by omega) (by omega)) (fun a b g1 g2 => fu a b (by omega) (by omega) (by omega))
    · exact zVm_gv hn18 (zVm_a hn18 hm (fun a b h => (hυ a b (by omega) (by omega)).trans ((zup_n2 (by omega)).trans (f1 a b (by omega) (by omega) (by omega) (by omega))))) ht k12 hom
    · rw [zup_n2 (by omega), zup_n2 (by omega), zup_n2 (by omega), zup_n2 (by omega)]; exact hz s g1 g2
    · rw [fu 195 6 (by omega) (by omega) (by omega), f1 195 6 (by omega) (by omega) (by omega) (by omega)]; exact hs
    · rw [fu 195 5 (by omega) (by omega) (by omega), f1 195 5 (by omega) (by omega) (by omega) (by omega)]; exact h50
    · exact vP_i (by omega) (Nat.mod_lt _ (by decide)) (cP_f hcp (fun a b g => (fu a b (by omega) (by omega) (by omega)).trans ((zup_n2 (by omega)).trans (zup_n2 (by omega))))) (mP_f hn18 hmp (fun a b g => (zup_n2 (by omega)).trans (zup_n2 (by omega)))) (gP_c hgP hg hz hx)
    · rw [fu a b (by omega) (by omega) (by unfold sc at g1; omega), f1 a b (by omega) (by omega) (by omega) (by omega)]
  · exact s_mgives (d := 9) hgg hs hm hg ht ht24 hmP c6 (fun w' s' a' gg' hN' υ hυ hmp => absurd (orN_ok hn18 hN') z) (fun y => zPr_i hI sc_u)

