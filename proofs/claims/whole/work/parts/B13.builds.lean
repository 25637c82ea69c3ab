theorem zVk_g {σ τ V : zS} (h : zVk σ 2 false V) (e : ∀ a b, 2 ≤ a → a ≤ 14 → τ a b = σ a b) : zVk τ 2 false V := ⟨fun j hj i => (e _ i (by omega) (by omega)).trans (h.1 j hj i), fun f g1 g2 => (e 2 f (by omega) (by omega)).trans (h.2.1 f g1 g2), fun ht i => (e 14 i (by omega) (by omega)).trans (h.2.2 ht i)⟩
theorem zVm_a {σ τ V : zS} {n : Nat} {th : Bool} (hn : n ≤ 18) (h : zVm σ V n th) (e : ∀ a b, a = 196 ∨ a = 199 ∨ a = 200 ∨ a = 201 → τ a b = σ a b) : zVm τ V n th := zVm_g hn h (fun b _ => e 196 b (by omega)) (fun b _ => e 199 b (by omega)) (fun b _ => e 200 b (by omega)) (fun _ b _ => e 201 b (by omega))
/-- what the past's keeping leaves -/
abbrev kpF (σ τ : zS) : Prop := ∀ a b, a < 97 ∨ 168 < a → ¬ (a = 95 ∧ (b = 1 ∨ b = 2)) → τ a b = σ a b
abbrev maF (σ τ : zS) : Prop := ∀ a b, a ≠ 197 → ¬ (a = 195 ∧ b = 3) → τ a b = σ a b
theorem s_kbuilds {d c la : Nat} {σ V : zS} {H : Nat → zS} {Q : Int32 → zS → Prop} {v : Int32} (hV : zVk σ 2 false V) (hP : cP σ c la H) (hc : c ≤ 6) (hl : la < 6) (h1 : ∀ p, p < 12 → v = nI p → V 2 p < 99 → ∀ τ, kpF σ τ → cP τ (min 6 (c + 1)) ((la + 1) % 6) (hcons V H) → Q (V 2 p + 1) (up τ 5 p (V 2 p + 1))) (h0 : ¬ (0 ≤ v ∧ v < 12) → Q (-1) σ) (h2 : ∀ p, p < 12 → v = nI p → ¬ V 2 p < 99 → Q (-1) σ) : zI1 (d + 2) 125 [.ref 0, .int v] σ Q := by
  show zk _ _ 0 [.ref 0, .int v, zun] [] _ _
  by_cases hp : 0 ≤ v ∧ v < 12
  · obtain ⟨p, hq, e⟩ := zI_of (n := 12) hp.1 hp.2 (by omega)
    replace h1 := h1 p hq e
    replace h2 := h2 p hq e
    clear h0
    subst e
    have e5 : σ 5 p = V 2 p := hV.1 2 (by omega) p
    have e5' : ∀ τ, kpF σ τ → τ 5 p = V 2 p := fun τ h => (h 5 p (by omega) (by omega)).trans e5
    by_cases hw : V 2 p < 99
    · replace h1 := h1 hw
      refine r_al0 zi_125_0 rfl ?_
      refine q_getR zi_125_1 rfl cf_0_0 ?_
      refine q_getR zi_125_4 rfl cf_1_0 ?_
      refine r_as2 zi_125_7 rfl ?_
      refine r_il1 zi_125_8 rfl ?_
      refine r_cIS zi_125_9 rfl rfl rfl rfl rfl rfl (s_kplace (fun _ _ => ?_) (fun z => absurd hp z))
      show zk _ _ 12 _ _ _ _
      refine r_if0 zi_125_12 rfl (fun c => absurd c (by decide)) (fun _ => ?_)
      refine r_al2 zi_125_15 rfl ?_
      refine q_getR zi_125_16 rfl cf_2_2 ?_
      refine r_il1 zi_125_19 rfl ?_
      refine r_alde zi_125_20 rfl p ca_5 (by first | rfl | (simp only [zI_add, zI_mul] <;> rfl)) (by first | omega | decide) (u := V 2 p) (by first | exact e5 | ((repeat (first | rw [zup_ne (by first | decide | omega)] | rw [zup_nj (by first | decide | omega)] | rw [fil_ne (by first | decide | omega)])) <;> exact e5) | (simp [up_rd, fil_rd]; exact e5)) ?_
      refine r_push zi_125_21 rfl ?_
      refine r_ic2 zi_125_23 rfl (fun _ => ?_) (fun c => absurd hw c)
      refine r_al0 zi_125_28 rfl ?_
      refine q_getR zi_125_29 rfl cf_0_6 ?_
      refine r_al2 zi_125_32 rfl ?_
      refine q_cVV zi_125_33 rfl rfl rfl rfl rfl rfl rfl cf_95_0.ob (s_keep hV hP hc hl (fun τ hτ h3 => ?_))
      show zk _ _ 36 _ _ _ _
      refine r_al2 zi_125_36 rfl ?_
      refine q_getR zi_125_37 rfl cf_2_2 ?_
      refine r_il1 zi_125_40 rfl ?_
      refine r_dup2 zi_125_41 rfl ?_
      refine r_alde zi_125_42 rfl p ca_5 (by first | rfl | (simp only [zI_add, zI_mul] <;> rfl)) (by first | omega | decide) (u := V 2 p) (by first | exact (e5' _ hτ) | ((repeat (first | rw [zup_ne (by first | decide | omega)] | rw [zup_nj (by first | decide | omega)] | rw [fil_ne (by first | decide | omega)])) <;> exact (e5' _ hτ)) | (simp [up_rd, fil_rd]; exact (e5' _ hτ))) ?_
      refine r_push zi_125_43 rfl ?_
      refine r_b0 zi_125_44 rfl ?_
      refine r_ast zi_125_45 rfl p ca_5 (by first | rfl | (simp only [zI_add, zI_mul] <;> rfl)) (by first | omega | decide) ?_
      refine r_al2 zi_125_46 rfl ?_
      refine q_getR zi_125_47 rfl cf_2_2 ?_
      refine r_il1 zi_125_50 rfl ?_
      refine r_alde zi_125_51 rfl p ca_5 (by first | rfl | (simp only [zI_add, zI_mul] <;> rfl)) (by first | omega | decide) (u := V 2 p + 1) (by first | exact zup_eq | ((repeat (first | rw [zup_ne (by first | decide | omega)] | rw [zup_nj (by first | decide | omega)] | rw [fil_ne (by first | decide | omega)])) <;> exact zup_eq) | (simp [up_rd, fil_rd]; exact zup_eq)) ?_
      refine r_retI zi_125_52 rfl ?_
      exact ⟨_, rfl, h1 τ hτ h3⟩
    · replace h2 := h2 hw
      refine r_al0 zi_125_0 rfl ?_
      refine q_getR zi_125_1 rfl cf_0_0 ?_
      refine q_getR zi_125_4 rfl cf_1_0 ?_
      refine r_as2 zi_125_7 rfl ?_
      refine r_il1 zi_125_8 rfl ?_
      refine r_cIS zi_125_9 rfl rfl rfl rfl rfl rfl (s_kplace (fun _ _ => ?_) (fun z => absurd hp z))
      show zk _ _ 12 _ _ _ _
      refine r_if0 zi_125_12 rfl (fun c => absurd c (by decide)) (fun _ => ?_)
      refine r_al2 zi_125_15 rfl ?_
      refine q_getR zi_125_16 rfl cf_2_2 ?_
      refine r_il1 zi_125_19 rfl ?_
      refine r_alde zi_125_20 rfl p ca_5 (by first | rfl | (simp only [zI_add, zI_mul] <;> rfl)) (by first | omega | decide) (u := V 2 p) (by first | exact e5 | ((repeat (first | rw [zup_ne (by first | decide | omega)] | rw [zup_nj (by first | decide | omega)] | rw [fil_ne (by first | decide | omega)])) <;> exact e5) | (simp [up_rd, fil_rd]; exact e5)) ?_
      refine r_push zi_125_21 rfl ?_
      refine r_ic2 zi_125_23 rfl (fun c => absurd c hw) (fun _ => ?_)
      refine r_push zi_125_26 rfl ?_
      refine r_retI zi_125_27 rfl ?_
      exact ⟨_, rfl, h2⟩
  · have h0 := h0 hp
    refine r_al0 zi_125_0 rfl ?_
    refine q_getR zi_125_1 rfl cf_0_0 ?_
    refine q_getR zi_125_4 rfl cf_1_0 ?_
    refine r_as2 zi_125_7 rfl ?_
    refine r_il1 zi_125_8 rfl ?_
    refine r_cIS zi_125_9 rfl rfl rfl rfl rfl rfl (s_kplace (fun a b => absurd ⟨a, b⟩ hp) (fun _ => ?_))
    show zk _ _ 12 _ _ _ _
    refine r_if0 zi_125_12 rfl (fun _ => ?_) (fun c => absurd (by decide) c)
    refine r_push zi_125_26 rfl ?_
    refine r_retI zi_125_27 rfl ?_
    exact ⟨_, rfl, h0⟩
theorem s_mbuilds {d n c : Nat} {σ V : zS} {H : Nat → zS} {Q : Int32 → zS → Prop} {v : Int32} (hn : n ≤ 18) (hV : zVm σ V n false) (hP : mP σ n c H) (hc : c ≤ 6) (h1 : ∀ p, p < 12 → v = nI p → ¬ V 2 p = 99 → ∀ τ, maF (up σ 195 0 0) τ → mP τ n (min 6 (c + 1)) (hcons V H) → Q (V 2 p + 1) (up τ 196 (18 + p) (V 2 p + 1))) (h0 : ¬ (0 ≤ v ∧ v < 12) → Q (-1) (up σ 195 0 0)) (h2 : ∀ p, p < 12 → v = nI p → V 2 p = 99 → Q (-1) (up σ 195 0 0)) : zI1 (d + 1) 236 [.ref 195, .int v] σ Q := by
  have hV' : zVm (up σ 195 0 0) V n false := zVm_a hn hV (fun a b h => zup_n2 (by omega))
  have hP' : mP (up σ 195 0 0) n c H := mP_f hn hP (fun a b h => zup_n2 (by omega))
  show zk _ _ 0 [.ref 195, .int v] [] _ _
  by_cases hp : 0 ≤ v ∧ v < 12
  · obtain ⟨p, hq, e⟩ := zI_of (n := 12) hp.1 hp.2 (by omega)
    replace h1 := h1 p hq e
    replace h2 := h2 p hq e
    clear h0
    subst e
    have e5 : up σ 195 0 0 196 (18 + p) = V 2 p := (hV'.2.1 p hq).2.1
    have e5' : ∀ τ, maF (up σ 195 0 0) τ → τ 196 (18 + p) = V 2 p := fun τ h => (h 196 _ (by omega) (by omega)).trans e5
    by_cases hw : V 2 p = 99
    · replace h2 := h2 hw
      refine r_al0 zi_236_0 rfl ?_
      refine r_push zi_236_1 rfl ?_
      refine q_put zi_236_2 rfl cf_195_0 rfl ?_
      refine r_al0 zi_236_5 rfl ?_
      refine r_il1 zi_236_6 rfl ?_
      refine q_cIV zi_236_7 rfl rfl rfl rfl rfl rfl rfl cf_195_0.ob (s_mplace (fun _ _ => ?_) (fun z => absurd hp z))
      show zk _ _ 10 _ _ _ _
      refine r_if0 zi_236_10 rfl (fun c => absurd c (by decide)) (fun _ => ?_)
      refine r_al0 zi_236_13 rfl ?_
      refine q_getR zi_236_14 rfl cf_195_1 ?_
      refine r_push zi_236_17 rfl ?_
      refine r_il1 zi_236_19 rfl ?_
      refine r_b0 zi_236_20 rfl ?_
      rw [show (18 + nI p : Int32) = nI (18 + p) from nI_add _ _]
      refine r_alde zi_236_21 rfl (18 + p) ca_196 (by first | rfl | (simp only [zI_add, zI_mul] <;> rfl)) (by first | omega | decide) (u := V 2 p) (by first | exact e5 | ((repeat (first | rw [zup_ne (by first | decide | omega)] | rw [zup_nj (by first | decide | omega)] | rw [fil_ne (by first | decide | omega)])) <;> exact e5) | (simp [up_rd, fil_rd]; exact e5)) ?_
      refine r_push zi_236_22 rfl ?_
      refine r_ic1 zi_236_24 rfl (fun c => absurd hw c) (fun _ => ?_)
      refine r_push zi_236_27 rfl ?_
      refine r_retI zi_236_28 rfl ?_
      exact ⟨_, rfl, h2⟩
    · replace h1 := h1 hw
      refine r_al0 zi_236_0 rfl ?_
      refine r_push zi_236_1 rfl ?_
      refine q_put zi_236_2 rfl cf_195_0 rfl ?_
      refine r_al0 zi_236_5 rfl ?_
      refine r_il1 zi_236_6 rfl ?_
      refine q_cIV zi_236_7 rfl rfl rfl rfl rfl rfl rfl cf_195_0.ob (s_mplace (fun _ _ => ?_) (fun z => absurd hp z))
      show zk _ _ 10 _ _ _ _
      refine r_if0 zi_236_10 rfl (fun c => absurd c (by decide)) (fun _ => ?_)
      refine r_al0 zi_236_13 rfl ?_
      refine q_getR zi_236_14 rfl cf_195_1 ?_
      refine r_push zi_236_17 rfl ?_
      refine r_il1 zi_236_19 rfl ?_
      refine r_b0 zi_236_20 rfl ?_
      rw [show (18 + nI p : Int32) = nI (18 + p) from nI_add _ _]
      refine r_alde zi_236_21 rfl (18 + p) ca_196 (by first | rfl | (simp only [zI_add, zI_mul] <;> rfl)) (by first | omega | decide) (u := V 2 p) (by first | exact e5 | ((repeat (first | rw [zup_ne (by first | decide | omega)] | rw [zup_nj (by first | decide | omega)] | rw [fil_ne (by first | decide | omega)])) <;> exact e5) | (simp [up_rd, fil_rd]; exact e5)) ?_
      refine r_push zi_236_22 rfl ?_
      refine r_ic1 zi_236_24 rfl (fun _ => ?_) (fun c => absurd c hw)
      refine r_al0 zi_236_29 rfl ?_
      refine q_cVV zi_236_30 rfl rfl rfl rfl rfl rfl rfl cf_195_0.ob (s_ahead hn hV' hP' hc (fun τ hτ h3 => ?_))
      show zk _ _ 33 _ _ _ _
      refine r_al0 zi_236_33 rfl ?_
      refine q_getR zi_236_34 rfl cf_195_1 ?_
      refine r_push zi_236_37 rfl ?_
      refine r_il1 zi_236_39 rfl ?_
      refine r_b0 zi_236_40 rfl ?_
      rw [show (18 + nI p : Int32) = nI (18 + p) from nI_add _ _]
      refine r_al0 zi_236_41 rfl ?_
      refine q_getR zi_236_42 rfl cf_195_1 ?_
      refine r_push zi_236_45 rfl ?_
      refine r_il1 zi_236_47 rfl ?_
      refine r_b0 zi_236_48 rfl ?_
      rw [show (18 + nI p : Int32) = nI (18 + p) from nI_add _ _]
      refine r_alde zi_236_49 rfl (18 + p) ca_196 (by first | rfl | (simp only [zI_add, zI_mul] <;> rfl)) (by first | omega | decide) (u := V 2 p) (by first | exact (e5' _ hτ) | ((repeat (first | rw [zup_ne (by first | decide | omega)] | rw [zup_nj (by first | decide | omega)] | rw [fil_ne (by first | decide | omega)])) <;> exact (e5' _ hτ)) | (simp [up_rd, fil_rd]; exact (e5' _ hτ))) ?_
      refine r_push zi_236_50 rfl ?_
      refine r_b0 zi_236_51 rfl ?_
      refine r_ast zi_236_52 rfl (18 + p) ca_196 (by first | rfl | (simp only [zI_add, zI_mul] <;> rfl)) (by first | omega | decide) ?_
      refine r_al0 zi_236_53 rfl ?_
      refine q_getR zi_236_54 rfl cf_195_1 ?_
      refine r_push zi_236_57 rfl ?_
      refine r_il1 zi_236_59 rfl ?_
      refine r_b0 zi_236_60 rfl ?_
      rw [show (18 + nI p : Int32) = nI (18 + p) from nI_add _ _]
      refine r_alde zi_236_61 rfl (18 + p) ca_196 (by first | rfl | (simp only [zI_add, zI_mul] <;> rfl)) (by first | omega | decide) (u := V 2 p + 1) (by first | exact zup_eq | ((repeat (first | rw [zup_ne (by first | decide | omega)] | rw [zup_nj (by first | decide | omega)] | rw [fil_ne (by first | decide | omega)])) <;> exact zup_eq) | (simp [up_rd, fil_rd]; exact zup_eq)) ?_
      refine r_retI zi_236_62 rfl ?_
      exact ⟨_, rfl, h1 τ hτ h3⟩
  · have h0 := h0 hp
    refine r_al0 zi_236_0 rfl ?_
    refine r_push zi_236_1 rfl ?_
    refine q_put zi_236_2 rfl cf_195_0 rfl ?_
    refine r_al0 zi_236_5 rfl ?_
    refine r_il1 zi_236_6 rfl ?_
    refine q_cIV zi_236_7 rfl rfl rfl rfl rfl rfl rfl cf_195_0.ob (s_mplace (fun a b => absurd ⟨a, b⟩ hp) (fun _ => ?_))
    show zk _ _ 10 _ _ _ _
    refine r_if0 zi_236_10 rfl (fun _ => ?_) (fun c => absurd (by decide) c)
    refine r_push zi_236_27 rfl ?_
    refine r_retI zi_236_28 rfl ?_
    exact ⟨_, rfl, h0⟩
theorem c_builds {v : Int32} : zPr 125 236 [.int v] := fun σ hI => by
  obtain ⟨n, V, hD, h2, h3, h4, h5, h6, h7, h8, h9⟩ := id hI
  obtain ⟨hV, hm, hg, hz, hs, h50, hx⟩ := id hD
  have hn18 := hg.2.1
  obtain ⟨c, la, H, c6, l6, hc, hmP, hgP⟩ := vP_e h8
  have hin : ∀ p, p < 12 → v = nI p → 0 ≤ v ∧ v < 12 := fun p hp e => by rw [e]; exact ⟨nI_z (by omega), nI_lt (b := 12) hp (by omega)⟩
  refine s_kbuilds (d := 8) hV hc c6 l6 (fun p hp e hw τ hτ hcp => ?_) (fun z => ?_) (fun p hp e hw => ?_)
  · have f1 : ∀ a b, a ≠ 5 → a < 97 ∨ 168 < a → ¬ (a = 95 ∧ (b = 1 ∨ b = 2)) → up τ 5 p (V 2 p + 1) a b = σ a b := fun a b g1 g2 g3 => (zup_n2 (by omega)).trans (hτ a b g2 g3)
    refine s_mbuilds (d := 9) hn18 (zVm_a hn18 hm (fun a b h => f1 a b (by omega) (by omega) (by omega))) (mP_f hn18 hmP (fun a b h => f1 a b (by omega) (by omega) (by omega))) c6 (fun p' hp' e' hw' υ hυ hmp => ?_) (fun y => absurd (hin p hp e) y) (fun p' hp' e' hw' => ?_)
    · have q := nI_j e e' (by omega) (by omega)
      subst q
      refine ⟨rfl, INV_W (V' := up V 2 p' (V 2 p' + 1)) hI hD ⟨?_, ?_, zVg_u hg (by omega), fun s g1 g2 => ?_, ?_, ?_, ⟨fun q hq => ?_, ?_⟩⟩ ?_ (fun a b g1 g2 g3 g4 g5 g6 g7 => ?_)⟩
      · exact zVk_g (zVk_a zKk2 (zVk_g hV (fun a b g1 g2 => hτ a b (by omega) (by omega))) (j := 2) (i := p') (v := V 2 p' + 1) (by omega)) (fun a b g1 g2 => (zup_n2 (by omega)).trans ((hυ a b (by omega) (by omega)).trans (zup_n2 (by omega))))
      · exact zVm_u (m := 18 + p') (r := 2) (i := p') hn18 (zVm_a hn18 hm (fun a b h => (hυ a b (by omega) (by omega)).trans ((zup_n2 (by omega)).trans (f1 a b (by omega) (by omega) (by omega))))) ⟨zCn2 hp, fun _ _ => rfl, fun z => by omega, fun z => by omega⟩
      · rw [zup_n2 (by omega), zup_n2 (by omega)]; exact hz s g1 g2
      · rw [zup_n2 (by omega), hυ 195 6 (by omega) (by omega), zup_n2 (by omega), f1 195 6 (by omega) (by omega) (by omega)]; exact hs
      · rw [zup_n2 (by omega), hυ 195 5 (by omega) (by omega), zup_n2 (by omega), f1 195 5 (by omega) (by omega) (by omega)]; exact h50
      · by_cases y : q = p'
        · rw [y, zup_eq]; grind
        · rw [zup_n2 (by omega)]; exact hx.1 q hq
      · rw [zup_n2 (by omega)]; exact hx.2
      · exact vP_i (by omega) (Nat.mod_lt _ (by decide)) (cP_f hcp (fun a b g => (zup_n2 (by omega)).trans ((hυ a b (by omega) (by omega)).trans ((zup_n2 (by omega)).trans (zup_n2 (by omega)))))) (mP_f hn18 hmp (fun a b g => zup_n2 (by omega))) (gP_c hgP hg hz hx)
      · rw [zup_n2 (by omega), hυ a b (by omega) (by omega), zup_n2 (by unfold sc at g1; omega), f1 a b (by omega) (by omega) (by omega)]
    · have q := nI_j e e' (by omega) (by omega)
      subst q
      exact absurd hw (by rw [hw']; decide)
  · exact s_mbuilds (d := 9) hn18 hm hmP c6 (fun p' hp' e' hw' υ hυ hmp => absurd (hin p' hp' e') z) (fun y => zPr_i hI sc_u) (fun p' hp' e' hw' => absurd (hin p' hp' e') z)
  · refine s_mbuilds (d := 9) hn18 hm hmP c6 (fun p' hp' e' hw' υ hυ hmp => ?_) (fun y => zPr_i hI sc_u) (fun p' hp' e' hw' => zPr_i hI sc_u)
    have q := nI_j e e' (by omega) (by omega)
    subst q
    have := hx.1 p' hp
    exact absurd hw (by grind)

