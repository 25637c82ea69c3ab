theorem l_mundo {d c : Nat} {σ : zS} {Q : Int32 → zS → Prop} (h5 : σ 195 3 = nI c) (hq : ∀ τ, (∀ a b, a ≠ 196 → τ a b = σ a b) → (∀ b, b < 170 → τ 196 b = σ 197 (170 * c + b)) → Q 1 τ) (hc : c < 6) : ∀ (m i : Nat) (τ : zS), i + m = 170 → (∀ a b, a ≠ 196 → τ a b = σ a b) → (∀ b, b < i → τ 196 b = σ 197 (170 * c + b)) → zk d 172 26 [.ref 195, .int (nI i)] [] τ (fun r s => ∃ v, r = some v ∧ Q v s) := by
  intro m
  induction m with
  | zero =>
    intro i τ hi h1 h2
    refine r_il1 zi_172_26 rfl ?_
    refine r_push zi_172_27 rfl ?_
    refine n_ic3 (i := i) (j := 170) zi_172_30 rfl (by omega) (by omega) (fun _ => ?_) (fun c => absurd c (by omega))
    refine r_push zi_172_60 rfl ?_
    refine r_retZ zi_172_61 rfl (by decide) ?_
    exact ⟨_, rfl, hq τ h1 (fun b hb => h2 b (by omega))⟩
  | succ m ih =>
    intro i τ hi h1 h2
    have e5 : τ 195 3 = nI c := (h1 195 3 (by decide)).trans h5
    have e6 : τ 197 (170 * c + i) = σ 197 (170 * c + i) := h1 _ _ (by decide)
    refine r_il1 zi_172_26 rfl ?_
    refine r_push zi_172_27 rfl ?_
    refine n_ic3 (i := i) (j := 170) zi_172_30 rfl (by omega) (by omega) (fun c => absurd c (by omega)) (fun _ => ?_)
    refine r_al0 zi_172_33 rfl ?_
    refine q_getR zi_172_34 rfl cf_195_1 ?_
    refine r_il1 zi_172_37 rfl ?_
    refine r_al0 zi_172_38 rfl ?_
    refine q_getR zi_172_39 rfl cf_195_2 ?_
    refine r_push zi_172_42 rfl ?_
    refine r_al0 zi_172_45 rfl ?_
    refine q_getIe zi_172_46 rfl cf_195_3 (v := nI c) (by first | exact e5 | ((repeat (first | rw [zup_ne (by first | decide | omega)] | rw [zup_nj (by first | decide | omega)] | rw [fil_ne (by first | decide | omega)])) <;> exact e5) | (simp [up_rd, fil_rd]; exact e5)) ?_
    refine r_b2 zi_172_49 rfl ?_
    rw [show (170 * nI c : Int32) = nI (170 * c) from pk_mul _ _]
    refine r_il1 zi_172_50 rfl ?_
    refine r_b0 zi_172_51 rfl ?_
    rw [show (nI (170 * c) + nI i : Int32) = nI ((170 * c) + i) from nI_add _ _]
    refine r_alde zi_172_52 rfl ((170 * c) + i) ca_197 (by first | rfl | (simp only [zI_add, zI_mul] <;> rfl)) (by first | omega | decide) (u := σ 197 (170 * c + i)) (by first | exact e6 | ((repeat (first | rw [zup_ne (by first | decide | omega)] | rw [zup_nj (by first | decide | omega)] | rw [fil_ne (by first | decide | omega)])) <;> exact e6) | (simp [up_rd, fil_rd]; exact e6)) ?_
    refine r_ast zi_172_53 rfl i ca_196 (by first | rfl | (simp only [zI_add, zI_mul] <;> rfl)) (by first | omega | decide) ?_
    refine r_in1 zi_172_54 rfl ?_
    rw [show (nI i + 1 : Int32) = nI (i + 1) from nI_add _ _]
    refine r_goto zi_172_57 rfl ?_
    refine ih (i + 1) _ (by omega) (fun a b hab => (zup_ne hab).trans (h1 a b hab)) (fun b hb => ?_)
    by_cases e : b = i
    · rw [e, zup_eq]
    · rw [zup_nj (by omega)]; exact h2 b (by omega)
theorem s_mundo {d c : Nat} {σ : zS} {Q : Int32 → zS → Prop} (h5 : σ 195 3 = nI c) (hc : c ≤ 6) (h0 : c = 0 → Q 0 (up σ 195 0 0)) (h1 : 0 < c → ∀ τ, (∀ a b, a ≠ 196 → ¬ (a = 195 ∧ (b = 0 ∨ b = 3)) → τ a b = σ a b) → (∀ b, b < 170 → τ 196 b = σ 197 (170 * (c - 1) + b)) → τ 195 3 = nI (c - 1) → Q 1 τ) : zI1 d 172 [.ref 195] σ Q := by
  have e5 : up σ 195 0 0 195 3 = nI c := (zup_n2 (by omega)).trans h5
  show zk _ _ 0 [.ref 195, zun] [] _ _
  by_cases hz : c = 0
  · replace h0 := h0 hz
    subst hz
    refine r_al0 zi_172_0 rfl ?_
    refine r_push zi_172_1 rfl ?_
    refine q_put zi_172_2 rfl cf_195_0 rfl ?_
    refine r_al0 zi_172_5 rfl ?_
    refine q_getIe zi_172_6 rfl cf_195_3 (v := nI 0) (by first | exact e5 | ((repeat (first | rw [zup_ne (by first | decide | omega)] | rw [zup_nj (by first | decide | omega)] | rw [fil_ne (by first | decide | omega)])) <;> exact e5) | (simp [up_rd, fil_rd]; exact e5)) ?_
    refine r_if1 zi_172_9 rfl (fun c => absurd rfl c) (fun _ => ?_)
    refine r_push zi_172_12 rfl ?_
    refine r_retZ zi_172_13 rfl (by decide) ?_
    exact ⟨_, rfl, h0⟩
  · have h1 := h1 (by omega)
    refine r_al0 zi_172_0 rfl ?_
    refine r_push zi_172_1 rfl ?_
    refine q_put zi_172_2 rfl cf_195_0 rfl ?_
    refine r_al0 zi_172_5 rfl ?_
    refine q_getIe zi_172_6 rfl cf_195_3 (v := nI c) (by first | exact e5 | ((repeat (first | rw [zup_ne (by first | decide | omega)] | rw [zup_nj (by first | decide | omega)] | rw [fil_ne (by first | decide | omega)])) <;> exact e5) | (simp [up_rd, fil_rd]; exact e5)) ?_
    refine n_if1 (i := c) zi_172_9 rfl (by omega) (fun _ => ?_) (fun c => absurd c (by omega))
    refine r_al0 zi_172_14 rfl ?_
    refine r_al0 zi_172_15 rfl ?_
    refine q_getIe zi_172_16 rfl cf_195_3 (v := nI c) (by first | exact e5 | ((repeat (first | rw [zup_ne (by first | decide | omega)] | rw [zup_nj (by first | decide | omega)] | rw [fil_ne (by first | decide | omega)])) <;> exact e5) | (simp [up_rd, fil_rd]; exact e5)) ?_
    refine r_push zi_172_19 rfl ?_
    refine r_b1 zi_172_20 rfl ?_
    rw [show (nI c - 1 : Int32) = nI (c - 1) from pk_sub (a := c) (b := 1) (by omega)]
    refine q_put zi_172_21 rfl cf_195_3 rfl ?_
    refine r_push zi_172_24 rfl ?_
    refine r_is1 zi_172_25 rfl ?_
    refine l_mundo (c := c - 1) zup_eq (fun τ k1 k2 => ?_) (by omega) 170 0 _ (by omega) (fun _ _ _ => rfl) (fun b hb => by omega)
    refine h1 τ (fun a b g1 g2 => (k1 a b g1).trans ((zup_n2 (by omega)).trans (zup_n2 (by omega)))) (fun b hb => (k2 b hb).trans ((zup_ne (by decide)).trans (zup_ne (by decide)))) ((k1 195 3 (by decide)).trans zup_eq)
/-- all but now, its book and what went -/
theorem INV_W {σ τ V V' : zS} {n : Nat} (h : INV σ) (h0 : vD σ n V) (hD : vD τ n V') (hP : vP τ n) (e : ∀ a b, ¬ sc a b → ¬ (2 ≤ a ∧ a ≤ 14) → ¬ (a = 95 ∨ (97 ≤ a ∧ a ≤ 168)) → a ≠ 196 → a ≠ 197 → a ≠ 201 → ¬ (a = 195 ∧ b = 3) → τ a b = σ a b) : INV τ := by
  obtain ⟨n', V2, h1, h2, h3, h4, h5, h6, h7, h8, h9⟩ := h
  have hn : n = n' := nI_j h1.2.2.2.2.1 h0.2.2.2.2.1 (by have := h1.2.2.1.2.1; omega) (by have := h0.2.2.1.2.1; omega)
  subst hn
  have e' : ∀ a b, ¬ sc a b → ¬ (2 ≤ a ∧ a ≤ 14) → ¬ (a = 95 ∨ (97 ≤ a ∧ a ≤ 168) ∨ a = 196 ∨ a = 197 ∨ a = 201 ∨ (a = 195 ∧ b = 3)) → τ a b = σ a b := fun a b g1 g2 g3 => e a b g1 g2 (by omega) (by omega) (by omega) (by omega) (by omega)
  refine ⟨n, V', hD, vL_f h2 (fun a b x => e' a b (by unfold sc; omega) (by omega) (by omega)), ?_, vT_f h4 (fun a b x => e' a b (by unfold sc; omega) (by omega) (by omega)), vE_f h5 (fun a b x => e' a b (by unfold sc; omega) (by omega) (by omega)), vO_f h6 (fun a b x => e' a b (by unfold sc; omega) (by omega) (by omega)), vA_f h7 (fun a b x => e' a b (by unfold sc; omega) (by omega) (by omega)), hP, vI_f h9 (fun a b x => e' a b (by unfold sc; omega) (by omega) (by omega))⟩
  obtain ⟨rows, r⟩ := id h3
  exact vR_f h3 (fun a b x => e' a b (by unfold sc; omega) (by omega) (by omega)) (vR_z r.2.2.2.2.2.2 (fun a b x => e' a b (by unfold sc; omega) (by omega) (by omega)))
theorem cP_f {σ τ : zS} {c la : Nat} {H : Nat → zS} (h : cP σ c la H) (e : ∀ a b, (95 ≤ a ∧ a ≤ 168) → τ a b = σ a b) : cP τ c la H := ⟨(e 95 2 (by omega)).trans h.1, (e 95 1 (by omega)).trans h.2.1, fun i hi j x hr => by
  have hm : (la + 6 - i) % 6 < 6 := Nat.mod_lt _ (by decide)
  rw [← h.2.2 i hi j x hr]
  exact vw_f (fun a b g1 g2 => e a b (by unfold zpt at *; omega)) hr⟩
theorem mP_f {σ τ : zS} {n c : Nat} {H : Nat → zS} (hn : n ≤ 18) (h : mP σ n c H) (e : ∀ a b, a = 197 ∨ a = 199 ∨ a = 200 ∨ (a = 195 ∧ b = 3) → τ a b = σ a b) : mP τ n c H := ⟨(e 195 3 (by omega)).trans h.1, fun i hi => mrw_v hn (h.2 i hi) (fun b _ => e 197 _ (by omega)) (fun b => e 199 b (by omega)) (fun b => e 200 b (by omega))⟩
theorem gP_c {n c : Nat} {V : zS} {H : Nat → zS} (h : gP n c H) (hg : zVg V n) (hz : ∀ s, n ≤ s → s < 18 → V 5 s = 0 ∧ V 7 s = 0) (hx : vX V) : gP n (min 6 (c + 1)) (hcons V H) := fun i hi => by
  unfold hcons
  by_cases h0 : i = 0
  · rw [if_pos h0]; exact ⟨hg, hz, hx⟩
  · rw [if_neg h0]; exact h (i - 1) (by omega)
theorem vD_vr {V U : zS} {n : Nat} (hg : zVg V n) (hz : ∀ s, n ≤ s → s < 18 → V 5 s = 0 ∧ V 7 s = 0) (e : ∀ j x, vr j x → U j x = V j x) : zVg U n ∧ ∀ s, n ≤ s → s < 18 → U 5 s = 0 ∧ U 7 s = 0 := ⟨zVg_x hg (fun j x h => e j x (by unfold vr; omega)), fun s g1 g2 => by
  rw [e 5 s (by unfold vr; omega), e 7 s (by unfold vr; omega)]; exact hz s g1 g2⟩
theorem c_undo : zPr 153 172 [] := fun σ hI => by
  obtain ⟨n, V, hD, h2, h3, h4, h5, h6, h7, h8, h9⟩ := id hI
  obtain ⟨hV, hm, hg, hz, hs, h50, hx⟩ := id hD
  have hn18 := hg.2.1
  obtain ⟨c, la, H, c6, l6, hc, hmP, hgP⟩ := vP_e h8
  have hk : ∀ (Q2 : Int32 → zS → Prop), (c = 0 → Q2 0 σ) → (0 < c → ∀ τ, (∀ a b, a < 2 ∨ 13 < a → ¬ (a = 95 ∧ (b = 1 ∨ b = 2)) → τ a b = σ a b) → (∀ j x, vr j x → vw τ 2 j x = H 0 j x) → cP τ (c - 1) ((la + 6 - 1) % 6) (fun i => H (i + 1)) → Q2 1 τ) → zI1 10 153 [.ref 0] σ Q2 := fun Q2 k0 k1 => by
    show zk _ _ 0 [.ref 0] [] _ _
    refine r_al0 zi_153_0 rfl ?_
    refine q_getR zi_153_1 rfl cf_0_6 ?_
    refine r_al0 zi_153_4 rfl ?_
    refine q_getR zi_153_5 rfl cf_0_0 ?_
    refine q_getR zi_153_8 rfl cf_1_0 ?_
    refine q_cIV zi_153_11 rfl rfl rfl rfl rfl rfl rfl cf_95_0.ob (s_goBack (d := 8) hc c6 l6 (fun z0 => ?_) (fun z0 τ z1 z2 z3 => ?_))
    · show zk _ _ 14 _ _ _ _
      refine r_retZ zi_153_14 rfl (by decide) ?_
      first | exact ⟨_, rfl, k0 z0⟩ | exact ⟨_, rfl, k1 z0 τ z1 z2 z3⟩
    · show zk _ _ 14 _ _ _ _
      refine r_retZ zi_153_14 rfl (by decide) ?_
      first | exact ⟨_, rfl, k0 z0⟩ | exact ⟨_, rfl, k1 z0 τ z1 z2 z3⟩
  refine hk _ (fun z => ?_) (fun z τ f1 f2 f3 => ?_)
  · exact s_mundo hmP.1 c6 (fun _ => zPr_i hI sc_u) (fun y => absurd y (by omega))
  · refine s_mundo ((f1 195 3 (by omega) (by omega)).trans hmP.1) c6 (fun y => absurd y (by omega)) (fun _ υ u1 u2 u3 => ⟨rfl, ?_⟩)
    have fr : ∀ a b, a < 2 ∨ 13 < a → ¬ (a = 95 ∧ (b = 1 ∨ b = 2)) → a ≠ 196 → ¬ (a = 195 ∧ (b = 0 ∨ b = 3)) → υ a b = σ a b := fun a b g1 g2 g3 g4 => (u1 a b g3 g4).trans (f1 a b g1 g2)
    have hv : ∀ j x, vr j x → vw υ 2 j x = H 0 j x := fun j x hr => (vw_f (fun a b g1 g2 => u1 a b (by omega) (by omega)) hr).trans (f2 j x hr)
    obtain ⟨hg0, hz0, hx0⟩ := hgP 0 z
    obtain ⟨hg1, hz1⟩ := vD_vr hg0 hz0 hv
    have hm0 := hmP.2 0 z
    have e201 : ∀ i, i < 600 → υ 201 i = υ 14 i := fun i hi => by rw [fr 201 i (by omega) (by omega) (by omega) (by omega), fr 14 i (by omega) (by omega) (by omega) (by omega), hm.2.2.2.2.2.2.2 rfl i hi, hV.2.2 rfl i]
    have m1 : zVm υ (vw υ 2) n true := zVm_v hn18 (zVm_g (τ := υ) hn18 hm0 (fun b hb => by
      show υ 196 b = (if 196 = 196 then σ 197 (170 * (c - 1 - 0) + b) else _)
      rw [if_pos rfl, u2 b hb, f1 197 _ (by omega) (by omega), Nat.sub_zero]) (fun b hb => fr 199 b (by omega) (by omega) (by omega) (by omega)) (fun b hb => fr 200 b (by omega) (by omega) (by omega) (by omega)) (fun y => by cases y)) (fun j x hr => hv j x hr) (fun y => by cases y)
    refine INV_W (V' := vw υ 2) hI hD ⟨⟨fun j hj i => ?_, fun f g1 g2 => ?_, fun _ i => ?_⟩, ⟨m1.1, m1.2.1, m1.2.2.1, m1.2.2.2.1, m1.2.2.2.2.1, m1.2.2.2.2.2.1, m1.2.2.2.2.2.2.1, fun _ i hi => e201 i hi⟩, hg1, hz1, (fr 195 6 (by omega) (by omega) (by omega) (by omega)).trans hs, (fr 195 5 (by omega) (by omega) (by omega) (by omega)).trans h50, vX_x hx0 (fun j i h => hv j i (by unfold vr; omega))⟩ ?_ (fun a b g1 g2 g3 g4 g5 g6 g7 => fr a b (by omega) (by omega) (by omega) (by unfold sc at g1; omega))
    · show _ = (if j < 11 then υ (2 + 1 + j) i else _)
      rw [if_pos hj]
    · rfl
    · rfl
    · refine vP_i (c := c - 1) (la := (la + 6 - 1) % 6) (H := fun i => H (i + 1)) (by omega) (Nat.mod_lt _ (by decide)) (cP_f f3 (fun a b g => u1 a b (by omega) (by omega))) ⟨u3, fun i hi => ?_⟩ (fun i hi => hgP (i + 1) (by omega))
      refine mrw_v hn18 (hmP.2 (i + 1) (by omega)) (fun b hb => ?_) (fun b => fr 199 b (by omega) (by omega) (by omega) (by omega)) (fun b => fr 200 b (by omega) (by omega) (by omega) (by omega))
      rw [fr 197 _ (by omega) (by omega) (by omega) (by omega), show c - 1 - 1 - i = c - 1 - (i + 1) by omega]

