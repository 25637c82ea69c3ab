/-! WHAT WENT -/
theorem cr_96 : zIs 96 (.inr (.inl [97, 109, 121, 133, 145, 157])) := ⟨by decide, by decide +kernel⟩
def zpt (s : Nat) : Nat := 97 + 12 * s
theorem zpt_s {s : Nat} (h : s < 6) : ([97, 109, 121, 133, 145, 157] : List Nat)[s]? = some (zpt s) := by
  match s, h with
  | 0, _ => rfl
  | 1, _ => rfl
  | 2, _ => rfl
  | 3, _ => rfl
  | 4, _ => rfl
  | 5, _ => rfl
  | s + 6, h => omega
theorem zpt_d {s : Nat} (h : s < 6) : zDu (zpt s) := by
  match s, h with
  | 0, _ => exact zDu_97
  | 1, _ => exact zDu_109
  | 2, _ => exact zDu_121
  | 3, _ => exact zDu_133
  | 4, _ => exact zDu_145
  | 5, _ => exact zDu_157
  | s + 6, h => omega
/-- the numbers of a duchy that count -/
def vr (j i : Nat) : Prop := (j < 3 ∧ i < 12) ∨ (3 ≤ j ∧ j < 9 ∧ i < 18) ∨ (9 ≤ j ∧ j < 11 ∧ i < 24) ∨ (j = 11 ∧ 11 ≤ i ∧ i < 20)
def cP (σ : zS) (c la : Nat) (H : Nat → zS) : Prop := σ 95 2 = nI c ∧ σ 95 1 = nI la ∧ ∀ i, i < c → ∀ j x, vr j x → vw σ (zpt ((la + 6 - i) % 6)) j x = H i j x
def mP (σ : zS) (n c : Nat) (H : Nat → zS) : Prop := σ 195 3 = nI c ∧ ∀ i, i < c → zVm (mrw σ (c - 1 - i)) (H i) n true
def gP (n c : Nat) (H : Nat → zS) : Prop := ∀ i, i < c → zVg (H i) n ∧ (∀ s, n ≤ s → s < 18 → H i 5 s = 0 ∧ H i 7 s = 0) ∧ vX (H i)
theorem vP_i {σ : zS} {n c la : Nat} {H : Nat → zS} (h6 : c ≤ 6) (hl : la < 6) (h1 : cP σ c la H) (h2 : mP σ n c H) (h3 : gP n c H) : vP σ n := ⟨c, la, h6, hl, h1.1, h2.1, h1.2.1, fun i hi => ⟨zVm_v (h3 i hi).1.2.1 (h2.2 i hi) (fun j x hr => h1.2.2 i hi j x hr) (fun z => by cases z), zVg_x (h3 i hi).1 (fun j x hr => h1.2.2 i hi j x (by unfold vr; omega)), fun s g1 g2 => by
  rw [show vw σ (97 + 12 * ((la + 6 - i) % 6)) 5 s = H i 5 s from h1.2.2 i hi 5 s (by unfold vr; omega), show vw σ (97 + 12 * ((la + 6 - i) % 6)) 7 s = H i 7 s from h1.2.2 i hi 7 s (by unfold vr; omega)]
  exact (h3 i hi).2.1 s g1 g2, vX_x (h3 i hi).2.2 (fun j x hr => h1.2.2 i hi j x (by unfold vr; omega))⟩⟩
theorem vP_e {σ : zS} {n : Nat} (h : vP σ n) : ∃ c la H, c ≤ 6 ∧ la < 6 ∧ cP σ c la H ∧ mP σ n c H ∧ gP n c H := by
  obtain ⟨c, la, h1, h2, h3, h4, h5, h6⟩ := h
  exact ⟨c, la, fun i => vw σ (zpt ((la + 6 - i) % 6)), h1, h2, ⟨h3, h5, fun i hi j x hr => rfl⟩, ⟨h4, fun i hi => (h6 i hi).1⟩, fun i hi => ⟨(h6 i hi).2.1, (h6 i hi).2.2.1, (h6 i hi).2.2.2⟩⟩
def hcons (V : zS) (H : Nat → zS) : Nat → zS := fun i => if i = 0 then V else H (i - 1)
theorem vw_f {σ τ : zS} {k : Nat} (e : ∀ a b, k ≤ a → a ≤ k + 11 → τ a b = σ a b) {j x : Nat} (hr : vr j x) : vw τ k j x = vw σ k j x := by
  unfold vw
  unfold vr at hr
  split
  · exact e _ _ (by omega) (by omega)
  · split
    · exact e _ _ (by omega) (by omega)
    · omega
theorem vw_b {σ υ : zS} {T U f : Nat} (h : dBe T U σ υ) {j x : Nat} (hr : vr j x) : vw υ T j x = vw σ U j x := by
  unfold vw
  unfold vr at hr
  by_cases hj : j < 11
  · rw [if_pos hj, if_pos hj]; exact h.2.1 j x hj (by unfold dRa; omega)
  · rw [if_neg hj, if_neg hj]
    by_cases h11 : j = 11
    · rw [if_pos h11, if_pos h11]; exact h.2.2 x (by omega) (by omega)
    · omega
theorem vw_v {σ V : zS} {k : Nat} {th : Bool} (h : zVk σ k th V) {j x : Nat} (hr : vr j x) : vw σ k j x = V j x := by
  unfold vw
  unfold vr at hr
  by_cases hj : j < 11
  · rw [if_pos hj]; exact h.1 j hj x
  · rw [if_neg hj]
    by_cases h11 : j = 11
    · rw [if_pos h11, h11]; exact h.2.1 x (by omega) (by omega)
    · omega
theorem s_keep {d c la : Nat} {σ V : zS} {H : Nat → zS} {Q : zS → Prop} (hV : zVk σ 2 false V) (hP : cP σ c la H) (hc : c ≤ 6) (hl : la < 6) (hq : ∀ τ, (∀ a b, a < 97 ∨ 168 < a → ¬ (a = 95 ∧ (b = 1 ∨ b = 2)) → τ a b = σ a b) → cP τ (min 6 (c + 1)) ((la + 1) % 6) (hcons V H) → Q τ) : zV1 (d + 1) 30 [.ref 95, .ref 2] σ Q := by
  have hs : (la + 1) % 6 < 6 := Nat.mod_lt _ (by decide)
  have hd := zpt_d hs
  obtain ⟨p1, p2, p3⟩ := id hP
  have hmin : (if (6 : Int32) < nI (c + 1) then (6 : Int32) else nI (c + 1)) = nI (min 6 (c + 1)) := by
    by_cases z : c = 6
    · subst z; rfl
    · have hlt : ¬ (6 : Int32) < nI (c + 1) := nI_nlt (a := 6) (by omega) (by omega)
      rw [if_neg hlt, Nat.min_eq_right (by omega)]
  have p1' : up σ 95 1 (nI ((la + 1) % 6)) 95 2 = nI c := (zup_n2 (by omega)).trans p1
  have p2' : up (up σ 95 1 (nI ((la + 1) % 6))) 95 2 (nI (min 6 (c + 1))) 95 1 = nI ((la + 1) % 6) := (zup_n2 (by omega)).trans zup_eq
  have f0 : ∀ a b, ¬ (a = 95 ∧ (b = 1 ∨ b = 2)) → up (up σ 95 1 (nI ((la + 1) % 6))) 95 2 (nI (min 6 (c + 1))) a b = σ a b := fun a b h => (zup_n2 (by omega)).trans (zup_n2 (by omega))
  have hfr : ∀ υ, dBe (zpt ((la + 1) % 6)) 2 (up (up σ 95 1 (nI ((la + 1) % 6))) 95 2 (nI (min 6 (c + 1)))) υ → ∀ a b, a < 97 ∨ 168 < a → ¬ (a = 95 ∧ (b = 1 ∨ b = 2)) → υ a b = σ a b := fun υ hυ a b h1 h2 => (hυ.1 a b (by unfold zpt; omega)).trans (f0 a b h2)
  have hpa : ∀ υ, dBe (zpt ((la + 1) % 6)) 2 (up (up σ 95 1 (nI ((la + 1) % 6))) 95 2 (nI (min 6 (c + 1)))) υ → cP υ (min 6 (c + 1)) ((la + 1) % 6) (hcons V H) := fun υ hυ => ⟨(hυ.1 95 2 (by unfold zpt; omega)).trans zup_eq, (hυ.1 95 1 (by unfold zpt; omega)).trans p2', fun i hi j x hr => by
    unfold hcons
    by_cases h0 : i = 0
    · subst h0
      rw [if_pos rfl, show ((la + 1) % 6 + 6 - 0) % 6 = (la + 1) % 6 by omega, vw_b (f := 0) hυ hr, ← vw_v hV hr]
      exact vw_f (fun a b g1 g2 => f0 a b (by omega)) hr
    · rw [if_neg h0, ← p3 (i - 1) (by omega) j x hr, show ((la + 1) % 6 + 6 - i) % 6 = (la + 6 - (i - 1)) % 6 by omega]
      exact vw_f (fun a b g1 g2 => (hυ.1 a b (by unfold zpt at *; omega)).trans (f0 a b (by unfold zpt at *; omega))) hr⟩
  show zk _ _ 0 [.ref 95, .ref 2, zun] [] _ _
  refine r_al0 zi_30_0 rfl ?_
  refine r_al0 zi_30_1 rfl ?_
  refine q_getIe zi_30_2 rfl cf_95_1 (v := nI la) (by first | exact p2 | ((repeat (first | rw [zup_ne (by first | decide | omega)] | rw [zup_nj (by first | decide | omega)] | rw [fil_ne (by first | decide | omega)])) <;> exact p2) | (simp [up_rd, fil_rd]; exact p2)) ?_
  refine r_push zi_30_5 rfl ?_
  refine r_b0 zi_30_6 rfl ?_
  rw [show (nI la + 1 : Int32) = nI (la + 1) from nI_add _ _]
  refine r_push zi_30_7 rfl ?_
  refine r_rem zi_30_9 rfl (by decide) ?_
  rw [show (nI (la + 1) % 6 : Int32) = nI ((la + 1) % 6) from zI_rem (d := 6) (by omega) (by omega) (by omega)]
  refine q_put zi_30_10 rfl cf_95_1 rfl ?_
  refine r_al0 zi_30_13 rfl ?_
  refine r_push zi_30_14 rfl ?_
  refine r_al0 zi_30_16 rfl ?_
  refine q_getIe zi_30_17 rfl cf_95_2 (v := nI c) (by first | exact p1' | ((repeat (first | rw [zup_ne (by first | decide | omega)] | rw [zup_nj (by first | decide | omega)] | rw [fil_ne (by first | decide | omega)])) <;> exact p1') | (simp [up_rd, fil_rd]; exact p1')) ?_
  refine r_push zi_30_20 rfl ?_
  refine r_b0 zi_30_21 rfl ?_
  rw [show (nI c + 1 : Int32) = nI (c + 1) from nI_add _ _]
  refine r_min zi_30_22 rfl ?_
  rw [hmin]
  refine q_put zi_30_25 rfl cf_95_2 rfl ?_
  refine r_al0 zi_30_28 rfl ?_
  refine q_getR zi_30_29 rfl cf_95_0 ?_
  refine r_al0 zi_30_32 rfl ?_
  refine q_getIe zi_30_33 rfl cf_95_1 (v := nI ((la + 1) % 6)) (by first | exact p2' | ((repeat (first | rw [zup_ne (by first | decide | omega)] | rw [zup_nj (by first | decide | omega)] | rw [fil_ne (by first | decide | omega)])) <;> exact p2') | (simp [up_rd, fil_rd]; exact p2')) ?_
  refine r_aald zi_30_36 rfl ((la + 1) % 6) cr_96 rfl (zpt_s hs) (by decide) ?_
  refine r_as2 zi_30_37 rfl ?_
  refine r_al2 zi_30_38 rfl ?_
  refine r_ifnull zi_30_39 rfl ?_
  refine r_al2 zi_30_42 rfl ?_
  refine r_al1 zi_30_43 rfl ?_
  refine q_cVV zi_30_44 rfl rfl rfl rfl rfl rfl rfl (hd.1 0 (by omega)).ob (s_dbec hd zDu_2 (by unfold zpt; omega) (fun υ hυ => ?_))
  show zk _ _ 47 _ _ _ _
  refine r_ret zi_30_47 rfl ?_
  exact ⟨rfl, hq _ (hfr _ hυ) (hpa _ hυ)⟩

