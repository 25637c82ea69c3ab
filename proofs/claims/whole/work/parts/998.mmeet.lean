/-! sits: the roads to meet at a place, model -/
theorem l_mroads {d n p : Nat} {σ V : zS} {Q : Int32 → zS → Prop} {B : Nat → Int32} (hV : zVm σ V n false) (hn : σ 195 6 = nI n) (hn18 : n ≤ 18) (hg : zVg V n) (hF : ∀ a, a < 12 → σ 217 a = nI (zRd B a p)) (hq : Q (nI (zRt V n B p n)) σ) : ∀ (m s : Nat), s + m = n → zk (d + 1) 280 9 [.ref 195, .int (nI p), .int (nI (zRt V n B p s)), .int (nI s)] [] σ (fun r t => ∃ v, r = some v ∧ Q v t) := by
  intro m
  induction m with
  | zero =>
    intro s hs
    have e : s = n := by omega
    subst e
    refine r_il3 zi_280_9 rfl ?_
    refine r_al0 zi_280_10 rfl ?_
    refine q_getIe zi_280_11 rfl cf_195_6 (v := nI s) (by first | exact hn | ((repeat (first | rw [zup_ne (by first | decide | omega)] | rw [zup_nj (by first | decide | omega)] | rw [fil_ne (by first | decide | omega)])) <;> exact hn) | (simp [up_rd, fil_rd]; exact hn)) ?_
    refine n_ic3 (i := s) (j := s) zi_280_14 rfl (by omega) (by omega) (fun _ => ?_) (fun c => absurd c (by omega))
    refine r_il2 zi_280_55 rfl ?_
    refine r_retI zi_280_56 rfl ?_
    exact ⟨_, rfl, hq⟩
  | succ m ih =>
    intro s hs
    have ih := ih (s + 1) (by omega)
    obtain ⟨m30, m66, _⟩ := hV.2.2.1 s (by omega)
    obtain ⟨a, ha, haV⟩ := hg.2.2.1 s (by omega)
    have hua : un (V 3 s) = a := by rw [haV]; exact un_nI (by omega)
    have hsn : s < n := by omega
    by_cases hal : V 6 s = 1
    · rw [if_pos hal] at m66
      have e1 : zRt V n B p (s + 1) = min 100000000 (zRt V n B p s + zRd B a p) := by
        show (if s < n ∧ V 6 s = 1 then _ else _) = _
        rw [if_pos ⟨hsn, hal⟩, hua]
      have hb := zRt_b (V := V) (n := n) (B := B) (p := p) s
      have hd : zRd B a p ≤ 100000000 := by
        unfold zRd
        split
        · rename_i z; exact Nat.le_trans (Nat.le_of_lt z) (by omega)
        · exact Nat.le_refl _
      have hlv : ∀ (Q2 : Int32 → zS → Prop), Q2 (nI 1) σ → zI1 d 179 [.ref 195, .int (nI s)] σ Q2 := fun Q2 h2 => s_malive (by omega) (fun _ => h2) (fun z => absurd m66 z)
      have m217 := hF a ha
      rw [e1] at ih
      generalize zRt V n B p s = r at *
      generalize zRd B a p = q at *
      have hr2 : r ≤ 100000000 := by omega
      clear hb
      have hls : ∀ (Q2 : Int32 → zS → Prop), Q2 (nI (min 100000000 (r + q))) σ → zI1 d 167 [.ref 195, .int 100000000, .int (nI (r + q))] σ Q2 := fun Q2 h2 => s_lesser (by
        by_cases z : 100000000 < r + q
        · rw [if_pos (show (100000000 : Int32) < nI (r + q) from nI_lt (a := 100000000) z (by omega))]
          rw [Nat.min_eq_left (Nat.le_of_lt z)] at h2; exact h2
        · have z2 : r + q ≤ 100000000 := Nat.le_of_not_lt z
          have z3 : nI (r + q) ≤ nI 100000000 := nI_le z2 (by omega)
          have z4 : ¬ nI 100000000 < nI (r + q) := by grind
          rw [if_neg (show ¬ (100000000 : Int32) < nI (r + q) from z4)]
          rw [Nat.min_eq_right z2] at h2; exact h2)
      refine r_il3 zi_280_9 rfl ?_
      refine r_al0 zi_280_10 rfl ?_
      refine q_getIe zi_280_11 rfl cf_195_6 (v := nI n) (by first | exact hn | ((repeat (first | rw [zup_ne (by first | decide | omega)] | rw [zup_nj (by first | decide | omega)] | rw [fil_ne (by first | decide | omega)])) <;> exact hn) | (simp [up_rd, fil_rd]; exact hn)) ?_
      refine n_ic3 (i := s) (j := n) zi_280_14 rfl (by omega) (by omega) (fun c => absurd c (by omega)) (fun _ => ?_)
      refine r_al0 zi_280_17 rfl ?_
      refine r_il3 zi_280_18 rfl ?_
      refine q_cIV zi_280_19 rfl rfl rfl rfl rfl rfl rfl cf_195_0.ob (hlv _ ?_)
      show zk _ _ 22 _ _ _ _
      refine r_if0 zi_280_22 rfl (fun c => absurd c (by decide)) (fun _ => ?_)
      refine r_al0 zi_280_25 rfl ?_
      refine r_push zi_280_26 rfl ?_
      refine r_il2 zi_280_29 rfl ?_
      refine r_al0 zi_280_30 rfl ?_
      refine q_getR zi_280_31 rfl cf_195_41 ?_
      refine r_al0 zi_280_34 rfl ?_
      refine q_getR zi_280_35 rfl cf_195_1 ?_
      refine r_push zi_280_38 rfl ?_
      refine r_il3 zi_280_40 rfl ?_
      refine r_b0 zi_280_41 rfl ?_
      rw [show (30 + nI s : Int32) = nI (30 + s) from nI_add _ _]
      refine r_alde zi_280_42 rfl (30 + s) ca_196 (by first | rfl | (simp only [zI_add, zI_mul] <;> rfl)) (by first | omega | decide) (u := nI a) (by first | exact (m30.trans haV) | ((repeat (first | rw [zup_ne (by first | decide | omega)] | rw [zup_nj (by first | decide | omega)] | rw [fil_ne (by first | decide | omega)])) <;> exact (m30.trans haV)) | (simp [up_rd, fil_rd]; exact (m30.trans haV))) ?_
      refine r_alde zi_280_43 rfl a ca_217 (by first | rfl | (simp only [zI_add, zI_mul] <;> rfl)) (by first | omega | decide) (u := nI q) (by first | exact m217 | ((repeat (first | rw [zup_ne (by first | decide | omega)] | rw [zup_nj (by first | decide | omega)] | rw [fil_ne (by first | decide | omega)])) <;> exact m217) | (simp [up_rd, fil_rd]; exact m217)) ?_
      refine r_b0 zi_280_44 rfl ?_
      rw [show (nI r + nI q : Int32) = nI (r + q) from nI_add _ _]
      refine q_cIV zi_280_45 rfl rfl rfl rfl rfl rfl rfl cf_195_0.ob (hls _ ?_)
      show zk _ _ 48 _ _ _ _
      refine r_is2 zi_280_48 rfl ?_
      refine r_in3 zi_280_49 rfl ?_
      rw [show (nI s + 1 : Int32) = nI (s + 1) from nI_add _ _]
      refine r_goto zi_280_52 rfl ?_
      exact ih
    · rw [if_neg hal] at m66
      have e1 : zRt V n B p (s + 1) = zRt V n B p s := by
        show (if s < n ∧ V 6 s = 1 then _ else _) = _
        rw [if_neg (fun z => hal z.2)]
      have hlv : ∀ (Q2 : Int32 → zS → Prop), Q2 (nI 0) σ → zI1 d 179 [.ref 195, .int (nI s)] σ Q2 := fun Q2 h2 => s_malive (by omega) (fun z => absurd (m66.symm.trans z) (by decide)) (fun _ => h2)
      rw [e1] at ih
      refine r_il3 zi_280_9 rfl ?_
      refine r_al0 zi_280_10 rfl ?_
      refine q_getIe zi_280_11 rfl cf_195_6 (v := nI n) (by first | exact hn | ((repeat (first | rw [zup_ne (by first | decide | omega)] | rw [zup_nj (by first | decide | omega)] | rw [fil_ne (by first | decide | omega)])) <;> exact hn) | (simp [up_rd, fil_rd]; exact hn)) ?_
      refine n_ic3 (i := s) (j := n) zi_280_14 rfl (by omega) (by omega) (fun c => absurd c (by omega)) (fun _ => ?_)
      refine r_al0 zi_280_17 rfl ?_
      refine r_il3 zi_280_18 rfl ?_
      refine q_cIV zi_280_19 rfl rfl rfl rfl rfl rfl rfl cf_195_0.ob (hlv _ ?_)
      show zk _ _ 22 _ _ _ _
      refine r_if0 zi_280_22 rfl (fun _ => ?_) (fun c => absurd (by decide) c)
      refine r_in3 zi_280_49 rfl ?_
      rw [show (nI s + 1 : Int32) = nI (s + 1) from nI_add _ _]
      refine r_goto zi_280_52 rfl ?_
      exact ih

