/-! THE LAW's codes run, model -/
theorem z400 (n : Nat) : (400 * 0 + nI n : Int32) = nI n := by
  rw [show (400 * 0 : Int32) = 0 from rfl, Int32.zero_add]
abbrev zCo (σ : zS) (O A : Nat → Nat) (fr to : Nat) : Prop := ∀ j, fr ≤ j → j < to → σ 209 j = nI (O j) ∧ σ 210 j = nI (A j)
theorem l_mrun {d to kf : Nat} {σ : zS} {Q : Int32 → zS → Prop} {O A : Nat → Nat} {F : Nat → Int32} {u2 : Value} (hto : to ≤ 400) (hF : ∀ j, j < 10 → σ 215 j = F j) (res : Int32) (hq : ∀ τ, Fr [216] σ τ → Q res τ) : ∀ (n i : Nat) (ks : List Nat) (st : List Int32) (τ : zS), i + n = to → zCo σ O A i to → zKc O A n i ks = some [kf] → zTy ks st → ks.length ≤ 32 → Fr [216] σ τ → zSt (τ 216) st → zev O A F n i st = [res] → zk (d + 1) 224 12 [.ref 195, .int 0, u2, .int (nI to), .int (nI st.length), .int (nI i)] [] τ (fun r t => ∃ v, r = some v ∧ Q v t) := by
  have e4 := z400 to
  intro n
  induction n with
  | zero =>
    intro i ks st τ hi hcd hk hty hl hFr hS he
    have ei : i = to := by omega
    subst ei
    have est : st = [res] := he
    subst est
    have h0 : τ 216 0 = res := hS.1
    refine r_il5 zi_224_12 rfl ?_
    refine r_push zi_224_14 rfl ?_
    refine r_il1 zi_224_17 rfl ?_
    refine r_b2 zi_224_18 rfl ?_
    refine r_il3 zi_224_19 rfl ?_
    refine r_b0 zi_224_20 rfl ?_
    rw [e4]
    refine n_ic3 (i := i) (j := i) zi_224_21 rfl (by omega) (by omega) (fun _ => ?_) (fun c => absurd c (by omega))
    refine r_al0 zi_224_176 rfl ?_
    refine q_getR zi_224_177 rfl cf_195_40 ?_
    refine r_push zi_224_180 rfl ?_
    refine r_alde zi_224_181 rfl 0 ca_216 (by first | rfl | (simp only [zI_add, zI_mul] <;> rfl)) (by first | omega | decide) (u := res) (by first | exact h0 | ((repeat (first | rw [zup_ne (by first | decide | omega)] | rw [zup_nj (by first | decide | omega)] | rw [fil_ne (by first | decide | omega)])) <;> exact h0) | (simp [up_rd, fil_rd]; exact h0)) ?_
    refine r_retI zi_224_182 rfl ?_
    exact ⟨_, rfl, hq τ hFr⟩
  | succ n ih =>
    intro i ks st τ hi hcd hk hty hl hFr hS he
    obtain ⟨kz, hk1, hk2⟩ := zKc_s hk
    have hty2 := zKs_ty (F := F) hk1 hty
    have hl2 := zKs_len hk1 hl
    have hlen := zTy_len _ _ hty
    have he2 : zev O A F n (i + 1) (zes F (O i) (A i) st) = [res] := he
    obtain ⟨hcO, hcA⟩ := hcd i (Nat.le_refl _) (by omega)
    have hO : τ 209 i = nI (O i) := (hFr 209 (by decide) i).trans hcO
    have hA : τ 210 i = nI (A i) := (hFr 210 (by decide) i).trans hcA
    clear hcO hcA
    have ih := fun kz st' τ' a b c e f g => ih (i + 1) kz st' τ' (by omega) (fun j h1 h2 => hcd j (by omega) h2) a b c e f g
    clear hcd
    by_cases h0 : O i = 0
    · have hks : A i ≤ 9999 ∧ ks.length < 32 := by
        unfold zKs at hk1
        rw [if_pos h0] at hk1
        by_cases z : A i ≤ 9999 ∧ ks.length < 32
        · exact z
        · rw [if_neg z] at hk1; cases hk1
      have hes : zes F (O i) (A i) st = nI (A i) :: st := by unfold zes; rw [if_pos h0]
      rw [hes] at hty2 he2
      generalize A i = a at *
      generalize O i = o at *
      refine r_il5 zi_224_12 rfl ?_
      refine r_push zi_224_14 rfl ?_
      refine r_il1 zi_224_17 rfl ?_
      refine r_b2 zi_224_18 rfl ?_
      refine r_il3 zi_224_19 rfl ?_
      refine r_b0 zi_224_20 rfl ?_
      rw [e4]
      refine n_ic3 (i := i) (j := to) zi_224_21 rfl (by omega) (by omega) (fun c => absurd c (by omega)) (fun _ => ?_)
      refine r_al0 zi_224_24 rfl ?_
      refine q_getR zi_224_25 rfl cf_195_22 ?_
      refine r_il5 zi_224_28 rfl ?_
      refine r_alde zi_224_30 rfl i ca_209 (by first | rfl | (simp only [zI_add, zI_mul] <;> rfl)) (by first | omega | decide) (u := nI o) (by first | exact hO | ((repeat (first | rw [zup_ne (by first | decide | omega)] | rw [zup_nj (by first | decide | omega)] | rw [fil_ne (by first | decide | omega)])) <;> exact hO) | (simp [up_rd, fil_rd]; exact hO)) ?_
      refine n_if0 (i := o) zi_224_31 rfl (by omega) (fun _ => ?_) (fun c => absurd c (by omega))
      refine r_al0 zi_224_45 rfl ?_
      refine q_getR zi_224_46 rfl cf_195_40 ?_
      refine r_il4 zi_224_49 rfl ?_
      refine r_al0 zi_224_51 rfl ?_
      refine q_getR zi_224_52 rfl cf_195_22 ?_
      refine r_il5 zi_224_55 rfl ?_
      refine r_alde zi_224_57 rfl i ca_209 (by first | rfl | (simp only [zI_add, zI_mul] <;> rfl)) (by first | omega | decide) (u := nI o) (by first | exact hO | ((repeat (first | rw [zup_ne (by first | decide | omega)] | rw [zup_nj (by first | decide | omega)] | rw [fil_ne (by first | decide | omega)])) <;> exact hO) | (simp [up_rd, fil_rd]; exact hO)) ?_
      refine n_if1 (i := o) zi_224_58 rfl (by omega) (fun c => absurd c (by omega)) (fun _ => ?_)
      refine r_al0 zi_224_61 rfl ?_
      refine q_getR zi_224_62 rfl cf_195_23 ?_
      refine r_il5 zi_224_65 rfl ?_
      refine r_alde zi_224_67 rfl i ca_210 (by first | rfl | (simp only [zI_add, zI_mul] <;> rfl)) (by first | omega | decide) (u := nI a) (by first | exact hA | ((repeat (first | rw [zup_ne (by first | decide | omega)] | rw [zup_nj (by first | decide | omega)] | rw [fil_ne (by first | decide | omega)])) <;> exact hA) | (simp [up_rd, fil_rd]; exact hA)) ?_
      refine r_goto zi_224_68 rfl ?_
      refine r_ast zi_224_83 rfl st.length ca_216 (by first | rfl | (simp only [zI_add, zI_mul] <;> rfl)) (by first | omega | decide) ?_
      refine r_il4 zi_224_84 rfl ?_
      refine r_push zi_224_86 rfl ?_
      refine r_b0 zi_224_87 rfl ?_
      rw [show (nI st.length + 1 : Int32) = nI (st.length + 1) from nI_add _ _]
      refine r_is4 zi_224_88 rfl ?_
      refine r_goto zi_224_90 rfl ?_
      refine r_in5 zi_224_170 rfl ?_
      rw [show (nI i + 1 : Int32) = nI (i + 1) from nI_add _ _]
      refine r_goto zi_224_173 rfl ?_
      exact ih kz (nI a :: st) _ hk2 hty2 hl2 (hFr.put (by simp)) (zSt_push hS) he2
    · by_cases h1 : O i = 1
      · have hks : A i < 10 ∧ ks.length < 32 := by
          unfold zKs at hk1
          rw [if_neg h0, if_pos h1] at hk1
          by_cases z : A i < 10 ∧ ks.length < 32
          · exact z
          · rw [if_neg z] at hk1; cases hk1
        have hes : zes F (O i) (A i) st = F (A i) :: st := by unfold zes; rw [if_neg h0, if_pos h1]
        have hfa : τ 215 (A i) = F (A i) := (hFr 215 (by decide) (A i)).trans (hF _ hks.1)
        rw [hes] at hty2 he2
        generalize A i = a at *
        generalize O i = o at *
        refine r_il5 zi_224_12 rfl ?_
        refine r_push zi_224_14 rfl ?_
        refine r_il1 zi_224_17 rfl ?_
        refine r_b2 zi_224_18 rfl ?_
        refine r_il3 zi_224_19 rfl ?_
        refine r_b0 zi_224_20 rfl ?_
        rw [e4]
        refine n_ic3 (i := i) (j := to) zi_224_21 rfl (by omega) (by omega) (fun c => absurd c (by omega)) (fun _ => ?_)
        refine r_al0 zi_224_24 rfl ?_
        refine q_getR zi_224_25 rfl cf_195_22 ?_
        refine r_il5 zi_224_28 rfl ?_
        refine r_alde zi_224_30 rfl i ca_209 (by first | rfl | (simp only [zI_add, zI_mul] <;> rfl)) (by first | omega | decide) (u := nI o) (by first | exact hO | ((repeat (first | rw [zup_ne (by first | decide | omega)] | rw [zup_nj (by first | decide | omega)] | rw [fil_ne (by first | decide | omega)])) <;> exact hO) | (simp [up_rd, fil_rd]; exact hO)) ?_
        refine n_if0 (i := o) zi_224_31 rfl (by omega) (fun c => absurd c (by omega)) (fun _ => ?_)
        refine r_al0 zi_224_34 rfl ?_
        refine q_getR zi_224_35 rfl cf_195_22 ?_
        refine r_il5 zi_224_38 rfl ?_
        refine r_alde zi_224_40 rfl i ca_209 (by first | rfl | (simp only [zI_add, zI_mul] <;> rfl)) (by first | omega | decide) (u := nI o) (by first | exact hO | ((repeat (first | rw [zup_ne (by first | decide | omega)] | rw [zup_nj (by first | decide | omega)] | rw [fil_ne (by first | decide | omega)])) <;> exact hO) | (simp [up_rd, fil_rd]; exact hO)) ?_
        refine r_push zi_224_41 rfl ?_
        refine n_ic1 (i := o) (j := 1) zi_224_42 rfl (by omega) (by omega) (fun c => absurd c (by omega)) (fun _ => ?_)
        refine r_al0 zi_224_45 rfl ?_
        refine q_getR zi_224_46 rfl cf_195_40 ?_
        refine r_il4 zi_224_49 rfl ?_
        refine r_al0 zi_224_51 rfl ?_
        refine q_getR zi_224_52 rfl cf_195_22 ?_
        refine r_il5 zi_224_55 rfl ?_
        refine r_alde zi_224_57 rfl i ca_209 (by first | rfl | (simp only [zI_add, zI_mul] <;> rfl)) (by first | omega | decide) (u := nI o) (by first | exact hO | ((repeat (first | rw [zup_ne (by first | decide | omega)] | rw [zup_nj (by first | decide | omega)] | rw [fil_ne (by first | decide | omega)])) <;> exact hO) | (simp [up_rd, fil_rd]; exact hO)) ?_
        refine n_if1 (i := o) zi_224_58 rfl (by omega) (fun _ => ?_) (fun c => absurd c (by omega))
        refine r_al0 zi_224_71 rfl ?_
        refine q_getR zi_224_72 rfl cf_195_39 ?_
        refine r_al0 zi_224_75 rfl ?_
        refine q_getR zi_224_76 rfl cf_195_23 ?_
        refine r_il5 zi_224_79 rfl ?_
        refine r_alde zi_224_81 rfl i ca_210 (by first | rfl | (simp only [zI_add, zI_mul] <;> rfl)) (by first | omega | decide) (u := nI a) (by first | exact hA | ((repeat (first | rw [zup_ne (by first | decide | omega)] | rw [zup_nj (by first | decide | omega)] | rw [fil_ne (by first | decide | omega)])) <;> exact hA) | (simp [up_rd, fil_rd]; exact hA)) ?_
        refine r_alde zi_224_82 rfl a ca_215 (by first | rfl | (simp only [zI_add, zI_mul] <;> rfl)) (by first | omega | decide) (u := F a) (by first | exact hfa | ((repeat (first | rw [zup_ne (by first | decide | omega)] | rw [zup_nj (by first | decide | omega)] | rw [fil_ne (by first | decide | omega)])) <;> exact hfa) | (simp [up_rd, fil_rd]; exact hfa)) ?_
        refine r_ast zi_224_83 rfl st.length ca_216 (by first | rfl | (simp only [zI_add, zI_mul] <;> rfl)) (by first | omega | decide) ?_
        refine r_il4 zi_224_84 rfl ?_
        refine r_push zi_224_86 rfl ?_
        refine r_b0 zi_224_87 rfl ?_
        rw [show (nI st.length + 1 : Int32) = nI (st.length + 1) from nI_add _ _]
        refine r_is4 zi_224_88 rfl ?_
        refine r_goto zi_224_90 rfl ?_
        refine r_in5 zi_224_170 rfl ?_
        rw [show (nI i + 1 : Int32) = nI (i + 1) from nI_add _ _]
        refine r_goto zi_224_173 rfl ?_
        exact ih kz (F a :: st) _ hk2 hty2 hl2 (hFr.put (by simp)) (zSt_push hS) he2
      · by_cases h9 : O i = 9
        · match st, ks, hty, hS, hlen, hty2, he2, hk1 with
          | x :: s, _ :: r, hty, hS, hlen, hty2, he2, hk1 =>
            have hes : zes F (O i) (A i) (x :: s) = (1 - x) :: s := by unfold zes; rw [if_neg h0, if_neg h1, if_pos h9]
            rw [hes] at hty2 he2
            have hsl : s.length < 32 := by
              have : r.length + 1 = s.length + 1 := hlen
              change r.length + 1 ≤ 32 at hl
              omega
            have hx := hS.1
            show zk (d + 1) _ 12 [_, _, _, _, .int (nI (s.length + 1)), _] _ _ _
            refine r_il5 zi_224_12 rfl ?_
            refine r_push zi_224_14 rfl ?_
            refine r_il1 zi_224_17 rfl ?_
            refine r_b2 zi_224_18 rfl ?_
            refine r_il3 zi_224_19 rfl ?_
            refine r_b0 zi_224_20 rfl ?_
            rw [e4]
            refine n_ic3 (i := i) (j := to) zi_224_21 rfl (by omega) (by omega) (fun c => absurd c (by omega)) (fun _ => ?_)
            refine r_al0 zi_224_24 rfl ?_
            refine q_getR zi_224_25 rfl cf_195_22 ?_
            refine r_il5 zi_224_28 rfl ?_
            refine r_alde zi_224_30 rfl i ca_209 (by first | rfl | (simp only [zI_add, zI_mul] <;> rfl)) (by first | omega | decide) (u := nI (O i)) (by first | exact hO | ((repeat (first | rw [zup_ne (by first | decide | omega)] | rw [zup_nj (by first | decide | omega)] | rw [fil_ne (by first | decide | omega)])) <;> exact hO) | (simp [up_rd, fil_rd]; exact hO)) ?_
            refine n_if0 (i := (O i)) zi_224_31 rfl (by omega) (fun c => absurd c (by omega)) (fun _ => ?_)
            refine r_al0 zi_224_34 rfl ?_
            refine q_getR zi_224_35 rfl cf_195_22 ?_
            refine r_il5 zi_224_38 rfl ?_
            refine r_alde zi_224_40 rfl i ca_209 (by first | rfl | (simp only [zI_add, zI_mul] <;> rfl)) (by first | omega | decide) (u := nI (O i)) (by first | exact hO | ((repeat (first | rw [zup_ne (by first | decide | omega)] | rw [zup_nj (by first | decide | omega)] | rw [fil_ne (by first | decide | omega)])) <;> exact hO) | (simp [up_rd, fil_rd]; exact hO)) ?_
            refine r_push zi_224_41 rfl ?_
            refine n_ic1 (i := (O i)) (j := 1) zi_224_42 rfl (by omega) (by omega) (fun _ => ?_) (fun c => absurd c (by omega))
            refine r_al0 zi_224_93 rfl ?_
            refine q_getR zi_224_94 rfl cf_195_22 ?_
            refine r_il5 zi_224_97 rfl ?_
            refine r_alde zi_224_99 rfl i ca_209 (by first | rfl | (simp only [zI_add, zI_mul] <;> rfl)) (by first | omega | decide) (u := nI (O i)) (by first | exact hO | ((repeat (first | rw [zup_ne (by first | decide | omega)] | rw [zup_nj (by first | decide | omega)] | rw [fil_ne (by first | decide | omega)])) <;> exact hO) | (simp [up_rd, fil_rd]; exact hO)) ?_
            refine r_push zi_224_100 rfl ?_
            refine n_ic1 (i := (O i)) (j := 9) zi_224_102 rfl (by omega) (by omega) (fun c => absurd c (by omega)) (fun _ => ?_)
            refine r_al0 zi_224_105 rfl ?_
            refine q_getR zi_224_106 rfl cf_195_40 ?_
            refine r_il4 zi_224_109 rfl ?_
            refine r_push zi_224_111 rfl ?_
            refine r_b1 zi_224_112 rfl ?_
            rw [show (nI (s.length+1) - 1 : Int32) = nI ((s.length+1) - 1) from pk_sub (a := (s.length+1)) (b := 1) (by omega)]
            refine r_push zi_224_113 rfl ?_
            refine r_al0 zi_224_114 rfl ?_
            refine q_getR zi_224_115 rfl cf_195_40 ?_
            refine r_il4 zi_224_118 rfl ?_
            refine r_push zi_224_120 rfl ?_
            refine r_b1 zi_224_121 rfl ?_
            rw [show (nI (s.length+1) - 1 : Int32) = nI ((s.length+1) - 1) from pk_sub (a := (s.length+1)) (b := 1) (by omega)]
            refine r_alde zi_224_122 rfl s.length ca_216 rfl (by omega) (u := x) (by first | exact hx | ((repeat (first | rw [zup_ne (by first | decide | omega)] | rw [zup_nj (by first | decide | omega)] | rw [fil_ne (by first | decide | omega)])) <;> exact hx) | (simp [up_rd, fil_rd]; exact hx)) ?_
            refine r_b1 zi_224_123 rfl ?_
            refine r_ast zi_224_124 rfl s.length ca_216 rfl (by omega) ?_
            refine r_goto zi_224_125 rfl ?_
            refine r_in5 zi_224_170 rfl ?_
            rw [show (nI i + 1 : Int32) = nI (i + 1) from nI_add _ _]
            refine r_goto zi_224_173 rfl ?_
            exact ih kz ((1 - x) :: s) _ hk2 hty2 hl2 (hFr.put (by simp)) ⟨zup_eq, zSt_c s (fun p hp => zup_nj (by omega)) hS.2⟩ he2
          | [], [], _, _, _, _, _, hk1 => exfalso; unfold zKs at hk1; rw [if_neg h0, if_neg h1, if_pos h9] at hk1; cases hk1
        · obtain ⟨k2, k1, r, kk, e1, e2, e3⟩ := zKs_bin hk1 h0 h1 h9
          obtain ⟨ho, hzen⟩ := zkb2_o e2
          subst e1
          obtain ⟨y, x, s, est, hy, hx, hr⟩ := zTy_2 hty
          subst est
          rw [zes_bin ho] at hty2 he2
          have hsl : s.length + 1 < 32 := by
            have : r.length + 1 + 1 = s.length + 1 + 1 := hlen
            change r.length + 1 + 1 ≤ 32 at hl
            omega
          have hxv : τ 216 s.length = x := hS.2.1
          have hyv : τ 216 (s.length + 1) = y := hS.1
          have hjn := fun (d : Nat) (σ : zS) (Q : Int32 → zS → Prop) => s_two (d := d) (σ := σ) (Q := Q) e2 hx hy
          generalize O i = o at *
          show zk (d + 1) _ 12 [_, _, _, _, .int (nI (s.length + 1 + 1)), _] _ _ _
          refine r_il5 zi_224_12 rfl ?_
          refine r_push zi_224_14 rfl ?_
          refine r_il1 zi_224_17 rfl ?_
          refine r_b2 zi_224_18 rfl ?_
          refine r_il3 zi_224_19 rfl ?_
          refine r_b0 zi_224_20 rfl ?_
          rw [e4]
          refine n_ic3 (i := i) (j := to) zi_224_21 rfl (by omega) (by omega) (fun c => absurd c (by omega)) (fun _ => ?_)
          refine r_al0 zi_224_24 rfl ?_
          refine q_getR zi_224_25 rfl cf_195_22 ?_
          refine r_il5 zi_224_28 rfl ?_
          refine r_alde zi_224_30 rfl i ca_209 (by first | rfl | (simp only [zI_add, zI_mul] <;> rfl)) (by first | omega | decide) (u := nI o) (by first | exact hO | ((repeat (first | rw [zup_ne (by first | decide | omega)] | rw [zup_nj (by first | decide | omega)] | rw [fil_ne (by first | decide | omega)])) <;> exact hO) | (simp [up_rd, fil_rd]; exact hO)) ?_
          refine n_if0 (i := o) zi_224_31 rfl (by omega) (fun c => absurd c (by omega)) (fun _ => ?_)
          refine r_al0 zi_224_34 rfl ?_
          refine q_getR zi_224_35 rfl cf_195_22 ?_
          refine r_il5 zi_224_38 rfl ?_
          refine r_alde zi_224_40 rfl i ca_209 (by first | rfl | (simp only [zI_add, zI_mul] <;> rfl)) (by first | omega | decide) (u := nI o) (by first | exact hO | ((repeat (first | rw [zup_ne (by first | decide | omega)] | rw [zup_nj (by first | decide | omega)] | rw [fil_ne (by first | decide | omega)])) <;> exact hO) | (simp [up_rd, fil_rd]; exact hO)) ?_
          refine r_push zi_224_41 rfl ?_
          refine n_ic1 (i := o) (j := 1) zi_224_42 rfl (by omega) (by omega) (fun _ => ?_) (fun c => absurd c (by omega))
          refine r_al0 zi_224_93 rfl ?_
          refine q_getR zi_224_94 rfl cf_195_22 ?_
          refine r_il5 zi_224_97 rfl ?_
          refine r_alde zi_224_99 rfl i ca_209 (by first | rfl | (simp only [zI_add, zI_mul] <;> rfl)) (by first | omega | decide) (u := nI o) (by first | exact hO | ((repeat (first | rw [zup_ne (by first | decide | omega)] | rw [zup_nj (by first | decide | omega)] | rw [fil_ne (by first | decide | omega)])) <;> exact hO) | (simp [up_rd, fil_rd]; exact hO)) ?_
          refine r_push zi_224_100 rfl ?_
          refine n_ic1 (i := o) (j := 9) zi_224_102 rfl (by omega) (by omega) (fun _ => ?_) (fun c => absurd c (by omega))
          refine r_il4 zi_224_128 rfl ?_
          refine r_push zi_224_130 rfl ?_
          refine r_b1 zi_224_131 rfl ?_
          rw [show (nI (s.length+1+1) - 1 : Int32) = nI ((s.length+1+1) - 1) from pk_sub (a := (s.length+1+1)) (b := 1) (by omega)]
          show zk _ _ 132 _ [.int (nI (s.length + 1))] _ _
          refine r_is4 zi_224_132 rfl ?_
          refine r_al0 zi_224_134 rfl ?_
          refine q_getR zi_224_135 rfl cf_195_40 ?_
          refine r_il4 zi_224_138 rfl ?_
          refine r_push zi_224_140 rfl ?_
          refine r_b1 zi_224_141 rfl ?_
          refine r_al0 zi_224_142 rfl ?_
          refine r_al0 zi_224_143 rfl ?_
          refine q_getR zi_224_144 rfl cf_195_22 ?_
          refine r_il5 zi_224_147 rfl ?_
          refine r_alde zi_224_149 rfl i ca_209 (by first | rfl | (simp only [zI_add, zI_mul] <;> rfl)) (by first | omega | decide) (u := nI o) (by first | exact hO | ((repeat (first | rw [zup_ne (by first | decide | omega)] | rw [zup_nj (by first | decide | omega)] | rw [fil_ne (by first | decide | omega)])) <;> exact hO) | (simp [up_rd, fil_rd]; exact hO)) ?_
          refine r_al0 zi_224_150 rfl ?_
          refine q_getR zi_224_151 rfl cf_195_40 ?_
          refine r_il4 zi_224_154 rfl ?_
          refine r_push zi_224_156 rfl ?_
          refine r_b1 zi_224_157 rfl ?_
          rw [show (nI (s.length + 1) - 1 : Int32) = nI ((s.length + 1) - 1) from pk_sub (a := (s.length + 1)) (b := 1) (by omega)]
          refine r_alde zi_224_158 rfl s.length ca_216 rfl (by omega) (u := x) (by first | exact hxv | ((repeat (first | rw [zup_ne (by first | decide | omega)] | rw [zup_nj (by first | decide | omega)] | rw [fil_ne (by first | decide | omega)])) <;> exact hxv) | (simp [up_rd, fil_rd]; exact hxv)) ?_
          refine r_al0 zi_224_159 rfl ?_
          refine q_getR zi_224_160 rfl cf_195_40 ?_
          refine r_il4 zi_224_163 rfl ?_
          refine r_alde zi_224_165 rfl (s.length + 1) ca_216 rfl (by omega) (u := y) (by first | exact hyv | ((repeat (first | rw [zup_ne (by first | decide | omega)] | rw [zup_nj (by first | decide | omega)] | rw [fil_ne (by first | decide | omega)])) <;> exact hyv) | (simp [up_rd, fil_rd]; exact hyv)) ?_
          refine q_cIV zi_224_166 rfl rfl rfl rfl rfl rfl rfl cf_195_0.ob (hjn _ _ _ ?_)
          show zk _ _ 169 _ _ _ _
          refine r_ast zi_224_169 rfl s.length ca_216 rfl (by omega) ?_
          refine r_in5 zi_224_170 rfl ?_
          rw [show (nI i + 1 : Int32) = nI (i + 1) from nI_add _ _]
          refine r_goto zi_224_173 rfl ?_
          rw [e3] at hk2 hty2 hl2
          exact ih _ (ztwo o x y :: s) _ hk2 hty2 hl2 (hFr.put (by simp)) (zSt_join hS) he2
theorem s_runs {d fr to kf : Nat} {σ : zS} {Q : Int32 → zS → Prop} {O A : Nat → Nat} {F : Nat → Int32} (hft : fr ≤ to) (hto : to ≤ 400) (hF : ∀ j, j < 10 → σ 215 j = F j) (hcd : zCo σ O A fr to) (hk : zKc O A (to - fr) fr [] = some [kf]) (hq : ∀ τ, Fr [216] σ τ → Q ((zev O A F (to - fr) fr []).headD 0) τ) : zI1 (d + 1) 224 [.ref 195, .int 0, .int (nI fr), .int (nI to)] σ Q := by
  have hev : ∀ (n i : Nat) (ks : List Nat) (st : List Int32), zKc O A n i ks = some [kf] → zTy ks st → zTy [kf] (zev O A F n i st) := by
    intro n
    induction n with
    | zero => intro i ks st h ht; have : ks = [kf] := by injection h
              subst this; exact ht
    | succ n ih => intro i ks st h ht; obtain ⟨ks', g1, g2⟩ := zKc_s h; exact ih (i + 1) ks' _ g2 (zKs_ty g1 ht)
  obtain ⟨v, hv, _⟩ := zTy_1 (hev (to - fr) fr [] [] hk trivial)
  rw [hv] at hq
  have e4 := z400 fr
  show zk _ _ 0 [.ref 195, .int 0, .int (nI fr), .int (nI to), zun, zun] [] _ _
  refine r_push zi_224_0 rfl ?_
  refine r_is4 zi_224_1 rfl ?_
  refine r_push zi_224_3 rfl ?_
  refine r_il1 zi_224_6 rfl ?_
  refine r_b2 zi_224_7 rfl ?_
  refine r_il2 zi_224_8 rfl ?_
  refine r_b0 zi_224_9 rfl ?_
  rw [e4]
  refine r_is5 zi_224_10 rfl ?_
  exact l_mrun hto hF v hq (to - fr) fr [] [] σ (by omega) hcd hk trivial (by decide) Fr.rf trivial hv
/-! what THE LAW tells -/
def zcnd (Wh To O A : Nat → Nat) (F : Nat → Int32) (l : Nat) : Prop := Wh l = To l ∨ (zev O A F (To l - Wh l) (Wh l) []).headD 0 ≠ 0
noncomputable def zfst (Wd Wh To O A : Nat → Nat) (F : Nat → Int32) (w : Nat) : Nat → Nat → Option Nat
  | 0, _ => none
  | m + 1, l => match Classical.propDecidable (Wd l = w ∧ zcnd Wh To O A F l) with
    | isTrue _ => some l
    | isFalse _ => zfst Wd Wh To O A F w m (l + 1)
theorem zfst_t {Wd Wh To O A : Nat → Nat} {F : Nat → Int32} {w m l : Nat} (h : Wd l = w ∧ zcnd Wh To O A F l) : zfst Wd Wh To O A F w (m + 1) l = some l := by
  unfold zfst
  cases Classical.propDecidable (Wd l = w ∧ zcnd Wh To O A F l) with
  | isTrue _ => rfl
  | isFalse z => exact absurd h z
theorem zfst_f {Wd Wh To O A : Nat → Nat} {F : Nat → Int32} {w m l : Nat} (h : ¬ (Wd l = w ∧ zcnd Wh To O A F l)) : zfst Wd Wh To O A F w (m + 1) l = zfst Wd Wh To O A F w m (l + 1) := by
  conv => lhs; unfold zfst
  cases Classical.propDecidable (Wd l = w ∧ zcnd Wh To O A F l) with
  | isTrue z => exact absurd z h
  | isFalse _ => rfl
def zhld (v most : Int32) : Int32 := if v < 0 then 0 else if most < v then most else v
def zlv (Fr Wh O A : Nat → Nat) (F : Nat → Int32) (without : Int32) (o : Option Nat) : Int32 := match o with
  | none => without
  | some l => (zev O A F (Wh l - Fr l) (Fr l) []).headD 0
/-- a law whose lines are good -/
def zLw (n : Nat) (Wd Fr Wh To O A : Nat → Nat) : Prop := n ≤ 16 ∧ ∀ l, l < n → Wd l ≤ 2 ∧ Fr l ≤ Wh l ∧ Wh l ≤ To l ∧ To l ≤ 400 ∧ (∃ k, zKc O A (Wh l - Fr l) (Fr l) [] = some [k]) ∧ (Wh l < To l → zKc O A (To l - Wh l) (Wh l) [] = some [1])
def zLwK (σ : zS) (T n : Nat) (Wd Fr Wh To O A : Nat → Nat) : Prop := σ T 2 = nI n ∧ ∀ l, l < n → σ (T + 1) (l * 4) = nI (10000 + Wd l) ∧ σ (T + 1) (l * 4 + 1) = nI (Fr l) ∧ σ (T + 1) (l * 4 + 2) = nI (Wh l) ∧ σ (T + 1) (l * 4 + 3) = nI (To l) ∧ ∀ j, Fr l ≤ j → j < To l → σ (T + 2) j = nI (zen (O j) (A j))
def zLwM (σ : zS) (n : Nat) (Wd Fr Wh To O A : Nat → Nat) : Prop := σ 204 0 = nI n ∧ ∀ l, l < n → σ 205 l = nI (Wd l) ∧ σ 206 l = nI (Fr l) ∧ σ 207 l = nI (Wh l) ∧ σ 208 l = nI (To l) ∧ zCo σ O A (Fr l) (To l)
theorem l_lineOf {d n w : Nat} {σ : zS} {Q : Int32 → zS → Prop} {Wd Fr' Wh To O A : Nat → Nat} {F : Nat → Int32} (hL : zLw n Wd Fr' Wh To O A) (hM : zLwM σ n Wd Fr' Wh To O A) (hw : w ≤ 2) (hF : ∀ j, j < 10 → σ 215 j = F j) (hq : ∀ τ, Fr [216] σ τ → Q (match zfst Wd Wh To O A F w n 0 with | none => -1 | some l => nI l) τ) : ∀ (m l : Nat) (τ : zS), l + m = n → zfst Wd Wh To O A F w n 0 = zfst Wd Wh To O A F w m l → Fr [216] σ τ → zk (d + 2) 225 2 [.ref 195, .int (nI w), .int (nI l)] [] τ (fun r t => ∃ v, r = some v ∧ Q v t) := by
  have hn16 := hL.1
  intro m
  induction m with
  | zero =>
    intro l τ hl he hFr
    have e : l = n := by omega
    have hn := (hFr 204 (by decide) 0).trans hM.1
    have hq := hq τ hFr
    rw [he] at hq
    refine r_il2 zi_225_2 rfl ?_
    refine r_al0 zi_225_3 rfl ?_
    refine q_getR zi_225_4 rfl cf_195_17 ?_
    refine r_push zi_225_7 rfl ?_
    refine r_alde zi_225_8 rfl 0 ca_204 (by first | rfl | (simp only [zI_add, zI_mul] <;> rfl)) (by first | omega | decide) (u := nI n) (by first | exact hn | ((repeat (first | rw [zup_ne (by first | decide | omega)] | rw [zup_nj (by first | decide | omega)] | rw [fil_ne (by first | decide | omega)])) <;> exact hn) | (simp [up_rd, fil_rd]; exact hn)) ?_
    refine n_ic3 (i := l) (j := n) zi_225_9 rfl (by omega) (by omega) (fun _ => ?_) (fun c => absurd c (by omega))
    refine r_push zi_225_65 rfl ?_
    refine r_retI zi_225_66 rfl ?_
    exact ⟨_, rfl, hq⟩
  | succ m ih =>
    intro l τ hl he hFr
    have hn := (hFr 204 (by decide) 0).trans hM.1
    obtain ⟨m1, m2, m3, m4, m5⟩ := hM.2 l (by omega)
    obtain ⟨g1, g2, g3, g4, ⟨kf, g5⟩, g6⟩ := hL.2 l (by omega)
    have h17 := (hFr 205 (by decide) l).trans m1
    have h27 := (hFr 207 (by decide) l).trans m3
    have h33 := (hFr 208 (by decide) l).trans m4
    have hcd : zCo τ O A (Wh l) (To l) := fun j h1 h2 => ⟨(hFr 209 (by decide) j).trans (m5 j (by omega) h2).1, (hFr 210 (by decide) j).trans (m5 j (by omega) h2).2⟩
    have hF' : ∀ j, j < 10 → τ 215 j = F j := fun j hj => (hFr 215 (by decide) j).trans (hF j hj)
    by_cases hwd : Wd l = w
    · by_cases hwt : Wh l = To l
      · have hc : Wd l = w ∧ zcnd Wh To O A F l := ⟨hwd, Or.inl hwt⟩
        have hq := hq τ hFr
        rw [he, zfst_t hc] at hq
        refine r_il2 zi_225_2 rfl ?_
        refine r_al0 zi_225_3 rfl ?_
        refine q_getR zi_225_4 rfl cf_195_17 ?_
        refine r_push zi_225_7 rfl ?_
        refine r_alde zi_225_8 rfl 0 ca_204 (by first | rfl | (simp only [zI_add, zI_mul] <;> rfl)) (by first | omega | decide) (u := nI n) (by first | exact hn | ((repeat (first | rw [zup_ne (by first | decide | omega)] | rw [zup_nj (by first | decide | omega)] | rw [fil_ne (by first | decide | omega)])) <;> exact hn) | (simp [up_rd, fil_rd]; exact hn)) ?_
        refine n_ic3 (i := l) (j := n) zi_225_9 rfl (by omega) (by omega) (fun c => absurd c (by omega)) (fun _ => ?_)
        refine r_al0 zi_225_12 rfl ?_
        refine q_getR zi_225_13 rfl cf_195_18 ?_
        refine r_il2 zi_225_16 rfl ?_
        refine r_alde zi_225_17 rfl l ca_205 (by first | rfl | (simp only [zI_add, zI_mul] <;> rfl)) (by first | omega | decide) (u := nI (Wd l)) (by first | exact h17 | ((repeat (first | rw [zup_ne (by first | decide | omega)] | rw [zup_nj (by first | decide | omega)] | rw [fil_ne (by first | decide | omega)])) <;> exact h17) | (simp [up_rd, fil_rd]; exact h17)) ?_
        refine r_il1 zi_225_18 rfl ?_
        refine n_ic1 (i := (Wd l)) (j := w) zi_225_19 rfl (by omega) (by omega) (fun c => absurd c (by omega)) (fun _ => ?_)
        refine r_al0 zi_225_22 rfl ?_
        refine q_getR zi_225_23 rfl cf_195_20 ?_
        refine r_il2 zi_225_26 rfl ?_
        refine r_alde zi_225_27 rfl l ca_207 (by first | rfl | (simp only [zI_add, zI_mul] <;> rfl)) (by first | omega | decide) (u := nI (Wh l)) (by first | exact h27 | ((repeat (first | rw [zup_ne (by first | decide | omega)] | rw [zup_nj (by first | decide | omega)] | rw [fil_ne (by first | decide | omega)])) <;> exact h27) | (simp [up_rd, fil_rd]; exact h27)) ?_
        refine r_al0 zi_225_28 rfl ?_
        refine q_getR zi_225_29 rfl cf_195_21 ?_
        refine r_il2 zi_225_32 rfl ?_
        refine r_alde zi_225_33 rfl l ca_208 (by first | rfl | (simp only [zI_add, zI_mul] <;> rfl)) (by first | omega | decide) (u := nI (To l)) (by first | exact h33 | ((repeat (first | rw [zup_ne (by first | decide | omega)] | rw [zup_nj (by first | decide | omega)] | rw [fil_ne (by first | decide | omega)])) <;> exact h33) | (simp [up_rd, fil_rd]; exact h33)) ?_
        refine n_ic0 (i := (Wh l)) (j := (To l)) zi_225_34 rfl (by omega) (by omega) (fun _ => ?_) (fun c => absurd c (by omega))
        refine r_il2 zi_225_57 rfl ?_
        refine r_retI zi_225_58 rfl ?_
        exact ⟨_, rfl, hq⟩
      · by_cases hv : (zev O A F (To l - Wh l) (Wh l) []).headD 0 = 0
        · have hc : ¬ (Wd l = w ∧ zcnd Wh To O A F l) := fun z => by
            rcases z.2 with z | z
            · exact hwt z
            · exact z hv
          rw [zfst_f hc] at he
          refine r_il2 zi_225_2 rfl ?_
          refine r_al0 zi_225_3 rfl ?_
          refine q_getR zi_225_4 rfl cf_195_17 ?_
          refine r_push zi_225_7 rfl ?_
          refine r_alde zi_225_8 rfl 0 ca_204 (by first | rfl | (simp only [zI_add, zI_mul] <;> rfl)) (by first | omega | decide) (u := nI n) (by first | exact hn | ((repeat (first | rw [zup_ne (by first | decide | omega)] | rw [zup_nj (by first | decide | omega)] | rw [fil_ne (by first | decide | omega)])) <;> exact hn) | (simp [up_rd, fil_rd]; exact hn)) ?_
          refine n_ic3 (i := l) (j := n) zi_225_9 rfl (by omega) (by omega) (fun c => absurd c (by omega)) (fun _ => ?_)
          refine r_al0 zi_225_12 rfl ?_
          refine q_getR zi_225_13 rfl cf_195_18 ?_
          refine r_il2 zi_225_16 rfl ?_
          refine r_alde zi_225_17 rfl l ca_205 (by first | rfl | (simp only [zI_add, zI_mul] <;> rfl)) (by first | omega | decide) (u := nI (Wd l)) (by first | exact h17 | ((repeat (first | rw [zup_ne (by first | decide | omega)] | rw [zup_nj (by first | decide | omega)] | rw [fil_ne (by first | decide | omega)])) <;> exact h17) | (simp [up_rd, fil_rd]; exact h17)) ?_
          refine r_il1 zi_225_18 rfl ?_
          refine n_ic1 (i := (Wd l)) (j := w) zi_225_19 rfl (by omega) (by omega) (fun c => absurd c (by omega)) (fun _ => ?_)
          refine r_al0 zi_225_22 rfl ?_
          refine q_getR zi_225_23 rfl cf_195_20 ?_
          refine r_il2 zi_225_26 rfl ?_
          refine r_alde zi_225_27 rfl l ca_207 (by first | rfl | (simp only [zI_add, zI_mul] <;> rfl)) (by first | omega | decide) (u := nI (Wh l)) (by first | exact h27 | ((repeat (first | rw [zup_ne (by first | decide | omega)] | rw [zup_nj (by first | decide | omega)] | rw [fil_ne (by first | decide | omega)])) <;> exact h27) | (simp [up_rd, fil_rd]; exact h27)) ?_
          refine r_al0 zi_225_28 rfl ?_
          refine q_getR zi_225_29 rfl cf_195_21 ?_
          refine r_il2 zi_225_32 rfl ?_
          refine r_alde zi_225_33 rfl l ca_208 (by first | rfl | (simp only [zI_add, zI_mul] <;> rfl)) (by first | omega | decide) (u := nI (To l)) (by first | exact h33 | ((repeat (first | rw [zup_ne (by first | decide | omega)] | rw [zup_nj (by first | decide | omega)] | rw [fil_ne (by first | decide | omega)])) <;> exact h33) | (simp [up_rd, fil_rd]; exact h33)) ?_
          refine n_ic0 (i := (Wh l)) (j := (To l)) zi_225_34 rfl (by omega) (by omega) (fun c => absurd c (by omega)) (fun _ => ?_)
          refine r_al0 zi_225_37 rfl ?_
          refine r_push zi_225_38 rfl ?_
          refine r_al0 zi_225_39 rfl ?_
          refine q_getR zi_225_40 rfl cf_195_20 ?_
          refine r_il2 zi_225_43 rfl ?_
          refine r_alde zi_225_44 rfl l ca_207 (by first | rfl | (simp only [zI_add, zI_mul] <;> rfl)) (by first | omega | decide) (u := nI (Wh l)) (by first | exact h27 | ((repeat (first | rw [zup_ne (by first | decide | omega)] | rw [zup_nj (by first | decide | omega)] | rw [fil_ne (by first | decide | omega)])) <;> exact h27) | (simp [up_rd, fil_rd]; exact h27)) ?_
          refine r_al0 zi_225_45 rfl ?_
          refine q_getR zi_225_46 rfl cf_195_21 ?_
          refine r_il2 zi_225_49 rfl ?_
          refine r_alde zi_225_50 rfl l ca_208 (by first | rfl | (simp only [zI_add, zI_mul] <;> rfl)) (by first | omega | decide) (u := nI (To l)) (by first | exact h33 | ((repeat (first | rw [zup_ne (by first | decide | omega)] | rw [zup_nj (by first | decide | omega)] | rw [fil_ne (by first | decide | omega)])) <;> exact h33) | (simp [up_rd, fil_rd]; exact h33)) ?_
          refine q_cIV zi_225_51 rfl rfl rfl rfl rfl rfl rfl cf_195_0.ob (s_runs g3 g4 hF' hcd (g6 (by omega)) (fun τ2 hF2 => ?_))
          show zk _ _ 54 _ _ _ _
          refine r_if0 zi_225_54 rfl (fun _ => ?_) (fun c => absurd hv c)
          refine r_in2 zi_225_59 rfl ?_
          rw [show (nI l + 1 : Int32) = nI (l + 1) from nI_add _ _]
          refine r_goto zi_225_62 rfl ?_
          exact ih (l + 1) τ2 (by omega) he (hFr.tr hF2)
        · have hc : Wd l = w ∧ zcnd Wh To O A F l := ⟨hwd, Or.inr hv⟩
          rw [zfst_t hc] at he
          refine r_il2 zi_225_2 rfl ?_
          refine r_al0 zi_225_3 rfl ?_
          refine q_getR zi_225_4 rfl cf_195_17 ?_
          refine r_push zi_225_7 rfl ?_
          refine r_alde zi_225_8 rfl 0 ca_204 (by first | rfl | (simp only [zI_add, zI_mul] <;> rfl)) (by first | omega | decide) (u := nI n) (by first | exact hn | ((repeat (first | rw [zup_ne (by first | decide | omega)] | rw [zup_nj (by first | decide | omega)] | rw [fil_ne (by first | decide | omega)])) <;> exact hn) | (simp [up_rd, fil_rd]; exact hn)) ?_
          refine n_ic3 (i := l) (j := n) zi_225_9 rfl (by omega) (by omega) (fun c => absurd c (by omega)) (fun _ => ?_)
          refine r_al0 zi_225_12 rfl ?_
          refine q_getR zi_225_13 rfl cf_195_18 ?_
          refine r_il2 zi_225_16 rfl ?_
          refine r_alde zi_225_17 rfl l ca_205 (by first | rfl | (simp only [zI_add, zI_mul] <;> rfl)) (by first | omega | decide) (u := nI (Wd l)) (by first | exact h17 | ((repeat (first | rw [zup_ne (by first | decide | omega)] | rw [zup_nj (by first | decide | omega)] | rw [fil_ne (by first | decide | omega)])) <;> exact h17) | (simp [up_rd, fil_rd]; exact h17)) ?_
          refine r_il1 zi_225_18 rfl ?_
          refine n_ic1 (i := (Wd l)) (j := w) zi_225_19 rfl (by omega) (by omega) (fun c => absurd c (by omega)) (fun _ => ?_)
          refine r_al0 zi_225_22 rfl ?_
          refine q_getR zi_225_23 rfl cf_195_20 ?_
          refine r_il2 zi_225_26 rfl ?_
          refine r_alde zi_225_27 rfl l ca_207 (by first | rfl | (simp only [zI_add, zI_mul] <;> rfl)) (by first | omega | decide) (u := nI (Wh l)) (by first | exact h27 | ((repeat (first | rw [zup_ne (by first | decide | omega)] | rw [zup_nj (by first | decide | omega)] | rw [fil_ne (by first | decide | omega)])) <;> exact h27) | (simp [up_rd, fil_rd]; exact h27)) ?_
          refine r_al0 zi_225_28 rfl ?_
          refine q_getR zi_225_29 rfl cf_195_21 ?_
          refine r_il2 zi_225_32 rfl ?_
          refine r_alde zi_225_33 rfl l ca_208 (by first | rfl | (simp only [zI_add, zI_mul] <;> rfl)) (by first | omega | decide) (u := nI (To l)) (by first | exact h33 | ((repeat (first | rw [zup_ne (by first | decide | omega)] | rw [zup_nj (by first | decide | omega)] | rw [fil_ne (by first | decide | omega)])) <;> exact h33) | (simp [up_rd, fil_rd]; exact h33)) ?_
          refine n_ic0 (i := (Wh l)) (j := (To l)) zi_225_34 rfl (by omega) (by omega) (fun c => absurd c (by omega)) (fun _ => ?_)
          refine r_al0 zi_225_37 rfl ?_
          refine r_push zi_225_38 rfl ?_
          refine r_al0 zi_225_39 rfl ?_
          refine q_getR zi_225_40 rfl cf_195_20 ?_
          refine r_il2 zi_225_43 rfl ?_
          refine r_alde zi_225_44 rfl l ca_207 (by first | rfl | (simp only [zI_add, zI_mul] <;> rfl)) (by first | omega | decide) (u := nI (Wh l)) (by first | exact h27 | ((repeat (first | rw [zup_ne (by first | decide | omega)] | rw [zup_nj (by first | decide | omega)] | rw [fil_ne (by first | decide | omega)])) <;> exact h27) | (simp [up_rd, fil_rd]; exact h27)) ?_
          refine r_al0 zi_225_45 rfl ?_
          refine q_getR zi_225_46 rfl cf_195_21 ?_
          refine r_il2 zi_225_49 rfl ?_
          refine r_alde zi_225_50 rfl l ca_208 (by first | rfl | (simp only [zI_add, zI_mul] <;> rfl)) (by first | omega | decide) (u := nI (To l)) (by first | exact h33 | ((repeat (first | rw [zup_ne (by first | decide | omega)] | rw [zup_nj (by first | decide | omega)] | rw [fil_ne (by first | decide | omega)])) <;> exact h33) | (simp [up_rd, fil_rd]; exact h33)) ?_
          refine q_cIV zi_225_51 rfl rfl rfl rfl rfl rfl rfl cf_195_0.ob (s_runs g3 g4 hF' hcd (g6 (by omega)) (fun τ2 hF2 => ?_))
          show zk _ _ 54 _ _ _ _
          refine r_if0 zi_225_54 rfl (fun c => absurd c hv) (fun _ => ?_)
          refine r_il2 zi_225_57 rfl ?_
          refine r_retI zi_225_58 rfl ?_
          have hq := hq τ2 (hFr.tr hF2)
          rw [he] at hq
          exact ⟨_, rfl, hq⟩
    · have hc : ¬ (Wd l = w ∧ zcnd Wh To O A F l) := fun z => hwd z.1
      rw [zfst_f hc] at he
      refine r_il2 zi_225_2 rfl ?_
      refine r_al0 zi_225_3 rfl ?_
      refine q_getR zi_225_4 rfl cf_195_17 ?_
      refine r_push zi_225_7 rfl ?_
      refine r_alde zi_225_8 rfl 0 ca_204 (by first | rfl | (simp only [zI_add, zI_mul] <;> rfl)) (by first | omega | decide) (u := nI n) (by first | exact hn | ((repeat (first | rw [zup_ne (by first | decide | omega)] | rw [zup_nj (by first | decide | omega)] | rw [fil_ne (by first | decide | omega)])) <;> exact hn) | (simp [up_rd, fil_rd]; exact hn)) ?_
      refine n_ic3 (i := l) (j := n) zi_225_9 rfl (by omega) (by omega) (fun c => absurd c (by omega)) (fun _ => ?_)
      refine r_al0 zi_225_12 rfl ?_
      refine q_getR zi_225_13 rfl cf_195_18 ?_
      refine r_il2 zi_225_16 rfl ?_
      refine r_alde zi_225_17 rfl l ca_205 (by first | rfl | (simp only [zI_add, zI_mul] <;> rfl)) (by first | omega | decide) (u := nI (Wd l)) (by first | exact h17 | ((repeat (first | rw [zup_ne (by first | decide | omega)] | rw [zup_nj (by first | decide | omega)] | rw [fil_ne (by first | decide | omega)])) <;> exact h17) | (simp [up_rd, fil_rd]; exact h17)) ?_
      refine r_il1 zi_225_18 rfl ?_
      refine n_ic1 (i := (Wd l)) (j := w) zi_225_19 rfl (by omega) (by omega) (fun _ => ?_) (fun c => absurd c (by omega))
      refine r_in2 zi_225_59 rfl ?_
      rw [show (nI l + 1 : Int32) = nI (l + 1) from nI_add _ _]
      refine r_goto zi_225_62 rfl ?_
      exact ih (l + 1) τ (by omega) he hFr
theorem zfst_lt {Wd Wh To O A : Nat → Nat} {F : Nat → Int32} {w : Nat} : ∀ (m l r : Nat), zfst Wd Wh To O A F w m l = some r → l ≤ r ∧ r < l + m
  | 0, l, r, h => by cases h
  | m + 1, l, r, h => by
    by_cases hc : Wd l = w ∧ zcnd Wh To O A F l
    · rw [zfst_t hc] at h; cases h; omega
    · rw [zfst_f hc] at h; have := zfst_lt m (l + 1) r h; omega
theorem s_lawTells {d n w : Nat} {σ : zS} {Q : Int32 → zS → Prop} {Wd Fr' Wh To O A : Nat → Nat} {F : Nat → Int32} {without most : Int32} (hL : zLw n Wd Fr' Wh To O A) (hM : zLwM σ n Wd Fr' Wh To O A) (hw : w ≤ 2) (hF : ∀ j, j < 10 → σ 215 j = F j) (hq : ∀ τ, Fr [216] σ τ → Q (zhld (zlv Fr' Wh O A F without (zfst Wd Wh To O A F w n 0)) most) τ) : zI1 (d + 3) 227 [.ref 195, .int (nI w), .int without, .int most] σ Q := by
  have hline : ∀ (Q2 : Int32 → zS → Prop), (∀ τ, Fr [216] σ τ → Q2 (match zfst Wd Wh To O A F w n 0 with | none => -1 | some l => nI l) τ) → zI1 (d + 2) 225 [.ref 195, .int (nI w)] σ Q2 := by
    intro Q2 hq2
    show zk _ _ 0 [.ref 195, .int (nI w), zun] [] _ _
    refine r_push zi_225_0 rfl ?_
    refine r_is2 zi_225_1 rfl ?_
    exact l_lineOf hL hM hw hF hq2 n 0 σ (by omega) rfl Fr.rf
  show zk _ _ 0 [.ref 195, .int (nI w), .int without, .int most, zun] [] _ _
  cases hz : zfst Wd Wh To O A F w n 0 with
  | none =>
    rw [hz] at hline hq
    refine r_al0 zi_227_0 rfl ?_
    refine r_il1 zi_227_1 rfl ?_
    refine q_cIV zi_227_2 rfl rfl rfl rfl rfl rfl rfl cf_195_0.ob (hline _ (fun τ hF2 => ?_))
    show zk _ _ 5 _ _ _ _
    show zk _ _ 5 _ [.int (-1)] _ _
    refine r_is4 zi_227_5 rfl ?_
    refine r_al0 zi_227_7 rfl ?_
    refine r_il4 zi_227_8 rfl ?_
    refine r_push zi_227_10 rfl ?_
    refine r_ic1 zi_227_11 rfl (fun c => absurd (by decide) c) (fun _ => ?_)
    refine r_il2 zi_227_14 rfl ?_
    refine r_goto zi_227_15 rfl ?_
    refine r_push zi_227_37 rfl ?_
    refine r_il3 zi_227_38 rfl ?_
    refine q_cIV zi_227_39 rfl rfl rfl rfl rfl rfl rfl cf_195_0.ob (s_held ?_)
    show zk _ _ 42 _ _ _ _
    refine r_retI zi_227_42 rfl ?_
    exact ⟨_, rfl, hq τ hF2⟩
  | some l =>
    have hl := zfst_lt _ _ _ hz
    obtain ⟨m1, m2, m3, m4, m5⟩ := hM.2 l (by omega)
    obtain ⟨g1, g2, g3, g4, ⟨kf, g5⟩, g6⟩ := hL.2 l (by omega)
    have hn16 := hL.1
    have hne : ¬ nI l = -1 := fun z => absurd (nI_pos' (n := l) (by omega)) (by rw [z]; decide)
    rw [hz] at hline hq
    refine r_al0 zi_227_0 rfl ?_
    refine r_il1 zi_227_1 rfl ?_
    refine q_cIV zi_227_2 rfl rfl rfl rfl rfl rfl rfl cf_195_0.ob (hline _ (fun τ hF2 => ?_))
    show zk _ _ 5 _ _ _ _
    show zk _ _ 5 _ [.int (nI l)] _ _
    refine r_is4 zi_227_5 rfl ?_
    refine r_al0 zi_227_7 rfl ?_
    refine r_il4 zi_227_8 rfl ?_
    refine r_push zi_227_10 rfl ?_
    refine r_ic1 zi_227_11 rfl (fun _ => ?_) (fun c => absurd c hne)
    refine r_al0 zi_227_18 rfl ?_
    refine r_push zi_227_19 rfl ?_
    refine r_al0 zi_227_20 rfl ?_
    refine q_getR zi_227_21 rfl cf_195_19 ?_
    refine r_il4 zi_227_24 rfl ?_
    refine r_alde zi_227_26 rfl l ca_206 (by first | rfl | (simp only [zI_add, zI_mul] <;> rfl)) (by first | omega | decide) (u := nI (Fr' l)) (by rw [hF2 206 (by decide)]; exact m2) ?_
    refine r_al0 zi_227_27 rfl ?_
    refine q_getR zi_227_28 rfl cf_195_20 ?_
    refine r_il4 zi_227_31 rfl ?_
    refine r_alde zi_227_33 rfl l ca_207 (by first | rfl | (simp only [zI_add, zI_mul] <;> rfl)) (by first | omega | decide) (u := nI (Wh l)) (by rw [hF2 207 (by decide)]; exact m3) ?_
    refine q_cIV zi_227_34 rfl rfl rfl rfl rfl rfl rfl cf_195_0.ob (s_runs g2 (by omega) (fun j hj => (hF2 215 (by decide) j).trans (hF j hj)) (fun j h1 h2 => ⟨(hF2 209 (by decide) j).trans (m5 j h1 (by omega)).1, (hF2 210 (by decide) j).trans (m5 j h1 (by omega)).2⟩) g5 (fun τ2 hF3 => ?_))
    show zk _ _ 37 _ _ _ _
    refine r_push zi_227_37 rfl ?_
    refine r_il3 zi_227_38 rfl ?_
    refine q_cIV zi_227_39 rfl rfl rfl rfl rfl rfl rfl cf_195_0.ob (s_held ?_)
    show zk _ _ 42 _ _ _ _
    refine r_retI zi_227_42 rfl ?_
    exact ⟨_, rfl, hq τ2 (hF2.tr hF3)⟩

