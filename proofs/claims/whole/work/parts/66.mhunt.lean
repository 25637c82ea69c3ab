/-! MODEL: caught -/
theorem zsn_far {B : Nat → Int32} {V : Nat → Nat → Nat} {p q : Nat} : ∀ n, zsn B V p q n ≤ 100000000
  | 0 => Nat.le_refl _
  | n + 1 => by have := zsn_far (B := B) (V := V) (p := p) (q := q) n; unfold zsn; split <;> omega
abbrev zVs (σ : zS) (k : Nat) (V : Nat → Nat → Nat) : Prop := ∀ i, i < 144 → σ k i = nI (V (i / 12) (i % 12))
theorem zVs_at {σ : zS} {k : Nat} {V : Nat → Nat → Nat} (h : zVs σ k V) {p q : Nat} (hp : p < 12) (hq : q < 12) : σ k (12 * p + q) = nI (V p q) := by
  rw [h _ (by omega), show (12 * p + q) / 12 = p by omega, show (12 * p + q) % 12 = q by omega]
theorem l_late {d g q : Nat} {σ : zS} {Q : Int32 → zS → Prop} {V : Nat → Nat → Nat} (hV : zVs σ 220 V) (hb : ∀ o, o < 12 → V g o ≤ 100000000) (hg : g < 12) (hq : q < 12) (h : Q (nI (zlm (σ 214) V g q 12)) σ) : ∀ (m o : Nat), o + m = 12 → zk (d + 1) 255 5 [.ref 195, .int (nI g), .int (nI q), .int (nI (zlm (σ 214) V g q o)), .int (nI o)] [] σ (fun r t => ∃ v, r = some v ∧ Q v t) := by
  intro m
  induction m with
  | zero =>
    intro o ho
    have e12 : o = 12 := by omega
    subst e12
    refine r_il4 zi_255_5 rfl ?_
    refine r_push zi_255_7 rfl ?_
    refine r_ic3 zi_255_9 rfl (fun _ => ?_) (fun c => absurd (by decide) c)
    refine r_il3 zi_255_63 rfl ?_
    refine r_retI zi_255_64 rfl ?_
    exact ⟨_, rfl, h⟩
  | succ m ih =>
    intro o ho
    have hv := zVs_at hV hg (show o < 12 by omega)
    have b1 : zlm (σ 214) V g q o ≤ 100000000 := (zlm_le o).mpr (fun x hx _ _ => hb x (by omega))
    have b2 := hb o (by omega)
    have e1 : zlm (σ 214) V g q (o + 1) = if (o = q ∨ zbt (σ 214 q) o = true) ∧ ¬ o = g then max (zlm (σ 214) V g q o) (V g o) else zlm (σ 214) V g q o := rfl
    have ih := ih (o + 1) (by omega)
    rw [e1] at ih
    generalize zlm (σ 214) V g q o = zl at *
    generalize V g o = vv at *
    refine r_il4 zi_255_5 rfl ?_
    refine r_push zi_255_7 rfl ?_
    refine n_ic3 (i := o) (j := 12) zi_255_9 rfl (by omega) (by omega) (fun c => absurd c (by omega)) (fun _ => ?_)
    refine r_il4 zi_255_12 rfl ?_
    refine r_il2 zi_255_14 rfl ?_
    refine n_ic0 (i := o) (j := q) zi_255_15 rfl (by omega) (by omega) (fun c1 => ?_) (fun c1 => ?_)
    · refine r_il4 zi_255_33 rfl ?_
      refine r_il1 zi_255_35 rfl ?_
      refine n_ic0 (i := o) (j := g) zi_255_36 rfl (by omega) (by omega) (fun c2 => ?_) (fun c2 => ?_)
      · refine r_in4 zi_255_57 rfl ?_
        rw [show (nI o + 1 : Int32) = nI (o + 1) from nI_add _ _]
        refine r_goto zi_255_60 rfl ?_
        first
        | (rw [if_pos ⟨by simp_all, by assumption⟩] at ih; exact ih)
        | (rw [if_neg (by simp_all)] at ih; exact ih)
      · refine r_al0 zi_255_39 rfl ?_
        refine r_il3 zi_255_40 rfl ?_
        refine r_al0 zi_255_41 rfl ?_
        refine q_getR zi_255_42 rfl cf_195_44 ?_
        refine r_push zi_255_45 rfl ?_
        refine r_il1 zi_255_47 rfl ?_
        refine r_b2 zi_255_48 rfl ?_
        rw [show (12 * nI g : Int32) = nI (12 * g) from pk_mul _ _]
        refine r_il4 zi_255_49 rfl ?_
        refine r_b0 zi_255_51 rfl ?_
        rw [show (nI (12 * g) + nI o : Int32) = nI ((12 * g) + o) from nI_add _ _]
        refine r_alde zi_255_52 rfl ((12 * g) + o) ca_220 (by first | rfl | (simp only [zI_add, zI_mul] <;> rfl)) (by first | omega | decide) (u := nI vv) (by first | exact hv | ((repeat (first | rw [zup_ne (by first | decide | omega)] | rw [zup_nj (by first | decide | omega)] | rw [fil_ne (by first | decide | omega)])) <;> exact hv) | (simp [up_rd, fil_rd]; exact hv)) ?_
        refine q_cIV zi_255_53 rfl rfl rfl rfl rfl rfl rfl cf_195_0.ob (s_greater ?_)
        show zk _ _ 56 _ _ _ _
        rw [zmaxI (by omega) (by omega)]
        refine r_is3 zi_255_56 rfl ?_
        refine r_in4 zi_255_57 rfl ?_
        rw [show (nI o + 1 : Int32) = nI (o + 1) from nI_add _ _]
        refine r_goto zi_255_60 rfl ?_
        first
        | (rw [if_pos ⟨by simp_all, by assumption⟩] at ih; exact ih)
        | (rw [if_neg (by simp_all)] at ih; exact ih)
    · refine r_al0 zi_255_18 rfl ?_
      refine r_al0 zi_255_19 rfl ?_
      refine q_getR zi_255_20 rfl cf_195_38 ?_
      refine r_il2 zi_255_23 rfl ?_
      refine r_ald zi_255_24 rfl q ca_214 (by first | rfl | (simp only [zI_add, zI_mul] <;> rfl)) (by first | omega | decide) ?_
      refine r_il4 zi_255_25 rfl ?_
      refine q_cIV zi_255_27 rfl rfl rfl rfl rfl rfl rfl cf_195_0.ob (s_has (fun i4 => ?_) (fun i4 => ?_))
      · show zk _ _ 30 _ _ _ _
        refine r_if0 zi_255_30 rfl (fun c => absurd c (by decide)) (fun _ => ?_)
        refine r_il4 zi_255_33 rfl ?_
        refine r_il1 zi_255_35 rfl ?_
        refine n_ic0 (i := o) (j := g) zi_255_36 rfl (by omega) (by omega) (fun c5 => ?_) (fun c5 => ?_)
        · refine r_in4 zi_255_57 rfl ?_
          rw [show (nI o + 1 : Int32) = nI (o + 1) from nI_add _ _]
          refine r_goto zi_255_60 rfl ?_
          first
          | (rw [if_pos ⟨by simp_all, by assumption⟩] at ih; exact ih)
          | (rw [if_neg (by simp_all)] at ih; exact ih)
        · refine r_al0 zi_255_39 rfl ?_
          refine r_il3 zi_255_40 rfl ?_
          refine r_al0 zi_255_41 rfl ?_
          refine q_getR zi_255_42 rfl cf_195_44 ?_
          refine r_push zi_255_45 rfl ?_
          refine r_il1 zi_255_47 rfl ?_
          refine r_b2 zi_255_48 rfl ?_
          rw [show (12 * nI g : Int32) = nI (12 * g) from pk_mul _ _]
          refine r_il4 zi_255_49 rfl ?_
          refine r_b0 zi_255_51 rfl ?_
          rw [show (nI (12 * g) + nI o : Int32) = nI ((12 * g) + o) from nI_add _ _]
          refine r_alde zi_255_52 rfl ((12 * g) + o) ca_220 (by first | rfl | (simp only [zI_add, zI_mul] <;> rfl)) (by first | omega | decide) (u := nI vv) (by first | exact hv | ((repeat (first | rw [zup_ne (by first | decide | omega)] | rw [zup_nj (by first | decide | omega)] | rw [fil_ne (by first | decide | omega)])) <;> exact hv) | (simp [up_rd, fil_rd]; exact hv)) ?_
          refine q_cIV zi_255_53 rfl rfl rfl rfl rfl rfl rfl cf_195_0.ob (s_greater ?_)
          show zk _ _ 56 _ _ _ _
          rw [zmaxI (by omega) (by omega)]
          refine r_is3 zi_255_56 rfl ?_
          refine r_in4 zi_255_57 rfl ?_
          rw [show (nI o + 1 : Int32) = nI (o + 1) from nI_add _ _]
          refine r_goto zi_255_60 rfl ?_
          first
          | (rw [if_pos ⟨by simp_all, by assumption⟩] at ih; exact ih)
          | (rw [if_neg (by simp_all)] at ih; exact ih)
      · show zk _ _ 30 _ _ _ _
        refine r_if0 zi_255_30 rfl (fun _ => ?_) (fun c => absurd (by decide) c)
        refine r_in4 zi_255_57 rfl ?_
        rw [show (nI o + 1 : Int32) = nI (o + 1) from nI_add _ _]
        refine r_goto zi_255_60 rfl ?_
        first
        | (rw [if_pos ⟨by simp_all, by assumption⟩] at ih; exact ih)
        | (rw [if_neg (by simp_all)] at ih; exact ih)
theorem s_late {d g q : Nat} {σ : zS} {Q : Int32 → zS → Prop} {V : Nat → Nat → Nat} (hV : zVs σ 220 V) (hb : ∀ o, o < 12 → V g o ≤ 100000000) (hg : g < 12) (hq : q < 12) (h : Q (nI (zlm (σ 214) V g q 12)) σ) : zI1 (d + 1) 255 [.ref 195, .int (nI g), .int (nI q)] σ Q := by
  show zk _ _ 0 [.ref 195, .int (nI g), .int (nI q), zun, zun] [] _ _
  refine r_push zi_255_0 rfl ?_
  refine r_is3 zi_255_1 rfl ?_
  refine r_push zi_255_2 rfl ?_
  refine r_is4 zi_255_3 rfl ?_
  exact l_late hV hb hg hq h 12 0 (by omega)
theorem l_soon {d p q : Nat} {σ : zS} {Q : Int32 → zS → Prop} {V : Nat → Nat → Nat} (hV : zVs σ 220 V) (hb : ∀ g o, g < 12 → o < 12 → V g o ≤ 100000000) (hp : p < 12) (hq : q < 12) (h : Q (nI (zsn (σ 214) V p q 12)) σ) : ∀ (m g : Nat), g + m = 12 → zk (d + 2) 256 7 [.ref 195, .int (nI p), .int (nI q), .int (nI (zsn (σ 214) V p q g)), .int (nI g)] [] σ (fun r t => ∃ v, r = some v ∧ Q v t) := by
  intro m
  induction m with
  | zero =>
    intro g hg
    have e12 : g = 12 := by omega
    subst e12
    refine r_il4 zi_256_7 rfl ?_
    refine r_push zi_256_9 rfl ?_
    refine r_ic3 zi_256_11 rfl (fun _ => ?_) (fun c => absurd (by decide) c)
    refine r_il3 zi_256_76 rfl ?_
    refine r_retI zi_256_77 rfl ?_
    exact ⟨_, rfl, h⟩
  | succ m ih =>
    intro g hg
    have b0 : ∀ n, zsn (σ 214) V p q n ≤ 100000000 := by
      intro n
      induction n with
      | zero => exact Nat.le_refl _
      | succ n ih => unfold zsn; split <;> omega
    have b1 := b0 g
    have b2 : zlm (σ 214) V g q 12 ≤ 100000000 := (zlm_le 12).mpr (fun x hx _ _ => hb g x (by omega) hx)
    have e1 : zsn (σ 214) V p q (g + 1) = if g = p ∨ zbt (σ 214 p) g = true then min (zsn (σ 214) V p q g) (if g = q then 1 else min 100000000 (zlm (σ 214) V g q 12 + 1)) else zsn (σ 214) V p q g := rfl
    have ih := ih (g + 1) (by omega)
    rw [e1] at ih
    have hl : ∀ {d : Nat} {Q : Int32 → zS → Prop}, Q (nI (zlm (σ 214) V g q 12)) σ → zI1 (d + 1) 255 [.ref 195, .int (nI g), .int (nI q)] σ Q := fun h => s_late hV (fun o ho => hb g o (by omega) ho) (by omega) hq h
    generalize zsn (σ 214) V p q g = zl at *
    generalize zlm (σ 214) V g q 12 = vv at *
    have m1 := zminI (a := 100000000) (b := vv + 1) (by omega) (by omega)
    have m2 := zminI (a := zl) (b := 1) (by omega) (by omega)
    have m3 := zminI (a := zl) (b := min 100000000 (vv + 1)) (by omega) (by omega)
    change (if (100000000 : Int32) < nI (vv + 1) then 100000000 else nI (vv + 1)) = _ at m1
    change (if nI zl < 1 then nI zl else 1) = _ at m2
    refine r_il4 zi_256_7 rfl ?_
    refine r_push zi_256_9 rfl ?_
    refine n_ic3 (i := g) (j := 12) zi_256_11 rfl (by omega) (by omega) (fun c => absurd c (by omega)) (fun _ => ?_)
    refine r_il4 zi_256_14 rfl ?_
    refine r_il1 zi_256_16 rfl ?_
    refine n_ic0 (i := g) (j := p) zi_256_17 rfl (by omega) (by omega) (fun c1 => ?_) (fun c1 => ?_)
    · refine r_al0 zi_256_38 rfl ?_
      refine r_il3 zi_256_39 rfl ?_
      refine r_il4 zi_256_40 rfl ?_
      refine r_il2 zi_256_42 rfl ?_
      refine n_ic1 (i := g) (j := q) zi_256_43 rfl (by omega) (by omega) (fun c2 => ?_) (fun c2 => ?_)
      · refine r_al0 zi_256_50 rfl ?_
        refine r_push zi_256_51 rfl ?_
        refine r_al0 zi_256_54 rfl ?_
        refine r_il4 zi_256_55 rfl ?_
        refine r_il2 zi_256_57 rfl ?_
        refine q_cIV zi_256_58 rfl rfl rfl rfl rfl rfl rfl cf_195_0.ob (hl ?_)
        show zk _ _ 61 _ _ _ _
        refine r_push zi_256_61 rfl ?_
        refine r_b0 zi_256_62 rfl ?_
        rw [show (nI vv + 1 : Int32) = nI (vv + 1) from nI_add _ _]
        refine q_cIV zi_256_63 rfl rfl rfl rfl rfl rfl rfl cf_195_0.ob (s_lesser ?_)
        show zk _ _ 66 _ _ _ _
        try rw [m1]
        refine q_cIV zi_256_66 rfl rfl rfl rfl rfl rfl rfl cf_195_0.ob (s_lesser ?_)
        show zk _ _ 69 _ _ _ _
        first | rw [m2] | rw [m3]
        refine r_is3 zi_256_69 rfl ?_
        refine r_in4 zi_256_70 rfl ?_
        rw [show (nI g + 1 : Int32) = nI (g + 1) from nI_add _ _]
        refine r_goto zi_256_73 rfl ?_
        first
        | (rw [if_pos (by simp_all), if_pos (by assumption)] at ih; exact ih)
        | (rw [if_pos (by simp_all), if_neg (by assumption)] at ih; exact ih)
        | (rw [if_neg (by simp_all)] at ih; exact ih)
      · refine r_push zi_256_46 rfl ?_
        refine r_goto zi_256_47 rfl ?_
        try rw [m1]
        refine q_cIV zi_256_66 rfl rfl rfl rfl rfl rfl rfl cf_195_0.ob (s_lesser ?_)
        show zk _ _ 69 _ _ _ _
        first | rw [m2] | rw [m3]
        refine r_is3 zi_256_69 rfl ?_
        refine r_in4 zi_256_70 rfl ?_
        rw [show (nI g + 1 : Int32) = nI (g + 1) from nI_add _ _]
        refine r_goto zi_256_73 rfl ?_
        first
        | (rw [if_pos (by simp_all), if_pos (by assumption)] at ih; exact ih)
        | (rw [if_pos (by simp_all), if_neg (by assumption)] at ih; exact ih)
        | (rw [if_neg (by simp_all)] at ih; exact ih)
    · refine r_al0 zi_256_20 rfl ?_
      refine r_al0 zi_256_21 rfl ?_
      refine q_getR zi_256_22 rfl cf_195_38 ?_
      refine r_il1 zi_256_25 rfl ?_
      refine r_ald zi_256_26 rfl p ca_214 (by first | rfl | (simp only [zI_add, zI_mul] <;> rfl)) (by first | omega | decide) ?_
      refine r_il4 zi_256_27 rfl ?_
      refine q_cIV zi_256_29 rfl rfl rfl rfl rfl rfl rfl cf_195_0.ob (s_has (fun i7 => ?_) (fun i7 => ?_))
      · show zk _ _ 32 _ _ _ _
        refine r_if1 zi_256_32 rfl (fun _ => ?_) (fun c => absurd c (by decide))
        refine r_al0 zi_256_38 rfl ?_
        refine r_il3 zi_256_39 rfl ?_
        refine r_il4 zi_256_40 rfl ?_
        refine r_il2 zi_256_42 rfl ?_
        refine n_ic1 (i := g) (j := q) zi_256_43 rfl (by omega) (by omega) (fun c8 => ?_) (fun c8 => ?_)
        · refine r_al0 zi_256_50 rfl ?_
          refine r_push zi_256_51 rfl ?_
          refine r_al0 zi_256_54 rfl ?_
          refine r_il4 zi_256_55 rfl ?_
          refine r_il2 zi_256_57 rfl ?_
          refine q_cIV zi_256_58 rfl rfl rfl rfl rfl rfl rfl cf_195_0.ob (hl ?_)
          show zk _ _ 61 _ _ _ _
          refine r_push zi_256_61 rfl ?_
          refine r_b0 zi_256_62 rfl ?_
          rw [show (nI vv + 1 : Int32) = nI (vv + 1) from nI_add _ _]
          refine q_cIV zi_256_63 rfl rfl rfl rfl rfl rfl rfl cf_195_0.ob (s_lesser ?_)
          show zk _ _ 66 _ _ _ _
          try rw [m1]
          refine q_cIV zi_256_66 rfl rfl rfl rfl rfl rfl rfl cf_195_0.ob (s_lesser ?_)
          show zk _ _ 69 _ _ _ _
          first | rw [m2] | rw [m3]
          refine r_is3 zi_256_69 rfl ?_
          refine r_in4 zi_256_70 rfl ?_
          rw [show (nI g + 1 : Int32) = nI (g + 1) from nI_add _ _]
          refine r_goto zi_256_73 rfl ?_
          first
          | (rw [if_pos (by simp_all), if_pos (by assumption)] at ih; exact ih)
          | (rw [if_pos (by simp_all), if_neg (by assumption)] at ih; exact ih)
          | (rw [if_neg (by simp_all)] at ih; exact ih)
        · refine r_push zi_256_46 rfl ?_
          refine r_goto zi_256_47 rfl ?_
          try rw [m1]
          refine q_cIV zi_256_66 rfl rfl rfl rfl rfl rfl rfl cf_195_0.ob (s_lesser ?_)
          show zk _ _ 69 _ _ _ _
          first | rw [m2] | rw [m3]
          refine r_is3 zi_256_69 rfl ?_
          refine r_in4 zi_256_70 rfl ?_
          rw [show (nI g + 1 : Int32) = nI (g + 1) from nI_add _ _]
          refine r_goto zi_256_73 rfl ?_
          first
          | (rw [if_pos (by simp_all), if_pos (by assumption)] at ih; exact ih)
          | (rw [if_pos (by simp_all), if_neg (by assumption)] at ih; exact ih)
          | (rw [if_neg (by simp_all)] at ih; exact ih)
      · show zk _ _ 32 _ _ _ _
        refine r_if1 zi_256_32 rfl (fun c => absurd (by decide) c) (fun _ => ?_)
        refine r_goto zi_256_35 rfl ?_
        refine r_in4 zi_256_70 rfl ?_
        rw [show (nI g + 1 : Int32) = nI (g + 1) from nI_add _ _]
        refine r_goto zi_256_73 rfl ?_
        first
        | (rw [if_pos (by simp_all), if_pos (by assumption)] at ih; exact ih)
        | (rw [if_pos (by simp_all), if_neg (by assumption)] at ih; exact ih)
        | (rw [if_neg (by simp_all)] at ih; exact ih)
theorem s_soon {d p q : Nat} {σ : zS} {Q : Int32 → zS → Prop} {V : Nat → Nat → Nat} (hV : zVs σ 220 V) (hb : ∀ g o, g < 12 → o < 12 → V g o ≤ 100000000) (hp : p < 12) (hq : q < 12) (h : Q (nI (zsn (σ 214) V p q 12)) σ) : zI1 (d + 2) 256 [.ref 195, .int (nI p), .int (nI q)] σ Q := by
  show zk _ _ 0 [.ref 195, .int (nI p), .int (nI q), zun, zun] [] _ _
  refine r_push zi_256_0 rfl ?_
  refine r_is3 zi_256_3 rfl ?_
  refine r_push zi_256_4 rfl ?_
  refine r_is4 zi_256_5 rfl ?_
  exact l_soon hV hb hp hq h 12 0 (by omega)
theorem l_fs1 {d : Nat} {σ : zS} {R : Option Int32 → zS → Prop} {V : Nat → Nat → Nat} (hV : zVs σ 220 V) (hb : ∀ g o, g < 12 → o < 12 → V g o ≤ 100000000) (h : ∀ τ w, Fr [221] σ τ → zVs τ 221 (zvn (σ 214) V) → ((w = 0 ∧ ∀ i, i < 144 → zvn (σ 214) V (i / 12) (i % 12) = V (i / 12) (i % 12)) ∨ (w = 1 ∧ ∃ i, i < 144 ∧ zvn (σ 214) V (i / 12) (i % 12) ≠ V (i / 12) (i % 12))) → zk (d + 3) 257 112 [.ref 195, .int w, .int (nI 144)] [] τ R) : ∀ (m i : Nat) (τ : zS) (w : Int32), i + m = 144 → Fr [221] σ τ → (∀ j, j < i → τ 221 j = nI (zvn (σ 214) V (j / 12) (j % 12))) → ((w = 0 ∧ ∀ j, j < i → zvn (σ 214) V (j / 12) (j % 12) = V (j / 12) (j % 12)) ∨ (w = 1 ∧ ∃ j, j < i ∧ zvn (σ 214) V (j / 12) (j % 12) ≠ V (j / 12) (j % 12))) → zk (d + 3) 257 49 [.ref 195, .int w, .int (nI i)] [] τ R := by
  intro m
  induction m with
  | zero =>
    intro i τ w hi hF hv hw
    have e12 : i = 144 := by omega
    subst e12
    refine r_il2 zi_257_49 rfl ?_
    refine r_push zi_257_50 rfl ?_
    refine r_ic3 zi_257_53 rfl (fun _ => ?_) (fun c => absurd (by decide) c)
    exact h _ _ hF hv hw
  | succ m ih =>
    intro i τ w hi hF hv hw
    have e1 : τ 214 = σ 214 := funext fun b => hF 214 (by decide) b
    have hVt : zVs τ 220 V := fun j hj => (hF 220 (by decide) j).trans (hV j hj)
    have hvi := hVt i (by omega)
    have hbv := hb (i / 12) (i % 12) (by omega) (by omega)
    have hbn : zvn (σ 214) V (i / 12) (i % 12) ≤ 100000000 := by
      unfold zvn
      split
      · omega
      · exact zsn_far 12
    have hnew : ∀ x, x = nI (zvn (σ 214) V (i / 12) (i % 12)) → ∀ j, j < i + 1 → up τ 221 i x 221 j = nI (zvn (σ 214) V (j / 12) (j % 12)) := fun x hx j hj => by
      rw [up_rd]
      by_cases e : j = i
      · rw [if_pos ⟨rfl, e⟩, hx, e]
      · rw [if_neg (fun z => e z.2)]; exact hv j (by omega)
    have hz1 : ∀ x, x = nI (zvn (σ 214) V (i / 12) (i % 12)) → up τ 221 i x 221 i = nI (zvn (σ 214) V (i / 12) (i % 12)) := fun x hx => by rw [zup_eq, hx]
    have hz2 : ∀ x, up τ 221 i x 220 i = nI (V (i / 12) (i % 12)) := fun x => by rw [zup_ne (by decide)]; exact hvi
    by_cases hc : zvn (σ 214) V (i / 12) (i % 12) = V (i / 12) (i % 12)
    · have hw' : (w = 0 ∧ ∀ j, j < i + 1 → zvn (σ 214) V (j / 12) (j % 12) = V (j / 12) (j % 12)) ∨ (w = 1 ∧ ∃ j, j < i + 1 ∧ zvn (σ 214) V (j / 12) (j % 12) ≠ V (j / 12) (j % 12)) := by
        rcases hw with ⟨a, b⟩ | ⟨a, j, hj, hne⟩
        · exact Or.inl ⟨a, fun j hj => by by_cases e : j = i; (rw [e]; exact hc); exact b j (by omega)⟩
        · exact Or.inr ⟨a, j, by omega, hne⟩
      by_cases hpq : i / 12 = i % 12
      · have ez : (0 : Int32) = nI (zvn (σ 214) V (i / 12) (i % 12)) := by unfold zvn; rw [if_pos hpq]; rfl
        refine r_il2 zi_257_49 rfl ?_
        refine r_push zi_257_50 rfl ?_
        refine n_ic3 (i := i) (j := 144) zi_257_53 rfl (by omega) (by omega) (fun c => absurd c (by omega)) (fun _ => ?_)
        refine r_al0 zi_257_56 rfl ?_
        refine q_getR zi_257_57 rfl cf_195_45 ?_
        refine r_il2 zi_257_60 rfl ?_
        refine r_il2 zi_257_61 rfl ?_
        refine r_push zi_257_62 rfl ?_
        refine r_div zi_257_64 rfl (by decide) ?_
        rw [show (nI i / 12 : Int32) = nI (i / 12) from pk_div (d := 12) (by omega) (by omega) (by omega)]
        refine r_il2 zi_257_65 rfl ?_
        refine r_push zi_257_66 rfl ?_
        refine r_rem zi_257_68 rfl (by decide) ?_
        rw [show (nI i % 12 : Int32) = nI (i % 12) from zI_rem (d := 12) (by omega) (by omega) (by omega)]
        refine n_ic1 (i := (i / 12)) (j := (i % 12)) zi_257_69 rfl (by omega) (by omega) (fun c => absurd c (by omega)) (fun _ => ?_)
        refine r_push zi_257_72 rfl ?_
        refine r_goto zi_257_73 rfl ?_
        refine r_ast zi_257_88 rfl i ca_221 (by first | rfl | (simp only [zI_add, zI_mul] <;> rfl)) (by first | omega | decide) ?_
        refine r_al0 zi_257_89 rfl ?_
        refine q_getR zi_257_90 rfl cf_195_45 ?_
        refine r_il2 zi_257_93 rfl ?_
        refine r_alde zi_257_94 rfl i ca_221 (by first | rfl | (simp only [zI_add, zI_mul] <;> rfl)) (by first | omega | decide) (u := nI (zvn (σ 214) V (i / 12) (i % 12))) (by exact hz1 _ ez) ?_
        refine r_al0 zi_257_95 rfl ?_
        refine q_getR zi_257_96 rfl cf_195_44 ?_
        refine r_il2 zi_257_99 rfl ?_
        refine r_alde zi_257_100 rfl i ca_220 (by first | rfl | (simp only [zI_add, zI_mul] <;> rfl)) (by first | omega | decide) (u := nI (V (i / 12) (i % 12))) (by exact hz2 _) ?_
        refine n_ic0 (i := (zvn (σ 214) V (i / 12) (i % 12))) (j := (V (i / 12) (i % 12))) zi_257_101 rfl (by omega) (by omega) (fun _ => ?_) (fun c => absurd c (by omega))
        refine r_in2 zi_257_106 rfl ?_
        rw [show (nI i + 1 : Int32) = nI (i + 1) from nI_add _ _]
        refine r_goto zi_257_109 rfl ?_
        exact ih (i + 1) _ _ (by omega) (hF.put (by decide)) (hnew _ ez) hw'
      · have ez : nI (zsn (τ 214) V (i / 12) (i % 12) 12) = nI (zvn (σ 214) V (i / 12) (i % 12)) := by unfold zvn; rw [if_neg hpq, e1]
        refine r_il2 zi_257_49 rfl ?_
        refine r_push zi_257_50 rfl ?_
        refine n_ic3 (i := i) (j := 144) zi_257_53 rfl (by omega) (by omega) (fun c => absurd c (by omega)) (fun _ => ?_)
        refine r_al0 zi_257_56 rfl ?_
        refine q_getR zi_257_57 rfl cf_195_45 ?_
        refine r_il2 zi_257_60 rfl ?_
        refine r_il2 zi_257_61 rfl ?_
        refine r_push zi_257_62 rfl ?_
        refine r_div zi_257_64 rfl (by decide) ?_
        rw [show (nI i / 12 : Int32) = nI (i / 12) from pk_div (d := 12) (by omega) (by omega) (by omega)]
        refine r_il2 zi_257_65 rfl ?_
        refine r_push zi_257_66 rfl ?_
        refine r_rem zi_257_68 rfl (by decide) ?_
        rw [show (nI i % 12 : Int32) = nI (i % 12) from zI_rem (d := 12) (by omega) (by omega) (by omega)]
        refine n_ic1 (i := (i / 12)) (j := (i % 12)) zi_257_69 rfl (by omega) (by omega) (fun _ => ?_) (fun c => absurd c (by omega))
        refine r_al0 zi_257_76 rfl ?_
        refine r_il2 zi_257_77 rfl ?_
        refine r_push zi_257_78 rfl ?_
        refine r_div zi_257_80 rfl (by decide) ?_
        rw [show (nI i / 12 : Int32) = nI (i / 12) from pk_div (d := 12) (by omega) (by omega) (by omega)]
        refine r_il2 zi_257_81 rfl ?_
        refine r_push zi_257_82 rfl ?_
        refine r_rem zi_257_84 rfl (by decide) ?_
        rw [show (nI i % 12 : Int32) = nI (i % 12) from zI_rem (d := 12) (by omega) (by omega) (by omega)]
        refine q_cIV zi_257_85 rfl rfl rfl rfl rfl rfl rfl cf_195_0.ob (s_soon hVt hb (by omega) (by omega) ?_)
        show zk _ _ 88 _ _ _ _
        refine r_ast zi_257_88 rfl i ca_221 (by first | rfl | (simp only [zI_add, zI_mul] <;> rfl)) (by first | omega | decide) ?_
        refine r_al0 zi_257_89 rfl ?_
        refine q_getR zi_257_90 rfl cf_195_45 ?_
        refine r_il2 zi_257_93 rfl ?_
        refine r_alde zi_257_94 rfl i ca_221 (by first | rfl | (simp only [zI_add, zI_mul] <;> rfl)) (by first | omega | decide) (u := nI (zvn (σ 214) V (i / 12) (i % 12))) (by exact hz1 _ ez) ?_
        refine r_al0 zi_257_95 rfl ?_
        refine q_getR zi_257_96 rfl cf_195_44 ?_
        refine r_il2 zi_257_99 rfl ?_
        refine r_alde zi_257_100 rfl i ca_220 (by first | rfl | (simp only [zI_add, zI_mul] <;> rfl)) (by first | omega | decide) (u := nI (V (i / 12) (i % 12))) (by exact hz2 _) ?_
        refine n_ic0 (i := (zvn (σ 214) V (i / 12) (i % 12))) (j := (V (i / 12) (i % 12))) zi_257_101 rfl (by omega) (by omega) (fun _ => ?_) (fun c => absurd c (by omega))
        refine r_in2 zi_257_106 rfl ?_
        rw [show (nI i + 1 : Int32) = nI (i + 1) from nI_add _ _]
        refine r_goto zi_257_109 rfl ?_
        exact ih (i + 1) _ _ (by omega) (hF.put (by decide)) (hnew _ ez) hw'
    · have hw' : ((1 : Int32) = 0 ∧ ∀ j, j < i + 1 → zvn (σ 214) V (j / 12) (j % 12) = V (j / 12) (j % 12)) ∨ ((1 : Int32) = 1 ∧ ∃ j, j < i + 1 ∧ zvn (σ 214) V (j / 12) (j % 12) ≠ V (j / 12) (j % 12)) := Or.inr ⟨rfl, i, by omega, hc⟩
      by_cases hpq : i / 12 = i % 12
      · have ez : (0 : Int32) = nI (zvn (σ 214) V (i / 12) (i % 12)) := by unfold zvn; rw [if_pos hpq]; rfl
        refine r_il2 zi_257_49 rfl ?_
        refine r_push zi_257_50 rfl ?_
        refine n_ic3 (i := i) (j := 144) zi_257_53 rfl (by omega) (by omega) (fun c => absurd c (by omega)) (fun _ => ?_)
        refine r_al0 zi_257_56 rfl ?_
        refine q_getR zi_257_57 rfl cf_195_45 ?_
        refine r_il2 zi_257_60 rfl ?_
        refine r_il2 zi_257_61 rfl ?_
        refine r_push zi_257_62 rfl ?_
        refine r_div zi_257_64 rfl (by decide) ?_
        rw [show (nI i / 12 : Int32) = nI (i / 12) from pk_div (d := 12) (by omega) (by omega) (by omega)]
        refine r_il2 zi_257_65 rfl ?_
        refine r_push zi_257_66 rfl ?_
        refine r_rem zi_257_68 rfl (by decide) ?_
        rw [show (nI i % 12 : Int32) = nI (i % 12) from zI_rem (d := 12) (by omega) (by omega) (by omega)]
        refine n_ic1 (i := (i / 12)) (j := (i % 12)) zi_257_69 rfl (by omega) (by omega) (fun c => absurd c (by omega)) (fun _ => ?_)
        refine r_push zi_257_72 rfl ?_
        refine r_goto zi_257_73 rfl ?_
        refine r_ast zi_257_88 rfl i ca_221 (by first | rfl | (simp only [zI_add, zI_mul] <;> rfl)) (by first | omega | decide) ?_
        refine r_al0 zi_257_89 rfl ?_
        refine q_getR zi_257_90 rfl cf_195_45 ?_
        refine r_il2 zi_257_93 rfl ?_
        refine r_alde zi_257_94 rfl i ca_221 (by first | rfl | (simp only [zI_add, zI_mul] <;> rfl)) (by first | omega | decide) (u := nI (zvn (σ 214) V (i / 12) (i % 12))) (by exact hz1 _ ez) ?_
        refine r_al0 zi_257_95 rfl ?_
        refine q_getR zi_257_96 rfl cf_195_44 ?_
        refine r_il2 zi_257_99 rfl ?_
        refine r_alde zi_257_100 rfl i ca_220 (by first | rfl | (simp only [zI_add, zI_mul] <;> rfl)) (by first | omega | decide) (u := nI (V (i / 12) (i % 12))) (by exact hz2 _) ?_
        refine n_ic0 (i := (zvn (σ 214) V (i / 12) (i % 12))) (j := (V (i / 12) (i % 12))) zi_257_101 rfl (by omega) (by omega) (fun c => absurd c (by omega)) (fun _ => ?_)
        refine r_push zi_257_104 rfl ?_
        refine r_is1 zi_257_105 rfl ?_
        refine r_in2 zi_257_106 rfl ?_
        rw [show (nI i + 1 : Int32) = nI (i + 1) from nI_add _ _]
        refine r_goto zi_257_109 rfl ?_
        exact ih (i + 1) _ _ (by omega) (hF.put (by decide)) (hnew _ ez) hw'
      · have ez : nI (zsn (τ 214) V (i / 12) (i % 12) 12) = nI (zvn (σ 214) V (i / 12) (i % 12)) := by unfold zvn; rw [if_neg hpq, e1]
        refine r_il2 zi_257_49 rfl ?_
        refine r_push zi_257_50 rfl ?_
        refine n_ic3 (i := i) (j := 144) zi_257_53 rfl (by omega) (by omega) (fun c => absurd c (by omega)) (fun _ => ?_)
        refine r_al0 zi_257_56 rfl ?_
        refine q_getR zi_257_57 rfl cf_195_45 ?_
        refine r_il2 zi_257_60 rfl ?_
        refine r_il2 zi_257_61 rfl ?_
        refine r_push zi_257_62 rfl ?_
        refine r_div zi_257_64 rfl (by decide) ?_
        rw [show (nI i / 12 : Int32) = nI (i / 12) from pk_div (d := 12) (by omega) (by omega) (by omega)]
        refine r_il2 zi_257_65 rfl ?_
        refine r_push zi_257_66 rfl ?_
        refine r_rem zi_257_68 rfl (by decide) ?_
        rw [show (nI i % 12 : Int32) = nI (i % 12) from zI_rem (d := 12) (by omega) (by omega) (by omega)]
        refine n_ic1 (i := (i / 12)) (j := (i % 12)) zi_257_69 rfl (by omega) (by omega) (fun _ => ?_) (fun c => absurd c (by omega))
        refine r_al0 zi_257_76 rfl ?_
        refine r_il2 zi_257_77 rfl ?_
        refine r_push zi_257_78 rfl ?_
        refine r_div zi_257_80 rfl (by decide) ?_
        rw [show (nI i / 12 : Int32) = nI (i / 12) from pk_div (d := 12) (by omega) (by omega) (by omega)]
        refine r_il2 zi_257_81 rfl ?_
        refine r_push zi_257_82 rfl ?_
        refine r_rem zi_257_84 rfl (by decide) ?_
        rw [show (nI i % 12 : Int32) = nI (i % 12) from zI_rem (d := 12) (by omega) (by omega) (by omega)]
        refine q_cIV zi_257_85 rfl rfl rfl rfl rfl rfl rfl cf_195_0.ob (s_soon hVt hb (by omega) (by omega) ?_)
        show zk _ _ 88 _ _ _ _
        refine r_ast zi_257_88 rfl i ca_221 (by first | rfl | (simp only [zI_add, zI_mul] <;> rfl)) (by first | omega | decide) ?_
        refine r_al0 zi_257_89 rfl ?_
        refine q_getR zi_257_90 rfl cf_195_45 ?_
        refine r_il2 zi_257_93 rfl ?_
        refine r_alde zi_257_94 rfl i ca_221 (by first | rfl | (simp only [zI_add, zI_mul] <;> rfl)) (by first | omega | decide) (u := nI (zvn (σ 214) V (i / 12) (i % 12))) (by exact hz1 _ ez) ?_
        refine r_al0 zi_257_95 rfl ?_
        refine q_getR zi_257_96 rfl cf_195_44 ?_
        refine r_il2 zi_257_99 rfl ?_
        refine r_alde zi_257_100 rfl i ca_220 (by first | rfl | (simp only [zI_add, zI_mul] <;> rfl)) (by first | omega | decide) (u := nI (V (i / 12) (i % 12))) (by exact hz2 _) ?_
        refine n_ic0 (i := (zvn (σ 214) V (i / 12) (i % 12))) (j := (V (i / 12) (i % 12))) zi_257_101 rfl (by omega) (by omega) (fun c => absurd c (by omega)) (fun _ => ?_)
        refine r_push zi_257_104 rfl ?_
        refine r_is1 zi_257_105 rfl ?_
        refine r_in2 zi_257_106 rfl ?_
        rw [show (nI i + 1 : Int32) = nI (i + 1) from nI_add _ _]
        refine r_goto zi_257_109 rfl ?_
        exact ih (i + 1) _ _ (by omega) (hF.put (by decide)) (hnew _ ez) hw'
theorem l_fs2 {d : Nat} {σ : zS} {R : Option Int32 → zS → Prop} {w : Int32} (h : ∀ τ, Fr [220] σ τ → (∀ i, i < 144 → τ 220 i = σ 221 i) → zk d 257 41 [.ref 195, .int w, .int (nI 144)] [] τ R) : ∀ (m i : Nat) (τ : zS), i + m = 144 → Fr [220] σ τ → (∀ j, j < i → τ 220 j = σ 221 j) → zk d 257 114 [.ref 195, .int w, .int (nI i)] [] τ R := by
  intro m
  induction m with
  | zero =>
    intro i τ hi hF hv
    have e12 : i = 144 := by omega
    subst e12
    refine r_il2 zi_257_114 rfl ?_
    refine r_push zi_257_115 rfl ?_
    refine r_ic3 zi_257_118 rfl (fun _ => ?_) (fun c => absurd (by decide) c)
    refine r_goto zi_257_139 rfl ?_
    exact h _ hF hv
  | succ m ih =>
    intro i τ hi hF hv
    have e1 := hF 221 (by decide) i
    refine r_il2 zi_257_114 rfl ?_
    refine r_push zi_257_115 rfl ?_
    refine n_ic3 (i := i) (j := 144) zi_257_118 rfl (by omega) (by omega) (fun c => absurd c (by omega)) (fun _ => ?_)
    refine r_al0 zi_257_121 rfl ?_
    refine q_getR zi_257_122 rfl cf_195_44 ?_
    refine r_il2 zi_257_125 rfl ?_
    refine r_al0 zi_257_126 rfl ?_
    refine q_getR zi_257_127 rfl cf_195_45 ?_
    refine r_il2 zi_257_130 rfl ?_
    refine r_ald zi_257_131 rfl i ca_221 (by first | rfl | (simp only [zI_add, zI_mul] <;> rfl)) (by first | omega | decide) ?_
    rw [e1]
    refine r_ast zi_257_132 rfl i ca_220 (by first | rfl | (simp only [zI_add, zI_mul] <;> rfl)) (by first | omega | decide) ?_
    refine r_in2 zi_257_133 rfl ?_
    rw [show (nI i + 1 : Int32) = nI (i + 1) from nI_add _ _]
    refine r_goto zi_257_136 rfl ?_
    refine ih (i + 1) _ (by omega) (hF.put (by decide)) (fun j hj => ?_)
    rw [up_rd]
    by_cases e : j = i
    · rw [if_pos ⟨rfl, e⟩, e]
    · rw [if_neg (fun z => e z.2)]; exact hv j (by omega)
theorem l_fs3 {d N : Nat} {σ : zS} {Q : zS → Prop} (hB : zBok (σ 214)) (hN : N ≤ 144) (hfx : zfx (σ 214) N) (hnf : ∀ n, n < N → ¬ zfx (σ 214) n) (h : ∀ τ, Fr [220, 221] σ τ → zVs τ 220 (zvs (σ 214) N) → Q τ) : ∀ (m n : Nat) (τ : zS) (w : Int32) (u2 : Value), n + m = N + 1 → Fr [220, 221] σ τ → zVs τ 220 (zvs (σ 214) n) → ((w = 0 ∧ n = N + 1) ∨ (w = 1 ∧ n ≤ N)) → zk (d + 3) 257 41 [.ref 195, .int w, u2] [] τ (fun r t => r = none ∧ Q t) := by
  intro m
  induction m with
  | zero =>
    intro n τ w u2 hm hF hv hw
    have hw0 : w = 0 := by rcases hw with ⟨a, _⟩ | ⟨_, b⟩; exact a; omega
    subst hw0
    have hn : n = N + 1 := by omega
    subst hn
    have he := (zvs_fx hB (by omega)).mp hfx
    refine r_il1 zi_257_41 rfl ?_
    refine r_if0 zi_257_42 rfl (fun _ => ?_) (fun c => absurd (by decide) c)
    refine r_ret zi_257_142 rfl ?_
    exact ⟨rfl, h _ hF (fun i hi => by rw [hv i hi, he _ _ (by omega) (by omega)])⟩
  | succ m ih =>
    intro n τ w u2 hm hF hv hw
    have hw1 : w = 1 := by rcases hw with ⟨_, a⟩ | ⟨b, _⟩; omega; exact b
    subst hw1
    have e1 : τ 214 = σ 214 := funext fun b => hF 214 (by decide) b
    have hb : ∀ g o, g < 12 → o < 12 → zvs (σ 214) n g o ≤ 100000000 := fun g o hg ho => by
      have := (zvs_inv hB n (by omega) g o hg ho).2; omega
    have hfn := zvs_fx hB (n := n) (by omega)
    have hzs : zvs (σ 214) (n + 1) = zvn (σ 214) (zvs (σ 214) n) := rfl
    refine r_il1 zi_257_41 rfl ?_
    refine r_if0 zi_257_42 rfl (fun c => absurd c (by decide)) (fun _ => ?_)
    refine r_push zi_257_45 rfl ?_
    refine r_is1 zi_257_46 rfl ?_
    refine r_push zi_257_47 rfl ?_
    refine r_is2 zi_257_48 rfl ?_
    refine l_fs1 hv hb (fun τ2 w2 hF2 hv2 hw2 => ?_) 144 0 τ 0 (by omega) Fr.rf (fun j hj => by omega) (Or.inl ⟨rfl, fun j hj => by omega⟩)
    show zk _ _ 112 _ _ _ _
    refine r_push zi_257_112 rfl ?_
    refine r_is2 zi_257_113 rfl ?_
    refine l_fs2 (σ := τ2) (fun τ3 hF3 hv3 => ?_) 144 0 τ2 (by omega) Fr.rf (fun j hj => by omega)
    rw [e1, ← hzs] at hv2 hw2
    refine ih (n + 1) τ3 w2 _ (by omega) ((hF.tr (hF2.sub (by simp))).tr (hF3.sub (by simp))) (fun i hi => by rw [hv3 i hi, hv2 i hi]) ?_
    rcases hw2 with ⟨a, b⟩ | ⟨a, i, hi, hne⟩
    · refine Or.inl ⟨a, ?_⟩
      have : zfx (σ 214) n := hfn.mpr (fun p q hp hq => by
        have := b (12 * p + q) (by omega)
        rw [show (12 * p + q) / 12 = p by omega, show (12 * p + q) % 12 = q by omega] at this
        exact this)
      by_cases e : n < N; exact absurd this (hnf n e); omega
    · refine Or.inr ⟨a, ?_⟩
      by_cases e : n = N
      · subst e; exact absurd (hfn.mp hfx _ _ (by omega) (by omega)) hne
      · omega
theorem l_fs0 {d : Nat} {σ : zS} {R : Option Int32 → zS → Prop} (h : ∀ τ u, Fr [220] σ τ → (∀ i, i < 144 → τ 220 i = nI (if i / 12 = i % 12 then 0 else 100000000)) → zk d 257 39 [.ref 195, u, zun] [] τ R) : ∀ (m i : Nat) (τ : zS), i + m = 144 → Fr [220] σ τ → (∀ j, j < i → τ 220 j = nI (if j / 12 = j % 12 then 0 else 100000000)) → zk d 257 2 [.ref 195, .int (nI i), zun] [] τ R := by
  intro m
  induction m with
  | zero =>
    intro i τ hi hF hv
    have e12 : i = 144 := by omega
    subst e12
    refine r_il1 zi_257_2 rfl ?_
    refine r_push zi_257_3 rfl ?_
    refine r_ic3 zi_257_6 rfl (fun _ => ?_) (fun c => absurd (by decide) c)
    exact h _ _ hF hv
  | succ m ih =>
    intro i τ hi hF hv
    refine r_il1 zi_257_2 rfl ?_
    refine r_push zi_257_3 rfl ?_
    refine n_ic3 (i := i) (j := 144) zi_257_6 rfl (by omega) (by omega) (fun c => absurd c (by omega)) (fun _ => ?_)
    refine r_al0 zi_257_9 rfl ?_
    refine q_getR zi_257_10 rfl cf_195_44 ?_
    refine r_il1 zi_257_13 rfl ?_
    refine r_il1 zi_257_14 rfl ?_
    refine r_push zi_257_15 rfl ?_
    refine r_div zi_257_17 rfl (by decide) ?_
    rw [show (nI i / 12 : Int32) = nI (i / 12) from pk_div (d := 12) (by omega) (by omega) (by omega)]
    refine r_il1 zi_257_18 rfl ?_
    refine r_push zi_257_19 rfl ?_
    refine r_rem zi_257_21 rfl (by decide) ?_
    rw [show (nI i % 12 : Int32) = nI (i % 12) from zI_rem (d := 12) (by omega) (by omega) (by omega)]
    refine n_ic1 (i := (i / 12)) (j := (i % 12)) zi_257_22 rfl (by omega) (by omega) (fun c1 => ?_) (fun c1 => ?_)
    · refine r_push zi_257_29 rfl ?_
      refine r_ast zi_257_32 rfl i ca_220 (by first | rfl | (simp only [zI_add, zI_mul] <;> rfl)) (by first | omega | decide) ?_
      refine r_in1 zi_257_33 rfl ?_
      rw [show (nI i + 1 : Int32) = nI (i + 1) from nI_add _ _]
      refine r_goto zi_257_36 rfl ?_
      refine ih (i + 1) _ (by omega) (hF.put (by decide)) (fun j hj => ?_)
      rw [up_rd]
      by_cases e : j = i
      · subst e
        rw [if_pos ⟨rfl, rfl⟩]
        first | (rw [if_pos (by omega)]; rfl) | (rw [if_neg (by omega)]; rfl)
      · rw [if_neg (fun z => e z.2)]; exact hv j (by omega)
    · refine r_push zi_257_25 rfl ?_
      refine r_goto zi_257_26 rfl ?_
      refine r_ast zi_257_32 rfl i ca_220 (by first | rfl | (simp only [zI_add, zI_mul] <;> rfl)) (by first | omega | decide) ?_
      refine r_in1 zi_257_33 rfl ?_
      rw [show (nI i + 1 : Int32) = nI (i + 1) from nI_add _ _]
      refine r_goto zi_257_36 rfl ?_
      refine ih (i + 1) _ (by omega) (hF.put (by decide)) (fun j hj => ?_)
      rw [up_rd]
      by_cases e : j = i
      · subst e
        rw [if_pos ⟨rfl, rfl⟩]
        first | (rw [if_pos (by omega)]; rfl) | (rw [if_neg (by omega)]; rfl)
      · rw [if_neg (fun z => e z.2)]; exact hv j (by omega)
theorem s_steps {d N : Nat} {σ : zS} {Q : zS → Prop} (hB : zBok (σ 214)) (hN : N ≤ 144) (hfx : zfx (σ 214) N) (hnf : ∀ n, n < N → ¬ zfx (σ 214) n) (h : ∀ τ, Fr [220, 221] σ τ → zVs τ 220 (zvs (σ 214) N) → Q τ) : zV1 (d + 3) 257 [.ref 195] σ Q := by
  show zk _ _ 0 [.ref 195, zun, zun] [] _ _
  refine r_push zi_257_0 rfl ?_
  refine r_is1 zi_257_1 rfl ?_
  refine l_fs0 (fun τ u hF hv => ?_) 144 0 σ (by omega) Fr.rf (fun q hq => by omega)
  show zk _ _ 39 _ _ _ _
  refine r_push zi_257_39 rfl ?_
  refine r_is1 zi_257_40 rfl ?_
  exact l_fs3 hB hN hfx hnf h (N + 1) 0 τ 1 _ (by omega) (hF.sub (by simp)) hv (Or.inr ⟨rfl, by omega⟩)
theorem l_mcl {d p : Nat} {σ : zS} {Q : Int32 → zS → Prop} {V : Nat → Nat → Nat} {u2 : Int32} (hV : zVs σ 220 V) (hb : ∀ o, o < 12 → V p o ≤ 100000000) (hp : p < 12) (h : Q (nI (popF 12 0 + zsum (fun o => if V p o < 100000000 then 1 else 0) 12)) σ) : ∀ (m o : Nat), o + m = 12 → zk d 258 75 [.ref 195, .int (nI p), .int u2, .int (nI (zsum (fun o => if V p o < 100000000 then 1 else 0) o)), .int (nI o)] [] σ (fun r t => ∃ v, r = some v ∧ Q v t) := by
  intro m
  induction m with
  | zero =>
    intro o ho
    have e12 : o = 12 := by omega
    subst e12
    refine r_il4 zi_258_75 rfl ?_
    refine r_push zi_258_77 rfl ?_
    refine r_ic3 zi_258_79 rfl (fun _ => ?_) (fun c => absurd (by decide) c)
    refine r_il3 zi_258_110 rfl ?_
    refine r_retI zi_258_111 rfl ?_
    exact ⟨_, rfl, by rw [show popF 12 0 = 0 by rfl, Nat.zero_add] at h; exact h⟩
  | succ m ih =>
    intro o ho
    have hv := zVs_at hV hp (show o < 12 by omega)
    have b2 := hb o (by omega)
    have b1 : zsum (fun o => if V p o < 100000000 then 1 else 0) o ≤ o * 1 := zsum_c 1 o (fun k hk => by split <;> omega)
    have ih := ih (o + 1) (by omega)
    simp only [zsum] at ih
    generalize zsum (fun o => if V p o < 100000000 then 1 else 0) o = zl at *
    generalize V p o = vv at *
    refine r_il4 zi_258_75 rfl ?_
    refine r_push zi_258_77 rfl ?_
    refine n_ic3 (i := o) (j := 12) zi_258_79 rfl (by omega) (by omega) (fun c => absurd c (by omega)) (fun _ => ?_)
    refine r_al0 zi_258_82 rfl ?_
    refine q_getR zi_258_83 rfl cf_195_44 ?_
    refine r_push zi_258_86 rfl ?_
    refine r_il1 zi_258_88 rfl ?_
    refine r_b2 zi_258_89 rfl ?_
    rw [show (12 * nI p : Int32) = nI (12 * p) from pk_mul _ _]
    refine r_il4 zi_258_90 rfl ?_
    refine r_b0 zi_258_92 rfl ?_
    rw [show (nI (12 * p) + nI o : Int32) = nI ((12 * p) + o) from nI_add _ _]
    refine r_alde zi_258_93 rfl ((12 * p) + o) ca_220 (by first | rfl | (simp only [zI_add, zI_mul] <;> rfl)) (by first | omega | decide) (u := nI vv) (by first | exact hv | ((repeat (first | rw [zup_ne (by first | decide | omega)] | rw [zup_nj (by first | decide | omega)] | rw [fil_ne (by first | decide | omega)])) <;> exact hv) | (simp [up_rd, fil_rd]; exact hv)) ?_
    refine r_push zi_258_94 rfl ?_
    refine n_ic3 (i := vv) (j := 100000000) zi_258_97 rfl (by omega) (by omega) (fun c1 => ?_) (fun c1 => ?_)
    · refine r_in4 zi_258_104 rfl ?_
      rw [show (nI o + 1 : Int32) = nI (o + 1) from nI_add _ _]
      refine r_goto zi_258_107 rfl ?_
      first
      | (rw [if_pos (by omega)] at ih; exact ih)
      | (rw [if_neg (by omega), Nat.add_zero] at ih; exact ih)
    · refine r_il3 zi_258_100 rfl ?_
      refine r_push zi_258_101 rfl ?_
      refine r_b0 zi_258_102 rfl ?_
      rw [show (nI zl + 1 : Int32) = nI (zl + 1) from nI_add _ _]
      refine r_is3 zi_258_103 rfl ?_
      refine r_in4 zi_258_104 rfl ?_
      rw [show (nI o + 1 : Int32) = nI (o + 1) from nI_add _ _]
      refine r_goto zi_258_107 rfl ?_
      first
      | (rw [if_pos (by omega)] at ih; exact ih)
      | (rw [if_neg (by omega), Nat.add_zero] at ih; exact ih)
theorem s_mcaught {d N : Nat} {σ : zS} {Q : Int32 → zS → Prop} {v w : Int32} (hB : zBok (σ 214)) (hN : N ≤ 144) (hfx : zfx (σ 214) N) (hnf : ∀ n, n < N → ¬ zfx (σ 214) n) (h1 : ∀ p q, p < 12 → q < 12 → v = nI p → w = nI q → ∀ τ, Fr [220, 221] (up σ 195 0 0) τ → Q (if zvs (σ 214) N p q = 100000000 then -1 else nI (zvs (σ 214) N p q)) τ) (h2 : ∀ p, p < 12 → v = nI p → w = -1 → ∀ τ, Fr [220, 221] (up σ 195 0 0) τ → Q (nI (zsum (fun o => if zvs (σ 214) N p o < 100000000 then 1 else 0) 12)) τ) (h0 : ¬ (0 ≤ v ∧ v < 12 ∧ (w = -1 ∨ (0 ≤ w ∧ w < 12))) → Q (-1) (up σ 195 0 0)) : zI1 (d + 4) 258 [.ref 195, .int v, .int w] σ Q := by
  have e1 : up σ 195 0 0 214 = σ 214 := funext fun b => zup_ne (by decide)
  have hb : ∀ g o, g < 12 → o < 12 → zvs (σ 214) N g o ≤ 100000000 := fun g o hg ho => by
    have := (zvs_inv hB N (by omega) g o hg ho).2; omega
  show zk _ _ 0 [.ref 195, .int v, .int w, zun, zun] [] _ _
  by_cases hc : 0 ≤ v ∧ v < 12 ∧ (w = -1 ∨ (0 ≤ w ∧ w < 12))
  · obtain ⟨c1, c2, c3⟩ := hc
    obtain ⟨p, hp, rfl⟩ := zI_of (n := 12) c1 c2 (by omega)
    rcases c3 with rfl | ⟨c3, c4⟩
    · refine r_al0 zi_258_0 rfl ?_
      refine r_push zi_258_1 rfl ?_
      refine q_put zi_258_2 rfl cf_195_0 rfl ?_
      refine r_al0 zi_258_5 rfl ?_
      refine r_il1 zi_258_6 rfl ?_
      refine q_cIV zi_258_7 rfl rfl rfl rfl rfl rfl rfl cf_195_0.ob (s_mplace (fun _ _ => ?_) (fun z => absurd ⟨c1, c2⟩ z))
      show zk _ _ 10 _ _ _ _
      refine r_if0 zi_258_10 rfl (fun c => absurd c (by decide)) (fun _ => ?_)
      refine r_il2 zi_258_13 rfl ?_
      refine r_push zi_258_14 rfl ?_
      refine r_ic0 zi_258_15 rfl (fun _ => ?_) (fun c => absurd (by decide) c)
      refine r_al0 zi_258_28 rfl ?_
      refine q_cVV zi_258_29 rfl rfl rfl rfl rfl rfl rfl cf_195_0.ob (s_steps (by rw [e1]; exact hB) hN (by rw [e1]; exact hfx) (by rw [e1]; exact hnf) (fun τ hF hv => ?_))
      show zk _ _ 32 _ _ _ _
      refine r_il2 zi_258_32 rfl ?_
      refine r_push zi_258_33 rfl ?_
      refine r_ic0 zi_258_34 rfl (fun _ => ?_) (fun c => absurd (by decide) c)
      refine r_push zi_258_70 rfl ?_
      refine r_is3 zi_258_71 rfl ?_
      refine r_push zi_258_72 rfl ?_
      refine r_is4 zi_258_73 rfl ?_
      rw [e1] at hv
      exact l_mcl hv (fun o ho => hb p o hp ho) hp (by rw [show popF 12 0 = 0 by rfl, Nat.zero_add]; exact h2 p hp rfl rfl _ hF) 12 0 (by omega)
    · obtain ⟨q, hq, rfl⟩ := zI_of (n := 12) c3 c4 (by omega)
      have hne : ¬ nI q = -1 := fun z => absurd c3 (by rw [z]; decide)
      have hbq := hb p q hp hq
      have hh := h1 p q hp hq rfl rfl
      refine r_al0 zi_258_0 rfl ?_
      refine r_push zi_258_1 rfl ?_
      refine q_put zi_258_2 rfl cf_195_0 rfl ?_
      refine r_al0 zi_258_5 rfl ?_
      refine r_il1 zi_258_6 rfl ?_
      refine q_cIV zi_258_7 rfl rfl rfl rfl rfl rfl rfl cf_195_0.ob (s_mplace (fun _ _ => ?_) (fun z => absurd ⟨c1, c2⟩ z))
      show zk _ _ 10 _ _ _ _
      refine r_if0 zi_258_10 rfl (fun c => absurd c (by decide)) (fun _ => ?_)
      refine r_il2 zi_258_13 rfl ?_
      refine r_push zi_258_14 rfl ?_
      refine r_ic0 zi_258_15 rfl (fun c => absurd c hne) (fun _ => ?_)
      refine r_al0 zi_258_18 rfl ?_
      refine r_il2 zi_258_19 rfl ?_
      refine q_cIV zi_258_20 rfl rfl rfl rfl rfl rfl rfl cf_195_0.ob (s_mplace (fun _ _ => ?_) (fun z => absurd ⟨c3, c4⟩ z))
      show zk _ _ 23 _ _ _ _
      refine r_if1 zi_258_23 rfl (fun _ => ?_) (fun c => absurd c (by decide))
      refine r_al0 zi_258_28 rfl ?_
      refine q_cVV zi_258_29 rfl rfl rfl rfl rfl rfl rfl cf_195_0.ob (s_steps (by rw [e1]; exact hB) hN (by rw [e1]; exact hfx) (by rw [e1]; exact hnf) (fun τ hF hv => ?_))
      show zk _ _ 32 _ _ _ _
      refine r_il2 zi_258_32 rfl ?_
      refine r_push zi_258_33 rfl ?_
      refine r_ic0 zi_258_34 rfl (fun c => absurd c hne) (fun _ => ?_)
      refine r_al0 zi_258_37 rfl ?_
      refine q_getR zi_258_38 rfl cf_195_44 ?_
      refine r_push zi_258_41 rfl ?_
      refine r_il1 zi_258_43 rfl ?_
      refine r_b2 zi_258_44 rfl ?_
      rw [show (12 * nI p : Int32) = nI (12 * p) from pk_mul _ _]
      refine r_il2 zi_258_45 rfl ?_
      refine r_b0 zi_258_46 rfl ?_
      rw [show (nI (12 * p) + nI q : Int32) = nI ((12 * p) + q) from nI_add _ _]
      refine r_alde zi_258_47 rfl ((12 * p) + q) ca_220 (by first | rfl | (simp only [zI_add, zI_mul] <;> rfl)) (by first | omega | decide) (u := nI (zvs (σ 214) N p q)) (by rw [← e1]; exact zVs_at hv hp hq) ?_
      refine r_push zi_258_48 rfl ?_
      refine n_ic1 (i := (zvs (σ 214) N p q)) (j := 100000000) zi_258_51 rfl (by omega) (by omega) (fun c4 => ?_) (fun c4 => ?_)
      · refine r_al0 zi_258_58 rfl ?_
        refine q_getR zi_258_59 rfl cf_195_44 ?_
        refine r_push zi_258_62 rfl ?_
        refine r_il1 zi_258_64 rfl ?_
        refine r_b2 zi_258_65 rfl ?_
        rw [show (12 * nI p : Int32) = nI (12 * p) from pk_mul _ _]
        refine r_il2 zi_258_66 rfl ?_
        refine r_b0 zi_258_67 rfl ?_
        rw [show (nI (12 * p) + nI q : Int32) = nI ((12 * p) + q) from nI_add _ _]
        refine r_alde zi_258_68 rfl ((12 * p) + q) ca_220 (by first | rfl | (simp only [zI_add, zI_mul] <;> rfl)) (by first | omega | decide) (u := nI (zvs (σ 214) N p q)) (by rw [← e1]; exact zVs_at hv hp hq) ?_
        refine r_retI zi_258_69 rfl ?_
        have hh := hh τ hF
        first
        | (rw [if_pos (by omega)] at hh; exact ⟨_, rfl, hh⟩)
        | (rw [if_neg (by omega)] at hh; exact ⟨_, rfl, hh⟩)
      · refine r_push zi_258_54 rfl ?_
        refine r_goto zi_258_55 rfl ?_
        refine r_retI zi_258_69 rfl ?_
        have hh := hh τ hF
        first
        | (rw [if_pos (by omega)] at hh; exact ⟨_, rfl, hh⟩)
        | (rw [if_neg (by omega)] at hh; exact ⟨_, rfl, hh⟩)
  · have h0 := h0 hc
    by_cases hp : 0 ≤ v ∧ v < 12
    · have hw : ¬ w = -1 := fun z => hc ⟨hp.1, hp.2, Or.inl z⟩
      have hw2 : ¬ (0 ≤ w ∧ w < 12) := fun z => hc ⟨hp.1, hp.2, Or.inr z⟩
      refine r_al0 zi_258_0 rfl ?_
      refine r_push zi_258_1 rfl ?_
      refine q_put zi_258_2 rfl cf_195_0 rfl ?_
      refine r_al0 zi_258_5 rfl ?_
      refine r_il1 zi_258_6 rfl ?_
      refine q_cIV zi_258_7 rfl rfl rfl rfl rfl rfl rfl cf_195_0.ob (s_mplace (fun _ _ => ?_) (fun z => absurd hp z))
      show zk _ _ 10 _ _ _ _
      refine r_if0 zi_258_10 rfl (fun c => absurd c (by decide)) (fun _ => ?_)
      refine r_il2 zi_258_13 rfl ?_
      refine r_push zi_258_14 rfl ?_
      refine r_ic0 zi_258_15 rfl (fun c => absurd c hw) (fun _ => ?_)
      refine r_al0 zi_258_18 rfl ?_
      refine r_il2 zi_258_19 rfl ?_
      refine q_cIV zi_258_20 rfl rfl rfl rfl rfl rfl rfl cf_195_0.ob (s_mplace (fun z z2 => absurd ⟨z, z2⟩ hw2) (fun _ => ?_))
      show zk _ _ 23 _ _ _ _
      refine r_if1 zi_258_23 rfl (fun c => absurd (by decide) c) (fun _ => ?_)
      refine r_push zi_258_26 rfl ?_
      refine r_retI zi_258_27 rfl ?_
      exact ⟨_, rfl, h0⟩
    · refine r_al0 zi_258_0 rfl ?_
      refine r_push zi_258_1 rfl ?_
      refine q_put zi_258_2 rfl cf_195_0 rfl ?_
      refine r_al0 zi_258_5 rfl ?_
      refine r_il1 zi_258_6 rfl ?_
      refine q_cIV zi_258_7 rfl rfl rfl rfl rfl rfl rfl cf_195_0.ob (s_mplace (fun z z2 => absurd ⟨z, z2⟩ hp) (fun _ => ?_))
      show zk _ _ 10 _ _ _ _
      refine r_if0 zi_258_10 rfl (fun _ => ?_) (fun c => absurd (by decide) c)
      refine r_push zi_258_26 rfl ?_
      refine r_retI zi_258_27 rfl ?_
      exact ⟨_, rfl, h0⟩
/-- the clock -/
theorem popF_sum : ∀ (k n : Nat), popF k n = zsum (fun i => if n.testBit i = true then 1 else 0) k := by
  have sh : ∀ (f : Nat → Nat) k, zsum f (k + 1) = f 0 + zsum (fun i => f (i + 1)) k := by
    intro f k
    induction k with
    | zero => simp [zsum]
    | succ k ih =>
      show zsum f (k + 1) + f (k + 1) = _
      rw [ih]
      show _ = f 0 + (zsum (fun i => f (i + 1)) k + f (k + 1))
      omega
  intro k
  induction k with
  | zero => intro n; rfl
  | succ k ih =>
    intro n
    rw [sh]
    show n % 2 + popF k (n / 2) = _
    rw [ih]
    congr 1
    · rw [Nat.testBit_zero]
      by_cases h : n % 2 = 1
      · simp [h]
      · have : n % 2 = 0 := by omega
        simp [this]
    · congr 1
      funext i
      rw [Nat.testBit_succ]
theorem zsum_congr {f g : Nat → Nat} : ∀ n, (∀ k, k < n → f k = g k) → zsum f n = zsum g n
  | 0, _ => rfl
  | n + 1, h => by
    show zsum f n + f n = zsum g n + g n
    rw [zsum_congr n (fun k hk => h k (by omega)), h n (by omega)]
theorem zclock {B : Nat → Int32} (hB : zBok B) {N p : Nat} (hN : N ≤ 144) (hp : p < 12) : zpop (zcf B N p) = zsum (fun o => if zvs B N p o < 100000000 then 1 else 0) 12 := by
  have hlt := zcf_lt (B := B) N p hp
  have e : popF 32 (un (zcf B N p)) = popF 12 (un (zcf B N p)) + popF 20 0 := by have := popF_split 12 20 (un (zcf B N p)) 0 hlt; simpa only [Nat.mul_zero, Nat.add_zero, Nat.reduceAdd] using this
  have e2 : ∀ k, popF k 0 = 0 := by intro k; induction k with | zero => rfl | succ k ih => simp [popF, ih]
  show popF 32 (un (zcf B N p)) = _
  rw [e, e2, Nat.add_zero, popF_sum]
  refine zsum_congr 12 (fun q hq => ?_)
  have hI := zvs_inv hB N (by omega) p q hp hq
  have h1 := hI.1 N (Nat.le_refl _)
  rw [zcb, zbt_iff (by omega)] at h1
  by_cases hb : (un (zcf B N p)).testBit q = true
  · rw [if_pos hb, if_pos (by have := h1.mpr hb; omega)]
  · rw [if_neg hb, if_neg (by
      intro z
      rcases hI.2 with w | w
      · exact hb (h1.mp w)
      · omega)]

