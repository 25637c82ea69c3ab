/-! sits in the model -/
theorem zmal_v {σ V : zS} {n : Nat} {th : Bool} (h : zVm σ V n th) : zset (fun s => decide (σ 196 (66 + s) = 0)) n = zset (fun s => decide (V 6 s = 1)) n := zset_x n fun s hs => by
  have e := (h.2.2.1 s hs).2.1
  show decide (σ 196 (66 + s) = 0) = decide (V 6 s = 1)
  rw [e]
  by_cases c : V 6 s = 1
  · rw [if_pos c]; simp [c]
  · rw [if_neg c]; simp [c]
theorem l_msits {d n : Nat} {σ V : zS} {Q : Int32 → zS → Prop} {B : Nat → Int32} {q : Int32} (hV : zVm σ V n false) (hn : σ 195 6 = nI n) (hn18 : n ≤ 18) (hg : zVg V n) (hB : σ 214 = B) (hBk : zBok B) (hq0 : 0 ≤ q) (hq2 : q ≤ 2) (h : ∀ τ, Fr [217] σ τ → Q (zSi V n B q) τ) : ∀ (m p : Nat) (τ : zS), p + m = 12 → Fr [217] σ τ → zk (d + 3) 281 29 [.ref 195, .int q, .int (nI (zMo V n p)), .int (nI (if zMb (fun p => zRt V n B p 18) p = 12 then 100000000 else zRt V n B (zMb (fun p => zRt V n B p 18) p) 18)), .int (if zMb (fun p => zRt V n B p 18) p = 12 then -1 else nI (zMb (fun p => zRt V n B p 18) p)), .int (nI p)] [] τ (fun r t => ∃ v, r = some v ∧ Q v t) := by
  have eR : ∀ p, zRt V n B p n = zRt V n B p 18 := fun p => by
    rw [show (18 : Nat) = n + (18 - n) by omega]; exact (zRt_e (18 - n)).symm
  have hR : ∀ (p : Nat) (τ : zS) (Q2 : Int32 → zS → Prop), p < 12 → Fr [217] σ τ → (∀ υ, Fr [217] σ υ → Q2 (nI (zRt V n B p 18)) υ) → zI1 (d + 2) 280 [.ref 195, .int (nI p)] τ Q2 := fun p τ Q2 hp hF h2 => s_mroads (zVm_o hV hF (by decide)) ((hF 195 (by decide) 6).trans hn) hn18 hg ((funext fun b => hF 214 (by decide) b).trans hB) hBk hp (fun υ x => by rw [eR]; exact h2 υ (hF.tr x))
  have hRb : ∀ p, zRt V n B p 18 ≤ 100000000 := fun p => by rcases zRt_b (V := V) (n := n) (B := B) (p := p) 18 with z | z <;> omega
  intro m
  induction m with
  | zero =>
    intro p τ hp hF
    have e : p = 12 := by omega
    subst e
    have h := h τ hF
    have hall : ∀ (Q2 : Int32 → zS → Prop), Q2 (zset (fun s => decide (V 6 s = 1)) n) τ → zI1 (d + 2) 181 [.ref 195] τ Q2 := fun Q2 h2 => s_mall (d := d + 1) ((hF 195 (by decide) 6).trans hn) hn18 (by rw [zmal_v (zVm_o hV hF (by decide))]; exact h2)
    unfold zSi at h
    generalize zset (fun s => decide (V 6 s = 1)) n = al at *
    have h12 : q = 0 ∨ q = 1 ∨ q = 2 := by grind
    have hbb := zMb_b (R := fun p => zRt V n B p 18) 12
    have hk : zMb (fun p => zRt V n B p 18) 12 ≤ 12 := by omega
    generalize zMb (fun p => zRt V n B p 18) 12 = k at *
    have kn : ¬ nI k = -1 := fun z => absurd (nI_pos' (n := k) (by omega)) (by rw [z]; decide)
    rcases h12 with e | e | e
    · subst e
      rw [if_pos rfl] at h
      refine r_il5 zi_281_29 rfl ?_
      refine r_push zi_281_31 rfl ?_
      refine r_ic3 zi_281_33 rfl (fun _ => ?_) (fun c => absurd (by decide) c)
      refine r_il1 zi_281_82 rfl ?_
      refine r_if1 zi_281_83 rfl (fun c => absurd (by decide) c) (fun _ => ?_)
      refine r_il2 zi_281_86 rfl ?_
      refine r_retI zi_281_87 rfl ?_
      exact ⟨_, rfl, h⟩
    · subst e
      rw [if_neg (by decide), if_pos rfl] at h
      by_cases ha : al = 0
      · rw [if_pos ha] at h
        refine r_il5 zi_281_29 rfl ?_
        refine r_push zi_281_31 rfl ?_
        refine r_ic3 zi_281_33 rfl (fun _ => ?_) (fun c => absurd (by decide) c)
        refine r_il1 zi_281_82 rfl ?_
        refine r_if1 zi_281_83 rfl (fun _ => ?_) (fun c => absurd c (by decide))
        refine r_al0 zi_281_88 rfl ?_
        refine q_cIV zi_281_89 rfl rfl rfl rfl rfl rfl rfl cf_195_0.ob (hall _ ?_)
        show zk _ _ 92 _ _ _ _
        refine r_if1 zi_281_92 rfl (fun c => absurd ha c) (fun _ => ?_)
        refine r_il1 zi_281_95 rfl ?_
        refine r_push zi_281_96 rfl ?_
        refine r_ic1 zi_281_97 rfl (fun c => absurd (by decide) c) (fun _ => ?_)
        refine r_push zi_281_100 rfl ?_
        refine r_goto zi_281_101 rfl ?_
        refine r_retI zi_281_105 rfl ?_
        exact ⟨_, rfl, h⟩
      · rw [if_neg ha] at h
        by_cases c : k = 12
        · rw [if_pos c] at h
          rw [if_pos c, if_pos c]
          refine r_il5 zi_281_29 rfl ?_
          refine r_push zi_281_31 rfl ?_
          refine r_ic3 zi_281_33 rfl (fun _ => ?_) (fun c => absurd (by decide) c)
          refine r_il1 zi_281_82 rfl ?_
          refine r_if1 zi_281_83 rfl (fun _ => ?_) (fun c => absurd c (by decide))
          refine r_al0 zi_281_88 rfl ?_
          refine q_cIV zi_281_89 rfl rfl rfl rfl rfl rfl rfl cf_195_0.ob (hall _ ?_)
          show zk _ _ 92 _ _ _ _
          refine r_if1 zi_281_92 rfl (fun _ => ?_) (fun c => absurd c ha)
          refine r_il1 zi_281_106 rfl ?_
          refine r_push zi_281_107 rfl ?_
          refine r_ic1 zi_281_108 rfl (fun c => absurd (by decide) c) (fun _ => ?_)
          refine r_il4 zi_281_111 rfl ?_
          refine r_push zi_281_113 rfl ?_
          refine r_ic0 zi_281_114 rfl (fun _ => ?_) (fun c => absurd (by decide) c)
          refine r_il4 zi_281_121 rfl ?_
          refine r_retI zi_281_123 rfl ?_
          exact ⟨_, rfl, h⟩
        · rw [if_neg c] at h
          rw [if_neg c, if_neg c]
          refine r_il5 zi_281_29 rfl ?_
          refine r_push zi_281_31 rfl ?_
          refine r_ic3 zi_281_33 rfl (fun _ => ?_) (fun c => absurd (by decide) c)
          refine r_il1 zi_281_82 rfl ?_
          refine r_if1 zi_281_83 rfl (fun _ => ?_) (fun c => absurd c (by decide))
          refine r_al0 zi_281_88 rfl ?_
          refine q_cIV zi_281_89 rfl rfl rfl rfl rfl rfl rfl cf_195_0.ob (hall _ ?_)
          show zk _ _ 92 _ _ _ _
          refine r_if1 zi_281_92 rfl (fun _ => ?_) (fun c => absurd c ha)
          refine r_il1 zi_281_106 rfl ?_
          refine r_push zi_281_107 rfl ?_
          refine r_ic1 zi_281_108 rfl (fun c => absurd (by decide) c) (fun _ => ?_)
          refine r_il4 zi_281_111 rfl ?_
          refine r_push zi_281_113 rfl ?_
          refine r_ic0 zi_281_114 rfl (fun c => absurd c kn) (fun _ => ?_)
          refine r_il3 zi_281_117 rfl ?_
          refine r_goto zi_281_118 rfl ?_
          refine r_retI zi_281_123 rfl ?_
          exact ⟨_, rfl, h⟩
    · subst e
      rw [if_neg (by decide), if_neg (by decide), if_pos rfl] at h
      by_cases ha : al = 0
      · rw [if_pos ha] at h
        refine r_il5 zi_281_29 rfl ?_
        refine r_push zi_281_31 rfl ?_
        refine r_ic3 zi_281_33 rfl (fun _ => ?_) (fun c => absurd (by decide) c)
        refine r_il1 zi_281_82 rfl ?_
        refine r_if1 zi_281_83 rfl (fun _ => ?_) (fun c => absurd c (by decide))
        refine r_al0 zi_281_88 rfl ?_
        refine q_cIV zi_281_89 rfl rfl rfl rfl rfl rfl rfl cf_195_0.ob (hall _ ?_)
        show zk _ _ 92 _ _ _ _
        refine r_if1 zi_281_92 rfl (fun c => absurd ha c) (fun _ => ?_)
        refine r_il1 zi_281_95 rfl ?_
        refine r_push zi_281_96 rfl ?_
        refine r_ic1 zi_281_97 rfl (fun _ => ?_) (fun c => absurd c (by decide))
        refine r_push zi_281_104 rfl ?_
        refine r_retI zi_281_105 rfl ?_
        exact ⟨_, rfl, h⟩
      · rw [if_neg ha] at h
        refine r_il5 zi_281_29 rfl ?_
        refine r_push zi_281_31 rfl ?_
        refine r_ic3 zi_281_33 rfl (fun _ => ?_) (fun c => absurd (by decide) c)
        refine r_il1 zi_281_82 rfl ?_
        refine r_if1 zi_281_83 rfl (fun _ => ?_) (fun c => absurd c (by decide))
        refine r_al0 zi_281_88 rfl ?_
        refine q_cIV zi_281_89 rfl rfl rfl rfl rfl rfl rfl cf_195_0.ob (hall _ ?_)
        show zk _ _ 92 _ _ _ _
        refine r_if1 zi_281_92 rfl (fun _ => ?_) (fun c => absurd c ha)
        refine r_il1 zi_281_106 rfl ?_
        refine r_push zi_281_107 rfl ?_
        refine r_ic1 zi_281_108 rfl (fun _ => ?_) (fun c => absurd c (by decide))
        refine r_il4 zi_281_121 rfl ?_
        refine r_retI zi_281_123 rfl ?_
        exact ⟨_, rfl, h⟩
  | succ m ih =>
    intro p τ hp hF
    have ih := fun υ => ih (p + 1) υ (by omega)
    have hp12 : p < 12 := by omega
    have hpn : ¬ p = 12 := by omega
    have e1 : zMo V n (p + 1) = max (zMo V n p) (zpop (zset (fun s => decide (V 6 s = 1) && decide (V 3 s = nI p)) n)) := rfl
    have e2 : zMb (fun p => zRt V n B p 18) (p + 1) = if zRt V n B p 18 < 100000000 ∧ (zMb (fun p => zRt V n B p 18) p = 12 ∨ zRt V n B p 18 < zRt V n B (zMb (fun p => zRt V n B p 18) p) 18) then p else zMb (fun p => zRt V n B p 18) p := rfl
    rw [e1, e2] at ih
    have hb := zMo_b (V := V) (n := n) p
    have hb2 := zpop_le (zset (fun s => decide (V 6 s = 1) && decide (V 3 s = nI p)) n)
    have hth : ∀ (Q2 : Int32 → zS → Prop), Q2 (zset (fun s => decide (V 6 s = 1) && decide (V 3 s = nI p)) n) τ → zI1 (d + 2) 180 [.ref 195, .int (nI p)] τ Q2 := fun Q2 h2 => s_mthose (d := d + 1) ((hF 195 (by decide) 6).trans hn) hn18 (by rw [zma_v (zVm_o hV hF (by decide))]; exact h2)
    have hR := fun τ Q2 => hR p τ Q2 hp12
    have hRp := hRb p
    have hbb := zMb_b (R := fun p => zRt V n B p 18) p
    have hRk := hRb (zMb (fun p => zRt V n B p 18) p)
    generalize zset (fun s => decide (V 6 s = 1) && decide (V 3 s = nI p)) n = z at *
    generalize zMo V n p = r at *
    generalize hq9 : zpop z = w at *
    have hbt : ∀ (Q2 : Int32 → zS → Prop), Q2 (nI w) τ → zI1 (d + 2) 169 [.ref 195, .int z] τ Q2 := fun Q2 h2 => s_ones (by rw [hq9]; exact h2)
    have hmx : (if nI w < nI r then nI r else nI w) = nI (max r w) := by
      by_cases z : w < r
      · rw [Nat.max_eq_left (by omega), if_pos (nI_lt z (by omega))]
      · have z2 : nI r ≤ nI w := nI_le (by omega) (by omega)
        rw [Nat.max_eq_right (by omega), if_neg (by grind)]
    have hgt : ∀ (Q2 : Int32 → zS → Prop), Q2 (nI (max r w)) τ → zI1 (d + 2) 166 [.ref 195, .int (nI r), .int (nI w)] τ Q2 := fun Q2 h2 => s_greater (by rw [hmx]; exact h2)
    generalize hX : zRt V n B p 18 = X at *
    generalize hK : zMb (fun p => zRt V n B p 18) p = k at *
    generalize hY : zRt V n B k 18 = Y at *
    by_cases c : X < 100000000 ∧ (k = 12 ∨ X < Y)
    · have ih := fun υ => ih υ
      simp only [if_pos c, if_neg hpn, hX] at ih
      have hx : X < (if k = 12 then 100000000 else Y) := by split <;> omega
      have hl9 : (if k = 12 then 100000000 else Y) ≤ 100000000 := by split <;> omega
      generalize (if k = 12 then 100000000 else Y) = least at *
      refine r_il5 zi_281_29 rfl ?_
      refine r_push zi_281_31 rfl ?_
      refine n_ic3 (i := p) (j := 12) zi_281_33 rfl (by omega) (by omega) (fun c => absurd c (by omega)) (fun _ => ?_)
      refine r_al0 zi_281_36 rfl ?_
      refine r_il2 zi_281_37 rfl ?_
      refine r_al0 zi_281_38 rfl ?_
      refine r_al0 zi_281_39 rfl ?_
      refine r_il5 zi_281_40 rfl ?_
      refine q_cIV zi_281_42 rfl rfl rfl rfl rfl rfl rfl cf_195_0.ob (hth _ ?_)
      show zk _ _ 45 _ _ _ _
      refine q_cIV zi_281_45 rfl rfl rfl rfl rfl rfl rfl cf_195_0.ob (hbt _ ?_)
      show zk _ _ 48 _ _ _ _
      refine q_cIV zi_281_48 rfl rfl rfl rfl rfl rfl rfl cf_195_0.ob (hgt _ ?_)
      show zk _ _ 51 _ _ _ _
      refine r_is2 zi_281_51 rfl ?_
      refine r_al0 zi_281_52 rfl ?_
      refine r_il5 zi_281_53 rfl ?_
      refine q_cIV zi_281_55 rfl rfl rfl rfl rfl rfl rfl cf_195_0.ob (hR τ _ hF (fun υ x => ?_))
      show zk _ _ 58 _ _ _ _
      refine r_il3 zi_281_58 rfl ?_
      refine n_ic2 (i := X) (j := least) zi_281_59 rfl (by omega) (by omega) (fun _ => ?_) (fun c => absurd c (by omega))
      refine r_al0 zi_281_65 rfl ?_
      refine r_il5 zi_281_66 rfl ?_
      refine q_cIV zi_281_68 rfl rfl rfl rfl rfl rfl rfl cf_195_0.ob (hR υ _ x (fun ρ y => ?_))
      show zk _ _ 71 _ _ _ _
      refine r_is3 zi_281_71 rfl ?_
      refine r_il5 zi_281_72 rfl ?_
      refine r_is4 zi_281_74 rfl ?_
      refine r_in5 zi_281_76 rfl ?_
      rw [show (nI p + 1 : Int32) = nI (p + 1) from nI_add _ _]
      refine r_goto zi_281_79 rfl ?_
      exact ih ρ y
    · simp only [if_neg c] at ih
      have hx : ¬ X < (if k = 12 then 100000000 else Y) := by split <;> omega
      have hl9 : (if k = 12 then 100000000 else Y) ≤ 100000000 := by split <;> omega
      rw [hY] at ih
      generalize hle : (if k = 12 then 100000000 else Y) = least at *
      refine r_il5 zi_281_29 rfl ?_
      refine r_push zi_281_31 rfl ?_
      refine n_ic3 (i := p) (j := 12) zi_281_33 rfl (by omega) (by omega) (fun c => absurd c (by omega)) (fun _ => ?_)
      refine r_al0 zi_281_36 rfl ?_
      refine r_il2 zi_281_37 rfl ?_
      refine r_al0 zi_281_38 rfl ?_
      refine r_al0 zi_281_39 rfl ?_
      refine r_il5 zi_281_40 rfl ?_
      refine q_cIV zi_281_42 rfl rfl rfl rfl rfl rfl rfl cf_195_0.ob (hth _ ?_)
      show zk _ _ 45 _ _ _ _
      refine q_cIV zi_281_45 rfl rfl rfl rfl rfl rfl rfl cf_195_0.ob (hbt _ ?_)
      show zk _ _ 48 _ _ _ _
      refine q_cIV zi_281_48 rfl rfl rfl rfl rfl rfl rfl cf_195_0.ob (hgt _ ?_)
      show zk _ _ 51 _ _ _ _
      refine r_is2 zi_281_51 rfl ?_
      refine r_al0 zi_281_52 rfl ?_
      refine r_il5 zi_281_53 rfl ?_
      refine q_cIV zi_281_55 rfl rfl rfl rfl rfl rfl rfl cf_195_0.ob (hR τ _ hF (fun υ x => ?_))
      show zk _ _ 58 _ _ _ _
      refine r_il3 zi_281_58 rfl ?_
      refine n_ic2 (i := X) (j := least) zi_281_59 rfl (by omega) (by omega) (fun c => absurd c (by omega)) (fun _ => ?_)
      refine r_goto zi_281_62 rfl ?_
      refine r_in5 zi_281_76 rfl ?_
      rw [show (nI p + 1 : Int32) = nI (p + 1) from nI_add _ _]
      refine r_goto zi_281_79 rfl ?_
      exact ih υ x
theorem s_msits {d n : Nat} {σ V : zS} {Q : Int32 → zS → Prop} {B : Nat → Int32} {q : Int32} (hV : zVm σ V n false) (hn : σ 195 6 = nI n) (hn18 : n ≤ 18) (hg : zVg V n) (hB : σ 214 = B) (hBk : zBok B) (h : ∀ τ, Fr [217] (up σ 195 0 0) τ → Q (zSi V n B q) τ) : zI1 (d + 3) 281 [.ref 195, .int q] σ Q := by
  have hV1 : zVm (up σ 195 0 0) V n false := zVm_o hV ((Fr.rf (l := [195])).put (by decide)) (by decide)
  have hn1 : up σ 195 0 0 195 6 = nI n := (zup_nj (by decide)).trans hn
  have hB1 : up σ 195 0 0 214 = B := (funext fun b => zup_ne (by decide)).trans hB
  show zk _ _ 0 [.ref 195, .int q, zun, zun, zun, zun] [] _ _
  have hout : ¬ (0 ≤ q ∧ q ≤ 2) → zSi V n B q = -1 := fun z => by
    unfold zSi
    rw [if_neg (fun e => z (by subst e; decide)), if_neg (fun e => z (by subst e; decide)), if_neg (fun e => z (by subst e; decide))]
  by_cases hq : 0 ≤ q ∧ q ≤ 2
  · refine r_al0 zi_281_0 rfl ?_
    refine r_push zi_281_1 rfl ?_
    refine q_put zi_281_2 rfl cf_195_0 rfl ?_
    refine r_al0 zi_281_5 rfl ?_
    refine r_il1 zi_281_6 rfl ?_
    refine r_push zi_281_7 rfl ?_
    refine r_push zi_281_8 rfl ?_
    refine q_cIV zi_281_9 rfl rfl rfl rfl rfl rfl rfl cf_195_0.ob (s_isIn (fun i1 i2 => ?_) (fun i1 => absurd hq i1))
    show zk _ _ 12 _ _ _ _
    refine r_if1 zi_281_12 rfl (fun _ => ?_) (fun c => absurd c (by decide))
    refine r_push zi_281_17 rfl ?_
    refine r_is2 zi_281_18 rfl ?_
    refine r_push zi_281_19 rfl ?_
    refine r_is3 zi_281_22 rfl ?_
    refine r_push zi_281_23 rfl ?_
    refine r_is4 zi_281_24 rfl ?_
    refine r_push zi_281_26 rfl ?_
    refine r_is5 zi_281_27 rfl ?_
    exact l_msits hV1 hn1 hn18 hg hB1 hBk hq.1 hq.2 h 12 0 _ (by omega) Fr.rf
  · have h := h _ Fr.rf
    rw [hout hq] at h
    refine r_al0 zi_281_0 rfl ?_
    refine r_push zi_281_1 rfl ?_
    refine q_put zi_281_2 rfl cf_195_0 rfl ?_
    refine r_al0 zi_281_5 rfl ?_
    refine r_il1 zi_281_6 rfl ?_
    refine r_push zi_281_7 rfl ?_
    refine r_push zi_281_8 rfl ?_
    refine q_cIV zi_281_9 rfl rfl rfl rfl rfl rfl rfl cf_195_0.ob (s_isIn (fun i1 i2 => absurd ⟨i1, i2⟩ hq) (fun i1 => ?_))
    show zk _ _ 12 _ _ _ _
    refine r_if1 zi_281_12 rfl (fun c => absurd (by decide) c) (fun _ => ?_)
    refine r_push zi_281_15 rfl ?_
    refine r_retI zi_281_16 rfl ?_
    exact ⟨_, rfl, h⟩

