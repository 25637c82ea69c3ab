def orOK (what who wr g : Int32) (n t : Nat) (V : zS) : Prop := 0 ≤ what ∧ what ≤ 5 ∧ (∃ s, s < n ∧ who = nI s ∧ V 6 s = 1) ∧ (what = 0 → 0 ≤ wr ∧ wr < 12) ∧ (what = 5 → g = 0) ∧ t < 24
/-- an order as it is named -/
def orN (what who wr g : Int32) (n t : Nat) (V : zS) (w s a gg : Nat) : Prop := w ≤ 5 ∧ s < n ∧ a < 12 ∧ gg ≤ 1 ∧ what = nI w ∧ who = nI s ∧ (w = 0 → wr = nI a) ∧ (w ≠ 0 → a = 0) ∧ g = nI gg ∧ (w = 5 → gg = 0) ∧ V 6 s = 1 ∧ t < 24
theorem orN_ex {what who wr g : Int32} {n t : Nat} {V : zS} (hn : n ≤ 18) (hg : g = 0 ∨ g = 1) (h : orOK what who wr g n t V) : ∃ w s a gg, orN what who wr g n t V w s a gg := by
  obtain ⟨h1, h2, ⟨s, hs, es, ea⟩, h4, h5, h6⟩ := h
  obtain ⟨w, hw, ew⟩ := zI_ofle (n := 5) h1 h2 (by omega)
  have hgg : ∃ gg, gg ≤ 1 ∧ g = nI gg ∧ (w = 5 → gg = 0) := by
    rcases hg with e | e
    · exact ⟨0, by omega, e, fun _ => rfl⟩
    · refine ⟨1, by omega, e, fun z => ?_⟩
      have := h5 (by rw [ew, z]; rfl)
      rw [e] at this; exact absurd this (by decide)
  obtain ⟨gg, g1, g2, g3⟩ := hgg
  by_cases hw0 : w = 0
  · obtain ⟨a, ha, e⟩ := zI_of (n := 12) (h4 (by rw [ew, hw0]; rfl)).1 (h4 (by rw [ew, hw0]; rfl)).2 (by omega)
    exact ⟨w, s, a, gg, hw, hs, ha, g1, ew, es, fun _ => e, fun z => absurd hw0 z, g2, g3, ea, h6⟩
  · exact ⟨w, s, 0, gg, hw, hs, by omega, g1, ew, es, fun z => absurd z hw0, fun _ => rfl, g2, g3, ea, h6⟩
theorem orN_u {what who wr g : Int32} {n t : Nat} {V : zS} {w s a gg w' s' a' gg' : Nat} (hn : n ≤ 18) (h : orN what who wr g n t V w s a gg) (k : orN what who wr g n t V w' s' a' gg') : w' = w ∧ s' = s ∧ a' = a ∧ gg' = gg := by
  obtain ⟨h1, h2, h3, h4, h5, h6, h7, h8, h9, h10, h11, h12⟩ := h
  obtain ⟨k1, k2, k3, k4, k5, k6, k7, k8, k9, k10, k11, k12⟩ := k
  have e1 := nI_j h5 k5 (by omega) (by omega)
  have e2 := nI_j h6 k6 (by omega) (by omega)
  have e4 := nI_j h9 k9 (by omega) (by omega)
  refine ⟨e1, e2, ?_, e4⟩
  by_cases z : w = 0
  · exact nI_j (h7 z) (k7 (e1.trans z)) (by omega) (by omega)
  · rw [h8 z, k8 (by omega)]
theorem orN_ok {what who wr g : Int32} {n t : Nat} {V : zS} {w s a gg : Nat} (hn : n ≤ 18) (h : orN what who wr g n t V w s a gg) : orOK what who wr g n t V := by
  obtain ⟨h1, h2, h3, h4, h5, h6, h7, h8, h9, h10, h11, h12⟩ := h
  refine ⟨by rw [h5]; exact nI_z (by omega), by rw [h5]; exact nI_le (b := 5) h1 (by omega), ⟨s, h2, h6, h11⟩, fun z => ?_, fun z => ?_, h12⟩
  · have e : w = 0 := nI_j (b := w) (a := 0) z h5 (by omega) (by omega)
    rw [h7 e]; exact ⟨nI_z (by omega), nI_lt (b := 12) h3 (by omega)⟩
  · have e : w = 5 := nI_j (b := w) (a := 5) z h5 (by omega) (by omega)
    rw [h9, h10 e]; rfl
theorem s_kgives {d n c la t : Nat} {σ V : zS} {H : Nat → zS} {Q : Int32 → zS → Prop} {what who wr g : Int32} (hgg : g = 0 ∨ g = 1) (hV : zVk σ 2 false V) (hg : zVg V n) (ht2 : V 11 12 = nI t) (ht24 : t ≤ 24) (hP : cP σ c la H) (hc : c ≤ 6) (hl : la < 6) (h1 : ∀ w s a gg, orN what who wr g n t V w s a gg → ∀ τ, kpF σ τ → cP τ (min 6 (c + 1)) ((la + 1) % 6) (hcons V H) → Q (nI (t + 1)) (up (up τ 12 t (pok1 w s a gg)) 2 12 (nI (t + 1)))) (h0 : ¬ orOK what who wr g n t V → Q (-1) σ) : zI1 (d + 2) 124 [.ref 0, .int what, .int who, .int wr, .int g] σ Q := by
  have hn18 := hg.2.1
  have hsub : σ 2 11 = nI n := (hV.2.1 11 (by decide) (by decide)).trans hg.1
  have ht : σ 2 12 = nI t := (hV.2.1 12 (by decide) (by decide)).trans ht2
  have et : ∀ τ, kpF σ τ → τ 2 12 = nI t := fun τ h => (h 2 12 (by omega) (by omega)).trans ht
  have e6 : ∀ s, σ (2 + 1 + 6) s = V 6 s := fun s => hV.1 6 (by omega) s
  show zk _ _ 0 [.ref 0, .int what, .int who, .int wr, .int g, zun, zun] [] _ _
  by_cases hk : orOK what who wr g n t V
  · obtain ⟨w, s, a, gg, hN⟩ := orN_ex hn18 hgg hk
    replace h1 := h1 w s a gg hN
    obtain ⟨k1, k2, k3, k4, k5, k6, k7, k8, k9, k10, k11, k12⟩ := hN
    clear h0 hk hgg
    have hw5 : 0 ≤ what ∧ what ≤ 5 := nI_r (b := 0) (c := 5) k5 (by omega) k1 (by omega)
    have hsr : 0 ≤ who ∧ who < nI n := by rw [k6]; exact ⟨nI_z (by omega), nI_lt k2 (by omega)⟩
    have hal : ∀ s2, s2 < n → who = nI s2 → σ (2 + 1 + 6) s2 = 1 := fun s2 h2 e2 => by
      have := nI_j k6 e2 (by omega) (by omega)
      rw [this, e6]; exact k11
    have hpl0 : w = 0 → 0 ≤ wr ∧ wr < 12 := fun z => by rw [k7 z]; exact ⟨nI_z (by omega), nI_lt (b := 12) k3 (by omega)⟩
    by_cases w0 : w = 0
    · have hpl := hpl0 w0
      replace k7 := k7 w0
      subst w0
      subst k5 k6 k7
      have g01 : gg = 0 ∨ gg = 1 := by omega
      rcases g01 with e | e
      · subst e
        subst k9
        refine r_al0 zi_124_0 rfl ?_
        refine q_getR zi_124_1 rfl cf_0_0 ?_
        refine q_getR zi_124_4 rfl cf_1_0 ?_
        refine r_as5 zi_124_7 rfl ?_
        refine r_il1 zi_124_9 rfl ?_
        refine r_push zi_124_10 rfl ?_
        refine r_push zi_124_11 rfl ?_
        refine r_cIS zi_124_12 rfl rfl rfl rfl rfl rfl (s_within (fun _ _ => ?_) (fun z => absurd hw5 z))
        show zk _ _ 15 _ _ _ _
        refine r_if0 zi_124_15 rfl (fun c => absurd c (by decide)) (fun _ => ?_)
        refine r_al5 zi_124_18 rfl ?_
        refine r_il2 zi_124_20 rfl ?_
        refine q_cIV zi_124_21 rfl rfl rfl rfl rfl rfl rfl cf_2_0.ob (s_dlives zDu_2 hsub hn18 (fun _ _ _ _ => ?_) (fun z => absurd hsr z) (fun s2 h2 e2 n2 => absurd (hal s2 h2 e2) n2))
        show zk _ _ 24 _ _ _ _
        refine r_if0 zi_124_24 rfl (fun c => absurd c (by decide)) (fun _ => ?_)
        refine r_il1 zi_124_27 rfl ?_
        refine r_if1 zi_124_28 rfl (fun c => absurd (by decide) c) (fun _ => ?_)
        refine r_il3 zi_124_31 rfl ?_
        refine r_cIS zi_124_32 rfl rfl rfl rfl rfl rfl (s_kplace (fun _ _ => ?_) (fun z => absurd hpl z))
        show zk _ _ 35 _ _ _ _
        refine r_if0 zi_124_35 rfl (fun c => absurd c (by decide)) (fun _ => ?_)
        refine r_il1 zi_124_38 rfl ?_
        refine r_push zi_124_39 rfl ?_
        refine r_ic1 zi_124_40 rfl (fun _ => ?_) (fun c => absurd c (by decide))
        refine r_push zi_124_48 rfl ?_
        refine r_goto zi_124_49 rfl ?_
        refine r_is6 zi_124_53 rfl ?_
        refine r_il6 zi_124_55 rfl ?_
        refine r_if0 zi_124_57 rfl (fun c => absurd c (by decide)) (fun _ => ?_)
        refine r_al5 zi_124_60 rfl ?_
        refine q_getIe zi_124_62 rfl cf_2_12 (v := nI t) (by first | exact ht | ((repeat (first | rw [zup_ne (by first | decide | omega)] | rw [zup_nj (by first | decide | omega)] | rw [fil_ne (by first | decide | omega)])) <;> exact ht) | (simp [up_rd, fil_rd]; exact ht)) ?_
        refine r_push zi_124_65 rfl ?_
        refine n_ic2 (i := t) (j := 24) zi_124_67 rfl (by omega) (by omega) (fun _ => ?_) (fun c => absurd c (by omega))
        refine r_al0 zi_124_72 rfl ?_
        refine q_getR zi_124_73 rfl cf_0_6 ?_
        refine r_al5 zi_124_76 rfl ?_
        refine q_cVV zi_124_78 rfl rfl rfl rfl rfl rfl rfl cf_95_0.ob (s_keep hV hP hc hl (fun τ hτ h3 => ?_))
        show zk _ _ 81 _ _ _ _
        refine r_al5 zi_124_81 rfl ?_
        refine r_il1 zi_124_83 rfl ?_
        refine r_il2 zi_124_84 rfl ?_
        refine r_il1 zi_124_85 rfl ?_
        refine r_if1 zi_124_86 rfl (fun c => absurd (by decide) c) (fun _ => ?_)
        refine r_il3 zi_124_89 rfl ?_
        refine r_goto zi_124_90 rfl ?_
        refine r_il4 zi_124_94 rfl ?_
        refine r_cIS zi_124_96 rfl rfl rfl rfl rfl rfl (s_packed (w := 0) (s := s) (a := a) (g := 0) (by omega) ?_)
        show zk _ _ 99 _ _ _ _
        refine q_cVV zi_124_99 rfl rfl rfl rfl rfl rfl rfl cf_2_0.ob (s_dgiven zDu_2 (et _ hτ) (by omega) (fun _ => ?_) (fun z => absurd z (by omega)))
        show zk _ _ 102 _ _ _ _
        refine r_al5 zi_124_102 rfl ?_
        refine q_getIe zi_124_104 rfl cf_2_12 (v := nI (t + 1)) (by first | exact zup_eq | ((repeat (first | rw [zup_ne (by first | decide | omega)] | rw [zup_nj (by first | decide | omega)] | rw [fil_ne (by first | decide | omega)])) <;> exact zup_eq) | (simp [up_rd, fil_rd]; exact zup_eq)) ?_
        refine r_retI zi_124_107 rfl ?_
        first | exact ⟨_, rfl, h1 τ hτ h3⟩ | (exfalso; omega)
      · subst e
        subst k9
        refine r_al0 zi_124_0 rfl ?_
        refine q_getR zi_124_1 rfl cf_0_0 ?_
        refine q_getR zi_124_4 rfl cf_1_0 ?_
        refine r_as5 zi_124_7 rfl ?_
        refine r_il1 zi_124_9 rfl ?_
        refine r_push zi_124_10 rfl ?_
        refine r_push zi_124_11 rfl ?_
        refine r_cIS zi_124_12 rfl rfl rfl rfl rfl rfl (s_within (fun _ _ => ?_) (fun z => absurd hw5 z))
        show zk _ _ 15 _ _ _ _
        refine r_if0 zi_124_15 rfl (fun c => absurd c (by decide)) (fun _ => ?_)
        refine r_al5 zi_124_18 rfl ?_
        refine r_il2 zi_124_20 rfl ?_
        refine q_cIV zi_124_21 rfl rfl rfl rfl rfl rfl rfl cf_2_0.ob (s_dlives zDu_2 hsub hn18 (fun _ _ _ _ => ?_) (fun z => absurd hsr z) (fun s2 h2 e2 n2 => absurd (hal s2 h2 e2) n2))
        show zk _ _ 24 _ _ _ _
        refine r_if0 zi_124_24 rfl (fun c => absurd c (by decide)) (fun _ => ?_)
        refine r_il1 zi_124_27 rfl ?_
        refine r_if1 zi_124_28 rfl (fun c => absurd (by decide) c) (fun _ => ?_)
        refine r_il3 zi_124_31 rfl ?_
        refine r_cIS zi_124_32 rfl rfl rfl rfl rfl rfl (s_kplace (fun _ _ => ?_) (fun z => absurd hpl z))
        show zk _ _ 35 _ _ _ _
        refine r_if0 zi_124_35 rfl (fun c => absurd c (by decide)) (fun _ => ?_)
        refine r_il1 zi_124_38 rfl ?_
        refine r_push zi_124_39 rfl ?_
        refine r_ic1 zi_124_40 rfl (fun _ => ?_) (fun c => absurd c (by decide))
        refine r_push zi_124_48 rfl ?_
        refine r_goto zi_124_49 rfl ?_
        refine r_is6 zi_124_53 rfl ?_
        refine r_il6 zi_124_55 rfl ?_
        refine r_if0 zi_124_57 rfl (fun c => absurd c (by decide)) (fun _ => ?_)
        refine r_al5 zi_124_60 rfl ?_
        refine q_getIe zi_124_62 rfl cf_2_12 (v := nI t) (by first | exact ht | ((repeat (first | rw [zup_ne (by first | decide | omega)] | rw [zup_nj (by first | decide | omega)] | rw [fil_ne (by first | decide | omega)])) <;> exact ht) | (simp [up_rd, fil_rd]; exact ht)) ?_
        refine r_push zi_124_65 rfl ?_
        refine n_ic2 (i := t) (j := 24) zi_124_67 rfl (by omega) (by omega) (fun _ => ?_) (fun c => absurd c (by omega))
        refine r_al0 zi_124_72 rfl ?_
        refine q_getR zi_124_73 rfl cf_0_6 ?_
        refine r_al5 zi_124_76 rfl ?_
        refine q_cVV zi_124_78 rfl rfl rfl rfl rfl rfl rfl cf_95_0.ob (s_keep hV hP hc hl (fun τ hτ h3 => ?_))
        show zk _ _ 81 _ _ _ _
        refine r_al5 zi_124_81 rfl ?_
        refine r_il1 zi_124_83 rfl ?_
        refine r_il2 zi_124_84 rfl ?_
        refine r_il1 zi_124_85 rfl ?_
        refine r_if1 zi_124_86 rfl (fun c => absurd (by decide) c) (fun _ => ?_)
        refine r_il3 zi_124_89 rfl ?_
        refine r_goto zi_124_90 rfl ?_
        refine r_il4 zi_124_94 rfl ?_
        refine r_cIS zi_124_96 rfl rfl rfl rfl rfl rfl (s_packed (w := 0) (s := s) (a := a) (g := 1) (by omega) ?_)
        show zk _ _ 99 _ _ _ _
        refine q_cVV zi_124_99 rfl rfl rfl rfl rfl rfl rfl cf_2_0.ob (s_dgiven zDu_2 (et _ hτ) (by omega) (fun _ => ?_) (fun z => absurd z (by omega)))
        show zk _ _ 102 _ _ _ _
        refine r_al5 zi_124_102 rfl ?_
        refine q_getIe zi_124_104 rfl cf_2_12 (v := nI (t + 1)) (by first | exact zup_eq | ((repeat (first | rw [zup_ne (by first | decide | omega)] | rw [zup_nj (by first | decide | omega)] | rw [fil_ne (by first | decide | omega)])) <;> exact zup_eq) | (simp [up_rd, fil_rd]; exact zup_eq)) ?_
        refine r_retI zi_124_107 rfl ?_
        first | exact ⟨_, rfl, h1 τ hτ h3⟩ | (exfalso; omega)
    · replace k8 := k8 w0
      subst k8
      subst k5 k6
      have g01 : gg = 0 ∨ gg = 1 := by omega
      rcases g01 with e | e
      · subst e
        subst k9
        refine r_al0 zi_124_0 rfl ?_
        refine q_getR zi_124_1 rfl cf_0_0 ?_
        refine q_getR zi_124_4 rfl cf_1_0 ?_
        refine r_as5 zi_124_7 rfl ?_
        refine r_il1 zi_124_9 rfl ?_
        refine r_push zi_124_10 rfl ?_
        refine r_push zi_124_11 rfl ?_
        refine r_cIS zi_124_12 rfl rfl rfl rfl rfl rfl (s_within (fun _ _ => ?_) (fun z => absurd hw5 z))
        show zk _ _ 15 _ _ _ _
        refine r_if0 zi_124_15 rfl (fun c => absurd c (by decide)) (fun _ => ?_)
        refine r_al5 zi_124_18 rfl ?_
        refine r_il2 zi_124_20 rfl ?_
        refine q_cIV zi_124_21 rfl rfl rfl rfl rfl rfl rfl cf_2_0.ob (s_dlives zDu_2 hsub hn18 (fun _ _ _ _ => ?_) (fun z => absurd hsr z) (fun s2 h2 e2 n2 => absurd (hal s2 h2 e2) n2))
        show zk _ _ 24 _ _ _ _
        refine r_if0 zi_124_24 rfl (fun c => absurd c (by decide)) (fun _ => ?_)
        refine r_il1 zi_124_27 rfl ?_
        refine n_if1 (i := w) zi_124_28 rfl (by omega) (fun _ => ?_) (fun c => absurd c (by omega))
        refine r_il1 zi_124_38 rfl ?_
        refine r_push zi_124_39 rfl ?_
        refine n_ic1 (i := w) (j := 5) zi_124_40 rfl (by omega) (by omega) (fun c3 => ?_) (fun c3 => ?_)
        · refine r_push zi_124_48 rfl ?_
          refine r_goto zi_124_49 rfl ?_
          refine r_is6 zi_124_53 rfl ?_
          refine r_il6 zi_124_55 rfl ?_
          refine r_if0 zi_124_57 rfl (fun c => absurd c (by decide)) (fun _ => ?_)
          refine r_al5 zi_124_60 rfl ?_
          refine q_getIe zi_124_62 rfl cf_2_12 (v := nI t) (by first | exact ht | ((repeat (first | rw [zup_ne (by first | decide | omega)] | rw [zup_nj (by first | decide | omega)] | rw [fil_ne (by first | decide | omega)])) <;> exact ht) | (simp [up_rd, fil_rd]; exact ht)) ?_
          refine r_push zi_124_65 rfl ?_
          refine n_ic2 (i := t) (j := 24) zi_124_67 rfl (by omega) (by omega) (fun _ => ?_) (fun c => absurd c (by omega))
          refine r_al0 zi_124_72 rfl ?_
          refine q_getR zi_124_73 rfl cf_0_6 ?_
          refine r_al5 zi_124_76 rfl ?_
          refine q_cVV zi_124_78 rfl rfl rfl rfl rfl rfl rfl cf_95_0.ob (s_keep hV hP hc hl (fun τ hτ h3 => ?_))
          show zk _ _ 81 _ _ _ _
          refine r_al5 zi_124_81 rfl ?_
          refine r_il1 zi_124_83 rfl ?_
          refine r_il2 zi_124_84 rfl ?_
          refine r_il1 zi_124_85 rfl ?_
          refine n_if1 (i := w) zi_124_86 rfl (by omega) (fun _ => ?_) (fun c => absurd c (by omega))
          refine r_push zi_124_93 rfl ?_
          refine r_il4 zi_124_94 rfl ?_
          refine r_cIS zi_124_96 rfl rfl rfl rfl rfl rfl (s_packed (w := w) (s := s) (a := 0) (g := 0) (by omega) ?_)
          show zk _ _ 99 _ _ _ _
          refine q_cVV zi_124_99 rfl rfl rfl rfl rfl rfl rfl cf_2_0.ob (s_dgiven zDu_2 (et _ hτ) (by omega) (fun _ => ?_) (fun z => absurd z (by omega)))
          show zk _ _ 102 _ _ _ _
          refine r_al5 zi_124_102 rfl ?_
          refine q_getIe zi_124_104 rfl cf_2_12 (v := nI (t + 1)) (by first | exact zup_eq | ((repeat (first | rw [zup_ne (by first | decide | omega)] | rw [zup_nj (by first | decide | omega)] | rw [fil_ne (by first | decide | omega)])) <;> exact zup_eq) | (simp [up_rd, fil_rd]; exact zup_eq)) ?_
          refine r_retI zi_124_107 rfl ?_
          first | exact ⟨_, rfl, h1 τ hτ h3⟩ | (exfalso; omega)
        · refine r_il4 zi_124_43 rfl ?_
          refine r_if1 zi_124_45 rfl (fun c => absurd (by decide) c) (fun _ => ?_)
          refine r_push zi_124_48 rfl ?_
          refine r_goto zi_124_49 rfl ?_
          refine r_is6 zi_124_53 rfl ?_
          refine r_il6 zi_124_55 rfl ?_
          refine r_if0 zi_124_57 rfl (fun c => absurd c (by decide)) (fun _ => ?_)
          refine r_al5 zi_124_60 rfl ?_
          refine q_getIe zi_124_62 rfl cf_2_12 (v := nI t) (by first | exact ht | ((repeat (first | rw [zup_ne (by first | decide | omega)] | rw [zup_nj (by first | decide | omega)] | rw [fil_ne (by first | decide | omega)])) <;> exact ht) | (simp [up_rd, fil_rd]; exact ht)) ?_
          refine r_push zi_124_65 rfl ?_
          refine n_ic2 (i := t) (j := 24) zi_124_67 rfl (by omega) (by omega) (fun _ => ?_) (fun c => absurd c (by omega))
          refine r_al0 zi_124_72 rfl ?_
          refine q_getR zi_124_73 rfl cf_0_6 ?_
          refine r_al5 zi_124_76 rfl ?_
          refine q_cVV zi_124_78 rfl rfl rfl rfl rfl rfl rfl cf_95_0.ob (s_keep hV hP hc hl (fun τ hτ h3 => ?_))
          show zk _ _ 81 _ _ _ _
          refine r_al5 zi_124_81 rfl ?_
          refine r_il1 zi_124_83 rfl ?_
          refine r_il2 zi_124_84 rfl ?_
          refine r_il1 zi_124_85 rfl ?_
          refine n_if1 (i := w) zi_124_86 rfl (by omega) (fun _ => ?_) (fun c => absurd c (by omega))
          refine r_push zi_124_93 rfl ?_
          refine r_il4 zi_124_94 rfl ?_
          refine r_cIS zi_124_96 rfl rfl rfl rfl rfl rfl (s_packed (w := w) (s := s) (a := 0) (g := 0) (by omega) ?_)
          show zk _ _ 99 _ _ _ _
          refine q_cVV zi_124_99 rfl rfl rfl rfl rfl rfl rfl cf_2_0.ob (s_dgiven zDu_2 (et _ hτ) (by omega) (fun _ => ?_) (fun z => absurd z (by omega)))
          show zk _ _ 102 _ _ _ _
          refine r_al5 zi_124_102 rfl ?_
          refine q_getIe zi_124_104 rfl cf_2_12 (v := nI (t + 1)) (by first | exact zup_eq | ((repeat (first | rw [zup_ne (by first | decide | omega)] | rw [zup_nj (by first | decide | omega)] | rw [fil_ne (by first | decide | omega)])) <;> exact zup_eq) | (simp [up_rd, fil_rd]; exact zup_eq)) ?_
          refine r_retI zi_124_107 rfl ?_
          first | exact ⟨_, rfl, h1 τ hτ h3⟩ | (exfalso; omega)
      · subst e
        subst k9
        refine r_al0 zi_124_0 rfl ?_
        refine q_getR zi_124_1 rfl cf_0_0 ?_
        refine q_getR zi_124_4 rfl cf_1_0 ?_
        refine r_as5 zi_124_7 rfl ?_
        refine r_il1 zi_124_9 rfl ?_
        refine r_push zi_124_10 rfl ?_
        refine r_push zi_124_11 rfl ?_
        refine r_cIS zi_124_12 rfl rfl rfl rfl rfl rfl (s_within (fun _ _ => ?_) (fun z => absurd hw5 z))
        show zk _ _ 15 _ _ _ _
        refine r_if0 zi_124_15 rfl (fun c => absurd c (by decide)) (fun _ => ?_)
        refine r_al5 zi_124_18 rfl ?_
        refine r_il2 zi_124_20 rfl ?_
        refine q_cIV zi_124_21 rfl rfl rfl rfl rfl rfl rfl cf_2_0.ob (s_dlives zDu_2 hsub hn18 (fun _ _ _ _ => ?_) (fun z => absurd hsr z) (fun s2 h2 e2 n2 => absurd (hal s2 h2 e2) n2))
        show zk _ _ 24 _ _ _ _
        refine r_if0 zi_124_24 rfl (fun c => absurd c (by decide)) (fun _ => ?_)
        refine r_il1 zi_124_27 rfl ?_
        refine n_if1 (i := w) zi_124_28 rfl (by omega) (fun _ => ?_) (fun c => absurd c (by omega))
        refine r_il1 zi_124_38 rfl ?_
        refine r_push zi_124_39 rfl ?_
        refine n_ic1 (i := w) (j := 5) zi_124_40 rfl (by omega) (by omega) (fun c3 => ?_) (fun c3 => ?_)
        · refine r_push zi_124_48 rfl ?_
          refine r_goto zi_124_49 rfl ?_
          refine r_is6 zi_124_53 rfl ?_
          refine r_il6 zi_124_55 rfl ?_
          refine r_if0 zi_124_57 rfl (fun c => absurd c (by decide)) (fun _ => ?_)
          refine r_al5 zi_124_60 rfl ?_
          refine q_getIe zi_124_62 rfl cf_2_12 (v := nI t) (by first | exact ht | ((repeat (first | rw [zup_ne (by first | decide | omega)] | rw [zup_nj (by first | decide | omega)] | rw [fil_ne (by first | decide | omega)])) <;> exact ht) | (simp [up_rd, fil_rd]; exact ht)) ?_
          refine r_push zi_124_65 rfl ?_
          refine n_ic2 (i := t) (j := 24) zi_124_67 rfl (by omega) (by omega) (fun _ => ?_) (fun c => absurd c (by omega))
          refine r_al0 zi_124_72 rfl ?_
          refine q_getR zi_124_73 rfl cf_0_6 ?_
          refine r_al5 zi_124_76 rfl ?_
          refine q_cVV zi_124_78 rfl rfl rfl rfl rfl rfl rfl cf_95_0.ob (s_keep hV hP hc hl (fun τ hτ h3 => ?_))
          show zk _ _ 81 _ _ _ _
          refine r_al5 zi_124_81 rfl ?_
          refine r_il1 zi_124_83 rfl ?_
          refine r_il2 zi_124_84 rfl ?_
          refine r_il1 zi_124_85 rfl ?_
          refine n_if1 (i := w) zi_124_86 rfl (by omega) (fun _ => ?_) (fun c => absurd c (by omega))
          refine r_push zi_124_93 rfl ?_
          refine r_il4 zi_124_94 rfl ?_
          refine r_cIS zi_124_96 rfl rfl rfl rfl rfl rfl (s_packed (w := w) (s := s) (a := 0) (g := 1) (by omega) ?_)
          show zk _ _ 99 _ _ _ _
          refine q_cVV zi_124_99 rfl rfl rfl rfl rfl rfl rfl cf_2_0.ob (s_dgiven zDu_2 (et _ hτ) (by omega) (fun _ => ?_) (fun z => absurd z (by omega)))
          show zk _ _ 102 _ _ _ _
          refine r_al5 zi_124_102 rfl ?_
          refine q_getIe zi_124_104 rfl cf_2_12 (v := nI (t + 1)) (by first | exact zup_eq | ((repeat (first | rw [zup_ne (by first | decide | omega)] | rw [zup_nj (by first | decide | omega)] | rw [fil_ne (by first | decide | omega)])) <;> exact zup_eq) | (simp [up_rd, fil_rd]; exact zup_eq)) ?_
          refine r_retI zi_124_107 rfl ?_
          first | exact ⟨_, rfl, h1 τ hτ h3⟩ | (exfalso; omega)
        · refine r_il4 zi_124_43 rfl ?_
          refine r_if1 zi_124_45 rfl (fun _ => ?_) (fun c => absurd c (by decide))
          refine r_push zi_124_52 rfl ?_
          refine r_is6 zi_124_53 rfl ?_
          refine r_il6 zi_124_55 rfl ?_
          refine r_if0 zi_124_57 rfl (fun _ => ?_) (fun c => absurd (by decide) c)
          refine r_push zi_124_70 rfl ?_
          refine r_retI zi_124_71 rfl ?_
          first | exact ⟨_, rfl, h1 τ hτ h3⟩ | (exfalso; omega)
  · replace h0 := h0 hk
    clear h1
    have hlv : ∀ (Q2 : Int32 → zS → Prop), ((∃ s, s < n ∧ who = nI s ∧ V 6 s = 1) → Q2 1 σ) → (¬ (∃ s, s < n ∧ who = nI s ∧ V 6 s = 1) → Q2 0 σ) → zI1 (d + 1) 19 [.ref 2, .int who] σ Q2 := fun Q2 q1 q0 => s_dlives zDu_2 hsub hn18 (fun s hs e a => q1 ⟨s, hs, e, by rw [← e6]; exact a⟩) (fun z => q0 (fun ⟨s, hs, e, _⟩ => z (by rw [e]; exact ⟨nI_z (by omega), nI_lt hs (by omega)⟩))) (fun s hs e a => q0 (fun ⟨s2, h2, e2, a2⟩ => a (by rw [e6, ← nI_j e e2 (by omega) (by omega)]; exact a2)))
    refine r_al0 zi_124_0 rfl ?_
    refine q_getR zi_124_1 rfl cf_0_0 ?_
    refine q_getR zi_124_4 rfl cf_1_0 ?_
    refine r_as5 zi_124_7 rfl ?_
    refine r_il1 zi_124_9 rfl ?_
    refine r_push zi_124_10 rfl ?_
    refine r_push zi_124_11 rfl ?_
    refine r_cIS zi_124_12 rfl rfl rfl rfl rfl rfl (s_within (fun i1 a1 => ?_) (fun i1 => ?_))
    · show zk _ _ 15 _ _ _ _
      refine r_if0 zi_124_15 rfl (fun c => absurd c (by decide)) (fun _ => ?_)
      refine r_al5 zi_124_18 rfl ?_
      refine r_il2 zi_124_20 rfl ?_
      refine q_cIV zi_124_21 rfl rfl rfl rfl rfl rfl rfl cf_2_0.ob (hlv _ (fun i2 => ?_) (fun i2 => ?_))
      · show zk _ _ 24 _ _ _ _
        refine r_if0 zi_124_24 rfl (fun c => absurd c (by decide)) (fun _ => ?_)
        refine r_il1 zi_124_27 rfl ?_
        refine r_if1 zi_124_28 rfl (fun c3 => ?_) (fun c3 => ?_)
        · refine r_il1 zi_124_38 rfl ?_
          refine r_push zi_124_39 rfl ?_
          refine r_ic1 zi_124_40 rfl (fun c4 => ?_) (fun c4 => ?_)
          · refine r_push zi_124_48 rfl ?_
            refine r_goto zi_124_49 rfl ?_
            refine r_is6 zi_124_53 rfl ?_
            refine r_il6 zi_124_55 rfl ?_
            refine r_if0 zi_124_57 rfl (fun c => absurd c (by decide)) (fun _ => ?_)
            refine r_al5 zi_124_60 rfl ?_
            refine q_getIe zi_124_62 rfl cf_2_12 (v := nI t) (by first | exact ht | ((repeat (first | rw [zup_ne (by first | decide | omega)] | rw [zup_nj (by first | decide | omega)] | rw [fil_ne (by first | decide | omega)])) <;> exact ht) | (simp [up_rd, fil_rd]; exact ht)) ?_
            refine r_push zi_124_65 rfl ?_
            refine n_ic2 (i := t) (j := 24) zi_124_67 rfl (by omega) (by omega) (fun c5 => ?_) (fun c5 => ?_)
            · exact absurd ⟨by assumption, by assumption, by assumption, fun z => by first | exact ⟨by assumption, by assumption⟩ | (exact absurd z (by assumption)), fun z => by first | assumption | (exact absurd z (by assumption)), by omega⟩ hk
            · refine r_push zi_124_70 rfl ?_
              refine r_retI zi_124_71 rfl ?_
              exact ⟨_, rfl, h0⟩
          · refine r_il4 zi_124_43 rfl ?_
            refine r_if1 zi_124_45 rfl (fun c6 => ?_) (fun c6 => ?_)
            · refine r_push zi_124_52 rfl ?_
              refine r_is6 zi_124_53 rfl ?_
              refine r_il6 zi_124_55 rfl ?_
              refine r_if0 zi_124_57 rfl (fun _ => ?_) (fun c => absurd (by decide) c)
              refine r_push zi_124_70 rfl ?_
              refine r_retI zi_124_71 rfl ?_
              exact ⟨_, rfl, h0⟩
            · refine r_push zi_124_48 rfl ?_
              refine r_goto zi_124_49 rfl ?_
              refine r_is6 zi_124_53 rfl ?_
              refine r_il6 zi_124_55 rfl ?_
              refine r_if0 zi_124_57 rfl (fun c => absurd c (by decide)) (fun _ => ?_)
              refine r_al5 zi_124_60 rfl ?_
              refine q_getIe zi_124_62 rfl cf_2_12 (v := nI t) (by first | exact ht | ((repeat (first | rw [zup_ne (by first | decide | omega)] | rw [zup_nj (by first | decide | omega)] | rw [fil_ne (by first | decide | omega)])) <;> exact ht) | (simp [up_rd, fil_rd]; exact ht)) ?_
              refine r_push zi_124_65 rfl ?_
              refine n_ic2 (i := t) (j := 24) zi_124_67 rfl (by omega) (by omega) (fun c7 => ?_) (fun c7 => ?_)
              · exact absurd ⟨by assumption, by assumption, by assumption, fun z => by first | exact ⟨by assumption, by assumption⟩ | (exact absurd z (by assumption)), fun z => by first | assumption | (exact absurd z (by assumption)), by omega⟩ hk
              · refine r_push zi_124_70 rfl ?_
                refine r_retI zi_124_71 rfl ?_
                exact ⟨_, rfl, h0⟩
        · refine r_il3 zi_124_31 rfl ?_
          refine r_cIS zi_124_32 rfl rfl rfl rfl rfl rfl (s_kplace (fun i8 a8 => ?_) (fun i8 => ?_))
          · show zk _ _ 35 _ _ _ _
            refine r_if0 zi_124_35 rfl (fun c => absurd c (by decide)) (fun _ => ?_)
            refine r_il1 zi_124_38 rfl ?_
            refine r_push zi_124_39 rfl ?_
            refine r_ic1 zi_124_40 rfl (fun c9 => ?_) (fun c9 => ?_)
            · refine r_push zi_124_48 rfl ?_
              refine r_goto zi_124_49 rfl ?_
              refine r_is6 zi_124_53 rfl ?_
              refine r_il6 zi_124_55 rfl ?_
              refine r_if0 zi_124_57 rfl (fun c => absurd c (by decide)) (fun _ => ?_)
              refine r_al5 zi_124_60 rfl ?_
              refine q_getIe zi_124_62 rfl cf_2_12 (v := nI t) (by first | exact ht | ((repeat (first | rw [zup_ne (by first | decide | omega)] | rw [zup_nj (by first | decide | omega)] | rw [fil_ne (by first | decide | omega)])) <;> exact ht) | (simp [up_rd, fil_rd]; exact ht)) ?_
              refine r_push zi_124_65 rfl ?_
              refine n_ic2 (i := t) (j := 24) zi_124_67 rfl (by omega) (by omega) (fun c10 => ?_) (fun c10 => ?_)
              · exact absurd ⟨by assumption, by assumption, by assumption, fun z => by first | exact ⟨by assumption, by assumption⟩ | (exact absurd z (by assumption)), fun z => by first | assumption | (exact absurd z (by assumption)), by omega⟩ hk
              · refine r_push zi_124_70 rfl ?_
                refine r_retI zi_124_71 rfl ?_
                exact ⟨_, rfl, h0⟩
            · refine r_il4 zi_124_43 rfl ?_
              refine r_if1 zi_124_45 rfl (fun c11 => ?_) (fun c11 => ?_)
              · refine r_push zi_124_52 rfl ?_
                refine r_is6 zi_124_53 rfl ?_
                refine r_il6 zi_124_55 rfl ?_
                refine r_if0 zi_124_57 rfl (fun _ => ?_) (fun c => absurd (by decide) c)
                refine r_push zi_124_70 rfl ?_
                refine r_retI zi_124_71 rfl ?_
                exact ⟨_, rfl, h0⟩
              · refine r_push zi_124_48 rfl ?_
                refine r_goto zi_124_49 rfl ?_
                refine r_is6 zi_124_53 rfl ?_
                refine r_il6 zi_124_55 rfl ?_
                refine r_if0 zi_124_57 rfl (fun c => absurd c (by decide)) (fun _ => ?_)
                refine r_al5 zi_124_60 rfl ?_
                refine q_getIe zi_124_62 rfl cf_2_12 (v := nI t) (by first | exact ht | ((repeat (first | rw [zup_ne (by first | decide | omega)] | rw [zup_nj (by first | decide | omega)] | rw [fil_ne (by first | decide | omega)])) <;> exact ht) | (simp [up_rd, fil_rd]; exact ht)) ?_
                refine r_push zi_124_65 rfl ?_
                refine n_ic2 (i := t) (j := 24) zi_124_67 rfl (by omega) (by omega) (fun c12 => ?_) (fun c12 => ?_)
                · exact absurd ⟨by assumption, by assumption, by assumption, fun z => by first | exact ⟨by assumption, by assumption⟩ | (exact absurd z (by assumption)), fun z => by first | assumption | (exact absurd z (by assumption)), by omega⟩ hk
                · refine r_push zi_124_70 rfl ?_
                  refine r_retI zi_124_71 rfl ?_
                  exact ⟨_, rfl, h0⟩
          · show zk _ _ 35 _ _ _ _
            refine r_if0 zi_124_35 rfl (fun _ => ?_) (fun c => absurd (by decide) c)
            refine r_push zi_124_52 rfl ?_
            refine r_is6 zi_124_53 rfl ?_
            refine r_il6 zi_124_55 rfl ?_
            refine r_if0 zi_124_57 rfl (fun _ => ?_) (fun c => absurd (by decide) c)
            refine r_push zi_124_70 rfl ?_
            refine r_retI zi_124_71 rfl ?_
            exact ⟨_, rfl, h0⟩
      · show zk _ _ 24 _ _ _ _
        refine r_if0 zi_124_24 rfl (fun _ => ?_) (fun c => absurd (by decide) c)
        refine r_push zi_124_52 rfl ?_
        refine r_is6 zi_124_53 rfl ?_
        refine r_il6 zi_124_55 rfl ?_
        refine r_if0 zi_124_57 rfl (fun _ => ?_) (fun c => absurd (by decide) c)
        refine r_push zi_124_70 rfl ?_
        refine r_retI zi_124_71 rfl ?_
        exact ⟨_, rfl, h0⟩
    · show zk _ _ 15 _ _ _ _
      refine r_if0 zi_124_15 rfl (fun _ => ?_) (fun c => absurd (by decide) c)
      refine r_push zi_124_52 rfl ?_
      refine r_is6 zi_124_53 rfl ?_
      refine r_il6 zi_124_55 rfl ?_
      refine r_if0 zi_124_57 rfl (fun _ => ?_) (fun c => absurd (by decide) c)
      refine r_push zi_124_70 rfl ?_
      refine r_retI zi_124_71 rfl ?_
      exact ⟨_, rfl, h0⟩

