/-! SAID, class -/
theorem ztnF_b {f l b : Nat} (h : (b + 1) * 10 ^ (f + 1) ≤ 10000) : (b * 10 + l % 10 + 1) * 10 ^ f ≤ 10000 ∧ b ≤ 9999 := by
  have e : (b + 1) * 10 ^ (f + 1) = (b * 10 + 10) * 10 ^ f := by rw [Nat.pow_succ, Nat.mul_comm (10 ^ f) 10, ← Nat.mul_assoc, Nat.add_mul]
  have h1 : (b * 10 + l % 10 + 1) * 10 ^ f ≤ (b * 10 + 10) * 10 ^ f := Nat.mul_le_mul_right _ (by omega)
  have h2 : b + 1 ≤ (b + 1) * 10 ^ (f + 1) := Nat.le_mul_of_pos_right _ (Nat.pow_pos (by omega))
  omega
theorem ztnF_0 : ∀ f b, ztnF f 0 b = b
  | 0, _ => rfl
  | f + 1, _ => rfl
theorem l_kturn {d : Nat} {σ : zS} {Q : Int32 → zS → Prop} {v : Value} : ∀ (f l b : Nat), l < 10 ^ f → (b + 1) * 10 ^ f ≤ 10000 → Q (nI (ztnF f l b % 1000)) σ → zk d 72 4 [v, .int (nI b), .int (nI l)] [] σ (fun r t => ∃ v, r = some v ∧ Q v t) := by
  intro f
  induction f with
  | zero =>
    intro l b hl hb hq
    have e : l = 0 := by omega
    subst e
    rw [Nat.pow_zero, Nat.mul_one] at hb
    refine r_il2 zi_72_4 rfl ?_
    refine r_if5 zi_72_5 rfl (fun _ => ?_) (fun c => absurd (by decide) c)
    refine r_il1 zi_72_26 rfl ?_
    refine r_push zi_72_27 rfl ?_
    refine r_rem zi_72_30 rfl (by decide) ?_
    rw [show (nI b % 1000 : Int32) = nI (b % 1000) from zI_rem (d := 1000) (by omega) (by omega) (by omega)]
    refine r_retI zi_72_31 rfl ?_
    exact ⟨_, rfl, hq⟩
  | succ f ih =>
    intro l b hl hb hq
    obtain ⟨hb2, hb3⟩ := ztnF_b (l := l) hb
    have hl3 : l / 10 < 10 ^ f := by rw [Nat.pow_succ] at hl; omega
    by_cases h0 : l = 0
    · subst h0
      rw [ztnF_0] at hq
      refine r_il2 zi_72_4 rfl ?_
      refine r_if5 zi_72_5 rfl (fun _ => ?_) (fun c => absurd (by decide) c)
      refine r_il1 zi_72_26 rfl ?_
      refine r_push zi_72_27 rfl ?_
      refine r_rem zi_72_30 rfl (by decide) ?_
      rw [show (nI b % 1000 : Int32) = nI (b % 1000) from zI_rem (d := 1000) (by omega) (by omega) (by omega)]
      refine r_retI zi_72_31 rfl ?_
      exact ⟨_, rfl, hq⟩
    · have hlb : l < 2 ^ 31 := by
        have : 10 ^ (f + 1) ≤ 10000 := Nat.le_trans (Nat.le_mul_of_pos_left _ (by omega)) hb
        omega
      have e : ztnF (f + 1) l b = ztnF f (l / 10) (b * 10 + l % 10) := if_neg h0
      rw [e] at hq
      refine r_il2 zi_72_4 rfl ?_
      refine n_if5 (i := l) zi_72_5 rfl (by omega) (fun c => absurd c (by omega)) (fun _ => ?_)
      refine r_il1 zi_72_8 rfl ?_
      refine r_push zi_72_9 rfl ?_
      refine r_b2 zi_72_11 rfl ?_
      rw [show (nI b * 10 : Int32) = nI (b * 10) from pk_mul _ _]
      refine r_il2 zi_72_12 rfl ?_
      refine r_push zi_72_13 rfl ?_
      refine r_rem zi_72_15 rfl (by decide) ?_
      rw [show (nI l % 10 : Int32) = nI (l % 10) from zI_rem (d := 10) (by omega) (by omega) (by omega)]
      refine r_b0 zi_72_16 rfl ?_
      rw [show (nI (b * 10) + nI (l % 10) : Int32) = nI ((b * 10) + (l % 10)) from nI_add _ _]
      refine r_is1 zi_72_17 rfl ?_
      refine r_il2 zi_72_18 rfl ?_
      refine r_push zi_72_19 rfl ?_
      refine r_div zi_72_21 rfl (by decide) ?_
      rw [show (nI l / 10 : Int32) = nI (l / 10) from pk_div (d := 10) (by omega) (by omega) (by omega)]
      refine r_is2 zi_72_22 rfl ?_
      refine r_goto zi_72_23 rfl ?_
      exact ih _ _ hl3 hb2 hq
theorem s_kturn {d v : Nat} {σ : zS} {Q : Int32 → zS → Prop} (hv : v < 1000) (hq : Q (nI (ztn v)) σ) : zI1 d 72 [.int (nI v)] σ Q := by
  show zk _ _ 0 [.int (nI v), zun, zun] [] _ _
  have e : ztnF 3 v 0 % 1000 = ztn v := Nat.mod_eq_of_lt (ztn_lt v hv)
  refine r_push zi_72_0 rfl ?_
  refine r_is1 zi_72_1 rfl ?_
  refine r_il0 zi_72_2 rfl ?_
  refine r_is2 zi_72_3 rfl ?_
  exact l_kturn 3 v 0 (by omega) (by decide) (by rw [e]; exact hq)
theorem zsub3 {v : Nat} (hv : v < 1000) : (if 0 < nI v - 3 then nI v - 3 else 0) = nI (v - 3) := by
  by_cases h : 3 ≤ v
  · have e : nI v - 3 = nI (v - 3) := pk_sub (a := v) (b := 3) h
    rw [e]
    by_cases h2 : 0 < v - 3
    · have h3 : (0 : Int32) < nI (v - 3) := nI_lt (a := 0) h2 (by omega)
      rw [if_pos h3]
    · rw [show v - 3 = 0 by omega]; rfl
  · have hn : nI v - 3 < 0 := pk_sneg (a := v) (b := 3) (by omega) (by omega)
    rw [if_neg (by grind), show v - 3 = 0 by omega]; rfl
theorem s_spoken {d v k : Nat} {σ : zS} {Q : Int32 → zS → Prop} (hv : v < 1000) (hk : k < 5) (hq : Q (nI (zto v k)) σ) : zI1 (d + 1) 71 [.int (nI v), .int (nI k)] σ Q := by
  have h5 : k = 0 ∨ k = 1 ∨ k = 2 ∨ k = 3 ∨ k = 4 := by omega
  show zk _ _ 0 [.int (nI v), .int (nI k)] [] _ _
  rcases h5 with e | e | e | e | e <;> subst e
  · show zk _ _ 0 [.int (nI v), .int 0] [] _ _
    refine r_il1 zi_71_0 rfl ?_
    refine r_sw zi_71_1 rfl ?_
    rw [show zsw [(0, 32), (1, 40), (2, 48), (3, 56)] 61 0 = 32 from by decide]
    refine r_il0 zi_71_32 rfl ?_
    refine r_push zi_71_33 rfl ?_
    refine r_b2 zi_71_34 rfl ?_
    rw [show (nI v * 2 : Int32) = nI (v * 2) from pk_mul _ _]
    refine r_push zi_71_35 rfl ?_
    refine r_rem zi_71_38 rfl (by decide) ?_
    rw [show (nI (v * 2) % 1000 : Int32) = nI ((v * 2) % 1000) from zI_rem (d := 1000) (by omega) (by omega) (by omega)]
    refine r_retI zi_71_39 rfl ?_
    exact ⟨_, rfl, hq⟩
  · show zk _ _ 0 [.int (nI v), .int 1] [] _ _
    refine r_il1 zi_71_0 rfl ?_
    refine r_sw zi_71_1 rfl ?_
    rw [show zsw [(0, 32), (1, 40), (2, 48), (3, 56)] 61 1 = 40 from by decide]
    refine r_il0 zi_71_40 rfl ?_
    refine r_push zi_71_41 rfl ?_
    refine r_b0 zi_71_42 rfl ?_
    rw [show (nI v + 1 : Int32) = nI (v + 1) from nI_add _ _]
    refine r_push zi_71_43 rfl ?_
    refine r_rem zi_71_46 rfl (by decide) ?_
    rw [show (nI (v + 1) % 1000 : Int32) = nI ((v + 1) % 1000) from zI_rem (d := 1000) (by omega) (by omega) (by omega)]
    refine r_retI zi_71_47 rfl ?_
    exact ⟨_, rfl, hq⟩
  · show zk _ _ 0 [.int (nI v), .int 2] [] _ _
    have e := zsub3 hv
    refine r_il1 zi_71_0 rfl ?_
    refine r_sw zi_71_1 rfl ?_
    rw [show zsw [(0, 32), (1, 40), (2, 48), (3, 56)] 61 2 = 48 from by decide]
    refine r_push zi_71_48 rfl ?_
    refine r_il0 zi_71_49 rfl ?_
    refine r_push zi_71_50 rfl ?_
    refine r_b1 zi_71_51 rfl ?_
    refine r_max zi_71_52 rfl ?_
    rw [e]
    refine r_retI zi_71_55 rfl ?_
    exact ⟨_, rfl, hq⟩
  · show zk _ _ 0 [.int (nI v), .int 3] [] _ _
    refine r_il1 zi_71_0 rfl ?_
    refine r_sw zi_71_1 rfl ?_
    rw [show zsw [(0, 32), (1, 40), (2, 48), (3, 56)] 61 3 = 56 from by decide]
    refine r_il0 zi_71_56 rfl ?_
    refine r_cIS zi_71_57 rfl rfl rfl rfl rfl rfl (s_kturn hv ?_)
    show zk _ _ 60 _ _ _ _
    refine r_retI zi_71_60 rfl ?_
    exact ⟨_, rfl, hq⟩
  · show zk _ _ 0 [.int (nI v), .int 4] [] _ _
    refine r_il1 zi_71_0 rfl ?_
    refine r_sw zi_71_1 rfl ?_
    rw [show zsw [(0, 32), (1, 40), (2, 48), (3, 56)] 61 4 = 61 from by decide]
    refine r_il0 zi_71_61 rfl ?_
    refine r_push zi_71_62 rfl ?_
    refine r_div zi_71_63 rfl (by decide) ?_
    rw [show (nI v / 2 : Int32) = nI (v / 2) from pk_div (d := 2) (by omega) (by omega) (by omega)]
    refine r_retI zi_71_64 rfl ?_
    exact ⟨_, rfl, hq⟩
def zfw (n : Nat) : Int32 := if n = 100 then -1 else nI n
def zBC (τ : zS) (c : Nat) (r F W : Nat → Nat) : Prop := (∀ v, v < 1000 → τ 184 v = zfw (F v)) ∧ (∀ v, v < 1000 → F v ≠ 100 → τ 185 v = nI (W v)) ∧ (∀ p, p < c → τ 186 p = nI (r p))
theorem l_kw1 {d x y i L : Nat} {wd : Int32} {σ : zS} {R : Option Int32 → zS → Prop} (hx : x < 1000) (h : ∀ τ c r F W u9, Fr [184, 185, 186] σ τ → c ≤ 1000 → zBC τ c r F W → zBI wd x i L c 5 r F W → (∀ v, r i = v → True) → zk (d + 2) 70 208 [.ref 177, .int (nI x), .int (nI y), .int wd, .int (nI c), .int (nI i), .int (nI (r i)), .int (nI L), .int (nI 5), u9] [] τ R) : ∀ (m k : Nat) (τ : zS) (c : Nat) (r F W : Nat → Nat) (vv : Int32) (u9 : Value), k + m = 5 → Fr [184, 185, 186] σ τ → c ≤ 1000 → zBC τ c r F W → zBI wd x i L c k r F W → vv = nI (r i) → zk (d + 2) 70 102 [.ref 177, .int (nI x), .int (nI y), .int wd, .int (nI c), .int (nI i), .int vv, .int (nI L), .int (nI k), u9] [] τ R := by
  intro m
  induction m with
  | zero =>
    intro k τ c r F W vv u9 hk hF hc hC hI hvv
    subst hvv
    have e12 : k = 5 := by omega
    subst e12
    refine r_il8 zi_70_102 rfl ?_
    refine r_push zi_70_104 rfl ?_
    refine r_ic3 zi_70_105 rfl (fun _ => ?_) (fun c => absurd (by decide) c)
    exact h _ _ _ _ _ _ hF hc hC hI (fun _ _ => trivial)
  | succ m ih =>
    intro k τ c r F W vv u9 hk hF hc hC hI hvv
    subst hvv
    have hri := (hI.1.1 i hI.2.1).1
    have hL8 := hI.2.2.2.1
    have hu : zto (r i) k < 1000 := zto_lt hri
    have hfu := hC.1 (zto (r i) k) hu
    by_cases hb : zbt wd k = true
    · have hb' := of_decide_eq_true hb
      by_cases hF100 : F (zto (r i) k) = 100
      · obtain ⟨hI2, hc2⟩ := zBI_new hI (by omega) hb hF100
        have hne : r i ≠ zto (r i) k := fun z => by have := (hI.1.1 i hI.2.1).2; rw [z] at this; exact this hF100
        rw [hF100] at hfu
        have hwv := hC.2.1 (r i) hri (hI.1.1 i hI.2.1).2
        have hrc : zpd r c (zto (r i) k) i = r i := if_neg (by have := hI.2.1; omega)
        have ih := ih (k + 1)
        generalize hue : zto (r i) k = u at *
        generalize hv : r i = v at *
        refine r_il8 zi_70_102 rfl ?_
        refine r_push zi_70_104 rfl ?_
        refine n_ic3 (i := k) (j := 5) zi_70_105 rfl (by omega) (by omega) (fun c => absurd c (by omega)) (fun _ => ?_)
        refine r_il6 zi_70_108 rfl ?_
        refine r_il8 zi_70_110 rfl ?_
        refine r_cIS zi_70_112 rfl rfl rfl rfl rfl rfl (s_spoken hri (by omega) ?_)
        show zk _ _ 115 _ _ _ _
        rw [hue]
        refine r_is9 zi_70_115 rfl ?_
        refine r_il3 zi_70_117 rfl ?_
        refine r_il8 zi_70_118 rfl ?_
        refine r_b7 zi_70_120 rfl ?_
        refine r_push zi_70_121 rfl ?_
        refine r_b3 zi_70_122 rfl ?_
        refine r_if1 zi_70_123 rfl (fun _ => ?_) (fun c => absurd c (by rw [hb']; decide))
        refine r_al0 zi_70_129 rfl ?_
        refine q_getR zi_70_130 rfl cf_177_7 ?_
        refine r_il9 zi_70_133 rfl ?_
        refine r_alde zi_70_135 rfl u ca_184 (by first | rfl | (simp only [zI_add, zI_mul] <;> rfl)) (by first | omega | decide) (u := -1) (by first | exact hfu | ((repeat (first | rw [zup_ne (by first | decide | omega)] | rw [zup_nj (by first | decide | omega)] | rw [fil_ne (by first | decide | omega)])) <;> exact hfu) | (simp [up_rd, fil_rd]; exact hfu)) ?_
        refine r_push zi_70_136 rfl ?_
        refine r_ic1 zi_70_137 rfl (fun c => absurd (by decide) c) (fun _ => ?_)
        refine r_al0 zi_70_140 rfl ?_
        refine q_getR zi_70_141 rfl cf_177_7 ?_
        refine r_il9 zi_70_144 rfl ?_
        refine r_il7 zi_70_146 rfl ?_
        refine r_push zi_70_148 rfl ?_
        refine r_b0 zi_70_149 rfl ?_
        rw [show (nI L + 1 : Int32) = nI (L + 1) from nI_add _ _]
        refine r_ast zi_70_150 rfl u ca_184 (by first | rfl | (simp only [zI_add, zI_mul] <;> rfl)) (by first | omega | decide) ?_
        refine r_al0 zi_70_151 rfl ?_
        refine q_getR zi_70_152 rfl cf_177_8 ?_
        refine r_il9 zi_70_155 rfl ?_
        refine r_push zi_70_157 rfl ?_
        refine r_ast zi_70_158 rfl u ca_185 (by first | rfl | (simp only [zI_add, zI_mul] <;> rfl)) (by first | omega | decide) ?_
        refine r_al0 zi_70_159 rfl ?_
        refine q_getR zi_70_160 rfl cf_177_9 ?_
        refine r_il4 zi_70_163 rfl ?_
        refine r_il9 zi_70_165 rfl ?_
        refine r_ast zi_70_167 rfl c ca_186 (by first | rfl | (simp only [zI_add, zI_mul] <;> rfl)) (by first | omega | decide) ?_
        refine r_in4 zi_70_168 rfl ?_
        rw [show (nI c + 1 : Int32) = nI (c + 1) from nI_add _ _]
        refine r_al0 zi_70_171 rfl ?_
        refine q_getR zi_70_172 rfl cf_177_7 ?_
        refine r_il9 zi_70_175 rfl ?_
        refine r_alde zi_70_177 rfl u ca_184 (by first | rfl | (simp only [zI_add, zI_mul] <;> rfl)) (by first | omega | decide) (u := nI (L + 1)) (by simp [up_rd]) ?_
        refine r_il7 zi_70_178 rfl ?_
        refine r_push zi_70_180 rfl ?_
        refine r_b0 zi_70_181 rfl ?_
        rw [show (nI L + 1 : Int32) = nI (L + 1) from nI_add _ _]
        refine n_ic1 (i := (L + 1)) (j := (L + 1)) zi_70_182 rfl (by omega) (by omega) (fun c => absurd c (by omega)) (fun _ => ?_)
        refine r_al0 zi_70_185 rfl ?_
        refine q_getR zi_70_186 rfl cf_177_8 ?_
        refine r_il9 zi_70_189 rfl ?_
        refine r_dup2 zi_70_191 rfl ?_
        refine r_alde zi_70_192 rfl u ca_185 (by first | rfl | (simp only [zI_add, zI_mul] <;> rfl)) (by first | omega | decide) (u := 0) (by simp [up_rd]) ?_
        refine r_al0 zi_70_193 rfl ?_
        refine q_getR zi_70_194 rfl cf_177_8 ?_
        refine r_il6 zi_70_197 rfl ?_
        refine r_alde zi_70_199 rfl v ca_185 (by first | rfl | (simp only [zI_add, zI_mul] <;> rfl)) (by first | omega | decide) (u := nI (W v)) (by rw [zup_ne (by decide), zup_nj hne, zup_ne (by decide)]; exact hwv) ?_
        refine r_b0 zi_70_200 rfl ?_
        rw [show (0 + nI (W v) : Int32) = nI (0 + (W v)) from nI_add _ _]
        refine r_ast zi_70_201 rfl u ca_185 (by first | rfl | (simp only [zI_add, zI_mul] <;> rfl)) (by first | omega | decide) ?_
        refine r_in8 zi_70_202 rfl ?_
        rw [show (nI k + 1 : Int32) = nI (k + 1) from nI_add _ _]
        refine r_goto zi_70_205 rfl ?_
        refine ih _ (c + 1) _ _ _ _ _ (by omega) ((((hF.put (k := 184) (by decide)).put (k := 185) (by decide)).put (k := 186) (by decide)).put (k := 185) (by decide)) (by omega) ?_ hI2 (by rw [hrc])
        · refine ⟨fun w hw => ?_, fun w hw hFw => ?_, fun p hp => ?_⟩
          · rw [zup_ne (by decide), zup_ne (by decide), zup_ne (by decide), up_rd]
            unfold zpd
            by_cases e : w = u
            · rw [if_pos ⟨rfl, e⟩, if_pos e]
              exact (if_neg (by omega)).symm
            · rw [if_neg (fun z => e z.2), if_neg e]; exact hC.1 w hw
          · rw [up_rd]
            unfold zpd at hFw ⊢
            by_cases e : w = u
            · rw [if_pos ⟨rfl, e⟩, if_pos e, Nat.zero_add]
            · rw [if_neg e] at hFw
              rw [if_neg (fun z => e z.2), if_neg e, zup_ne (by decide), zup_nj e, zup_ne (by decide)]; exact hC.2.1 w hw hFw
          · rw [zup_ne (by decide), up_rd]
            unfold zpd
            by_cases e : p = c
            · rw [if_pos ⟨rfl, e⟩, if_pos e]
            · rw [if_neg (fun z => e z.2), if_neg e, zup_ne (by decide), zup_ne (by decide)]; exact hC.2.2 p (by omega)
      · have hfu' : τ 184 (zto (r i) k) = nI (F (zto (r i) k)) := by rw [hfu]; exact if_neg hF100
        have hF8 := (hI.1.2.2.2.2.1 _ hu hF100).2
        have hne1 : ¬ nI (F (zto (r i) k)) = -1 := fun z => absurd (nI_pos' (n := F (zto (r i) k)) (by omega)) (by rw [z]; decide)
        by_cases hFL : F (zto (r i) k) = L + 1
        · have hI2 := zBI_add hI hb hFL
          have hwv := hC.2.1 (r i) hri (hI.1.1 i hI.2.1).2
          have hwu := hC.2.1 _ hu hF100
          have ih := ih (k + 1)
          generalize hue : zto (r i) k = u at *
          generalize hv : r i = v at *
          refine r_il8 zi_70_102 rfl ?_
          refine r_push zi_70_104 rfl ?_
          refine n_ic3 (i := k) (j := 5) zi_70_105 rfl (by omega) (by omega) (fun c => absurd c (by omega)) (fun _ => ?_)
          refine r_il6 zi_70_108 rfl ?_
          refine r_il8 zi_70_110 rfl ?_
          refine r_cIS zi_70_112 rfl rfl rfl rfl rfl rfl (s_spoken hri (by omega) ?_)
          show zk _ _ 115 _ _ _ _
          rw [hue]
          refine r_is9 zi_70_115 rfl ?_
          refine r_il3 zi_70_117 rfl ?_
          refine r_il8 zi_70_118 rfl ?_
          refine r_b7 zi_70_120 rfl ?_
          refine r_push zi_70_121 rfl ?_
          refine r_b3 zi_70_122 rfl ?_
          refine r_if1 zi_70_123 rfl (fun _ => ?_) (fun c => absurd c (by rw [hb']; decide))
          refine r_al0 zi_70_129 rfl ?_
          refine q_getR zi_70_130 rfl cf_177_7 ?_
          refine r_il9 zi_70_133 rfl ?_
          refine r_alde zi_70_135 rfl u ca_184 (by first | rfl | (simp only [zI_add, zI_mul] <;> rfl)) (by first | omega | decide) (u := nI (F u)) (by first | exact hfu' | ((repeat (first | rw [zup_ne (by first | decide | omega)] | rw [zup_nj (by first | decide | omega)] | rw [fil_ne (by first | decide | omega)])) <;> exact hfu') | (simp [up_rd, fil_rd]; exact hfu')) ?_
          refine r_push zi_70_136 rfl ?_
          refine r_ic1 zi_70_137 rfl (fun _ => ?_) (fun c => absurd c hne1)
          refine r_al0 zi_70_171 rfl ?_
          refine q_getR zi_70_172 rfl cf_177_7 ?_
          refine r_il9 zi_70_175 rfl ?_
          refine r_alde zi_70_177 rfl u ca_184 (by first | rfl | (simp only [zI_add, zI_mul] <;> rfl)) (by first | omega | decide) (u := nI (F u)) (by first | exact hfu' | ((repeat (first | rw [zup_ne (by first | decide | omega)] | rw [zup_nj (by first | decide | omega)] | rw [fil_ne (by first | decide | omega)])) <;> exact hfu') | (simp [up_rd, fil_rd]; exact hfu')) ?_
          refine r_il7 zi_70_178 rfl ?_
          refine r_push zi_70_180 rfl ?_
          refine r_b0 zi_70_181 rfl ?_
          rw [show (nI L + 1 : Int32) = nI (L + 1) from nI_add _ _]
          refine n_ic1 (i := (F u)) (j := (L + 1)) zi_70_182 rfl (by omega) (by omega) (fun c => absurd c (by omega)) (fun _ => ?_)
          refine r_al0 zi_70_185 rfl ?_
          refine q_getR zi_70_186 rfl cf_177_8 ?_
          refine r_il9 zi_70_189 rfl ?_
          refine r_dup2 zi_70_191 rfl ?_
          refine r_alde zi_70_192 rfl u ca_185 (by first | rfl | (simp only [zI_add, zI_mul] <;> rfl)) (by first | omega | decide) (u := nI (W u)) (by first | exact hwu | ((repeat (first | rw [zup_ne (by first | decide | omega)] | rw [zup_nj (by first | decide | omega)] | rw [fil_ne (by first | decide | omega)])) <;> exact hwu) | (simp [up_rd, fil_rd]; exact hwu)) ?_
          refine r_al0 zi_70_193 rfl ?_
          refine q_getR zi_70_194 rfl cf_177_8 ?_
          refine r_il6 zi_70_197 rfl ?_
          refine r_alde zi_70_199 rfl v ca_185 (by first | rfl | (simp only [zI_add, zI_mul] <;> rfl)) (by first | omega | decide) (u := nI (W v)) (by first | exact hwv | ((repeat (first | rw [zup_ne (by first | decide | omega)] | rw [zup_nj (by first | decide | omega)] | rw [fil_ne (by first | decide | omega)])) <;> exact hwv) | (simp [up_rd, fil_rd]; exact hwv)) ?_
          refine r_b0 zi_70_200 rfl ?_
          rw [show (nI (W u) + nI (W v) : Int32) = nI ((W u) + (W v)) from nI_add _ _]
          refine r_ast zi_70_201 rfl u ca_185 (by first | rfl | (simp only [zI_add, zI_mul] <;> rfl)) (by first | omega | decide) ?_
          refine r_in8 zi_70_202 rfl ?_
          rw [show (nI k + 1 : Int32) = nI (k + 1) from nI_add _ _]
          refine r_goto zi_70_205 rfl ?_
          refine ih _ c _ _ _ _ _ (by omega) (hF.put (k := 185) (by decide)) hc ?_ hI2 (by rw [hv])
          · refine ⟨fun w hw => by rw [zup_ne (by decide)]; exact hC.1 w hw, fun w hw hFw => ?_, fun p hp => by rw [zup_ne (by decide)]; exact hC.2.2 p hp⟩
            rw [up_rd]
            unfold zpd
            by_cases e : w = u
            · rw [if_pos ⟨rfl, e⟩, if_pos e]
            · rw [if_neg (fun z => e z.2), if_neg e]; exact hC.2.1 w hw hFw
        · have hI2 := zBI_skip hI (Or.inr ⟨hF100, hFL⟩)
          have ih := ih (k + 1) τ c r F W _ (.int (nI (zto (r i) k))) (by omega) hF hc hC hI2 rfl
          generalize hue : zto (r i) k = u at *
          generalize hv : r i = v at *
          refine r_il8 zi_70_102 rfl ?_
          refine r_push zi_70_104 rfl ?_
          refine n_ic3 (i := k) (j := 5) zi_70_105 rfl (by omega) (by omega) (fun c => absurd c (by omega)) (fun _ => ?_)
          refine r_il6 zi_70_108 rfl ?_
          refine r_il8 zi_70_110 rfl ?_
          refine r_cIS zi_70_112 rfl rfl rfl rfl rfl rfl (s_spoken hri (by omega) ?_)
          show zk _ _ 115 _ _ _ _
          rw [hue]
          refine r_is9 zi_70_115 rfl ?_
          refine r_il3 zi_70_117 rfl ?_
          refine r_il8 zi_70_118 rfl ?_
          refine r_b7 zi_70_120 rfl ?_
          refine r_push zi_70_121 rfl ?_
          refine r_b3 zi_70_122 rfl ?_
          refine r_if1 zi_70_123 rfl (fun _ => ?_) (fun c => absurd c (by rw [hb']; decide))
          refine r_al0 zi_70_129 rfl ?_
          refine q_getR zi_70_130 rfl cf_177_7 ?_
          refine r_il9 zi_70_133 rfl ?_
          refine r_alde zi_70_135 rfl u ca_184 (by first | rfl | (simp only [zI_add, zI_mul] <;> rfl)) (by first | omega | decide) (u := nI (F u)) (by first | exact hfu' | ((repeat (first | rw [zup_ne (by first | decide | omega)] | rw [zup_nj (by first | decide | omega)] | rw [fil_ne (by first | decide | omega)])) <;> exact hfu') | (simp [up_rd, fil_rd]; exact hfu')) ?_
          refine r_push zi_70_136 rfl ?_
          refine r_ic1 zi_70_137 rfl (fun _ => ?_) (fun c => absurd c hne1)
          refine r_al0 zi_70_171 rfl ?_
          refine q_getR zi_70_172 rfl cf_177_7 ?_
          refine r_il9 zi_70_175 rfl ?_
          refine r_alde zi_70_177 rfl u ca_184 (by first | rfl | (simp only [zI_add, zI_mul] <;> rfl)) (by first | omega | decide) (u := nI (F u)) (by first | exact hfu' | ((repeat (first | rw [zup_ne (by first | decide | omega)] | rw [zup_nj (by first | decide | omega)] | rw [fil_ne (by first | decide | omega)])) <;> exact hfu') | (simp [up_rd, fil_rd]; exact hfu')) ?_
          refine r_il7 zi_70_178 rfl ?_
          refine r_push zi_70_180 rfl ?_
          refine r_b0 zi_70_181 rfl ?_
          rw [show (nI L + 1 : Int32) = nI (L + 1) from nI_add _ _]
          refine n_ic1 (i := (F u)) (j := (L + 1)) zi_70_182 rfl (by omega) (by omega) (fun _ => ?_) (fun c => absurd c (by omega))
          refine r_in8 zi_70_202 rfl ?_
          rw [show (nI k + 1 : Int32) = nI (k + 1) from nI_add _ _]
          refine r_goto zi_70_205 rfl ?_
          exact ih
    · have hb' : ¬ wd >>> (nI k &&& 31) &&& 1 = 1 := fun z => hb (decide_eq_true z)
      have hb0 := (un_and1 (wd >>> (nI k &&& 31))).resolve_right hb'
      have hI2 := zBI_skip hI (Or.inl hb)
      have ih := ih (k + 1) τ c r F W _ (.int (nI (zto (r i) k))) (by omega) hF hc hC hI2 rfl
      generalize hue : zto (r i) k = u at *
      generalize hv : r i = v at *
      refine r_il8 zi_70_102 rfl ?_
      refine r_push zi_70_104 rfl ?_
      refine n_ic3 (i := k) (j := 5) zi_70_105 rfl (by omega) (by omega) (fun c => absurd c (by omega)) (fun _ => ?_)
      refine r_il6 zi_70_108 rfl ?_
      refine r_il8 zi_70_110 rfl ?_
      refine r_cIS zi_70_112 rfl rfl rfl rfl rfl rfl (s_spoken hri (by omega) ?_)
      show zk _ _ 115 _ _ _ _
      rw [hue]
      refine r_is9 zi_70_115 rfl ?_
      refine r_il3 zi_70_117 rfl ?_
      refine r_il8 zi_70_118 rfl ?_
      refine r_b7 zi_70_120 rfl ?_
      refine r_push zi_70_121 rfl ?_
      refine r_b3 zi_70_122 rfl ?_
      refine r_if1 zi_70_123 rfl (fun c => absurd hb0 c) (fun _ => ?_)
      refine r_goto zi_70_126 rfl ?_
      refine r_in8 zi_70_202 rfl ?_
      rw [show (nI k + 1 : Int32) = nI (k + 1) from nI_add _ _]
      refine r_goto zi_70_205 rfl ?_
      exact ih
theorem zBF_done {wd : Int32} {x i c y : Nat} {r F W : Nat → Nat} (h : zBF wd x i c r F) (hW : zBW wd x r F W i) (hy : y < 1000) (hx : i = c ∨ (i < c ∧ (8 ≤ F (r i) ∨ (F y ≠ 100 ∧ F y ≤ F (r i))))) : (F y ≠ 100 → F y ≤ 8 ∧ zdl wd x (F y) y ∧ W y = zSw wd x (F y) y) ∧ (F y = 100 → ∀ n, n ≤ 8 → zSw wd x n y = 0) := by
  have h5 := h.2.2.2.2.1
  obtain ⟨N, hN99, hN, hNy, hN8⟩ : ∃ N, N ≤ 99 ∧ (∀ p, i ≤ p → p < c → N ≤ F (r p)) ∧ (F y ≠ 100 → F y ≤ N) ∧ (F y = 100 → 8 ≤ N) := by
    rcases hx with e | ⟨e, hh⟩
    · exact ⟨99, Nat.le_refl _, fun p h1 h2 => by omega, fun z => by have := (h5 y hy z).2; omega, fun _ => by omega⟩
    · have hi := h5 (r i) (h.1 i e).1 (h.1 i e).2
      exact ⟨F (r i), by omega, fun p h1 h2 => h.2.2.2.1 i p h1 h2, fun z => by have := (h5 y hy z).2; omega, fun z => by omega⟩
  refine ⟨fun z => ⟨(h5 y hy z).2, (h5 y hy z).1, zBW_val h hW hN99 hN hy rfl (hNy z)⟩, fun z n hn => ?_⟩
  by_cases e : 0 < zSw wd x n y
  · obtain ⟨m, hm, hd⟩ := zdl_ex e
    have := zBF_lev h hN99 hN m y hy hd (by have := hN8 z; omega)
    omega
  · omega
theorem l_kw2 {d x y : Nat} {wd : Int32} {σ : zS} {Q : Int32 → zS → Prop} (hx : x < 1000) (hy : y < 1000) (h1 : ∀ n, n ≤ 8 → zdl wd x n y → ∀ τ, Fr [184, 185, 186] σ τ → τ 185 y = nI (zSw wd x n y) → Q (nI n) τ) (h2 : (∀ n, n ≤ 8 → zSw wd x n y = 0) → ∀ τ, Fr [184, 185, 186] σ τ → Q (-1) τ) : ∀ (m i : Nat) (τ : zS) (c : Nat) (r F W : Nat → Nat) (u6 u7 u8 u9 : Value), i + m = 1000 → Fr [184, 185, 186] σ τ → c ≤ 1000 → zBC τ c r F W → zBF wd x i c r F → zBW wd x r F W i → (∀ p, i < c → p < c → F (r p) ≤ F (r i) + 1) → zk (d + 2) 70 35 [.ref 177, .int (nI x), .int (nI y), .int wd, .int (nI c), .int (nI i), u6, u7, u8, u9] [] τ (fun r t => ∃ v, r = some v ∧ Q v t) := by
  have fin : ∀ (i : Nat) (τ : zS) (c : Nat) (r F W : Nat → Nat), Fr [184, 185, 186] σ τ → zBC τ c r F W → zBF wd x i c r F → zBW wd x r F W i → (i = c ∨ (i < c ∧ (8 ≤ F (r i) ∨ (F y ≠ 100 ∧ F y ≤ F (r i))))) → Q (τ 184 y) τ := by
    intro i τ c r F W hF hC hB hW hex
    obtain ⟨g1, g2⟩ := zBF_done hB hW hy hex
    rw [hC.1 y hy]
    unfold zfw
    by_cases e : F y = 100
    · rw [if_pos e]; exact h2 (g2 e) τ hF
    · rw [if_neg e]
      obtain ⟨a, b, c'⟩ := g1 e
      exact h1 _ a b τ hF (by rw [hC.2.1 y hy e, c'])
  intro m
  induction m with
  | zero =>
    intro i τ c r F W u6 u7 u8 u9 hi hF hc hC hB hW hl
    have hic := hB.2.2.2.2.2.2.2
    have hfin := fin i τ c r F W hF hC hB hW (Or.inl (by omega))
    refine r_il5 zi_70_35 rfl ?_
    refine r_il4 zi_70_37 rfl ?_
    refine n_ic3 (i := i) (j := c) zi_70_39 rfl (by omega) (by omega) (fun _ => ?_) (fun c => absurd c (by omega))
    refine r_al0 zi_70_214 rfl ?_
    refine q_getR zi_70_215 rfl cf_177_7 ?_
    refine r_il2 zi_70_218 rfl ?_
    refine r_ald zi_70_219 rfl y ca_184 (by first | rfl | (simp only [zI_add, zI_mul] <;> rfl)) (by first | omega | decide) ?_
    refine r_retI zi_70_220 rfl ?_
    exact ⟨_, rfl, hfin⟩
  | succ m ih =>
    intro i τ c r F W u6 u7 u8 u9 hi hF hc hC hB hW hl
    have hic := hB.2.2.2.2.2.2.2
    by_cases hlt : i < c
    · have hri := hB.1 i hlt
      have hr := hC.2.2 i hlt
      have hfr : τ 184 (r i) = nI (F (r i)) := by rw [hC.1 _ hri.1]; exact if_neg hri.2
      have hF8 := (hB.2.2.2.2.1 _ hri.1 hri.2).2
      have hfy := hC.1 y hy
      by_cases h8 : F (r i) = 8
      · have hfin := fin i τ c r F W hF hC hB hW (Or.inr ⟨hlt, Or.inl (by omega)⟩)
        refine r_il5 zi_70_35 rfl ?_
        refine r_il4 zi_70_37 rfl ?_
        refine n_ic3 (i := i) (j := c) zi_70_39 rfl (by omega) (by omega) (fun c => absurd c (by omega)) (fun _ => ?_)
        refine r_il5 zi_70_42 rfl ?_
        refine r_push zi_70_44 rfl ?_
        refine n_ic3 (i := i) (j := 1000) zi_70_47 rfl (by omega) (by omega) (fun c => absurd c (by omega)) (fun _ => ?_)
        refine r_al0 zi_70_50 rfl ?_
        refine q_getR zi_70_51 rfl cf_177_9 ?_
        refine r_il5 zi_70_54 rfl ?_
        refine r_alde zi_70_56 rfl i ca_186 (by first | rfl | (simp only [zI_add, zI_mul] <;> rfl)) (by first | omega | decide) (u := nI (r i)) (by first | exact hr | ((repeat (first | rw [zup_ne (by first | decide | omega)] | rw [zup_nj (by first | decide | omega)] | rw [fil_ne (by first | decide | omega)])) <;> exact hr) | (simp [up_rd, fil_rd]; exact hr)) ?_
        refine r_is6 zi_70_57 rfl ?_
        refine r_al0 zi_70_59 rfl ?_
        refine q_getR zi_70_60 rfl cf_177_7 ?_
        refine r_il6 zi_70_63 rfl ?_
        refine r_alde zi_70_65 rfl (r i) ca_184 (by first | rfl | (simp only [zI_add, zI_mul] <;> rfl)) (by first | omega | decide) (u := nI (F (r i))) (by first | exact hfr | ((repeat (first | rw [zup_ne (by first | decide | omega)] | rw [zup_nj (by first | decide | omega)] | rw [fil_ne (by first | decide | omega)])) <;> exact hfr) | (simp [up_rd, fil_rd]; exact hfr)) ?_
        refine r_is7 zi_70_66 rfl ?_
        refine r_il7 zi_70_68 rfl ?_
        refine r_push zi_70_70 rfl ?_
        refine n_ic3 (i := (F (r i))) (j := 8) zi_70_72 rfl (by omega) (by omega) (fun _ => ?_) (fun c => absurd c (by omega))
        refine r_al0 zi_70_214 rfl ?_
        refine q_getR zi_70_215 rfl cf_177_7 ?_
        refine r_il2 zi_70_218 rfl ?_
        refine r_ald zi_70_219 rfl y ca_184 (by first | rfl | (simp only [zI_add, zI_mul] <;> rfl)) (by first | omega | decide) ?_
        refine r_retI zi_70_220 rfl ?_
        exact ⟨_, rfl, hfin⟩
      · by_cases hy1 : F y = 100
        · rw [hy1] at hfy
          refine r_il5 zi_70_35 rfl ?_
          refine r_il4 zi_70_37 rfl ?_
          refine n_ic3 (i := i) (j := c) zi_70_39 rfl (by omega) (by omega) (fun c => absurd c (by omega)) (fun _ => ?_)
          refine r_il5 zi_70_42 rfl ?_
          refine r_push zi_70_44 rfl ?_
          refine n_ic3 (i := i) (j := 1000) zi_70_47 rfl (by omega) (by omega) (fun c => absurd c (by omega)) (fun _ => ?_)
          refine r_al0 zi_70_50 rfl ?_
          refine q_getR zi_70_51 rfl cf_177_9 ?_
          refine r_il5 zi_70_54 rfl ?_
          refine r_alde zi_70_56 rfl i ca_186 (by first | rfl | (simp only [zI_add, zI_mul] <;> rfl)) (by first | omega | decide) (u := nI (r i)) (by first | exact hr | ((repeat (first | rw [zup_ne (by first | decide | omega)] | rw [zup_nj (by first | decide | omega)] | rw [fil_ne (by first | decide | omega)])) <;> exact hr) | (simp [up_rd, fil_rd]; exact hr)) ?_
          refine r_is6 zi_70_57 rfl ?_
          refine r_al0 zi_70_59 rfl ?_
          refine q_getR zi_70_60 rfl cf_177_7 ?_
          refine r_il6 zi_70_63 rfl ?_
          refine r_alde zi_70_65 rfl (r i) ca_184 (by first | rfl | (simp only [zI_add, zI_mul] <;> rfl)) (by first | omega | decide) (u := nI (F (r i))) (by first | exact hfr | ((repeat (first | rw [zup_ne (by first | decide | omega)] | rw [zup_nj (by first | decide | omega)] | rw [fil_ne (by first | decide | omega)])) <;> exact hfr) | (simp [up_rd, fil_rd]; exact hfr)) ?_
          refine r_is7 zi_70_66 rfl ?_
          refine r_il7 zi_70_68 rfl ?_
          refine r_push zi_70_70 rfl ?_
          refine n_ic3 (i := (F (r i))) (j := 8) zi_70_72 rfl (by omega) (by omega) (fun c => absurd c (by omega)) (fun _ => ?_)
          refine r_al0 zi_70_75 rfl ?_
          refine q_getR zi_70_76 rfl cf_177_7 ?_
          refine r_il2 zi_70_79 rfl ?_
          refine r_alde zi_70_80 rfl y ca_184 (by first | rfl | (simp only [zI_add, zI_mul] <;> rfl)) (by first | omega | decide) (u := -1) (by first | exact hfy | ((repeat (first | rw [zup_ne (by first | decide | omega)] | rw [zup_nj (by first | decide | omega)] | rw [fil_ne (by first | decide | omega)])) <;> exact hfy) | (simp [up_rd, fil_rd]; exact hfy)) ?_
          refine r_push zi_70_81 rfl ?_
          refine r_ic0 zi_70_82 rfl (fun _ => ?_) (fun c => absurd rfl c)
          refine r_push zi_70_99 rfl ?_
          refine r_is8 zi_70_100 rfl ?_
          refine l_kw1 (σ := τ) hx (fun τ2 c2 r2 F2 W2 u92 hF2 hc2 hC2 hI2 _ => ?_) 5 0 τ c r F W _ _ (by omega) Fr.rf hc hC (zBI_0 hB hW hlt (by omega) (fun p hp => hl p hlt hp)) rfl
          obtain ⟨e1, e2, e3⟩ := zBI_end hI2
          refine r_in5 zi_70_208 rfl ?_
          rw [show (nI i + 1 : Int32) = nI (i + 1) from nI_add _ _]
          refine r_goto zi_70_211 rfl ?_
          exact ih (i + 1) τ2 c2 r2 F2 W2 _ _ _ _ (by omega) (hF.tr hF2) hc2 hC2 e1 e2 (fun p ha hb => e3 p ha hb)
        · have hyle := (hB.2.2.2.2.1 _ hy hy1).2
          have hfy' : τ 184 y = nI (F y) := by rw [hfy]; exact if_neg hy1
          have hne1 : ¬ nI (F y) = -1 := fun z => absurd (nI_pos' (n := F y) (by omega)) (by rw [z]; decide)
          by_cases hle : F y ≤ F (r i)
          · have hfin := fin i τ c r F W hF hC hB hW (Or.inr ⟨hlt, Or.inr ⟨hy1, hle⟩⟩)
            refine r_il5 zi_70_35 rfl ?_
            refine r_il4 zi_70_37 rfl ?_
            refine n_ic3 (i := i) (j := c) zi_70_39 rfl (by omega) (by omega) (fun c => absurd c (by omega)) (fun _ => ?_)
            refine r_il5 zi_70_42 rfl ?_
            refine r_push zi_70_44 rfl ?_
            refine n_ic3 (i := i) (j := 1000) zi_70_47 rfl (by omega) (by omega) (fun c => absurd c (by omega)) (fun _ => ?_)
            refine r_al0 zi_70_50 rfl ?_
            refine q_getR zi_70_51 rfl cf_177_9 ?_
            refine r_il5 zi_70_54 rfl ?_
            refine r_alde zi_70_56 rfl i ca_186 (by first | rfl | (simp only [zI_add, zI_mul] <;> rfl)) (by first | omega | decide) (u := nI (r i)) (by first | exact hr | ((repeat (first | rw [zup_ne (by first | decide | omega)] | rw [zup_nj (by first | decide | omega)] | rw [fil_ne (by first | decide | omega)])) <;> exact hr) | (simp [up_rd, fil_rd]; exact hr)) ?_
            refine r_is6 zi_70_57 rfl ?_
            refine r_al0 zi_70_59 rfl ?_
            refine q_getR zi_70_60 rfl cf_177_7 ?_
            refine r_il6 zi_70_63 rfl ?_
            refine r_alde zi_70_65 rfl (r i) ca_184 (by first | rfl | (simp only [zI_add, zI_mul] <;> rfl)) (by first | omega | decide) (u := nI (F (r i))) (by first | exact hfr | ((repeat (first | rw [zup_ne (by first | decide | omega)] | rw [zup_nj (by first | decide | omega)] | rw [fil_ne (by first | decide | omega)])) <;> exact hfr) | (simp [up_rd, fil_rd]; exact hfr)) ?_
            refine r_is7 zi_70_66 rfl ?_
            refine r_il7 zi_70_68 rfl ?_
            refine r_push zi_70_70 rfl ?_
            refine n_ic3 (i := (F (r i))) (j := 8) zi_70_72 rfl (by omega) (by omega) (fun c => absurd c (by omega)) (fun _ => ?_)
            refine r_al0 zi_70_75 rfl ?_
            refine q_getR zi_70_76 rfl cf_177_7 ?_
            refine r_il2 zi_70_79 rfl ?_
            refine r_alde zi_70_80 rfl y ca_184 (by first | rfl | (simp only [zI_add, zI_mul] <;> rfl)) (by first | omega | decide) (u := nI (F y)) (by first | exact hfy' | ((repeat (first | rw [zup_ne (by first | decide | omega)] | rw [zup_nj (by first | decide | omega)] | rw [fil_ne (by first | decide | omega)])) <;> exact hfy') | (simp [up_rd, fil_rd]; exact hfy')) ?_
            refine r_push zi_70_81 rfl ?_
            refine r_ic0 zi_70_82 rfl (fun c => absurd c hne1) (fun _ => ?_)
            refine r_il7 zi_70_85 rfl ?_
            refine r_al0 zi_70_87 rfl ?_
            refine q_getR zi_70_88 rfl cf_177_7 ?_
            refine r_il2 zi_70_91 rfl ?_
            refine r_alde zi_70_92 rfl y ca_184 (by first | rfl | (simp only [zI_add, zI_mul] <;> rfl)) (by first | omega | decide) (u := nI (F y)) (by first | exact hfy' | ((repeat (first | rw [zup_ne (by first | decide | omega)] | rw [zup_nj (by first | decide | omega)] | rw [fil_ne (by first | decide | omega)])) <;> exact hfy') | (simp [up_rd, fil_rd]; exact hfy')) ?_
            refine n_ic2 (i := (F (r i))) (j := (F y)) zi_70_93 rfl (by omega) (by omega) (fun c => absurd c (by omega)) (fun _ => ?_)
            refine r_goto zi_70_96 rfl ?_
            refine r_al0 zi_70_214 rfl ?_
            refine q_getR zi_70_215 rfl cf_177_7 ?_
            refine r_il2 zi_70_218 rfl ?_
            refine r_ald zi_70_219 rfl y ca_184 (by first | rfl | (simp only [zI_add, zI_mul] <;> rfl)) (by first | omega | decide) ?_
            refine r_retI zi_70_220 rfl ?_
            exact ⟨_, rfl, hfin⟩
          · refine r_il5 zi_70_35 rfl ?_
            refine r_il4 zi_70_37 rfl ?_
            refine n_ic3 (i := i) (j := c) zi_70_39 rfl (by omega) (by omega) (fun c => absurd c (by omega)) (fun _ => ?_)
            refine r_il5 zi_70_42 rfl ?_
            refine r_push zi_70_44 rfl ?_
            refine n_ic3 (i := i) (j := 1000) zi_70_47 rfl (by omega) (by omega) (fun c => absurd c (by omega)) (fun _ => ?_)
            refine r_al0 zi_70_50 rfl ?_
            refine q_getR zi_70_51 rfl cf_177_9 ?_
            refine r_il5 zi_70_54 rfl ?_
            refine r_alde zi_70_56 rfl i ca_186 (by first | rfl | (simp only [zI_add, zI_mul] <;> rfl)) (by first | omega | decide) (u := nI (r i)) (by first | exact hr | ((repeat (first | rw [zup_ne (by first | decide | omega)] | rw [zup_nj (by first | decide | omega)] | rw [fil_ne (by first | decide | omega)])) <;> exact hr) | (simp [up_rd, fil_rd]; exact hr)) ?_
            refine r_is6 zi_70_57 rfl ?_
            refine r_al0 zi_70_59 rfl ?_
            refine q_getR zi_70_60 rfl cf_177_7 ?_
            refine r_il6 zi_70_63 rfl ?_
            refine r_alde zi_70_65 rfl (r i) ca_184 (by first | rfl | (simp only [zI_add, zI_mul] <;> rfl)) (by first | omega | decide) (u := nI (F (r i))) (by first | exact hfr | ((repeat (first | rw [zup_ne (by first | decide | omega)] | rw [zup_nj (by first | decide | omega)] | rw [fil_ne (by first | decide | omega)])) <;> exact hfr) | (simp [up_rd, fil_rd]; exact hfr)) ?_
            refine r_is7 zi_70_66 rfl ?_
            refine r_il7 zi_70_68 rfl ?_
            refine r_push zi_70_70 rfl ?_
            refine n_ic3 (i := (F (r i))) (j := 8) zi_70_72 rfl (by omega) (by omega) (fun c => absurd c (by omega)) (fun _ => ?_)
            refine r_al0 zi_70_75 rfl ?_
            refine q_getR zi_70_76 rfl cf_177_7 ?_
            refine r_il2 zi_70_79 rfl ?_
            refine r_alde zi_70_80 rfl y ca_184 (by first | rfl | (simp only [zI_add, zI_mul] <;> rfl)) (by first | omega | decide) (u := nI (F y)) (by first | exact hfy' | ((repeat (first | rw [zup_ne (by first | decide | omega)] | rw [zup_nj (by first | decide | omega)] | rw [fil_ne (by first | decide | omega)])) <;> exact hfy') | (simp [up_rd, fil_rd]; exact hfy')) ?_
            refine r_push zi_70_81 rfl ?_
            refine r_ic0 zi_70_82 rfl (fun c => absurd c hne1) (fun _ => ?_)
            refine r_il7 zi_70_85 rfl ?_
            refine r_al0 zi_70_87 rfl ?_
            refine q_getR zi_70_88 rfl cf_177_7 ?_
            refine r_il2 zi_70_91 rfl ?_
            refine r_alde zi_70_92 rfl y ca_184 (by first | rfl | (simp only [zI_add, zI_mul] <;> rfl)) (by first | omega | decide) (u := nI (F y)) (by first | exact hfy' | ((repeat (first | rw [zup_ne (by first | decide | omega)] | rw [zup_nj (by first | decide | omega)] | rw [fil_ne (by first | decide | omega)])) <;> exact hfy') | (simp [up_rd, fil_rd]; exact hfy')) ?_
            refine n_ic2 (i := (F (r i))) (j := (F y)) zi_70_93 rfl (by omega) (by omega) (fun _ => ?_) (fun c => absurd c (by omega))
            refine r_push zi_70_99 rfl ?_
            refine r_is8 zi_70_100 rfl ?_
            refine l_kw1 (σ := τ) hx (fun τ2 c2 r2 F2 W2 u92 hF2 hc2 hC2 hI2 _ => ?_) 5 0 τ c r F W _ _ (by omega) Fr.rf hc hC (zBI_0 hB hW hlt (by omega) (fun p hp => hl p hlt hp)) rfl
            obtain ⟨e1, e2, e3⟩ := zBI_end hI2
            refine r_in5 zi_70_208 rfl ?_
            rw [show (nI i + 1 : Int32) = nI (i + 1) from nI_add _ _]
            refine r_goto zi_70_211 rfl ?_
            exact ih (i + 1) τ2 c2 r2 F2 W2 _ _ _ _ (by omega) (hF.tr hF2) hc2 hC2 e1 e2 (fun p ha hb => e3 p ha hb)
    · have hfin := fin i τ c r F W hF hC hB hW (Or.inl (by omega))
      refine r_il5 zi_70_35 rfl ?_
      refine r_il4 zi_70_37 rfl ?_
      refine n_ic3 (i := i) (j := c) zi_70_39 rfl (by omega) (by omega) (fun _ => ?_) (fun c => absurd c (by omega))
      refine r_al0 zi_70_214 rfl ?_
      refine q_getR zi_70_215 rfl cf_177_7 ?_
      refine r_il2 zi_70_218 rfl ?_
      refine r_ald zi_70_219 rfl y ca_184 (by first | rfl | (simp only [zI_add, zI_mul] <;> rfl)) (by first | omega | decide) ?_
      refine r_retI zi_70_220 rfl ?_
      exact ⟨_, rfl, hfin⟩
theorem s_kwords {d x y : Nat} {wd : Int32} {σ : zS} {Q : Int32 → zS → Prop} (hx : x < 1000) (hy : y < 1000) (h1 : ∀ n, n ≤ 8 → zdl wd x n y → ∀ τ, Fr [184, 185, 186] σ τ → τ 185 y = nI (zSw wd x n y) → Q (nI n) τ) (h2 : (∀ n, n ≤ 8 → zSw wd x n y = 0) → ∀ τ, Fr [184, 185, 186] σ τ → Q (-1) τ) : zI1 (d + 2) 70 [.ref 177, .int (nI x), .int (nI y), .int wd] σ Q := by
  show zk _ _ 0 [.ref 177, .int (nI x), .int (nI y), .int wd, zun, zun, zun, zun, zun, zun] [] _ _
  have hz : zdl wd x 0 x := ⟨by show 0 < (if x = x then 1 else 0); rw [if_pos rfl]; omega, fun j hj => by omega⟩
  have hF0 : ∀ v, (if v = x then 0 else 100) ≠ 100 → v = x := fun v h => by
    by_cases e : v = x
    · exact e
    · rw [if_neg e] at h; exact absurd rfl h
  have hB0 : zBF wd x 0 1 (fun _ => x) (fun v => if v = x then 0 else 100) := by
    refine ⟨fun p hp => ⟨hx, ?_⟩, fun p q hp hq _ => by omega, fun v hv hF => ⟨0, by omega, (hF0 v hF).symm⟩, fun p q _ _ => Nat.le_refl _, fun v hv hF => ?_, if_pos rfl, fun p k hp => by omega, by omega⟩
    · dsimp only; rw [if_pos rfl]; omega
    · have := hF0 v hF
      subst this
      dsimp only
      rw [if_pos rfl]; exact ⟨hz, by omega⟩
  obtain ⟨W0, hW0e⟩ : ∃ W0 : Nat → Nat, W0 = fun v => if v = x then 1 else zgv wd x (fun _ => x) (fun v => if v = x then 0 else 100) 0 99 v := ⟨_, rfl⟩
  have hWx : W0 x = 1 := by rw [hW0e]; exact if_pos rfl
  have hW0 : zBW wd x (fun _ => x) (fun v => if v = x then 0 else 100) W0 0 := ⟨fun v hv hF => by
    dsimp only at hF
    by_cases e : v = x
    · rw [e]; exact hWx
    · rw [if_neg e] at hF; omega, fun v n hv hF => by
    dsimp only at hF
    by_cases e : v = x
    · rw [if_pos e] at hF; omega
    · rw [if_neg e] at hF
      rw [hW0e, show n = 99 by omega]
      exact if_neg e⟩
  refine r_al0 zi_70_0 rfl ?_
  refine q_getR zi_70_1 rfl cf_177_7 ?_
  refine r_push zi_70_4 rfl ?_
  refine r_cVS zi_70_5 rfl rfl rfl rfl rfl rfl (s_afill ca_184 (by omega) ?_)
  show zk _ _ 8 _ _ _ _
  refine r_al0 zi_70_8 rfl ?_
  refine q_getR zi_70_9 rfl cf_177_7 ?_
  refine r_il1 zi_70_12 rfl ?_
  refine r_push zi_70_13 rfl ?_
  refine r_ast zi_70_14 rfl x ca_184 (by first | rfl | (simp only [zI_add, zI_mul] <;> rfl)) (by first | omega | decide) ?_
  refine r_al0 zi_70_15 rfl ?_
  refine q_getR zi_70_16 rfl cf_177_8 ?_
  refine r_il1 zi_70_19 rfl ?_
  refine r_push zi_70_20 rfl ?_
  refine r_ast zi_70_21 rfl x ca_185 (by first | rfl | (simp only [zI_add, zI_mul] <;> rfl)) (by first | omega | decide) ?_
  refine r_al0 zi_70_22 rfl ?_
  refine q_getR zi_70_23 rfl cf_177_9 ?_
  refine r_push zi_70_26 rfl ?_
  refine r_il1 zi_70_27 rfl ?_
  refine r_ast zi_70_28 rfl 0 ca_186 (by first | rfl | (simp only [zI_add, zI_mul] <;> rfl)) (by first | omega | decide) ?_
  refine r_push zi_70_29 rfl ?_
  refine r_is4 zi_70_30 rfl ?_
  refine r_push zi_70_32 rfl ?_
  refine r_is5 zi_70_33 rfl ?_
  refine l_kw2 hx hy h1 h2 1000 0 _ 1 (fun _ => x) (fun v => if v = x then 0 else 100) W0 _ _ _ _ (by omega) ((((Fr.rf.fil (by decide)).put (by decide)).put (by decide)).put (by decide)) (by omega) ⟨fun v hv => ?_, fun v hv hF => ?_, fun p hp => ?_⟩ hB0 hW0 (fun p _ hp => Nat.le_succ _)
  · rw [zup_ne (by decide), zup_ne (by decide), up_rd]
    dsimp only
    by_cases e : v = x
    · rw [if_pos ⟨rfl, e⟩, if_pos e]; rfl
    · rw [if_neg (fun z => e z.2), if_neg e, fil_in hv]; rfl
  · have := hF0 v hF
    subst this
    rw [zup_ne (by decide), zup_eq, hWx]; rfl
  · rw [show p = 0 by omega, zup_eq]

