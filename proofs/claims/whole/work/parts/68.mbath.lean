/-! BATH, model and both ends -/
abbrev zOf (σ : zS) (g w n dd : Nat) : Prop := ∀ e h, dd < e → e ≤ n + 1 → h < 100 → σ 218 (100 * e + h) = nI (zWb g w (n + 1 - e) h)
theorem l_fo1 {d g w n : Nat} {σ : zS} {R : Option Int32 → zS → Prop} (hn : n ≤ 10) (hq : ∀ τ u4, Fr [218] σ τ → (∀ h, h < 100 → τ 218 (100 * (n + 1) + h) = 0) → zk d 252 31 [.ref 195, .int (nI n), .int (nI g), .int (nI w), u4, zun, zun, zun] [] τ R) : ∀ (m h : Nat) (τ : zS), h + m = 100 → Fr [218] σ τ → (∀ x, x < h → τ 218 (100 * (n + 1) + x) = 0) → zk d 252 3 [.ref 195, .int (nI n), .int (nI g), .int (nI w), .int (nI h), zun, zun, zun] [] τ R := by
  intro m
  induction m with
  | zero =>
    intro h τ hh hF hv
    have e12 : h = 100 := by omega
    subst e12
    refine r_il4 zi_252_3 rfl ?_
    refine r_push zi_252_5 rfl ?_
    refine r_ic3 zi_252_7 rfl (fun _ => ?_) (fun c => absurd (by decide) c)
    exact hq _ _ hF hv
  | succ m ih =>
    intro h τ hh hF hv
    refine r_il4 zi_252_3 rfl ?_
    refine r_push zi_252_5 rfl ?_
    refine n_ic3 (i := h) (j := 100) zi_252_7 rfl (by omega) (by omega) (fun c => absurd c (by omega)) (fun _ => ?_)
    refine r_al0 zi_252_10 rfl ?_
    refine q_getR zi_252_11 rfl cf_195_42 ?_
    refine r_push zi_252_14 rfl ?_
    refine r_il1 zi_252_16 rfl ?_
    refine r_push zi_252_17 rfl ?_
    refine r_b0 zi_252_18 rfl ?_
    rw [show (nI n + 1 : Int32) = nI (n + 1) from nI_add _ _]
    refine r_b2 zi_252_19 rfl ?_
    rw [show (100 * nI (n + 1) : Int32) = nI (100 * (n + 1)) from pk_mul _ _]
    refine r_il4 zi_252_20 rfl ?_
    refine r_b0 zi_252_22 rfl ?_
    rw [show (nI (100 * (n + 1)) + nI h : Int32) = nI ((100 * (n + 1)) + h) from nI_add _ _]
    refine r_push zi_252_23 rfl ?_
    refine r_ast zi_252_24 rfl ((100 * (n + 1)) + h) ca_218 (by first | rfl | (simp only [zI_add, zI_mul] <;> rfl)) (by first | omega | decide) ?_
    refine r_in4 zi_252_25 rfl ?_
    rw [show (nI h + 1 : Int32) = nI (h + 1) from nI_add _ _]
    refine r_goto zi_252_28 rfl ?_
    refine ih (h + 1) _ (by omega) (hF.put (by decide)) (fun x hx => ?_)
    rw [up_rd]
    by_cases ex : x = h
    · rw [if_pos ⟨rfl, by omega⟩]
    · rw [if_neg (fun z => by omega)]; exact hv x (by omega)
theorem l_fo4 {d g w n day h k : Nat} {σ : zS} {R : Option Int32 → zS → Prop} (hg : g ≤ 99) (hw : w ≤ 9) (hn : n ≤ 10) (hd1 : 1 ≤ day) (hd2 : day ≤ n) (hk : n - day = k) (hh : h < 100) (hv : ∀ x, x < 100 → σ 218 (100 * (day + 1) + x) = nI (zWb g w k x)) (hq : zk (d + 2) 252 116 [.ref 195, .int (nI n), .int (nI g), .int (nI w), .int (nI day), .int (nI h), .int (nI (zWb g w (k + 1) h)), .int (nI 10)] [] σ R) : ∀ (m c : Nat), c + m = 10 → zk (d + 2) 252 58 [.ref 195, .int (nI n), .int (nI g), .int (nI w), .int (nI day), .int (nI h), .int (nI (zmn (zbf g w (zWb g w k) h) c)), .int (nI c)] [] σ R := by
  intro m
  induction m with
  | zero =>
    intro c hc
    have e12 : c = 10 := by omega
    subst e12
    refine r_il7 zi_252_58 rfl ?_
    refine r_push zi_252_60 rfl ?_
    refine r_ic3 zi_252_62 rfl (fun _ => ?_) (fun c => absurd (by decide) c)
    exact hq
  | succ m ih =>
    intro c hc
    have ih := ih (c + 1) (by omega)
    have e1 : zmn (zbf g w (zWb g w k) h) (c + 1) = min (zmn (zbf g w (zWb g w k) h) c) (zap (zhe h c w) g + zWb g w k (zhe h c w)) := rfl
    rw [e1] at ih
    have b1 := zmn_far (f := zbf g w (zWb g w k) h) c
    have b2 := zhe_le h c w
    have b3 := zap_le b2 hg
    have b4 := zWb_le (w := w) hg k (zhe h c w)
    have hx := hv (zhe h c w) (by omega)
    have ea := zapI b2 hg
    generalize zmn (zbf g w (zWb g w k) h) c = zm at *
    generalize zWb g w k (zhe h c w) = zw at *
    generalize zap (zhe h c w) g = za at *
    have em := zminI (a := zm) (b := za + zw) (by omega) (by omega)
    refine r_il7 zi_252_58 rfl ?_
    refine r_push zi_252_60 rfl ?_
    refine n_ic3 (i := c) (j := 10) zi_252_62 rfl (by omega) (by omega) (fun c => absurd c (by omega)) (fun _ => ?_)
    refine r_al0 zi_252_65 rfl ?_
    refine r_il6 zi_252_66 rfl ?_
    refine r_al0 zi_252_68 rfl ?_
    refine r_al0 zi_252_69 rfl ?_
    refine r_il5 zi_252_70 rfl ?_
    refine r_il7 zi_252_72 rfl ?_
    refine r_il3 zi_252_74 rfl ?_
    refine q_cIV zi_252_75 rfl rfl rfl rfl rfl rfl rfl cf_195_0.ob (s_mheat (by omega) (by omega) (by omega) ?_)
    show zk _ _ 78 _ _ _ _
    refine r_il2 zi_252_78 rfl ?_
    refine q_cIV zi_252_79 rfl rfl rfl rfl rfl rfl rfl cf_195_0.ob (s_apart ?_)
    show zk _ _ 82 _ _ _ _
    rw [ea]
    refine r_al0 zi_252_82 rfl ?_
    refine q_getR zi_252_83 rfl cf_195_42 ?_
    refine r_push zi_252_86 rfl ?_
    refine r_il4 zi_252_88 rfl ?_
    refine r_push zi_252_90 rfl ?_
    refine r_b0 zi_252_91 rfl ?_
    rw [show (nI day + 1 : Int32) = nI (day + 1) from nI_add _ _]
    refine r_b2 zi_252_92 rfl ?_
    rw [show (100 * nI (day + 1) : Int32) = nI (100 * (day + 1)) from pk_mul _ _]
    refine r_al0 zi_252_93 rfl ?_
    refine r_il5 zi_252_94 rfl ?_
    refine r_il7 zi_252_96 rfl ?_
    refine r_il3 zi_252_98 rfl ?_
    refine q_cIV zi_252_99 rfl rfl rfl rfl rfl rfl rfl cf_195_0.ob (s_mheat (by omega) (by omega) (by omega) ?_)
    show zk _ _ 102 _ _ _ _
    refine r_b0 zi_252_102 rfl ?_
    rw [show (nI (100 * (day + 1)) + nI (zhe h c w) : Int32) = nI ((100 * (day + 1)) + (zhe h c w)) from nI_add _ _]
    refine r_alde zi_252_103 rfl ((100 * (day + 1)) + (zhe h c w)) ca_218 (by first | rfl | (simp only [zI_add, zI_mul] <;> rfl)) (by first | omega | decide) (u := nI zw) (by first | exact hx | ((repeat (first | rw [zup_ne (by first | decide | omega)] | rw [zup_nj (by first | decide | omega)] | rw [fil_ne (by first | decide | omega)])) <;> exact hx) | (simp [up_rd, fil_rd]; exact hx)) ?_
    refine r_b0 zi_252_104 rfl ?_
    rw [show (nI za + nI zw : Int32) = nI (za + zw) from nI_add _ _]
    refine q_cIV zi_252_105 rfl rfl rfl rfl rfl rfl rfl cf_195_0.ob (s_lesser ?_)
    show zk _ _ 108 _ _ _ _
    rw [em]
    refine r_is6 zi_252_108 rfl ?_
    refine r_in7 zi_252_110 rfl ?_
    rw [show (nI c + 1 : Int32) = nI (c + 1) from nI_add _ _]
    refine r_goto zi_252_113 rfl ?_
    exact ih
theorem l_fo3 {d g w n day k : Nat} {σ : zS} {R : Option Int32 → zS → Prop} (hg : g ≤ 99) (hw : w ≤ 9) (hn : n ≤ 10) (hd1 : 1 ≤ day) (hd2 : day ≤ n) (hk : n - day = k) (hv : ∀ x, x < 100 → σ 218 (100 * (day + 1) + x) = nI (zWb g w k x)) (hq : ∀ τ u6 u7, Fr [218] σ τ → (∀ i, 100 * (day + 1) ≤ i → τ 218 i = σ 218 i) → (∀ x, x < 100 → τ 218 (100 * day + x) = nI (zWb g w (k + 1) x)) → zk (d + 2) 252 137 [.ref 195, .int (nI n), .int (nI g), .int (nI w), .int (nI day), .int (nI 100), u6, u7] [] τ R) : ∀ (m h : Nat) (τ : zS) (u6 u7 : Value), h + m = 100 → Fr [218] σ τ → (∀ i, 100 * (day + 1) ≤ i → τ 218 i = σ 218 i) → (∀ x, x < h → τ 218 (100 * day + x) = nI (zWb g w (k + 1) x)) → zk (d + 2) 252 43 [.ref 195, .int (nI n), .int (nI g), .int (nI w), .int (nI day), .int (nI h), u6, u7] [] τ R := by
  intro m
  induction m with
  | zero =>
    intro h τ u6 u7 hh hF ho hx
    have e12 : h = 100 := by omega
    subst e12
    refine r_il5 zi_252_43 rfl ?_
    refine r_push zi_252_45 rfl ?_
    refine r_ic3 zi_252_47 rfl (fun _ => ?_) (fun c => absurd (by decide) c)
    exact hq _ _ _ hF ho hx
  | succ m ih =>
    intro h τ u6 u7 hh hF ho hx
    refine r_il5 zi_252_43 rfl ?_
    refine r_push zi_252_45 rfl ?_
    refine n_ic3 (i := h) (j := 100) zi_252_47 rfl (by omega) (by omega) (fun c => absurd c (by omega)) (fun _ => ?_)
    refine r_push zi_252_50 rfl ?_
    refine r_is6 zi_252_53 rfl ?_
    refine r_push zi_252_55 rfl ?_
    refine r_is7 zi_252_56 rfl ?_
    refine l_fo4 hg hw hn hd1 hd2 hk (by omega) (fun x hx => by rw [ho _ (by omega)]; exact hv x hx) ?_ 10 0 (by omega)
    show zk _ _ 116 _ _ _ _
    refine r_al0 zi_252_116 rfl ?_
    refine q_getR zi_252_117 rfl cf_195_42 ?_
    refine r_push zi_252_120 rfl ?_
    refine r_il4 zi_252_122 rfl ?_
    refine r_b2 zi_252_124 rfl ?_
    rw [show (100 * nI day : Int32) = nI (100 * day) from pk_mul _ _]
    refine r_il5 zi_252_125 rfl ?_
    refine r_b0 zi_252_127 rfl ?_
    rw [show (nI (100 * day) + nI h : Int32) = nI ((100 * day) + h) from nI_add _ _]
    refine r_il6 zi_252_128 rfl ?_
    refine r_ast zi_252_130 rfl ((100 * day) + h) ca_218 (by first | rfl | (simp only [zI_add, zI_mul] <;> rfl)) (by first | omega | decide) ?_
    refine r_in5 zi_252_131 rfl ?_
    rw [show (nI h + 1 : Int32) = nI (h + 1) from nI_add _ _]
    refine r_goto zi_252_134 rfl ?_
    refine ih (h + 1) _ _ _ (by omega) (hF.put (by decide)) (fun i hi => ?_) (fun x hx2 => ?_)
    · rw [up_rd, if_neg (fun z => by omega)]; exact ho i hi
    · rw [up_rd]
      by_cases ex : x = h
      · rw [if_pos ⟨rfl, by omega⟩, ex]
      · rw [if_neg (fun z => by omega)]; exact hx x (by omega)
theorem l_fo2 {d g w n : Nat} {σ : zS} {Q : zS → Prop} (hg : g ≤ 99) (hw : w ≤ 9) (hn : n ≤ 10) (hn1 : 1 ≤ n) (hq : ∀ τ, Fr [218] σ τ → zOf τ g w n 1 → Q τ) : ∀ (dm : Nat) (τ : zS) (u5 u6 u7 : Value), dm + 1 ≤ n → Fr [218] σ τ → zOf τ g w n (dm + 1) → zk (d + 2) 252 34 [.ref 195, .int (nI n), .int (nI g), .int (nI w), .int (nI (dm + 1)), u5, u6, u7] [] τ (fun r t => r = none ∧ Q t) := by
  intro dm
  induction dm with
  | zero =>
    intro τ u5 u6 u7 hd hF hO
    refine r_il4 zi_252_34 rfl ?_
    refine r_push zi_252_36 rfl ?_
    refine r_ic5 zi_252_37 rfl (fun _ => ?_) (fun c => absurd (by decide) c)
    refine r_ret zi_252_143 rfl ?_
    exact ⟨rfl, hq _ hF hO⟩
  | succ dm ih =>
    intro τ u5 u6 u7 hd hF hO
    refine r_il4 zi_252_34 rfl ?_
    refine r_push zi_252_36 rfl ?_
    refine n_ic5 (i := (dm+1+1)) (j := 1) zi_252_37 rfl (by omega) (by omega) (fun c => absurd c (by omega)) (fun _ => ?_)
    refine r_push zi_252_40 rfl ?_
    refine r_is5 zi_252_41 rfl ?_
    refine l_fo3 (σ := τ) hg hw hn (by omega) (by omega) rfl (fun x hx => by rw [hO (dm + 1 + 1 + 1) x (by omega) (by omega) hx, show n + 1 - (dm + 1 + 1 + 1) = n - (dm + 1 + 1) by omega]) (fun τ2 u62 u72 hF2 ho2 hx2 => ?_) 100 0 τ _ _ (by omega) Fr.rf (fun i hi => rfl) (fun x hx => by omega)
    show zk _ _ 137 _ _ _ _
    refine r_in4 zi_252_137 rfl ?_
    rw [show (nI (dm+1+1) + -1 : Int32) = nI (dm + 1) from pk_m1 _]
    refine r_goto zi_252_140 rfl ?_
    refine ih _ _ _ _ (by omega) (hF.tr hF2) (fun e h he1 he2 hh => ?_)
    by_cases ee : e = dm + 1 + 1
    · rw [ee, hx2 h hh, show n - (dm + 1 + 1) + 1 = n + 1 - (dm + 1 + 1) by omega]
    · rw [ho2 _ (by omega)]; exact hO e h (by omega) he2 hh
theorem s_moff {d g w n : Nat} {σ : zS} {Q : zS → Prop} (hg : g ≤ 99) (hw : w ≤ 9) (hn : n ≤ 10) (hn1 : 1 ≤ n) (hq : ∀ τ, Fr [218] σ τ → zOf τ g w n 1 → Q τ) : zV1 (d + 2) 252 [.ref 195, .int (nI n), .int (nI g), .int (nI w)] σ Q := by
  show zk _ _ 0 [.ref 195, .int (nI n), .int (nI g), .int (nI w), zun, zun, zun, zun] [] _ _
  obtain ⟨dm, rfl⟩ : ∃ dm, n = dm + 1 := ⟨n - 1, by omega⟩
  refine r_push zi_252_0 rfl ?_
  refine r_is4 zi_252_1 rfl ?_
  refine l_fo1 hn (fun τ u4 hF hv => ?_) 100 0 σ (by omega) Fr.rf (fun x hx => by omega)
  show zk _ _ 31 _ _ _ _
  refine r_il1 zi_252_31 rfl ?_
  refine r_is4 zi_252_32 rfl ?_
  refine l_fo2 hg hw hn hn1 hq dm τ _ _ _ (by omega) hF (fun e h he1 he2 hh => ?_)
  rw [show e = dm + 1 + 1 by omega, hv h hh, show dm + 1 + 1 - (dm + 1 + 1) = 0 by omega]
  rfl
abbrev zfi1 (h yw : Nat) : Nat := zhe h (yw / 10) (yw % 10)
theorem l_mbw {d g w n h1 : Nat} {v1 v3 v4 v5 : Value} {σ : zS} {Q : Int32 → zS → Prop} (hg : g ≤ 99) (hw : w ≤ 9) (hn : n ≤ 10) (hn1 : 2 ≤ n) (hh : h1 ≤ 99) (hO : zOf σ g w n 1) (hq : Q (nI (zbo (zbf g w (zWb g w (n - 2)) h1) 9)) σ) : ∀ (m c : Nat), c + m = zbo (zbf g w (zWb g w (n - 2)) h1) 9 → zk (d + 2) 253 150 [.ref 195, v1, .int (nI g), v3, v4, v5, .int (nI w), .int (nI h1), .int (nI (zWb g w (n - 1) h1)), .int (nI c)] [] σ (fun r t => ∃ v, r = some v ∧ Q v t) := by
  have hb : ∀ x, zWb g w (n - 2) x ≤ 10000 := fun x => by have := zWb_le (w := w) hg (n - 2) x; omega
  have e := zbo_mn (f := zbf g w (zWb g w (n - 2)) h1) (fun c => zbf_lt hg hb)
  have hmin := (zbo_min (f := zbf g w (zWb g w (n - 2)) h1) 9).2
  have hle := zbo_le (f := zbf g w (zWb g w (n - 2)) h1) 9
  have eW : zWb g w (n - 1) h1 = zbf g w (zWb g w (n - 2)) h1 (zbo (zbf g w (zWb g w (n - 2)) h1) 9) := by
    rw [e, show n - 1 = (n - 2) + 1 by omega]; rfl
  rw [eW]
  intro m
  induction m with
  | zero =>
    intro c hc
    have e12 : c = zbo (zbf g w (zWb g w (n - 2)) h1) 9 := by omega
    rw [← e12] at hq hmin ⊢
    have b2 := zhe_le h1 c w
    have b3 := zap_le b2 hg
    have b4 := hb (zhe h1 c w)
    have hx := hO 3 (zhe h1 c w) (by omega) (by omega) (by omega)
    rw [show n + 1 - 3 = n - 2 by omega] at hx
    have ea := zapI b2 hg
    have ef : zbf g w (zWb g w (n - 2)) h1 c = zap (zhe h1 c w) g + zWb g w (n - 2) (zhe h1 c w) := rfl
    rw [ef]
    generalize zWb g w (n - 2) (zhe h1 c w) = zw at *
    generalize zap (zhe h1 c w) g = za at *
    refine r_al0 zi_253_150 rfl ?_
    refine r_al0 zi_253_151 rfl ?_
    refine r_il7 zi_253_152 rfl ?_
    refine r_il9 zi_253_154 rfl ?_
    refine r_il6 zi_253_156 rfl ?_
    refine q_cIV zi_253_158 rfl rfl rfl rfl rfl rfl rfl cf_195_0.ob (s_mheat (by omega) (by omega) (by omega) ?_)
    show zk _ _ 161 _ _ _ _
    refine r_il2 zi_253_161 rfl ?_
    refine q_cIV zi_253_162 rfl rfl rfl rfl rfl rfl rfl cf_195_0.ob (s_apart ?_)
    show zk _ _ 165 _ _ _ _
    rw [ea]
    refine r_al0 zi_253_165 rfl ?_
    refine q_getR zi_253_166 rfl cf_195_42 ?_
    refine r_push zi_253_169 rfl ?_
    refine r_al0 zi_253_172 rfl ?_
    refine r_il7 zi_253_173 rfl ?_
    refine r_il9 zi_253_175 rfl ?_
    refine r_il6 zi_253_177 rfl ?_
    refine q_cIV zi_253_179 rfl rfl rfl rfl rfl rfl rfl cf_195_0.ob (s_mheat (by omega) (by omega) (by omega) ?_)
    show zk _ _ 182 _ _ _ _
    refine r_b0 zi_253_182 rfl ?_
    rw [show (300 + nI (zhe h1 c w) : Int32) = nI (300 + (zhe h1 c w)) from nI_add _ _]
    refine r_alde zi_253_183 rfl (300 + (zhe h1 c w)) ca_218 (by first | rfl | (simp only [zI_add, zI_mul] <;> rfl)) (by first | omega | decide) (u := nI zw) (by first | exact hx | ((repeat (first | rw [zup_ne (by first | decide | omega)] | rw [zup_nj (by first | decide | omega)] | rw [fil_ne (by first | decide | omega)])) <;> exact hx) | (simp [up_rd, fil_rd]; exact hx)) ?_
    refine r_b0 zi_253_184 rfl ?_
    rw [show (nI za + nI zw : Int32) = nI (za + zw) from nI_add _ _]
    refine r_il8 zi_253_185 rfl ?_
    refine n_ic0 (i := (za + zw)) (j := (za+zw)) zi_253_187 rfl (by omega) (by omega) (fun _ => ?_) (fun c => absurd c (by omega))
    refine r_il9 zi_253_199 rfl ?_
    refine r_retI zi_253_201 rfl ?_
    exact ⟨_, rfl, hq⟩
  | succ m ih =>
    intro c hc
    have ih := ih (c + 1) (by omega)
    have hlt := hmin c (by omega)
    have b2 := zhe_le h1 c w
    have b3 := zap_le b2 hg
    have b4 := hb (zhe h1 c w)
    have hx := hO 3 (zhe h1 c w) (by omega) (by omega) (by omega)
    rw [show n + 1 - 3 = n - 2 by omega] at hx
    have ea := zapI b2 hg
    have bm : zbf g w (zWb g w (n - 2)) h1 (zbo (zbf g w (zWb g w (n - 2)) h1) 9) < 100000000 := zbf_lt hg hb
    have ef : zbf g w (zWb g w (n - 2)) h1 c = zap (zhe h1 c w) g + zWb g w (n - 2) (zhe h1 c w) := rfl
    rw [ef] at hlt
    generalize zWb g w (n - 2) (zhe h1 c w) = zw at *
    generalize zap (zhe h1 c w) g = za at *
    generalize zbf g w (zWb g w (n - 2)) h1 (zbo (zbf g w (zWb g w (n - 2)) h1) 9) = zr at *
    refine r_al0 zi_253_150 rfl ?_
    refine r_al0 zi_253_151 rfl ?_
    refine r_il7 zi_253_152 rfl ?_
    refine r_il9 zi_253_154 rfl ?_
    refine r_il6 zi_253_156 rfl ?_
    refine q_cIV zi_253_158 rfl rfl rfl rfl rfl rfl rfl cf_195_0.ob (s_mheat (by omega) (by omega) (by omega) ?_)
    show zk _ _ 161 _ _ _ _
    refine r_il2 zi_253_161 rfl ?_
    refine q_cIV zi_253_162 rfl rfl rfl rfl rfl rfl rfl cf_195_0.ob (s_apart ?_)
    show zk _ _ 165 _ _ _ _
    rw [ea]
    refine r_al0 zi_253_165 rfl ?_
    refine q_getR zi_253_166 rfl cf_195_42 ?_
    refine r_push zi_253_169 rfl ?_
    refine r_al0 zi_253_172 rfl ?_
    refine r_il7 zi_253_173 rfl ?_
    refine r_il9 zi_253_175 rfl ?_
    refine r_il6 zi_253_177 rfl ?_
    refine q_cIV zi_253_179 rfl rfl rfl rfl rfl rfl rfl cf_195_0.ob (s_mheat (by omega) (by omega) (by omega) ?_)
    show zk _ _ 182 _ _ _ _
    refine r_b0 zi_253_182 rfl ?_
    rw [show (300 + nI (zhe h1 c w) : Int32) = nI (300 + (zhe h1 c w)) from nI_add _ _]
    refine r_alde zi_253_183 rfl (300 + (zhe h1 c w)) ca_218 (by first | rfl | (simp only [zI_add, zI_mul] <;> rfl)) (by first | omega | decide) (u := nI zw) (by first | exact hx | ((repeat (first | rw [zup_ne (by first | decide | omega)] | rw [zup_nj (by first | decide | omega)] | rw [fil_ne (by first | decide | omega)])) <;> exact hx) | (simp [up_rd, fil_rd]; exact hx)) ?_
    refine r_b0 zi_253_184 rfl ?_
    rw [show (nI za + nI zw : Int32) = nI (za + zw) from nI_add _ _]
    refine r_il8 zi_253_185 rfl ?_
    refine n_ic0 (i := (za + zw)) (j := zr) zi_253_187 rfl (by omega) (by omega) (fun c => absurd c (by omega)) (fun _ => ?_)
    refine r_il9 zi_253_190 rfl ?_
    refine r_push zi_253_192 rfl ?_
    refine r_b0 zi_253_193 rfl ?_
    rw [show (nI c + 1 : Int32) = nI (c + 1) from nI_add _ _]
    refine r_is9 zi_253_194 rfl ?_
    refine r_goto zi_253_196 rfl ?_
    exact ih
/-- what bath answers -/
def zba (h g yw n a : Nat) : Nat := if a = 0 then zap (zfi1 h yw) g + (if n = 1 then 0 else zWb g (yw % 10) (n - 1) (zfi1 h yw)) else (if n = 1 then 0 else zbo (zbf g (yw % 10) (zWb g (yw % 10) (n - 2)) (zfi1 h yw)) 9)
def zbOK (h g yw what : Int32) : Prop := 0 ≤ h ∧ h ≤ 99 ∧ 0 ≤ g ∧ g ≤ 99 ∧ 0 ≤ yw ∧ yw ≤ 99 ∧ 10 ≤ what ∧ what ≤ 109 ∧ what % 10 ≤ 1
theorem zbOK_ex {h g yw what : Int32} (hk : zbOK h g yw what) : ∃ H G Y n a, H ≤ 99 ∧ G ≤ 99 ∧ Y ≤ 99 ∧ 1 ≤ n ∧ n ≤ 10 ∧ a ≤ 1 ∧ h = nI H ∧ g = nI G ∧ yw = nI Y ∧ what = nI (10 * n + a) := by
  obtain ⟨a1, a2, a3, a4, a5, a6, a7, a8, a9⟩ := hk
  obtain ⟨H, hH, rfl⟩ := zI_ofle (n := 99) a1 a2 (by omega)
  obtain ⟨G, hG, rfl⟩ := zI_ofle (n := 99) a3 a4 (by omega)
  obtain ⟨Y, hY, rfl⟩ := zI_ofle (n := 99) a5 a6 (by omega)
  obtain ⟨x, hx, rfl⟩ := zI_ofle (n := 109) (v := what) (by grind) a8 (by omega)
  have h10 : 10 ≤ x := (nI_leI (a := 10) (by omega) (by omega)).mp a7
  have hr : x % 10 ≤ 1 := by
    have e : nI x % 10 = nI (x % 10) := zI_rem (d := 10) (by omega) (by omega) (by omega)
    rw [e] at a9
    exact (nI_leI (b := 1) (by omega) (by omega)).mp a9
  exact ⟨H, G, Y, x / 10, x % 10, hH, hG, hY, by omega, by omega, hr, rfl, rfl, rfl, by rw [show 10 * (x / 10) + x % 10 = x by omega]⟩
theorem s_mbath {d : Nat} {σ : zS} {Q : Int32 → zS → Prop} {h g yw what : Int32} (h1 : ∀ H G Y n a, H ≤ 99 → G ≤ 99 → Y ≤ 99 → 1 ≤ n → n ≤ 10 → a ≤ 1 → h = nI H → g = nI G → yw = nI Y → what = nI (10 * n + a) → ∀ τ, Fr [218] (up σ 195 0 0) τ → Q (nI (zba H G Y n a)) τ) (h0 : ¬ zbOK h g yw what → Q (-1) (up σ 195 0 0)) : zI1 (d + 3) 253 [.ref 195, .int h, .int g, .int yw, .int what] σ Q := by
  by_cases hk : zbOK h g yw what
  · obtain ⟨a1, a2, a3, a4, a5, a6, a7, a8, a9⟩ := id hk
    obtain ⟨H, G, Y, n, a, b1, b2, b3, b4, b5, b6, rfl, rfl, rfl, rfl⟩ := zbOK_ex hk
    have hq := h1 H G Y n a b1 b2 b3 b4 b5 b6 rfl rfl rfl rfl
    have hz := zhe_le H (Y / 10) (Y % 10)
    have ed : (10 * n + a) / 10 = n := by omega
    have er : (10 * n + a) % 10 = a := by omega
    have eap := zapI hz b2
    have baz := zap_le hz b2
    show zk _ _ 0 [.ref 195, .int (nI H), .int (nI G), .int (nI Y), .int (nI (10 * n + a)), zun, zun, zun, zun, zun] [] _ _
    obtain ⟨x, hx⟩ : ∃ x, x = 10 * n + a := ⟨_, rfl⟩
    rw [← hx] at ed er a7 a8 a9 ⊢
    unfold zba at hq
    by_cases hn : n = 1
    · rw [if_pos hn, if_pos hn] at hq
      by_cases ha : a = 0
      · rw [if_pos ha] at hq
        refine r_al0 zi_253_0 rfl ?_
        refine r_push zi_253_1 rfl ?_
        refine q_put zi_253_2 rfl cf_195_0 rfl ?_
        refine r_il4 zi_253_5 rfl ?_
        refine r_push zi_253_7 rfl ?_
        refine r_div zi_253_9 rfl (by decide) ?_
        rw [show (nI x / 10 : Int32) = nI (x / 10) from pk_div (d := 10) (by omega) (by omega) (by omega)]
        rw [ed]
        refine r_is5 zi_253_10 rfl ?_
        refine r_al0 zi_253_12 rfl ?_
        refine r_il1 zi_253_13 rfl ?_
        refine r_push zi_253_14 rfl ?_
        refine r_push zi_253_15 rfl ?_
        refine q_cIV zi_253_17 rfl rfl rfl rfl rfl rfl rfl cf_195_0.ob (s_isIn (fun _ _ => ?_) (fun z => absurd ⟨a1, a2⟩ z))
        show zk _ _ 20 _ _ _ _
        refine r_if0 zi_253_20 rfl (fun c => absurd c (by decide)) (fun _ => ?_)
        refine r_al0 zi_253_23 rfl ?_
        refine r_il2 zi_253_24 rfl ?_
        refine r_push zi_253_25 rfl ?_
        refine r_push zi_253_26 rfl ?_
        refine q_cIV zi_253_28 rfl rfl rfl rfl rfl rfl rfl cf_195_0.ob (s_isIn (fun _ _ => ?_) (fun z => absurd ⟨a3, a4⟩ z))
        show zk _ _ 31 _ _ _ _
        refine r_if0 zi_253_31 rfl (fun c => absurd c (by decide)) (fun _ => ?_)
        refine r_al0 zi_253_34 rfl ?_
        refine r_il3 zi_253_35 rfl ?_
        refine r_push zi_253_36 rfl ?_
        refine r_push zi_253_37 rfl ?_
        refine q_cIV zi_253_39 rfl rfl rfl rfl rfl rfl rfl cf_195_0.ob (s_isIn (fun _ _ => ?_) (fun z => absurd ⟨a5, a6⟩ z))
        show zk _ _ 42 _ _ _ _
        refine r_if0 zi_253_42 rfl (fun c => absurd c (by decide)) (fun _ => ?_)
        refine r_al0 zi_253_45 rfl ?_
        refine r_il4 zi_253_46 rfl ?_
        refine r_push zi_253_48 rfl ?_
        refine r_push zi_253_50 rfl ?_
        refine q_cIV zi_253_52 rfl rfl rfl rfl rfl rfl rfl cf_195_0.ob (s_isIn (fun _ _ => ?_) (fun z => absurd ⟨a7, a8⟩ z))
        show zk _ _ 55 _ _ _ _
        refine r_if0 zi_253_55 rfl (fun c => absurd c (by decide)) (fun _ => ?_)
        refine r_il4 zi_253_58 rfl ?_
        refine r_push zi_253_60 rfl ?_
        refine r_rem zi_253_62 rfl (by decide) ?_
        rw [show (nI x % 10 : Int32) = nI (x % 10) from zI_rem (d := 10) (by omega) (by omega) (by omega)]
        rw [er]
        refine r_push zi_253_63 rfl ?_
        refine n_ic5 (i := a) (j := 1) zi_253_64 rfl (by omega) (by omega) (fun _ => ?_) (fun c => absurd c (by omega))
        refine r_il3 zi_253_69 rfl ?_
        refine r_push zi_253_70 rfl ?_
        refine r_rem zi_253_72 rfl (by decide) ?_
        rw [show (nI Y % 10 : Int32) = nI (Y % 10) from zI_rem (d := 10) (by omega) (by omega) (by omega)]
        refine r_is6 zi_253_73 rfl ?_
        refine r_al0 zi_253_75 rfl ?_
        refine r_il5 zi_253_76 rfl ?_
        refine r_il2 zi_253_78 rfl ?_
        refine r_il6 zi_253_79 rfl ?_
        refine q_cVV zi_253_81 rfl rfl rfl rfl rfl rfl rfl cf_195_0.ob (s_moff b2 (by omega) b5 b4 (fun τ hF hO => ?_))
        show zk _ _ 84 _ _ _ _
        refine r_al0 zi_253_84 rfl ?_
        refine r_il1 zi_253_85 rfl ?_
        refine r_il3 zi_253_86 rfl ?_
        refine r_push zi_253_87 rfl ?_
        refine r_div zi_253_89 rfl (by decide) ?_
        rw [show (nI Y / 10 : Int32) = nI (Y / 10) from pk_div (d := 10) (by omega) (by omega) (by omega)]
        refine r_il6 zi_253_90 rfl ?_
        refine q_cIV zi_253_92 rfl rfl rfl rfl rfl rfl rfl cf_195_0.ob (s_mheat b1 (by omega) (by omega) ?_)
        show zk _ _ 95 _ _ _ _
        refine r_is7 zi_253_95 rfl ?_
        refine r_il5 zi_253_97 rfl ?_
        refine r_push zi_253_99 rfl ?_
        refine n_ic1 (i := n) (j := 1) zi_253_100 rfl (by omega) (by omega) (fun c => absurd c (by omega)) (fun _ => ?_)
        refine r_push zi_253_103 rfl ?_
        refine r_goto zi_253_104 rfl ?_
        refine r_is8 zi_253_118 rfl ?_
        refine r_il4 zi_253_120 rfl ?_
        refine r_push zi_253_122 rfl ?_
        refine r_rem zi_253_124 rfl (by decide) ?_
        rw [show (nI x % 10 : Int32) = nI (x % 10) from zI_rem (d := 10) (by omega) (by omega) (by omega)]
        rw [er]
        refine n_if1 (i := a) zi_253_125 rfl (by omega) (fun c => absurd c (by omega)) (fun _ => ?_)
        refine r_al0 zi_253_128 rfl ?_
        refine r_il7 zi_253_129 rfl ?_
        refine r_il2 zi_253_131 rfl ?_
        refine q_cIV zi_253_132 rfl rfl rfl rfl rfl rfl rfl cf_195_0.ob (s_apart ?_)
        show zk _ _ 135 _ _ _ _
        rw [eap]
        refine r_il8 zi_253_135 rfl ?_
        refine r_b0 zi_253_137 rfl ?_
        rw [show (nI (zap (zhe H (Y / 10) (Y % 10)) G) + 0 : Int32) = nI ((zap (zhe H (Y / 10) (Y % 10)) G) + 0) from nI_add _ _]
        refine r_retI zi_253_138 rfl ?_
        exact ⟨_, rfl, hq τ hF⟩
      · rw [if_neg ha] at hq
        refine r_al0 zi_253_0 rfl ?_
        refine r_push zi_253_1 rfl ?_
        refine q_put zi_253_2 rfl cf_195_0 rfl ?_
        refine r_il4 zi_253_5 rfl ?_
        refine r_push zi_253_7 rfl ?_
        refine r_div zi_253_9 rfl (by decide) ?_
        rw [show (nI x / 10 : Int32) = nI (x / 10) from pk_div (d := 10) (by omega) (by omega) (by omega)]
        rw [ed]
        refine r_is5 zi_253_10 rfl ?_
        refine r_al0 zi_253_12 rfl ?_
        refine r_il1 zi_253_13 rfl ?_
        refine r_push zi_253_14 rfl ?_
        refine r_push zi_253_15 rfl ?_
        refine q_cIV zi_253_17 rfl rfl rfl rfl rfl rfl rfl cf_195_0.ob (s_isIn (fun _ _ => ?_) (fun z => absurd ⟨a1, a2⟩ z))
        show zk _ _ 20 _ _ _ _
        refine r_if0 zi_253_20 rfl (fun c => absurd c (by decide)) (fun _ => ?_)
        refine r_al0 zi_253_23 rfl ?_
        refine r_il2 zi_253_24 rfl ?_
        refine r_push zi_253_25 rfl ?_
        refine r_push zi_253_26 rfl ?_
        refine q_cIV zi_253_28 rfl rfl rfl rfl rfl rfl rfl cf_195_0.ob (s_isIn (fun _ _ => ?_) (fun z => absurd ⟨a3, a4⟩ z))
        show zk _ _ 31 _ _ _ _
        refine r_if0 zi_253_31 rfl (fun c => absurd c (by decide)) (fun _ => ?_)
        refine r_al0 zi_253_34 rfl ?_
        refine r_il3 zi_253_35 rfl ?_
        refine r_push zi_253_36 rfl ?_
        refine r_push zi_253_37 rfl ?_
        refine q_cIV zi_253_39 rfl rfl rfl rfl rfl rfl rfl cf_195_0.ob (s_isIn (fun _ _ => ?_) (fun z => absurd ⟨a5, a6⟩ z))
        show zk _ _ 42 _ _ _ _
        refine r_if0 zi_253_42 rfl (fun c => absurd c (by decide)) (fun _ => ?_)
        refine r_al0 zi_253_45 rfl ?_
        refine r_il4 zi_253_46 rfl ?_
        refine r_push zi_253_48 rfl ?_
        refine r_push zi_253_50 rfl ?_
        refine q_cIV zi_253_52 rfl rfl rfl rfl rfl rfl rfl cf_195_0.ob (s_isIn (fun _ _ => ?_) (fun z => absurd ⟨a7, a8⟩ z))
        show zk _ _ 55 _ _ _ _
        refine r_if0 zi_253_55 rfl (fun c => absurd c (by decide)) (fun _ => ?_)
        refine r_il4 zi_253_58 rfl ?_
        refine r_push zi_253_60 rfl ?_
        refine r_rem zi_253_62 rfl (by decide) ?_
        rw [show (nI x % 10 : Int32) = nI (x % 10) from zI_rem (d := 10) (by omega) (by omega) (by omega)]
        rw [er]
        refine r_push zi_253_63 rfl ?_
        refine n_ic5 (i := a) (j := 1) zi_253_64 rfl (by omega) (by omega) (fun _ => ?_) (fun c => absurd c (by omega))
        refine r_il3 zi_253_69 rfl ?_
        refine r_push zi_253_70 rfl ?_
        refine r_rem zi_253_72 rfl (by decide) ?_
        rw [show (nI Y % 10 : Int32) = nI (Y % 10) from zI_rem (d := 10) (by omega) (by omega) (by omega)]
        refine r_is6 zi_253_73 rfl ?_
        refine r_al0 zi_253_75 rfl ?_
        refine r_il5 zi_253_76 rfl ?_
        refine r_il2 zi_253_78 rfl ?_
        refine r_il6 zi_253_79 rfl ?_
        refine q_cVV zi_253_81 rfl rfl rfl rfl rfl rfl rfl cf_195_0.ob (s_moff b2 (by omega) b5 b4 (fun τ hF hO => ?_))
        show zk _ _ 84 _ _ _ _
        refine r_al0 zi_253_84 rfl ?_
        refine r_il1 zi_253_85 rfl ?_
        refine r_il3 zi_253_86 rfl ?_
        refine r_push zi_253_87 rfl ?_
        refine r_div zi_253_89 rfl (by decide) ?_
        rw [show (nI Y / 10 : Int32) = nI (Y / 10) from pk_div (d := 10) (by omega) (by omega) (by omega)]
        refine r_il6 zi_253_90 rfl ?_
        refine q_cIV zi_253_92 rfl rfl rfl rfl rfl rfl rfl cf_195_0.ob (s_mheat b1 (by omega) (by omega) ?_)
        show zk _ _ 95 _ _ _ _
        refine r_is7 zi_253_95 rfl ?_
        refine r_il5 zi_253_97 rfl ?_
        refine r_push zi_253_99 rfl ?_
        refine n_ic1 (i := n) (j := 1) zi_253_100 rfl (by omega) (by omega) (fun c => absurd c (by omega)) (fun _ => ?_)
        refine r_push zi_253_103 rfl ?_
        refine r_goto zi_253_104 rfl ?_
        refine r_is8 zi_253_118 rfl ?_
        refine r_il4 zi_253_120 rfl ?_
        refine r_push zi_253_122 rfl ?_
        refine r_rem zi_253_124 rfl (by decide) ?_
        rw [show (nI x % 10 : Int32) = nI (x % 10) from zI_rem (d := 10) (by omega) (by omega) (by omega)]
        rw [er]
        refine n_if1 (i := a) zi_253_125 rfl (by omega) (fun _ => ?_) (fun c => absurd c (by omega))
        refine r_il5 zi_253_139 rfl ?_
        refine r_push zi_253_141 rfl ?_
        refine n_ic1 (i := n) (j := 1) zi_253_142 rfl (by omega) (by omega) (fun c => absurd c (by omega)) (fun _ => ?_)
        refine r_push zi_253_145 rfl ?_
        refine r_retI zi_253_146 rfl ?_
        exact ⟨_, rfl, hq τ hF⟩
    · rw [if_neg hn, if_neg hn] at hq
      have bW := zWb_le (w := Y % 10) b2 (n - 1) (zhe H (Y / 10) (Y % 10))
      by_cases ha : a = 0
      · rw [if_pos ha] at hq
        refine r_al0 zi_253_0 rfl ?_
        refine r_push zi_253_1 rfl ?_
        refine q_put zi_253_2 rfl cf_195_0 rfl ?_
        refine r_il4 zi_253_5 rfl ?_
        refine r_push zi_253_7 rfl ?_
        refine r_div zi_253_9 rfl (by decide) ?_
        rw [show (nI x / 10 : Int32) = nI (x / 10) from pk_div (d := 10) (by omega) (by omega) (by omega)]
        rw [ed]
        refine r_is5 zi_253_10 rfl ?_
        refine r_al0 zi_253_12 rfl ?_
        refine r_il1 zi_253_13 rfl ?_
        refine r_push zi_253_14 rfl ?_
        refine r_push zi_253_15 rfl ?_
        refine q_cIV zi_253_17 rfl rfl rfl rfl rfl rfl rfl cf_195_0.ob (s_isIn (fun _ _ => ?_) (fun z => absurd ⟨a1, a2⟩ z))
        show zk _ _ 20 _ _ _ _
        refine r_if0 zi_253_20 rfl (fun c => absurd c (by decide)) (fun _ => ?_)
        refine r_al0 zi_253_23 rfl ?_
        refine r_il2 zi_253_24 rfl ?_
        refine r_push zi_253_25 rfl ?_
        refine r_push zi_253_26 rfl ?_
        refine q_cIV zi_253_28 rfl rfl rfl rfl rfl rfl rfl cf_195_0.ob (s_isIn (fun _ _ => ?_) (fun z => absurd ⟨a3, a4⟩ z))
        show zk _ _ 31 _ _ _ _
        refine r_if0 zi_253_31 rfl (fun c => absurd c (by decide)) (fun _ => ?_)
        refine r_al0 zi_253_34 rfl ?_
        refine r_il3 zi_253_35 rfl ?_
        refine r_push zi_253_36 rfl ?_
        refine r_push zi_253_37 rfl ?_
        refine q_cIV zi_253_39 rfl rfl rfl rfl rfl rfl rfl cf_195_0.ob (s_isIn (fun _ _ => ?_) (fun z => absurd ⟨a5, a6⟩ z))
        show zk _ _ 42 _ _ _ _
        refine r_if0 zi_253_42 rfl (fun c => absurd c (by decide)) (fun _ => ?_)
        refine r_al0 zi_253_45 rfl ?_
        refine r_il4 zi_253_46 rfl ?_
        refine r_push zi_253_48 rfl ?_
        refine r_push zi_253_50 rfl ?_
        refine q_cIV zi_253_52 rfl rfl rfl rfl rfl rfl rfl cf_195_0.ob (s_isIn (fun _ _ => ?_) (fun z => absurd ⟨a7, a8⟩ z))
        show zk _ _ 55 _ _ _ _
        refine r_if0 zi_253_55 rfl (fun c => absurd c (by decide)) (fun _ => ?_)
        refine r_il4 zi_253_58 rfl ?_
        refine r_push zi_253_60 rfl ?_
        refine r_rem zi_253_62 rfl (by decide) ?_
        rw [show (nI x % 10 : Int32) = nI (x % 10) from zI_rem (d := 10) (by omega) (by omega) (by omega)]
        rw [er]
        refine r_push zi_253_63 rfl ?_
        refine n_ic5 (i := a) (j := 1) zi_253_64 rfl (by omega) (by omega) (fun _ => ?_) (fun c => absurd c (by omega))
        refine r_il3 zi_253_69 rfl ?_
        refine r_push zi_253_70 rfl ?_
        refine r_rem zi_253_72 rfl (by decide) ?_
        rw [show (nI Y % 10 : Int32) = nI (Y % 10) from zI_rem (d := 10) (by omega) (by omega) (by omega)]
        refine r_is6 zi_253_73 rfl ?_
        refine r_al0 zi_253_75 rfl ?_
        refine r_il5 zi_253_76 rfl ?_
        refine r_il2 zi_253_78 rfl ?_
        refine r_il6 zi_253_79 rfl ?_
        refine q_cVV zi_253_81 rfl rfl rfl rfl rfl rfl rfl cf_195_0.ob (s_moff b2 (by omega) b5 b4 (fun τ hF hO => ?_))
        show zk _ _ 84 _ _ _ _
        refine r_al0 zi_253_84 rfl ?_
        refine r_il1 zi_253_85 rfl ?_
        refine r_il3 zi_253_86 rfl ?_
        refine r_push zi_253_87 rfl ?_
        refine r_div zi_253_89 rfl (by decide) ?_
        rw [show (nI Y / 10 : Int32) = nI (Y / 10) from pk_div (d := 10) (by omega) (by omega) (by omega)]
        refine r_il6 zi_253_90 rfl ?_
        refine q_cIV zi_253_92 rfl rfl rfl rfl rfl rfl rfl cf_195_0.ob (s_mheat b1 (by omega) (by omega) ?_)
        show zk _ _ 95 _ _ _ _
        refine r_is7 zi_253_95 rfl ?_
        refine r_il5 zi_253_97 rfl ?_
        refine r_push zi_253_99 rfl ?_
        refine n_ic1 (i := n) (j := 1) zi_253_100 rfl (by omega) (by omega) (fun _ => ?_) (fun c => absurd c (by omega))
        refine r_al0 zi_253_107 rfl ?_
        refine q_getR zi_253_108 rfl cf_195_42 ?_
        refine r_push zi_253_111 rfl ?_
        refine r_il7 zi_253_114 rfl ?_
        refine r_b0 zi_253_116 rfl ?_
        rw [show (200 + nI (zhe H (Y / 10) (Y % 10)) : Int32) = nI (200 + (zhe H (Y / 10) (Y % 10))) from nI_add _ _]
        refine r_alde zi_253_117 rfl (200 + (zhe H (Y / 10) (Y % 10))) ca_218 (by first | rfl | (simp only [zI_add, zI_mul] <;> rfl)) (by first | omega | decide) (u := nI (zWb G (Y % 10) (n - 1) (zhe H (Y / 10) (Y % 10)))) (by rw [show 200 + zhe H (Y / 10) (Y % 10) = 100 * 2 + zhe H (Y / 10) (Y % 10) by omega, hO 2 _ (by omega) (by omega) (by omega)]; rfl) ?_
        refine r_is8 zi_253_118 rfl ?_
        refine r_il4 zi_253_120 rfl ?_
        refine r_push zi_253_122 rfl ?_
        refine r_rem zi_253_124 rfl (by decide) ?_
        rw [show (nI x % 10 : Int32) = nI (x % 10) from zI_rem (d := 10) (by omega) (by omega) (by omega)]
        rw [er]
        refine n_if1 (i := a) zi_253_125 rfl (by omega) (fun c => absurd c (by omega)) (fun _ => ?_)
        refine r_al0 zi_253_128 rfl ?_
        refine r_il7 zi_253_129 rfl ?_
        refine r_il2 zi_253_131 rfl ?_
        refine q_cIV zi_253_132 rfl rfl rfl rfl rfl rfl rfl cf_195_0.ob (s_apart ?_)
        show zk _ _ 135 _ _ _ _
        rw [eap]
        refine r_il8 zi_253_135 rfl ?_
        refine r_b0 zi_253_137 rfl ?_
        rw [show (nI (zap (zhe H (Y / 10) (Y % 10)) G) + nI (zWb G (Y % 10) (n - 1) (zhe H (Y / 10) (Y % 10))) : Int32) = nI ((zap (zhe H (Y / 10) (Y % 10)) G) + (zWb G (Y % 10) (n - 1) (zhe H (Y / 10) (Y % 10)))) from nI_add _ _]
        refine r_retI zi_253_138 rfl ?_
        exact ⟨_, rfl, hq τ hF⟩
      · rw [if_neg ha] at hq
        refine r_al0 zi_253_0 rfl ?_
        refine r_push zi_253_1 rfl ?_
        refine q_put zi_253_2 rfl cf_195_0 rfl ?_
        refine r_il4 zi_253_5 rfl ?_
        refine r_push zi_253_7 rfl ?_
        refine r_div zi_253_9 rfl (by decide) ?_
        rw [show (nI x / 10 : Int32) = nI (x / 10) from pk_div (d := 10) (by omega) (by omega) (by omega)]
        rw [ed]
        refine r_is5 zi_253_10 rfl ?_
        refine r_al0 zi_253_12 rfl ?_
        refine r_il1 zi_253_13 rfl ?_
        refine r_push zi_253_14 rfl ?_
        refine r_push zi_253_15 rfl ?_
        refine q_cIV zi_253_17 rfl rfl rfl rfl rfl rfl rfl cf_195_0.ob (s_isIn (fun _ _ => ?_) (fun z => absurd ⟨a1, a2⟩ z))
        show zk _ _ 20 _ _ _ _
        refine r_if0 zi_253_20 rfl (fun c => absurd c (by decide)) (fun _ => ?_)
        refine r_al0 zi_253_23 rfl ?_
        refine r_il2 zi_253_24 rfl ?_
        refine r_push zi_253_25 rfl ?_
        refine r_push zi_253_26 rfl ?_
        refine q_cIV zi_253_28 rfl rfl rfl rfl rfl rfl rfl cf_195_0.ob (s_isIn (fun _ _ => ?_) (fun z => absurd ⟨a3, a4⟩ z))
        show zk _ _ 31 _ _ _ _
        refine r_if0 zi_253_31 rfl (fun c => absurd c (by decide)) (fun _ => ?_)
        refine r_al0 zi_253_34 rfl ?_
        refine r_il3 zi_253_35 rfl ?_
        refine r_push zi_253_36 rfl ?_
        refine r_push zi_253_37 rfl ?_
        refine q_cIV zi_253_39 rfl rfl rfl rfl rfl rfl rfl cf_195_0.ob (s_isIn (fun _ _ => ?_) (fun z => absurd ⟨a5, a6⟩ z))
        show zk _ _ 42 _ _ _ _
        refine r_if0 zi_253_42 rfl (fun c => absurd c (by decide)) (fun _ => ?_)
        refine r_al0 zi_253_45 rfl ?_
        refine r_il4 zi_253_46 rfl ?_
        refine r_push zi_253_48 rfl ?_
        refine r_push zi_253_50 rfl ?_
        refine q_cIV zi_253_52 rfl rfl rfl rfl rfl rfl rfl cf_195_0.ob (s_isIn (fun _ _ => ?_) (fun z => absurd ⟨a7, a8⟩ z))
        show zk _ _ 55 _ _ _ _
        refine r_if0 zi_253_55 rfl (fun c => absurd c (by decide)) (fun _ => ?_)
        refine r_il4 zi_253_58 rfl ?_
        refine r_push zi_253_60 rfl ?_
        refine r_rem zi_253_62 rfl (by decide) ?_
        rw [show (nI x % 10 : Int32) = nI (x % 10) from zI_rem (d := 10) (by omega) (by omega) (by omega)]
        rw [er]
        refine r_push zi_253_63 rfl ?_
        refine n_ic5 (i := a) (j := 1) zi_253_64 rfl (by omega) (by omega) (fun _ => ?_) (fun c => absurd c (by omega))
        refine r_il3 zi_253_69 rfl ?_
        refine r_push zi_253_70 rfl ?_
        refine r_rem zi_253_72 rfl (by decide) ?_
        rw [show (nI Y % 10 : Int32) = nI (Y % 10) from zI_rem (d := 10) (by omega) (by omega) (by omega)]
        refine r_is6 zi_253_73 rfl ?_
        refine r_al0 zi_253_75 rfl ?_
        refine r_il5 zi_253_76 rfl ?_
        refine r_il2 zi_253_78 rfl ?_
        refine r_il6 zi_253_79 rfl ?_
        refine q_cVV zi_253_81 rfl rfl rfl rfl rfl rfl rfl cf_195_0.ob (s_moff b2 (by omega) b5 b4 (fun τ hF hO => ?_))
        show zk _ _ 84 _ _ _ _
        refine r_al0 zi_253_84 rfl ?_
        refine r_il1 zi_253_85 rfl ?_
        refine r_il3 zi_253_86 rfl ?_
        refine r_push zi_253_87 rfl ?_
        refine r_div zi_253_89 rfl (by decide) ?_
        rw [show (nI Y / 10 : Int32) = nI (Y / 10) from pk_div (d := 10) (by omega) (by omega) (by omega)]
        refine r_il6 zi_253_90 rfl ?_
        refine q_cIV zi_253_92 rfl rfl rfl rfl rfl rfl rfl cf_195_0.ob (s_mheat b1 (by omega) (by omega) ?_)
        show zk _ _ 95 _ _ _ _
        refine r_is7 zi_253_95 rfl ?_
        refine r_il5 zi_253_97 rfl ?_
        refine r_push zi_253_99 rfl ?_
        refine n_ic1 (i := n) (j := 1) zi_253_100 rfl (by omega) (by omega) (fun _ => ?_) (fun c => absurd c (by omega))
        refine r_al0 zi_253_107 rfl ?_
        refine q_getR zi_253_108 rfl cf_195_42 ?_
        refine r_push zi_253_111 rfl ?_
        refine r_il7 zi_253_114 rfl ?_
        refine r_b0 zi_253_116 rfl ?_
        rw [show (200 + nI (zhe H (Y / 10) (Y % 10)) : Int32) = nI (200 + (zhe H (Y / 10) (Y % 10))) from nI_add _ _]
        refine r_alde zi_253_117 rfl (200 + (zhe H (Y / 10) (Y % 10))) ca_218 (by first | rfl | (simp only [zI_add, zI_mul] <;> rfl)) (by first | omega | decide) (u := nI (zWb G (Y % 10) (n - 1) (zhe H (Y / 10) (Y % 10)))) (by rw [show 200 + zhe H (Y / 10) (Y % 10) = 100 * 2 + zhe H (Y / 10) (Y % 10) by omega, hO 2 _ (by omega) (by omega) (by omega)]; rfl) ?_
        refine r_is8 zi_253_118 rfl ?_
        refine r_il4 zi_253_120 rfl ?_
        refine r_push zi_253_122 rfl ?_
        refine r_rem zi_253_124 rfl (by decide) ?_
        rw [show (nI x % 10 : Int32) = nI (x % 10) from zI_rem (d := 10) (by omega) (by omega) (by omega)]
        rw [er]
        refine n_if1 (i := a) zi_253_125 rfl (by omega) (fun _ => ?_) (fun c => absurd c (by omega))
        refine r_il5 zi_253_139 rfl ?_
        refine r_push zi_253_141 rfl ?_
        refine n_ic1 (i := n) (j := 1) zi_253_142 rfl (by omega) (by omega) (fun _ => ?_) (fun c => absurd c (by omega))
        refine r_push zi_253_147 rfl ?_
        refine r_is9 zi_253_148 rfl ?_
        exact l_mbw b2 (by omega) b5 (by omega) hz hO (hq τ hF) _ 0 (Nat.zero_add _)
  · have h0 := h0 hk
    unfold zbOK at hk
    show zk _ _ 0 [.ref 195, .int h, .int g, .int yw, .int what, zun, zun, zun, zun, zun] [] _ _
    refine r_al0 zi_253_0 rfl ?_
    refine r_push zi_253_1 rfl ?_
    refine q_put zi_253_2 rfl cf_195_0 rfl ?_
    refine r_il4 zi_253_5 rfl ?_
    refine r_push zi_253_7 rfl ?_
    refine r_div zi_253_9 rfl (by decide) ?_
    refine r_is5 zi_253_10 rfl ?_
    refine r_al0 zi_253_12 rfl ?_
    refine r_il1 zi_253_13 rfl ?_
    refine r_push zi_253_14 rfl ?_
    refine r_push zi_253_15 rfl ?_
    refine q_cIV zi_253_17 rfl rfl rfl rfl rfl rfl rfl cf_195_0.ob (s_isIn (fun i1 a1 => ?_) (fun i1 => ?_))
    · show zk _ _ 20 _ _ _ _
      refine r_if0 zi_253_20 rfl (fun c => absurd c (by decide)) (fun _ => ?_)
      refine r_al0 zi_253_23 rfl ?_
      refine r_il2 zi_253_24 rfl ?_
      refine r_push zi_253_25 rfl ?_
      refine r_push zi_253_26 rfl ?_
      refine q_cIV zi_253_28 rfl rfl rfl rfl rfl rfl rfl cf_195_0.ob (s_isIn (fun i2 a2 => ?_) (fun i2 => ?_))
      · show zk _ _ 31 _ _ _ _
        refine r_if0 zi_253_31 rfl (fun c => absurd c (by decide)) (fun _ => ?_)
        refine r_al0 zi_253_34 rfl ?_
        refine r_il3 zi_253_35 rfl ?_
        refine r_push zi_253_36 rfl ?_
        refine r_push zi_253_37 rfl ?_
        refine q_cIV zi_253_39 rfl rfl rfl rfl rfl rfl rfl cf_195_0.ob (s_isIn (fun i3 a3 => ?_) (fun i3 => ?_))
        · show zk _ _ 42 _ _ _ _
          refine r_if0 zi_253_42 rfl (fun c => absurd c (by decide)) (fun _ => ?_)
          refine r_al0 zi_253_45 rfl ?_
          refine r_il4 zi_253_46 rfl ?_
          refine r_push zi_253_48 rfl ?_
          refine r_push zi_253_50 rfl ?_
          refine q_cIV zi_253_52 rfl rfl rfl rfl rfl rfl rfl cf_195_0.ob (s_isIn (fun i4 a4 => ?_) (fun i4 => ?_))
          · show zk _ _ 55 _ _ _ _
            refine r_if0 zi_253_55 rfl (fun c => absurd c (by decide)) (fun _ => ?_)
            refine r_il4 zi_253_58 rfl ?_
            refine r_push zi_253_60 rfl ?_
            refine r_rem zi_253_62 rfl (by decide) ?_
            refine r_push zi_253_63 rfl ?_
            refine r_ic5 zi_253_64 rfl (fun c5 => ?_) (fun c5 => ?_)
            · exact absurd ⟨by assumption, by assumption, by assumption, by assumption, by assumption, by assumption, by assumption, by assumption, by assumption⟩ hk
            · refine r_push zi_253_67 rfl ?_
              refine r_retI zi_253_68 rfl ?_
              exact ⟨_, rfl, h0⟩
          · show zk _ _ 55 _ _ _ _
            refine r_if0 zi_253_55 rfl (fun _ => ?_) (fun c => absurd (by decide) c)
            refine r_push zi_253_67 rfl ?_
            refine r_retI zi_253_68 rfl ?_
            exact ⟨_, rfl, h0⟩
        · show zk _ _ 42 _ _ _ _
          refine r_if0 zi_253_42 rfl (fun _ => ?_) (fun c => absurd (by decide) c)
          refine r_push zi_253_67 rfl ?_
          refine r_retI zi_253_68 rfl ?_
          exact ⟨_, rfl, h0⟩
      · show zk _ _ 31 _ _ _ _
        refine r_if0 zi_253_31 rfl (fun _ => ?_) (fun c => absurd (by decide) c)
        refine r_push zi_253_67 rfl ?_
        refine r_retI zi_253_68 rfl ?_
        exact ⟨_, rfl, h0⟩
    · show zk _ _ 20 _ _ _ _
      refine r_if0 zi_253_20 rfl (fun _ => ?_) (fun c => absurd (by decide) c)
      refine r_push zi_253_67 rfl ?_
      refine r_retI zi_253_68 rfl ?_
      exact ⟨_, rfl, h0⟩
/-- floorDiv, floorMod by 10 -/
theorem zfd_10 {x : Nat} (hx : x < 2 ^ 31) : zfd (nI x) 10 = nI (x / 10) ∧ zfm (nI x) 10 = nI (x % 10) := by
  have hs : ∀ y, y < 2 ^ 31 → 0 ≤ nI y ^^^ 10 := by
    intro y hy
    have e : un (nI y ^^^ 10) < 2 ^ 31 := by
      rw [un_xor, un_nI (by omega)]
      exact Nat.xor_lt_two_pow hy (by decide)
    rw [nI_un (nI y ^^^ 10)]
    exact nI_pos' e
  have e1 : nI x / 10 = nI (x / 10) := pk_div (d := 10) hx (by omega) (by omega)
  have e2 : nI x % 10 = nI (x % 10) := zI_rem (d := 10) hx (by omega) (by omega)
  unfold zfd zfm
  rw [if_pos (hs x hx), e1, e2, if_pos (hs (x % 10) (by omega))]
  exact ⟨rfl, rfl⟩
theorem zfd_neg {v : Int32} (hv : v < 0) : ¬ 1 ≤ zfd v 10 := by
  have hx : ¬ 0 ≤ v ^^^ 10 := by
    intro h
    obtain ⟨j, hj, e⟩ := nI_of (x := v ^^^ 10) (by grind)
    have h2 : v = nI j ^^^ 10 := by rw [← e, Int32.xor_assoc, Int32.xor_self, Int32.xor_zero]
    have h3 : un v < 2 ^ 31 := by rw [h2, un_xor, un_nI (by omega)]; exact Nat.xor_lt_two_pow hj (by decide)
    rw [nI_un v] at hv
    exact absurd hv (nI_pos h3)
  have hd : (v / 10).toInt = v.toInt.tdiv 10 := by
    rw [Int32.toInt_div_of_ne_right v 10 (by decide)]
    rfl
  have hv2 : v.toInt < 0 := by have := Int32.lt_iff_toInt_lt.mp hv; simpa using this
  have hb := Int32.le_toInt v
  have h10 : -214748365 ≤ (v / 10).toInt ∧ (v / 10).toInt ≤ 0 := by
    have h9 : v.toInt.tdiv 10 = -((-v.toInt) / 10) := by rw [← Int.tdiv_eq_ediv_of_nonneg (by omega), Int.neg_tdiv, Int.neg_neg]
    rw [hd, h9]; omega
  intro h
  unfold zfd at h
  rw [if_neg hx] at h
  have h1 : (1 : Int32).toInt = 1 := rfl
  split at h
  · have := Int32.le_iff_toInt_le.mp h
    omega
  · have := Int32.le_iff_toInt_le.mp h
    have e3 : (v / 10 - 1).toInt = (v / 10).toInt - 1 := by
      rw [Int32.toInt_sub, h1]
      rw [Int.bmod_eq_of_le (by omega) (by omega)]
    omega
theorem s_kbath {d : Nat} {σ : zS} {Q : Int32 → zS → Prop} {h g yw what : Int32} (h1 : ∀ H G Y n a, H ≤ 99 → G ≤ 99 → Y ≤ 99 → 1 ≤ n → n ≤ 10 → a ≤ 1 → h = nI H → g = nI G → yw = nI Y → what = nI (10 * n + a) → ∀ τ, Fr [177, 178, 179] σ τ → Q (nI (zba H G Y n a)) τ) (h0 : ¬ zbOK h g yw what → Q (-1) σ) : zI1 (d + 4) 136 [.ref 0, .int h, .int g, .int yw, .int what] σ Q := by
  by_cases hk : zbOK h g yw what
  · obtain ⟨a1, a2, a3, a4, a5, a6, a7, a8, a9⟩ := id hk
    obtain ⟨H, G, Y, n, a, b1, b2, b3, b4, b5, b6, rfl, rfl, rfl, rfl⟩ := zbOK_ex hk
    have hq := h1 H G Y n a b1 b2 b3 b4 b5 b6 rfl rfl rfl rfl
    have ed : zfd (nI (10 * n + a)) 10 = nI n := by rw [(zfd_10 (by omega)).1, show (10 * n + a) / 10 = n by omega]
    have er : zfm (nI (10 * n + a)) 10 = nI a := by rw [(zfd_10 (by omega)).2, show (10 * n + a) % 10 = a by omega]
    have l1 : 1 ≤ nI n := nI_le (a := 1) b4 (by omega)
    have l2 : nI n ≤ 10 := nI_le (b := 10) b5 (by omega)
    have bz := zWb_le (w := Y % 10) b2 (n - 1) (zhe H (Y / 10) (Y % 10))
    have bap := zap_le (zhe_le H (Y / 10) (Y % 10)) b2
    have bzo := zbo_le (f := zbf G (Y % 10) (zWb G (Y % 10) (n - 2)) (zhe H (Y / 10) (Y % 10))) 9
    unfold zba at hq
    show zk _ _ 0 [.ref 0, .int (nI H), .int (nI G), .int (nI Y), .int (nI (10 * n + a)), zun, zun, zun] [] _ _
    by_cases ha : a = 0
    · rw [if_pos ha] at hq
      refine r_il4 zi_136_0 rfl ?_
      refine r_push zi_136_2 rfl ?_
      refine r_fd zi_136_4 rfl (by decide) ?_
      rw [ed]
      refine r_is5 zi_136_7 rfl ?_
      refine r_il4 zi_136_9 rfl ?_
      refine r_push zi_136_11 rfl ?_
      refine r_fm zi_136_13 rfl (by decide) ?_
      rw [er]
      refine r_is6 zi_136_16 rfl ?_
      refine r_il1 zi_136_18 rfl ?_
      refine r_push zi_136_19 rfl ?_
      refine r_push zi_136_20 rfl ?_
      refine r_cIS zi_136_22 rfl rfl rfl rfl rfl rfl (s_within (fun _ _ => ?_) (fun z => absurd ⟨a1, a2⟩ z))
      show zk _ _ 25 _ _ _ _
      refine r_if0 zi_136_25 rfl (fun c => absurd c (by decide)) (fun _ => ?_)
      refine r_il2 zi_136_28 rfl ?_
      refine r_push zi_136_29 rfl ?_
      refine r_push zi_136_30 rfl ?_
      refine r_cIS zi_136_32 rfl rfl rfl rfl rfl rfl (s_within (fun _ _ => ?_) (fun z => absurd ⟨a3, a4⟩ z))
      show zk _ _ 35 _ _ _ _
      refine r_if0 zi_136_35 rfl (fun c => absurd c (by decide)) (fun _ => ?_)
      refine r_il3 zi_136_38 rfl ?_
      refine r_push zi_136_39 rfl ?_
      refine r_push zi_136_40 rfl ?_
      refine r_cIS zi_136_42 rfl rfl rfl rfl rfl rfl (s_within (fun _ _ => ?_) (fun z => absurd ⟨a5, a6⟩ z))
      show zk _ _ 45 _ _ _ _
      refine r_if0 zi_136_45 rfl (fun c => absurd c (by decide)) (fun _ => ?_)
      refine r_il5 zi_136_48 rfl ?_
      refine r_push zi_136_50 rfl ?_
      refine r_push zi_136_51 rfl ?_
      refine r_cIS zi_136_53 rfl rfl rfl rfl rfl rfl (s_within (fun _ _ => ?_) (fun z => absurd ⟨l1, l2⟩ z))
      show zk _ _ 56 _ _ _ _
      refine r_if0 zi_136_56 rfl (fun c => absurd c (by decide)) (fun _ => ?_)
      refine r_il6 zi_136_59 rfl ?_
      refine r_push zi_136_61 rfl ?_
      refine n_ic5 (i := a) (j := 1) zi_136_62 rfl (by omega) (by omega) (fun _ => ?_) (fun c => absurd c (by omega))
      refine r_al0 zi_136_67 rfl ?_
      refine q_getR zi_136_68 rfl cf_0_8 ?_
      refine r_il1 zi_136_71 rfl ?_
      refine r_il2 zi_136_72 rfl ?_
      refine r_il3 zi_136_73 rfl ?_
      refine r_il5 zi_136_74 rfl ?_
      refine q_cIV zi_136_76 rfl rfl rfl rfl rfl rfl rfl cf_177_0.ob (s_kfirst b1 b2 b3 b4 b5 (fun τ hF ho => ?_))
      show zk _ _ 79 _ _ _ _
      refine r_is7 zi_136_79 rfl ?_
      refine r_il6 zi_136_81 rfl ?_
      refine n_if1 (i := a) zi_136_83 rfl (by omega) (fun c => absurd c (by omega)) (fun _ => ?_)
      refine r_al0 zi_136_86 rfl ?_
      refine q_getR zi_136_87 rfl cf_0_8 ?_
      refine q_getI zi_136_90 rfl cf_177_2 ?_
      rw [ho]
      refine r_goto zi_136_93 rfl ?_
      refine r_retI zi_136_98 rfl ?_
      exact ⟨_, rfl, hq τ hF⟩
    · rw [if_neg ha] at hq
      refine r_il4 zi_136_0 rfl ?_
      refine r_push zi_136_2 rfl ?_
      refine r_fd zi_136_4 rfl (by decide) ?_
      rw [ed]
      refine r_is5 zi_136_7 rfl ?_
      refine r_il4 zi_136_9 rfl ?_
      refine r_push zi_136_11 rfl ?_
      refine r_fm zi_136_13 rfl (by decide) ?_
      rw [er]
      refine r_is6 zi_136_16 rfl ?_
      refine r_il1 zi_136_18 rfl ?_
      refine r_push zi_136_19 rfl ?_
      refine r_push zi_136_20 rfl ?_
      refine r_cIS zi_136_22 rfl rfl rfl rfl rfl rfl (s_within (fun _ _ => ?_) (fun z => absurd ⟨a1, a2⟩ z))
      show zk _ _ 25 _ _ _ _
      refine r_if0 zi_136_25 rfl (fun c => absurd c (by decide)) (fun _ => ?_)
      refine r_il2 zi_136_28 rfl ?_
      refine r_push zi_136_29 rfl ?_
      refine r_push zi_136_30 rfl ?_
      refine r_cIS zi_136_32 rfl rfl rfl rfl rfl rfl (s_within (fun _ _ => ?_) (fun z => absurd ⟨a3, a4⟩ z))
      show zk _ _ 35 _ _ _ _
      refine r_if0 zi_136_35 rfl (fun c => absurd c (by decide)) (fun _ => ?_)
      refine r_il3 zi_136_38 rfl ?_
      refine r_push zi_136_39 rfl ?_
      refine r_push zi_136_40 rfl ?_
      refine r_cIS zi_136_42 rfl rfl rfl rfl rfl rfl (s_within (fun _ _ => ?_) (fun z => absurd ⟨a5, a6⟩ z))
      show zk _ _ 45 _ _ _ _
      refine r_if0 zi_136_45 rfl (fun c => absurd c (by decide)) (fun _ => ?_)
      refine r_il5 zi_136_48 rfl ?_
      refine r_push zi_136_50 rfl ?_
      refine r_push zi_136_51 rfl ?_
      refine r_cIS zi_136_53 rfl rfl rfl rfl rfl rfl (s_within (fun _ _ => ?_) (fun z => absurd ⟨l1, l2⟩ z))
      show zk _ _ 56 _ _ _ _
      refine r_if0 zi_136_56 rfl (fun c => absurd c (by decide)) (fun _ => ?_)
      refine r_il6 zi_136_59 rfl ?_
      refine r_push zi_136_61 rfl ?_
      refine n_ic5 (i := a) (j := 1) zi_136_62 rfl (by omega) (by omega) (fun _ => ?_) (fun c => absurd c (by omega))
      refine r_al0 zi_136_67 rfl ?_
      refine q_getR zi_136_68 rfl cf_0_8 ?_
      refine r_il1 zi_136_71 rfl ?_
      refine r_il2 zi_136_72 rfl ?_
      refine r_il3 zi_136_73 rfl ?_
      refine r_il5 zi_136_74 rfl ?_
      refine q_cIV zi_136_76 rfl rfl rfl rfl rfl rfl rfl cf_177_0.ob (s_kfirst b1 b2 b3 b4 b5 (fun τ hF ho => ?_))
      show zk _ _ 79 _ _ _ _
      refine r_is7 zi_136_79 rfl ?_
      refine r_il6 zi_136_81 rfl ?_
      refine n_if1 (i := a) zi_136_83 rfl (by omega) (fun _ => ?_) (fun c => absurd c (by omega))
      refine r_il7 zi_136_96 rfl ?_
      refine r_retI zi_136_98 rfl ?_
      exact ⟨_, rfl, hq τ hF⟩
  · have h0 := h0 hk
    have hk2 : 0 ≤ h → h ≤ 99 → 0 ≤ g → g ≤ 99 → 0 ≤ yw → yw ≤ 99 → 1 ≤ zfd what 10 → zfd what 10 ≤ 10 → zfm what 10 ≤ 1 → False := by
      intro a1 a2 a3 a4 a5 a6 a7 a8 a9
      by_cases hn : what < 0
      · exact zfd_neg hn a7
      · obtain ⟨x, hx, rfl⟩ := nI_of hn
        rw [(zfd_10 hx).1] at a7 a8
        rw [(zfd_10 hx).2] at a9
        have c1 := (nI_leI (a := 1) (by omega) (by omega)).mp a7
        have c2 := (nI_leI (b := 10) (by omega) (by omega)).mp a8
        have e2 : nI x % 10 = nI (x % 10) := zI_rem (d := 10) hx (by omega) (by omega)
        exact hk ⟨a1, a2, a3, a4, a5, a6, nI_le (a := 10) (by omega) (by omega), nI_le (b := 109) (by omega) (by omega), by rw [e2]; exact a9⟩
    show zk _ _ 0 [.ref 0, .int h, .int g, .int yw, .int what, zun, zun, zun] [] _ _
    refine r_il4 zi_136_0 rfl ?_
    refine r_push zi_136_2 rfl ?_
    refine r_fd zi_136_4 rfl (by decide) ?_
    refine r_is5 zi_136_7 rfl ?_
    refine r_il4 zi_136_9 rfl ?_
    refine r_push zi_136_11 rfl ?_
    refine r_fm zi_136_13 rfl (by decide) ?_
    refine r_is6 zi_136_16 rfl ?_
    refine r_il1 zi_136_18 rfl ?_
    refine r_push zi_136_19 rfl ?_
    refine r_push zi_136_20 rfl ?_
    refine r_cIS zi_136_22 rfl rfl rfl rfl rfl rfl (s_within (fun i1 a1 => ?_) (fun i1 => ?_))
    · show zk _ _ 25 _ _ _ _
      refine r_if0 zi_136_25 rfl (fun c => absurd c (by decide)) (fun _ => ?_)
      refine r_il2 zi_136_28 rfl ?_
      refine r_push zi_136_29 rfl ?_
      refine r_push zi_136_30 rfl ?_
      refine r_cIS zi_136_32 rfl rfl rfl rfl rfl rfl (s_within (fun i2 a2 => ?_) (fun i2 => ?_))
      · show zk _ _ 35 _ _ _ _
        refine r_if0 zi_136_35 rfl (fun c => absurd c (by decide)) (fun _ => ?_)
        refine r_il3 zi_136_38 rfl ?_
        refine r_push zi_136_39 rfl ?_
        refine r_push zi_136_40 rfl ?_
        refine r_cIS zi_136_42 rfl rfl rfl rfl rfl rfl (s_within (fun i3 a3 => ?_) (fun i3 => ?_))
        · show zk _ _ 45 _ _ _ _
          refine r_if0 zi_136_45 rfl (fun c => absurd c (by decide)) (fun _ => ?_)
          refine r_il5 zi_136_48 rfl ?_
          refine r_push zi_136_50 rfl ?_
          refine r_push zi_136_51 rfl ?_
          refine r_cIS zi_136_53 rfl rfl rfl rfl rfl rfl (s_within (fun i4 a4 => ?_) (fun i4 => ?_))
          · show zk _ _ 56 _ _ _ _
            refine r_if0 zi_136_56 rfl (fun c => absurd c (by decide)) (fun _ => ?_)
            refine r_il6 zi_136_59 rfl ?_
            refine r_push zi_136_61 rfl ?_
            refine r_ic5 zi_136_62 rfl (fun c5 => ?_) (fun c5 => ?_)
            · exact absurd (hk2 (by assumption) (by assumption) (by assumption) (by assumption) (by assumption) (by assumption) (by assumption) (by assumption) (by assumption)) id
            · refine r_push zi_136_65 rfl ?_
              refine r_retI zi_136_66 rfl ?_
              exact ⟨_, rfl, h0⟩
          · show zk _ _ 56 _ _ _ _
            refine r_if0 zi_136_56 rfl (fun _ => ?_) (fun c => absurd (by decide) c)
            refine r_push zi_136_65 rfl ?_
            refine r_retI zi_136_66 rfl ?_
            exact ⟨_, rfl, h0⟩
        · show zk _ _ 45 _ _ _ _
          refine r_if0 zi_136_45 rfl (fun _ => ?_) (fun c => absurd (by decide) c)
          refine r_push zi_136_65 rfl ?_
          refine r_retI zi_136_66 rfl ?_
          exact ⟨_, rfl, h0⟩
      · show zk _ _ 35 _ _ _ _
        refine r_if0 zi_136_35 rfl (fun _ => ?_) (fun c => absurd (by decide) c)
        refine r_push zi_136_65 rfl ?_
        refine r_retI zi_136_66 rfl ?_
        exact ⟨_, rfl, h0⟩
    · show zk _ _ 25 _ _ _ _
      refine r_if0 zi_136_25 rfl (fun _ => ?_) (fun c => absurd (by decide) c)
      refine r_push zi_136_65 rfl ?_
      refine r_retI zi_136_66 rfl ?_
      exact ⟨_, rfl, h0⟩

