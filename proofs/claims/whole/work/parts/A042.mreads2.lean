/-! MODEL: reads, whole -/
theorem l_r39 {d b s : Nat} {σ τ : zS} {Q : zS → Prop} {t : Nat → Nat} {u : Value} (hc : mTc σ t b) (hs : s ≤ b) (hF : Fg mR σ τ) (h12 : τ 195 12 = nI s) (hq : ∀ υ, Fg mR σ υ → υ 195 13 = nI s → υ 195 12 = nI (if s < b then tke t b s else s) → mkd (tkc t b s) (υ 195 14) (υ 195 15) → Q υ) : zk (d + 2) 193 39 [.ref 195, u] [] τ (fun r t => r = none ∧ Q t) := by
  have hmR : ∀ τ, Fg mR σ τ → mTc τ t b := fun τ hF => mTc_f hc (hF 195 11 (by unfold mR; omega)) (fun i => hF 202 i (by unfold mR; omega)) (fun i => hF 203 i (by unfold mR; omega))
  have hb := hc.2.1
  have hF2 : Fg mR σ (up (up τ 195 13 (nI s)) 195 14 1) := (hF.put (by unfold mR; omega)).put (by unfold mR; omega)
  have a12 : up (up τ 195 13 (nI s)) 195 14 1 195 12 = nI s := ((zup_nj (by decide)).trans (zup_nj (by decide))).trans h12
  have a13 : up (up τ 195 13 (nI s)) 195 14 1 195 13 = nI s := (zup_nj (by decide)).trans zup_eq
  have a14 : up (up τ 195 13 (nI s)) 195 14 1 195 14 = 1 := zup_eq
  have hwalk : zk (d + 2) 193 52 [.ref 195, u] [] (up (up τ 195 13 (nI s)) 195 14 1) (fun r t => r = none ∧ Q t) := by
    generalize up (up τ 195 13 (nI s)) 195 14 1 = τ2 at *
    by_cases c : s < b
    · have ht2 := (hc.2.2.1 s (by omega)).2
      have hr : ∀ (Q2 : Int32 → zS → Prop), Q2 (nI (t s)) τ2 → zI1 (d + 1) 188 [.ref 195, .int (nI s)] τ2 Q2 := fun Q2 h2 => s_raw (hmR _ hF2) (by omega) (fun _ => h2) (fun z => absurd c z)
      rw [if_pos c] at hq
      have hF4 : Fg mR σ (up (up τ2 195 12 (nI (s + 1))) 195 15 (nI (t s))) := (hF2.put (by unfold mR; omega)).put (by unfold mR; omega)
      have b12 : up (up τ2 195 12 (nI (s + 1))) 195 15 (nI (t s)) 195 12 = nI (s + 1) := (zup_nj (by decide)).trans zup_eq
      have b13 : up (up τ2 195 12 (nI (s + 1))) 195 15 (nI (t s)) 195 13 = nI s := ((zup_nj (by decide)).trans (zup_nj (by decide))).trans a13
      have b14 : up (up τ2 195 12 (nI (s + 1))) 195 15 (nI (t s)) 195 14 = 1 := ((zup_nj (by decide)).trans (zup_nj (by decide))).trans a14
      have b15 : up (up τ2 195 12 (nI (s + 1))) 195 15 (nI (t s)) 195 15 = nI (t s) := zup_eq
      have hneg : ¬ nI (t s) = -1 := fun z => absurd (nI_pos' (n := t s) (by omega)) (by rw [z]; decide)
      by_cases hL : tkL (t s) = true
      · have e1 : tke t b s = tkr tkL t b (s + 1) := by unfold tke; rw [if_pos hL]
        have he := tke_b (t := t) c
        rw [tkc_L c hL] at hq
        have hi := tkr_i (P := tkL) (t := t) (b := b) (b - (s + 1)) (s + 1) (by omega)
        have hL32 : ∀ j, s ≤ j → j < tke t b s → t j ≠ 32 := fun j h1 h2 => by
          have h3 : tkL (t j) = true := by
            by_cases e : j = s
            · rw [e]; exact hL
            · exact hi j (by omega) (by omega)
          simp only [tkL, decide_eq_true_eq] at h3
          omega
        have hwx := tkw_x (t := t) (s := s) (e := tke t b s) (by omega)
        have hend : ∀ υ, Fg (fun a b => a = 195 ∧ b = 12) (up (up τ2 195 12 (nI (s + 1))) 195 15 (nI (t s))) υ → υ 195 12 = nI (tkr tkL t b (s + 1)) → zk (d + 2) 193 123 [.ref 195, .int (nI (t s))] [] υ (fun r t => r = none ∧ Q t) := fun υ x y => by
          rw [← e1] at y
          have hFu : Fg mR σ υ := hF4.tr (x.sub (fun a b z => by unfold mR; omega))
          have c13 : υ 195 13 = nI s := (x 195 13 (by omega)).trans b13
          have c14 : υ 195 14 = 1 := (x 195 14 (by omega)).trans b14
          have hw : ∀ (Q2 : Int32 → zS → Prop), Q2 (if tkx (tkl t s (tke t b s - s)) tkM 0 = 30000 then -1 else nI (tkx (tkl t s (tke t b s - s)) tkM 0 - 10000)) υ → zI1 (d + 1) 192 [.ref 195, .int (nI s), .int (nI (tke t b s))] υ Q2 := fun Q2 h2 => s_mword (hmR _ hFu) he.2 (by omega) hL32 h2
          rcases tkx_m (tkl t s (tke t b s - s)) with ⟨x1, x2⟩ | ⟨k, hk, x1, x2⟩
          · rw [x2, if_pos rfl] at hw
            have h := hq (up υ 195 15 (-1)) (hFu.put (by unfold mR; omega)) ((zup_nj (by decide)).trans c13) ((zup_nj (by decide)).trans y) (Or.inr (Or.inr (Or.inr (Or.inl ⟨hwx.trans x1, (zup_nj (by decide)).trans c14⟩))))
            generalize tke t b s = e at *
            refine r_al0 zi_193_123 rfl ?_
            refine r_al0 zi_193_124 rfl ?_
            refine r_al0 zi_193_125 rfl ?_
            refine q_getIe zi_193_126 rfl cf_195_13 (v := nI s) (by first | exact c13 | ((repeat (first | rw [zup_ne (by first | decide | omega)] | rw [zup_nj (by first | decide | omega)] | rw [fil_ne (by first | decide | omega)])) <;> exact c13) | (simp [up_rd, fil_rd]; exact c13)) ?_
            refine r_al0 zi_193_129 rfl ?_
            refine q_getIe zi_193_130 rfl cf_195_12 (v := nI e) (by first | exact y | ((repeat (first | rw [zup_ne (by first | decide | omega)] | rw [zup_nj (by first | decide | omega)] | rw [fil_ne (by first | decide | omega)])) <;> exact y) | (simp [up_rd, fil_rd]; exact y)) ?_
            refine q_cIV zi_193_133 rfl rfl rfl rfl rfl rfl rfl cf_195_0.ob (hw _ ?_)
            show zk _ _ 136 _ _ _ _
            refine q_put zi_193_136 rfl cf_195_15 rfl ?_
            refine r_al0 zi_193_139 rfl ?_
            refine q_getIe zi_193_140 rfl cf_195_15 (v := -1) (by first | exact zup_eq | ((repeat (first | rw [zup_ne (by first | decide | omega)] | rw [zup_nj (by first | decide | omega)] | rw [fil_ne (by first | decide | omega)])) <;> exact zup_eq) | (simp [up_rd, fil_rd]; exact zup_eq)) ?_
            refine r_push zi_193_143 rfl ?_
            refine r_ic0 zi_193_144 rfl (fun _ => ?_) (fun c => absurd rfl c)
            refine r_ret zi_193_273 rfl ?_
            exact ⟨rfl, h⟩
          · have hkm : tkm k < 100 := by unfold tkm; split <;> (try split) <;> (try split) <;> omega
            rw [x2, if_neg (show ¬ 10000 + tkm k = 30000 by omega), Nat.add_sub_cancel_left] at hw
            have h := hq (up (up υ 195 15 (nI (tkm k))) 195 14 2) ((hFu.put (by unfold mR; omega)).put (by unfold mR; omega)) (((zup_nj (by decide)).trans (zup_nj (by decide))).trans c13) (((zup_nj (by decide)).trans (zup_nj (by decide))).trans y) (Or.inr (Or.inl ⟨k, hk, hwx.trans x1, zup_eq, (zup_nj (by decide)).trans zup_eq⟩))
            generalize tkm k = w at *
            have wn : ¬ nI w = -1 := fun z => absurd (nI_pos' (n := w) (by omega)) (by rw [z]; decide)
            generalize tke t b s = e at *
            refine r_al0 zi_193_123 rfl ?_
            refine r_al0 zi_193_124 rfl ?_
            refine r_al0 zi_193_125 rfl ?_
            refine q_getIe zi_193_126 rfl cf_195_13 (v := nI s) (by first | exact c13 | ((repeat (first | rw [zup_ne (by first | decide | omega)] | rw [zup_nj (by first | decide | omega)] | rw [fil_ne (by first | decide | omega)])) <;> exact c13) | (simp [up_rd, fil_rd]; exact c13)) ?_
            refine r_al0 zi_193_129 rfl ?_
            refine q_getIe zi_193_130 rfl cf_195_12 (v := nI e) (by first | exact y | ((repeat (first | rw [zup_ne (by first | decide | omega)] | rw [zup_nj (by first | decide | omega)] | rw [fil_ne (by first | decide | omega)])) <;> exact y) | (simp [up_rd, fil_rd]; exact y)) ?_
            refine q_cIV zi_193_133 rfl rfl rfl rfl rfl rfl rfl cf_195_0.ob (hw _ ?_)
            show zk _ _ 136 _ _ _ _
            refine q_put zi_193_136 rfl cf_195_15 rfl ?_
            refine r_al0 zi_193_139 rfl ?_
            refine q_getIe zi_193_140 rfl cf_195_15 (v := nI w) (by first | exact zup_eq | ((repeat (first | rw [zup_ne (by first | decide | omega)] | rw [zup_nj (by first | decide | omega)] | rw [fil_ne (by first | decide | omega)])) <;> exact zup_eq) | (simp [up_rd, fil_rd]; exact zup_eq)) ?_
            refine r_push zi_193_143 rfl ?_
            refine r_ic0 zi_193_144 rfl (fun c => absurd c wn) (fun _ => ?_)
            refine r_al0 zi_193_147 rfl ?_
            refine r_push zi_193_148 rfl ?_
            refine q_put zi_193_149 rfl cf_195_14 rfl ?_
            refine r_goto zi_193_152 rfl ?_
            refine r_ret zi_193_273 rfl ?_
            exact ⟨rfl, h⟩
        have k2 := l_rlet (d := d) (u := .int (nI (t s))) (hmR _ hF4) hend (b - (s + 1)) (s + 1) _ (by omega) rfl Fg.rf b12
        generalize t s = v at *
        refine r_al0 zi_193_52 rfl ?_
        refine r_al0 zi_193_53 rfl ?_
        refine q_getIe zi_193_54 rfl cf_195_12 (v := nI s) (by first | exact a12 | ((repeat (first | rw [zup_ne (by first | decide | omega)] | rw [zup_nj (by first | decide | omega)] | rw [fil_ne (by first | decide | omega)])) <;> exact a12) | (simp [up_rd, fil_rd]; exact a12)) ?_
        refine q_cIV zi_193_57 rfl rfl rfl rfl rfl rfl rfl cf_195_0.ob (hr _ ?_)
        show zk _ _ 60 _ _ _ _
        refine r_is1 zi_193_60 rfl ?_
        refine r_il1 zi_193_61 rfl ?_
        refine r_push zi_193_62 rfl ?_
        refine r_ic1 zi_193_63 rfl (fun _ => ?_) (fun c => absurd c hneg)
        refine r_al0 zi_193_72 rfl ?_
        refine r_al0 zi_193_73 rfl ?_
        refine q_getIe zi_193_74 rfl cf_195_12 (v := nI s) (by first | exact a12 | ((repeat (first | rw [zup_ne (by first | decide | omega)] | rw [zup_nj (by first | decide | omega)] | rw [fil_ne (by first | decide | omega)])) <;> exact a12) | (simp [up_rd, fil_rd]; exact a12)) ?_
        refine r_push zi_193_77 rfl ?_
        refine r_b0 zi_193_78 rfl ?_
        rw [show (nI s + 1 : Int32) = nI (s + 1) from nI_add _ _]
        refine q_put zi_193_79 rfl cf_195_12 rfl ?_
        refine r_al0 zi_193_82 rfl ?_
        refine r_il1 zi_193_83 rfl ?_
        refine q_put zi_193_84 rfl cf_195_15 rfl ?_
        refine r_al0 zi_193_87 rfl ?_
        refine r_il1 zi_193_88 rfl ?_
        refine q_cIV zi_193_89 rfl rfl rfl rfl rfl rfl rfl cf_195_0.ob (s_misL ht2 (fun _ => ?_) (fun z => absurd hL z))
        show zk _ _ 92 _ _ _ _
        refine r_if0 zi_193_92 rfl (fun c => absurd c (by decide)) (fun _ => ?_)
        exact k2
      · by_cases hD : tkD (t s) = true
        · have e1 : tke t b s = tkr tkD t b (s + 1) := by unfold tke; rw [if_neg hL, if_pos hD]
          have he := tke_b (t := t) c
          rw [tkc_D c hL hD] at hq
          have hDs : ∀ i, i < tke t b s - s → tkD (t (s + i)) = true := fun i hi => by
            by_cases e : i = 0
            · rw [e]; exact hD
            · exact tkr_i (P := tkD) (t := t) (b := b) (b - (s + 1)) (s + 1) (by omega) (s + i) (by omega) (by omega)
          have hDv : 48 ≤ t s ∧ t s ≤ 57 := by simpa [tkD] using hD
          have hF5 : Fg mR σ (up (up (up τ2 195 12 (nI (s + 1))) 195 15 (nI (t s))) 195 15 (nI (t s - 48))) := hF4.put (by unfold mR; omega)
          have d12 : up (up (up τ2 195 12 (nI (s + 1))) 195 15 (nI (t s))) 195 15 (nI (t s - 48)) 195 12 = nI (s + 1) := (zup_nj (by decide)).trans b12
          have d13 : up (up (up τ2 195 12 (nI (s + 1))) 195 15 (nI (t s))) 195 15 (nI (t s - 48)) 195 13 = nI s := (zup_nj (by decide)).trans b13
          have d14 : up (up (up τ2 195 12 (nI (s + 1))) 195 15 (nI (t s))) 195 15 (nI (t s - 48)) 195 14 = 1 := (zup_nj (by decide)).trans b14
          have d15 : up (up (up τ2 195 12 (nI (s + 1))) 195 15 (nI (t s))) 195 15 (nI (t s - 48)) 195 15 = nI (tkv t s (s + 1 - s)) := by
            rw [zup_eq, Nat.add_sub_cancel_left]
            show _ = nI (if tkv t s 0 < 10000 then 10 * tkv t s 0 + (t (s + 0) - 48) else tkv t s 0)
            have e0 : tkv t s 0 = 0 := rfl
            rw [e0, if_pos (by decide), Nat.mul_zero, Nat.zero_add, Nat.add_zero]
          have hend : ∀ υ, Fg (fun a b => a = 195 ∧ (b = 12 ∨ b = 15)) (up (up (up τ2 195 12 (nI (s + 1))) 195 15 (nI (t s))) 195 15 (nI (t s - 48))) υ → υ 195 12 = nI (tkr tkD t b (s + 1)) → υ 195 15 = nI (tkv t s (tkr tkD t b (s + 1) - s)) → zk (d + 2) 193 239 [.ref 195, .int (nI (t s))] [] υ (fun r t => r = none ∧ Q t) := fun υ x y z => by
            rw [← e1] at y z
            have hFu : Fg mR σ υ := hF5.tr (x.sub (fun a b z => by unfold mR; omega))
            have c13 : υ 195 13 = nI s := (x 195 13 (by omega)).trans d13
            have c14 : υ 195 14 = 1 := (x 195 14 (by omega)).trans d14
            by_cases c4 : 4 < tke t b s - s
            · rw [if_pos c4] at hq
              have h := hq υ hFu c13 y (Or.inr (Or.inr (Or.inr (Or.inl ⟨rfl, c14⟩))))
              clear d15 hDs
              generalize tke t b s = e at *
              refine r_al0 zi_193_239 rfl ?_
              refine q_getIe zi_193_240 rfl cf_195_12 (v := nI e) (by first | exact y | ((repeat (first | rw [zup_ne (by first | decide | omega)] | rw [zup_nj (by first | decide | omega)] | rw [fil_ne (by first | decide | omega)])) <;> exact y) | (simp [up_rd, fil_rd]; exact y)) ?_
              refine r_al0 zi_193_243 rfl ?_
              refine q_getIe zi_193_244 rfl cf_195_13 (v := nI s) (by first | exact c13 | ((repeat (first | rw [zup_ne (by first | decide | omega)] | rw [zup_nj (by first | decide | omega)] | rw [fil_ne (by first | decide | omega)])) <;> exact c13) | (simp [up_rd, fil_rd]; exact c13)) ?_
              refine r_b1 zi_193_247 rfl ?_
              rw [show (nI e - nI s : Int32) = nI (e - s) from pk_sub (a := e) (b := s) (by omega)]
              refine r_push zi_193_248 rfl ?_
              refine n_ic3 (i := (e - s)) (j := 5) zi_193_249 rfl (by omega) (by omega) (fun _ => ?_) (fun c => absurd c (by omega))
              refine r_ret zi_193_273 rfl ?_
              exact ⟨rfl, h⟩
            · rw [if_neg c4] at hq
              rw [tkv_n _ (by omega) hDs] at z
              have hb4 : tkn t s (tke t b s - s) < 10000 := Nat.lt_of_lt_of_le (tkn_b _ hDs) (show 10 ^ (tke t b s - s) ≤ 10 ^ 4 from Nat.pow_le_pow_right (by decide) (by omega))
              have h := hq (up υ 195 14 3) (hFu.put (by unfold mR; omega)) ((zup_nj (by decide)).trans c13) ((zup_nj (by decide)).trans y) (Or.inl ⟨hb4, zup_eq, (zup_nj (by decide)).trans z⟩)
              clear d15 hDs
              generalize tke t b s = e at *
              refine r_al0 zi_193_239 rfl ?_
              refine q_getIe zi_193_240 rfl cf_195_12 (v := nI e) (by first | exact y | ((repeat (first | rw [zup_ne (by first | decide | omega)] | rw [zup_nj (by first | decide | omega)] | rw [fil_ne (by first | decide | omega)])) <;> exact y) | (simp [up_rd, fil_rd]; exact y)) ?_
              refine r_al0 zi_193_243 rfl ?_
              refine q_getIe zi_193_244 rfl cf_195_13 (v := nI s) (by first | exact c13 | ((repeat (first | rw [zup_ne (by first | decide | omega)] | rw [zup_nj (by first | decide | omega)] | rw [fil_ne (by first | decide | omega)])) <;> exact c13) | (simp [up_rd, fil_rd]; exact c13)) ?_
              refine r_b1 zi_193_247 rfl ?_
              rw [show (nI e - nI s : Int32) = nI (e - s) from pk_sub (a := e) (b := s) (by omega)]
              refine r_push zi_193_248 rfl ?_
              refine n_ic3 (i := (e - s)) (j := 5) zi_193_249 rfl (by omega) (by omega) (fun c => absurd c (by omega)) (fun _ => ?_)
              refine r_al0 zi_193_252 rfl ?_
              refine r_push zi_193_253 rfl ?_
              refine q_put zi_193_254 rfl cf_195_14 rfl ?_
              refine r_goto zi_193_257 rfl ?_
              refine r_ret zi_193_273 rfl ?_
              exact ⟨rfl, h⟩
          have k2 := l_rdig (d := d) (u := .int (nI (t s))) (hmR _ hF5) hend (b - (s + 1)) (s + 1) _ (by omega) (by omega) rfl Fg.rf d12 d15
          clear d15 hDs hend
          generalize t s = v at *
          refine r_al0 zi_193_52 rfl ?_
          refine r_al0 zi_193_53 rfl ?_
          refine q_getIe zi_193_54 rfl cf_195_12 (v := nI s) (by first | exact a12 | ((repeat (first | rw [zup_ne (by first | decide | omega)] | rw [zup_nj (by first | decide | omega)] | rw [fil_ne (by first | decide | omega)])) <;> exact a12) | (simp [up_rd, fil_rd]; exact a12)) ?_
          refine q_cIV zi_193_57 rfl rfl rfl rfl rfl rfl rfl cf_195_0.ob (hr _ ?_)
          show zk _ _ 60 _ _ _ _
          refine r_is1 zi_193_60 rfl ?_
          refine r_il1 zi_193_61 rfl ?_
          refine r_push zi_193_62 rfl ?_
          refine r_ic1 zi_193_63 rfl (fun _ => ?_) (fun c => absurd c hneg)
          refine r_al0 zi_193_72 rfl ?_
          refine r_al0 zi_193_73 rfl ?_
          refine q_getIe zi_193_74 rfl cf_195_12 (v := nI s) (by first | exact a12 | ((repeat (first | rw [zup_ne (by first | decide | omega)] | rw [zup_nj (by first | decide | omega)] | rw [fil_ne (by first | decide | omega)])) <;> exact a12) | (simp [up_rd, fil_rd]; exact a12)) ?_
          refine r_push zi_193_77 rfl ?_
          refine r_b0 zi_193_78 rfl ?_
          rw [show (nI s + 1 : Int32) = nI (s + 1) from nI_add _ _]
          refine q_put zi_193_79 rfl cf_195_12 rfl ?_
          refine r_al0 zi_193_82 rfl ?_
          refine r_il1 zi_193_83 rfl ?_
          refine q_put zi_193_84 rfl cf_195_15 rfl ?_
          refine r_al0 zi_193_87 rfl ?_
          refine r_il1 zi_193_88 rfl ?_
          refine q_cIV zi_193_89 rfl rfl rfl rfl rfl rfl rfl cf_195_0.ob (s_misL ht2 (fun z => absurd z hL) (fun _ => ?_))
          show zk _ _ 92 _ _ _ _
          refine r_if0 zi_193_92 rfl (fun _ => ?_) (fun c => absurd (by decide) c)
          refine r_al0 zi_193_155 rfl ?_
          refine r_il1 zi_193_156 rfl ?_
          refine q_cIV zi_193_157 rfl rfl rfl rfl rfl rfl rfl cf_195_0.ob (s_misD ht2 (fun _ => ?_) (fun z => absurd hD z))
          show zk _ _ 160 _ _ _ _
          refine r_if0 zi_193_160 rfl (fun c => absurd c (by decide)) (fun _ => ?_)
          refine r_al0 zi_193_163 rfl ?_
          refine r_il1 zi_193_164 rfl ?_
          refine r_push zi_193_165 rfl ?_
          refine r_b1 zi_193_167 rfl ?_
          rw [show (nI v - 48 : Int32) = nI (v - 48) from pk_sub (a := v) (b := 48) (by omega)]
          refine q_put zi_193_168 rfl cf_195_15 rfl ?_
          exact k2
        · rw [tkc_S c hL hD, show tke t b s = s + 1 from by unfold tke; rw [if_neg hL, if_neg hD]] at hq
          by_cases hS : tkS (t s) = true
          · rw [if_pos hS] at hq
            have h := hq (up (up (up τ2 195 12 (nI (s + 1))) 195 15 (nI (t s))) 195 14 4) (hF4.put (by unfold mR; omega)) ((zup_nj (by decide)).trans b13) ((zup_nj (by decide)).trans b12) (Or.inr (Or.inr (Or.inl ⟨t s, hS, rfl, zup_eq, (zup_nj (by decide)).trans b15⟩)))
            generalize t s = v at *
            refine r_al0 zi_193_52 rfl ?_
            refine r_al0 zi_193_53 rfl ?_
            refine q_getIe zi_193_54 rfl cf_195_12 (v := nI s) (by first | exact a12 | ((repeat (first | rw [zup_ne (by first | decide | omega)] | rw [zup_nj (by first | decide | omega)] | rw [fil_ne (by first | decide | omega)])) <;> exact a12) | (simp [up_rd, fil_rd]; exact a12)) ?_
            refine q_cIV zi_193_57 rfl rfl rfl rfl rfl rfl rfl cf_195_0.ob (hr _ ?_)
            show zk _ _ 60 _ _ _ _
            refine r_is1 zi_193_60 rfl ?_
            refine r_il1 zi_193_61 rfl ?_
            refine r_push zi_193_62 rfl ?_
            refine r_ic1 zi_193_63 rfl (fun _ => ?_) (fun c => absurd c hneg)
            refine r_al0 zi_193_72 rfl ?_
            refine r_al0 zi_193_73 rfl ?_
            refine q_getIe zi_193_74 rfl cf_195_12 (v := nI s) (by first | exact a12 | ((repeat (first | rw [zup_ne (by first | decide | omega)] | rw [zup_nj (by first | decide | omega)] | rw [fil_ne (by first | decide | omega)])) <;> exact a12) | (simp [up_rd, fil_rd]; exact a12)) ?_
            refine r_push zi_193_77 rfl ?_
            refine r_b0 zi_193_78 rfl ?_
            rw [show (nI s + 1 : Int32) = nI (s + 1) from nI_add _ _]
            refine q_put zi_193_79 rfl cf_195_12 rfl ?_
            refine r_al0 zi_193_82 rfl ?_
            refine r_il1 zi_193_83 rfl ?_
            refine q_put zi_193_84 rfl cf_195_15 rfl ?_
            refine r_al0 zi_193_87 rfl ?_
            refine r_il1 zi_193_88 rfl ?_
            refine q_cIV zi_193_89 rfl rfl rfl rfl rfl rfl rfl cf_195_0.ob (s_misL ht2 (fun z => absurd z hL) (fun _ => ?_))
            show zk _ _ 92 _ _ _ _
            refine r_if0 zi_193_92 rfl (fun _ => ?_) (fun c => absurd (by decide) c)
            refine r_al0 zi_193_155 rfl ?_
            refine r_il1 zi_193_156 rfl ?_
            refine q_cIV zi_193_157 rfl rfl rfl rfl rfl rfl rfl cf_195_0.ob (s_misD ht2 (fun z => absurd z hD) (fun _ => ?_))
            show zk _ _ 160 _ _ _ _
            refine r_if0 zi_193_160 rfl (fun _ => ?_) (fun c => absurd (by decide) c)
            refine r_al0 zi_193_260 rfl ?_
            refine r_il1 zi_193_261 rfl ?_
            refine q_cIV zi_193_262 rfl rfl rfl rfl rfl rfl rfl cf_195_0.ob (s_misS ht2 (fun _ => ?_) (fun z => absurd hS z))
            show zk _ _ 265 _ _ _ _
            refine r_if0 zi_193_265 rfl (fun c => absurd c (by decide)) (fun _ => ?_)
            refine r_al0 zi_193_268 rfl ?_
            refine r_push zi_193_269 rfl ?_
            refine q_put zi_193_270 rfl cf_195_14 rfl ?_
            refine r_ret zi_193_273 rfl ?_
            exact ⟨rfl, h⟩
          · rw [if_neg hS] at hq
            have h := hq (up (up τ2 195 12 (nI (s + 1))) 195 15 (nI (t s))) hF4 b13 b12 (Or.inr (Or.inr (Or.inr (Or.inl ⟨rfl, b14⟩))))
            generalize t s = v at *
            refine r_al0 zi_193_52 rfl ?_
            refine r_al0 zi_193_53 rfl ?_
            refine q_getIe zi_193_54 rfl cf_195_12 (v := nI s) (by first | exact a12 | ((repeat (first | rw [zup_ne (by first | decide | omega)] | rw [zup_nj (by first | decide | omega)] | rw [fil_ne (by first | decide | omega)])) <;> exact a12) | (simp [up_rd, fil_rd]; exact a12)) ?_
            refine q_cIV zi_193_57 rfl rfl rfl rfl rfl rfl rfl cf_195_0.ob (hr _ ?_)
            show zk _ _ 60 _ _ _ _
            refine r_is1 zi_193_60 rfl ?_
            refine r_il1 zi_193_61 rfl ?_
            refine r_push zi_193_62 rfl ?_
            refine r_ic1 zi_193_63 rfl (fun _ => ?_) (fun c => absurd c hneg)
            refine r_al0 zi_193_72 rfl ?_
            refine r_al0 zi_193_73 rfl ?_
            refine q_getIe zi_193_74 rfl cf_195_12 (v := nI s) (by first | exact a12 | ((repeat (first | rw [zup_ne (by first | decide | omega)] | rw [zup_nj (by first | decide | omega)] | rw [fil_ne (by first | decide | omega)])) <;> exact a12) | (simp [up_rd, fil_rd]; exact a12)) ?_
            refine r_push zi_193_77 rfl ?_
            refine r_b0 zi_193_78 rfl ?_
            rw [show (nI s + 1 : Int32) = nI (s + 1) from nI_add _ _]
            refine q_put zi_193_79 rfl cf_195_12 rfl ?_
            refine r_al0 zi_193_82 rfl ?_
            refine r_il1 zi_193_83 rfl ?_
            refine q_put zi_193_84 rfl cf_195_15 rfl ?_
            refine r_al0 zi_193_87 rfl ?_
            refine r_il1 zi_193_88 rfl ?_
            refine q_cIV zi_193_89 rfl rfl rfl rfl rfl rfl rfl cf_195_0.ob (s_misL ht2 (fun z => absurd z hL) (fun _ => ?_))
            show zk _ _ 92 _ _ _ _
            refine r_if0 zi_193_92 rfl (fun _ => ?_) (fun c => absurd (by decide) c)
            refine r_al0 zi_193_155 rfl ?_
            refine r_il1 zi_193_156 rfl ?_
            refine q_cIV zi_193_157 rfl rfl rfl rfl rfl rfl rfl cf_195_0.ob (s_misD ht2 (fun z => absurd z hD) (fun _ => ?_))
            show zk _ _ 160 _ _ _ _
            refine r_if0 zi_193_160 rfl (fun _ => ?_) (fun c => absurd (by decide) c)
            refine r_al0 zi_193_260 rfl ?_
            refine r_il1 zi_193_261 rfl ?_
            refine q_cIV zi_193_262 rfl rfl rfl rfl rfl rfl rfl cf_195_0.ob (s_misS ht2 (fun z => absurd z hS) (fun _ => ?_))
            show zk _ _ 265 _ _ _ _
            refine r_if0 zi_193_265 rfl (fun _ => ?_) (fun c => absurd (by decide) c)
            refine r_ret zi_193_273 rfl ?_
            exact ⟨rfl, h⟩
    · have hr : ∀ (Q2 : Int32 → zS → Prop), Q2 (-1) τ2 → zI1 (d + 1) 188 [.ref 195, .int (nI s)] τ2 Q2 := fun Q2 h2 => s_raw (hmR _ hF2) (by omega) (fun z => absurd z c) (fun _ => h2)
      have h := hq (up τ2 195 14 0) (hF2.put (by unfold mR; omega)) ((zup_nj (by decide)).trans a13) (by rw [if_neg c]; exact (zup_nj (by decide)).trans a12) (Or.inr (Or.inr (Or.inr (Or.inr ⟨tkc_E c, zup_eq⟩))))
      refine r_al0 zi_193_52 rfl ?_
      refine r_al0 zi_193_53 rfl ?_
      refine q_getIe zi_193_54 rfl cf_195_12 (v := nI s) (by first | exact a12 | ((repeat (first | rw [zup_ne (by first | decide | omega)] | rw [zup_nj (by first | decide | omega)] | rw [fil_ne (by first | decide | omega)])) <;> exact a12) | (simp [up_rd, fil_rd]; exact a12)) ?_
      refine q_cIV zi_193_57 rfl rfl rfl rfl rfl rfl rfl cf_195_0.ob (hr _ ?_)
      show zk _ _ 60 _ _ _ _
      refine r_is1 zi_193_60 rfl ?_
      refine r_il1 zi_193_61 rfl ?_
      refine r_push zi_193_62 rfl ?_
      refine r_ic1 zi_193_63 rfl (fun c => absurd rfl c) (fun _ => ?_)
      refine r_al0 zi_193_66 rfl ?_
      refine r_push zi_193_67 rfl ?_
      refine q_put zi_193_68 rfl cf_195_14 rfl ?_
      refine r_ret zi_193_71 rfl ?_
      exact ⟨rfl, h⟩
  refine r_al0 zi_193_39 rfl ?_
  refine r_al0 zi_193_40 rfl ?_
  refine q_getIe zi_193_41 rfl cf_195_12 (v := nI s) (by first | exact h12 | ((repeat (first | rw [zup_ne (by first | decide | omega)] | rw [zup_nj (by first | decide | omega)] | rw [fil_ne (by first | decide | omega)])) <;> exact h12) | (simp [up_rd, fil_rd]; exact h12)) ?_
  refine q_put zi_193_44 rfl cf_195_13 rfl ?_
  refine r_al0 zi_193_47 rfl ?_
  refine r_push zi_193_48 rfl ?_
  refine q_put zi_193_49 rfl cf_195_14 rfl ?_
  exact hwalk
theorem s_reads {d b p : Nat} {σ : zS} {Q : zS → Prop} {t : Nat → Nat} (hc : mTc σ t b) (hp : p ≤ b) (h12 : σ 195 12 = nI p) (hq : ∀ υ, Fg mR σ υ → υ 195 13 = nI (tkr tkB t b p) → υ 195 12 = nI (if tkr tkB t b p < b then tke t b (tkr tkB t b p) else tkr tkB t b p) → mkd (tkc t b (tkr tkB t b p)) (υ 195 14) (υ 195 15) → Q υ) : zV1 (d + 2) 193 [.ref 195] σ Q := by
  show zk _ _ 0 [.ref 195, zun] [] _ _
  exact l_rskip hc (fun υ u x y => l_r39 hc (tkr_le hp).2 x y hq) (b - p) p σ zun (by omega) rfl Fg.rf h12
/-- token i is the model's next -/
def mTk (τ : zS) (t : Nat → Nat) (b i : Nat) : Prop := mTc τ t b ∧ τ 195 13 = nI (tks t b i) ∧ τ 195 12 = nI (tkp t b (i + 1)) ∧ mkd (tkk t b i) (τ 195 14) (τ 195 15)
theorem s_readn {d b i : Nat} {σ : zS} {Q : zS → Prop} {t : Nat → Nat} (h : mTk σ t b i) (hq : ∀ υ, Fg mR σ υ → mTk υ t b (i + 1) → Q υ) : zV1 (d + 2) 193 [.ref 195] σ Q := by
  obtain ⟨h1, h2, h3, h4⟩ := h
  exact s_reads h1 (tkp_le _) h3 (fun υ x y z w => hq υ x ⟨mTc_f h1 (x 195 11 (by unfold mR; omega)) (fun i => x 202 i (by unfold mR; omega)) (fun i => x 203 i (by unfold mR; omega)), y, z, w⟩)
theorem s_read0 {d b : Nat} {σ : zS} {Q : zS → Prop} {t : Nat → Nat} (h : mTc σ t b) (h12 : σ 195 12 = 0) (hq : ∀ υ, Fg mR σ υ → mTk υ t b 0 → Q υ) : zV1 (d + 2) 193 [.ref 195] σ Q :=
  s_reads h (Nat.zero_le _) h12 (fun υ x y z w => hq υ x ⟨mTc_f h (x 195 11 (by unfold mR; omega)) (fun i => x 202 i (by unfold mR; omega)) (fun i => x 203 i (by unfold mR; omega)), y, z, w⟩)

