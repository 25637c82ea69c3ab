/-! MODEL: the night, and a day whole -/
theorem zOm_g {n : Nat} {o m : Int32} (h : zOm n o m) : zOg n o := by
  obtain ⟨w, a, s, g, h1, h2, h3, h4, h5, e, _⟩ := h
  exact ⟨w, a, s, g, h1, h2, h3, h4, h5, e⟩
theorem zVm_gv {τ V : zS} {n t : Nat} {th : Bool} {o v : Int32} (hn18 : n ≤ 18) (h : zVm τ V n th) (ht : V 11 12 = nI t) (ht24 : t < 24) (ho : zOm n o v) : zVm (up (up τ 196 (121 + t) v) 196 120 (nI (t + 1))) (up (up V 9 t o) 11 12 (nI (t + 1))) n th := by
  obtain ⟨h1, h2, h3, h4, h5, h6, h7, h8⟩ := h
  have hl : ∀ b, b < 120 → up (up τ 196 (121 + t) v) 196 120 (nI (t + 1)) 196 b = τ 196 b := fun b hb => (zup_nj (by omega)).trans (zup_nj (by omega))
  have h145 : up (up τ 196 (121 + t) v) 196 120 (nI (t + 1)) 196 145 = τ 196 145 := (zup_nj (by omega)).trans (zup_nj (by omega))
  have h146 : ∀ i, up (up τ 196 (121 + t) v) 196 120 (nI (t + 1)) 196 (146 + i) = τ 196 (146 + i) := fun i => (zup_nj (by omega)).trans (zup_nj (by omega))
  have ha : ∀ a b, a ≠ 196 → up (up τ 196 (121 + t) v) 196 120 (nI (t + 1)) a b = τ a b := fun a b hb => (zup_ne hb).trans (zup_ne hb)
  have hr : ∀ r b, r ≠ 9 → r ≠ 11 → up (up V 9 t o) 11 12 (nI (t + 1)) r b = V r b := fun r b x y => (zup_ne y).trans (zup_ne x)
  have hf : ∀ b, b ≠ 12 → up (up V 9 t o) 11 12 (nI (t + 1)) 11 b = V 11 b := fun b x => (zup_nj x).trans (zup_ne (by decide))
  have hu : un (V 11 12) = t := by rw [ht]; exact un_nI (by omega)
  refine ⟨?_, fun p hp => ?_, fun s hs => ?_, fun s hs => ?_, ?_, fun i hi hi2 => ?_, fun i hi hi2 => ?_, fun hth i hi => ?_⟩
  · rw [hl 0 (by decide), hl 1 (by decide), hl 2 (by decide), hl 3 (by decide), hl 4 (by decide), hl 5 (by decide), hf 17 (by decide), hf 18 (by decide), hf 19 (by decide), hf 14 (by decide), hf 15 (by decide), hf 16 (by decide)]; exact h1
  · rw [hl _ (by omega), hl _ (by omega), ha 199 _ (by decide), hr 1 _ (by decide) (by decide), hr 2 _ (by decide) (by decide), hr 0 _ (by decide) (by decide)]; exact h2 p hp
  · rw [hl _ (by omega), hl _ (by omega), ha 200 _ (by decide), hr 3 _ (by decide) (by decide), hr 6 _ (by decide) (by decide), hr 4 _ (by decide) (by decide)]; exact h3 s hs
  · rw [hl _ (by omega), hl _ (by omega), hl _ (by omega), hr 5 _ (by decide) (by decide), hr 7 _ (by decide) (by decide), hr 8 _ (by decide) (by decide)]; exact h4 s hs
  · rw [zup_eq, zup_eq, h145, hf 13 (by decide)]; exact ⟨rfl, h5.2⟩
  · rw [zup_eq, un_nI (by omega)] at hi
    by_cases e : i = t
    · subst e
      rw [zup_ne (show 9 ≠ 11 by decide), zup_eq, zup_nj (by omega), zup_eq]; exact ho
    · rw [zup_ne (show 9 ≠ 11 by decide), zup_nj e, zup_nj (by omega), zup_nj (by omega)]; exact h6 i (by omega) hi2
  · rw [hf 13 (by decide)] at hi; rw [hr 10 _ (by decide) (by decide), h146]; exact h7 i hi hi2
  · rw [ha 201 _ (by decide), hr 12 _ (by decide) (by decide)]; exact h8 hth i hi
theorem l_mledger {d n N nE c : Nat} {ed : Nat → Nat} {eo : Nat → Int32} {σ : zS} {Q : Option Int32 → zS → Prop} {th : Bool} {Wd Fr' Wh To O A : Nat → Nat} {B : Nat → Int32} (hM : zMd σ n th N Wd Fr' Wh To O A B) (hE : zEm σ n nE ed eo) : ∀ (m l : Nat) (τ V : zS), l + m = nE → zFm th σ τ → zVm τ V n th → zVg V n → (∀ υ, zFm th σ υ → zVm υ (dLe ed eo m l V) n th → zk (d + 9) 243 239 [.ref 195, .int (nI c), .int (nI (2 * nE))] [] υ Q) → zk (d + 9) 243 195 [.ref 195, .int (nI c), .int (nI (2 * l))] [] τ Q := by
  have hn18 := hM.2.1
  obtain ⟨t1, t2, t3⟩ := hE
  intro m
  induction m with
  | zero =>
    intro l τ V hl hF hV hg hq
    have e : l = nE := by omega
    subst e
    have hn : τ 195 33 = nI l := (hF.1 195 (by decide) 33).trans t1
    refine r_il2 zi_243_195 rfl ?_
    refine r_push zi_243_196 rfl ?_
    refine r_al0 zi_243_197 rfl ?_
    refine q_getIe zi_243_198 rfl cf_195_33 (v := nI l) (by first | exact hn | ((repeat (first | rw [zup_ne (by first | decide | omega)] | rw [zup_nj (by first | decide | omega)] | rw [fil_ne (by first | decide | omega)])) <;> exact hn) | (simp [up_rd, fil_rd]; exact hn)) ?_
    refine r_b2 zi_243_201 rfl ?_
    rw [show (2 * nI l : Int32) = nI (2 * l) from pk_mul _ _]
    refine n_ic3 (i := (2*l)) (j := (2 * l)) zi_243_202 rfl (by omega) (by omega) (fun _ => ?_) (fun c => absurd c (by omega))
    exact hq τ hF hV
  | succ m ih =>
    intro l τ V hl hF hV hg hq
    have hn : τ 195 33 = nI nE := (hF.1 195 (by decide) 33).trans t1
    obtain ⟨c0, c1⟩ := t3 l (by omega)
    have e212 : ∀ i, τ 212 i = σ 212 i := fun i => hF.1 212 (by decide) i
    have hd : τ 196 0 = V 11 17 := hV.1.1
    have e33 : 2 * l + 2 = 2 * (l + 1) := by omega
    have hq : ∀ υ, zFm th σ υ → zVm υ (dLe ed eo m (l + 1) (if nI (ed l) = V 11 17 then dGv V (eo l) else V)) n th → zk (d + 9) 243 239 [.ref 195, .int (nI c), .int (nI (2 * nE))] [] υ Q := hq
    by_cases e1 : nI (ed l) = V 11 17
    · rw [if_pos e1] at hq
      obtain ⟨t, ht, ht2, ht3⟩ := id hg.2.2.2.2.2.1
      have hg2 : zVg (dGv V (eo l)) n := dGv_g hg (zOm_g c1)
      rw [dGv_t ht2 ht] at hq hg2
      have hgv : ∀ (Q2 : zS → Prop), (∀ υ, zFm th σ υ → zVm υ (if t = 24 then V else up (up V 9 t (eo l)) 11 12 (nI (t + 1))) n th → Q2 υ) → zV1 (d + 8) 242 [.ref 195, .int (σ 212 (2 * l + 1))] τ Q2 := fun Q2 h2 => s_mgiven (hV.2.2.2.2.1.1.trans ht2) ht (fun z => h2 _ hF.put.put (by rw [if_neg (by omega)]; exact zVm_gv hn18 hV ht2 z c1)) (fun z => h2 _ hF (by rw [if_pos z]; exact hV))
      refine r_il2 zi_243_195 rfl ?_
      refine r_push zi_243_196 rfl ?_
      refine r_al0 zi_243_197 rfl ?_
      refine q_getIe zi_243_198 rfl cf_195_33 (v := nI nE) (by first | exact hn | ((repeat (first | rw [zup_ne (by first | decide | omega)] | rw [zup_nj (by first | decide | omega)] | rw [fil_ne (by first | decide | omega)])) <;> exact hn) | (simp [up_rd, fil_rd]; exact hn)) ?_
      refine r_b2 zi_243_201 rfl ?_
      rw [show (2 * nI nE : Int32) = nI (2 * nE) from pk_mul _ _]
      refine n_ic3 (i := (2*l)) (j := (2 * nE)) zi_243_202 rfl (by omega) (by omega) (fun c => absurd c (by omega)) (fun _ => ?_)
      refine r_al0 zi_243_205 rfl ?_
      refine q_getR zi_243_206 rfl cf_195_34 ?_
      refine r_il2 zi_243_209 rfl ?_
      refine r_alde zi_243_210 rfl (2*l) ca_212 (by first | rfl | (simp only [zI_add, zI_mul] <;> rfl)) (by first | omega | decide) (u := nI (ed l)) (by first | exact ((e212 _).trans c0) | ((repeat (first | rw [zup_ne (by first | decide | omega)] | rw [zup_nj (by first | decide | omega)] | rw [fil_ne (by first | decide | omega)])) <;> exact ((e212 _).trans c0)) | (simp [up_rd, fil_rd]; exact ((e212 _).trans c0))) ?_
      refine r_al0 zi_243_211 rfl ?_
      refine q_getR zi_243_212 rfl cf_195_1 ?_
      refine r_push zi_243_215 rfl ?_
      refine r_alde zi_243_216 rfl 0 ca_196 rfl (by decide) (u := V 11 17) (by first | exact hd | ((repeat (first | rw [zup_ne (by first | decide | omega)] | rw [zup_nj (by first | decide | omega)] | rw [fil_ne (by first | decide | omega)])) <;> exact hd) | (simp [up_rd, fil_rd]; exact hd)) ?_
      refine r_ic1 zi_243_217 rfl (fun c => absurd e1 c) (fun _ => ?_)
      refine r_al0 zi_243_220 rfl ?_
      refine r_al0 zi_243_221 rfl ?_
      refine q_getR zi_243_222 rfl cf_195_34 ?_
      refine r_il2 zi_243_225 rfl ?_
      refine r_push zi_243_226 rfl ?_
      refine r_b0 zi_243_227 rfl ?_
      rw [show (nI (2*l) + 1 : Int32) = nI ((2*l) + 1) from nI_add _ _]
      refine r_alde zi_243_228 rfl ((2*l) + 1) ca_212 (by first | rfl | (simp only [zI_add, zI_mul] <;> rfl)) (by first | omega | decide) (u := σ 212 (2 * l + 1)) (by first | exact (e212 _) | ((repeat (first | rw [zup_ne (by first | decide | omega)] | rw [zup_nj (by first | decide | omega)] | rw [fil_ne (by first | decide | omega)])) <;> exact (e212 _)) | (simp [up_rd, fil_rd]; exact (e212 _))) ?_
      refine q_cVV zi_243_229 rfl rfl rfl rfl rfl rfl rfl cf_195_0.ob (hgv _ (fun υ x1 x2 => ?_))
      show zk _ _ 232 _ _ _ _
      refine r_il2 zi_243_232 rfl ?_
      refine r_push zi_243_233 rfl ?_
      refine r_b0 zi_243_234 rfl ?_
      rw [show (nI (2*l) + 2 : Int32) = nI ((2*l) + 2) from nI_add _ _]
      refine r_is2 zi_243_235 rfl ?_
      refine r_goto zi_243_236 rfl ?_
      rw [e33]; exact ih (l + 1) _ _ (by omega) x1 x2 hg2 hq
    · rw [if_neg e1] at hq
      refine r_il2 zi_243_195 rfl ?_
      refine r_push zi_243_196 rfl ?_
      refine r_al0 zi_243_197 rfl ?_
      refine q_getIe zi_243_198 rfl cf_195_33 (v := nI nE) (by first | exact hn | ((repeat (first | rw [zup_ne (by first | decide | omega)] | rw [zup_nj (by first | decide | omega)] | rw [fil_ne (by first | decide | omega)])) <;> exact hn) | (simp [up_rd, fil_rd]; exact hn)) ?_
      refine r_b2 zi_243_201 rfl ?_
      rw [show (2 * nI nE : Int32) = nI (2 * nE) from pk_mul _ _]
      refine n_ic3 (i := (2*l)) (j := (2 * nE)) zi_243_202 rfl (by omega) (by omega) (fun c => absurd c (by omega)) (fun _ => ?_)
      refine r_al0 zi_243_205 rfl ?_
      refine q_getR zi_243_206 rfl cf_195_34 ?_
      refine r_il2 zi_243_209 rfl ?_
      refine r_alde zi_243_210 rfl (2*l) ca_212 (by first | rfl | (simp only [zI_add, zI_mul] <;> rfl)) (by first | omega | decide) (u := nI (ed l)) (by first | exact ((e212 _).trans c0) | ((repeat (first | rw [zup_ne (by first | decide | omega)] | rw [zup_nj (by first | decide | omega)] | rw [fil_ne (by first | decide | omega)])) <;> exact ((e212 _).trans c0)) | (simp [up_rd, fil_rd]; exact ((e212 _).trans c0))) ?_
      refine r_al0 zi_243_211 rfl ?_
      refine q_getR zi_243_212 rfl cf_195_1 ?_
      refine r_push zi_243_215 rfl ?_
      refine r_alde zi_243_216 rfl 0 ca_196 rfl (by decide) (u := V 11 17) (by first | exact hd | ((repeat (first | rw [zup_ne (by first | decide | omega)] | rw [zup_nj (by first | decide | omega)] | rw [fil_ne (by first | decide | omega)])) <;> exact hd) | (simp [up_rd, fil_rd]; exact hd)) ?_
      refine r_ic1 zi_243_217 rfl (fun _ => ?_) (fun c => absurd c e1)
      refine r_il2 zi_243_232 rfl ?_
      refine r_push zi_243_233 rfl ?_
      refine r_b0 zi_243_234 rfl ?_
      rw [show (nI (2*l) + 2 : Int32) = nI ((2*l) + 2) from nI_add _ _]
      refine r_is2 zi_243_235 rfl ?_
      refine r_goto zi_243_236 rfl ?_
      rw [e33]; exact ih (l + 1) _ _ (by omega) hF hV hg hq
theorem dNi_r {V : zS} {r i : Nat} (h1 : r ≠ 10) (h2 : r ≠ 11) : dNi V r i = V r i := by
  unfold dNi
  rw [zup_ne h2, zup_ne h2, zup_ne h2, fil_ne h1]
theorem dNi_f {V : zS} {i : Nat} (h1 : i ≠ 13) (h2 : i ≠ 12) (h3 : i ≠ 17) : dNi V 11 i = V 11 i := by
  unfold dNi
  rw [zup_nj h3, zup_nj h2, zup_nj h1, fil_ne (by decide)]
theorem dNi_x {V : zS} : dNi V 11 12 = 0 ∧ dNi V 11 13 = V 11 12 ∧ dNi V 11 17 = V 11 17 + 1 ∧ ∀ i, i < 24 → dNi V 10 i = V 9 i := by
  unfold dNi
  refine ⟨?_, ?_, ?_, fun i hi => ?_⟩
  · rw [zup_nj (by decide), zup_eq]
  · rw [zup_nj (by decide), zup_nj (by decide), zup_eq]
  · rw [zup_eq]
  · rw [zup_ne (by decide), zup_ne (by decide), zup_ne (by decide), fil_in hi]
def zNj (τ0 : zS) (t i : Nat) (τ : zS) : Prop := (∀ a b, a ≠ 196 → τ a b = τ0 a b) ∧ (∀ b, b ≤ 120 → τ 196 b = τ0 196 b) ∧ (∀ j, j < i → j < t → τ 196 (146 + j) = τ0 196 (121 + j)) ∧ (∀ j, i ≤ j → j < 24 → τ 196 (121 + j) = τ0 196 (121 + j))
theorem zNj_s {τ0 τ : zS} {t i : Nat} {v : Int32} (h : zNj τ0 t i τ) (hi : i < 24) (hv : i < t → v = τ0 196 (121 + i)) : zNj τ0 t (i + 1) (up (up τ 196 (146 + i) v) 196 (121 + i) 0) := by
  obtain ⟨h1, h2, h3, h4⟩ := h
  refine ⟨fun a b ha => ?_, fun b hb => ?_, fun j hj hjt => ?_, fun j hj hj2 => ?_⟩
  · rw [zup_ne ha, zup_ne ha]; exact h1 a b ha
  · rw [zup_nj (by omega), zup_nj (by omega)]; exact h2 b hb
  · rw [zup_nj (by omega)]
    by_cases e : j = i
    · subst e; rw [zup_eq]; exact hv hjt
    · rw [zup_nj (by omega)]; exact h3 j (by omega) hjt
  · rw [zup_nj (by omega), zup_nj (by omega)]; exact h4 j (by omega) hj2
theorem zNj_v {τ0 τ V : zS} {n t : Nat} {th : Bool} {v : Int32} (hn18 : n ≤ 18) (h : zVm τ0 V n th) (ht : V 11 12 = nI t) (ht24 : t ≤ 24) (hj : zNj τ0 t 24 τ) : zVm (up (up (up τ 196 145 (nI t)) 196 120 0) 196 0 (V 11 17 + 1)) (dNi V) n th := by
  obtain ⟨h1, h2, h3, h4, h5, h6, h7, h8⟩ := h
  obtain ⟨j1, j2, j3, j4⟩ := hj
  have hl : ∀ b, 0 < b → b < 120 → up (up (up τ 196 145 (nI t)) 196 120 0) 196 0 (V 11 17 + 1) 196 b = τ0 196 b := fun b hb hb2 => (zup_nj (by omega)).trans ((zup_nj (by omega)).trans ((zup_nj (by omega)).trans (j2 b (by omega))))
  have ha : ∀ a b, a ≠ 196 → up (up (up τ 196 145 (nI t)) 196 120 0) 196 0 (V 11 17 + 1) a b = τ0 a b := fun a b hb => (zup_ne hb).trans ((zup_ne hb).trans ((zup_ne hb).trans (j1 a b hb)))
  obtain ⟨x12, x13, x17, x10⟩ := dNi_x (V := V)
  have hu : un (V 11 12) = t := by rw [ht]; exact un_nI (by omega)
  refine ⟨?_, fun p hp => ?_, fun s hs => ?_, fun s hs => ?_, ?_, fun i hi hi2 => ?_, fun i hi hi2 => ?_, fun hth i hi => ?_⟩
  · rw [zup_eq, hl 1 (by decide) (by decide), hl 2 (by decide) (by decide), hl 3 (by decide) (by decide), hl 4 (by decide) (by decide), hl 5 (by decide) (by decide), x17, dNi_f (by decide) (by decide) (by decide), dNi_f (by decide) (by decide) (by decide), dNi_f (by decide) (by decide) (by decide), dNi_f (by decide) (by decide) (by decide), dNi_f (by decide) (by decide) (by decide)]; exact ⟨rfl, h1.2⟩
  · rw [hl _ (by omega) (by omega), hl _ (by omega) (by omega), ha 199 _ (by decide), dNi_r (by decide) (by decide), dNi_r (by decide) (by decide), dNi_r (by decide) (by decide)]; exact h2 p hp
  · rw [hl _ (by omega) (by omega), hl _ (by omega) (by omega), ha 200 _ (by decide), dNi_r (by decide) (by decide), dNi_r (by decide) (by decide), dNi_r (by decide) (by decide)]; exact h3 s hs
  · rw [hl _ (by omega) (by omega), hl _ (by omega) (by omega), hl _ (by omega) (by omega), dNi_r (by decide) (by decide), dNi_r (by decide) (by decide), dNi_r (by decide) (by decide)]; exact h4 s hs
  · rw [x12, x13, ht, zup_nj (by decide), zup_eq, zup_nj (by decide), zup_nj (by decide), zup_eq]; exact ⟨rfl, rfl⟩
  · rw [x12] at hi; exact absurd hi (by rw [show un 0 = 0 from rfl]; omega)
  · rw [x13, hu] at hi
    rw [x10 i hi2, zup_nj (by omega), zup_nj (by omega), zup_nj (by omega), j3 i hi2 hi]; exact h6 i (by omega) hi2
  · rw [ha 201 _ (by decide), dNi_r (by decide) (by decide)]; exact h8 hth i hi
theorem l_mnight {d n t c : Nat} {τ0 V : zS} {Q : Int32 → zS → Prop} {th : Bool} (hn18 : n ≤ 18) (hV : zVm τ0 V n th) (ht : V 11 12 = nI t) (ht24 : t ≤ 24) (hq : ∀ υ, zFm th τ0 υ → zVm υ (dNi V) n th → Q (nI c) υ) : ∀ (m i : Nat) (τ : zS), i + m = 24 → zFm th τ0 τ → zNj τ0 t i τ → zk (d + 9) 243 241 [.ref 195, .int (nI c), .int (nI i)] [] τ (fun r t => ∃ v, r = some v ∧ Q v t) := by
  intro m
  induction m with
  | zero =>
    intro i τ hi hF hj
    have e : i = 24 := by omega
    subst e
    have m120 : τ 196 120 = nI t := (hj.2.1 120 (by decide)).trans (hV.2.2.2.2.1.1.trans ht)
    have m0 : τ 196 0 = V 11 17 := (hj.2.1 0 (by decide)).trans hV.1.1
    refine r_il2 zi_243_241 rfl ?_
    refine r_push zi_243_242 rfl ?_
    refine r_ic3 zi_243_244 rfl (fun _ => ?_) (fun c => absurd (by decide) c)
    refine r_al0 zi_243_297 rfl ?_
    refine q_getR zi_243_298 rfl cf_195_1 ?_
    refine r_push zi_243_301 rfl ?_
    refine r_al0 zi_243_304 rfl ?_
    refine q_getR zi_243_305 rfl cf_195_1 ?_
    refine r_push zi_243_308 rfl ?_
    refine r_alde zi_243_310 rfl 120 ca_196 rfl (by decide) (u := nI t) (by first | exact m120 | ((repeat (first | rw [zup_ne (by first | decide | omega)] | rw [zup_nj (by first | decide | omega)] | rw [fil_ne (by first | decide | omega)])) <;> exact m120) | (simp [up_rd, fil_rd]; exact m120)) ?_
    refine r_ast zi_243_311 rfl 145 ca_196 rfl (by decide) ?_
    refine r_al0 zi_243_312 rfl ?_
    refine q_getR zi_243_313 rfl cf_195_1 ?_
    refine r_push zi_243_316 rfl ?_
    refine r_push zi_243_318 rfl ?_
    refine r_ast zi_243_319 rfl 120 ca_196 rfl (by decide) ?_
    refine r_al0 zi_243_320 rfl ?_
    refine q_getR zi_243_321 rfl cf_195_1 ?_
    refine r_push zi_243_324 rfl ?_
    refine r_al0 zi_243_325 rfl ?_
    refine q_getR zi_243_326 rfl cf_195_1 ?_
    refine r_push zi_243_329 rfl ?_
    refine r_alde zi_243_330 rfl 0 ca_196 rfl (by decide) (u := V 11 17) (by first | exact ((zup_nj (by decide)).trans ((zup_nj (by decide)).trans m0)) | ((repeat (first | rw [zup_ne (by first | decide | omega)] | rw [zup_nj (by first | decide | omega)] | rw [fil_ne (by first | decide | omega)])) <;> exact ((zup_nj (by decide)).trans ((zup_nj (by decide)).trans m0))) | (simp [up_rd, fil_rd]; exact ((zup_nj (by decide)).trans ((zup_nj (by decide)).trans m0)))) ?_
    refine r_push zi_243_331 rfl ?_
    refine r_b0 zi_243_332 rfl ?_
    refine r_ast zi_243_333 rfl 0 ca_196 rfl (by decide) ?_
    refine r_il1 zi_243_334 rfl ?_
    refine r_retI zi_243_335 rfl ?_
    exact ⟨_, rfl, hq _ hF.put.put.put (zNj_v (v := 0) hn18 hV ht ht24 hj)⟩
  | succ m ih =>
    intro i τ hi hF hj
    have m120 : τ 196 120 = nI t := (hj.2.1 120 (by decide)).trans (hV.2.2.2.2.1.1.trans ht)
    have m121 : τ 196 (121 + i) = τ0 196 (121 + i) := hj.2.2.2 i (by omega) (by omega)
    by_cases e : i < t
    · refine r_il2 zi_243_241 rfl ?_
      refine r_push zi_243_242 rfl ?_
      refine n_ic3 (i := i) (j := 24) zi_243_244 rfl (by omega) (by omega) (fun c => absurd c (by omega)) (fun _ => ?_)
      refine r_al0 zi_243_247 rfl ?_
      refine q_getR zi_243_248 rfl cf_195_1 ?_
      refine r_push zi_243_251 rfl ?_
      refine r_il2 zi_243_254 rfl ?_
      refine r_b0 zi_243_255 rfl ?_
      rw [show (146 + nI i : Int32) = nI (146 + i) from nI_add _ _]
      refine r_il2 zi_243_256 rfl ?_
      refine r_al0 zi_243_257 rfl ?_
      refine q_getR zi_243_258 rfl cf_195_1 ?_
      refine r_push zi_243_261 rfl ?_
      refine r_alde zi_243_263 rfl 120 ca_196 rfl (by decide) (u := nI t) (by first | exact m120 | ((repeat (first | rw [zup_ne (by first | decide | omega)] | rw [zup_nj (by first | decide | omega)] | rw [fil_ne (by first | decide | omega)])) <;> exact m120) | (simp [up_rd, fil_rd]; exact m120)) ?_
      refine n_ic3 (i := i) (j := t) zi_243_264 rfl (by omega) (by omega) (fun c => absurd c (by omega)) (fun _ => ?_)
      refine r_al0 zi_243_267 rfl ?_
      refine q_getR zi_243_268 rfl cf_195_1 ?_
      refine r_push zi_243_271 rfl ?_
      refine r_il2 zi_243_273 rfl ?_
      refine r_b0 zi_243_274 rfl ?_
      rw [show (121 + nI i : Int32) = nI (121 + i) from nI_add _ _]
      refine r_alde zi_243_275 rfl (121 + i) ca_196 (by first | rfl | (simp only [zI_add, zI_mul] <;> rfl)) (by first | omega | decide) (u := τ0 196 (121 + i)) (by first | exact m121 | ((repeat (first | rw [zup_ne (by first | decide | omega)] | rw [zup_nj (by first | decide | omega)] | rw [fil_ne (by first | decide | omega)])) <;> exact m121) | (simp [up_rd, fil_rd]; exact m121)) ?_
      refine r_goto zi_243_276 rfl ?_
      refine r_ast zi_243_280 rfl (146 + i) ca_196 (by first | rfl | (simp only [zI_add, zI_mul] <;> rfl)) (by first | omega | decide) ?_
      refine r_al0 zi_243_281 rfl ?_
      refine q_getR zi_243_282 rfl cf_195_1 ?_
      refine r_push zi_243_285 rfl ?_
      refine r_il2 zi_243_287 rfl ?_
      refine r_b0 zi_243_288 rfl ?_
      rw [show (121 + nI i : Int32) = nI (121 + i) from nI_add _ _]
      refine r_push zi_243_289 rfl ?_
      refine r_ast zi_243_290 rfl (121 + i) ca_196 (by first | rfl | (simp only [zI_add, zI_mul] <;> rfl)) (by first | omega | decide) ?_
      refine r_in2 zi_243_291 rfl ?_
      rw [show (nI i + 1 : Int32) = nI (i + 1) from nI_add _ _]
      refine r_goto zi_243_294 rfl ?_
      exact ih (i + 1) _ (by omega) hF.put.put (zNj_s hj (by omega) (fun _ => rfl))
    · refine r_il2 zi_243_241 rfl ?_
      refine r_push zi_243_242 rfl ?_
      refine n_ic3 (i := i) (j := 24) zi_243_244 rfl (by omega) (by omega) (fun c => absurd c (by omega)) (fun _ => ?_)
      refine r_al0 zi_243_247 rfl ?_
      refine q_getR zi_243_248 rfl cf_195_1 ?_
      refine r_push zi_243_251 rfl ?_
      refine r_il2 zi_243_254 rfl ?_
      refine r_b0 zi_243_255 rfl ?_
      rw [show (146 + nI i : Int32) = nI (146 + i) from nI_add _ _]
      refine r_il2 zi_243_256 rfl ?_
      refine r_al0 zi_243_257 rfl ?_
      refine q_getR zi_243_258 rfl cf_195_1 ?_
      refine r_push zi_243_261 rfl ?_
      refine r_alde zi_243_263 rfl 120 ca_196 rfl (by decide) (u := nI t) (by first | exact m120 | ((repeat (first | rw [zup_ne (by first | decide | omega)] | rw [zup_nj (by first | decide | omega)] | rw [fil_ne (by first | decide | omega)])) <;> exact m120) | (simp [up_rd, fil_rd]; exact m120)) ?_
      refine n_ic3 (i := i) (j := t) zi_243_264 rfl (by omega) (by omega) (fun _ => ?_) (fun c => absurd c (by omega))
      refine r_push zi_243_279 rfl ?_
      refine r_ast zi_243_280 rfl (146 + i) ca_196 (by first | rfl | (simp only [zI_add, zI_mul] <;> rfl)) (by first | omega | decide) ?_
      refine r_al0 zi_243_281 rfl ?_
      refine q_getR zi_243_282 rfl cf_195_1 ?_
      refine r_push zi_243_285 rfl ?_
      refine r_il2 zi_243_287 rfl ?_
      refine r_b0 zi_243_288 rfl ?_
      rw [show (121 + nI i : Int32) = nI (121 + i) from nI_add _ _]
      refine r_push zi_243_289 rfl ?_
      refine r_ast zi_243_290 rfl (121 + i) ca_196 (by first | rfl | (simp only [zI_add, zI_mul] <;> rfl)) (by first | omega | decide) ?_
      refine r_in2 zi_243_291 rfl ?_
      rw [show (nI i + 1 : Int32) = nI (i + 1) from nI_add _ _]
      refine r_goto zi_243_294 rfl ?_
      exact ih (i + 1) _ (by omega) hF.put.put (zNj_s hj (by omega) (fun z => absurd z e))
theorem zNj_0 {τ0 : zS} {t : Nat} : zNj τ0 t 0 τ0 := ⟨fun _ _ _ => rfl, fun _ _ => rfl, fun j hj => absurd hj (by omega), fun _ _ _ => rfl⟩

