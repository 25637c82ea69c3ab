/-! THE LAW: a case each -/
theorem lw_in {k i L : Nat} (hi : i < 6) (hk : k + 6 ≤ L) (hL : L ≤ 3072) : vp_in (nI k + nI i) L := by
  rw [nI_add]
  exact vp_in_nI (by omega) (by omega)
theorem zwl_0 {σ : zS} : ∃ fs, (zwl σ)[0]? = some (.inr (.inr (11, fs))) := ⟨_, rfl⟩
theorem zwl_195 {σ : zS} : ∃ fs, (zwl σ)[195]? = some (.inr (.inr (12, fs))) := ⟨_, rfl⟩
set_option maxRecDepth 100000 in
theorem lk_0 {p : Program} {l : Launch} {e : Env} {s : State} {m : MethodId} {below : List Frame} {meth : Method} {c : Code} {H : Heap} {locs : List Loc} {cells slots : Nat} {Q : State → Prop} {ls : Array Slot} {D : va_G} {cI cD : ClassId} {aS aV b L k : Nat} {xs : Nat → Int32} {σ : zS} (F : LFx p s m meth c b L xs D cI cD aS aV) (hI : INV σ) (hP : zHP s.heap.size aS D cI cD (zwl σ) H) (hS : va_S (fun q => s.heap.size ≤ q) s.heap H locs) (hl : lv_has ls 4 [(0, .ref b), (1, .ref (s.heap.size + 0)), (2, .ref (s.heap.size + 195)), (3, .int (nI k))]) (hk : k + 6 ≤ L) (hL : L ≤ 3072) (hc : cells ≤ 600000) (hs : slots ≤ 7302250) (kk : ∀ (υ : zS) (H1 : Heap) (locs1 : List Loc), INV υ → zHP s.heap.size aS D cI cD (zwl υ) H1 → va_S (fun q => s.heap.size ≤ q) s.heap H1 locs1 → W p l e room_1 s m #[Value.ref b] below meth c H1 locs1 cells slots Q (F0 m 1355 ls [])) : W p l e room_1 s m #[Value.ref b] below meth c H locs cells slots Q (F0 m 188 ls []) := by
  obtain ⟨hx, hb, hr, hml, hown, hts, hX, hbl, hlocks, hgv⟩ := F.1
  have hbA : ¬ (fun q : Nat => s.heap.size ≤ q) b := Nat.not_le.mpr hbl
  refine lv_aload_n hx hb dL_188 rfl (lv_at hl 1 rfl) ?_
  refine lv_aload_n hx hb dL_189 rfl (lv_at hl 0 rfl) ?_
  refine lv_iload_n hx hb dL_190 rfl (lv_at hl 3 rfl) ?_
  refine lv_iconst (v := nI 1) hx hb dL_191 (by decide) ?_
  refine lv_iadd hx hb dL_192 ?_
  refine va_sld hx hb hX hbl hbA hS (lw_in (i := 1) (by decide) hk hL) dL_193 ?_
  obtain ⟨f0, hf0⟩ := zwl_0 (σ := σ)
  refine lcallV (idx := 13) (a := 121) (r := 0) (as' := [.int (xs (nI k + nI 1).toNatClampNeg)]) (rest := []) F hP hS hl.1 (c_state σ hI) (by decide) rfl rfl (by decide +kernel) dL_194 rfl (Nat.le_of_ble_eq_true rfl) hf0 rfl (Nat.le_of_ble_eq_true rfl) hc hs (fun v τ hv H1 locs1 hP1 hS1 => ?_)
  refine lv_aload_n hx hb dL_197 rfl (lv_at hl 2 rfl) ?_
  refine lv_aload_n hx hb dL_198 rfl (lv_at hl 0 rfl) ?_
  refine lv_iload_n hx hb dL_199 rfl (lv_at hl 3 rfl) ?_
  refine lv_iconst (v := nI 1) hx hb dL_200 (by decide) ?_
  refine lv_iadd hx hb dL_201 ?_
  refine va_sld hx hb hX hbl hbA hS1 (lw_in (i := 1) (by decide) hk hL) dL_202 ?_
  obtain ⟨f1, hf1⟩ := zwl_195 (σ := τ)
  refine lcallV (idx := 17) (a := 175) (r := 195) (as' := [.int (xs (nI k + nI 1).toNatClampNeg)]) (rest := [.int v]) F hP1 hS1 hl.1 hv (by decide) rfl rfl (by decide +kernel) dL_203 rfl (Nat.le_of_ble_eq_true rfl) hf1 rfl (Nat.le_of_ble_eq_true rfl) hc hs (fun w υ hw H2 locs2 hP2 hS2 => ?_)
  exact lv_icmp_eq (tgt := 1355) hx hb dL_206 (by decide) (fun _ => kk υ H2 locs2 hw.2 hP2 hS2) (fun z => absurd hw.1.symm z)
set_option maxRecDepth 100000 in
theorem lk_1 {p : Program} {l : Launch} {e : Env} {s : State} {m : MethodId} {below : List Frame} {meth : Method} {c : Code} {H : Heap} {locs : List Loc} {cells slots : Nat} {Q : State → Prop} {ls : Array Slot} {D : va_G} {cI cD : ClassId} {aS aV b L k : Nat} {xs : Nat → Int32} {σ : zS} (F : LFx p s m meth c b L xs D cI cD aS aV) (hI : INV σ) (hP : zHP s.heap.size aS D cI cD (zwl σ) H) (hS : va_S (fun q => s.heap.size ≤ q) s.heap H locs) (hl : lv_has ls 4 [(0, .ref b), (1, .ref (s.heap.size + 0)), (2, .ref (s.heap.size + 195)), (3, .int (nI k))]) (hk : k + 6 ≤ L) (hL : L ≤ 3072) (hc : cells ≤ 600000) (hs : slots ≤ 7302250) (kk : ∀ (υ : zS) (H1 : Heap) (locs1 : List Loc), INV υ → zHP s.heap.size aS D cI cD (zwl υ) H1 → va_S (fun q => s.heap.size ≤ q) s.heap H1 locs1 → W p l e room_1 s m #[Value.ref b] below meth c H1 locs1 cells slots Q (F0 m 1355 ls [])) : W p l e room_1 s m #[Value.ref b] below meth c H locs cells slots Q (F0 m 211 ls []) := by
  obtain ⟨hx, hb, hr, hml, hown, hts, hX, hbl, hlocks, hgv⟩ := F.1
  have hbA : ¬ (fun q : Nat => s.heap.size ≤ q) b := Nat.not_le.mpr hbl
  refine lv_aload_n hx hb dL_211 rfl (lv_at hl 1 rfl) ?_
  refine lv_aload_n hx hb dL_212 rfl (lv_at hl 0 rfl) ?_
  refine lv_iload_n hx hb dL_213 rfl (lv_at hl 3 rfl) ?_
  refine lv_iconst (v := nI 1) hx hb dL_214 (by decide) ?_
  refine lv_iadd hx hb dL_215 ?_
  refine va_sld hx hb hX hbl hbA hS (lw_in (i := 1) (by decide) hk hL) dL_216 ?_
  refine lv_aload_n hx hb dL_217 rfl (lv_at hl 0 rfl) ?_
  refine lv_iload_n hx hb dL_218 rfl (lv_at hl 3 rfl) ?_
  refine lv_iconst (v := nI 2) hx hb dL_219 (by decide) ?_
  refine lv_iadd hx hb dL_220 ?_
  refine va_sld hx hb hX hbl hbA hS (lw_in (i := 2) (by decide) hk hL) dL_221 ?_
  obtain ⟨f0, hf0⟩ := zwl_0 (σ := σ)
  refine lcallV (idx := 18) (a := 122) (r := 0) (as' := [.int (xs (nI k + nI 1).toNatClampNeg), .int (xs (nI k + nI 2).toNatClampNeg)]) (rest := []) F hP hS hl.1 (c_subject σ hI) (by decide) rfl rfl (by decide +kernel) dL_222 rfl (Nat.le_of_ble_eq_true rfl) hf0 rfl (Nat.le_of_ble_eq_true rfl) hc hs (fun v τ hv H1 locs1 hP1 hS1 => ?_)
  refine lv_aload_n hx hb dL_225 rfl (lv_at hl 2 rfl) ?_
  refine lv_aload_n hx hb dL_226 rfl (lv_at hl 0 rfl) ?_
  refine lv_iload_n hx hb dL_227 rfl (lv_at hl 3 rfl) ?_
  refine lv_iconst (v := nI 1) hx hb dL_228 (by decide) ?_
  refine lv_iadd hx hb dL_229 ?_
  refine va_sld hx hb hX hbl hbA hS1 (lw_in (i := 1) (by decide) hk hL) dL_230 ?_
  refine lv_aload_n hx hb dL_231 rfl (lv_at hl 0 rfl) ?_
  refine lv_iload_n hx hb dL_232 rfl (lv_at hl 3 rfl) ?_
  refine lv_iconst (v := nI 2) hx hb dL_233 (by decide) ?_
  refine lv_iadd hx hb dL_234 ?_
  refine va_sld hx hb hX hbl hbA hS1 (lw_in (i := 2) (by decide) hk hL) dL_235 ?_
  obtain ⟨f1, hf1⟩ := zwl_195 (σ := τ)
  refine lcallV (idx := 22) (a := 182) (r := 195) (as' := [.int (xs (nI k + nI 1).toNatClampNeg), .int (xs (nI k + nI 2).toNatClampNeg)]) (rest := [.int v]) F hP1 hS1 hl.1 hv (by decide) rfl rfl (by decide +kernel) dL_236 rfl (Nat.le_of_ble_eq_true rfl) hf1 rfl (Nat.le_of_ble_eq_true rfl) hc hs (fun w υ hw H2 locs2 hP2 hS2 => ?_)
  exact lv_icmp_eq (tgt := 1355) hx hb dL_239 (by decide) (fun _ => kk υ H2 locs2 hw.2 hP2 hS2) (fun z => absurd hw.1.symm z)
set_option maxRecDepth 100000 in
theorem lk_2 {p : Program} {l : Launch} {e : Env} {s : State} {m : MethodId} {below : List Frame} {meth : Method} {c : Code} {H : Heap} {locs : List Loc} {cells slots : Nat} {Q : State → Prop} {ls : Array Slot} {D : va_G} {cI cD : ClassId} {aS aV b L k : Nat} {xs : Nat → Int32} {σ : zS} (F : LFx p s m meth c b L xs D cI cD aS aV) (hI : INV σ) (hP : zHP s.heap.size aS D cI cD (zwl σ) H) (hS : va_S (fun q => s.heap.size ≤ q) s.heap H locs) (hl : lv_has ls 4 [(0, .ref b), (1, .ref (s.heap.size + 0)), (2, .ref (s.heap.size + 195)), (3, .int (nI k))]) (hk : k + 6 ≤ L) (hL : L ≤ 3072) (hc : cells ≤ 600000) (hs : slots ≤ 7302250) (kk : ∀ (υ : zS) (H1 : Heap) (locs1 : List Loc), INV υ → zHP s.heap.size aS D cI cD (zwl υ) H1 → va_S (fun q => s.heap.size ≤ q) s.heap H1 locs1 → W p l e room_1 s m #[Value.ref b] below meth c H1 locs1 cells slots Q (F0 m 1355 ls [])) : W p l e room_1 s m #[Value.ref b] below meth c H locs cells slots Q (F0 m 244 ls []) := by
  obtain ⟨hx, hb, hr, hml, hown, hts, hX, hbl, hlocks, hgv⟩ := F.1
  have hbA : ¬ (fun q : Nat => s.heap.size ≤ q) b := Nat.not_le.mpr hbl
  refine lv_aload_n hx hb dL_244 rfl (lv_at hl 1 rfl) ?_
  refine lv_aload_n hx hb dL_245 rfl (lv_at hl 0 rfl) ?_
  refine lv_iload_n hx hb dL_246 rfl (lv_at hl 3 rfl) ?_
  refine lv_iconst (v := nI 1) hx hb dL_247 (by decide) ?_
  refine lv_iadd hx hb dL_248 ?_
  refine va_sld hx hb hX hbl hbA hS (lw_in (i := 1) (by decide) hk hL) dL_249 ?_
  refine lv_aload_n hx hb dL_250 rfl (lv_at hl 0 rfl) ?_
  refine lv_iload_n hx hb dL_251 rfl (lv_at hl 3 rfl) ?_
  refine lv_iconst (v := nI 2) hx hb dL_252 (by decide) ?_
  refine lv_iadd hx hb dL_253 ?_
  refine va_sld hx hb hX hbl hbA hS (lw_in (i := 2) (by decide) hk hL) dL_254 ?_
  refine lv_aload_n hx hb dL_255 rfl (lv_at hl 0 rfl) ?_
  refine lv_iload_n hx hb dL_256 rfl (lv_at hl 3 rfl) ?_
  refine lv_iconst (v := nI 3) hx hb dL_257 (by decide) ?_
  refine lv_iadd hx hb dL_258 ?_
  refine va_sld hx hb hX hbl hbA hS (lw_in (i := 3) (by decide) hk hL) dL_259 ?_
  obtain ⟨f0, hf0⟩ := zwl_0 (σ := σ)
  refine lcallV (idx := 23) (a := 123) (r := 0) (as' := [.int (xs (nI k + nI 1).toNatClampNeg), .int (xs (nI k + nI 2).toNatClampNeg), .int (xs (nI k + nI 3).toNatClampNeg)]) (rest := []) F hP hS hl.1 (c_set σ hI) (by decide) rfl rfl (by decide +kernel) dL_260 rfl (Nat.le_of_ble_eq_true rfl) hf0 rfl (Nat.le_of_ble_eq_true rfl) hc hs (fun v τ hv H1 locs1 hP1 hS1 => ?_)
  refine lv_aload_n hx hb dL_263 rfl (lv_at hl 2 rfl) ?_
  refine lv_aload_n hx hb dL_264 rfl (lv_at hl 0 rfl) ?_
  refine lv_iload_n hx hb dL_265 rfl (lv_at hl 3 rfl) ?_
  refine lv_iconst (v := nI 1) hx hb dL_266 (by decide) ?_
  refine lv_iadd hx hb dL_267 ?_
  refine va_sld hx hb hX hbl hbA hS1 (lw_in (i := 1) (by decide) hk hL) dL_268 ?_
  refine lv_aload_n hx hb dL_269 rfl (lv_at hl 0 rfl) ?_
  refine lv_iload_n hx hb dL_270 rfl (lv_at hl 3 rfl) ?_
  refine lv_iconst (v := nI 2) hx hb dL_271 (by decide) ?_
  refine lv_iadd hx hb dL_272 ?_
  refine va_sld hx hb hX hbl hbA hS1 (lw_in (i := 2) (by decide) hk hL) dL_273 ?_
  refine lv_aload_n hx hb dL_274 rfl (lv_at hl 0 rfl) ?_
  refine lv_iload_n hx hb dL_275 rfl (lv_at hl 3 rfl) ?_
  refine lv_iconst (v := nI 3) hx hb dL_276 (by decide) ?_
  refine lv_iadd hx hb dL_277 ?_
  refine va_sld hx hb hX hbl hbA hS1 (lw_in (i := 3) (by decide) hk hL) dL_278 ?_
  obtain ⟨f1, hf1⟩ := zwl_195 (σ := τ)
  refine lcallV (idx := 27) (a := 184) (r := 195) (as' := [.int (xs (nI k + nI 1).toNatClampNeg), .int (xs (nI k + nI 2).toNatClampNeg), .int (xs (nI k + nI 3).toNatClampNeg)]) (rest := [.int v]) F hP1 hS1 hl.1 hv (by decide) rfl rfl (by decide +kernel) dL_279 rfl (Nat.le_of_ble_eq_true rfl) hf1 rfl (Nat.le_of_ble_eq_true rfl) hc hs (fun w υ hw H2 locs2 hP2 hS2 => ?_)
  exact lv_icmp_eq (tgt := 1355) hx hb dL_282 (by decide) (fun _ => kk υ H2 locs2 hw.2 hP2 hS2) (fun z => absurd hw.1.symm z)
set_option maxRecDepth 100000 in
theorem lk_3 {p : Program} {l : Launch} {e : Env} {s : State} {m : MethodId} {below : List Frame} {meth : Method} {c : Code} {H : Heap} {locs : List Loc} {cells slots : Nat} {Q : State → Prop} {ls : Array Slot} {D : va_G} {cI cD : ClassId} {aS aV b L k : Nat} {xs : Nat → Int32} {σ : zS} (F : LFx p s m meth c b L xs D cI cD aS aV) (hI : INV σ) (hP : zHP s.heap.size aS D cI cD (zwl σ) H) (hS : va_S (fun q => s.heap.size ≤ q) s.heap H locs) (hl : lv_has ls 4 [(0, .ref b), (1, .ref (s.heap.size + 0)), (2, .ref (s.heap.size + 195)), (3, .int (nI k))]) (hk : k + 6 ≤ L) (hL : L ≤ 3072) (hc : cells ≤ 600000) (hs : slots ≤ 7302250) (kk : ∀ (υ : zS) (H1 : Heap) (locs1 : List Loc), INV υ → zHP s.heap.size aS D cI cD (zwl υ) H1 → va_S (fun q => s.heap.size ≤ q) s.heap H1 locs1 → W p l e room_1 s m #[Value.ref b] below meth c H1 locs1 cells slots Q (F0 m 1355 ls [])) : W p l e room_1 s m #[Value.ref b] below meth c H locs cells slots Q (F0 m 287 ls []) := by
  obtain ⟨hx, hb, hr, hml, hown, hts, hX, hbl, hlocks, hgv⟩ := F.1
  have hbA : ¬ (fun q : Nat => s.heap.size ≤ q) b := Nat.not_le.mpr hbl
  by_cases hz : xs (nI k + nI 4).toNatClampNeg = 0
  · refine lv_aload_n hx hb dL_287 rfl (lv_at hl 1 rfl) ?_
    refine lv_aload_n hx hb dL_288 rfl (lv_at hl 0 rfl) ?_
    refine lv_iload_n hx hb dL_289 rfl (lv_at hl 3 rfl) ?_
    refine lv_iconst (v := nI 1) hx hb dL_290 (by decide) ?_
    refine lv_iadd hx hb dL_291 ?_
    refine va_sld hx hb hX hbl hbA hS (lw_in (i := 1) (by decide) hk hL) dL_292 ?_
    refine lv_aload_n hx hb dL_293 rfl (lv_at hl 0 rfl) ?_
    refine lv_iload_n hx hb dL_294 rfl (lv_at hl 3 rfl) ?_
    refine lv_iconst (v := nI 2) hx hb dL_295 (by decide) ?_
    refine lv_iadd hx hb dL_296 ?_
    refine va_sld hx hb hX hbl hbA hS (lw_in (i := 2) (by decide) hk hL) dL_297 ?_
    refine lv_aload_n hx hb dL_298 rfl (lv_at hl 0 rfl) ?_
    refine lv_iload_n hx hb dL_299 rfl (lv_at hl 3 rfl) ?_
    refine lv_iconst (v := nI 3) hx hb dL_300 (by decide) ?_
    refine lv_iadd hx hb dL_301 ?_
    refine va_sld hx hb hX hbl hbA hS (lw_in (i := 3) (by decide) hk hL) dL_302 ?_
    refine lv_aload_n hx hb dL_303 rfl (lv_at hl 0 rfl) ?_
    refine lv_iload_n hx hb dL_304 rfl (lv_at hl 3 rfl) ?_
    refine lv_iconst (v := nI 4) hx hb dL_305 (by decide) ?_
    refine lv_iadd hx hb dL_306 ?_
    refine va_sld hx hb hX hbl hbA hS (lw_in (i := 4) (by decide) hk hL) dL_307 ?_
    refine lv_if_eq (tgt := 315) hx hb dL_308 (by decide) (fun _ => ?_) (fun z => absurd hz z)
    refine lv_iconst (v := 0) hx hb dL_315 (by decide) ?_
    obtain ⟨f0, hf0⟩ := zwl_0 (σ := σ)
    refine lcallV (idx := 28) (a := 124) (r := 0) (as' := [.int (xs (nI k + nI 1).toNatClampNeg), .int (xs (nI k + nI 2).toNatClampNeg), .int (xs (nI k + nI 3).toNatClampNeg), .int 0]) (rest := []) F hP hS hl.1 (c_order (g := 0) (Or.inl rfl) σ hI) (by decide) rfl rfl (by decide +kernel) dL_316 rfl (Nat.le_of_ble_eq_true rfl) hf0 rfl (Nat.le_of_ble_eq_true rfl) hc hs (fun v τ hv H1 locs1 hP1 hS1 => ?_)
    refine lv_aload_n hx hb dL_319 rfl (lv_at hl 2 rfl) ?_
    refine lv_aload_n hx hb dL_320 rfl (lv_at hl 0 rfl) ?_
    refine lv_iload_n hx hb dL_321 rfl (lv_at hl 3 rfl) ?_
    refine lv_iconst (v := nI 1) hx hb dL_322 (by decide) ?_
    refine lv_iadd hx hb dL_323 ?_
    refine va_sld hx hb hX hbl hbA hS1 (lw_in (i := 1) (by decide) hk hL) dL_324 ?_
    refine lv_aload_n hx hb dL_325 rfl (lv_at hl 0 rfl) ?_
    refine lv_iload_n hx hb dL_326 rfl (lv_at hl 3 rfl) ?_
    refine lv_iconst (v := nI 2) hx hb dL_327 (by decide) ?_
    refine lv_iadd hx hb dL_328 ?_
    refine va_sld hx hb hX hbl hbA hS1 (lw_in (i := 2) (by decide) hk hL) dL_329 ?_
    refine lv_aload_n hx hb dL_330 rfl (lv_at hl 0 rfl) ?_
    refine lv_iload_n hx hb dL_331 rfl (lv_at hl 3 rfl) ?_
    refine lv_iconst (v := nI 3) hx hb dL_332 (by decide) ?_
    refine lv_iadd hx hb dL_333 ?_
    refine va_sld hx hb hX hbl hbA hS1 (lw_in (i := 3) (by decide) hk hL) dL_334 ?_
    refine lv_aload_n hx hb dL_335 rfl (lv_at hl 0 rfl) ?_
    refine lv_iload_n hx hb dL_336 rfl (lv_at hl 3 rfl) ?_
    refine lv_iconst (v := nI 4) hx hb dL_337 (by decide) ?_
    refine lv_iadd hx hb dL_338 ?_
    refine va_sld hx hb hX hbl hbA hS1 (lw_in (i := 4) (by decide) hk hL) dL_339 ?_
    refine lv_if_eq (tgt := 347) hx hb dL_340 (by decide) (fun _ => ?_) (fun z => absurd hz z)
    refine lv_iconst (v := 0) hx hb dL_347 (by decide) ?_
    obtain ⟨f1, hf1⟩ := zwl_195 (σ := τ)
    refine lcallV (idx := 32) (a := 235) (r := 195) (as' := [.int (xs (nI k + nI 1).toNatClampNeg), .int (xs (nI k + nI 2).toNatClampNeg), .int (xs (nI k + nI 3).toNatClampNeg), .int 0]) (rest := [.int v]) F hP1 hS1 hl.1 hv (by decide) rfl rfl (by decide +kernel) dL_348 rfl (Nat.le_of_ble_eq_true rfl) hf1 rfl (Nat.le_of_ble_eq_true rfl) hc hs (fun w υ hw H2 locs2 hP2 hS2 => ?_)
    exact lv_icmp_eq (tgt := 1355) hx hb dL_351 (by decide) (fun _ => kk υ H2 locs2 hw.2 hP2 hS2) (fun z => absurd hw.1.symm z)
  · refine lv_aload_n hx hb dL_287 rfl (lv_at hl 1 rfl) ?_
    refine lv_aload_n hx hb dL_288 rfl (lv_at hl 0 rfl) ?_
    refine lv_iload_n hx hb dL_289 rfl (lv_at hl 3 rfl) ?_
    refine lv_iconst (v := nI 1) hx hb dL_290 (by decide) ?_
    refine lv_iadd hx hb dL_291 ?_
    refine va_sld hx hb hX hbl hbA hS (lw_in (i := 1) (by decide) hk hL) dL_292 ?_
    refine lv_aload_n hx hb dL_293 rfl (lv_at hl 0 rfl) ?_
    refine lv_iload_n hx hb dL_294 rfl (lv_at hl 3 rfl) ?_
    refine lv_iconst (v := nI 2) hx hb dL_295 (by decide) ?_
    refine lv_iadd hx hb dL_296 ?_
    refine va_sld hx hb hX hbl hbA hS (lw_in (i := 2) (by decide) hk hL) dL_297 ?_
    refine lv_aload_n hx hb dL_298 rfl (lv_at hl 0 rfl) ?_
    refine lv_iload_n hx hb dL_299 rfl (lv_at hl 3 rfl) ?_
    refine lv_iconst (v := nI 3) hx hb dL_300 (by decide) ?_
    refine lv_iadd hx hb dL_301 ?_
    refine va_sld hx hb hX hbl hbA hS (lw_in (i := 3) (by decide) hk hL) dL_302 ?_
    refine lv_aload_n hx hb dL_303 rfl (lv_at hl 0 rfl) ?_
    refine lv_iload_n hx hb dL_304 rfl (lv_at hl 3 rfl) ?_
    refine lv_iconst (v := nI 4) hx hb dL_305 (by decide) ?_
    refine lv_iadd hx hb dL_306 ?_
    refine va_sld hx hb hX hbl hbA hS (lw_in (i := 4) (by decide) hk hL) dL_307 ?_
    refine lv_if_eq (tgt := 315) hx hb dL_308 (by decide) (fun z => absurd z hz) (fun _ => ?_)
    refine lv_iconst (v := 1) hx hb dL_311 (by decide) ?_
    refine lv_goto (tgt := 316) hx hb dL_312 (by decide) ?_
    obtain ⟨f0, hf0⟩ := zwl_0 (σ := σ)
    refine lcallV (idx := 28) (a := 124) (r := 0) (as' := [.int (xs (nI k + nI 1).toNatClampNeg), .int (xs (nI k + nI 2).toNatClampNeg), .int (xs (nI k + nI 3).toNatClampNeg), .int 1]) (rest := []) F hP hS hl.1 (c_order (g := 1) (Or.inr rfl) σ hI) (by decide) rfl rfl (by decide +kernel) dL_316 rfl (Nat.le_of_ble_eq_true rfl) hf0 rfl (Nat.le_of_ble_eq_true rfl) hc hs (fun v τ hv H1 locs1 hP1 hS1 => ?_)
    refine lv_aload_n hx hb dL_319 rfl (lv_at hl 2 rfl) ?_
    refine lv_aload_n hx hb dL_320 rfl (lv_at hl 0 rfl) ?_
    refine lv_iload_n hx hb dL_321 rfl (lv_at hl 3 rfl) ?_
    refine lv_iconst (v := nI 1) hx hb dL_322 (by decide) ?_
    refine lv_iadd hx hb dL_323 ?_
    refine va_sld hx hb hX hbl hbA hS1 (lw_in (i := 1) (by decide) hk hL) dL_324 ?_
    refine lv_aload_n hx hb dL_325 rfl (lv_at hl 0 rfl) ?_
    refine lv_iload_n hx hb dL_326 rfl (lv_at hl 3 rfl) ?_
    refine lv_iconst (v := nI 2) hx hb dL_327 (by decide) ?_
    refine lv_iadd hx hb dL_328 ?_
    refine va_sld hx hb hX hbl hbA hS1 (lw_in (i := 2) (by decide) hk hL) dL_329 ?_
    refine lv_aload_n hx hb dL_330 rfl (lv_at hl 0 rfl) ?_
    refine lv_iload_n hx hb dL_331 rfl (lv_at hl 3 rfl) ?_
    refine lv_iconst (v := nI 3) hx hb dL_332 (by decide) ?_
    refine lv_iadd hx hb dL_333 ?_
    refine va_sld hx hb hX hbl hbA hS1 (lw_in (i := 3) (by decide) hk hL) dL_334 ?_
    refine lv_aload_n hx hb dL_335 rfl (lv_at hl 0 rfl) ?_
    refine lv_iload_n hx hb dL_336 rfl (lv_at hl 3 rfl) ?_
    refine lv_iconst (v := nI 4) hx hb dL_337 (by decide) ?_
    refine lv_iadd hx hb dL_338 ?_
    refine va_sld hx hb hX hbl hbA hS1 (lw_in (i := 4) (by decide) hk hL) dL_339 ?_
    refine lv_if_eq (tgt := 347) hx hb dL_340 (by decide) (fun z => absurd z hz) (fun _ => ?_)
    refine lv_iconst (v := 1) hx hb dL_343 (by decide) ?_
    refine lv_goto (tgt := 348) hx hb dL_344 (by decide) ?_
    obtain ⟨f1, hf1⟩ := zwl_195 (σ := τ)
    refine lcallV (idx := 32) (a := 235) (r := 195) (as' := [.int (xs (nI k + nI 1).toNatClampNeg), .int (xs (nI k + nI 2).toNatClampNeg), .int (xs (nI k + nI 3).toNatClampNeg), .int 1]) (rest := [.int v]) F hP1 hS1 hl.1 hv (by decide) rfl rfl (by decide +kernel) dL_348 rfl (Nat.le_of_ble_eq_true rfl) hf1 rfl (Nat.le_of_ble_eq_true rfl) hc hs (fun w υ hw H2 locs2 hP2 hS2 => ?_)
    exact lv_icmp_eq (tgt := 1355) hx hb dL_351 (by decide) (fun _ => kk υ H2 locs2 hw.2 hP2 hS2) (fun z => absurd hw.1.symm z)
set_option maxRecDepth 100000 in
theorem lk_4 {p : Program} {l : Launch} {e : Env} {s : State} {m : MethodId} {below : List Frame} {meth : Method} {c : Code} {H : Heap} {locs : List Loc} {cells slots : Nat} {Q : State → Prop} {ls : Array Slot} {D : va_G} {cI cD : ClassId} {aS aV b L k : Nat} {xs : Nat → Int32} {σ : zS} (F : LFx p s m meth c b L xs D cI cD aS aV) (hI : INV σ) (hP : zHP s.heap.size aS D cI cD (zwl σ) H) (hS : va_S (fun q => s.heap.size ≤ q) s.heap H locs) (hl : lv_has ls 4 [(0, .ref b), (1, .ref (s.heap.size + 0)), (2, .ref (s.heap.size + 195)), (3, .int (nI k))]) (hk : k + 6 ≤ L) (hL : L ≤ 3072) (hc : cells ≤ 600000) (hs : slots ≤ 7302250) (kk : ∀ (υ : zS) (H1 : Heap) (locs1 : List Loc), INV υ → zHP s.heap.size aS D cI cD (zwl υ) H1 → va_S (fun q => s.heap.size ≤ q) s.heap H1 locs1 → W p l e room_1 s m #[Value.ref b] below meth c H1 locs1 cells slots Q (F0 m 1355 ls [])) : W p l e room_1 s m #[Value.ref b] below meth c H locs cells slots Q (F0 m 356 ls []) := by
  obtain ⟨hx, hb, hr, hml, hown, hts, hX, hbl, hlocks, hgv⟩ := F.1
  have hbA : ¬ (fun q : Nat => s.heap.size ≤ q) b := Nat.not_le.mpr hbl
  refine lv_aload_n hx hb dL_356 rfl (lv_at hl 1 rfl) ?_
  refine lv_aload_n hx hb dL_357 rfl (lv_at hl 0 rfl) ?_
  refine lv_iload_n hx hb dL_358 rfl (lv_at hl 3 rfl) ?_
  refine lv_iconst (v := nI 1) hx hb dL_359 (by decide) ?_
  refine lv_iadd hx hb dL_360 ?_
  refine va_sld hx hb hX hbl hbA hS (lw_in (i := 1) (by decide) hk hL) dL_361 ?_
  obtain ⟨f0, hf0⟩ := zwl_0 (σ := σ)
  refine lcallV (idx := 33) (a := 125) (r := 0) (as' := [.int (xs (nI k + nI 1).toNatClampNeg)]) (rest := []) F hP hS hl.1 (c_builds σ hI) (by decide) rfl rfl (by decide +kernel) dL_362 rfl (Nat.le_of_ble_eq_true rfl) hf0 rfl (Nat.le_of_ble_eq_true rfl) hc hs (fun v τ hv H1 locs1 hP1 hS1 => ?_)
  refine lv_aload_n hx hb dL_365 rfl (lv_at hl 2 rfl) ?_
  refine lv_aload_n hx hb dL_366 rfl (lv_at hl 0 rfl) ?_
  refine lv_iload_n hx hb dL_367 rfl (lv_at hl 3 rfl) ?_
  refine lv_iconst (v := nI 1) hx hb dL_368 (by decide) ?_
  refine lv_iadd hx hb dL_369 ?_
  refine va_sld hx hb hX hbl hbA hS1 (lw_in (i := 1) (by decide) hk hL) dL_370 ?_
  obtain ⟨f1, hf1⟩ := zwl_195 (σ := τ)
  refine lcallV (idx := 36) (a := 236) (r := 195) (as' := [.int (xs (nI k + nI 1).toNatClampNeg)]) (rest := [.int v]) F hP1 hS1 hl.1 hv (by decide) rfl rfl (by decide +kernel) dL_371 rfl (Nat.le_of_ble_eq_true rfl) hf1 rfl (Nat.le_of_ble_eq_true rfl) hc hs (fun w υ hw H2 locs2 hP2 hS2 => ?_)
  exact lv_icmp_eq (tgt := 1355) hx hb dL_374 (by decide) (fun _ => kk υ H2 locs2 hw.2 hP2 hS2) (fun z => absurd hw.1.symm z)
set_option maxRecDepth 100000 in
theorem lk_5 {p : Program} {l : Launch} {e : Env} {s : State} {m : MethodId} {below : List Frame} {meth : Method} {c : Code} {H : Heap} {locs : List Loc} {cells slots : Nat} {Q : State → Prop} {ls : Array Slot} {D : va_G} {cI cD : ClassId} {aS aV b L k : Nat} {xs : Nat → Int32} {σ : zS} (F : LFx p s m meth c b L xs D cI cD aS aV) (hI : INV σ) (hP : zHP s.heap.size aS D cI cD (zwl σ) H) (hS : va_S (fun q => s.heap.size ≤ q) s.heap H locs) (hl : lv_has ls 4 [(0, .ref b), (1, .ref (s.heap.size + 0)), (2, .ref (s.heap.size + 195)), (3, .int (nI k))]) (hk : k + 6 ≤ L) (hL : L ≤ 3072) (hc : cells ≤ 600000) (hs : slots ≤ 7302250) (kk : ∀ (υ : zS) (H1 : Heap) (locs1 : List Loc), INV υ → zHP s.heap.size aS D cI cD (zwl υ) H1 → va_S (fun q => s.heap.size ≤ q) s.heap H1 locs1 → W p l e room_1 s m #[Value.ref b] below meth c H1 locs1 cells slots Q (F0 m 1355 ls [])) : W p l e room_1 s m #[Value.ref b] below meth c H locs cells slots Q (F0 m 379 ls []) := by
  obtain ⟨hx, hb, hr, hml, hown, hts, hX, hbl, hlocks, hgv⟩ := F.1
  have hbA : ¬ (fun q : Nat => s.heap.size ≤ q) b := Nat.not_le.mpr hbl
  refine lv_aload_n hx hb dL_379 rfl (lv_at hl 1 rfl) ?_
  refine lv_aload_n hx hb dL_380 rfl (lv_at hl 0 rfl) ?_
  refine lv_iload_n hx hb dL_381 rfl (lv_at hl 3 rfl) ?_
  refine lv_iconst (v := nI 1) hx hb dL_382 (by decide) ?_
  refine lv_iadd hx hb dL_383 ?_
  refine va_sld hx hb hX hbl hbA hS (lw_in (i := 1) (by decide) hk hL) dL_384 ?_
  obtain ⟨f0, hf0⟩ := zwl_0 (σ := σ)
  refine lcallV (idx := 37) (a := 126) (r := 0) (as' := [.int (xs (nI k + nI 1).toNatClampNeg)]) (rest := []) F hP hS hl.1 (c_days σ hI) (by decide) rfl rfl (by decide +kernel) dL_385 rfl (Nat.le_of_ble_eq_true rfl) hf0 rfl (Nat.le_of_ble_eq_true rfl) hc hs (fun v τ hv H1 locs1 hP1 hS1 => ?_)
  refine lv_aload_n hx hb dL_388 rfl (lv_at hl 2 rfl) ?_
  refine lv_aload_n hx hb dL_389 rfl (lv_at hl 0 rfl) ?_
  refine lv_iload_n hx hb dL_390 rfl (lv_at hl 3 rfl) ?_
  refine lv_iconst (v := nI 1) hx hb dL_391 (by decide) ?_
  refine lv_iadd hx hb dL_392 ?_
  refine va_sld hx hb hX hbl hbA hS1 (lw_in (i := 1) (by decide) hk hL) dL_393 ?_
  obtain ⟨f1, hf1⟩ := zwl_195 (σ := τ)
  refine lcallV (idx := 40) (a := 244) (r := 195) (as' := [.int (xs (nI k + nI 1).toNatClampNeg)]) (rest := [.int v]) F hP1 hS1 hl.1 hv (by decide) rfl rfl (by decide +kernel) dL_394 rfl (Nat.le_of_ble_eq_true rfl) hf1 rfl (Nat.le_of_ble_eq_true rfl) hc hs (fun w υ hw H2 locs2 hP2 hS2 => ?_)
  exact lv_icmp_eq (tgt := 1355) hx hb dL_397 (by decide) (fun _ => kk υ H2 locs2 hw.2 hP2 hS2) (fun z => absurd hw.1.symm z)
set_option maxRecDepth 100000 in
theorem lk_6 {p : Program} {l : Launch} {e : Env} {s : State} {m : MethodId} {below : List Frame} {meth : Method} {c : Code} {H : Heap} {locs : List Loc} {cells slots : Nat} {Q : State → Prop} {ls : Array Slot} {D : va_G} {cI cD : ClassId} {aS aV b L k : Nat} {xs : Nat → Int32} {σ : zS} (F : LFx p s m meth c b L xs D cI cD aS aV) (hI : INV σ) (hP : zHP s.heap.size aS D cI cD (zwl σ) H) (hS : va_S (fun q => s.heap.size ≤ q) s.heap H locs) (hl : lv_has ls 4 [(0, .ref b), (1, .ref (s.heap.size + 0)), (2, .ref (s.heap.size + 195)), (3, .int (nI k))]) (hk : k + 6 ≤ L) (hL : L ≤ 3072) (hc : cells ≤ 600000) (hs : slots ≤ 7302250) (kk : ∀ (υ : zS) (H1 : Heap) (locs1 : List Loc), INV υ → zHP s.heap.size aS D cI cD (zwl υ) H1 → va_S (fun q => s.heap.size ≤ q) s.heap H1 locs1 → W p l e room_1 s m #[Value.ref b] below meth c H1 locs1 cells slots Q (F0 m 1355 ls [])) : W p l e room_1 s m #[Value.ref b] below meth c H locs cells slots Q (F0 m 402 ls []) := by
  obtain ⟨hx, hb, hr, hml, hown, hts, hX, hbl, hlocks, hgv⟩ := F.1
  have hbA : ¬ (fun q : Nat => s.heap.size ≤ q) b := Nat.not_le.mpr hbl
  refine lv_aload_n hx hb dL_402 rfl (lv_at hl 1 rfl) ?_
  refine lv_aload_n hx hb dL_403 rfl (lv_at hl 0 rfl) ?_
  refine lv_iload_n hx hb dL_404 rfl (lv_at hl 3 rfl) ?_
  refine lv_iconst (v := nI 1) hx hb dL_405 (by decide) ?_
  refine lv_iadd hx hb dL_406 ?_
  refine va_sld hx hb hX hbl hbA hS (lw_in (i := 1) (by decide) hk hL) dL_407 ?_
  refine lv_aload_n hx hb dL_408 rfl (lv_at hl 0 rfl) ?_
  refine lv_iload_n hx hb dL_409 rfl (lv_at hl 3 rfl) ?_
  refine lv_iconst (v := nI 2) hx hb dL_410 (by decide) ?_
  refine lv_iadd hx hb dL_411 ?_
  refine va_sld hx hb hX hbl hbA hS (lw_in (i := 2) (by decide) hk hL) dL_412 ?_
  refine lv_aload_n hx hb dL_413 rfl (lv_at hl 0 rfl) ?_
  refine lv_iload_n hx hb dL_414 rfl (lv_at hl 3 rfl) ?_
  refine lv_iconst (v := nI 3) hx hb dL_415 (by decide) ?_
  refine lv_iadd hx hb dL_416 ?_
  refine va_sld hx hb hX hbl hbA hS (lw_in (i := 3) (by decide) hk hL) dL_417 ?_
  refine lv_aload_n hx hb dL_418 rfl (lv_at hl 0 rfl) ?_
  refine lv_iload_n hx hb dL_419 rfl (lv_at hl 3 rfl) ?_
  refine lv_iconst (v := nI 4) hx hb dL_420 (by decide) ?_
  refine lv_iadd hx hb dL_421 ?_
  refine va_sld hx hb hX hbl hbA hS (lw_in (i := 4) (by decide) hk hL) dL_422 ?_
  refine lv_aload_n hx hb dL_423 rfl (lv_at hl 0 rfl) ?_
  refine lv_iload_n hx hb dL_424 rfl (lv_at hl 3 rfl) ?_
  refine lv_iconst (v := nI 5) hx hb dL_425 (by decide) ?_
  refine lv_iadd hx hb dL_426 ?_
  refine va_sld hx hb hX hbl hbA hS (lw_in (i := 5) (by decide) hk hL) dL_427 ?_
  obtain ⟨f0, hf0⟩ := zwl_0 (σ := σ)
  refine lcallV (idx := 41) (a := 127) (r := 0) (as' := [.int (xs (nI k + nI 1).toNatClampNeg), .int (xs (nI k + nI 2).toNatClampNeg), .int (xs (nI k + nI 3).toNatClampNeg), .int (xs (nI k + nI 4).toNatClampNeg), .int (xs (nI k + nI 5).toNatClampNeg)]) (rest := []) F hP hS hl.1 (c_feed σ hI) (by decide) rfl rfl (by decide +kernel) dL_428 rfl (Nat.le_of_ble_eq_true rfl) hf0 rfl (Nat.le_of_ble_eq_true rfl) hc hs (fun v τ hv H1 locs1 hP1 hS1 => ?_)
  refine lv_aload_n hx hb dL_431 rfl (lv_at hl 2 rfl) ?_
  refine lv_aload_n hx hb dL_432 rfl (lv_at hl 0 rfl) ?_
  refine lv_iload_n hx hb dL_433 rfl (lv_at hl 3 rfl) ?_
  refine lv_iconst (v := nI 1) hx hb dL_434 (by decide) ?_
  refine lv_iadd hx hb dL_435 ?_
  refine va_sld hx hb hX hbl hbA hS1 (lw_in (i := 1) (by decide) hk hL) dL_436 ?_
  refine lv_aload_n hx hb dL_437 rfl (lv_at hl 0 rfl) ?_
  refine lv_iload_n hx hb dL_438 rfl (lv_at hl 3 rfl) ?_
  refine lv_iconst (v := nI 2) hx hb dL_439 (by decide) ?_
  refine lv_iadd hx hb dL_440 ?_
  refine va_sld hx hb hX hbl hbA hS1 (lw_in (i := 2) (by decide) hk hL) dL_441 ?_
  refine lv_aload_n hx hb dL_442 rfl (lv_at hl 0 rfl) ?_
  refine lv_iload_n hx hb dL_443 rfl (lv_at hl 3 rfl) ?_
  refine lv_iconst (v := nI 3) hx hb dL_444 (by decide) ?_
  refine lv_iadd hx hb dL_445 ?_
  refine va_sld hx hb hX hbl hbA hS1 (lw_in (i := 3) (by decide) hk hL) dL_446 ?_
  refine lv_aload_n hx hb dL_447 rfl (lv_at hl 0 rfl) ?_
  refine lv_iload_n hx hb dL_448 rfl (lv_at hl 3 rfl) ?_
  refine lv_iconst (v := nI 4) hx hb dL_449 (by decide) ?_
  refine lv_iadd hx hb dL_450 ?_
  refine va_sld hx hb hX hbl hbA hS1 (lw_in (i := 4) (by decide) hk hL) dL_451 ?_
  refine lv_aload_n hx hb dL_452 rfl (lv_at hl 0 rfl) ?_
  refine lv_iload_n hx hb dL_453 rfl (lv_at hl 3 rfl) ?_
  refine lv_iconst (v := nI 5) hx hb dL_454 (by decide) ?_
  refine lv_iadd hx hb dL_455 ?_
  refine va_sld hx hb hX hbl hbA hS1 (lw_in (i := 5) (by decide) hk hL) dL_456 ?_
  obtain ⟨f1, hf1⟩ := zwl_195 (σ := τ)
  refine lcallV (idx := 45) (a := 186) (r := 195) (as' := [.int (xs (nI k + nI 1).toNatClampNeg), .int (xs (nI k + nI 2).toNatClampNeg), .int (xs (nI k + nI 3).toNatClampNeg), .int (xs (nI k + nI 4).toNatClampNeg), .int (xs (nI k + nI 5).toNatClampNeg)]) (rest := [.int v]) F hP1 hS1 hl.1 hv (by decide) rfl rfl (by decide +kernel) dL_457 rfl (Nat.le_of_ble_eq_true rfl) hf1 rfl (Nat.le_of_ble_eq_true rfl) hc hs (fun w υ hw H2 locs2 hP2 hS2 => ?_)
  exact lv_icmp_eq (tgt := 1355) hx hb dL_460 (by decide) (fun _ => kk υ H2 locs2 hw.2 hP2 hS2) (fun z => absurd hw.1.symm z)
set_option maxRecDepth 100000 in
theorem lk_7 {p : Program} {l : Launch} {e : Env} {s : State} {m : MethodId} {below : List Frame} {meth : Method} {c : Code} {H : Heap} {locs : List Loc} {cells slots : Nat} {Q : State → Prop} {ls : Array Slot} {D : va_G} {cI cD : ClassId} {aS aV b L k : Nat} {xs : Nat → Int32} {σ : zS} (F : LFx p s m meth c b L xs D cI cD aS aV) (hI : INV σ) (hP : zHP s.heap.size aS D cI cD (zwl σ) H) (hS : va_S (fun q => s.heap.size ≤ q) s.heap H locs) (hl : lv_has ls 4 [(0, .ref b), (1, .ref (s.heap.size + 0)), (2, .ref (s.heap.size + 195)), (3, .int (nI k))]) (hk : k + 6 ≤ L) (hL : L ≤ 3072) (hc : cells ≤ 600000) (hs : slots ≤ 7302250) (kk : ∀ (υ : zS) (H1 : Heap) (locs1 : List Loc), INV υ → zHP s.heap.size aS D cI cD (zwl υ) H1 → va_S (fun q => s.heap.size ≤ q) s.heap H1 locs1 → W p l e room_1 s m #[Value.ref b] below meth c H1 locs1 cells slots Q (F0 m 1355 ls [])) : W p l e room_1 s m #[Value.ref b] below meth c H locs cells slots Q (F0 m 465 ls []) := by
  obtain ⟨hx, hb, hr, hml, hown, hts, hX, hbl, hlocks, hgv⟩ := F.1
  have hbA : ¬ (fun q : Nat => s.heap.size ≤ q) b := Nat.not_le.mpr hbl
  refine lv_aload_n hx hb dL_465 rfl (lv_at hl 1 rfl) ?_
  refine lv_aload_n hx hb dL_466 rfl (lv_at hl 0 rfl) ?_
  refine lv_iload_n hx hb dL_467 rfl (lv_at hl 3 rfl) ?_
  refine lv_iconst (v := nI 1) hx hb dL_468 (by decide) ?_
  refine lv_iadd hx hb dL_469 ?_
  refine va_sld hx hb hX hbl hbA hS (lw_in (i := 1) (by decide) hk hL) dL_470 ?_
  obtain ⟨f0, hf0⟩ := zwl_0 (σ := σ)
  refine lcallV (idx := 46) (a := 128) (r := 0) (as' := [.int (xs (nI k + nI 1).toNatClampNeg)]) (rest := []) F hP hS hl.1 (c_end σ hI) (by decide) rfl rfl (by decide +kernel) dL_471 rfl (Nat.le_of_ble_eq_true rfl) hf0 rfl (Nat.le_of_ble_eq_true rfl) hc hs (fun v τ hv H1 locs1 hP1 hS1 => ?_)
  refine lv_aload_n hx hb dL_474 rfl (lv_at hl 2 rfl) ?_
  refine lv_aload_n hx hb dL_475 rfl (lv_at hl 0 rfl) ?_
  refine lv_iload_n hx hb dL_476 rfl (lv_at hl 3 rfl) ?_
  refine lv_iconst (v := nI 1) hx hb dL_477 (by decide) ?_
  refine lv_iadd hx hb dL_478 ?_
  refine va_sld hx hb hX hbl hbA hS1 (lw_in (i := 1) (by decide) hk hL) dL_479 ?_
  obtain ⟨f1, hf1⟩ := zwl_195 (σ := τ)
  refine lcallV (idx := 50) (a := 187) (r := 195) (as' := [.int (xs (nI k + nI 1).toNatClampNeg)]) (rest := [.int v]) F hP1 hS1 hl.1 hv (by decide) rfl rfl (by decide +kernel) dL_480 rfl (Nat.le_of_ble_eq_true rfl) hf1 rfl (Nat.le_of_ble_eq_true rfl) hc hs (fun w υ hw H2 locs2 hP2 hS2 => ?_)
  exact lv_icmp_eq (tgt := 1355) hx hb dL_483 (by decide) (fun _ => kk υ H2 locs2 hw.2 hP2 hS2) (fun z => absurd hw.1.symm z)
set_option maxRecDepth 100000 in
theorem lk_8 {p : Program} {l : Launch} {e : Env} {s : State} {m : MethodId} {below : List Frame} {meth : Method} {c : Code} {H : Heap} {locs : List Loc} {cells slots : Nat} {Q : State → Prop} {ls : Array Slot} {D : va_G} {cI cD : ClassId} {aS aV b L k : Nat} {xs : Nat → Int32} {σ : zS} (F : LFx p s m meth c b L xs D cI cD aS aV) (hI : INV σ) (hP : zHP s.heap.size aS D cI cD (zwl σ) H) (hS : va_S (fun q => s.heap.size ≤ q) s.heap H locs) (hl : lv_has ls 4 [(0, .ref b), (1, .ref (s.heap.size + 0)), (2, .ref (s.heap.size + 195)), (3, .int (nI k))]) (hk : k + 6 ≤ L) (hL : L ≤ 3072) (hc : cells ≤ 600000) (hs : slots ≤ 7302250) (kk : ∀ (υ : zS) (H1 : Heap) (locs1 : List Loc), INV υ → zHP s.heap.size aS D cI cD (zwl υ) H1 → va_S (fun q => s.heap.size ≤ q) s.heap H1 locs1 → W p l e room_1 s m #[Value.ref b] below meth c H1 locs1 cells slots Q (F0 m 1355 ls [])) : W p l e room_1 s m #[Value.ref b] below meth c H locs cells slots Q (F0 m 488 ls []) := by
  obtain ⟨hx, hb, hr, hml, hown, hts, hX, hbl, hlocks, hgv⟩ := F.1
  have hbA : ¬ (fun q : Nat => s.heap.size ≤ q) b := Nat.not_le.mpr hbl
  refine lv_aload_n hx hb dL_488 rfl (lv_at hl 1 rfl) ?_
  refine lv_aload_n hx hb dL_489 rfl (lv_at hl 0 rfl) ?_
  refine lv_iload_n hx hb dL_490 rfl (lv_at hl 3 rfl) ?_
  refine lv_iconst (v := nI 1) hx hb dL_491 (by decide) ?_
  refine lv_iadd hx hb dL_492 ?_
  refine va_sld hx hb hX hbl hbA hS (lw_in (i := 1) (by decide) hk hL) dL_493 ?_
  obtain ⟨f0, hf0⟩ := zwl_0 (σ := σ)
  refine lcallV (idx := 51) (a := 129) (r := 0) (as' := [.int (xs (nI k + nI 1).toNatClampNeg)]) (rest := []) F hP hS hl.1 (c_text σ hI) (by decide) rfl rfl (by decide +kernel) dL_494 rfl (Nat.le_of_ble_eq_true rfl) hf0 rfl (Nat.le_of_ble_eq_true rfl) hc hs (fun v τ hv H1 locs1 hP1 hS1 => ?_)
  refine lv_aload_n hx hb dL_497 rfl (lv_at hl 2 rfl) ?_
  refine lv_aload_n hx hb dL_498 rfl (lv_at hl 0 rfl) ?_
  refine lv_iload_n hx hb dL_499 rfl (lv_at hl 3 rfl) ?_
  refine lv_iconst (v := nI 1) hx hb dL_500 (by decide) ?_
  refine lv_iadd hx hb dL_501 ?_
  refine va_sld hx hb hX hbl hbA hS1 (lw_in (i := 1) (by decide) hk hL) dL_502 ?_
  obtain ⟨f1, hf1⟩ := zwl_195 (σ := τ)
  refine lcallV (idx := 54) (a := 221) (r := 195) (as' := [.int (xs (nI k + nI 1).toNatClampNeg)]) (rest := [.int v]) F hP1 hS1 hl.1 hv (by decide) rfl rfl (by decide +kernel) dL_503 rfl (Nat.le_of_ble_eq_true rfl) hf1 rfl (Nat.le_of_ble_eq_true rfl) hc hs (fun w υ hw H2 locs2 hP2 hS2 => ?_)
  exact lv_icmp_eq (tgt := 1355) hx hb dL_506 (by decide) (fun _ => kk υ H2 locs2 hw.2 hP2 hS2) (fun z => absurd hw.1.symm z)
set_option maxRecDepth 100000 in
theorem lk_9 {p : Program} {l : Launch} {e : Env} {s : State} {m : MethodId} {below : List Frame} {meth : Method} {c : Code} {H : Heap} {locs : List Loc} {cells slots : Nat} {Q : State → Prop} {ls : Array Slot} {D : va_G} {cI cD : ClassId} {aS aV b L k : Nat} {xs : Nat → Int32} {σ : zS} (F : LFx p s m meth c b L xs D cI cD aS aV) (hI : INV σ) (hP : zHP s.heap.size aS D cI cD (zwl σ) H) (hS : va_S (fun q => s.heap.size ≤ q) s.heap H locs) (hl : lv_has ls 4 [(0, .ref b), (1, .ref (s.heap.size + 0)), (2, .ref (s.heap.size + 195)), (3, .int (nI k))]) (hk : k + 6 ≤ L) (hL : L ≤ 3072) (hc : cells ≤ 600000) (hs : slots ≤ 7302250) (kk : ∀ (υ : zS) (H1 : Heap) (locs1 : List Loc), INV υ → zHP s.heap.size aS D cI cD (zwl υ) H1 → va_S (fun q => s.heap.size ≤ q) s.heap H1 locs1 → W p l e room_1 s m #[Value.ref b] below meth c H1 locs1 cells slots Q (F0 m 1355 ls [])) : W p l e room_1 s m #[Value.ref b] below meth c H locs cells slots Q (F0 m 511 ls []) := by
  obtain ⟨hx, hb, hr, hml, hown, hts, hX, hbl, hlocks, hgv⟩ := F.1
  have hbA : ¬ (fun q : Nat => s.heap.size ≤ q) b := Nat.not_le.mpr hbl
  refine lv_aload_n hx hb dL_511 rfl (lv_at hl 1 rfl) ?_
  refine lv_aload_n hx hb dL_512 rfl (lv_at hl 0 rfl) ?_
  refine lv_iload_n hx hb dL_513 rfl (lv_at hl 3 rfl) ?_
  refine lv_iconst (v := nI 1) hx hb dL_514 (by decide) ?_
  refine lv_iadd hx hb dL_515 ?_
  refine va_sld hx hb hX hbl hbA hS (lw_in (i := 1) (by decide) hk hL) dL_516 ?_
  obtain ⟨f0, hf0⟩ := zwl_0 (σ := σ)
  refine lcallV (idx := 55) (a := 130) (r := 0) (as' := [.int (xs (nI k + nI 1).toNatClampNeg)]) (rest := []) F hP hS hl.1 (c_fault σ hI) (by decide) rfl rfl (by decide +kernel) dL_517 rfl (Nat.le_of_ble_eq_true rfl) hf0 rfl (Nat.le_of_ble_eq_true rfl) hc hs (fun v τ hv H1 locs1 hP1 hS1 => ?_)
  refine lv_aload_n hx hb dL_520 rfl (lv_at hl 2 rfl) ?_
  refine lv_aload_n hx hb dL_521 rfl (lv_at hl 0 rfl) ?_
  refine lv_iload_n hx hb dL_522 rfl (lv_at hl 3 rfl) ?_
  refine lv_iconst (v := nI 1) hx hb dL_523 (by decide) ?_
  refine lv_iadd hx hb dL_524 ?_
  refine va_sld hx hb hX hbl hbA hS1 (lw_in (i := 1) (by decide) hk hL) dL_525 ?_
  obtain ⟨f1, hf1⟩ := zwl_195 (σ := τ)
  refine lcallV (idx := 58) (a := 222) (r := 195) (as' := [.int (xs (nI k + nI 1).toNatClampNeg)]) (rest := [.int v]) F hP1 hS1 hl.1 hv (by decide) rfl rfl (by decide +kernel) dL_526 rfl (Nat.le_of_ble_eq_true rfl) hf1 rfl (Nat.le_of_ble_eq_true rfl) hc hs (fun w υ hw H2 locs2 hP2 hS2 => ?_)
  exact lv_icmp_eq (tgt := 1355) hx hb dL_529 (by decide) (fun _ => kk υ H2 locs2 hw.2 hP2 hS2) (fun z => absurd hw.1.symm z)
set_option maxRecDepth 100000 in
theorem lk_10 {p : Program} {l : Launch} {e : Env} {s : State} {m : MethodId} {below : List Frame} {meth : Method} {c : Code} {H : Heap} {locs : List Loc} {cells slots : Nat} {Q : State → Prop} {ls : Array Slot} {D : va_G} {cI cD : ClassId} {aS aV b L k : Nat} {xs : Nat → Int32} {σ : zS} (F : LFx p s m meth c b L xs D cI cD aS aV) (hI : INV σ) (hP : zHP s.heap.size aS D cI cD (zwl σ) H) (hS : va_S (fun q => s.heap.size ≤ q) s.heap H locs) (hl : lv_has ls 4 [(0, .ref b), (1, .ref (s.heap.size + 0)), (2, .ref (s.heap.size + 195)), (3, .int (nI k))]) (hk : k + 6 ≤ L) (hL : L ≤ 3072) (hc : cells ≤ 600000) (hs : slots ≤ 7302250) (kk : ∀ (υ : zS) (H1 : Heap) (locs1 : List Loc), INV υ → zHP s.heap.size aS D cI cD (zwl υ) H1 → va_S (fun q => s.heap.size ≤ q) s.heap H1 locs1 → W p l e room_1 s m #[Value.ref b] below meth c H1 locs1 cells slots Q (F0 m 1355 ls [])) : W p l e room_1 s m #[Value.ref b] below meth c H locs cells slots Q (F0 m 534 ls []) := by
  obtain ⟨hx, hb, hr, hml, hown, hts, hX, hbl, hlocks, hgv⟩ := F.1
  have hbA : ¬ (fun q : Nat => s.heap.size ≤ q) b := Nat.not_le.mpr hbl
  refine lv_aload_n hx hb dL_534 rfl (lv_at hl 1 rfl) ?_
  refine lv_aload_n hx hb dL_535 rfl (lv_at hl 0 rfl) ?_
  refine lv_iload_n hx hb dL_536 rfl (lv_at hl 3 rfl) ?_
  refine lv_iconst (v := nI 1) hx hb dL_537 (by decide) ?_
  refine lv_iadd hx hb dL_538 ?_
  refine va_sld hx hb hX hbl hbA hS (lw_in (i := 1) (by decide) hk hL) dL_539 ?_
  refine lv_aload_n hx hb dL_540 rfl (lv_at hl 0 rfl) ?_
  refine lv_iload_n hx hb dL_541 rfl (lv_at hl 3 rfl) ?_
  refine lv_iconst (v := nI 2) hx hb dL_542 (by decide) ?_
  refine lv_iadd hx hb dL_543 ?_
  refine va_sld hx hb hX hbl hbA hS (lw_in (i := 2) (by decide) hk hL) dL_544 ?_
  obtain ⟨f0, hf0⟩ := zwl_0 (σ := σ)
  refine lcallV (idx := 59) (a := 131) (r := 0) (as' := [.int (xs (nI k + nI 1).toNatClampNeg), .int (xs (nI k + nI 2).toNatClampNeg)]) (rest := []) F hP hS hl.1 (c_place σ hI) (by decide) rfl rfl (by decide +kernel) dL_545 rfl (Nat.le_of_ble_eq_true rfl) hf0 rfl (Nat.le_of_ble_eq_true rfl) hc hs (fun v τ hv H1 locs1 hP1 hS1 => ?_)
  refine lv_aload_n hx hb dL_548 rfl (lv_at hl 2 rfl) ?_
  refine lv_aload_n hx hb dL_549 rfl (lv_at hl 0 rfl) ?_
  refine lv_iload_n hx hb dL_550 rfl (lv_at hl 3 rfl) ?_
  refine lv_iconst (v := nI 1) hx hb dL_551 (by decide) ?_
  refine lv_iadd hx hb dL_552 ?_
  refine va_sld hx hb hX hbl hbA hS1 (lw_in (i := 1) (by decide) hk hL) dL_553 ?_
  refine lv_aload_n hx hb dL_554 rfl (lv_at hl 0 rfl) ?_
  refine lv_iload_n hx hb dL_555 rfl (lv_at hl 3 rfl) ?_
  refine lv_iconst (v := nI 2) hx hb dL_556 (by decide) ?_
  refine lv_iadd hx hb dL_557 ?_
  refine va_sld hx hb hX hbl hbA hS1 (lw_in (i := 2) (by decide) hk hL) dL_558 ?_
  obtain ⟨f1, hf1⟩ := zwl_195 (σ := τ)
  refine lcallV (idx := 62) (a := 245) (r := 195) (as' := [.int (xs (nI k + nI 1).toNatClampNeg), .int (xs (nI k + nI 2).toNatClampNeg)]) (rest := [.int v]) F hP1 hS1 hl.1 hv (by decide) rfl rfl (by decide +kernel) dL_559 rfl (Nat.le_of_ble_eq_true rfl) hf1 rfl (Nat.le_of_ble_eq_true rfl) hc hs (fun w υ hw H2 locs2 hP2 hS2 => ?_)
  exact lv_icmp_eq (tgt := 1355) hx hb dL_562 (by decide) (fun _ => kk υ H2 locs2 hw.2 hP2 hS2) (fun z => absurd hw.1.symm z)
set_option maxRecDepth 100000 in
theorem lk_11 {p : Program} {l : Launch} {e : Env} {s : State} {m : MethodId} {below : List Frame} {meth : Method} {c : Code} {H : Heap} {locs : List Loc} {cells slots : Nat} {Q : State → Prop} {ls : Array Slot} {D : va_G} {cI cD : ClassId} {aS aV b L k : Nat} {xs : Nat → Int32} {σ : zS} (F : LFx p s m meth c b L xs D cI cD aS aV) (hI : INV σ) (hP : zHP s.heap.size aS D cI cD (zwl σ) H) (hS : va_S (fun q => s.heap.size ≤ q) s.heap H locs) (hl : lv_has ls 4 [(0, .ref b), (1, .ref (s.heap.size + 0)), (2, .ref (s.heap.size + 195)), (3, .int (nI k))]) (hk : k + 6 ≤ L) (hL : L ≤ 3072) (hc : cells ≤ 600000) (hs : slots ≤ 7302250) (kk : ∀ (υ : zS) (H1 : Heap) (locs1 : List Loc), INV υ → zHP s.heap.size aS D cI cD (zwl υ) H1 → va_S (fun q => s.heap.size ≤ q) s.heap H1 locs1 → W p l e room_1 s m #[Value.ref b] below meth c H1 locs1 cells slots Q (F0 m 1355 ls [])) : W p l e room_1 s m #[Value.ref b] below meth c H locs cells slots Q (F0 m 567 ls []) := by
  obtain ⟨hx, hb, hr, hml, hown, hts, hX, hbl, hlocks, hgv⟩ := F.1
  have hbA : ¬ (fun q : Nat => s.heap.size ≤ q) b := Nat.not_le.mpr hbl
  refine lv_aload_n hx hb dL_567 rfl (lv_at hl 1 rfl) ?_
  refine lv_aload_n hx hb dL_568 rfl (lv_at hl 0 rfl) ?_
  refine lv_iload_n hx hb dL_569 rfl (lv_at hl 3 rfl) ?_
  refine lv_iconst (v := nI 1) hx hb dL_570 (by decide) ?_
  refine lv_iadd hx hb dL_571 ?_
  refine va_sld hx hb hX hbl hbA hS (lw_in (i := 1) (by decide) hk hL) dL_572 ?_
  refine lv_aload_n hx hb dL_573 rfl (lv_at hl 0 rfl) ?_
  refine lv_iload_n hx hb dL_574 rfl (lv_at hl 3 rfl) ?_
  refine lv_iconst (v := nI 2) hx hb dL_575 (by decide) ?_
  refine lv_iadd hx hb dL_576 ?_
  refine va_sld hx hb hX hbl hbA hS (lw_in (i := 2) (by decide) hk hL) dL_577 ?_
  obtain ⟨f0, hf0⟩ := zwl_0 (σ := σ)
  refine lcallV (idx := 63) (a := 132) (r := 0) (as' := [.int (xs (nI k + nI 1).toNatClampNeg), .int (xs (nI k + nI 2).toNatClampNeg)]) (rest := []) F hP hS hl.1 (c_of σ hI) (by decide) rfl rfl (by decide +kernel) dL_578 rfl (Nat.le_of_ble_eq_true rfl) hf0 rfl (Nat.le_of_ble_eq_true rfl) hc hs (fun v τ hv H1 locs1 hP1 hS1 => ?_)
  refine lv_aload_n hx hb dL_581 rfl (lv_at hl 2 rfl) ?_
  refine lv_aload_n hx hb dL_582 rfl (lv_at hl 0 rfl) ?_
  refine lv_iload_n hx hb dL_583 rfl (lv_at hl 3 rfl) ?_
  refine lv_iconst (v := nI 1) hx hb dL_584 (by decide) ?_
  refine lv_iadd hx hb dL_585 ?_
  refine va_sld hx hb hX hbl hbA hS1 (lw_in (i := 1) (by decide) hk hL) dL_586 ?_
  refine lv_aload_n hx hb dL_587 rfl (lv_at hl 0 rfl) ?_
  refine lv_iload_n hx hb dL_588 rfl (lv_at hl 3 rfl) ?_
  refine lv_iconst (v := nI 2) hx hb dL_589 (by decide) ?_
  refine lv_iadd hx hb dL_590 ?_
  refine va_sld hx hb hX hbl hbA hS1 (lw_in (i := 2) (by decide) hk hL) dL_591 ?_
  obtain ⟨f1, hf1⟩ := zwl_195 (σ := τ)
  refine lcallV (idx := 66) (a := 246) (r := 195) (as' := [.int (xs (nI k + nI 1).toNatClampNeg), .int (xs (nI k + nI 2).toNatClampNeg)]) (rest := [.int v]) F hP1 hS1 hl.1 hv (by decide) rfl rfl (by decide +kernel) dL_592 rfl (Nat.le_of_ble_eq_true rfl) hf1 rfl (Nat.le_of_ble_eq_true rfl) hc hs (fun w υ hw H2 locs2 hP2 hS2 => ?_)
  exact lv_icmp_eq (tgt := 1355) hx hb dL_595 (by decide) (fun _ => kk υ H2 locs2 hw.2 hP2 hS2) (fun z => absurd hw.1.symm z)
set_option maxRecDepth 100000 in
theorem lk_12 {p : Program} {l : Launch} {e : Env} {s : State} {m : MethodId} {below : List Frame} {meth : Method} {c : Code} {H : Heap} {locs : List Loc} {cells slots : Nat} {Q : State → Prop} {ls : Array Slot} {D : va_G} {cI cD : ClassId} {aS aV b L k : Nat} {xs : Nat → Int32} {σ : zS} (F : LFx p s m meth c b L xs D cI cD aS aV) (hI : INV σ) (hP : zHP s.heap.size aS D cI cD (zwl σ) H) (hS : va_S (fun q => s.heap.size ≤ q) s.heap H locs) (hl : lv_has ls 4 [(0, .ref b), (1, .ref (s.heap.size + 0)), (2, .ref (s.heap.size + 195)), (3, .int (nI k))]) (hk : k + 6 ≤ L) (hL : L ≤ 3072) (hc : cells ≤ 600000) (hs : slots ≤ 7302250) (kk : ∀ (υ : zS) (H1 : Heap) (locs1 : List Loc), INV υ → zHP s.heap.size aS D cI cD (zwl υ) H1 → va_S (fun q => s.heap.size ≤ q) s.heap H1 locs1 → W p l e room_1 s m #[Value.ref b] below meth c H1 locs1 cells slots Q (F0 m 1355 ls [])) : W p l e room_1 s m #[Value.ref b] below meth c H locs cells slots Q (F0 m 600 ls []) := by
  obtain ⟨hx, hb, hr, hml, hown, hts, hX, hbl, hlocks, hgv⟩ := F.1
  have hbA : ¬ (fun q : Nat => s.heap.size ≤ q) b := Nat.not_le.mpr hbl
  refine lv_aload_n hx hb dL_600 rfl (lv_at hl 1 rfl) ?_
  refine lv_aload_n hx hb dL_601 rfl (lv_at hl 0 rfl) ?_
  refine lv_iload_n hx hb dL_602 rfl (lv_at hl 3 rfl) ?_
  refine lv_iconst (v := nI 1) hx hb dL_603 (by decide) ?_
  refine lv_iadd hx hb dL_604 ?_
  refine va_sld hx hb hX hbl hbA hS (lw_in (i := 1) (by decide) hk hL) dL_605 ?_
  refine lv_aload_n hx hb dL_606 rfl (lv_at hl 0 rfl) ?_
  refine lv_iload_n hx hb dL_607 rfl (lv_at hl 3 rfl) ?_
  refine lv_iconst (v := nI 2) hx hb dL_608 (by decide) ?_
  refine lv_iadd hx hb dL_609 ?_
  refine va_sld hx hb hX hbl hbA hS (lw_in (i := 2) (by decide) hk hL) dL_610 ?_
  obtain ⟨f0, hf0⟩ := zwl_0 (σ := σ)
  refine lcallV (idx := 67) (a := 133) (r := 0) (as' := [.int (xs (nI k + nI 1).toNatClampNeg), .int (xs (nI k + nI 2).toNatClampNeg)]) (rest := []) F hP hS hl.1 (c_book σ hI) (by decide) rfl rfl (by decide +kernel) dL_611 rfl (Nat.le_of_ble_eq_true rfl) hf0 rfl (Nat.le_of_ble_eq_true rfl) hc hs (fun v τ hv H1 locs1 hP1 hS1 => ?_)
  refine lv_aload_n hx hb dL_614 rfl (lv_at hl 2 rfl) ?_
  refine lv_aload_n hx hb dL_615 rfl (lv_at hl 0 rfl) ?_
  refine lv_iload_n hx hb dL_616 rfl (lv_at hl 3 rfl) ?_
  refine lv_iconst (v := nI 1) hx hb dL_617 (by decide) ?_
  refine lv_iadd hx hb dL_618 ?_
  refine va_sld hx hb hX hbl hbA hS1 (lw_in (i := 1) (by decide) hk hL) dL_619 ?_
  refine lv_aload_n hx hb dL_620 rfl (lv_at hl 0 rfl) ?_
  refine lv_iload_n hx hb dL_621 rfl (lv_at hl 3 rfl) ?_
  refine lv_iconst (v := nI 2) hx hb dL_622 (by decide) ?_
  refine lv_iadd hx hb dL_623 ?_
  refine va_sld hx hb hX hbl hbA hS1 (lw_in (i := 2) (by decide) hk hL) dL_624 ?_
  obtain ⟨f1, hf1⟩ := zwl_195 (σ := τ)
  refine lcallV (idx := 70) (a := 247) (r := 195) (as' := [.int (xs (nI k + nI 1).toNatClampNeg), .int (xs (nI k + nI 2).toNatClampNeg)]) (rest := [.int v]) F hP1 hS1 hl.1 hv (by decide) rfl rfl (by decide +kernel) dL_625 rfl (Nat.le_of_ble_eq_true rfl) hf1 rfl (Nat.le_of_ble_eq_true rfl) hc hs (fun w υ hw H2 locs2 hP2 hS2 => ?_)
  exact lv_icmp_eq (tgt := 1355) hx hb dL_628 (by decide) (fun _ => kk υ H2 locs2 hw.2 hP2 hS2) (fun z => absurd hw.1.symm z)
set_option maxRecDepth 100000 in
theorem lk_13 {p : Program} {l : Launch} {e : Env} {s : State} {m : MethodId} {below : List Frame} {meth : Method} {c : Code} {H : Heap} {locs : List Loc} {cells slots : Nat} {Q : State → Prop} {ls : Array Slot} {D : va_G} {cI cD : ClassId} {aS aV b L k : Nat} {xs : Nat → Int32} {σ : zS} (F : LFx p s m meth c b L xs D cI cD aS aV) (hI : INV σ) (hP : zHP s.heap.size aS D cI cD (zwl σ) H) (hS : va_S (fun q => s.heap.size ≤ q) s.heap H locs) (hl : lv_has ls 4 [(0, .ref b), (1, .ref (s.heap.size + 0)), (2, .ref (s.heap.size + 195)), (3, .int (nI k))]) (hk : k + 6 ≤ L) (hL : L ≤ 3072) (hc : cells ≤ 600000) (hs : slots ≤ 7302250) (kk : ∀ (υ : zS) (H1 : Heap) (locs1 : List Loc), INV υ → zHP s.heap.size aS D cI cD (zwl υ) H1 → va_S (fun q => s.heap.size ≤ q) s.heap H1 locs1 → W p l e room_1 s m #[Value.ref b] below meth c H1 locs1 cells slots Q (F0 m 1355 ls [])) : W p l e room_1 s m #[Value.ref b] below meth c H locs cells slots Q (F0 m 633 ls []) := by
  obtain ⟨hx, hb, hr, hml, hown, hts, hX, hbl, hlocks, hgv⟩ := F.1
  have hbA : ¬ (fun q : Nat => s.heap.size ≤ q) b := Nat.not_le.mpr hbl
  refine lv_aload_n hx hb dL_633 rfl (lv_at hl 1 rfl) ?_
  refine lv_aload_n hx hb dL_634 rfl (lv_at hl 0 rfl) ?_
  refine lv_iload_n hx hb dL_635 rfl (lv_at hl 3 rfl) ?_
  refine lv_iconst (v := nI 1) hx hb dL_636 (by decide) ?_
  refine lv_iadd hx hb dL_637 ?_
  refine va_sld hx hb hX hbl hbA hS (lw_in (i := 1) (by decide) hk hL) dL_638 ?_
  refine lv_aload_n hx hb dL_639 rfl (lv_at hl 0 rfl) ?_
  refine lv_iload_n hx hb dL_640 rfl (lv_at hl 3 rfl) ?_
  refine lv_iconst (v := nI 2) hx hb dL_641 (by decide) ?_
  refine lv_iadd hx hb dL_642 ?_
  refine va_sld hx hb hX hbl hbA hS (lw_in (i := 2) (by decide) hk hL) dL_643 ?_
  obtain ⟨f0, hf0⟩ := zwl_0 (σ := σ)
  refine lcallV (idx := 71) (a := 134) (r := 0) (as' := [.int (xs (nI k + nI 1).toNatClampNeg), .int (xs (nI k + nI 2).toNatClampNeg)]) (rest := []) F hP hS hl.1 (c_goes σ hI) (by decide) rfl rfl (by decide +kernel) dL_644 rfl (Nat.le_of_ble_eq_true rfl) hf0 rfl (Nat.le_of_ble_eq_true rfl) hc hs (fun v τ hv H1 locs1 hP1 hS1 => ?_)
  refine lv_aload_n hx hb dL_647 rfl (lv_at hl 2 rfl) ?_
  refine lv_aload_n hx hb dL_648 rfl (lv_at hl 0 rfl) ?_
  refine lv_iload_n hx hb dL_649 rfl (lv_at hl 3 rfl) ?_
  refine lv_iconst (v := nI 1) hx hb dL_650 (by decide) ?_
  refine lv_iadd hx hb dL_651 ?_
  refine va_sld hx hb hX hbl hbA hS1 (lw_in (i := 1) (by decide) hk hL) dL_652 ?_
  refine lv_aload_n hx hb dL_653 rfl (lv_at hl 0 rfl) ?_
  refine lv_iload_n hx hb dL_654 rfl (lv_at hl 3 rfl) ?_
  refine lv_iconst (v := nI 2) hx hb dL_655 (by decide) ?_
  refine lv_iadd hx hb dL_656 ?_
  refine va_sld hx hb hX hbl hbA hS1 (lw_in (i := 2) (by decide) hk hL) dL_657 ?_
  obtain ⟨f1, hf1⟩ := zwl_195 (σ := τ)
  refine lcallV (idx := 74) (a := 249) (r := 195) (as' := [.int (xs (nI k + nI 1).toNatClampNeg), .int (xs (nI k + nI 2).toNatClampNeg)]) (rest := [.int v]) F hP1 hS1 hl.1 hv (by decide) rfl rfl (by decide +kernel) dL_658 rfl (Nat.le_of_ble_eq_true rfl) hf1 rfl (Nat.le_of_ble_eq_true rfl) hc hs (fun w υ hw H2 locs2 hP2 hS2 => ?_)
  exact lv_icmp_eq (tgt := 1355) hx hb dL_661 (by decide) (fun _ => kk υ H2 locs2 hw.2 hP2 hS2) (fun z => absurd hw.1.symm z)
set_option maxRecDepth 100000 in
theorem lk_14 {p : Program} {l : Launch} {e : Env} {s : State} {m : MethodId} {below : List Frame} {meth : Method} {c : Code} {H : Heap} {locs : List Loc} {cells slots : Nat} {Q : State → Prop} {ls : Array Slot} {D : va_G} {cI cD : ClassId} {aS aV b L k : Nat} {xs : Nat → Int32} {σ : zS} (F : LFx p s m meth c b L xs D cI cD aS aV) (hI : INV σ) (hP : zHP s.heap.size aS D cI cD (zwl σ) H) (hS : va_S (fun q => s.heap.size ≤ q) s.heap H locs) (hl : lv_has ls 4 [(0, .ref b), (1, .ref (s.heap.size + 0)), (2, .ref (s.heap.size + 195)), (3, .int (nI k))]) (hk : k + 6 ≤ L) (hL : L ≤ 3072) (hc : cells ≤ 600000) (hs : slots ≤ 7302250) (kk : ∀ (υ : zS) (H1 : Heap) (locs1 : List Loc), INV υ → zHP s.heap.size aS D cI cD (zwl υ) H1 → va_S (fun q => s.heap.size ≤ q) s.heap H1 locs1 → W p l e room_1 s m #[Value.ref b] below meth c H1 locs1 cells slots Q (F0 m 1355 ls [])) : W p l e room_1 s m #[Value.ref b] below meth c H locs cells slots Q (F0 m 666 ls []) := by
  obtain ⟨hx, hb, hr, hml, hown, hts, hX, hbl, hlocks, hgv⟩ := F.1
  have hbA : ¬ (fun q : Nat => s.heap.size ≤ q) b := Nat.not_le.mpr hbl
  refine lv_aload_n hx hb dL_666 rfl (lv_at hl 1 rfl) ?_
  refine lv_aload_n hx hb dL_667 rfl (lv_at hl 0 rfl) ?_
  refine lv_iload_n hx hb dL_668 rfl (lv_at hl 3 rfl) ?_
  refine lv_iconst (v := nI 1) hx hb dL_669 (by decide) ?_
  refine lv_iadd hx hb dL_670 ?_
  refine va_sld hx hb hX hbl hbA hS (lw_in (i := 1) (by decide) hk hL) dL_671 ?_
  refine lv_aload_n hx hb dL_672 rfl (lv_at hl 0 rfl) ?_
  refine lv_iload_n hx hb dL_673 rfl (lv_at hl 3 rfl) ?_
  refine lv_iconst (v := nI 2) hx hb dL_674 (by decide) ?_
  refine lv_iadd hx hb dL_675 ?_
  refine va_sld hx hb hX hbl hbA hS (lw_in (i := 2) (by decide) hk hL) dL_676 ?_
  obtain ⟨f0, hf0⟩ := zwl_0 (σ := σ)
  refine lcallV (idx := 75) (a := 135) (r := 0) (as' := [.int (xs (nI k + nI 1).toNatClampNeg), .int (xs (nI k + nI 2).toNatClampNeg)]) (rest := []) F hP hS hl.1 (c_arrives σ hI) (by decide) rfl rfl (by decide +kernel) dL_677 rfl (Nat.le_of_ble_eq_true rfl) hf0 rfl (Nat.le_of_ble_eq_true rfl) hc hs (fun v τ hv H1 locs1 hP1 hS1 => ?_)
  refine lv_aload_n hx hb dL_680 rfl (lv_at hl 2 rfl) ?_
  refine lv_aload_n hx hb dL_681 rfl (lv_at hl 0 rfl) ?_
  refine lv_iload_n hx hb dL_682 rfl (lv_at hl 3 rfl) ?_
  refine lv_iconst (v := nI 1) hx hb dL_683 (by decide) ?_
  refine lv_iadd hx hb dL_684 ?_
  refine va_sld hx hb hX hbl hbA hS1 (lw_in (i := 1) (by decide) hk hL) dL_685 ?_
  refine lv_aload_n hx hb dL_686 rfl (lv_at hl 0 rfl) ?_
  refine lv_iload_n hx hb dL_687 rfl (lv_at hl 3 rfl) ?_
  refine lv_iconst (v := nI 2) hx hb dL_688 (by decide) ?_
  refine lv_iadd hx hb dL_689 ?_
  refine va_sld hx hb hX hbl hbA hS1 (lw_in (i := 2) (by decide) hk hL) dL_690 ?_
  obtain ⟨f1, hf1⟩ := zwl_195 (σ := τ)
  refine lcallV (idx := 78) (a := 250) (r := 195) (as' := [.int (xs (nI k + nI 1).toNatClampNeg), .int (xs (nI k + nI 2).toNatClampNeg)]) (rest := [.int v]) F hP1 hS1 hl.1 hv (by decide) rfl rfl (by decide +kernel) dL_691 rfl (Nat.le_of_ble_eq_true rfl) hf1 rfl (Nat.le_of_ble_eq_true rfl) hc hs (fun w υ hw H2 locs2 hP2 hS2 => ?_)
  exact lv_icmp_eq (tgt := 1355) hx hb dL_694 (by decide) (fun _ => kk υ H2 locs2 hw.2 hP2 hS2) (fun z => absurd hw.1.symm z)
set_option maxRecDepth 100000 in
theorem lk_15 {p : Program} {l : Launch} {e : Env} {s : State} {m : MethodId} {below : List Frame} {meth : Method} {c : Code} {H : Heap} {locs : List Loc} {cells slots : Nat} {Q : State → Prop} {ls : Array Slot} {D : va_G} {cI cD : ClassId} {aS aV b L k : Nat} {xs : Nat → Int32} {σ : zS} (F : LFx p s m meth c b L xs D cI cD aS aV) (hI : INV σ) (hP : zHP s.heap.size aS D cI cD (zwl σ) H) (hS : va_S (fun q => s.heap.size ≤ q) s.heap H locs) (hl : lv_has ls 4 [(0, .ref b), (1, .ref (s.heap.size + 0)), (2, .ref (s.heap.size + 195)), (3, .int (nI k))]) (hk : k + 6 ≤ L) (hL : L ≤ 3072) (hc : cells ≤ 600000) (hs : slots ≤ 7302250) (kk : ∀ (υ : zS) (H1 : Heap) (locs1 : List Loc), INV υ → zHP s.heap.size aS D cI cD (zwl υ) H1 → va_S (fun q => s.heap.size ≤ q) s.heap H1 locs1 → W p l e room_1 s m #[Value.ref b] below meth c H1 locs1 cells slots Q (F0 m 1355 ls [])) : W p l e room_1 s m #[Value.ref b] below meth c H locs cells slots Q (F0 m 699 ls []) := by
  obtain ⟨hx, hb, hr, hml, hown, hts, hX, hbl, hlocks, hgv⟩ := F.1
  have hbA : ¬ (fun q : Nat => s.heap.size ≤ q) b := Nat.not_le.mpr hbl
  refine lv_aload_n hx hb dL_699 rfl (lv_at hl 1 rfl) ?_
  refine lv_aload_n hx hb dL_700 rfl (lv_at hl 0 rfl) ?_
  refine lv_iload_n hx hb dL_701 rfl (lv_at hl 3 rfl) ?_
  refine lv_iconst (v := nI 1) hx hb dL_702 (by decide) ?_
  refine lv_iadd hx hb dL_703 ?_
  refine va_sld hx hb hX hbl hbA hS (lw_in (i := 1) (by decide) hk hL) dL_704 ?_
  refine lv_aload_n hx hb dL_705 rfl (lv_at hl 0 rfl) ?_
  refine lv_iload_n hx hb dL_706 rfl (lv_at hl 3 rfl) ?_
  refine lv_iconst (v := nI 2) hx hb dL_707 (by decide) ?_
  refine lv_iadd hx hb dL_708 ?_
  refine va_sld hx hb hX hbl hbA hS (lw_in (i := 2) (by decide) hk hL) dL_709 ?_
  refine lv_aload_n hx hb dL_710 rfl (lv_at hl 0 rfl) ?_
  refine lv_iload_n hx hb dL_711 rfl (lv_at hl 3 rfl) ?_
  refine lv_iconst (v := nI 3) hx hb dL_712 (by decide) ?_
  refine lv_iadd hx hb dL_713 ?_
  refine va_sld hx hb hX hbl hbA hS (lw_in (i := 3) (by decide) hk hL) dL_714 ?_
  refine lv_aload_n hx hb dL_715 rfl (lv_at hl 0 rfl) ?_
  refine lv_iload_n hx hb dL_716 rfl (lv_at hl 3 rfl) ?_
  refine lv_iconst (v := nI 4) hx hb dL_717 (by decide) ?_
  refine lv_iadd hx hb dL_718 ?_
  refine va_sld hx hb hX hbl hbA hS (lw_in (i := 4) (by decide) hk hL) dL_719 ?_
  obtain ⟨f0, hf0⟩ := zwl_0 (σ := σ)
  refine lcallV (idx := 79) (a := 136) (r := 0) (as' := [.int (xs (nI k + nI 1).toNatClampNeg), .int (xs (nI k + nI 2).toNatClampNeg), .int (xs (nI k + nI 3).toNatClampNeg), .int (xs (nI k + nI 4).toNatClampNeg)]) (rest := []) F hP hS hl.1 (c_bath σ hI) (by decide) rfl rfl (by decide +kernel) dL_720 rfl (Nat.le_of_ble_eq_true rfl) hf0 rfl (Nat.le_of_ble_eq_true rfl) hc hs (fun v τ hv H1 locs1 hP1 hS1 => ?_)
  refine lv_aload_n hx hb dL_723 rfl (lv_at hl 2 rfl) ?_
  refine lv_aload_n hx hb dL_724 rfl (lv_at hl 0 rfl) ?_
  refine lv_iload_n hx hb dL_725 rfl (lv_at hl 3 rfl) ?_
  refine lv_iconst (v := nI 1) hx hb dL_726 (by decide) ?_
  refine lv_iadd hx hb dL_727 ?_
  refine va_sld hx hb hX hbl hbA hS1 (lw_in (i := 1) (by decide) hk hL) dL_728 ?_
  refine lv_aload_n hx hb dL_729 rfl (lv_at hl 0 rfl) ?_
  refine lv_iload_n hx hb dL_730 rfl (lv_at hl 3 rfl) ?_
  refine lv_iconst (v := nI 2) hx hb dL_731 (by decide) ?_
  refine lv_iadd hx hb dL_732 ?_
  refine va_sld hx hb hX hbl hbA hS1 (lw_in (i := 2) (by decide) hk hL) dL_733 ?_
  refine lv_aload_n hx hb dL_734 rfl (lv_at hl 0 rfl) ?_
  refine lv_iload_n hx hb dL_735 rfl (lv_at hl 3 rfl) ?_
  refine lv_iconst (v := nI 3) hx hb dL_736 (by decide) ?_
  refine lv_iadd hx hb dL_737 ?_
  refine va_sld hx hb hX hbl hbA hS1 (lw_in (i := 3) (by decide) hk hL) dL_738 ?_
  refine lv_aload_n hx hb dL_739 rfl (lv_at hl 0 rfl) ?_
  refine lv_iload_n hx hb dL_740 rfl (lv_at hl 3 rfl) ?_
  refine lv_iconst (v := nI 4) hx hb dL_741 (by decide) ?_
  refine lv_iadd hx hb dL_742 ?_
  refine va_sld hx hb hX hbl hbA hS1 (lw_in (i := 4) (by decide) hk hL) dL_743 ?_
  obtain ⟨f1, hf1⟩ := zwl_195 (σ := τ)
  refine lcallV (idx := 83) (a := 253) (r := 195) (as' := [.int (xs (nI k + nI 1).toNatClampNeg), .int (xs (nI k + nI 2).toNatClampNeg), .int (xs (nI k + nI 3).toNatClampNeg), .int (xs (nI k + nI 4).toNatClampNeg)]) (rest := [.int v]) F hP1 hS1 hl.1 hv (by decide) rfl rfl (by decide +kernel) dL_744 rfl (Nat.le_of_ble_eq_true rfl) hf1 rfl (Nat.le_of_ble_eq_true rfl) hc hs (fun w υ hw H2 locs2 hP2 hS2 => ?_)
  exact lv_icmp_eq (tgt := 1355) hx hb dL_747 (by decide) (fun _ => kk υ H2 locs2 hw.2 hP2 hS2) (fun z => absurd hw.1.symm z)
set_option maxRecDepth 100000 in
theorem lk_16 {p : Program} {l : Launch} {e : Env} {s : State} {m : MethodId} {below : List Frame} {meth : Method} {c : Code} {H : Heap} {locs : List Loc} {cells slots : Nat} {Q : State → Prop} {ls : Array Slot} {D : va_G} {cI cD : ClassId} {aS aV b L k : Nat} {xs : Nat → Int32} {σ : zS} (F : LFx p s m meth c b L xs D cI cD aS aV) (hI : INV σ) (hP : zHP s.heap.size aS D cI cD (zwl σ) H) (hS : va_S (fun q => s.heap.size ≤ q) s.heap H locs) (hl : lv_has ls 4 [(0, .ref b), (1, .ref (s.heap.size + 0)), (2, .ref (s.heap.size + 195)), (3, .int (nI k))]) (hk : k + 6 ≤ L) (hL : L ≤ 3072) (hc : cells ≤ 600000) (hs : slots ≤ 7302250) (kk : ∀ (υ : zS) (H1 : Heap) (locs1 : List Loc), INV υ → zHP s.heap.size aS D cI cD (zwl υ) H1 → va_S (fun q => s.heap.size ≤ q) s.heap H1 locs1 → W p l e room_1 s m #[Value.ref b] below meth c H1 locs1 cells slots Q (F0 m 1355 ls [])) : W p l e room_1 s m #[Value.ref b] below meth c H locs cells slots Q (F0 m 752 ls []) := by
  obtain ⟨hx, hb, hr, hml, hown, hts, hX, hbl, hlocks, hgv⟩ := F.1
  have hbA : ¬ (fun q : Nat => s.heap.size ≤ q) b := Nat.not_le.mpr hbl
  refine lv_aload_n hx hb dL_752 rfl (lv_at hl 1 rfl) ?_
  refine lv_aload_n hx hb dL_753 rfl (lv_at hl 0 rfl) ?_
  refine lv_iload_n hx hb dL_754 rfl (lv_at hl 3 rfl) ?_
  refine lv_iconst (v := nI 1) hx hb dL_755 (by decide) ?_
  refine lv_iadd hx hb dL_756 ?_
  refine va_sld hx hb hX hbl hbA hS (lw_in (i := 1) (by decide) hk hL) dL_757 ?_
  refine lv_aload_n hx hb dL_758 rfl (lv_at hl 0 rfl) ?_
  refine lv_iload_n hx hb dL_759 rfl (lv_at hl 3 rfl) ?_
  refine lv_iconst (v := nI 2) hx hb dL_760 (by decide) ?_
  refine lv_iadd hx hb dL_761 ?_
  refine va_sld hx hb hX hbl hbA hS (lw_in (i := 2) (by decide) hk hL) dL_762 ?_
  refine lv_aload_n hx hb dL_763 rfl (lv_at hl 0 rfl) ?_
  refine lv_iload_n hx hb dL_764 rfl (lv_at hl 3 rfl) ?_
  refine lv_iconst (v := nI 3) hx hb dL_765 (by decide) ?_
  refine lv_iadd hx hb dL_766 ?_
  refine va_sld hx hb hX hbl hbA hS (lw_in (i := 3) (by decide) hk hL) dL_767 ?_
  refine lv_aload_n hx hb dL_768 rfl (lv_at hl 0 rfl) ?_
  refine lv_iload_n hx hb dL_769 rfl (lv_at hl 3 rfl) ?_
  refine lv_iconst (v := nI 4) hx hb dL_770 (by decide) ?_
  refine lv_iadd hx hb dL_771 ?_
  refine va_sld hx hb hX hbl hbA hS (lw_in (i := 4) (by decide) hk hL) dL_772 ?_
  obtain ⟨f0, hf0⟩ := zwl_0 (σ := σ)
  refine lcallV (idx := 84) (a := 137) (r := 0) (as' := [.int (xs (nI k + nI 1).toNatClampNeg), .int (xs (nI k + nI 2).toNatClampNeg), .int (xs (nI k + nI 3).toNatClampNeg), .int (xs (nI k + nI 4).toNatClampNeg)]) (rest := []) F hP hS hl.1 (c_follows σ hI) (by decide) rfl rfl (by decide +kernel) dL_773 rfl (Nat.le_of_ble_eq_true rfl) hf0 rfl (Nat.le_of_ble_eq_true rfl) hc hs (fun v τ hv H1 locs1 hP1 hS1 => ?_)
  refine lv_aload_n hx hb dL_776 rfl (lv_at hl 2 rfl) ?_
  refine lv_aload_n hx hb dL_777 rfl (lv_at hl 0 rfl) ?_
  refine lv_iload_n hx hb dL_778 rfl (lv_at hl 3 rfl) ?_
  refine lv_iconst (v := nI 1) hx hb dL_779 (by decide) ?_
  refine lv_iadd hx hb dL_780 ?_
  refine va_sld hx hb hX hbl hbA hS1 (lw_in (i := 1) (by decide) hk hL) dL_781 ?_
  refine lv_aload_n hx hb dL_782 rfl (lv_at hl 0 rfl) ?_
  refine lv_iload_n hx hb dL_783 rfl (lv_at hl 3 rfl) ?_
  refine lv_iconst (v := nI 2) hx hb dL_784 (by decide) ?_
  refine lv_iadd hx hb dL_785 ?_
  refine va_sld hx hb hX hbl hbA hS1 (lw_in (i := 2) (by decide) hk hL) dL_786 ?_
  refine lv_aload_n hx hb dL_787 rfl (lv_at hl 0 rfl) ?_
  refine lv_iload_n hx hb dL_788 rfl (lv_at hl 3 rfl) ?_
  refine lv_iconst (v := nI 3) hx hb dL_789 (by decide) ?_
  refine lv_iadd hx hb dL_790 ?_
  refine va_sld hx hb hX hbl hbA hS1 (lw_in (i := 3) (by decide) hk hL) dL_791 ?_
  refine lv_aload_n hx hb dL_792 rfl (lv_at hl 0 rfl) ?_
  refine lv_iload_n hx hb dL_793 rfl (lv_at hl 3 rfl) ?_
  refine lv_iconst (v := nI 4) hx hb dL_794 (by decide) ?_
  refine lv_iadd hx hb dL_795 ?_
  refine va_sld hx hb hX hbl hbA hS1 (lw_in (i := 4) (by decide) hk hL) dL_796 ?_
  obtain ⟨f1, hf1⟩ := zwl_195 (σ := τ)
  refine lcallV (idx := 87) (a := 254) (r := 195) (as' := [.int (xs (nI k + nI 1).toNatClampNeg), .int (xs (nI k + nI 2).toNatClampNeg), .int (xs (nI k + nI 3).toNatClampNeg), .int (xs (nI k + nI 4).toNatClampNeg)]) (rest := [.int v]) F hP1 hS1 hl.1 hv (by decide) rfl rfl (by decide +kernel) dL_797 rfl (Nat.le_of_ble_eq_true rfl) hf1 rfl (Nat.le_of_ble_eq_true rfl) hc hs (fun w υ hw H2 locs2 hP2 hS2 => ?_)
  exact lv_icmp_eq (tgt := 1355) hx hb dL_800 (by decide) (fun _ => kk υ H2 locs2 hw.2 hP2 hS2) (fun z => absurd hw.1.symm z)
set_option maxRecDepth 100000 in
theorem lk_17 {p : Program} {l : Launch} {e : Env} {s : State} {m : MethodId} {below : List Frame} {meth : Method} {c : Code} {H : Heap} {locs : List Loc} {cells slots : Nat} {Q : State → Prop} {ls : Array Slot} {D : va_G} {cI cD : ClassId} {aS aV b L k : Nat} {xs : Nat → Int32} {σ : zS} (F : LFx p s m meth c b L xs D cI cD aS aV) (hI : INV σ) (hP : zHP s.heap.size aS D cI cD (zwl σ) H) (hS : va_S (fun q => s.heap.size ≤ q) s.heap H locs) (hl : lv_has ls 4 [(0, .ref b), (1, .ref (s.heap.size + 0)), (2, .ref (s.heap.size + 195)), (3, .int (nI k))]) (hk : k + 6 ≤ L) (hL : L ≤ 3072) (hc : cells ≤ 600000) (hs : slots ≤ 7302250) (kk : ∀ (υ : zS) (H1 : Heap) (locs1 : List Loc), INV υ → zHP s.heap.size aS D cI cD (zwl υ) H1 → va_S (fun q => s.heap.size ≤ q) s.heap H1 locs1 → W p l e room_1 s m #[Value.ref b] below meth c H1 locs1 cells slots Q (F0 m 1355 ls [])) : W p l e room_1 s m #[Value.ref b] below meth c H locs cells slots Q (F0 m 805 ls []) := by
  obtain ⟨hx, hb, hr, hml, hown, hts, hX, hbl, hlocks, hgv⟩ := F.1
  have hbA : ¬ (fun q : Nat => s.heap.size ≤ q) b := Nat.not_le.mpr hbl
  refine lv_aload_n hx hb dL_805 rfl (lv_at hl 1 rfl) ?_
  refine lv_aload_n hx hb dL_806 rfl (lv_at hl 0 rfl) ?_
  refine lv_iload_n hx hb dL_807 rfl (lv_at hl 3 rfl) ?_
  refine lv_iconst (v := nI 1) hx hb dL_808 (by decide) ?_
  refine lv_iadd hx hb dL_809 ?_
  refine va_sld hx hb hX hbl hbA hS (lw_in (i := 1) (by decide) hk hL) dL_810 ?_
  refine lv_aload_n hx hb dL_811 rfl (lv_at hl 0 rfl) ?_
  refine lv_iload_n hx hb dL_812 rfl (lv_at hl 3 rfl) ?_
  refine lv_iconst (v := nI 2) hx hb dL_813 (by decide) ?_
  refine lv_iadd hx hb dL_814 ?_
  refine va_sld hx hb hX hbl hbA hS (lw_in (i := 2) (by decide) hk hL) dL_815 ?_
  obtain ⟨f0, hf0⟩ := zwl_0 (σ := σ)
  refine lcallV (idx := 88) (a := 138) (r := 0) (as' := [.int (xs (nI k + nI 1).toNatClampNeg), .int (xs (nI k + nI 2).toNatClampNeg)]) (rest := []) F hP hS hl.1 (c_caught σ hI) (by decide) rfl rfl (by decide +kernel) dL_816 rfl (Nat.le_of_ble_eq_true rfl) hf0 rfl (Nat.le_of_ble_eq_true rfl) hc hs (fun v τ hv H1 locs1 hP1 hS1 => ?_)
  refine lv_aload_n hx hb dL_819 rfl (lv_at hl 2 rfl) ?_
  refine lv_aload_n hx hb dL_820 rfl (lv_at hl 0 rfl) ?_
  refine lv_iload_n hx hb dL_821 rfl (lv_at hl 3 rfl) ?_
  refine lv_iconst (v := nI 1) hx hb dL_822 (by decide) ?_
  refine lv_iadd hx hb dL_823 ?_
  refine va_sld hx hb hX hbl hbA hS1 (lw_in (i := 1) (by decide) hk hL) dL_824 ?_
  refine lv_aload_n hx hb dL_825 rfl (lv_at hl 0 rfl) ?_
  refine lv_iload_n hx hb dL_826 rfl (lv_at hl 3 rfl) ?_
  refine lv_iconst (v := nI 2) hx hb dL_827 (by decide) ?_
  refine lv_iadd hx hb dL_828 ?_
  refine va_sld hx hb hX hbl hbA hS1 (lw_in (i := 2) (by decide) hk hL) dL_829 ?_
  obtain ⟨f1, hf1⟩ := zwl_195 (σ := τ)
  refine lcallV (idx := 91) (a := 258) (r := 195) (as' := [.int (xs (nI k + nI 1).toNatClampNeg), .int (xs (nI k + nI 2).toNatClampNeg)]) (rest := [.int v]) F hP1 hS1 hl.1 hv (by decide) rfl rfl (by decide +kernel) dL_830 rfl (Nat.le_of_ble_eq_true rfl) hf1 rfl (Nat.le_of_ble_eq_true rfl) hc hs (fun w υ hw H2 locs2 hP2 hS2 => ?_)
  exact lv_icmp_eq (tgt := 1355) hx hb dL_833 (by decide) (fun _ => kk υ H2 locs2 hw.2 hP2 hS2) (fun z => absurd hw.1.symm z)
set_option maxRecDepth 100000 in
theorem lk_18 {p : Program} {l : Launch} {e : Env} {s : State} {m : MethodId} {below : List Frame} {meth : Method} {c : Code} {H : Heap} {locs : List Loc} {cells slots : Nat} {Q : State → Prop} {ls : Array Slot} {D : va_G} {cI cD : ClassId} {aS aV b L k : Nat} {xs : Nat → Int32} {σ : zS} (F : LFx p s m meth c b L xs D cI cD aS aV) (hI : INV σ) (hP : zHP s.heap.size aS D cI cD (zwl σ) H) (hS : va_S (fun q => s.heap.size ≤ q) s.heap H locs) (hl : lv_has ls 4 [(0, .ref b), (1, .ref (s.heap.size + 0)), (2, .ref (s.heap.size + 195)), (3, .int (nI k))]) (hk : k + 6 ≤ L) (hL : L ≤ 3072) (hc : cells ≤ 600000) (hs : slots ≤ 7302250) (kk : ∀ (υ : zS) (H1 : Heap) (locs1 : List Loc), INV υ → zHP s.heap.size aS D cI cD (zwl υ) H1 → va_S (fun q => s.heap.size ≤ q) s.heap H1 locs1 → W p l e room_1 s m #[Value.ref b] below meth c H1 locs1 cells slots Q (F0 m 1355 ls [])) : W p l e room_1 s m #[Value.ref b] below meth c H locs cells slots Q (F0 m 838 ls []) := by
  obtain ⟨hx, hb, hr, hml, hown, hts, hX, hbl, hlocks, hgv⟩ := F.1
  have hbA : ¬ (fun q : Nat => s.heap.size ≤ q) b := Nat.not_le.mpr hbl
  refine lv_aload_n hx hb dL_838 rfl (lv_at hl 1 rfl) ?_
  refine lv_aload_n hx hb dL_839 rfl (lv_at hl 0 rfl) ?_
  refine lv_iload_n hx hb dL_840 rfl (lv_at hl 3 rfl) ?_
  refine lv_iconst (v := nI 1) hx hb dL_841 (by decide) ?_
  refine lv_iadd hx hb dL_842 ?_
  refine va_sld hx hb hX hbl hbA hS (lw_in (i := 1) (by decide) hk hL) dL_843 ?_
  refine lv_aload_n hx hb dL_844 rfl (lv_at hl 0 rfl) ?_
  refine lv_iload_n hx hb dL_845 rfl (lv_at hl 3 rfl) ?_
  refine lv_iconst (v := nI 2) hx hb dL_846 (by decide) ?_
  refine lv_iadd hx hb dL_847 ?_
  refine va_sld hx hb hX hbl hbA hS (lw_in (i := 2) (by decide) hk hL) dL_848 ?_
  refine lv_aload_n hx hb dL_849 rfl (lv_at hl 0 rfl) ?_
  refine lv_iload_n hx hb dL_850 rfl (lv_at hl 3 rfl) ?_
  refine lv_iconst (v := nI 3) hx hb dL_851 (by decide) ?_
  refine lv_iadd hx hb dL_852 ?_
  refine va_sld hx hb hX hbl hbA hS (lw_in (i := 3) (by decide) hk hL) dL_853 ?_
  refine lv_aload_n hx hb dL_854 rfl (lv_at hl 0 rfl) ?_
  refine lv_iload_n hx hb dL_855 rfl (lv_at hl 3 rfl) ?_
  refine lv_iconst (v := nI 4) hx hb dL_856 (by decide) ?_
  refine lv_iadd hx hb dL_857 ?_
  refine va_sld hx hb hX hbl hbA hS (lw_in (i := 4) (by decide) hk hL) dL_858 ?_
  obtain ⟨f0, hf0⟩ := zwl_0 (σ := σ)
  refine lcallV (idx := 92) (a := 139) (r := 0) (as' := [.int (xs (nI k + nI 1).toNatClampNeg), .int (xs (nI k + nI 2).toNatClampNeg), .int (xs (nI k + nI 3).toNatClampNeg), .int (xs (nI k + nI 4).toNatClampNeg)]) (rest := []) F hP hS hl.1 (c_said σ hI) (by decide) rfl rfl (by decide +kernel) dL_859 rfl (Nat.le_of_ble_eq_true rfl) hf0 rfl (Nat.le_of_ble_eq_true rfl) hc hs (fun v τ hv H1 locs1 hP1 hS1 => ?_)
  refine lv_aload_n hx hb dL_862 rfl (lv_at hl 2 rfl) ?_
  refine lv_aload_n hx hb dL_863 rfl (lv_at hl 0 rfl) ?_
  refine lv_iload_n hx hb dL_864 rfl (lv_at hl 3 rfl) ?_
  refine lv_iconst (v := nI 1) hx hb dL_865 (by decide) ?_
  refine lv_iadd hx hb dL_866 ?_
  refine va_sld hx hb hX hbl hbA hS1 (lw_in (i := 1) (by decide) hk hL) dL_867 ?_
  refine lv_aload_n hx hb dL_868 rfl (lv_at hl 0 rfl) ?_
  refine lv_iload_n hx hb dL_869 rfl (lv_at hl 3 rfl) ?_
  refine lv_iconst (v := nI 2) hx hb dL_870 (by decide) ?_
  refine lv_iadd hx hb dL_871 ?_
  refine va_sld hx hb hX hbl hbA hS1 (lw_in (i := 2) (by decide) hk hL) dL_872 ?_
  refine lv_aload_n hx hb dL_873 rfl (lv_at hl 0 rfl) ?_
  refine lv_iload_n hx hb dL_874 rfl (lv_at hl 3 rfl) ?_
  refine lv_iconst (v := nI 3) hx hb dL_875 (by decide) ?_
  refine lv_iadd hx hb dL_876 ?_
  refine va_sld hx hb hX hbl hbA hS1 (lw_in (i := 3) (by decide) hk hL) dL_877 ?_
  refine lv_aload_n hx hb dL_878 rfl (lv_at hl 0 rfl) ?_
  refine lv_iload_n hx hb dL_879 rfl (lv_at hl 3 rfl) ?_
  refine lv_iconst (v := nI 4) hx hb dL_880 (by decide) ?_
  refine lv_iadd hx hb dL_881 ?_
  refine va_sld hx hb hX hbl hbA hS1 (lw_in (i := 4) (by decide) hk hL) dL_882 ?_
  obtain ⟨f1, hf1⟩ := zwl_195 (σ := τ)
  refine lcallV (idx := 95) (a := 261) (r := 195) (as' := [.int (xs (nI k + nI 1).toNatClampNeg), .int (xs (nI k + nI 2).toNatClampNeg), .int (xs (nI k + nI 3).toNatClampNeg), .int (xs (nI k + nI 4).toNatClampNeg)]) (rest := [.int v]) F hP1 hS1 hl.1 hv (by decide) rfl rfl (by decide +kernel) dL_883 rfl (Nat.le_of_ble_eq_true rfl) hf1 rfl (Nat.le_of_ble_eq_true rfl) hc hs (fun w υ hw H2 locs2 hP2 hS2 => ?_)
  exact lv_icmp_eq (tgt := 1355) hx hb dL_886 (by decide) (fun _ => kk υ H2 locs2 hw.2 hP2 hS2) (fun z => absurd hw.1.symm z)
set_option maxRecDepth 100000 in
theorem lk_19 {p : Program} {l : Launch} {e : Env} {s : State} {m : MethodId} {below : List Frame} {meth : Method} {c : Code} {H : Heap} {locs : List Loc} {cells slots : Nat} {Q : State → Prop} {ls : Array Slot} {D : va_G} {cI cD : ClassId} {aS aV b L k : Nat} {xs : Nat → Int32} {σ : zS} (F : LFx p s m meth c b L xs D cI cD aS aV) (hI : INV σ) (hP : zHP s.heap.size aS D cI cD (zwl σ) H) (hS : va_S (fun q => s.heap.size ≤ q) s.heap H locs) (hl : lv_has ls 4 [(0, .ref b), (1, .ref (s.heap.size + 0)), (2, .ref (s.heap.size + 195)), (3, .int (nI k))]) (hk : k + 6 ≤ L) (hL : L ≤ 3072) (hc : cells ≤ 600000) (hs : slots ≤ 7302250) (kk : ∀ (υ : zS) (H1 : Heap) (locs1 : List Loc), INV υ → zHP s.heap.size aS D cI cD (zwl υ) H1 → va_S (fun q => s.heap.size ≤ q) s.heap H1 locs1 → W p l e room_1 s m #[Value.ref b] below meth c H1 locs1 cells slots Q (F0 m 1355 ls [])) : W p l e room_1 s m #[Value.ref b] below meth c H locs cells slots Q (F0 m 891 ls []) := by
  obtain ⟨hx, hb, hr, hml, hown, hts, hX, hbl, hlocks, hgv⟩ := F.1
  have hbA : ¬ (fun q : Nat => s.heap.size ≤ q) b := Nat.not_le.mpr hbl
  refine lv_aload_n hx hb dL_891 rfl (lv_at hl 1 rfl) ?_
  refine lv_aload_n hx hb dL_892 rfl (lv_at hl 0 rfl) ?_
  refine lv_iload_n hx hb dL_893 rfl (lv_at hl 3 rfl) ?_
  refine lv_iconst (v := nI 1) hx hb dL_894 (by decide) ?_
  refine lv_iadd hx hb dL_895 ?_
  refine va_sld hx hb hX hbl hbA hS (lw_in (i := 1) (by decide) hk hL) dL_896 ?_
  obtain ⟨f0, hf0⟩ := zwl_0 (σ := σ)
  refine lcallV (idx := 96) (a := 140) (r := 0) (as' := [.int (xs (nI k + nI 1).toNatClampNeg)]) (rest := []) F hP hS hl.1 (c_prophet σ hI) (by decide) rfl rfl (by decide +kernel) dL_897 rfl (Nat.le_of_ble_eq_true rfl) hf0 rfl (Nat.le_of_ble_eq_true rfl) hc hs (fun v τ hv H1 locs1 hP1 hS1 => ?_)
  refine lv_aload_n hx hb dL_900 rfl (lv_at hl 2 rfl) ?_
  refine lv_aload_n hx hb dL_901 rfl (lv_at hl 0 rfl) ?_
  refine lv_iload_n hx hb dL_902 rfl (lv_at hl 3 rfl) ?_
  refine lv_iconst (v := nI 1) hx hb dL_903 (by decide) ?_
  refine lv_iadd hx hb dL_904 ?_
  refine va_sld hx hb hX hbl hbA hS1 (lw_in (i := 1) (by decide) hk hL) dL_905 ?_
  obtain ⟨f1, hf1⟩ := zwl_195 (σ := τ)
  refine lcallV (idx := 99) (a := 262) (r := 195) (as' := [.int (xs (nI k + nI 1).toNatClampNeg)]) (rest := [.int v]) F hP1 hS1 hl.1 hv (by decide) rfl rfl (by decide +kernel) dL_906 rfl (Nat.le_of_ble_eq_true rfl) hf1 rfl (Nat.le_of_ble_eq_true rfl) hc hs (fun w υ hw H2 locs2 hP2 hS2 => ?_)
  exact lv_icmp_eq (tgt := 1355) hx hb dL_909 (by decide) (fun _ => kk υ H2 locs2 hw.2 hP2 hS2) (fun z => absurd hw.1.symm z)
set_option maxRecDepth 100000 in
theorem lk_20 {p : Program} {l : Launch} {e : Env} {s : State} {m : MethodId} {below : List Frame} {meth : Method} {c : Code} {H : Heap} {locs : List Loc} {cells slots : Nat} {Q : State → Prop} {ls : Array Slot} {D : va_G} {cI cD : ClassId} {aS aV b L k : Nat} {xs : Nat → Int32} {σ : zS} (F : LFx p s m meth c b L xs D cI cD aS aV) (hI : INV σ) (hP : zHP s.heap.size aS D cI cD (zwl σ) H) (hS : va_S (fun q => s.heap.size ≤ q) s.heap H locs) (hl : lv_has ls 4 [(0, .ref b), (1, .ref (s.heap.size + 0)), (2, .ref (s.heap.size + 195)), (3, .int (nI k))]) (hk : k + 6 ≤ L) (hL : L ≤ 3072) (hc : cells ≤ 600000) (hs : slots ≤ 7302250) (kk : ∀ (υ : zS) (H1 : Heap) (locs1 : List Loc), INV υ → zHP s.heap.size aS D cI cD (zwl υ) H1 → va_S (fun q => s.heap.size ≤ q) s.heap H1 locs1 → W p l e room_1 s m #[Value.ref b] below meth c H1 locs1 cells slots Q (F0 m 1355 ls [])) : W p l e room_1 s m #[Value.ref b] below meth c H locs cells slots Q (F0 m 914 ls []) := by
  obtain ⟨hx, hb, hr, hml, hown, hts, hX, hbl, hlocks, hgv⟩ := F.1
  have hbA : ¬ (fun q : Nat => s.heap.size ≤ q) b := Nat.not_le.mpr hbl
  refine lv_aload_n hx hb dL_914 rfl (lv_at hl 1 rfl) ?_
  refine lv_aload_n hx hb dL_915 rfl (lv_at hl 0 rfl) ?_
  refine lv_iload_n hx hb dL_916 rfl (lv_at hl 3 rfl) ?_
  refine lv_iconst (v := nI 1) hx hb dL_917 (by decide) ?_
  refine lv_iadd hx hb dL_918 ?_
  refine va_sld hx hb hX hbl hbA hS (lw_in (i := 1) (by decide) hk hL) dL_919 ?_
  refine lv_aload_n hx hb dL_920 rfl (lv_at hl 0 rfl) ?_
  refine lv_iload_n hx hb dL_921 rfl (lv_at hl 3 rfl) ?_
  refine lv_iconst (v := nI 2) hx hb dL_922 (by decide) ?_
  refine lv_iadd hx hb dL_923 ?_
  refine va_sld hx hb hX hbl hbA hS (lw_in (i := 2) (by decide) hk hL) dL_924 ?_
  refine lv_aload_n hx hb dL_925 rfl (lv_at hl 0 rfl) ?_
  refine lv_iload_n hx hb dL_926 rfl (lv_at hl 3 rfl) ?_
  refine lv_iconst (v := nI 3) hx hb dL_927 (by decide) ?_
  refine lv_iadd hx hb dL_928 ?_
  refine va_sld hx hb hX hbl hbA hS (lw_in (i := 3) (by decide) hk hL) dL_929 ?_
  obtain ⟨f0, hf0⟩ := zwl_0 (σ := σ)
  refine lcallV (idx := 100) (a := 141) (r := 0) (as' := [.int (xs (nI k + nI 1).toNatClampNeg), .int (xs (nI k + nI 2).toNatClampNeg), .int (xs (nI k + nI 3).toNatClampNeg)]) (rest := []) F hP hS hl.1 (c_wrong σ hI) (by decide) rfl rfl (by decide +kernel) dL_930 rfl (Nat.le_of_ble_eq_true rfl) hf0 rfl (Nat.le_of_ble_eq_true rfl) hc hs (fun v τ hv H1 locs1 hP1 hS1 => ?_)
  refine lv_aload_n hx hb dL_933 rfl (lv_at hl 2 rfl) ?_
  refine lv_aload_n hx hb dL_934 rfl (lv_at hl 0 rfl) ?_
  refine lv_iload_n hx hb dL_935 rfl (lv_at hl 3 rfl) ?_
  refine lv_iconst (v := nI 1) hx hb dL_936 (by decide) ?_
  refine lv_iadd hx hb dL_937 ?_
  refine va_sld hx hb hX hbl hbA hS1 (lw_in (i := 1) (by decide) hk hL) dL_938 ?_
  refine lv_aload_n hx hb dL_939 rfl (lv_at hl 0 rfl) ?_
  refine lv_iload_n hx hb dL_940 rfl (lv_at hl 3 rfl) ?_
  refine lv_iconst (v := nI 2) hx hb dL_941 (by decide) ?_
  refine lv_iadd hx hb dL_942 ?_
  refine va_sld hx hb hX hbl hbA hS1 (lw_in (i := 2) (by decide) hk hL) dL_943 ?_
  refine lv_aload_n hx hb dL_944 rfl (lv_at hl 0 rfl) ?_
  refine lv_iload_n hx hb dL_945 rfl (lv_at hl 3 rfl) ?_
  refine lv_iconst (v := nI 3) hx hb dL_946 (by decide) ?_
  refine lv_iadd hx hb dL_947 ?_
  refine va_sld hx hb hX hbl hbA hS1 (lw_in (i := 3) (by decide) hk hL) dL_948 ?_
  obtain ⟨f1, hf1⟩ := zwl_195 (σ := τ)
  refine lcallV (idx := 104) (a := 264) (r := 195) (as' := [.int (xs (nI k + nI 1).toNatClampNeg), .int (xs (nI k + nI 2).toNatClampNeg), .int (xs (nI k + nI 3).toNatClampNeg)]) (rest := [.int v]) F hP1 hS1 hl.1 hv (by decide) rfl rfl (by decide +kernel) dL_949 rfl (Nat.le_of_ble_eq_true rfl) hf1 rfl (Nat.le_of_ble_eq_true rfl) hc hs (fun w υ hw H2 locs2 hP2 hS2 => ?_)
  exact lv_icmp_eq (tgt := 1355) hx hb dL_952 (by decide) (fun _ => kk υ H2 locs2 hw.2 hP2 hS2) (fun z => absurd hw.1.symm z)
set_option maxRecDepth 100000 in
theorem lk_21 {p : Program} {l : Launch} {e : Env} {s : State} {m : MethodId} {below : List Frame} {meth : Method} {c : Code} {H : Heap} {locs : List Loc} {cells slots : Nat} {Q : State → Prop} {ls : Array Slot} {D : va_G} {cI cD : ClassId} {aS aV b L k : Nat} {xs : Nat → Int32} {σ : zS} (F : LFx p s m meth c b L xs D cI cD aS aV) (hI : INV σ) (hP : zHP s.heap.size aS D cI cD (zwl σ) H) (hS : va_S (fun q => s.heap.size ≤ q) s.heap H locs) (hl : lv_has ls 4 [(0, .ref b), (1, .ref (s.heap.size + 0)), (2, .ref (s.heap.size + 195)), (3, .int (nI k))]) (hk : k + 6 ≤ L) (hL : L ≤ 3072) (hc : cells ≤ 600000) (hs : slots ≤ 7302250) (kk : ∀ (υ : zS) (H1 : Heap) (locs1 : List Loc), INV υ → zHP s.heap.size aS D cI cD (zwl υ) H1 → va_S (fun q => s.heap.size ≤ q) s.heap H1 locs1 → W p l e room_1 s m #[Value.ref b] below meth c H1 locs1 cells slots Q (F0 m 1355 ls [])) : W p l e room_1 s m #[Value.ref b] below meth c H locs cells slots Q (F0 m 957 ls []) := by
  obtain ⟨hx, hb, hr, hml, hown, hts, hX, hbl, hlocks, hgv⟩ := F.1
  have hbA : ¬ (fun q : Nat => s.heap.size ≤ q) b := Nat.not_le.mpr hbl
  refine lv_aload_n hx hb dL_957 rfl (lv_at hl 1 rfl) ?_
  refine lv_aload_n hx hb dL_958 rfl (lv_at hl 0 rfl) ?_
  refine lv_iload_n hx hb dL_959 rfl (lv_at hl 3 rfl) ?_
  refine lv_iconst (v := nI 1) hx hb dL_960 (by decide) ?_
  refine lv_iadd hx hb dL_961 ?_
  refine va_sld hx hb hX hbl hbA hS (lw_in (i := 1) (by decide) hk hL) dL_962 ?_
  obtain ⟨f0, hf0⟩ := zwl_0 (σ := σ)
  refine lcallV (idx := 105) (a := 142) (r := 0) (as' := [.int (xs (nI k + nI 1).toNatClampNeg)]) (rest := []) F hP hS hl.1 (c_spell σ hI) (by decide) rfl rfl (by decide +kernel) dL_963 rfl (Nat.le_of_ble_eq_true rfl) hf0 rfl (Nat.le_of_ble_eq_true rfl) hc hs (fun v τ hv H1 locs1 hP1 hS1 => ?_)
  refine lv_aload_n hx hb dL_966 rfl (lv_at hl 2 rfl) ?_
  refine lv_aload_n hx hb dL_967 rfl (lv_at hl 0 rfl) ?_
  refine lv_iload_n hx hb dL_968 rfl (lv_at hl 3 rfl) ?_
  refine lv_iconst (v := nI 1) hx hb dL_969 (by decide) ?_
  refine lv_iadd hx hb dL_970 ?_
  refine va_sld hx hb hX hbl hbA hS1 (lw_in (i := 1) (by decide) hk hL) dL_971 ?_
  obtain ⟨f1, hf1⟩ := zwl_195 (σ := τ)
  refine lcallV (idx := 108) (a := 265) (r := 195) (as' := [.int (xs (nI k + nI 1).toNatClampNeg)]) (rest := [.int v]) F hP1 hS1 hl.1 hv (by decide) rfl rfl (by decide +kernel) dL_972 rfl (Nat.le_of_ble_eq_true rfl) hf1 rfl (Nat.le_of_ble_eq_true rfl) hc hs (fun w υ hw H2 locs2 hP2 hS2 => ?_)
  exact lv_icmp_eq (tgt := 1355) hx hb dL_975 (by decide) (fun _ => kk υ H2 locs2 hw.2 hP2 hS2) (fun z => absurd hw.1.symm z)
set_option maxRecDepth 100000 in
theorem lk_22 {p : Program} {l : Launch} {e : Env} {s : State} {m : MethodId} {below : List Frame} {meth : Method} {c : Code} {H : Heap} {locs : List Loc} {cells slots : Nat} {Q : State → Prop} {ls : Array Slot} {D : va_G} {cI cD : ClassId} {aS aV b L k : Nat} {xs : Nat → Int32} {σ : zS} (F : LFx p s m meth c b L xs D cI cD aS aV) (hI : INV σ) (hP : zHP s.heap.size aS D cI cD (zwl σ) H) (hS : va_S (fun q => s.heap.size ≤ q) s.heap H locs) (hl : lv_has ls 4 [(0, .ref b), (1, .ref (s.heap.size + 0)), (2, .ref (s.heap.size + 195)), (3, .int (nI k))]) (hk : k + 6 ≤ L) (hL : L ≤ 3072) (hc : cells ≤ 600000) (hs : slots ≤ 7302250) (kk : ∀ (υ : zS) (H1 : Heap) (locs1 : List Loc), INV υ → zHP s.heap.size aS D cI cD (zwl υ) H1 → va_S (fun q => s.heap.size ≤ q) s.heap H1 locs1 → W p l e room_1 s m #[Value.ref b] below meth c H1 locs1 cells slots Q (F0 m 1355 ls [])) : W p l e room_1 s m #[Value.ref b] below meth c H locs cells slots Q (F0 m 980 ls []) := by
  obtain ⟨hx, hb, hr, hml, hown, hts, hX, hbl, hlocks, hgv⟩ := F.1
  have hbA : ¬ (fun q : Nat => s.heap.size ≤ q) b := Nat.not_le.mpr hbl
  refine lv_aload_n hx hb dL_980 rfl (lv_at hl 1 rfl) ?_
  refine lv_aload_n hx hb dL_981 rfl (lv_at hl 0 rfl) ?_
  refine lv_iload_n hx hb dL_982 rfl (lv_at hl 3 rfl) ?_
  refine lv_iconst (v := nI 1) hx hb dL_983 (by decide) ?_
  refine lv_iadd hx hb dL_984 ?_
  refine va_sld hx hb hX hbl hbA hS (lw_in (i := 1) (by decide) hk hL) dL_985 ?_
  obtain ⟨f0, hf0⟩ := zwl_0 (σ := σ)
  refine lcallV (idx := 109) (a := 143) (r := 0) (as' := [.int (xs (nI k + nI 1).toNatClampNeg)]) (rest := []) F hP hS hl.1 (c_together σ hI) (by decide) rfl rfl (by decide +kernel) dL_986 rfl (Nat.le_of_ble_eq_true rfl) hf0 rfl (Nat.le_of_ble_eq_true rfl) hc hs (fun v τ hv H1 locs1 hP1 hS1 => ?_)
  refine lv_aload_n hx hb dL_989 rfl (lv_at hl 2 rfl) ?_
  refine lv_aload_n hx hb dL_990 rfl (lv_at hl 0 rfl) ?_
  refine lv_iload_n hx hb dL_991 rfl (lv_at hl 3 rfl) ?_
  refine lv_iconst (v := nI 1) hx hb dL_992 (by decide) ?_
  refine lv_iadd hx hb dL_993 ?_
  refine va_sld hx hb hX hbl hbA hS1 (lw_in (i := 1) (by decide) hk hL) dL_994 ?_
  obtain ⟨f1, hf1⟩ := zwl_195 (σ := τ)
  refine lcallV (idx := 112) (a := 270) (r := 195) (as' := [.int (xs (nI k + nI 1).toNatClampNeg)]) (rest := [.int v]) F hP1 hS1 hl.1 hv (by decide) rfl rfl (by decide +kernel) dL_995 rfl (Nat.le_of_ble_eq_true rfl) hf1 rfl (Nat.le_of_ble_eq_true rfl) hc hs (fun w υ hw H2 locs2 hP2 hS2 => ?_)
  exact lv_icmp_eq (tgt := 1355) hx hb dL_998 (by decide) (fun _ => kk υ H2 locs2 hw.2 hP2 hS2) (fun z => absurd hw.1.symm z)
set_option maxRecDepth 100000 in
theorem lk_23 {p : Program} {l : Launch} {e : Env} {s : State} {m : MethodId} {below : List Frame} {meth : Method} {c : Code} {H : Heap} {locs : List Loc} {cells slots : Nat} {Q : State → Prop} {ls : Array Slot} {D : va_G} {cI cD : ClassId} {aS aV b L k : Nat} {xs : Nat → Int32} {σ : zS} (F : LFx p s m meth c b L xs D cI cD aS aV) (hI : INV σ) (hP : zHP s.heap.size aS D cI cD (zwl σ) H) (hS : va_S (fun q => s.heap.size ≤ q) s.heap H locs) (hl : lv_has ls 4 [(0, .ref b), (1, .ref (s.heap.size + 0)), (2, .ref (s.heap.size + 195)), (3, .int (nI k))]) (hk : k + 6 ≤ L) (hL : L ≤ 3072) (hc : cells ≤ 600000) (hs : slots ≤ 7302250) (kk : ∀ (υ : zS) (H1 : Heap) (locs1 : List Loc), INV υ → zHP s.heap.size aS D cI cD (zwl υ) H1 → va_S (fun q => s.heap.size ≤ q) s.heap H1 locs1 → W p l e room_1 s m #[Value.ref b] below meth c H1 locs1 cells slots Q (F0 m 1355 ls [])) : W p l e room_1 s m #[Value.ref b] below meth c H locs cells slots Q (F0 m 1003 ls []) := by
  obtain ⟨hx, hb, hr, hml, hown, hts, hX, hbl, hlocks, hgv⟩ := F.1
  have hbA : ¬ (fun q : Nat => s.heap.size ≤ q) b := Nat.not_le.mpr hbl
  refine lv_aload_n hx hb dL_1003 rfl (lv_at hl 1 rfl) ?_
  refine lv_aload_n hx hb dL_1004 rfl (lv_at hl 0 rfl) ?_
  refine lv_iload_n hx hb dL_1005 rfl (lv_at hl 3 rfl) ?_
  refine lv_iconst (v := nI 1) hx hb dL_1006 (by decide) ?_
  refine lv_iadd hx hb dL_1007 ?_
  refine va_sld hx hb hX hbl hbA hS (lw_in (i := 1) (by decide) hk hL) dL_1008 ?_
  refine lv_aload_n hx hb dL_1009 rfl (lv_at hl 0 rfl) ?_
  refine lv_iload_n hx hb dL_1010 rfl (lv_at hl 3 rfl) ?_
  refine lv_iconst (v := nI 2) hx hb dL_1011 (by decide) ?_
  refine lv_iadd hx hb dL_1012 ?_
  refine va_sld hx hb hX hbl hbA hS (lw_in (i := 2) (by decide) hk hL) dL_1013 ?_
  obtain ⟨f0, hf0⟩ := zwl_0 (σ := σ)
  refine lcallV (idx := 113) (a := 144) (r := 0) (as' := [.int (xs (nI k + nI 1).toNatClampNeg), .int (xs (nI k + nI 2).toNatClampNeg)]) (rest := []) F hP hS hl.1 (c_ranks σ hI) (by decide) rfl rfl (by decide +kernel) dL_1014 rfl (Nat.le_of_ble_eq_true rfl) hf0 rfl (Nat.le_of_ble_eq_true rfl) hc hs (fun v τ hv H1 locs1 hP1 hS1 => ?_)
  refine lv_aload_n hx hb dL_1017 rfl (lv_at hl 2 rfl) ?_
  refine lv_aload_n hx hb dL_1018 rfl (lv_at hl 0 rfl) ?_
  refine lv_iload_n hx hb dL_1019 rfl (lv_at hl 3 rfl) ?_
  refine lv_iconst (v := nI 1) hx hb dL_1020 (by decide) ?_
  refine lv_iadd hx hb dL_1021 ?_
  refine va_sld hx hb hX hbl hbA hS1 (lw_in (i := 1) (by decide) hk hL) dL_1022 ?_
  refine lv_aload_n hx hb dL_1023 rfl (lv_at hl 0 rfl) ?_
  refine lv_iload_n hx hb dL_1024 rfl (lv_at hl 3 rfl) ?_
  refine lv_iconst (v := nI 2) hx hb dL_1025 (by decide) ?_
  refine lv_iadd hx hb dL_1026 ?_
  refine va_sld hx hb hX hbl hbA hS1 (lw_in (i := 2) (by decide) hk hL) dL_1027 ?_
  obtain ⟨f1, hf1⟩ := zwl_195 (σ := τ)
  refine lcallV (idx := 116) (a := 271) (r := 195) (as' := [.int (xs (nI k + nI 1).toNatClampNeg), .int (xs (nI k + nI 2).toNatClampNeg)]) (rest := [.int v]) F hP1 hS1 hl.1 hv (by decide) rfl rfl (by decide +kernel) dL_1028 rfl (Nat.le_of_ble_eq_true rfl) hf1 rfl (Nat.le_of_ble_eq_true rfl) hc hs (fun w υ hw H2 locs2 hP2 hS2 => ?_)
  exact lv_icmp_eq (tgt := 1355) hx hb dL_1031 (by decide) (fun _ => kk υ H2 locs2 hw.2 hP2 hS2) (fun z => absurd hw.1.symm z)
set_option maxRecDepth 100000 in
theorem lk_24 {p : Program} {l : Launch} {e : Env} {s : State} {m : MethodId} {below : List Frame} {meth : Method} {c : Code} {H : Heap} {locs : List Loc} {cells slots : Nat} {Q : State → Prop} {ls : Array Slot} {D : va_G} {cI cD : ClassId} {aS aV b L k : Nat} {xs : Nat → Int32} {σ : zS} (F : LFx p s m meth c b L xs D cI cD aS aV) (hI : INV σ) (hP : zHP s.heap.size aS D cI cD (zwl σ) H) (hS : va_S (fun q => s.heap.size ≤ q) s.heap H locs) (hl : lv_has ls 4 [(0, .ref b), (1, .ref (s.heap.size + 0)), (2, .ref (s.heap.size + 195)), (3, .int (nI k))]) (hk : k + 6 ≤ L) (hL : L ≤ 3072) (hc : cells ≤ 600000) (hs : slots ≤ 7302250) (kk : ∀ (υ : zS) (H1 : Heap) (locs1 : List Loc), INV υ → zHP s.heap.size aS D cI cD (zwl υ) H1 → va_S (fun q => s.heap.size ≤ q) s.heap H1 locs1 → W p l e room_1 s m #[Value.ref b] below meth c H1 locs1 cells slots Q (F0 m 1355 ls [])) : W p l e room_1 s m #[Value.ref b] below meth c H locs cells slots Q (F0 m 1036 ls []) := by
  obtain ⟨hx, hb, hr, hml, hown, hts, hX, hbl, hlocks, hgv⟩ := F.1
  have hbA : ¬ (fun q : Nat => s.heap.size ≤ q) b := Nat.not_le.mpr hbl
  refine lv_aload_n hx hb dL_1036 rfl (lv_at hl 1 rfl) ?_
  refine lv_aload_n hx hb dL_1037 rfl (lv_at hl 0 rfl) ?_
  refine lv_iload_n hx hb dL_1038 rfl (lv_at hl 3 rfl) ?_
  refine lv_iconst (v := nI 1) hx hb dL_1039 (by decide) ?_
  refine lv_iadd hx hb dL_1040 ?_
  refine va_sld hx hb hX hbl hbA hS (lw_in (i := 1) (by decide) hk hL) dL_1041 ?_
  refine lv_aload_n hx hb dL_1042 rfl (lv_at hl 0 rfl) ?_
  refine lv_iload_n hx hb dL_1043 rfl (lv_at hl 3 rfl) ?_
  refine lv_iconst (v := nI 2) hx hb dL_1044 (by decide) ?_
  refine lv_iadd hx hb dL_1045 ?_
  refine va_sld hx hb hX hbl hbA hS (lw_in (i := 2) (by decide) hk hL) dL_1046 ?_
  obtain ⟨f0, hf0⟩ := zwl_0 (σ := σ)
  refine lcallV (idx := 117) (a := 145) (r := 0) (as' := [.int (xs (nI k + nI 1).toNatClampNeg), .int (xs (nI k + nI 2).toNatClampNeg)]) (rest := []) F hP hS hl.1 (c_comer σ hI) (by decide) rfl rfl (by decide +kernel) dL_1047 rfl (Nat.le_of_ble_eq_true rfl) hf0 rfl (Nat.le_of_ble_eq_true rfl) hc hs (fun v τ hv H1 locs1 hP1 hS1 => ?_)
  refine lv_aload_n hx hb dL_1050 rfl (lv_at hl 2 rfl) ?_
  refine lv_aload_n hx hb dL_1051 rfl (lv_at hl 0 rfl) ?_
  refine lv_iload_n hx hb dL_1052 rfl (lv_at hl 3 rfl) ?_
  refine lv_iconst (v := nI 1) hx hb dL_1053 (by decide) ?_
  refine lv_iadd hx hb dL_1054 ?_
  refine va_sld hx hb hX hbl hbA hS1 (lw_in (i := 1) (by decide) hk hL) dL_1055 ?_
  refine lv_aload_n hx hb dL_1056 rfl (lv_at hl 0 rfl) ?_
  refine lv_iload_n hx hb dL_1057 rfl (lv_at hl 3 rfl) ?_
  refine lv_iconst (v := nI 2) hx hb dL_1058 (by decide) ?_
  refine lv_iadd hx hb dL_1059 ?_
  refine va_sld hx hb hX hbl hbA hS1 (lw_in (i := 2) (by decide) hk hL) dL_1060 ?_
  obtain ⟨f1, hf1⟩ := zwl_195 (σ := τ)
  refine lcallV (idx := 120) (a := 272) (r := 195) (as' := [.int (xs (nI k + nI 1).toNatClampNeg), .int (xs (nI k + nI 2).toNatClampNeg)]) (rest := [.int v]) F hP1 hS1 hl.1 hv (by decide) rfl rfl (by decide +kernel) dL_1061 rfl (Nat.le_of_ble_eq_true rfl) hf1 rfl (Nat.le_of_ble_eq_true rfl) hc hs (fun w υ hw H2 locs2 hP2 hS2 => ?_)
  exact lv_icmp_eq (tgt := 1355) hx hb dL_1064 (by decide) (fun _ => kk υ H2 locs2 hw.2 hP2 hS2) (fun z => absurd hw.1.symm z)
set_option maxRecDepth 100000 in
theorem lk_25 {p : Program} {l : Launch} {e : Env} {s : State} {m : MethodId} {below : List Frame} {meth : Method} {c : Code} {H : Heap} {locs : List Loc} {cells slots : Nat} {Q : State → Prop} {ls : Array Slot} {D : va_G} {cI cD : ClassId} {aS aV b L k : Nat} {xs : Nat → Int32} {σ : zS} (F : LFx p s m meth c b L xs D cI cD aS aV) (hI : INV σ) (hP : zHP s.heap.size aS D cI cD (zwl σ) H) (hS : va_S (fun q => s.heap.size ≤ q) s.heap H locs) (hl : lv_has ls 4 [(0, .ref b), (1, .ref (s.heap.size + 0)), (2, .ref (s.heap.size + 195)), (3, .int (nI k))]) (hk : k + 6 ≤ L) (hL : L ≤ 3072) (hc : cells ≤ 600000) (hs : slots ≤ 7302250) (kk : ∀ (υ : zS) (H1 : Heap) (locs1 : List Loc), INV υ → zHP s.heap.size aS D cI cD (zwl υ) H1 → va_S (fun q => s.heap.size ≤ q) s.heap H1 locs1 → W p l e room_1 s m #[Value.ref b] below meth c H1 locs1 cells slots Q (F0 m 1355 ls [])) : W p l e room_1 s m #[Value.ref b] below meth c H locs cells slots Q (F0 m 1069 ls []) := by
  obtain ⟨hx, hb, hr, hml, hown, hts, hX, hbl, hlocks, hgv⟩ := F.1
  have hbA : ¬ (fun q : Nat => s.heap.size ≤ q) b := Nat.not_le.mpr hbl
  refine lv_aload_n hx hb dL_1069 rfl (lv_at hl 1 rfl) ?_
  refine lv_aload_n hx hb dL_1070 rfl (lv_at hl 0 rfl) ?_
  refine lv_iload_n hx hb dL_1071 rfl (lv_at hl 3 rfl) ?_
  refine lv_iconst (v := nI 1) hx hb dL_1072 (by decide) ?_
  refine lv_iadd hx hb dL_1073 ?_
  refine va_sld hx hb hX hbl hbA hS (lw_in (i := 1) (by decide) hk hL) dL_1074 ?_
  refine lv_aload_n hx hb dL_1075 rfl (lv_at hl 0 rfl) ?_
  refine lv_iload_n hx hb dL_1076 rfl (lv_at hl 3 rfl) ?_
  refine lv_iconst (v := nI 2) hx hb dL_1077 (by decide) ?_
  refine lv_iadd hx hb dL_1078 ?_
  refine va_sld hx hb hX hbl hbA hS (lw_in (i := 2) (by decide) hk hL) dL_1079 ?_
  obtain ⟨f0, hf0⟩ := zwl_0 (σ := σ)
  refine lcallV (idx := 121) (a := 146) (r := 0) (as' := [.int (xs (nI k + nI 1).toNatClampNeg), .int (xs (nI k + nI 2).toNatClampNeg)]) (rest := []) F hP hS hl.1 (c_queue σ hI) (by decide) rfl rfl (by decide +kernel) dL_1080 rfl (Nat.le_of_ble_eq_true rfl) hf0 rfl (Nat.le_of_ble_eq_true rfl) hc hs (fun v τ hv H1 locs1 hP1 hS1 => ?_)
  refine lv_aload_n hx hb dL_1083 rfl (lv_at hl 2 rfl) ?_
  refine lv_aload_n hx hb dL_1084 rfl (lv_at hl 0 rfl) ?_
  refine lv_iload_n hx hb dL_1085 rfl (lv_at hl 3 rfl) ?_
  refine lv_iconst (v := nI 1) hx hb dL_1086 (by decide) ?_
  refine lv_iadd hx hb dL_1087 ?_
  refine va_sld hx hb hX hbl hbA hS1 (lw_in (i := 1) (by decide) hk hL) dL_1088 ?_
  refine lv_aload_n hx hb dL_1089 rfl (lv_at hl 0 rfl) ?_
  refine lv_iload_n hx hb dL_1090 rfl (lv_at hl 3 rfl) ?_
  refine lv_iconst (v := nI 2) hx hb dL_1091 (by decide) ?_
  refine lv_iadd hx hb dL_1092 ?_
  refine va_sld hx hb hX hbl hbA hS1 (lw_in (i := 2) (by decide) hk hL) dL_1093 ?_
  obtain ⟨f1, hf1⟩ := zwl_195 (σ := τ)
  refine lcallV (idx := 124) (a := 274) (r := 195) (as' := [.int (xs (nI k + nI 1).toNatClampNeg), .int (xs (nI k + nI 2).toNatClampNeg)]) (rest := [.int v]) F hP1 hS1 hl.1 hv (by decide) rfl rfl (by decide +kernel) dL_1094 rfl (Nat.le_of_ble_eq_true rfl) hf1 rfl (Nat.le_of_ble_eq_true rfl) hc hs (fun w υ hw H2 locs2 hP2 hS2 => ?_)
  exact lv_icmp_eq (tgt := 1355) hx hb dL_1097 (by decide) (fun _ => kk υ H2 locs2 hw.2 hP2 hS2) (fun z => absurd hw.1.symm z)
set_option maxRecDepth 100000 in
theorem lk_26 {p : Program} {l : Launch} {e : Env} {s : State} {m : MethodId} {below : List Frame} {meth : Method} {c : Code} {H : Heap} {locs : List Loc} {cells slots : Nat} {Q : State → Prop} {ls : Array Slot} {D : va_G} {cI cD : ClassId} {aS aV b L k : Nat} {xs : Nat → Int32} {σ : zS} (F : LFx p s m meth c b L xs D cI cD aS aV) (hI : INV σ) (hP : zHP s.heap.size aS D cI cD (zwl σ) H) (hS : va_S (fun q => s.heap.size ≤ q) s.heap H locs) (hl : lv_has ls 4 [(0, .ref b), (1, .ref (s.heap.size + 0)), (2, .ref (s.heap.size + 195)), (3, .int (nI k))]) (hk : k + 6 ≤ L) (hL : L ≤ 3072) (hc : cells ≤ 600000) (hs : slots ≤ 7302250) (kk : ∀ (υ : zS) (H1 : Heap) (locs1 : List Loc), INV υ → zHP s.heap.size aS D cI cD (zwl υ) H1 → va_S (fun q => s.heap.size ≤ q) s.heap H1 locs1 → W p l e room_1 s m #[Value.ref b] below meth c H1 locs1 cells slots Q (F0 m 1355 ls [])) : W p l e room_1 s m #[Value.ref b] below meth c H locs cells slots Q (F0 m 1102 ls []) := by
  obtain ⟨hx, hb, hr, hml, hown, hts, hX, hbl, hlocks, hgv⟩ := F.1
  have hbA : ¬ (fun q : Nat => s.heap.size ≤ q) b := Nat.not_le.mpr hbl
  refine lv_aload_n hx hb dL_1102 rfl (lv_at hl 1 rfl) ?_
  refine lv_aload_n hx hb dL_1103 rfl (lv_at hl 0 rfl) ?_
  refine lv_iload_n hx hb dL_1104 rfl (lv_at hl 3 rfl) ?_
  refine lv_iconst (v := nI 1) hx hb dL_1105 (by decide) ?_
  refine lv_iadd hx hb dL_1106 ?_
  refine va_sld hx hb hX hbl hbA hS (lw_in (i := 1) (by decide) hk hL) dL_1107 ?_
  refine lv_aload_n hx hb dL_1108 rfl (lv_at hl 0 rfl) ?_
  refine lv_iload_n hx hb dL_1109 rfl (lv_at hl 3 rfl) ?_
  refine lv_iconst (v := nI 2) hx hb dL_1110 (by decide) ?_
  refine lv_iadd hx hb dL_1111 ?_
  refine va_sld hx hb hX hbl hbA hS (lw_in (i := 2) (by decide) hk hL) dL_1112 ?_
  obtain ⟨f0, hf0⟩ := zwl_0 (σ := σ)
  refine lcallV (idx := 125) (a := 147) (r := 0) (as' := [.int (xs (nI k + nI 1).toNatClampNeg), .int (xs (nI k + nI 2).toNatClampNeg)]) (rest := []) F hP hS hl.1 (c_letter σ hI) (by decide) rfl rfl (by decide +kernel) dL_1113 rfl (Nat.le_of_ble_eq_true rfl) hf0 rfl (Nat.le_of_ble_eq_true rfl) hc hs (fun v τ hv H1 locs1 hP1 hS1 => ?_)
  refine lv_aload_n hx hb dL_1116 rfl (lv_at hl 2 rfl) ?_
  refine lv_aload_n hx hb dL_1117 rfl (lv_at hl 0 rfl) ?_
  refine lv_iload_n hx hb dL_1118 rfl (lv_at hl 3 rfl) ?_
  refine lv_iconst (v := nI 1) hx hb dL_1119 (by decide) ?_
  refine lv_iadd hx hb dL_1120 ?_
  refine va_sld hx hb hX hbl hbA hS1 (lw_in (i := 1) (by decide) hk hL) dL_1121 ?_
  refine lv_aload_n hx hb dL_1122 rfl (lv_at hl 0 rfl) ?_
  refine lv_iload_n hx hb dL_1123 rfl (lv_at hl 3 rfl) ?_
  refine lv_iconst (v := nI 2) hx hb dL_1124 (by decide) ?_
  refine lv_iadd hx hb dL_1125 ?_
  refine va_sld hx hb hX hbl hbA hS1 (lw_in (i := 2) (by decide) hk hL) dL_1126 ?_
  obtain ⟨f1, hf1⟩ := zwl_195 (σ := τ)
  refine lcallV (idx := 128) (a := 275) (r := 195) (as' := [.int (xs (nI k + nI 1).toNatClampNeg), .int (xs (nI k + nI 2).toNatClampNeg)]) (rest := [.int v]) F hP1 hS1 hl.1 hv (by decide) rfl rfl (by decide +kernel) dL_1127 rfl (Nat.le_of_ble_eq_true rfl) hf1 rfl (Nat.le_of_ble_eq_true rfl) hc hs (fun w υ hw H2 locs2 hP2 hS2 => ?_)
  exact lv_icmp_eq (tgt := 1355) hx hb dL_1130 (by decide) (fun _ => kk υ H2 locs2 hw.2 hP2 hS2) (fun z => absurd hw.1.symm z)
set_option maxRecDepth 100000 in
theorem lk_27 {p : Program} {l : Launch} {e : Env} {s : State} {m : MethodId} {below : List Frame} {meth : Method} {c : Code} {H : Heap} {locs : List Loc} {cells slots : Nat} {Q : State → Prop} {ls : Array Slot} {D : va_G} {cI cD : ClassId} {aS aV b L k : Nat} {xs : Nat → Int32} {σ : zS} (F : LFx p s m meth c b L xs D cI cD aS aV) (hI : INV σ) (hP : zHP s.heap.size aS D cI cD (zwl σ) H) (hS : va_S (fun q => s.heap.size ≤ q) s.heap H locs) (hl : lv_has ls 4 [(0, .ref b), (1, .ref (s.heap.size + 0)), (2, .ref (s.heap.size + 195)), (3, .int (nI k))]) (hk : k + 6 ≤ L) (hL : L ≤ 3072) (hc : cells ≤ 600000) (hs : slots ≤ 7302250) (kk : ∀ (υ : zS) (H1 : Heap) (locs1 : List Loc), INV υ → zHP s.heap.size aS D cI cD (zwl υ) H1 → va_S (fun q => s.heap.size ≤ q) s.heap H1 locs1 → W p l e room_1 s m #[Value.ref b] below meth c H1 locs1 cells slots Q (F0 m 1355 ls [])) : W p l e room_1 s m #[Value.ref b] below meth c H locs cells slots Q (F0 m 1135 ls []) := by
  obtain ⟨hx, hb, hr, hml, hown, hts, hX, hbl, hlocks, hgv⟩ := F.1
  have hbA : ¬ (fun q : Nat => s.heap.size ≤ q) b := Nat.not_le.mpr hbl
  refine lv_aload_n hx hb dL_1135 rfl (lv_at hl 1 rfl) ?_
  refine lv_aload_n hx hb dL_1136 rfl (lv_at hl 0 rfl) ?_
  refine lv_iload_n hx hb dL_1137 rfl (lv_at hl 3 rfl) ?_
  refine lv_iconst (v := nI 1) hx hb dL_1138 (by decide) ?_
  refine lv_iadd hx hb dL_1139 ?_
  refine va_sld hx hb hX hbl hbA hS (lw_in (i := 1) (by decide) hk hL) dL_1140 ?_
  obtain ⟨f0, hf0⟩ := zwl_0 (σ := σ)
  refine lcallV (idx := 129) (a := 148) (r := 0) (as' := [.int (xs (nI k + nI 1).toNatClampNeg)]) (rest := []) F hP hS hl.1 (c_cross σ hI) (by decide) rfl rfl (by decide +kernel) dL_1141 rfl (Nat.le_of_ble_eq_true rfl) hf0 rfl (Nat.le_of_ble_eq_true rfl) hc hs (fun v τ hv H1 locs1 hP1 hS1 => ?_)
  refine lv_aload_n hx hb dL_1144 rfl (lv_at hl 2 rfl) ?_
  refine lv_aload_n hx hb dL_1145 rfl (lv_at hl 0 rfl) ?_
  refine lv_iload_n hx hb dL_1146 rfl (lv_at hl 3 rfl) ?_
  refine lv_iconst (v := nI 1) hx hb dL_1147 (by decide) ?_
  refine lv_iadd hx hb dL_1148 ?_
  refine va_sld hx hb hX hbl hbA hS1 (lw_in (i := 1) (by decide) hk hL) dL_1149 ?_
  obtain ⟨f1, hf1⟩ := zwl_195 (σ := τ)
  refine lcallV (idx := 132) (a := 277) (r := 195) (as' := [.int (xs (nI k + nI 1).toNatClampNeg)]) (rest := [.int v]) F hP1 hS1 hl.1 hv (by decide) rfl rfl (by decide +kernel) dL_1150 rfl (Nat.le_of_ble_eq_true rfl) hf1 rfl (Nat.le_of_ble_eq_true rfl) hc hs (fun w υ hw H2 locs2 hP2 hS2 => ?_)
  exact lv_icmp_eq (tgt := 1355) hx hb dL_1153 (by decide) (fun _ => kk υ H2 locs2 hw.2 hP2 hS2) (fun z => absurd hw.1.symm z)
set_option maxRecDepth 100000 in
theorem lk_28 {p : Program} {l : Launch} {e : Env} {s : State} {m : MethodId} {below : List Frame} {meth : Method} {c : Code} {H : Heap} {locs : List Loc} {cells slots : Nat} {Q : State → Prop} {ls : Array Slot} {D : va_G} {cI cD : ClassId} {aS aV b L k : Nat} {xs : Nat → Int32} {σ : zS} (F : LFx p s m meth c b L xs D cI cD aS aV) (hI : INV σ) (hP : zHP s.heap.size aS D cI cD (zwl σ) H) (hS : va_S (fun q => s.heap.size ≤ q) s.heap H locs) (hl : lv_has ls 4 [(0, .ref b), (1, .ref (s.heap.size + 0)), (2, .ref (s.heap.size + 195)), (3, .int (nI k))]) (hk : k + 6 ≤ L) (hL : L ≤ 3072) (hc : cells ≤ 600000) (hs : slots ≤ 7302250) (kk : ∀ (υ : zS) (H1 : Heap) (locs1 : List Loc), INV υ → zHP s.heap.size aS D cI cD (zwl υ) H1 → va_S (fun q => s.heap.size ≤ q) s.heap H1 locs1 → W p l e room_1 s m #[Value.ref b] below meth c H1 locs1 cells slots Q (F0 m 1355 ls [])) : W p l e room_1 s m #[Value.ref b] below meth c H locs cells slots Q (F0 m 1158 ls []) := by
  obtain ⟨hx, hb, hr, hml, hown, hts, hX, hbl, hlocks, hgv⟩ := F.1
  have hbA : ¬ (fun q : Nat => s.heap.size ≤ q) b := Nat.not_le.mpr hbl
  refine lv_aload_n hx hb dL_1158 rfl (lv_at hl 1 rfl) ?_
  refine lv_aload_n hx hb dL_1159 rfl (lv_at hl 0 rfl) ?_
  refine lv_iload_n hx hb dL_1160 rfl (lv_at hl 3 rfl) ?_
  refine lv_iconst (v := nI 1) hx hb dL_1161 (by decide) ?_
  refine lv_iadd hx hb dL_1162 ?_
  refine va_sld hx hb hX hbl hbA hS (lw_in (i := 1) (by decide) hk hL) dL_1163 ?_
  refine lv_aload_n hx hb dL_1164 rfl (lv_at hl 0 rfl) ?_
  refine lv_iload_n hx hb dL_1165 rfl (lv_at hl 3 rfl) ?_
  refine lv_iconst (v := nI 2) hx hb dL_1166 (by decide) ?_
  refine lv_iadd hx hb dL_1167 ?_
  refine va_sld hx hb hX hbl hbA hS (lw_in (i := 2) (by decide) hk hL) dL_1168 ?_
  obtain ⟨f0, hf0⟩ := zwl_0 (σ := σ)
  refine lcallV (idx := 133) (a := 149) (r := 0) (as' := [.int (xs (nI k + nI 1).toNatClampNeg), .int (xs (nI k + nI 2).toNatClampNeg)]) (rest := []) F hP hS hl.1 (c_bell σ hI) (by decide) rfl rfl (by decide +kernel) dL_1169 rfl (Nat.le_of_ble_eq_true rfl) hf0 rfl (Nat.le_of_ble_eq_true rfl) hc hs (fun v τ hv H1 locs1 hP1 hS1 => ?_)
  refine lv_aload_n hx hb dL_1172 rfl (lv_at hl 2 rfl) ?_
  refine lv_aload_n hx hb dL_1173 rfl (lv_at hl 0 rfl) ?_
  refine lv_iload_n hx hb dL_1174 rfl (lv_at hl 3 rfl) ?_
  refine lv_iconst (v := nI 1) hx hb dL_1175 (by decide) ?_
  refine lv_iadd hx hb dL_1176 ?_
  refine va_sld hx hb hX hbl hbA hS1 (lw_in (i := 1) (by decide) hk hL) dL_1177 ?_
  refine lv_aload_n hx hb dL_1178 rfl (lv_at hl 0 rfl) ?_
  refine lv_iload_n hx hb dL_1179 rfl (lv_at hl 3 rfl) ?_
  refine lv_iconst (v := nI 2) hx hb dL_1180 (by decide) ?_
  refine lv_iadd hx hb dL_1181 ?_
  refine va_sld hx hb hX hbl hbA hS1 (lw_in (i := 2) (by decide) hk hL) dL_1182 ?_
  obtain ⟨f1, hf1⟩ := zwl_195 (σ := τ)
  refine lcallV (idx := 136) (a := 278) (r := 195) (as' := [.int (xs (nI k + nI 1).toNatClampNeg), .int (xs (nI k + nI 2).toNatClampNeg)]) (rest := [.int v]) F hP1 hS1 hl.1 hv (by decide) rfl rfl (by decide +kernel) dL_1183 rfl (Nat.le_of_ble_eq_true rfl) hf1 rfl (Nat.le_of_ble_eq_true rfl) hc hs (fun w υ hw H2 locs2 hP2 hS2 => ?_)
  exact lv_icmp_eq (tgt := 1355) hx hb dL_1186 (by decide) (fun _ => kk υ H2 locs2 hw.2 hP2 hS2) (fun z => absurd hw.1.symm z)
set_option maxRecDepth 100000 in
theorem lk_29 {p : Program} {l : Launch} {e : Env} {s : State} {m : MethodId} {below : List Frame} {meth : Method} {c : Code} {H : Heap} {locs : List Loc} {cells slots : Nat} {Q : State → Prop} {ls : Array Slot} {D : va_G} {cI cD : ClassId} {aS aV b L k : Nat} {xs : Nat → Int32} {σ : zS} (F : LFx p s m meth c b L xs D cI cD aS aV) (hI : INV σ) (hP : zHP s.heap.size aS D cI cD (zwl σ) H) (hS : va_S (fun q => s.heap.size ≤ q) s.heap H locs) (hl : lv_has ls 4 [(0, .ref b), (1, .ref (s.heap.size + 0)), (2, .ref (s.heap.size + 195)), (3, .int (nI k))]) (hk : k + 6 ≤ L) (hL : L ≤ 3072) (hc : cells ≤ 600000) (hs : slots ≤ 7302250) (kk : ∀ (υ : zS) (H1 : Heap) (locs1 : List Loc), INV υ → zHP s.heap.size aS D cI cD (zwl υ) H1 → va_S (fun q => s.heap.size ≤ q) s.heap H1 locs1 → W p l e room_1 s m #[Value.ref b] below meth c H1 locs1 cells slots Q (F0 m 1355 ls [])) : W p l e room_1 s m #[Value.ref b] below meth c H locs cells slots Q (F0 m 1191 ls []) := by
  obtain ⟨hx, hb, hr, hml, hown, hts, hX, hbl, hlocks, hgv⟩ := F.1
  have hbA : ¬ (fun q : Nat => s.heap.size ≤ q) b := Nat.not_le.mpr hbl
  refine lv_aload_n hx hb dL_1191 rfl (lv_at hl 1 rfl) ?_
  refine lv_aload_n hx hb dL_1192 rfl (lv_at hl 0 rfl) ?_
  refine lv_iload_n hx hb dL_1193 rfl (lv_at hl 3 rfl) ?_
  refine lv_iconst (v := nI 1) hx hb dL_1194 (by decide) ?_
  refine lv_iadd hx hb dL_1195 ?_
  refine va_sld hx hb hX hbl hbA hS (lw_in (i := 1) (by decide) hk hL) dL_1196 ?_
  obtain ⟨f0, hf0⟩ := zwl_0 (σ := σ)
  refine lcallV (idx := 137) (a := 150) (r := 0) (as' := [.int (xs (nI k + nI 1).toNatClampNeg)]) (rest := []) F hP hS hl.1 (c_sits σ hI) (by decide) rfl rfl (by decide +kernel) dL_1197 rfl (Nat.le_of_ble_eq_true rfl) hf0 rfl (Nat.le_of_ble_eq_true rfl) hc hs (fun v τ hv H1 locs1 hP1 hS1 => ?_)
  refine lv_aload_n hx hb dL_1200 rfl (lv_at hl 2 rfl) ?_
  refine lv_aload_n hx hb dL_1201 rfl (lv_at hl 0 rfl) ?_
  refine lv_iload_n hx hb dL_1202 rfl (lv_at hl 3 rfl) ?_
  refine lv_iconst (v := nI 1) hx hb dL_1203 (by decide) ?_
  refine lv_iadd hx hb dL_1204 ?_
  refine va_sld hx hb hX hbl hbA hS1 (lw_in (i := 1) (by decide) hk hL) dL_1205 ?_
  obtain ⟨f1, hf1⟩ := zwl_195 (σ := τ)
  refine lcallV (idx := 140) (a := 281) (r := 195) (as' := [.int (xs (nI k + nI 1).toNatClampNeg)]) (rest := [.int v]) F hP1 hS1 hl.1 hv (by decide) rfl rfl (by decide +kernel) dL_1206 rfl (Nat.le_of_ble_eq_true rfl) hf1 rfl (Nat.le_of_ble_eq_true rfl) hc hs (fun w υ hw H2 locs2 hP2 hS2 => ?_)
  exact lv_icmp_eq (tgt := 1355) hx hb dL_1209 (by decide) (fun _ => kk υ H2 locs2 hw.2 hP2 hS2) (fun z => absurd hw.1.symm z)
set_option maxRecDepth 100000 in
theorem lk_30 {p : Program} {l : Launch} {e : Env} {s : State} {m : MethodId} {below : List Frame} {meth : Method} {c : Code} {H : Heap} {locs : List Loc} {cells slots : Nat} {Q : State → Prop} {ls : Array Slot} {D : va_G} {cI cD : ClassId} {aS aV b L k : Nat} {xs : Nat → Int32} {σ : zS} (F : LFx p s m meth c b L xs D cI cD aS aV) (hI : INV σ) (hP : zHP s.heap.size aS D cI cD (zwl σ) H) (hS : va_S (fun q => s.heap.size ≤ q) s.heap H locs) (hl : lv_has ls 4 [(0, .ref b), (1, .ref (s.heap.size + 0)), (2, .ref (s.heap.size + 195)), (3, .int (nI k))]) (hk : k + 6 ≤ L) (hL : L ≤ 3072) (hc : cells ≤ 600000) (hs : slots ≤ 7302250) (kk : ∀ (υ : zS) (H1 : Heap) (locs1 : List Loc), INV υ → zHP s.heap.size aS D cI cD (zwl υ) H1 → va_S (fun q => s.heap.size ≤ q) s.heap H1 locs1 → W p l e room_1 s m #[Value.ref b] below meth c H1 locs1 cells slots Q (F0 m 1355 ls [])) : W p l e room_1 s m #[Value.ref b] below meth c H locs cells slots Q (F0 m 1214 ls []) := by
  obtain ⟨hx, hb, hr, hml, hown, hts, hX, hbl, hlocks, hgv⟩ := F.1
  have hbA : ¬ (fun q : Nat => s.heap.size ≤ q) b := Nat.not_le.mpr hbl
  refine lv_aload_n hx hb dL_1214 rfl (lv_at hl 1 rfl) ?_
  refine lv_aload_n hx hb dL_1215 rfl (lv_at hl 0 rfl) ?_
  refine lv_iload_n hx hb dL_1216 rfl (lv_at hl 3 rfl) ?_
  refine lv_iconst (v := nI 1) hx hb dL_1217 (by decide) ?_
  refine lv_iadd hx hb dL_1218 ?_
  refine va_sld hx hb hX hbl hbA hS (lw_in (i := 1) (by decide) hk hL) dL_1219 ?_
  refine lv_aload_n hx hb dL_1220 rfl (lv_at hl 0 rfl) ?_
  refine lv_iload_n hx hb dL_1221 rfl (lv_at hl 3 rfl) ?_
  refine lv_iconst (v := nI 2) hx hb dL_1222 (by decide) ?_
  refine lv_iadd hx hb dL_1223 ?_
  refine va_sld hx hb hX hbl hbA hS (lw_in (i := 2) (by decide) hk hL) dL_1224 ?_
  refine lv_aload_n hx hb dL_1225 rfl (lv_at hl 0 rfl) ?_
  refine lv_iload_n hx hb dL_1226 rfl (lv_at hl 3 rfl) ?_
  refine lv_iconst (v := nI 3) hx hb dL_1227 (by decide) ?_
  refine lv_iadd hx hb dL_1228 ?_
  refine va_sld hx hb hX hbl hbA hS (lw_in (i := 3) (by decide) hk hL) dL_1229 ?_
  obtain ⟨f0, hf0⟩ := zwl_0 (σ := σ)
  refine lcallV (idx := 141) (a := 151) (r := 0) (as' := [.int (xs (nI k + nI 1).toNatClampNeg), .int (xs (nI k + nI 2).toNatClampNeg), .int (xs (nI k + nI 3).toNatClampNeg)]) (rest := []) F hP hS hl.1 (c_lights σ hI) (by decide) rfl rfl (by decide +kernel) dL_1230 rfl (Nat.le_of_ble_eq_true rfl) hf0 rfl (Nat.le_of_ble_eq_true rfl) hc hs (fun v τ hv H1 locs1 hP1 hS1 => ?_)
  refine lv_aload_n hx hb dL_1233 rfl (lv_at hl 2 rfl) ?_
  refine lv_aload_n hx hb dL_1234 rfl (lv_at hl 0 rfl) ?_
  refine lv_iload_n hx hb dL_1235 rfl (lv_at hl 3 rfl) ?_
  refine lv_iconst (v := nI 1) hx hb dL_1236 (by decide) ?_
  refine lv_iadd hx hb dL_1237 ?_
  refine va_sld hx hb hX hbl hbA hS1 (lw_in (i := 1) (by decide) hk hL) dL_1238 ?_
  refine lv_aload_n hx hb dL_1239 rfl (lv_at hl 0 rfl) ?_
  refine lv_iload_n hx hb dL_1240 rfl (lv_at hl 3 rfl) ?_
  refine lv_iconst (v := nI 2) hx hb dL_1241 (by decide) ?_
  refine lv_iadd hx hb dL_1242 ?_
  refine va_sld hx hb hX hbl hbA hS1 (lw_in (i := 2) (by decide) hk hL) dL_1243 ?_
  refine lv_aload_n hx hb dL_1244 rfl (lv_at hl 0 rfl) ?_
  refine lv_iload_n hx hb dL_1245 rfl (lv_at hl 3 rfl) ?_
  refine lv_iconst (v := nI 3) hx hb dL_1246 (by decide) ?_
  refine lv_iadd hx hb dL_1247 ?_
  refine va_sld hx hb hX hbl hbA hS1 (lw_in (i := 3) (by decide) hk hL) dL_1248 ?_
  obtain ⟨f1, hf1⟩ := zwl_195 (σ := τ)
  refine lcallV (idx := 144) (a := 283) (r := 195) (as' := [.int (xs (nI k + nI 1).toNatClampNeg), .int (xs (nI k + nI 2).toNatClampNeg), .int (xs (nI k + nI 3).toNatClampNeg)]) (rest := [.int v]) F hP1 hS1 hl.1 hv (by decide) rfl rfl (by decide +kernel) dL_1249 rfl (Nat.le_of_ble_eq_true rfl) hf1 rfl (Nat.le_of_ble_eq_true rfl) hc hs (fun w υ hw H2 locs2 hP2 hS2 => ?_)
  exact lv_icmp_eq (tgt := 1355) hx hb dL_1252 (by decide) (fun _ => kk υ H2 locs2 hw.2 hP2 hS2) (fun z => absurd hw.1.symm z)
set_option maxRecDepth 100000 in
theorem lk_31 {p : Program} {l : Launch} {e : Env} {s : State} {m : MethodId} {below : List Frame} {meth : Method} {c : Code} {H : Heap} {locs : List Loc} {cells slots : Nat} {Q : State → Prop} {ls : Array Slot} {D : va_G} {cI cD : ClassId} {aS aV b L k : Nat} {xs : Nat → Int32} {σ : zS} (F : LFx p s m meth c b L xs D cI cD aS aV) (hI : INV σ) (hP : zHP s.heap.size aS D cI cD (zwl σ) H) (hS : va_S (fun q => s.heap.size ≤ q) s.heap H locs) (hl : lv_has ls 4 [(0, .ref b), (1, .ref (s.heap.size + 0)), (2, .ref (s.heap.size + 195)), (3, .int (nI k))]) (hk : k + 6 ≤ L) (hL : L ≤ 3072) (hc : cells ≤ 600000) (hs : slots ≤ 7302250) (kk : ∀ (υ : zS) (H1 : Heap) (locs1 : List Loc), INV υ → zHP s.heap.size aS D cI cD (zwl υ) H1 → va_S (fun q => s.heap.size ≤ q) s.heap H1 locs1 → W p l e room_1 s m #[Value.ref b] below meth c H1 locs1 cells slots Q (F0 m 1355 ls [])) : W p l e room_1 s m #[Value.ref b] below meth c H locs cells slots Q (F0 m 1257 ls []) := by
  obtain ⟨hx, hb, hr, hml, hown, hts, hX, hbl, hlocks, hgv⟩ := F.1
  have hbA : ¬ (fun q : Nat => s.heap.size ≤ q) b := Nat.not_le.mpr hbl
  refine lv_aload_n hx hb dL_1257 rfl (lv_at hl 1 rfl) ?_
  refine lv_aload_n hx hb dL_1258 rfl (lv_at hl 0 rfl) ?_
  refine lv_iload_n hx hb dL_1259 rfl (lv_at hl 3 rfl) ?_
  refine lv_iconst (v := nI 1) hx hb dL_1260 (by decide) ?_
  refine lv_iadd hx hb dL_1261 ?_
  refine va_sld hx hb hX hbl hbA hS (lw_in (i := 1) (by decide) hk hL) dL_1262 ?_
  obtain ⟨f0, hf0⟩ := zwl_0 (σ := σ)
  refine lcallV (idx := 145) (a := 152) (r := 0) (as' := [.int (xs (nI k + nI 1).toNatClampNeg)]) (rest := []) F hP hS hl.1 (c_game σ hI) (by decide) rfl rfl (by decide +kernel) dL_1263 rfl (Nat.le_of_ble_eq_true rfl) hf0 rfl (Nat.le_of_ble_eq_true rfl) hc hs (fun v τ hv H1 locs1 hP1 hS1 => ?_)
  refine lv_aload_n hx hb dL_1266 rfl (lv_at hl 2 rfl) ?_
  refine lv_aload_n hx hb dL_1267 rfl (lv_at hl 0 rfl) ?_
  refine lv_iload_n hx hb dL_1268 rfl (lv_at hl 3 rfl) ?_
  refine lv_iconst (v := nI 1) hx hb dL_1269 (by decide) ?_
  refine lv_iadd hx hb dL_1270 ?_
  refine va_sld hx hb hX hbl hbA hS1 (lw_in (i := 1) (by decide) hk hL) dL_1271 ?_
  obtain ⟨f1, hf1⟩ := zwl_195 (σ := τ)
  refine lcallV (idx := 148) (a := 284) (r := 195) (as' := [.int (xs (nI k + nI 1).toNatClampNeg)]) (rest := [.int v]) F hP1 hS1 hl.1 hv (by decide) rfl rfl (by decide +kernel) dL_1272 rfl (Nat.le_of_ble_eq_true rfl) hf1 rfl (Nat.le_of_ble_eq_true rfl) hc hs (fun w υ hw H2 locs2 hP2 hS2 => ?_)
  exact lv_icmp_eq (tgt := 1355) hx hb dL_1275 (by decide) (fun _ => kk υ H2 locs2 hw.2 hP2 hS2) (fun z => absurd hw.1.symm z)
set_option maxRecDepth 100000 in
theorem lk_32 {p : Program} {l : Launch} {e : Env} {s : State} {m : MethodId} {below : List Frame} {meth : Method} {c : Code} {H : Heap} {locs : List Loc} {cells slots : Nat} {Q : State → Prop} {ls : Array Slot} {D : va_G} {cI cD : ClassId} {aS aV b L k : Nat} {xs : Nat → Int32} {σ : zS} (F : LFx p s m meth c b L xs D cI cD aS aV) (hI : INV σ) (hP : zHP s.heap.size aS D cI cD (zwl σ) H) (hS : va_S (fun q => s.heap.size ≤ q) s.heap H locs) (hl : lv_has ls 4 [(0, .ref b), (1, .ref (s.heap.size + 0)), (2, .ref (s.heap.size + 195)), (3, .int (nI k))]) (hk : k + 6 ≤ L) (hL : L ≤ 3072) (hc : cells ≤ 600000) (hs : slots ≤ 7302250) (kk : ∀ (υ : zS) (H1 : Heap) (locs1 : List Loc), INV υ → zHP s.heap.size aS D cI cD (zwl υ) H1 → va_S (fun q => s.heap.size ≤ q) s.heap H1 locs1 → W p l e room_1 s m #[Value.ref b] below meth c H1 locs1 cells slots Q (F0 m 1355 ls [])) : W p l e room_1 s m #[Value.ref b] below meth c H locs cells slots Q (F0 m 1280 ls []) := by
  obtain ⟨hx, hb, hr, hml, hown, hts, hX, hbl, hlocks, hgv⟩ := F.1
  have hbA : ¬ (fun q : Nat => s.heap.size ≤ q) b := Nat.not_le.mpr hbl
  refine lv_aload_n hx hb dL_1280 rfl (lv_at hl 1 rfl) ?_
  obtain ⟨f0, hf0⟩ := zwl_0 (σ := σ)
  refine lcallV (idx := 149) (a := 153) (r := 0) (as' := []) (rest := []) F hP hS hl.1 (c_undo σ hI) (by decide) rfl rfl (by decide +kernel) dL_1281 rfl (Nat.le_of_ble_eq_true rfl) hf0 rfl (Nat.le_of_ble_eq_true rfl) hc hs (fun v τ hv H1 locs1 hP1 hS1 => ?_)
  refine lv_aload_n hx hb dL_1284 rfl (lv_at hl 2 rfl) ?_
  obtain ⟨f1, hf1⟩ := zwl_195 (σ := τ)
  refine lcallV (idx := 153) (a := 172) (r := 195) (as' := []) (rest := [.int v]) F hP1 hS1 hl.1 hv (by decide) rfl rfl (by decide +kernel) dL_1285 rfl (Nat.le_of_ble_eq_true rfl) hf1 rfl (Nat.le_of_ble_eq_true rfl) hc hs (fun w υ hw H2 locs2 hP2 hS2 => ?_)
  exact lv_icmp_eq (tgt := 1355) hx hb dL_1288 (by decide) (fun _ => kk υ H2 locs2 hw.2 hP2 hS2) (fun z => absurd hw.1.symm z)
set_option maxRecDepth 100000 in
theorem lk_33 {p : Program} {l : Launch} {e : Env} {s : State} {m : MethodId} {below : List Frame} {meth : Method} {c : Code} {H : Heap} {locs : List Loc} {cells slots : Nat} {Q : State → Prop} {ls : Array Slot} {D : va_G} {cI cD : ClassId} {aS aV b L k : Nat} {xs : Nat → Int32} {σ : zS} (F : LFx p s m meth c b L xs D cI cD aS aV) (hI : INV σ) (hP : zHP s.heap.size aS D cI cD (zwl σ) H) (hS : va_S (fun q => s.heap.size ≤ q) s.heap H locs) (hl : lv_has ls 4 [(0, .ref b), (1, .ref (s.heap.size + 0)), (2, .ref (s.heap.size + 195)), (3, .int (nI k))]) (hk : k + 6 ≤ L) (hL : L ≤ 3072) (hc : cells ≤ 600000) (hs : slots ≤ 7302250) (kk : ∀ (υ : zS) (H1 : Heap) (locs1 : List Loc), INV υ → zHP s.heap.size aS D cI cD (zwl υ) H1 → va_S (fun q => s.heap.size ≤ q) s.heap H1 locs1 → W p l e room_1 s m #[Value.ref b] below meth c H1 locs1 cells slots Q (F0 m 1355 ls [])) : W p l e room_1 s m #[Value.ref b] below meth c H locs cells slots Q (F0 m 1293 ls []) := by
  obtain ⟨hx, hb, hr, hml, hown, hts, hX, hbl, hlocks, hgv⟩ := F.1
  have hbA : ¬ (fun q : Nat => s.heap.size ≤ q) b := Nat.not_le.mpr hbl
  by_cases hz : xs (nI k + nI 1).toNatClampNeg = 0
  · refine lv_aload_n hx hb dL_1293 rfl (lv_at hl 1 rfl) ?_
    refine lv_aload_n hx hb dL_1294 rfl (lv_at hl 0 rfl) ?_
    refine lv_iload_n hx hb dL_1295 rfl (lv_at hl 3 rfl) ?_
    refine lv_iconst (v := nI 1) hx hb dL_1296 (by decide) ?_
    refine lv_iadd hx hb dL_1297 ?_
    refine va_sld hx hb hX hbl hbA hS (lw_in (i := 1) (by decide) hk hL) dL_1298 ?_
    refine lv_if_eq (tgt := 1306) hx hb dL_1299 (by decide) (fun _ => ?_) (fun z => absurd hz z)
    refine lv_iconst (v := 0) hx hb dL_1306 (by decide) ?_
    obtain ⟨f0, hf0⟩ := zwl_0 (σ := σ)
    refine lcallV (idx := 154) (a := 154) (r := 0) (as' := [.int 0]) (rest := []) F hP hS hl.1 (c_image (g := 0) (Or.inl rfl) σ hI) (by decide) rfl rfl (by decide +kernel) dL_1307 rfl (Nat.le_of_ble_eq_true rfl) hf0 rfl (Nat.le_of_ble_eq_true rfl) hc hs (fun v τ hv H1 locs1 hP1 hS1 => ?_)
    refine lv_aload_n hx hb dL_1310 rfl (lv_at hl 2 rfl) ?_
    refine lv_aload_n hx hb dL_1311 rfl (lv_at hl 0 rfl) ?_
    refine lv_iload_n hx hb dL_1312 rfl (lv_at hl 3 rfl) ?_
    refine lv_iconst (v := nI 1) hx hb dL_1313 (by decide) ?_
    refine lv_iadd hx hb dL_1314 ?_
    refine va_sld hx hb hX hbl hbA hS1 (lw_in (i := 1) (by decide) hk hL) dL_1315 ?_
    refine lv_if_eq (tgt := 1323) hx hb dL_1316 (by decide) (fun _ => ?_) (fun z => absurd hz z)
    refine lv_iconst (v := 0) hx hb dL_1323 (by decide) ?_
    obtain ⟨f1, hf1⟩ := zwl_195 (σ := τ)
    refine lcallV (idx := 158) (a := 288) (r := 195) (as' := [.int 0]) (rest := [.int v]) F hP1 hS1 hl.1 hv (by decide) rfl rfl (by decide +kernel) dL_1324 rfl (Nat.le_of_ble_eq_true rfl) hf1 rfl (Nat.le_of_ble_eq_true rfl) hc hs (fun w υ hw H2 locs2 hP2 hS2 => ?_)
    exact lv_icmp_eq (tgt := 1355) hx hb dL_1327 (by decide) (fun _ => kk υ H2 locs2 hw.2 hP2 hS2) (fun z => absurd hw.1.symm z)
  · refine lv_aload_n hx hb dL_1293 rfl (lv_at hl 1 rfl) ?_
    refine lv_aload_n hx hb dL_1294 rfl (lv_at hl 0 rfl) ?_
    refine lv_iload_n hx hb dL_1295 rfl (lv_at hl 3 rfl) ?_
    refine lv_iconst (v := nI 1) hx hb dL_1296 (by decide) ?_
    refine lv_iadd hx hb dL_1297 ?_
    refine va_sld hx hb hX hbl hbA hS (lw_in (i := 1) (by decide) hk hL) dL_1298 ?_
    refine lv_if_eq (tgt := 1306) hx hb dL_1299 (by decide) (fun z => absurd z hz) (fun _ => ?_)
    refine lv_iconst (v := 1) hx hb dL_1302 (by decide) ?_
    refine lv_goto (tgt := 1307) hx hb dL_1303 (by decide) ?_
    obtain ⟨f0, hf0⟩ := zwl_0 (σ := σ)
    refine lcallV (idx := 154) (a := 154) (r := 0) (as' := [.int 1]) (rest := []) F hP hS hl.1 (c_image (g := 1) (Or.inr rfl) σ hI) (by decide) rfl rfl (by decide +kernel) dL_1307 rfl (Nat.le_of_ble_eq_true rfl) hf0 rfl (Nat.le_of_ble_eq_true rfl) hc hs (fun v τ hv H1 locs1 hP1 hS1 => ?_)
    refine lv_aload_n hx hb dL_1310 rfl (lv_at hl 2 rfl) ?_
    refine lv_aload_n hx hb dL_1311 rfl (lv_at hl 0 rfl) ?_
    refine lv_iload_n hx hb dL_1312 rfl (lv_at hl 3 rfl) ?_
    refine lv_iconst (v := nI 1) hx hb dL_1313 (by decide) ?_
    refine lv_iadd hx hb dL_1314 ?_
    refine va_sld hx hb hX hbl hbA hS1 (lw_in (i := 1) (by decide) hk hL) dL_1315 ?_
    refine lv_if_eq (tgt := 1323) hx hb dL_1316 (by decide) (fun z => absurd z hz) (fun _ => ?_)
    refine lv_iconst (v := 1) hx hb dL_1319 (by decide) ?_
    refine lv_goto (tgt := 1324) hx hb dL_1320 (by decide) ?_
    obtain ⟨f1, hf1⟩ := zwl_195 (σ := τ)
    refine lcallV (idx := 158) (a := 288) (r := 195) (as' := [.int 1]) (rest := [.int v]) F hP1 hS1 hl.1 hv (by decide) rfl rfl (by decide +kernel) dL_1324 rfl (Nat.le_of_ble_eq_true rfl) hf1 rfl (Nat.le_of_ble_eq_true rfl) hc hs (fun w υ hw H2 locs2 hP2 hS2 => ?_)
    exact lv_icmp_eq (tgt := 1355) hx hb dL_1327 (by decide) (fun _ => kk υ H2 locs2 hw.2 hP2 hS2) (fun z => absurd hw.1.symm z)
set_option maxRecDepth 100000 in
theorem lk_34 {p : Program} {l : Launch} {e : Env} {s : State} {m : MethodId} {below : List Frame} {meth : Method} {c : Code} {H : Heap} {locs : List Loc} {cells slots : Nat} {Q : State → Prop} {ls : Array Slot} {D : va_G} {cI cD : ClassId} {aS aV b L k : Nat} {xs : Nat → Int32} {σ : zS} (F : LFx p s m meth c b L xs D cI cD aS aV) (hI : INV σ) (hP : zHP s.heap.size aS D cI cD (zwl σ) H) (hS : va_S (fun q => s.heap.size ≤ q) s.heap H locs) (hl : lv_has ls 4 [(0, .ref b), (1, .ref (s.heap.size + 0)), (2, .ref (s.heap.size + 195)), (3, .int (nI k))]) (hk : k + 6 ≤ L) (hL : L ≤ 3072) (hc : cells ≤ 600000) (hs : slots ≤ 7302250) (kk : ∀ (υ : zS) (H1 : Heap) (locs1 : List Loc), INV υ → zHP s.heap.size aS D cI cD (zwl υ) H1 → va_S (fun q => s.heap.size ≤ q) s.heap H1 locs1 → W p l e room_1 s m #[Value.ref b] below meth c H1 locs1 cells slots Q (F0 m 1355 ls [])) : W p l e room_1 s m #[Value.ref b] below meth c H locs cells slots Q (F0 m 1332 ls []) := by
  obtain ⟨hx, hb, hr, hml, hown, hts, hX, hbl, hlocks, hgv⟩ := F.1
  have hbA : ¬ (fun q : Nat => s.heap.size ≤ q) b := Nat.not_le.mpr hbl
  refine lv_aload_n hx hb dL_1332 rfl (lv_at hl 1 rfl) ?_
  refine lv_aload_n hx hb dL_1333 rfl (lv_at hl 0 rfl) ?_
  refine lv_iload_n hx hb dL_1334 rfl (lv_at hl 3 rfl) ?_
  refine lv_iconst (v := nI 1) hx hb dL_1335 (by decide) ?_
  refine lv_iadd hx hb dL_1336 ?_
  refine va_sld hx hb hX hbl hbA hS (lw_in (i := 1) (by decide) hk hL) dL_1337 ?_
  obtain ⟨f0, hf0⟩ := zwl_0 (σ := σ)
  refine lcallV (idx := 159) (a := 155) (r := 0) (as' := [.int (xs (nI k + nI 1).toNatClampNeg)]) (rest := []) F hP hS hl.1 (c_look σ hI) (by decide) rfl rfl (by decide +kernel) dL_1338 rfl (Nat.le_of_ble_eq_true rfl) hf0 rfl (Nat.le_of_ble_eq_true rfl) hc hs (fun v τ hv H1 locs1 hP1 hS1 => ?_)
  refine lv_aload_n hx hb dL_1341 rfl (lv_at hl 2 rfl) ?_
  refine lv_aload_n hx hb dL_1342 rfl (lv_at hl 0 rfl) ?_
  refine lv_iload_n hx hb dL_1343 rfl (lv_at hl 3 rfl) ?_
  refine lv_iconst (v := nI 1) hx hb dL_1344 (by decide) ?_
  refine lv_iadd hx hb dL_1345 ?_
  refine va_sld hx hb hX hbl hbA hS1 (lw_in (i := 1) (by decide) hk hL) dL_1346 ?_
  obtain ⟨f1, hf1⟩ := zwl_195 (σ := τ)
  refine lcallV (idx := 162) (a := 289) (r := 195) (as' := [.int (xs (nI k + nI 1).toNatClampNeg)]) (rest := [.int v]) F hP1 hS1 hl.1 hv (by decide) rfl rfl (by decide +kernel) dL_1347 rfl (Nat.le_of_ble_eq_true rfl) hf1 rfl (Nat.le_of_ble_eq_true rfl) hc hs (fun w υ hw H2 locs2 hP2 hS2 => ?_)
  exact lv_icmp_eq (tgt := 1355) hx hb dL_1350 (by decide) (fun _ => kk υ H2 locs2 hw.2 hP2 hS2) (fun z => absurd hw.1.symm z)

