/-! THE LAW, from its entry -/
theorem z0w_l {n m : Nat} : (z0w n m).length = m := by unfold z0w; rw [List.length_map, List.length_range]
theorem z0w_s1 : zsl (z0w 0 195) ≤ 100000 := by decide +kernel
theorem z0w_s2 : zsl (z0w 0 238) ≤ 100000 := by decide +kernel
set_option maxRecDepth 100000 in
set_option maxHeartbeats 4000000 in
theorem whole_start {p : Program} {e : Env} {s : State} {m : MethodId} {below : List Frame} {meth : Method} {c : Code} (l : Launch) (hflags : l.flags = flags0) {b L : Nat} {xs : Nat → Int32} (hL : L ≤ 3072) (C0 : lw_At p s m meth c b L xs) : W p l e room_1 s m #[Value.ref b] below meth c s.heap [] 0 0 (lw_Z below #[Value.ref b] s) (entryFrame m ([Value.ref b] : List Value).toArray 4) := by
  obtain ⟨D, cI, cD, aS, aV, F⟩ := lw_ctx C0
  obtain ⟨hx, hb, hr, hml, hown, hts, hX, hbl, hlocks, hgv⟩ := id C0
  have hS : va_S (fun q => s.heap.size ≤ q) s.heap s.heap [] := va_S.rf
  have hP : zHP s.heap.size aS D cI cD [] s.heap := ⟨rfl, fun k e h => by cases h⟩
  have hl := lv_entry ([.ref b]) (n := 4) (Nat.le_of_ble_eq_true rfl)
  rw [lg_entry_eq]
  generalize (lg_sl ([.ref b]) ++ List.replicate (4 - (lg_sl ([.ref b])).length) Slot.unset).toArray = ls at hl ⊢
  have hl : lv_has ls 4 [(0, .ref b)] := hl
  refine lnew (ci := 11) (N := 11) (C := RX11) (T := TX11) F hP hS rfl (by decide +kernel) (by decide +kernel) dL_0 (by decide) (by decide) (fun H1 hP1 hS1 => ?_)
  have hP1 : zHP s.heap.size aS D cI cD zw0 H1 := hP1
  show W _ _ _ _ _ _ _ _ _ _ _ _ _ _ _ (F0 m 3 ls [.ref (s.heap.size + 0)])
  refine lv_dup hx hb dL_3 rfl ?_
  have hr1 : zrun 20000 10 120 0 ([Value.ref 0] ++ List.replicate ((zm 120).2.2.1 - 1) zun) [] zw0 = some (none, z0w 0 195) := zrW_s zc_LO
  refine lcallI (a := 120) (r := 0) (rest := [.ref (s.heap.size + 0)]) F hP1 hS1 hl.1 hr1 (by decide) rfl rfl (by decide +kernel) dL_4 (Nat.le_of_ble_eq_true rfl) rfl (Nat.le_of_ble_eq_true rfl) (by rw [z0w_l]; omega) (by have := z0w_s1; omega) (fun H2 locs2 hP2 hS2 => ?_)
  refine W.widen (k := 1000) (n := 200000) (by rw [z0w_l]; omega) (by have := z0w_s1; omega) ?_
  show W _ _ _ _ _ _ _ _ _ _ _ _ _ _ _ (F0 m 7 ls [.ref (s.heap.size + 0)])
  refine lv_astore_n (lv' := [(1, .ref (s.heap.size + 0)), (0, .ref b)]) hx hb dL_7 rfl hl (by decide) rfl (fun ls hl => ?_)
  refine lnew (ci := 12) (N := 70) (C := RX12) (T := TX12) F hP2 hS2 rfl (by decide +kernel) (by decide +kernel) dL_8 (by decide) (by decide) (fun H3 hP3 hS3 => ?_)
  have hP3 : zHP s.heap.size aS D cI cD (z0w 0 195 ++ [zwm]) H3 := hP3
  rw [z0w_l]
  show W _ _ _ _ _ _ _ _ _ _ _ _ _ _ _ (F0 m 11 ls [.ref (s.heap.size + 195)])
  refine lv_dup hx hb dL_11 rfl ?_
  have hr2 : zrun 5000 10 163 0 ([Value.ref 195] ++ List.replicate ((zm 163).2.2.1 - 1) zun) [] (z0w 0 195 ++ [zwm]) = some (none, z0w 0 238) := zrW_s zc_M
  refine lcallI (a := 163) (r := 195) (rest := [.ref (s.heap.size + 195)]) F hP3 hS3 hl.1 hr2 (by decide) rfl rfl (by decide +kernel) dL_12 (Nat.le_of_ble_eq_true rfl) rfl (Nat.le_of_ble_eq_true rfl) (by rw [z0w_l]; omega) (by have := z0w_s2; omega) (fun H4 locs4 hP4 hS4 => ?_)
  refine W.widen (k := 2000) (n := 400000) (by rw [z0w_l]; omega) (by have := z0w_s2; omega) ?_
  show W _ _ _ _ _ _ _ _ _ _ _ _ _ _ _ (F0 m 15 ls [.ref (s.heap.size + 195)])
  refine lv_astore_n (lv' := [(2, .ref (s.heap.size + 195)), (1, .ref (s.heap.size + 0)), (0, .ref b)]) hx hb dL_15 rfl hl (by decide) rfl (fun ls hl => ?_)
  refine lv_iconst (v := nI 0) hx hb dL_16 (by decide) ?_
  refine lv_istore_n (lv' := [(3, .int (nI 0)), (2, .ref (s.heap.size + 195)), (1, .ref (s.heap.size + 0)), (0, .ref b)]) hx hb dL_17 rfl hl (by decide) rfl (fun ls hl => ?_)
  exact law_loop F hL (by decide) (by decide) (L + 7) 0 (by omega) (by omega) z0 H4 locs4 ls z0_I (by rw [z0w_e]; exact hP4) hS4 (lv_sub hl [3, 2, 1, 0] rfl)

