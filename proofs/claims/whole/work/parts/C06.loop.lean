/-! THE LAW'S LOOP -/
theorem lw_end {k L : Nat} (hk : k ≤ 4000) (hL : L ≤ 3072) : (nI L - 6 < nI k) ↔ L < k + 6 := by
  by_cases h : 6 ≤ L
  · obtain ⟨q, rfl⟩ : ∃ q, L = q + 6 := ⟨L - 6, by omega⟩
    have e : nI (q + 6) - 6 = nI q := by
      rw [← nI_add q 6]
      show nI q + nI 6 - nI 6 = nI q
      exact Int32.add_sub_cancel _ _
    rw [e, nI_ltI (by omega) (by omega)]
    omega
  · refine ⟨fun _ => by omega, fun _ => ?_⟩
    have hl : L = 0 ∨ L = 1 ∨ L = 2 ∨ L = 3 ∨ L = 4 ∨ L = 5 := by omega
    have hz : (0 : Int32) ≤ nI k := nI_z (by omega)
    have hn : nI L - 6 < 0 := by
      rcases hl with e | e | e | e | e | e <;> (rw [e]; decide)
    exact Int32.lt_of_lt_of_le hn hz
set_option maxRecDepth 100000 in
set_option maxHeartbeats 4000000 in
theorem law_loop {p : Program} {l : Launch} {e : Env} {s : State} {m : MethodId} {below : List Frame} {meth : Method} {c : Code} {cells slots : Nat} {D : va_G} {cI cD : ClassId} {aS aV b L : Nat} {xs : Nat → Int32} (F : LFx p s m meth c b L xs D cI cD aS aV) (hL : L ≤ 3072) (hc : cells ≤ 600000) (hs : slots ≤ 7302250) : ∀ (n k : Nat), k ≤ L + 6 → L + 7 ≤ k + n → ∀ (σ : zS) (H : Heap) (locs : List Loc) (ls : Array Slot), INV σ → zHP s.heap.size aS D cI cD (zwl σ) H → va_S (fun q => s.heap.size ≤ q) s.heap H locs → lv_has ls 4 [(0, .ref b), (1, .ref (s.heap.size + 0)), (2, .ref (s.heap.size + 195)), (3, .int (nI k))] → W p l e room_1 s m #[Value.ref b] below meth c H locs cells slots (lw_Z below #[Value.ref b] s) (F0 m 18 ls []) := by
  obtain ⟨hx, hb, hr, hml, hown, hts, hX, hbl, hlocks, hgv⟩ := F.1
  have hbA : ¬ (fun q : Nat => s.heap.size ≤ q) b := Nat.not_le.mpr hbl
  intro n
  induction n with
  | zero => intro k h1 h2; omega
  | succ n ih =>
    intro k hk hn σ H locs ls hI hP hS hl
    refine lv_iload_n hx hb dL_18 rfl (lv_at hl 3 rfl) ?_
    refine lv_aload_n hx hb dL_19 rfl (lv_at hl 0 rfl) ?_
    refine va_slen hx hb hX hbl hbA hS dL_20 ?_
    refine lv_bipush (v := 6) hx hb dL_21 (by decide) ?_
    refine lv_isub hx hb dL_23 ?_
    refine lv_icmp_gt (tgt := 1361) hx hb dL_24 (by decide) (fun cc => ?_) (fun cc => ?_)
    · refine lv_iconst (v := 1) hx hb dL_1361 (by decide) ?_
      refine va_forget (fun q hq => hS.2.2 q hq) ?_
      refine W.widen (k := 600000) (n := 7302250) hc hs ?_
      exact lw_ret hx hb hr hlocks dL_1362
    · have hk6 : k + 6 ≤ L := by
        have q : ¬ L < k + 6 := fun z => cc ((lw_end (by omega) hL).mpr z)
        omega
      have kk : ∀ (υ : zS) (H1 : Heap) (locs1 : List Loc), INV υ → zHP s.heap.size aS D cI cD (zwl υ) H1 → va_S (fun q => s.heap.size ≤ q) s.heap H1 locs1 → W p l e room_1 s m #[Value.ref b] below meth c H1 locs1 cells slots (lw_Z below #[Value.ref b] s) (F0 m 1355 ls []) := fun υ H1 locs1 hI1 hP1 hS1 => by
        refine lv_iinc (v := nI (k + 6)) (lv' := [(3, .int (nI (k + 6))), (0, .ref b), (1, .ref (s.heap.size + 0)), (2, .ref (s.heap.size + 195))]) hx hb dL_1355 hl (k := 3) rfl (nI_add k 6) (by decide) rfl (fun ls hl => ?_)
        refine lv_goto (tgt := 18) hx hb dL_1358 (by decide) ?_
        exact ih (k + 6) (by omega) (by omega) υ H1 locs1 ls hI1 hP1 hS1 (lv_sub hl [1, 2, 3, 0] rfl)
      refine lv_aload_n hx hb dL_27 rfl (lv_at hl 0 rfl) ?_
      refine lv_iload_n hx hb dL_28 rfl (lv_at hl 3 rfl) ?_
      refine va_sld hx hb hX hbl hbA hS (vp_in_nI (by omega) (by omega)) dL_29 ?_
      refine lv_bipush (v := 63) hx hb dL_30 (by decide) ?_
      refine lv_iand hx hb dL_32 ?_
      refine lv_topi (fun x ex => ?_)
      by_cases h : x.toInt < 0 ∨ 34 < x.toInt
      · exact lv_tableOut (tgt := 1355) hx hb dL_33 h (by decide) (kk σ H locs hI hP hS)
      · have h1 : ¬ x.toInt < 0 := fun z => h (Or.inl z)
        have h2 : ¬ 34 < x.toInt := fun z => h (Or.inr z)
        have hj : x.toInt = 0 ∨ x.toInt = 1 ∨ x.toInt = 2 ∨ x.toInt = 3 ∨ x.toInt = 4 ∨ x.toInt = 5 ∨ x.toInt = 6 ∨ x.toInt = 7 ∨ x.toInt = 8 ∨ x.toInt = 9 ∨ x.toInt = 10 ∨ x.toInt = 11 ∨ x.toInt = 12 ∨ x.toInt = 13 ∨ x.toInt = 14 ∨ x.toInt = 15 ∨ x.toInt = 16 ∨ x.toInt = 17 ∨ x.toInt = 18 ∨ x.toInt = 19 ∨ x.toInt = 20 ∨ x.toInt = 21 ∨ x.toInt = 22 ∨ x.toInt = 23 ∨ x.toInt = 24 ∨ x.toInt = 25 ∨ x.toInt = 26 ∨ x.toInt = 27 ∨ x.toInt = 28 ∨ x.toInt = 29 ∨ x.toInt = 30 ∨ x.toInt = 31 ∨ x.toInt = 32 ∨ x.toInt = 33 ∨ x.toInt = 34 := by omega
        rcases hj with ej | ej | ej | ej | ej | ej | ej | ej | ej | ej | ej | ej | ej | ej | ej | ej | ej | ej | ej | ej | ej | ej | ej | ej | ej | ej | ej | ej | ej | ej | ej | ej | ej | ej | ej
        · exact lv_tableIn (off := 155) (tgt := 188) hx hb dL_33 h1 h2 (by rw [ej]; rfl) (by decide) (lk_0 F hI hP hS hl hk6 hL hc hs kk)
        · exact lv_tableIn (off := 178) (tgt := 211) hx hb dL_33 h1 h2 (by rw [ej]; rfl) (by decide) (lk_1 F hI hP hS hl hk6 hL hc hs kk)
        · exact lv_tableIn (off := 211) (tgt := 244) hx hb dL_33 h1 h2 (by rw [ej]; rfl) (by decide) (lk_2 F hI hP hS hl hk6 hL hc hs kk)
        · exact lv_tableIn (off := 254) (tgt := 287) hx hb dL_33 h1 h2 (by rw [ej]; rfl) (by decide) (lk_3 F hI hP hS hl hk6 hL hc hs kk)
        · exact lv_tableIn (off := 323) (tgt := 356) hx hb dL_33 h1 h2 (by rw [ej]; rfl) (by decide) (lk_4 F hI hP hS hl hk6 hL hc hs kk)
        · exact lv_tableIn (off := 346) (tgt := 379) hx hb dL_33 h1 h2 (by rw [ej]; rfl) (by decide) (lk_5 F hI hP hS hl hk6 hL hc hs kk)
        · exact lv_tableIn (off := 369) (tgt := 402) hx hb dL_33 h1 h2 (by rw [ej]; rfl) (by decide) (lk_6 F hI hP hS hl hk6 hL hc hs kk)
        · exact lv_tableIn (off := 432) (tgt := 465) hx hb dL_33 h1 h2 (by rw [ej]; rfl) (by decide) (lk_7 F hI hP hS hl hk6 hL hc hs kk)
        · exact lv_tableIn (off := 455) (tgt := 488) hx hb dL_33 h1 h2 (by rw [ej]; rfl) (by decide) (lk_8 F hI hP hS hl hk6 hL hc hs kk)
        · exact lv_tableIn (off := 478) (tgt := 511) hx hb dL_33 h1 h2 (by rw [ej]; rfl) (by decide) (lk_9 F hI hP hS hl hk6 hL hc hs kk)
        · exact lv_tableIn (off := 501) (tgt := 534) hx hb dL_33 h1 h2 (by rw [ej]; rfl) (by decide) (lk_10 F hI hP hS hl hk6 hL hc hs kk)
        · exact lv_tableIn (off := 534) (tgt := 567) hx hb dL_33 h1 h2 (by rw [ej]; rfl) (by decide) (lk_11 F hI hP hS hl hk6 hL hc hs kk)
        · exact lv_tableIn (off := 567) (tgt := 600) hx hb dL_33 h1 h2 (by rw [ej]; rfl) (by decide) (lk_12 F hI hP hS hl hk6 hL hc hs kk)
        · exact lv_tableIn (off := 600) (tgt := 633) hx hb dL_33 h1 h2 (by rw [ej]; rfl) (by decide) (lk_13 F hI hP hS hl hk6 hL hc hs kk)
        · exact lv_tableIn (off := 633) (tgt := 666) hx hb dL_33 h1 h2 (by rw [ej]; rfl) (by decide) (lk_14 F hI hP hS hl hk6 hL hc hs kk)
        · exact lv_tableIn (off := 666) (tgt := 699) hx hb dL_33 h1 h2 (by rw [ej]; rfl) (by decide) (lk_15 F hI hP hS hl hk6 hL hc hs kk)
        · exact lv_tableIn (off := 719) (tgt := 752) hx hb dL_33 h1 h2 (by rw [ej]; rfl) (by decide) (lk_16 F hI hP hS hl hk6 hL hc hs kk)
        · exact lv_tableIn (off := 772) (tgt := 805) hx hb dL_33 h1 h2 (by rw [ej]; rfl) (by decide) (lk_17 F hI hP hS hl hk6 hL hc hs kk)
        · exact lv_tableIn (off := 805) (tgt := 838) hx hb dL_33 h1 h2 (by rw [ej]; rfl) (by decide) (lk_18 F hI hP hS hl hk6 hL hc hs kk)
        · exact lv_tableIn (off := 858) (tgt := 891) hx hb dL_33 h1 h2 (by rw [ej]; rfl) (by decide) (lk_19 F hI hP hS hl hk6 hL hc hs kk)
        · exact lv_tableIn (off := 881) (tgt := 914) hx hb dL_33 h1 h2 (by rw [ej]; rfl) (by decide) (lk_20 F hI hP hS hl hk6 hL hc hs kk)
        · exact lv_tableIn (off := 924) (tgt := 957) hx hb dL_33 h1 h2 (by rw [ej]; rfl) (by decide) (lk_21 F hI hP hS hl hk6 hL hc hs kk)
        · exact lv_tableIn (off := 947) (tgt := 980) hx hb dL_33 h1 h2 (by rw [ej]; rfl) (by decide) (lk_22 F hI hP hS hl hk6 hL hc hs kk)
        · exact lv_tableIn (off := 970) (tgt := 1003) hx hb dL_33 h1 h2 (by rw [ej]; rfl) (by decide) (lk_23 F hI hP hS hl hk6 hL hc hs kk)
        · exact lv_tableIn (off := 1003) (tgt := 1036) hx hb dL_33 h1 h2 (by rw [ej]; rfl) (by decide) (lk_24 F hI hP hS hl hk6 hL hc hs kk)
        · exact lv_tableIn (off := 1036) (tgt := 1069) hx hb dL_33 h1 h2 (by rw [ej]; rfl) (by decide) (lk_25 F hI hP hS hl hk6 hL hc hs kk)
        · exact lv_tableIn (off := 1069) (tgt := 1102) hx hb dL_33 h1 h2 (by rw [ej]; rfl) (by decide) (lk_26 F hI hP hS hl hk6 hL hc hs kk)
        · exact lv_tableIn (off := 1102) (tgt := 1135) hx hb dL_33 h1 h2 (by rw [ej]; rfl) (by decide) (lk_27 F hI hP hS hl hk6 hL hc hs kk)
        · exact lv_tableIn (off := 1125) (tgt := 1158) hx hb dL_33 h1 h2 (by rw [ej]; rfl) (by decide) (lk_28 F hI hP hS hl hk6 hL hc hs kk)
        · exact lv_tableIn (off := 1158) (tgt := 1191) hx hb dL_33 h1 h2 (by rw [ej]; rfl) (by decide) (lk_29 F hI hP hS hl hk6 hL hc hs kk)
        · exact lv_tableIn (off := 1181) (tgt := 1214) hx hb dL_33 h1 h2 (by rw [ej]; rfl) (by decide) (lk_30 F hI hP hS hl hk6 hL hc hs kk)
        · exact lv_tableIn (off := 1224) (tgt := 1257) hx hb dL_33 h1 h2 (by rw [ej]; rfl) (by decide) (lk_31 F hI hP hS hl hk6 hL hc hs kk)
        · exact lv_tableIn (off := 1247) (tgt := 1280) hx hb dL_33 h1 h2 (by rw [ej]; rfl) (by decide) (lk_32 F hI hP hS hl hk6 hL hc hs kk)
        · exact lv_tableIn (off := 1260) (tgt := 1293) hx hb dL_33 h1 h2 (by rw [ej]; rfl) (by decide) (lk_33 F hI hP hS hl hk6 hL hc hs kk)
        · exact lv_tableIn (off := 1299) (tgt := 1332) hx hb dL_33 h1 h2 (by rw [ej]; rfl) (by decide) (lk_34 F hI hP hS hl hk6 hL hc hs kk)

