/-! SOUND, a step -/
theorem zmin_eq (u v : Int32) : (if u < v then u else v) = (if v < u then v else u) := by
  by_cases h1 : u < v
  · rw [if_pos h1, if_neg (fun h2 => Int32.lt_asymm h1 h2)]
  · by_cases h2 : v < u
    · rw [if_neg h1, if_pos h2]
    · rw [if_neg h1, if_neg h2]
      exact Int32.le_antisymm (Int32.not_lt.mp h2) (Int32.not_lt.mp h1) |>.symm ▸ rfl
theorem zsw_off (pc : Nat) : ∀ (t : List (Int32 × Nat)) (b : Nat) (x : Int32), Op.lookupswitch.offset (t.map fun q => (q.1.toInt, (q.2 : Int) - (pc : Int))) ((b : Int) - (pc : Int)) x.toInt = ((zsw t b x : Nat) : Int) - (pc : Int)
  | [], b, x => rfl
  | (k, g) :: t, b, x => by
    show (if k.toInt = x.toInt then (g : Int) - (pc : Int) else Op.lookupswitch.offset (t.map fun q => (q.1.toInt, (q.2 : Int) - (pc : Int))) ((b : Int) - (pc : Int)) x.toInt) = _
    by_cases h : x = k
    · subst h
      rw [if_pos rfl]
      simp [zsw]
    · rw [if_neg (fun q => h (Int32.toInt_inj.mp q.symm)), zsw_off pc t b x]
      simp [zsw, h]
theorem zsw_out : ∀ (t : List (Int32 × Nat)) (lo : Int) (b : Nat) (x : Int32), ztc lo t = true → (x.toInt < lo ∨ lo + (t.length : Int) - 1 < x.toInt) → zsw t b x = b
  | [], lo, b, x, _, _ => rfl
  | (k, g) :: t, lo, b, x, h, hx => by
    simp only [ztc, Bool.and_eq_true, decide_eq_true_eq] at h
    have hne : ¬ x = k := fun q => by
      subst q
      simp only [List.length_cons] at hx
      omega
    simp only [zsw, if_neg hne]
    exact zsw_out t (lo + 1) b x h.2 (by simp only [List.length_cons] at hx; omega)
theorem zsw_in : ∀ (t : List (Int32 × Nat)) (lo : Int) (b : Nat) (x : Int32), ztc lo t = true → lo ≤ x.toInt → x.toInt ≤ lo + (t.length : Int) - 1 → ∃ q, t[(x.toInt - lo).toNat]? = some q ∧ zsw t b x = q.2
  | [], lo, b, x, _, h1, h2 => by simp only [List.length_nil] at h2; omega
  | (k, g) :: t, lo, b, x, h, h1, h2 => by
    simp only [ztc, Bool.and_eq_true, decide_eq_true_eq] at h
    by_cases hk : x = k
    · subst hk
      rw [h.1]
      exact ⟨(x, g), by simp, by simp [zsw]⟩
    · have hne : x.toInt ≠ lo := fun q => hk (Int32.toInt_inj.mp (q.trans h.1.symm))
      obtain ⟨q, g1, g2⟩ := zsw_in t (lo + 1) b x h.2 (by omega) (by simp only [List.length_cons] at h2; omega)
      refine ⟨q, ?_, by simp only [zsw, if_neg hk]; exact g2⟩
      rw [show (x.toInt - lo).toNat = (x.toInt - (lo + 1)).toNat + 1 by omega, List.getElem?_cons_succ]
      exact g1
theorem zsl_set {w : zW} {k : Nat} {e0 e : zC} (h : w[k]? = some e0) (hz : zsz e = zsz e0) : zsl (w.set k e) = zsl w := by
  unfold zsl
  have : (w.set k e).map zsz = w.map zsz := by
    rw [List.map_set, hz]
    apply List.ext_getElem?
    intro i
    by_cases hi : i = k
    · subst hi
      have hl := (List.getElem?_eq_some_iff.mp h).1
      rw [List.getElem?_set_self (by simpa using hl), List.getElem?_map, h]
      rfl
    · rw [List.getElem?_set_ne (Ne.symm hi)]
  rw [this]
theorem zsl_app {w : zW} {e : zC} : zsl (w ++ [e]) = zsl w + zsz e := by simp [zsl]
theorem zcatsum (A0 aS : Nat) : ∀ S : List Value, ((S.map (ztv A0 aS)).map fun v => v.category).sum ≤ 2 * S.length
  | [] => Nat.le_refl _
  | v :: S => by
    have := zcatsum A0 aS S
    have h1 : (ztv A0 aS v).category ≤ 2 := by rcases lv_cat (ztv A0 aS v) with h | h <;> omega
    simp only [List.map_cons, List.sum_cons, List.length_cons]
    omega
theorem zF_ok {a : Nat} (h : a < 4) : ((zF a : Fin 4) : Nat) = a := Nat.mod_eq_of_lt h
section ZST
variable {p : Program} {l : Launch} {e : Env} {R : Room} {s : State} {m : MethodId} {args : Array Value} {below : List Frame} {meth : Method} {c : Code} {H : Heap} {locs : List Loc} {cells slots : Nat} {Q : State → Prop}
variable {pc : Nat} {ls : Array Slot} {A0 aS aV : Nat} {D : va_G} {cI cD : ClassId} {w : zW} {y : Nat} {L S : List Value}
set_option maxHeartbeats 4000000 in
theorem zstep (C0 : zCtx A0 aS D cI cD y p s m args meth c) (hST : zST A0 aS aV s s.heap) {i : zI} (hc : zchk y pc i = true) {n : Nat} {L' S' : List Value} {w' : zW} (hs : zstp i L S w = some (n, L', S', w')) (hP : zHP A0 aS D cI cD w H) (hS : va_S (fun q => A0 ≤ q) s.heap H locs) (hl : zls A0 aS L ls) (hL : L.length = (zm y).2.2.1)
    (hfr : 1 ≤ R.frames) (hlo : 60 ≤ R.locals) (hS12 : S.length ≤ 12) (hRc : cells + (w'.length - w.length) ≤ R.cells) (hRs : slots + (zsl w' - zsl w) ≤ R.slots) (hmc : L'.length = L.length ∧ w.length ≤ w'.length ∧ zsl w ≤ zsl w' → True)
    (kk : ∀ (H1 : Heap) (locs1 : List Loc) (ls1 : Array Slot), zHP A0 aS D cI cD w' H1 → va_S (fun q => A0 ≤ q) s.heap H1 locs1 → zls A0 aS L' ls1 → W p l e R s m args below meth c H1 locs1 (cells + (w'.length - w.length)) (slots + (zsl w' - zsl w)) Q (F0 m n ls1 (S'.map (ztv A0 aS)))) : W p l e R s m args below meth c H locs cells slots Q (F0 m pc ls (S.map (ztv A0 aS))) := by
  obtain ⟨hx, hb, hr, hml, hown, hlk, hnm, hts, hnw, hK, hA, hAO⟩ := id C0
  have k0 : w' = w → L' = L → W p l e R s m args below meth c H locs cells slots Q (F0 m n ls (S'.map (ztv A0 aS))) := fun h1 h2 => by
    subst h1; subst h2
    have h3 := kk H locs ls hP hS hl
    rwa [Nat.sub_self, Nat.sub_self, Nat.add_zero, Nat.add_zero] at h3
  obtain ⟨op, a, b, cp, n0, x, t⟩ := i
  revert hs hc
  match op with
  | 0 =>
    intro hc hs
    change (some (n0, L, .int x :: S, w)) = some (n, L', S', w') at hs
    delta zchk at hc
    dsimp only at hc
    simp only [zD, Bool.or_eq_true, Bool.and_eq_true, decide_eq_true_eq] at hc
    cases hs
    have k1 := k0 rfl rfl
    rcases hc with ((⟨hd, hn⟩ | ⟨⟨hd, hn⟩, hx1⟩) | ⟨⟨hd, hn⟩, hx1⟩) | ⟨hd, hco⟩
    · subst hn
      exact lv_iconst hx hb hd (Int32.ofInt_toInt x) k1
    · subst hn
      exact lv_bipush hx hb hd hx1 k1
    · subst hn
      exact lv_sipush hx hb hd hx1 k1
    · obtain ⟨q, hq, h⟩ := List.any_eq_true.mp hco
      simp only [Bool.and_eq_true, decide_eq_true_eq] at h
      obtain ⟨⟨h1, rfl⟩, rfl⟩ := h
      have h0 := zCO_ok q hq
      simp only [zcochk, zg, Bool.and_eq_true, decide_eq_true_eq] at h0
      have h2 := hts _ (List.mem_of_getElem? h0.1) h0.2
      rw [h1] at h2
      rcases hd with ⟨hd, hn⟩ | ⟨hd, hn⟩
      · subst hn
        exact lv_ldc hx hb hown h2 hd k1
      · subst hn
        exact lv_ldcw hx hb hown h2 hd k1
  | 1 =>
    intro hc hs
    change (match (generalizing := false) L[a]? with
        | some (.int v) => some (n0, L, .int v :: S, w)
        | _ => none) = some (n, L', S', w') at hs
    delta zchk at hc
    dsimp only at hc
    simp only [zD, Bool.or_eq_true, Bool.and_eq_true, decide_eq_true_eq] at hc
    split at hs
    · rename_i v hv
      cases hs
      have k1 := k0 rfl rfl
      have hg := (hl.2.2 a _ hv (by intro h; cases h)).2
      rcases hc with ⟨hd, hn⟩ | ⟨ha, hd, hn⟩
      · subst hn
        exact lv_iload hx hb hd hg k1
      · subst hn
        exact lv_iload_n hx hb hd (zF_ok ha) hg k1
    · cases hs
  | 2 =>
    intro hc hs
    change (match (generalizing := false) L[a]? with
        | some (.ref v) => some (n0, L, .ref v :: S, w)
        | _ => none) = some (n, L', S', w') at hs
    delta zchk at hc
    dsimp only at hc
    simp only [zD, Bool.or_eq_true, Bool.and_eq_true, decide_eq_true_eq] at hc
    split at hs
    · rename_i v hv
      cases hs
      have k1 := k0 rfl rfl
      have hg := (hl.2.2 a _ hv (by intro h; cases h)).2
      rcases hc with ⟨hd, hn⟩ | ⟨ha, hd, hn⟩
      · subst hn
        exact lv_aload hx hb hd hg k1
      · subst hn
        exact lv_aload_n hx hb hd (zF_ok ha) hg k1
    · cases hs
  | 3 =>
    intro hc hs
    change (match (generalizing := false) S with
        | .int v :: S => if a < L.length then some (n0, L.set a (.int v), S, w) else none
        | _ => none) = some (n, L', S', w') at hs
    delta zchk at hc
    dsimp only at hc
    simp only [zD, Bool.or_eq_true, Bool.and_eq_true, decide_eq_true_eq] at hc
    split at hs
    · rename_i v S1
      split at hs
      · rename_i ha
        cases hs
        obtain ⟨lv, g1, g2⟩ := hl.st (v := .int v) ha rfl
        have k1 : ∀ ls1, lv_has ls1 L.length ((a, Value.int v) :: lv.filter (fun q => !(q.1 == a) && !(q.1 + 1 == a && q.2.category == 2))) → W p l e R s m args below meth c H locs cells slots Q (F0 m n ls1 (S'.map (ztv A0 aS))) := fun ls1 h => by
          have h3 := kk H locs ls1 hP hS (g2 ls1 h)
          rwa [Nat.sub_self, Nat.sub_self, Nat.add_zero, Nat.add_zero] at h3
        rcases hc with ⟨hd, hn⟩ | ⟨ha4, hd, hn⟩
        · subst hn
          exact lv_istore hx hb hd g1 ha rfl k1
        · subst hn
          exact lv_istore_n hx hb hd (zF_ok ha4) g1 ha rfl k1
      · cases hs
    · cases hs
  | 4 =>
    intro hc hs
    change (match (generalizing := false) S with
        | .ref v :: S => if a < L.length then some (n0, L.set a (.ref v), S, w) else none
        | _ => none) = some (n, L', S', w') at hs
    delta zchk at hc
    dsimp only at hc
    simp only [zD, Bool.or_eq_true, Bool.and_eq_true, decide_eq_true_eq] at hc
    split at hs
    · rename_i v S1
      split at hs
      · rename_i ha
        cases hs
        obtain ⟨lv, g1, g2⟩ := hl.st (v := .ref v) ha rfl
        have k1 : ∀ ls1, lv_has ls1 L.length ((a, Value.ref (A0 + v)) :: lv.filter (fun q => !(q.1 == a) && !(q.1 + 1 == a && q.2.category == 2))) → W p l e R s m args below meth c H locs cells slots Q (F0 m n ls1 (S'.map (ztv A0 aS))) := fun ls1 h => by
          have h3 := kk H locs ls1 hP hS (g2 ls1 h)
          rwa [Nat.sub_self, Nat.sub_self, Nat.add_zero, Nat.add_zero] at h3
        rcases hc with ⟨hd, hn⟩ | ⟨ha4, hd, hn⟩
        · subst hn
          exact lv_astore hx hb hd g1 ha rfl k1
        · subst hn
          exact lv_astore_n hx hb hd (zF_ok ha4) g1 ha rfl k1
      · cases hs
    · cases hs
  | 5 =>
    intro hc hs
    change (match (generalizing := false) L[a]? with
        | some (.int v) => some (n0, L.set a (.int (v + x)), S, w)
        | _ => none) = some (n, L', S', w') at hs
    delta zchk at hc
    dsimp only at hc
    simp only [zD, Bool.or_eq_true, Bool.and_eq_true, decide_eq_true_eq] at hc
    split at hs
    · rename_i v hv
      have ha : a < L.length := (List.getElem?_eq_some_iff.mp hv).1
      cases hs
      obtain ⟨lv, g1, g2⟩ := hl.st (v := .int (v + x)) ha rfl
      have hg := (hl.2.2 a _ hv (by intro h; cases h)).2
      obtain ⟨hd, hn⟩ := hc
      subst hn
      have g3 : lv_has ls L.length ((a, .int v) :: lv) := ⟨g1.1, g1.2.1, fun q hq => by
        rcases List.mem_cons.mp hq with rfl | hq
        · exact hg
        · exact g1.2.2 q hq⟩
      refine lv_iinc (k := 0) hx hb hd g3 rfl (by rw [Int32.ofInt_toInt]) ha rfl (fun ls1 h => ?_)
      have h3 := kk H locs ls1 hP hS (g2 ls1 ⟨h.1, h.2.1, fun q hq => h.2.2 q ?_⟩)
      · rwa [Nat.sub_self, Nat.sub_self, Nat.add_zero, Nat.add_zero] at h3
      · rcases List.mem_cons.mp hq with rfl | hq
        · exact List.mem_cons_self
        · exact List.mem_cons_of_mem _ (List.mem_filter.mpr ⟨List.mem_cons_of_mem _ (List.mem_filter.mp hq).1, (List.mem_filter.mp hq).2⟩)
    · cases hs
  | 6 =>
    intro hc hs
    change (match (generalizing := false) S with
        | .int v :: .int u :: S => some (n0, L, .int (zbin a u v) :: S, w)
        | _ => none) = some (n, L', S', w') at hs
    delta zchk at hc
    dsimp only at hc
    simp only [zD, Bool.or_eq_true, Bool.and_eq_true, decide_eq_true_eq] at hc
    split at hs
    · rename_i v u S1
      cases hs
      have k1 := k0 rfl rfl
      obtain ⟨hd, hn⟩ := hc
      subst hn
      match a, hd, k1 with
      | 0, hd, k1 => exact lv_iadd hx hb hd k1
      | 1, hd, k1 => exact lv_isub hx hb hd k1
      | 2, hd, k1 => exact lv_imul hx hb hd k1
      | 3, hd, k1 => exact lv_iand hx hb hd k1
      | 4, hd, k1 => exact lv_ior hx hb hd k1
      | 5, hd, k1 => exact lv_ixor hx hb hd k1
      | 6, hd, k1 => exact lv_ishl hx hb hd k1
      | 7, hd, k1 => exact lv_ishr hx hb hd k1
      | a + 8, hd, k1 => exact lv_iushr hx hb hd rfl k1
    · cases hs
  | 7 =>
    intro hc hs
    change (match (generalizing := false) S with
        | .int v :: .int u :: S => if v = 0 then none else some (n0, L, .int (if a = 0 then u / v else u % v) :: S, w)
        | _ => none) = some (n, L', S', w') at hs
    delta zchk at hc
    dsimp only at hc
    simp only [zD, Bool.or_eq_true, Bool.and_eq_true, decide_eq_true_eq] at hc
    split at hs
    · rename_i v u S1
      split at hs
      · cases hs
      · rename_i hv0
        cases hs
        have k1 := k0 rfl rfl
        obtain ⟨hd, hn⟩ := hc
        subst hn
        by_cases ha : a = 0
        · rw [if_pos ha] at hd k1
          exact lv_idiv hx hb hd hv0 k1
        · rw [if_neg ha] at hd k1
          rw [zrem_eq hv0] at k1
          exact lv_irem hx hb hd hv0 k1
    · cases hs
  | 8 =>
    intro hc hs
    change (match (generalizing := false) S with
        | .int v :: S => some (n0, L, .int (-v) :: S, w)
        | _ => none) = some (n, L', S', w') at hs
    delta zchk at hc
    dsimp only at hc
    simp only [zD, Bool.or_eq_true, Bool.and_eq_true, decide_eq_true_eq] at hc
    split at hs
    · cases hs
      have k1 := k0 rfl rfl
      obtain ⟨hd, hn⟩ := hc
      subst hn
      exact lv_ineg hx hb hd k1
    · cases hs
  | 9 =>
    intro hc hs
    change (match (generalizing := false) S with
        | .int v :: S => some (n0, L, .int v :: .int v :: S, w)
        | .ref v :: S => some (n0, L, .ref v :: .ref v :: S, w)
        | _ => none) = some (n, L', S', w') at hs
    delta zchk at hc
    dsimp only at hc
    simp only [zD, Bool.or_eq_true, Bool.and_eq_true, decide_eq_true_eq] at hc
    split at hs
    · cases hs
      have k1 := k0 rfl rfl
      obtain ⟨hd, hn⟩ := hc
      subst hn
      exact lv_dup hx hb hd rfl k1
    · cases hs
      have k1 := k0 rfl rfl
      obtain ⟨hd, hn⟩ := hc
      subst hn
      exact lv_dup hx hb hd rfl k1
    · cases hs
  | 10 =>
    intro hc hs
    change (match (generalizing := false) S with
        | .int v :: .ref u :: S => some (n0, L, .int v :: .ref u :: .int v :: .ref u :: S, w)
        | _ => none) = some (n, L', S', w') at hs
    delta zchk at hc
    dsimp only at hc
    simp only [zD, Bool.or_eq_true, Bool.and_eq_true, decide_eq_true_eq] at hc
    split at hs
    · cases hs
      have k1 := k0 rfl rfl
      obtain ⟨hd, hn⟩ := hc
      subst hn
      exact lv_dup2_11 hx hb hd rfl rfl k1
    · cases hs
  | 11 =>
    intro hc hs
    change (match (generalizing := false) S with
        | .int _ :: S => some (n0, L, S, w)
        | .ref _ :: S => some (n0, L, S, w)
        | _ => none) = some (n, L', S', w') at hs
    delta zchk at hc
    dsimp only at hc
    simp only [zD, Bool.or_eq_true, Bool.and_eq_true, decide_eq_true_eq] at hc
    split at hs
    · cases hs
      have k1 := k0 rfl rfl
      obtain ⟨hd, hn⟩ := hc
      subst hn
      exact lv_pop hx hb hd rfl k1
    · cases hs
      have k1 := k0 rfl rfl
      obtain ⟨hd, hn⟩ := hc
      subst hn
      exact lv_pop hx hb hd rfl k1
    · cases hs
  | 12 =>
    intro hc hs
    change (match (generalizing := false) S with
        | .ref r :: S => match (generalizing := false) w[r]? with
          | some (.inr (.inr (ci, fs))) => if ci = a then match (generalizing := false) fs[b]? with
            | some (.int v) => some (n0, L, .int v :: S, w)
            | some (.ref v) => some (n0, L, .ref v :: S, w)
            | _ => none else none
          | _ => none
        | _ => none) = some (n, L', S', w') at hs
    delta zchk at hc
    dsimp only at hc
    simp only [zD, Bool.or_eq_true, Bool.and_eq_true, decide_eq_true_eq] at hc
    obtain ⟨⟨hd, hn⟩, hco⟩ := hc
    obtain ⟨q, hq, h⟩ := List.any_eq_true.mp hco
    simp only [Bool.and_eq_true, decide_eq_true_eq] at h
    obtain ⟨⟨⟨h1, h2⟩, h3⟩, h4⟩ := h
    subst hn
    split at hs
    · rename_i r S1
      split at hs
      · rename_i ci fs he
        split at hs
        · rename_i hci
          subst hci
          split at hs
          · rename_i v hv
            cases hs
            exact zr_get hx hb hts hnw hown hK hP he hq h1 h2 h3 h4 hv hd (k0 rfl rfl)
          · rename_i v hv
            cases hs
            exact zr_get hx hb hts hnw hown hK hP he hq h1 h2 h3 h4 hv hd (k0 rfl rfl)
          · cases hs
        · cases hs
      · cases hs
    · cases hs
  | 13 =>
    intro hc hs
    change (match (generalizing := false) S with
        | v :: .ref r :: S => match (generalizing := false) w[r]? with
          | some (.inr (.inr (ci, fs))) => if ci = a ∧ b < fs.length ∧ zfit (zty a b) v = true then some (n0, L, S, w.set r (.inr (.inr (ci, fs.set b v)))) else none
          | _ => none
        | _ => none) = some (n, L', S', w') at hs
    delta zchk at hc
    dsimp only at hc
    simp only [zD, Bool.or_eq_true, Bool.and_eq_true, decide_eq_true_eq] at hc
    obtain ⟨⟨hd, hn⟩, hco⟩ := hc
    obtain ⟨q, hq, h⟩ := List.any_eq_true.mp hco
    simp only [Bool.and_eq_true, decide_eq_true_eq] at h
    obtain ⟨⟨⟨⟨h1, h2⟩, h3⟩, h4⟩, h5⟩ := h
    subst hn
    split at hs
    · rename_i v r S1
      split at hs
      · rename_i ci fs he
        split at hs
        · rename_i hcon
          obtain ⟨hci, hbl, hft⟩ := hcon
          subst hci
          cases hs
          refine zr_put hx hb hts hnw hown hK hP hS he hq h1 h2 h3 h4 hbl hft (fun C T N hc => ?_) hd (fun H1 locs1 g1 g2 => ?_)
          · rw [hc] at h5
            simp only [Bool.or_eq_true, Bool.and_eq_true, decide_eq_true_eq] at h5
            rcases h5 with h5 | ⟨⟨h5, h6⟩, h7⟩
            · exact Or.inl h5
            · exact Or.inr ⟨h5, by rw [hnm]; exact h6, by rw [h7]⟩
          · have h3 := kk H1 locs1 ls g1 g2 hl
            rwa [List.length_set, zsl_set he (by show (fs.set b v).length = fs.length; rw [List.length_set]), Nat.sub_self, Nat.sub_self, Nat.add_zero, Nat.add_zero] at h3
        · cases hs
      · cases hs
    · cases hs
  | 14 =>
    intro hc hs
    change (match (generalizing := false) S with
        | .int j :: .ref r :: S => match (generalizing := false) w[r]? with
          | some (.inl l) => if zin j l.length then some (n0, L, .int (l.getD j.toNatClampNeg 0) :: S, w) else none
          | _ => none
        | _ => none) = some (n, L', S', w') at hs
    delta zchk at hc
    dsimp only at hc
    simp only [zD, Bool.or_eq_true, Bool.and_eq_true, decide_eq_true_eq] at hc
    obtain ⟨hd, hn⟩ := hc
    subst hn
    split at hs
    · rename_i j r S1
      split at hs
      · rename_i f he
        split at hs
        · rename_i hin
          cases hs
          exact zr_ald hx hb hK hP he hin hd (k0 rfl rfl)
        · cases hs
      · cases hs
    · cases hs
  | 15 =>
    intro hc hs
    change (match (generalizing := false) S with
        | .int v :: .int j :: .ref r :: S => match (generalizing := false) w[r]? with
          | some (.inl l) => if zin j l.length then some (n0, L, S, w.set r (.inl (l.set j.toNatClampNeg v))) else none
          | _ => none
        | _ => none) = some (n, L', S', w') at hs
    delta zchk at hc
    dsimp only at hc
    simp only [zD, Bool.or_eq_true, Bool.and_eq_true, decide_eq_true_eq] at hc
    obtain ⟨hd, hn⟩ := hc
    subst hn
    split at hs
    · rename_i v j r S1
      split at hs
      · rename_i f he
        split at hs
        · rename_i hin
          cases hs
          refine zr_ast hx hb hK hP hS he hin hd (fun H1 locs1 g1 g2 => ?_)
          have h3 := kk H1 locs1 ls g1 g2 hl
          rwa [List.length_set, zsl_set he (by show (f.set j.toNatClampNeg v).length = f.length; rw [List.length_set]), Nat.sub_self, Nat.sub_self, Nat.add_zero, Nat.add_zero] at h3
        · cases hs
      · cases hs
    · cases hs
  | 16 =>
    intro hc hs
    change (match (generalizing := false) S with
        | .ref r :: S => match (generalizing := false) w[r]? with
          | some (.inl l) => some (n0, L, .int (Int32.ofNat l.length) :: S, w)
          | _ => none
        | _ => none) = some (n, L', S', w') at hs
    delta zchk at hc
    dsimp only at hc
    simp only [zD, Bool.or_eq_true, Bool.and_eq_true, decide_eq_true_eq] at hc
    obtain ⟨hd, hn⟩ := hc
    subst hn
    split at hs
    · rename_i r S1
      split at hs
      · rename_i f he
        cases hs
        exact zr_alen hx hb hK hP he hd (k0 rfl rfl)
      · cases hs
    · cases hs
  | 17 =>
    intro hc hs
    change (match (generalizing := false) S with
        | .int j :: .ref r :: S => match (generalizing := false) w[r]? with
          | some (.inr (.inl l)) => if zin j l.length then match (generalizing := false) l.getD j.toNatClampNeg none with
            | some v => some (n0, L, .ref v :: S, w)
            | none => none else none
          | _ => none
        | _ => none) = some (n, L', S', w') at hs
    delta zchk at hc
    dsimp only at hc
    simp only [zD, Bool.or_eq_true, Bool.and_eq_true, decide_eq_true_eq] at hc
    obtain ⟨hd, hn⟩ := hc
    subst hn
    split at hs
    · rename_i j r S1
      split at hs
      · rename_i f he
        split at hs
        · rename_i hin
          split at hs
          · rename_i v hv
            cases hs
            exact zr_aald hx hb hK hP he hin hv hd (k0 rfl rfl)
          · cases hs
        · cases hs
      · cases hs
    · cases hs
  | 18 =>
    intro hc hs
    change (match (generalizing := false) S with
        | .ref v :: .int j :: .ref r :: S => match (generalizing := false) w[r]?, w[v]? with
          | some (.inr (.inl l)), some (.inr (.inr (1, _))) => if zin j l.length then some (n0, L, S, w.set r (.inr (.inl (l.set j.toNatClampNeg (some v))))) else none
          | _, _ => none
        | _ => none) = some (n, L', S', w') at hs
    delta zchk at hc
    dsimp only at hc
    simp only [zD, Bool.or_eq_true, Bool.and_eq_true, decide_eq_true_eq] at hc
    obtain ⟨hd, hn⟩ := hc
    subst hn
    split at hs
    · rename_i v j r S1
      split at hs
      · rename_i f fs he hv
        split at hs
        · rename_i hin
          cases hs
          refine zr_aast hx hb hK hP hS he hv hin hd (fun H1 locs1 g1 g2 => ?_)
          have h3 := kk H1 locs1 ls g1 g2 hl
          rwa [List.length_set, zsl_set he (by show (f.set j.toNatClampNeg (some v)).length = f.length; rw [List.length_set]), Nat.sub_self, Nat.sub_self, Nat.add_zero, Nat.add_zero] at h3
        · cases hs
      · cases hs
    · cases hs
  | 19 =>
    intro hc hs
    change (match (generalizing := false) S with
        | .int k :: S => if 0 ≤ k ∧ k.toNatClampNeg ≤ 100000 then some (n0, L, .ref w.length :: S, w ++ [.inl (List.replicate k.toNatClampNeg 0)]) else none
        | _ => none) = some (n, L', S', w') at hs
    delta zchk at hc
    dsimp only at hc
    simp only [zD, Bool.or_eq_true, Bool.and_eq_true, decide_eq_true_eq] at hc
    obtain ⟨hd, hn⟩ := hc
    subst hn
    split at hs
    · rename_i k S1
      split at hs
      · rename_i hk
        cases hs
        rw [List.length_append, Nat.add_sub_cancel_left] at hRc
        rw [zsl_app, Nat.add_sub_cancel_left] at hRs
        refine zr_newa hx hb hts hK hP hS hA hk.1 hk.2 hd hRc (by simpa [zsz] using hRs) (fun H1 g1 g2 => ?_)
        have h3 := kk H1 locs ls g1 g2 hl
        rw [List.length_append, zsl_app, Nat.add_sub_cancel_left, Nat.add_sub_cancel_left] at h3
        rw [show zsz (.inl (List.replicate k.toNatClampNeg 0)) = k.toNatClampNeg from List.length_replicate] at h3
        exact h3
      · cases hs
    · cases hs
  | 20 =>
    intro hc hs
    change (match (generalizing := false) S with
        | .int k :: S => if 0 ≤ k ∧ k.toNatClampNeg ≤ 100000 then some (n0, L, .ref w.length :: S, w ++ [.inr (.inl (List.replicate k.toNatClampNeg none))]) else none
        | _ => none) = some (n, L', S', w') at hs
    delta zchk at hc
    dsimp only at hc
    simp only [zD, Bool.or_eq_true, Bool.and_eq_true, decide_eq_true_eq] at hc
    obtain ⟨⟨hd, hn⟩, hco⟩ := hc
    obtain ⟨q, hq, h⟩ := List.any_eq_true.mp hco
    simp only [Bool.and_eq_true, decide_eq_true_eq] at h
    obtain ⟨⟨h1, h2⟩, h3⟩ := h
    subst hn
    have hcl : (Jvm.Cond.classLink (zN (zm y).2.2.2.2.1) cp "LateOrders$Duchy").before args s = true := by
      have h0 := zCLk_ok q hq
      obtain ⟨o', c', ci', ix, iin⟩ := q
      dsimp only at h1 h2 h3
      subst h1; subst h2; subst h3
      have h0 : (zg ix (.classLink (zN (zm y).2.2.2.2.1) c' RX1) && zg iin (.initialized RX1)) = true := h0
      simp only [zg, Bool.and_eq_true, decide_eq_true_eq] at h0
      exact hts _ (List.mem_of_getElem? h0.1.1) h0.1.2
    split at hs
    · rename_i k S1
      split at hs
      · rename_i hk
        cases hs
        rw [List.length_append, Nat.add_sub_cancel_left] at hRc
        rw [zsl_app, Nat.add_sub_cancel_left] at hRs
        refine zr_anew hx hb hown hcl hAO hK hP hS hk.1 hk.2 hd hRc (by simpa [zsz] using hRs) (fun H1 g1 g2 => ?_)
        have h3 := kk H1 locs ls g1 g2 hl
        rw [List.length_append, zsl_app, Nat.add_sub_cancel_left, Nat.add_sub_cancel_left] at h3
        rw [show zsz (.inr (.inl (List.replicate k.toNatClampNeg none))) = k.toNatClampNeg from List.length_replicate] at h3
        exact h3
      · cases hs
    · cases hs
  | 21 =>
    intro hc hs
    change (some (n0, L, .ref w.length :: S, w ++ [.inr (.inr (a, (List.range b).map fun k => zdv (zty a k)))])) = some (n, L', S', w') at hs
    delta zchk at hc
    dsimp only at hc
    simp only [zD, Bool.or_eq_true, Bool.and_eq_true, decide_eq_true_eq] at hc
    obtain ⟨⟨⟨⟨hd, hn⟩, ha13⟩, hN⟩, hco⟩ := hc
    obtain ⟨q, hq, h⟩ := List.any_eq_true.mp hco
    simp only [Bool.and_eq_true, decide_eq_true_eq] at h
    obtain ⟨⟨h1, h2⟩, h3⟩ := h
    subst hn
    obtain ⟨⟨C, T, N⟩, hc⟩ : ∃ r, vwCl[a]? = some r := ⟨vwCl[a]'ha13, List.getElem?_eq_getElem ha13⟩
    rw [hc] at hN
    simp only [decide_eq_true_eq] at hN
    subst hN
    have hcl : (Jvm.Cond.classLink (zN (zm y).2.2.2.2.1) cp C).before args s = true ∧ (Jvm.Cond.initialized C).before args s = true := by
      have h0 := zCLk_ok q hq
      obtain ⟨o', c', ci', ix, iin⟩ := q
      dsimp only at h1 h2 h3
      subst h1; subst h2; subst h3
      delta zclchk at h0
      dsimp only at h0
      rw [hc] at h0
      simp only [zg, Bool.and_eq_true, decide_eq_true_eq] at h0
      exact ⟨hts _ (List.mem_of_getElem? h0.1.1) h0.1.2, hts _ (List.mem_of_getElem? h0.2.1) h0.2.2⟩
    cases hs
    rw [List.length_append, Nat.add_sub_cancel_left] at hRc
    rw [zsl_app, Nat.add_sub_cancel_left] at hRs
    refine zr_new hx hb hts hown hK hP hS hc hcl.1 hcl.2 hd hRc (by simpa [zsz] using hRs) (fun H1 g1 g2 => ?_)
    have h3 := kk H1 locs ls g1 g2 hl
    rw [List.length_append, zsl_app, Nat.add_sub_cancel_left, Nat.add_sub_cancel_left] at h3
    rw [show zsz (.inr (.inr (a, (List.range N).map fun k => zdv (zty a k)))) = N from by simp [zsz]] at h3
    exact h3
  | 22 =>
    intro hc hs
    change (match (generalizing := false) S with
        | .int v :: S => some (if zcmp a v 0 then b else n0, L, S, w)
        | _ => none) = some (n, L', S', w') at hs
    delta zchk at hc
    dsimp only at hc
    simp only [zD, Bool.or_eq_true, Bool.and_eq_true, decide_eq_true_eq] at hc
    obtain ⟨hd, hn⟩ := hc
    split at hs
    · rename_i v S1
      cases hs
      have k1 := k0 rfl rfl
      subst hn
      match a, hd, k1 with
      | 0, hd, k1 => exact lv_if_eq (tgt := b) hx hb hd (by omega) (fun h => by rw [show zcmp 0 v 0 = true from by simpa [zcmp] using h, if_pos rfl] at k1; exact k1) (fun h => by rw [show zcmp 0 v 0 = false from by simpa [zcmp] using h, if_neg (by decide)] at k1; exact k1)
      | 1, hd, k1 => exact lv_if_ne (tgt := b) hx hb hd (by omega) (fun h => by rw [show zcmp 1 v 0 = true from by simpa [zcmp] using h, if_pos rfl] at k1; exact k1) (fun h => by rw [show zcmp 1 v 0 = false from by simpa [zcmp] using h, if_neg (by decide)] at k1; exact k1)
      | 2, hd, k1 => exact lv_if_lt (tgt := b) hx hb hd (by omega) (fun h => by rw [show zcmp 2 v 0 = true from by simpa [zcmp] using h, if_pos rfl] at k1; exact k1) (fun h => by rw [show zcmp 2 v 0 = false from by simpa [zcmp] using h, if_neg (by decide)] at k1; exact k1)
      | 3, hd, k1 => exact lv_if_ge (tgt := b) hx hb hd (by omega) (fun h => by rw [show zcmp 3 v 0 = true from by simpa [zcmp] using h, if_pos rfl] at k1; exact k1) (fun h => by rw [show zcmp 3 v 0 = false from by simpa [zcmp] using h, if_neg (by decide)] at k1; exact k1)
      | 4, hd, k1 => exact lv_if_gt (tgt := b) hx hb hd (by omega) (fun h => by rw [show zcmp 4 v 0 = true from by simpa [zcmp] using h, if_pos rfl] at k1; exact k1) (fun h => by rw [show zcmp 4 v 0 = false from by simpa [zcmp] using h, if_neg (by decide)] at k1; exact k1)
      | a + 5, hd, k1 => exact lv_if_le (tgt := b) hx hb hd (by omega) (fun h => by rw [show zcmp (a + 5) v 0 = true from by simpa [zcmp] using h, if_pos rfl] at k1; exact k1) (fun h => by rw [show zcmp (a + 5) v 0 = false from by simpa [zcmp] using h, if_neg (by decide)] at k1; exact k1)
    · cases hs
  | 23 =>
    intro hc hs
    change (match (generalizing := false) S with
        | .int v :: .int u :: S => some (if zcmp a u v then b else n0, L, S, w)
        | _ => none) = some (n, L', S', w') at hs
    delta zchk at hc
    dsimp only at hc
    simp only [zD, Bool.or_eq_true, Bool.and_eq_true, decide_eq_true_eq] at hc
    obtain ⟨hd, hn⟩ := hc
    split at hs
    · rename_i v u S1
      cases hs
      have k1 := k0 rfl rfl
      subst hn
      match a, hd, k1 with
      | 0, hd, k1 => exact lv_icmp_eq (tgt := b) hx hb hd (by omega) (fun h => by rw [show zcmp 0 u v = true from by simpa [zcmp] using h, if_pos rfl] at k1; exact k1) (fun h => by rw [show zcmp 0 u v = false from by simpa [zcmp] using h, if_neg (by decide)] at k1; exact k1)
      | 1, hd, k1 => exact lv_icmp_ne (tgt := b) hx hb hd (by omega) (fun h => by rw [show zcmp 1 u v = true from by simpa [zcmp] using h, if_pos rfl] at k1; exact k1) (fun h => by rw [show zcmp 1 u v = false from by simpa [zcmp] using h, if_neg (by decide)] at k1; exact k1)
      | 2, hd, k1 => exact lv_icmp_lt (tgt := b) hx hb hd (by omega) (fun h => by rw [show zcmp 2 u v = true from by simpa [zcmp] using h, if_pos rfl] at k1; exact k1) (fun h => by rw [show zcmp 2 u v = false from by simpa [zcmp] using h, if_neg (by decide)] at k1; exact k1)
      | 3, hd, k1 => exact lv_icmp_ge (tgt := b) hx hb hd (by omega) (fun h => by rw [show zcmp 3 u v = true from by simpa [zcmp] using h, if_pos rfl] at k1; exact k1) (fun h => by rw [show zcmp 3 u v = false from by simpa [zcmp] using h, if_neg (by decide)] at k1; exact k1)
      | 4, hd, k1 => exact lv_icmp_gt (tgt := b) hx hb hd (by omega) (fun h => by rw [show zcmp 4 u v = true from by simpa [zcmp] using h, if_pos rfl] at k1; exact k1) (fun h => by rw [show zcmp 4 u v = false from by simpa [zcmp] using h, if_neg (by decide)] at k1; exact k1)
      | a + 5, hd, k1 => exact lv_icmp_le (tgt := b) hx hb hd (by omega) (fun h => by rw [show zcmp (a + 5) u v = true from by simpa [zcmp] using h, if_pos rfl] at k1; exact k1) (fun h => by rw [show zcmp (a + 5) u v = false from by simpa [zcmp] using h, if_neg (by decide)] at k1; exact k1)
    · cases hs
  | 24 =>
    intro hc hs
    change (some (b, L, S, w)) = some (n, L', S', w') at hs
    delta zchk at hc
    dsimp only at hc
    simp only [zD, Bool.or_eq_true, Bool.and_eq_true, decide_eq_true_eq] at hc
    obtain ⟨hd, hn⟩ := hc
    cases hs
    exact lv_goto hx hb hd (by omega) (k0 rfl rfl)
  | 25 =>
    intro hc hs
    change (match (generalizing := false) S with
        | .ref _ :: S => some (n0, L, S, w)
        | _ => none) = some (n, L', S', w') at hs
    delta zchk at hc
    dsimp only at hc
    simp only [zD, Bool.or_eq_true, Bool.and_eq_true, decide_eq_true_eq] at hc
    obtain ⟨hd, hn⟩ := hc
    split at hs
    · cases hs
      subst hn
      exact lv_ifnull hx hb hd (k0 rfl rfl)
    · cases hs
  | 26 =>
    intro hc hs
    change (match (generalizing := false) S with
        | .ref _ :: S => some (b, L, S, w)
        | _ => none) = some (n, L', S', w') at hs
    delta zchk at hc
    dsimp only at hc
    simp only [zD, Bool.or_eq_true, Bool.and_eq_true, decide_eq_true_eq] at hc
    obtain ⟨hd, hn⟩ := hc
    split at hs
    · cases hs
      exact lv_ifnonnull hx hb hd (by omega) (k0 rfl rfl)
    · cases hs
  | 27 =>
    intro hc hs
    change (match (generalizing := false) S with
        | .int v :: S => some (zsw t b v, L, S, w)
        | _ => none) = some (n, L', S', w') at hs
    delta zchk at hc
    dsimp only at hc
    simp only [zD, Bool.or_eq_true, Bool.and_eq_true, decide_eq_true_eq] at hc
    split at hs
    · rename_i v S1
      cases hs
      have k1 := k0 rfl rfl
      by_cases ha : a = 1
      · rw [if_pos ha] at hc
        simp only [Bool.and_eq_true, decide_eq_true_eq] at hc
        obtain ⟨⟨hd, hn⟩, hsd⟩ := hc
        exact lv_lookup hx hb hd hsd (zsw_off pc t b v) (by omega) k1
      · rw [if_neg ha] at hc
        simp only [Bool.and_eq_true, decide_eq_true_eq] at hc
        obtain ⟨⟨hd, hn⟩, htc⟩ := hc
        by_cases h1 : v.toInt < (t.headD (0, 0)).1.toInt ∨ (t.headD (0, 0)).1.toInt + (t.length : Int) - 1 < v.toInt
        · rw [zsw_out t _ b v htc h1] at k1
          exact lv_tableOut hx hb hd h1 (by omega) k1
        · have h2 : ¬ v.toInt < (t.headD (0, 0)).1.toInt := fun h => h1 (Or.inl h)
          have h3 : ¬ (t.headD (0, 0)).1.toInt + (t.length : Int) - 1 < v.toInt := fun h => h1 (Or.inr h)
          obtain ⟨q, g1, g2⟩ := zsw_in t _ b v htc (Int.not_lt.mp h2) (Int.not_lt.mp h3)
          rw [g2] at k1
          exact lv_tableIn (off := (q.2 : Int) - (pc : Int)) hx hb hd h2 h3 (by rw [List.getElem?_toArray, List.getElem?_map, g1]; rfl) (by omega) k1
    · cases hs
  | 33 =>
    intro hc hs
    change (match (generalizing := false) S with
        | .ref _ :: S => some (n0, L, S, w)
        | _ => none) = some (n, L', S', w') at hs
    delta zchk at hc
    dsimp only at hc
    simp only [zD, Bool.or_eq_true, Bool.and_eq_true, decide_eq_true_eq] at hc
    obtain ⟨⟨hd, hn⟩, hco⟩ := hc
    have hlink := zjk hts hco
    split at hs
    · rename_i r S1
      have hcs := zcatsum A0 aS S1
      simp only [List.length_cons] at hS12
      cases hs
      subst hn
      exact W.objInit hx hb hown hlink (hts _ (List.mem_of_getElem? (i := 211) (by decide +kernel)) rfl) (hts _ (List.mem_of_getElem? (i := 212) (by decide +kernel)) rfl) rfl (by rw [hl.1, hL, hml]) rfl hd hfr (by show 2 * 0 + _ + 12 ≤ _; omega) (k0 rfl rfl)
    · cases hs
  | 34 =>
    intro hc hs
    change (match (generalizing := false) S with
        | .int v :: .int u :: S => some (n0, L, .int (if u < v then v else u) :: S, w)
        | _ => none) = some (n, L', S', w') at hs
    delta zchk at hc
    dsimp only at hc
    simp only [zD, Bool.or_eq_true, Bool.and_eq_true, decide_eq_true_eq] at hc
    obtain ⟨⟨hd, hn⟩, hco⟩ := hc
    have hlink := zjk hts hco
    split at hs
    · rename_i v u S1
      have hcs := zcatsum A0 aS S1
      simp only [List.length_cons] at hS12
      cases hs
      subst hn
      have k1 := k0 rfl rfl
      exact va_mmax hx hb (by rw [hl.1, hL, hml]) hown hlink (hts _ (List.mem_of_getElem? (i := 342) (by decide +kernel)) rfl) (hts _ (List.mem_of_getElem? (i := 189) (by decide +kernel)) rfl) (hts _ (List.mem_of_getElem? (i := 343) (by decide +kernel)) rfl) hfr (by omega) (by omega) (by omega) hd k1
    · cases hs
  | 35 =>
    intro hc hs
    change (match (generalizing := false) S with
        | .int v :: .int u :: S => some (n0, L, .int (if u < v then u else v) :: S, w)
        | _ => none) = some (n, L', S', w') at hs
    delta zchk at hc
    dsimp only at hc
    simp only [zD, Bool.or_eq_true, Bool.and_eq_true, decide_eq_true_eq] at hc
    obtain ⟨⟨hd, hn⟩, hco⟩ := hc
    have hlink := zjk hts hco
    split at hs
    · rename_i v u S1
      have hcs := zcatsum A0 aS S1
      simp only [List.length_cons] at hS12
      cases hs
      subst hn
      have k1 := k0 rfl rfl
      rw [zmin_eq] at k1
      exact va_mmin hx hb (by rw [hl.1, hL, hml]) hown hlink (hts _ (List.mem_of_getElem? (i := 724) (by decide +kernel)) rfl) (hts _ (List.mem_of_getElem? (i := 189) (by decide +kernel)) rfl) (hts _ (List.mem_of_getElem? (i := 725) (by decide +kernel)) rfl) hfr (by omega) (by omega) (by omega) hd k1
    · cases hs
  | 36 =>
    intro hc hs
    change (match (generalizing := false) S with
        | .int v :: S => some (n0, L, .int (if v < 0 then -v else v) :: S, w)
        | _ => none) = some (n, L', S', w') at hs
    delta zchk at hc
    dsimp only at hc
    simp only [zD, Bool.or_eq_true, Bool.and_eq_true, decide_eq_true_eq] at hc
    obtain ⟨⟨hd, hn⟩, hco⟩ := hc
    have hlink := zjk hts hco
    split at hs
    · rename_i v S1
      have hcs := zcatsum A0 aS S1
      simp only [List.length_cons] at hS12
      cases hs
      subst hn
      have k1 := k0 rfl rfl
      have e1 : (if v < 0 then -v else v) = (if 0 ≤ v then v else 0 - v) := by
        by_cases h : v < 0
        · rw [if_pos h, if_neg (Int32.not_le.mpr h), Int32.zero_sub]
        · rw [if_neg h, if_pos (Int32.not_lt.mp h)]
      rw [e1] at k1
      exact va_mabs hx hb (by rw [hl.1, hL, hml]) hown hlink (hts _ (List.mem_of_getElem? (i := 1142) (by decide +kernel)) rfl) (hts _ (List.mem_of_getElem? (i := 189) (by decide +kernel)) rfl) (hts _ (List.mem_of_getElem? (i := 1143) (by decide +kernel)) rfl) hfr (by omega) (by omega) (by omega) hd k1
    · cases hs
  | 37 =>
    intro hc hs
    change (match (generalizing := false) S with
        | .int k :: .int dp :: .ref r1 :: .int sp :: .ref r0 :: S => match (generalizing := false) w[r0]?, w[r1]? with
          | some (.inl f), some (.inl g) => if 0 ≤ sp ∧ 0 ≤ dp ∧ 0 ≤ k ∧ sp.toNatClampNeg + k.toNatClampNeg ≤ f.length ∧ dp.toNatClampNeg + k.toNatClampNeg ≤ g.length then some (n0, L, S, w.set r1 (.inl (zcpy f g sp.toNatClampNeg dp.toNatClampNeg k.toNatClampNeg))) else none
          | _, _ => none
        | _ => none) = some (n, L', S', w') at hs
    delta zchk at hc
    dsimp only at hc
    simp only [zD, Bool.or_eq_true, Bool.and_eq_true, decide_eq_true_eq] at hc
    obtain ⟨⟨hd, hn⟩, hco⟩ := hc
    have hlink := zjk hts hco
    split at hs
    · rename_i k dp r1 sp r0 S1
      split at hs
      · rename_i f g hf hg
        split at hs
        · rename_i hh
          have hcs := zcatsum A0 aS S1
          simp only [List.length_cons] at hS12
          cases hs
          subst hn
          have hnf : nativeFrameWords "java/lang/System" "arraycopy" 5 + 11 ≤ 46 := by decide +kernel
          refine zr_copy hx hb (by rw [hl.1, hL, hml]) hown hlink (hts _ (List.mem_of_getElem? (i := 732) (by decide +kernel)) rfl) (hts _ (List.mem_of_getElem? (i := 731) (by decide +kernel)) rfl) (hts _ (List.mem_of_getElem? (i := 199) (by decide +kernel)) rfl) hK hP hS hf hg hh.1 hh.2.1 hh.2.2.1 hh.2.2.2.1 hh.2.2.2.2 hfr (by omega) hd (fun H1 locs1 g1 g2 => ?_)
          have h3 := kk H1 locs1 ls g1 g2 hl
          rwa [List.length_set, zsl_set hg (by simp [zsz, zcpy]), Nat.sub_self, Nat.sub_self, Nat.add_zero, Nat.add_zero] at h3
        · cases hs
      · cases hs
    · cases hs
  | 38 =>
    intro hc hs
    change (some (n0, L, .long 0 :: S, w)) = some (n, L', S', w') at hs
    cases hs
    exact z38 C0 hST hc (k0 rfl rfl)
  | 41 =>
    intro hc hs
    change (match (generalizing := false) S with
        | [.int v, .int u] => if v = 0 then none else some (n0, L, [.int (zfd u v)], w)
        | _ => none) = some (n, L', S', w') at hs
    split at hs
    · rename_i v u
      split at hs
      · cases hs
      · rename_i hv
        cases hs
        exact z41 C0 hST hc hv hS hl hL hfr hlo (by omega) (by omega) (k0 rfl rfl)
    · cases hs
  | 42 =>
    intro hc hs
    change (match (generalizing := false) S with
        | [.int v, .int u] => if v = 0 then none else some (n0, L, [.int (zfm u v)], w)
        | _ => none) = some (n, L', S', w') at hs
    split at hs
    · rename_i v u
      split at hs
      · cases hs
      · rename_i hv
        cases hs
        exact z42 C0 hST hc hv hS hl hL hfr hlo (by omega) (by omega) (k0 rfl rfl)
    · cases hs
  | 28 =>
    intro hc hs
    cases hs
  | 29 =>
    intro hc hs
    cases hs
  | 30 =>
    intro hc hs
    cases hs
  | 31 =>
    intro hc hs
    cases hs
  | 32 =>
    intro hc hs
    cases hs
  | 39 =>
    intro hc hs
    cases hs
  | 40 =>
    intro hc hs
    cases hs
  | op + 43 =>
    intro hc hs
    cases hs
end ZST
