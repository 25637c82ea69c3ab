/-! SOUND: what the pure machine says of a method, the machine does. Rows of single instructions. -/
def zn (w : Jvm.Cond) : Bool := match w with
  | .fieldLinkNest .. => true
  | .methodLinkNest .. => true
  | _ => false
def ztv (A0 aS : Nat) (v : Value) : Value := match v with
  | .ref k => .ref (A0 + k)
  | .long _ => .ref aS
  | v => v
def zte (A0 aS : Nat) (cI cD : ClassId) (e : zC) : va_E := match e with
  | .inl l => .inl (cI, (l.length, .inl (fun j => l.getD j 0)))
  | .inr (.inl l) => .inl (cD, (l.length, .inr (.inr (.inr (.inr (fun j => (l.getD j none).map (fun k => A0 + k)))))))
  | .inr (.inr o) => .inr (o.1, o.2.map (ztv A0 aS))
def zHP (A0 aS : Nat) (D : va_G) (cI cD : ClassId) (w : zW) (H : Heap) : Prop :=
  H.size = A0 + w.length ∧ ∀ (k : Nat) (e : zC), w[k]? = some e → va_at D vwCl (A0 + k, zte A0 aS cI cD e) H
theorem zHP.set {A0 aS : Nat} {D : va_G} {cI cD : ClassId} {w : zW} {H H1 : Heap} (h : zHP A0 aS D cI cD w H) {k : Nat} {e0 e : zC} (hk : w[k]? = some e0) (z : H1.size = H.size) (he : va_at D vwCl (A0 + k, zte A0 aS cI cD e) H1) (oq : ∀ q : Nat, q ≠ A0 + k → H1[q]? = H[q]?) : zHP A0 aS D cI cD (w.set k e) H1 := by
  have hl := (List.getElem?_eq_some_iff.mp hk).1
  refine ⟨by rw [z, h.1, List.length_set], fun j x hj => ?_⟩
  by_cases hjk : j = k
  · subst hjk
    rw [List.getElem?_set_self hl] at hj
    cases hj
    exact he
  · rw [List.getElem?_set_ne (Ne.symm hjk)] at hj
    exact (h.2 j x hj).kept (oq (A0 + j) (by omega))
theorem zHP.push {A0 aS : Nat} {D : va_G} {cI cD : ClassId} {w : zW} {H H1 : Heap} (h : zHP A0 aS D cI cD w H) {e : zC} (z : H1.size = H.size + 1) (he : va_at D vwCl (H.size, zte A0 aS cI cD e) H1) (oq : ∀ q : Nat, q < H.size → H1[q]? = H[q]?) : zHP A0 aS D cI cD (w ++ [e]) H1 := by
  refine ⟨by rw [z, h.1, List.length_append]; rfl, fun j x hj => ?_⟩
  by_cases hl : j < w.length
  · rw [List.getElem?_append_left hl] at hj
    exact (h.2 j x hj).kept (oq (A0 + j) (by rw [h.1]; omega))
  · rw [List.getElem?_append_right (by omega)] at hj
    have hz : j - w.length < 1 := (List.getElem?_eq_some_iff.mp hj).1
    have hj0 : j = w.length := by omega
    subst hj0
    rw [Nat.sub_self] at hj
    cases hj
    rw [← h.1]
    exact he
theorem zcl_lt {ci : Nat} {r : vw_C} (h : vwCl[ci]? = some r) : ci < 13 := (List.getElem?_eq_some_iff.mp h).1
theorem zw_in {ci : Nat} {C : String} {T : u_T} {N : Nat} (h : vwCl[ci]? = some (C, T, N)) : ∀ w ∈ u_ws C T N, w ∈ lw_tbl.filter goodWord := by
  intro w hw
  have h0 := zw_all ci (zcl_lt h)
  unfold zwchk at h0
  rw [h] at h0
  simp only [Bool.and_eq_true, decide_eq_true_eq, List.all_eq_true] at h0
  refine List.mem_filter.mpr ⟨?_, h0.2 w hw⟩
  have hw2 := hw
  rw [h0.1] at hw2
  obtain ⟨i, -, hi⟩ := List.mem_filterMap.mp hw2
  exact List.mem_of_getElem? hi
theorem zty_ok {ci : Nat} {C : String} {T : u_T} {N : Nat} (h : vwCl[ci]? = some (C, T, N)) : ∀ k, k < N → parseFieldDescriptor (T k).2.2.1 = some (zty ci k) := by
  have hl := zcl_lt h
  rcases (show ci = 0 ∨ ci = 1 ∨ ci = 2 ∨ ci = 3 ∨ ci = 4 ∨ ci = 5 ∨ ci = 6 ∨ ci = 7 ∨ ci = 8 ∨ ci = 9 ∨ ci = 10 ∨ ci = 11 ∨ ci = 12 by omega) with rfl | rfl | rfl | rfl | rfl | rfl | rfl | rfl | rfl | rfl | rfl | rfl | rfl <;> cases h
  · exact tyX0_ok
  · exact tyX1_ok
  · exact tyX2_ok
  · exact tyX3_ok
  · exact tyX4_ok
  · exact tyX5_ok
  · exact tyX6_ok
  · exact tyX7_ok
  · exact tyX8_ok
  · exact tyX9_ok
  · exact tyX10_ok
  · exact tyX11_ok
  · exact tyX12_ok
theorem znm_ok {ci : Nat} {C : String} {T : u_T} {N : Nat} (h : vwCl[ci]? = some (C, T, N)) : ∀ a, a < N → ∀ b, b < N → a ≠ b → (T a).2.1 ≠ (T b).2.1 := by
  have hl := zcl_lt h
  rcases (show ci = 0 ∨ ci = 1 ∨ ci = 2 ∨ ci = 3 ∨ ci = 4 ∨ ci = 5 ∨ ci = 6 ∨ ci = 7 ∨ ci = 8 ∨ ci = 9 ∨ ci = 10 ∨ ci = 11 ∨ ci = 12 by omega) with rfl | rfl | rfl | rfl | rfl | rfl | rfl | rfl | rfl | rfl | rfl | rfl | rfl <;> cases h
  · exact nmX0
  · exact nmX1
  · exact nmX2
  · exact nmX3
  · exact nmX4
  · exact nmX5
  · exact nmX6
  · exact nmX7
  · exact nmX8
  · exact nmX9
  · exact nmX10
  · exact nmX11
  · exact nmX12
theorem zfit_ok {A0 aS : Nat} {ty : FieldType} {v : Value} (h : zfit ty v = true) : narrow ty (ztv A0 aS v) = ztv A0 aS v ∧ fits ty (ztv A0 aS v) = true := by
  unfold zfit at h
  split at h
  · exact ⟨rfl, rfl⟩
  · simp only [Bool.or_eq_true, decide_eq_true_eq] at h
    rcases h with rfl | rfl <;> exact ⟨rfl, rfl⟩
  · exact ⟨rfl, rfl⟩
  · exact ⟨rfl, rfl⟩
  · cases h
abbrev ztys (cI cD : ClassId) : List (ClassId × FieldType) := [(cI, .int), (cD, .object "LateOrders$Duchy")]
/-- the fixed part of a method's world: the machine, the code, the words of the tables -/
def zCtx (A0 aS : Nat) (D : va_G) (cI cD : ClassId) (y : Nat) (p : Program) (s : State) (m : MethodId) (args : Array Value) (meth : Method) (c : Code) : Prop :=
  p.tables.exec = Jvm.exec ∧ c.code = (zm y).2.1 ∧ meth.sig.returnType = (zm y).2.2.2.1 ∧ c.maxLocals = (zm y).2.2.1 ∧ s.vm.findClass (zN (zm y).2.2.2.2.1) = some m.cls ∧ meth.locks = false ∧ meth.name = (zm y).1.name ∧
  (∀ w ∈ lw_tbl, goodWord w = true → w.before args s = true) ∧ (∀ w ∈ lw_tbl, zn w = true → va_Nw w s) ∧ va_K D vwCl (ztys cI cD) s ∧ A0 ≤ s.heap.size ∧ va_AO "LateOrders$Duchy" s
def zls (A0 aS : Nat) (L : List Value) (ls : Array Slot) : Prop := ls.size = L.length ∧ lv_wf ls ∧ ∀ (k : Nat) (v : Value), L[k]? = some v → v ≠ zun → zokv v = true ∧ ls[k]? = some (.val (ztv A0 aS v))
theorem zok_cat {A0 aS : Nat} {v : Value} (h : zokv v = true) : (ztv A0 aS v).category = 1 := by
  unfold zokv at h
  split at h
  · rfl
  · rfl
  · cases h
theorem zls.st {A0 aS a : Nat} {L : List Value} {ls : Array Slot} {v : Value} (h : zls A0 aS L ls) (ha : a < L.length) (hv : zokv v = true) : ∃ lv : List (Nat × Value), lv_has ls L.length lv ∧ ∀ ls' : Array Slot, lv_has ls' L.length ((a, ztv A0 aS v) :: lv.filter (fun q => !(q.1 == a) && !(q.1 + 1 == a && q.2.category == 2))) → zls A0 aS (L.set a v) ls' := by
  refine ⟨(List.range L.length).filterMap (fun k => if L.getD k zun = zun then none else some (k, ztv A0 aS (L.getD k zun))), ⟨h.1, h.2.1, fun q hq => ?_⟩, fun ls' h' => ⟨by rw [h'.1, List.length_set], h'.2.1, fun k u hk hu => ?_⟩⟩
  · obtain ⟨k, hk, hq⟩ := List.mem_filterMap.mp hq
    have hk := List.mem_range.mp hk
    split at hq
    · cases hq
    · rename_i hne
      cases hq
      refine (h.2.2 k _ ?_ hne).2
      rw [List.getD_eq_getElem?_getD, List.getElem?_eq_getElem hk]; rfl
  · by_cases hka : k = a
    · subst hka
      rw [List.getElem?_set_self ha] at hk
      cases hk
      exact ⟨hv, h'.2.2 _ List.mem_cons_self⟩
    · rw [List.getElem?_set_ne (Ne.symm hka)] at hk
      have hkl := (List.getElem?_eq_some_iff.mp hk).1
      have hok := (h.2.2 k u hk hu).1
      refine ⟨hok, h'.2.2 (k, ztv A0 aS u) (List.mem_cons_of_mem _ (List.mem_filter.mpr ⟨List.mem_filterMap.mpr ⟨k, List.mem_range.mpr hkl, ?_⟩, ?_⟩))⟩
      · rw [List.getD_eq_getElem?_getD, hk]
        exact if_neg hu
      · have hc : (ztv A0 aS u).category = 1 := zok_cat hok
        simp [hka, hc]
theorem arrV_congr {cA : ClassId} {N : Nat} {f g : Nat → Value} (h : ∀ q, q < N → f q = g q) : arrV cA N f = arrV cA N g := by
  unfold arrV
  congr 1
  congr 1
  funext j
  exact h j.val j.isLt
def ztk (ty : FieldType) : Bool := match ty with
  | .int => true
  | .boolean => true
  | .object _ => true
  | .array _ => true
  | _ => false
theorem ztk_ok {ty : FieldType} (h : ztk ty = true) : ty = .int ∨ ty = .boolean ∨ (∃ x, ty = .object x) ∨ (∃ x, ty = .array x) := by
  unfold ztk at h
  split at h
  · exact Or.inl rfl
  · exact Or.inr (Or.inl rfl)
  · exact Or.inr (Or.inr (Or.inl ⟨_, rfl⟩))
  · exact Or.inr (Or.inr (Or.inr ⟨_, rfl⟩))
  · cases h
theorem ztk_all : ∀ ci, ci < 13 → ∀ j, j < 70 → ztk (zty ci j) = true := by decide +kernel
theorem zN_le : ∀ q ∈ vwCl, q.2.2 ≤ 70 := by decide +kernel
theorem zty_kinds {ci : Nat} {C : String} {T : u_T} {N : Nat} (h : vwCl[ci]? = some (C, T, N)) (j : Nat) (hj : j < N) : zty ci j = .int ∨ zty ci j = .boolean ∨ (∃ x, zty ci j = .object x) ∨ (∃ x, zty ci j = .array x) :=
  ztk_ok (ztk_all ci (zcl_lt h) j (Nat.lt_of_lt_of_le hj (zN_le _ (List.mem_of_getElem? h))))
section ZROWS
variable {p : Program} {l : Launch} {e : Env} {R : Room} {s : State} {m : MethodId} {args : Array Value} {below : List Frame} {meth : Method} {c : Code} {H : Heap} {locs : List Loc} {cells slots : Nat} {Q : State → Prop}
variable {cc : ByteArray} {pc : Nat} {ls : Array Slot} {rest : List Value} {A0 aS : Nat} {D : va_G} {cI cD : ClassId} {w : zW} {o : Nat} {tys : List (ClassId × FieldType)}
theorem zlink {o idx ci j : Nat} {T : u_T} {C : String} {N : Nat} (hts : ∀ w ∈ lw_tbl, goodWord w = true → w.before args s = true) (hnw : ∀ w ∈ lw_tbl, zn w = true → va_Nw w s) (hc : vwCl[ci]? = some (C, T, N)) {q : Nat × Nat × Bool × Nat × Nat × Nat} (hq : q ∈ zFL) (h1 : q.1 = o) (h2 : q.2.1 = idx) (h3 : q.2.2.2.1 = ci) (h4 : q.2.2.2.2.1 = j) :
    j < N ∧ (T j).1 = C ∧ ((q.2.2.1 = false ∧ (Jvm.Cond.fieldLink (zN o) idx C (T j).2.1 (T j).2.2.1).before args s = true) ∨ (q.2.2.1 = true ∧ (Jvm.Cond.fieldLinkNest (zN o) idx C (T j).2.1 (T j).2.2.1 "LateOrders").before args s = true)) := by
  have h := zFL_ok q hq
  obtain ⟨o', idx', nest, ci', j', ix⟩ := q
  dsimp only at h1 h2 h3 h4
  subst h1; subst h2; subst h3; subst h4
  unfold zfchk at h
  dsimp only at h
  rw [hc] at h
  simp only [Bool.and_eq_true, decide_eq_true_eq] at h
  refine ⟨h.1.1, h.1.2, ?_⟩
  have h5 := h.2
  cases nest with
  | true =>
    simp only [if_true, decide_eq_true_eq] at h5
    exact Or.inr ⟨rfl, va_Nw.use rfl (hnw _ (List.mem_of_getElem? h5) rfl)⟩
  | false =>
    simp only [Bool.false_eq_true, if_false, zg, Bool.and_eq_true, decide_eq_true_eq] at h5
    exact Or.inl ⟨rfl, hts _ (List.mem_of_getElem? h5.1) h5.2⟩
theorem zgw_hts (hts : ∀ w ∈ lw_tbl, goodWord w = true → w.before args s = true) : ∀ w ∈ lw_tbl.filter goodWord, w.before args s = true := fun w hw => hts w (List.mem_filter.mp hw).1 (List.mem_filter.mp hw).2
theorem zr_get (hexec : p.tables.exec = Jvm.exec) (hb : c.code = cc) (hts : ∀ w ∈ lw_tbl, goodWord w = true → w.before args s = true) (hnw : ∀ w ∈ lw_tbl, zn w = true → va_Nw w s) (hown : s.vm.findClass (zN o) = some m.cls) (hK : va_K D vwCl tys s) (hP : zHP A0 aS D cI cD w H)
    {k ci j idx : Nat} {fs : List Value} (he : w[k]? = some (.inr (.inr (ci, fs)))) {q : Nat × Nat × Bool × Nat × Nat × Nat} (hq : q ∈ zFL) (h1 : q.1 = o) (h2 : q.2.1 = idx) (h3 : q.2.2.2.1 = ci) (h4 : q.2.2.2.2.1 = j) {v : Value} (hv : fs[j]? = some v) (hdg : decode cc pc = .ok (.getfield idx, 3))
    (kk : W p l e R s m args below meth c H locs cells slots Q (F0 m (pc + 3) ls (ztv A0 aS v :: rest))) : W p l e R s m args below meth c H locs cells slots Q (F0 m pc ls (.ref (A0 + k) :: rest)) := by
  have hat := hP.2 k _ he
  obtain ⟨⟨C, T, N⟩, hc, -⟩ := id hat
  obtain ⟨hj, hC, hl⟩ := zlink hts hnw hc hq h1 h2 h3 h4
  have hP1 : va_P D vwCl [(A0 + k, .inr (ci, fs.map (ztv A0 aS)))] H := fun i x hx => by
    have hz : i < 1 := (List.getElem?_eq_some_iff.mp hx).1
    rw [show i = 0 by omega] at hx
    cases hx
    exact hat
  have hv' : (fs.map (ztv A0 aS))[j]? = some (ztv A0 aS v) := by rw [List.getElem?_map, hv]; rfl
  rcases hl with ⟨-, hl⟩ | ⟨-, hl⟩
  · exact va_get hexec hb (zgw_hts hts) (zw_in hc) hown hK hP1 0 rfl hc j hj hl (fun x hx => by rw [hC] at hx; exact hx) hv' hdg kk
  · exact va_getN hexec hb (zgw_hts hts) (zw_in hc) hown hK hP1 0 rfl hc j hj hl (fun x hx => by rw [hC] at hx; exact hx) hv' hdg kk
theorem zr_put (hexec : p.tables.exec = Jvm.exec) (hb : c.code = cc) (hts : ∀ w ∈ lw_tbl, goodWord w = true → w.before args s = true) (hnw : ∀ w ∈ lw_tbl, zn w = true → va_Nw w s) (hown : s.vm.findClass (zN o) = some m.cls) (hK : va_K D vwCl tys s) (hP : zHP A0 aS D cI cD w H) (hS : va_S (fun q => A0 ≤ q) s.heap H locs)
    {k ci j idx : Nat} {fs : List Value} (he : w[k]? = some (.inr (.inr (ci, fs)))) {q : Nat × Nat × Bool × Nat × Nat × Nat} (hq : q ∈ zFL) (h1 : q.1 = o) (h2 : q.2.1 = idx) (h3 : q.2.2.2.1 = ci) (h4 : q.2.2.2.2.1 = j) {v : Value} (hl : j < fs.length) (hfit : zfit (zty ci j) v = true)
    (hfin : ∀ C T N, vwCl[ci]? = some (C, T, N) → (T j).2.2.2 = false ∨ (q.2.2.1 = false ∧ meth.name = "<init>" ∧ (T j).1 = zN o)) (hdg : decode cc pc = .ok (.putfield idx, 3))
    (kk : ∀ (H1 : Heap) (locs1 : List Loc), zHP A0 aS D cI cD (w.set k (.inr (.inr (ci, fs.set j v)))) H1 → va_S (fun q => A0 ≤ q) s.heap H1 locs1 → W p l e R s m args below meth c H1 locs1 cells slots Q (F0 m (pc + 3) ls rest)) : W p l e R s m args below meth c H locs cells slots Q (F0 m pc ls (ztv A0 aS v :: .ref (A0 + k) :: rest)) := by
  have hat := hP.2 k _ he
  obtain ⟨⟨C, T, N⟩, hc, cell, q1, q2, q3, q4⟩ := id hat
  obtain ⟨hj, hC, hlk⟩ := zlink hts hnw hc hq h1 h2 h3 h4
  have hts' := zgw_hts hts
  have hin := zw_in hc
  obtain ⟨hn, hft⟩ := zfit_ok (A0 := A0) (aS := aS) hfit
  have hd := zty_ok hc j hj
  have hap := va_apart (own := zN o) hts' hin (zty ci) (zty_ok hc) (znm_ok hc) hK hc
  obtain ⟨hSl, hfc, kC, hkC, hkind⟩ := hK.1 ci _ hc
  obtain ⟨cf, kf, fi, f, hi, hsl⟩ := hSl j hj
  have hlay := hts' _ (hin _ (u_in_lay hj))
  unfold u_lay at hlay
  have hst := (u_facts hfc hkC (u_lays hts' hin hj) hi).1
  have hi' : s.fieldFound? C (T j).2.1 (T j).2.2.1 = some (cf, kf, fi, f) := by rw [← hC]; exact hi
  have fin : ∀ H' : Heap, H'[A0 + k]? = some (cell.setSlot f.slot (ztv A0 aS v)) → H'.size = H.size → (∀ q, q ≠ A0 + k → H'[q]? = H[q]?) → W p l e R s m args below meth c H' (locs ++ [⟨A0 + k, f.slot⟩]) cells slots Q (F0 m (pc + 3) ls rest) := by
    intro H' e1 e2 e3
    rw [hsl] at e1 ⊢
    refine kk H' _ (hP.set he e2 ?_ e3) (hS.put e2 e3 (Nat.le_add_right A0 k))
    have hset : (fs.set j v).map (ztv A0 aS) = (fs.map (ztv A0 aS)).set j (ztv A0 aS v) := by rw [List.map_set]
    show ∃ r : vw_C, _ ∧ t_OB _ _ _ _ _ (vp_V ((fs.set j v).map (ztv A0 aS)))
    rw [hset]
    exact ⟨_, hc, t_OB.to (V := updV (vp_V (fs.map (ztv A0 aS))) j (ztv A0 aS v)) ⟨_, e1, q2, q3, t_set q4 hap hj _⟩ (fun i _ => vp_updV_set (by simpa using hl) _ i)⟩
  by_cases hf : (T j).2.2.2 = false
  · rw [if_neg (by rw [hf]; decide)] at hlay
    have h6 := u_store hfc hkC hkind hlay hi hd hn hft
    rcases hlk with ⟨-, hlk⟩ | ⟨-, hlk⟩
    · exact W.putK hexec hb (f := f) ⟨hown, hlk, ⟨_, _, _, hi'⟩, hst⟩ (by rw [q2]; exact h6) q1 q3 (by rw [hsl]; exact k2_hasslot (q4 j hj)) rfl rfl hdg fin
    · exact va_WputK hexec hb (f := f) hown hlk hi' hst (by rw [q2]; exact h6) q1 q3 (by rw [hsl]; exact k2_hasslot (q4 j hj)) rfl rfl hdg fin
  · rw [if_pos (by simpa using hf)] at hlay
    rcases hfin C T N hc with hx | ⟨hnest, hname, hdecl⟩
    · exact absurd hx hf
    have hcf : m.cls = cf := by
      obtain ⟨_, _, c', _, _, _, -, -, hf', -, -, -, hown2, -⟩ := Cond.laysFinal_spec hlay
      have e1 : c' = cf := by have := hi.symm.trans hf'; simp at this; exact this.1.symm
      rw [hdecl] at hown2
      rw [← e1]; exact Option.some.inj (hown.symm.trans hown2)
    have h6 := u_fits hfc hkC hkind (Or.inr hlay) hi hd hn hft
    rcases hlk with ⟨-, hlk⟩ | ⟨hx, -⟩
    · exact W.putFinK hexec hb hown hlk hi' hst hcf hname (by rw [q2]; exact h6) q1 q3 (by rw [hsl]; exact k2_hasslot (q4 j hj)) rfl rfl hdg fin
    · rw [hnest] at hx; cases hx
theorem zarr_at {k : Nat} {f : List Int32} (hP : zHP A0 aS D cI cD w H) (he : w[k]? = some (.inl f)) : H[A0 + k]? = some (vp_cell cI (f.length, .inl (fun j => f.getD j 0))) := hP.2 k _ he
theorem zvin {i : Int32} {n : Nat} (h : zin i n = true) : vp_in i n := by
  simp only [zin, Bool.and_eq_true, decide_eq_true_eq] at h
  intro q
  rcases q with q | q
  · exact Int32.not_lt.mpr h.1 q
  · omega
theorem zr_ald (hexec : p.tables.exec = Jvm.exec) (hb : c.code = cc) (hK : va_K D vwCl (ztys cI cD) s) (hP : zHP A0 aS D cI cD w H) {k : Nat} {f : List Int32} (he : w[k]? = some (.inl f)) {i : Int32} (hin : zin i f.length = true) (hdg : decode cc pc = .ok (.iaload, 1))
    (kk : W p l e R s m args below meth c H locs cells slots Q (F0 m (pc + 1) ls (.int (f.getD i.toNatClampNeg 0) :: rest))) : W p l e R s m args below meth c H locs cells slots Q (F0 m pc ls (.int i :: .ref (A0 + k) :: rest)) := by
  have hP1 : va_P D vwCl [(A0 + k, .inl (cI, (f.length, .inl (fun j => f.getD j 0))))] H := fun i x hx => by
    have hz : i < 1 := (List.getElem?_eq_some_iff.mp hx).1
    rw [show i = 0 by omega] at hx
    cases hx
    exact hP.2 k _ he
  exact va_iald hexec hb hK hP1 0 0 rfl rfl (zvin hin) hdg kk
theorem zr_alen (hexec : p.tables.exec = Jvm.exec) (hb : c.code = cc) (hK : va_K D vwCl (ztys cI cD) s) (hP : zHP A0 aS D cI cD w H) {k : Nat} {f : List Int32} (he : w[k]? = some (.inl f)) (hdg : decode cc pc = .ok (.arraylength, 1))
    (kk : W p l e R s m args below meth c H locs cells slots Q (F0 m (pc + 1) ls (.int (Int32.ofNat f.length) :: rest))) : W p l e R s m args below meth c H locs cells slots Q (F0 m pc ls (.ref (A0 + k) :: rest)) := by
  have hP1 : va_P D vwCl [(A0 + k, .inl (cI, (f.length, .inl (fun j => f.getD j 0))))] H := fun i x hx => by
    have hz : i < 1 := (List.getElem?_eq_some_iff.mp hx).1
    rw [show i = 0 by omega] at hx
    cases hx
    exact hP.2 k _ he
  exact va_alen hexec hb hK hP1 0 0 rfl (ty := .int) rfl rfl hdg kk
theorem zr_ast (hexec : p.tables.exec = Jvm.exec) (hb : c.code = cc) (hK : va_K D vwCl (ztys cI cD) s) (hP : zHP A0 aS D cI cD w H) (hS : va_S (fun q => A0 ≤ q) s.heap H locs) {k : Nat} {f : List Int32} (he : w[k]? = some (.inl f)) {i x : Int32} (hin : zin i f.length = true) (hdg : decode cc pc = .ok (.iastore, 1))
    (kk : ∀ (H1 : Heap) (locs1 : List Loc), zHP A0 aS D cI cD (w.set k (.inl (f.set i.toNatClampNeg x))) H1 → va_S (fun q => A0 ≤ q) s.heap H1 locs1 → W p l e R s m args below meth c H1 locs1 cells slots Q (F0 m (pc + 1) ls rest)) : W p l e R s m args below meth c H locs cells slots Q (F0 m pc ls (.int x :: .int i :: .ref (A0 + k) :: rest)) := by
  have hlt : i.toNatClampNeg < f.length := by simp only [zin, Bool.and_eq_true, decide_eq_true_eq] at hin; exact hin.2
  refine W.iast hexec hb (zarr_at hP he) ((hK.2 0 _ rfl).1 f.length (fun j => .int (f.getD j 0))) (fun q => by cases q) (by show ¬ (i < 0 ∨ (arrV _ _ _).slots.size ≤ _); rw [arrV_size]; exact zvin hin) rfl rfl hdg fun H1 e z oq => ?_
  refine kk H1 _ (hP.set he z ?_ oq) (hS.put z oq (Nat.le_add_right A0 k))
  show H1[A0 + k]? = some (vp_cell _ _)
  rw [e, vp_cell_i, vp_cell_i, arrV_store, List.length_set]
  congr 2
  funext q
  by_cases hq : q = i.toNatClampNeg
  · subst hq
    simp [updV, List.getD_eq_getElem?_getD, hlt]
  · simp [updV, hq, List.getD_eq_getElem?_getD, List.getElem?_set_ne (Ne.symm hq)]
theorem zr_aald (hexec : p.tables.exec = Jvm.exec) (hb : c.code = cc) (hK : va_K D vwCl (ztys cI cD) s) (hP : zHP A0 aS D cI cD w H) {k : Nat} {f : List (Option Nat)} (he : w[k]? = some (.inr (.inl f))) {i : Int32} (hin : zin i f.length = true) {r : Nat} (hr : f.getD i.toNatClampNeg none = some r) (hdg : decode cc pc = .ok (.aaload, 1))
    (kk : W p l e R s m args below meth c H locs cells slots Q (F0 m (pc + 1) ls (.ref (A0 + r) :: rest))) : W p l e R s m args below meth c H locs cells slots Q (F0 m pc ls (.int i :: .ref (A0 + k) :: rest)) := by
  have hP1 : va_P D vwCl [(A0 + k, .inl (cD, (f.length, .inr (.inr (.inr (.inr (fun j => (f.getD j none).map (fun k => A0 + k))))))))] H := fun i x hx => by
    have hz : i < 1 := (List.getElem?_eq_some_iff.mp hx).1
    rw [show i = 0 by omega] at hx
    cases hx
    exact hP.2 k _ he
  refine va_aldq hexec hb hK hP1 0 1 rfl rfl (zvin hin) hdg ?_
  rw [hr]
  exact kk
theorem zr_aast (hexec : p.tables.exec = Jvm.exec) (hb : c.code = cc) (hK : va_K D vwCl (ztys cI cD) s) (hP : zHP A0 aS D cI cD w H) (hS : va_S (fun q => A0 ≤ q) s.heap H locs) {k v : Nat} {f : List (Option Nat)} (he : w[k]? = some (.inr (.inl f))) {fs : List Value} (hv : w[v]? = some (.inr (.inr (1, fs)))) {i : Int32} (hin : zin i f.length = true) (hdg : decode cc pc = .ok (.aastore, 1))
    (kk : ∀ (H1 : Heap) (locs1 : List Loc), zHP A0 aS D cI cD (w.set k (.inr (.inl (f.set i.toNatClampNeg (some v))))) H1 → va_S (fun q => A0 ≤ q) s.heap H1 locs1 → W p l e R s m args below meth c H1 locs1 cells slots Q (F0 m (pc + 1) ls rest)) : W p l e R s m args below meth c H locs cells slots Q (F0 m pc ls (.ref (A0 + v) :: .int i :: .ref (A0 + k) :: rest)) := by
  have h0 : ¬ i < 0 := fun q => zvin hin (Or.inl q)
  have hlt : i.toNatClampNeg < f.length := by simp only [zin, Bool.and_eq_true, decide_eq_true_eq] at hin; exact hin.2
  obtain ⟨r', hr', cellV, g1, g2, g3, -⟩ := hP.2 v _ hv
  cases (show some (RX1, TX1, 20) = some r' from hr')
  have hcls := (hK.1 1 (RX1, TX1, 20) rfl).2
  obtain ⟨kA, comp, k1, k2, k3, -⟩ := (hK.2 1 _ rfl).2
  have hcomp : comp = D.1 1 := Option.some.inj (k3.symm.trans hcls.1)
  subst hcomp
  obtain ⟨kC, hkC, -⟩ := hcls.2
  have hca : H[A0 + k]? = some (vp_cell cD (f.length, .inr (.inr (.inr (.inr (fun j => (f.getD j none).map (fun k => A0 + k))))))) := hP.2 k _ he
  refine W.aast hexec hb hca (fun q h => by cases h) (fun h => by cases h) k1 k2 rfl hkC ⟨h0, by show _ < (arrV _ _ _).slots.size; rw [arrV_size]; exact hlt⟩ g1 (fun q h => by rw [g3] at h; cases h) (by rw [g2]; exact hkC) (by rw [g2]; exact va_assign hcls) rfl rfl hdg fun H1 e z oq => ?_
  refine kk H1 _ (hP.set he z ?_ oq) (hS.put z oq (Nat.le_add_right A0 k))
  show H1[A0 + k]? = some (vp_cell _ _)
  rw [e, vp_cell_q, vp_cell_q, arrV_store, List.length_set]
  congr 2
  funext q
  by_cases hq : q = i.toNatClampNeg
  · subst hq
    simp [updV, List.getD_eq_getElem?_getD, hlt, va_rf]
  · simp [updV, hq, List.getD_eq_getElem?_getD, List.getElem?_set_ne (Ne.symm hq)]
def zsz (e : zC) : Nat := match e with
  | .inl l => l.length
  | .inr (.inl l) => l.length
  | .inr (.inr o) => o.2.length
def zsl (w : zW) : Nat := (w.map zsz).sum
theorem zr_newa (hexec : p.tables.exec = Jvm.exec) (hb : c.code = cc) (hts : ∀ w ∈ lw_tbl, goodWord w = true → w.before args s = true) (hK : va_K D vwCl (ztys cI cD) s) (hP : zHP A0 aS D cI cD w H) (hS : va_S (fun q => A0 ≤ q) s.heap H locs) (hA : A0 ≤ s.heap.size) {n : Int32} (hn : 0 ≤ n) (hN : n.toNatClampNeg ≤ 100000) (hdg : decode cc pc = .ok (.newarray .int, 2)) (hcells : cells + 1 ≤ R.cells) (hslots : slots + n.toNatClampNeg ≤ R.slots)
    (kk : ∀ (H1 : Heap), zHP A0 aS D cI cD (w ++ [.inl (List.replicate n.toNatClampNeg 0)]) H1 → va_S (fun q => A0 ≤ q) s.heap H1 locs → W p l e R s m args below meth c H1 locs (cells + 1) (slots + n.toNatClampNeg) Q (F0 m (pc + 2) ls (.ref (A0 + w.length) :: rest))) : W p l e R s m args below meth c H locs cells slots Q (F0 m pc ls (.int n :: rest)) := by
  refine va_newaK hexec hb (atype := .int) (hts _ (List.mem_of_getElem? (i := 334) (by decide +kernel)) rfl) rfl hdg rfl (Int32.not_lt.mpr hn) rfl (by show n.toNatClampNeg * 4 ≤ _; omega) hcells hslots rfl fun H1 cA e1 z1 o1 hAr hNm => ?_
  have hcA : cA = cI := Option.some.inj (hNm.symm.trans (hK.2 0 _ rfl).2)
  subst hcA
  rw [hP.1]
  refine kk H1 (hP.push z1 ?_ o1) ⟨Nat.le_trans hS.1 (by omega), fun x h1 h2 => (o1 x (Nat.lt_of_lt_of_le h1 hS.1)).trans (hS.2.1 x h1 h2), hS.2.2⟩
  show H1[H.size]? = some (vp_cell _ _)
  rw [e1, vp_cell_i, List.length_replicate]
  congr 2
  funext q
  simp [List.getD_eq_getElem?_getD, List.getElem?_replicate]
  split <;> rfl
theorem zr_anew (hexec : p.tables.exec = Jvm.exec) (hb : c.code = cc) (hown : s.vm.findClass (zN o) = some m.cls) {idx : Nat} (hclink : (Jvm.Cond.classLink (zN o) idx "LateOrders$Duchy").before args s = true) (hao : va_AO "LateOrders$Duchy" s) (hK : va_K D vwCl (ztys cI cD) s) (hP : zHP A0 aS D cI cD w H) (hS : va_S (fun q => A0 ≤ q) s.heap H locs) {n : Int32} (hn : 0 ≤ n) (hN : n.toNatClampNeg ≤ 100000) (hdg : decode cc pc = .ok (.anewarray idx, 3)) (hcells : cells + 1 ≤ R.cells) (hslots : slots + n.toNatClampNeg ≤ R.slots)
    (kk : ∀ (H1 : Heap), zHP A0 aS D cI cD (w ++ [.inr (.inl (List.replicate n.toNatClampNeg none))]) H1 → va_S (fun q => A0 ≤ q) s.heap H1 locs → W p l e R s m args below meth c H1 locs (cells + 1) (slots + n.toNatClampNeg) Q (F0 m (pc + 3) ls (.ref (A0 + w.length) :: rest))) : W p l e R s m args below meth c H locs cells slots Q (F0 m pc ls (.int n :: rest)) := by
  refine W.anew hexec hb hown hclink (va_AO.use hao) rfl hdg rfl (Int32.not_lt.mpr hn) (by omega) hcells hslots fun cA kA comp f1 f2 f3 f4 => ?_
  generalize hH1 : H.push ({ cls := cA, slots := Array.replicate n.toNatClampNeg .null, vm := .none } : Cell) = H1
  have z1 : H1.size = H.size + 1 := by rw [← hH1, Array.size_push]
  have e1 : H1[H.size]? = some (arrV cA n.toNatClampNeg (fun _ => .null)) := by rw [← hH1, Array.getElem?_push_size, ← arrV_new]
  have o1 : ∀ q : Nat, q < H.size → H1[q]? = H[q]? := fun q hq => by rw [← hH1, Array.getElem?_push, if_neg (Nat.ne_of_lt hq)]
  have hcA : cA = cD := by
    obtain ⟨_, _, _, _, _, g4⟩ := (hK.2 1 _ rfl).2
    exact Option.some.inj (f1.symm.trans g4)
  subst hcA
  rw [hP.1]
  refine kk H1 (hP.push z1 ?_ o1) ⟨Nat.le_trans hS.1 (by omega), fun x h1 h2 => (o1 x (Nat.lt_of_lt_of_le h1 hS.1)).trans (hS.2.1 x h1 h2), hS.2.2⟩
  show H1[H.size]? = some (vp_cell _ _)
  rw [e1, vp_cell_q, List.length_replicate]
  congr 2
  funext q
  have h0 : (List.replicate n.toNatClampNeg (none : Option Nat)).getD q none = none := by
    rw [List.getD_eq_getElem?_getD, List.getElem?_replicate]
    split <;> rfl
  rw [h0]
  rfl
theorem zr_new (hexec : p.tables.exec = Jvm.exec) (hb : c.code = cc) (hts : ∀ w ∈ lw_tbl, goodWord w = true → w.before args s = true) (hown : s.vm.findClass (zN o) = some m.cls) (hK : va_K D vwCl (ztys cI cD) s) (hP : zHP A0 aS D cI cD w H) (hS : va_S (fun q => A0 ≤ q) s.heap H locs) {ci idx N : Nat} {C : String} {T : u_T} (hc : vwCl[ci]? = some (C, T, N)) (hcl : (Jvm.Cond.classLink (zN o) idx C).before args s = true) (hini : (Jvm.Cond.initialized C).before args s = true) (hdg : decode cc pc = .ok (.new idx, 3)) (hcells : cells + 1 ≤ R.cells) (hslots : slots + N ≤ R.slots)
    (kk : ∀ (H1 : Heap), zHP A0 aS D cI cD (w ++ [.inr (.inr (ci, (List.range N).map fun k => zdv (zty ci k)))]) H1 → va_S (fun q => A0 ≤ q) s.heap H1 locs → W p l e R s m args below meth c H1 locs (cells + 1) (slots + N) Q (F0 m (pc + 3) ls (.ref (A0 + w.length) :: rest))) : W p l e R s m args below meth c H locs cells slots Q (F0 m pc ls rest) := by
  have hKn := hK.1 ci _ hc
  have hinst : (Jvm.Cond.instantiable C N).before args s = true := by
    have h0 := zCIn_ok ci (zcl_lt hc)
    unfold zinchk at h0
    rw [hc] at h0
    simp only [zg, Bool.and_eq_true, decide_eq_true_eq] at h0
    exact hts _ (List.mem_of_getElem? h0.1) h0.2
  refine W.newcK hexec hb hown hcl hinst hini rfl hdg hcells hslots hKn.2.1 rfl fun H1 kC hkC e1 z1 o1 => ?_
  rw [hP.1]
  refine kk H1 (hP.push z1 ?_ o1) ⟨Nat.le_trans hS.1 (by omega), fun x h1 h2 => (o1 x (Nat.lt_of_lt_of_le h1 hS.1)).trans (hS.2.1 x h1 h2), hS.2.2⟩
  refine ⟨_, hc, (u_born (zty ci) (zgw_hts hts) (zw_in hc) hKn hkC e1 (zty_ok hc)).to (fun j hj => ?_)⟩
  have hdv : ∀ ty : FieldType, ty = .int ∨ ty = .boolean ∨ (∃ x, ty = .object x) ∨ (∃ x, ty = .array x) → defaultValue ty = ztv A0 aS (zdv ty) := by
    rintro ty (rfl | rfl | ⟨x, rfl⟩ | ⟨x, rfl⟩) <;> rfl
  have hj' : j < N := hj
  rw [hdv _ (zty_kinds hc j hj')]
  simp [vp_V, List.getD_eq_getElem?_getD, hj']
theorem zr_copy (hexec : p.tables.exec = Jvm.exec) (hb : c.code = cc) (hml : c.maxLocals = ls.size) (hown : s.vm.findClass (zN o) = some m.cls) {index : Nat} (hlink : (Jvm.Cond.methodLink (zN o) index arraycopyName).before args s = true) (hnat : (Jvm.Cond.native arraycopyName).before args s = true) (hstat : (Jvm.Cond.static arraycopyName).before args s = true) (hini : (Jvm.Cond.initialized "java/lang/System").before args s = true)
    (hK : va_K D vwCl (ztys cI cD) s) (hP : zHP A0 aS D cI cD w H) (hS : va_S (fun q => A0 ≤ q) s.heap H locs) {k0 k1 : Nat} {f g : List Int32} (ha0 : w[k0]? = some (.inl f)) (ha1 : w[k1]? = some (.inl g)) {sp dp n : Int32} (h1 : 0 ≤ sp) (h2 : 0 ≤ dp) (h3 : 0 ≤ n) (h4 : sp.toNatClampNeg + n.toNatClampNeg ≤ f.length) (h5 : dp.toNatClampNeg + n.toNatClampNeg ≤ g.length)
    (hframes : 1 ≤ R.frames) (hlocals : (rest.map fun v => v.category).sum + (nativeFrameWords "java/lang/System" "arraycopy" 5 + 11) ≤ R.locals) (hdg : decode cc pc = .ok (.invokestatic index, 3))
    (kk : ∀ (H1 : Heap) (locs1 : List Loc), zHP A0 aS D cI cD (w.set k1 (.inl (zcpy f g sp.toNatClampNeg dp.toNatClampNeg n.toNatClampNeg))) H1 → va_S (fun q => A0 ≤ q) s.heap H1 locs1 → W p l e R s m args below meth c H1 locs1 cells slots Q (F0 m (pc + 3) ls rest)) : W p l e R s m args below meth c H locs cells slots Q (F0 m pc ls (.int n :: .int dp :: .ref (A0 + k1) :: .int sp :: .ref (A0 + k0) :: rest)) := by
  have g1 := Int32.not_lt.mpr h1
  have g2 := Int32.not_lt.mpr h2
  have g3 := Int32.not_lt.mpr h3
  have nn : ∀ z : Int32, ¬ z < 0 → z.toInt = (z.toNatClampNeg : Int) := by
    intro z hz
    have hz0 : (0 : Int) ≤ z.toInt := by
      have := Int32.not_lt.mp hz
      simpa using Int32.le_iff_toInt_le.mp this
    show z.toInt = ((z.toInt.toNat : Nat) : Int)
    omega
  intro T hT X
  have hc0 := zarr_at hP ha0
  have hc1 := zarr_at hP ha1
  obtain ⟨-, q0, hk0, cm0, hkk0⟩ := (hK.2 0 _ rfl).1 f.length (fun j => .int (f.getD j 0))
  obtain ⟨-, q1, hk1, cm1, hkk1⟩ := (hK.2 0 _ rfl).1 g.length (fun j => .int (g.getD j 0))
  obtain ⟨vm', X', step⟩ := X.arraycopy hexec hown hlink hnat hstat hini (src := A0 + k0) (dst := A0 + k1) (cs := vp_cell cI (f.length, .inl (fun j => f.getD j 0))) (cd := vp_cell cI (g.length, .inl (fun j => g.getD j 0))) (srcPos := sp) (destPos := dp) (n := n) (by rw [hT]; exact hc0) (by rw [hT]; exact hc1)
    (fun _ h => by cases h) (fun _ h => by cases h) (fun h => by cases h) (fun h => by cases h) hk0 hk1 hkk0 hkk1 (by simp [refKind]) g1 g2 g3
    (by rw [nn sp g1, nn n g3]; show ¬ _ > ((arrV cI f.length (fun j => .int (f.getD j 0))).slots.size : Int); rw [arrV_size]; omega)
    (by rw [nn dp g2, nn n g3]; show ¬ _ > ((arrV cI g.length (fun j => .int (g.getD j 0))).slots.size : Int); rw [arrV_size]; omega)
    (fun vm₁ _ i hi => by
      have e : (vp_cell cI (f.length, .inl (fun j => f.getD j 0))).slots.getD (sp.toNatClampNeg + i) .null = .int (f.getD (sp.toNatClampNeg + i) 0) := by
        show (arrV cI f.length (fun j => .int (f.getD j 0))).slots.getD _ _ = _
        rw [Array.getD_eq_getD_getElem?, arrV_read _ _ (by omega)]
        rfl
      refine ⟨?_, ?_⟩
      · rw [e]
        rfl
      · rw [e]
        exact trivial)
    (g := F0 m pc ls (.int n :: .int dp :: .ref (A0 + k1) :: .int sp :: .ref (A0 + k0) :: rest)) rfl (by rw [hml]) (rest := rest) rfl (by rw [hb]; exact hdg) hframes (by show 2 * 0 + _ + _ ≤ _; omega)
  have e1 : copied (vp_cell cI (f.length, .inl (fun j => f.getD j 0))) (vp_cell cI (g.length, .inl (fun j => g.getD j 0))) sp dp n = vp_cell cI (g.length, .inl (va_cpy (fun j => f.getD j 0) (fun j => g.getD j 0) sp.toNatClampNeg dp.toNatClampNeg n.toNatClampNeg)) := va_copied (fun z => .int z) cI cI (fun j => f.getD j 0) (fun j => g.getD j 0) h4
  rw [e1] at X' step
  have hl : A0 + k1 < H.size := (Array.getElem?_eq_some_iff.mp hc1).1
  generalize hcell : vp_cell cI (g.length, .inl (va_cpy (fun j => f.getD j 0) (fun j => g.getD j 0) sp.toNatClampNeg dp.toNatClampNeg n.toNatClampNeg)) = cellN at X' step
  have hheap : ((T.setVm vm').setCell (A0 + k1) cellN).heap = H.setIfInBounds (A0 + k1) cellN := by rw [← hT]; rfl
  have oq : ∀ q : Nat, q ≠ A0 + k1 → (H.setIfInBounds (A0 + k1) cellN)[q]? = H[q]? := fun q hq => by simp [Array.getElem?_setIfInBounds, Ne.symm hq]
  obtain ⟨t, a1, b1⟩ := kk _ _ (hP.set ha1 (by simp) (by
      show (H.setIfInBounds (A0 + k1) cellN)[A0 + k1]? = some (vp_cell _ _)
      rw [← hcell]
      simp [Array.getElem?_setIfInBounds, hl]
      rw [vp_cell_i, vp_cell_i]
      have hlen : (zcpy f g sp.toNatClampNeg dp.toNatClampNeg n.toNatClampNeg).length = g.length := by simp [zcpy]
      rw [hlen]
      refine arrV_congr fun q hq => ?_
      simp [zcpy, va_cpy, List.getD_eq_getElem?_getD, hq]) oq) ⟨by simp; exact hS.1, fun q g1 g2 => by
      rw [oq q (fun e => g2 (by rw [e]; exact Nat.le_add_right A0 k1))]
      exact hS.2.1 q g1 g2, fun q hq => by
      rcases List.mem_append.mp hq with h | h
      · exact hS.2.2 q h
      · obtain ⟨z, -, hz⟩ := List.mem_map.mp h
        rw [← hz]
        exact Nat.le_add_right A0 k1⟩ _ hheap X'
  exact ⟨t, step t a1, b1⟩
end ZROWS
