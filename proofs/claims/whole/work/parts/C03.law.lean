def R_law : String := "LateOrdersLaw"
def lw_P (b : Addr) (xs : List Int32) (args : Array Value) (s : State) : Prop := args = #[.ref b] ∧ s.IntsAt b xs ∧ xs.length ≤ 3072 ∧ (Jvm.Cond.and given_1 narrow_1).before args s = true
def lw_Q (_ : Array Value) (s : State) (o : Outcome) (t : State) : Prop := o = .returned (some (.int 1)) ∧ Framed s o t [] 600000 7302250
def lw_Z (below : List Frame) (a : Array Value) (s : State) : State → Prop := fun t => ∃ o, t.status = .running ∧ Ended t below o ∧ lw_Q a s o t
/-- the law's own end, with 1 on the stack, nothing written that was there before, its room as the claim has it -/
theorem lw_ret {p : Program} {l : Launch} {e : Env} {s : State} {m : MethodId} {below : List Frame} {meth : Method} {c : Code} {b : Nat} (hx : p.tables.exec = Jvm.exec) (hb : c.code = code) (hr : meth.sig.returnType = ret) (hlocks : meth.locks = false) {pc : Nat} {H : Heap} {ls : Array Slot} (hdg : decode code pc = .ok (.ireturn, 1)) : W p l e room_1 s m #[Value.ref b] below meth c H [] 600000 7302250 (lw_Z below #[Value.ref b] s) (F0 m pc ls [.int 1]) := by
  intro T hT X
  obtain ⟨fs, hret, hrun, hended, hW, hframe⟩ := X.leave (v := some (.int 1)) (hlocks := hlocks) (fun h => by rw [hr] at h; cases h)
  have hmeth' : T.vm.method? m = some meth := X.method'
  refine ⟨T.setFrames fs, ?_, .returned (some (.int 1)), hrun, hended, rfl, ⟨_, rfl⟩, hW, hframe⟩
  jvm_step X.here [X.here.top, hx, hb, hdg, hmeth', hr, ret, narrow_b1]
  (try refine ⟨rfl, ?_⟩); (try refine ⟨rfl, ?_⟩)
  first | (intro acts; rw [hret _ acts rfl rfl rfl]) | rw [hret _ _ rfl rfl rfl]
  exact Steps.refl _
/-- what holds at the law's entry: the machine, the code, the tables' words (any of lw_tbl by 'hts w (by decide +kernel)'), the script of L ints xs at the cell b, what the Statement gives of the start (any of its parts by flat_of_before) -/
def lw_At (p : Program) (s : State) (m : MethodId) (meth : Method) (c : Code) (b L : Nat) (xs : Nat → Int32) : Prop :=
  p.tables.exec = Jvm.exec ∧ c.code = code ∧ meth.sig.returnType = ret ∧ c.maxLocals = 4 ∧ s.vm.findClass R_law = some m.cls ∧ (∀ w ∈ lw_tbl, w.before #[Value.ref b] s = true) ∧ va_X b L xs s s.heap ∧ b < s.heap.size ∧ meth.locks = false ∧ (Jvm.Cond.and given_1 narrow_1).before #[Value.ref b] s = true
/-! THE LAW'S FRAME: a call into the machine's world -/
theorem zwl_len (σ : zS) : (zwl σ).length = 238 := by unfold zwl; rw [List.length_map, List.length_range]
theorem zwl_sz (σ τ : zS) : zsl (zwl σ) = zsl (zwl τ) := by
  unfold zsl zwl
  rw [List.map_map, List.map_map]
  refine congrArg List.sum (List.map_congr_left (fun k _ => ?_))
  show zsz (zcel σ k (zsh k)) = zsz (zcel τ k (zsh k))
  unfold zcel
  split <;> simp [zsz]
def LFx (p : Program) (s : State) (m : MethodId) (meth : Method) (c : Code) (b L : Nat) (xs : Nat → Int32) (D : va_G) (cI cD : ClassId) (aS aV : Nat) : Prop := lw_At p s m meth c b L xs ∧ va_K D vwCl (ztys cI cD) s ∧ va_AO "LateOrders$Duchy" s ∧ zST s.heap.size aS aV s s.heap
set_option maxRecDepth 100000 in
theorem zmet (l : Launch) {A0 aS aV : Nat} {D : va_G} {cI cD : ClassId} {f d a : Nat} {as : List Value} {w w1 : zW} {r : Option Value} (ha : a < 292) (hpl : plainName (zm a).1.cls = true) (hok : as.all zokv = true) (hlen : as.length ≤ (zm a).2.2.1) (h1 : zrun f d a 0 (as ++ List.replicate ((zm a).2.2.1 - as.length) zun) [] w = some (r, w1)) : Met l (zm a).1 (zWs a) (zRm d (w1.length - w.length) (zsl w1 - zsl w)) (va_Pc (as.map (ztv A0 aS)) (zPw A0 aS aV D cI cD w)) (zQc A0 aS D cI cD r w1) (w1.length - w.length) (zsl w1 - zsl w) (fun q => A0 ≤ q) := by
  have m1 := zrun_mono _ _ _ _ _ _ _ _ _ h1
  refine Met.ofW (cc := (zm a).2.1) (maxL := (zm a).2.2.1) (ret := (zm a).2.2.2.1) hpl rfl ?_
  intro p e s m args below meth c s₁ B hml hv
  obtain ⟨rfl, hP', hK', hnw', hAO', hST'⟩ := hv
  have hts0 := atoms_spec (ws := zWs a) B.pre
  have hown : s.vm.findClass (zm a).1.cls = some m.cls := findClass_of_methodNamed B.named
  have hin : meth.name = (zm a).1.name := (name_of_methodNamed B.named B.method).1
  have hts' : ∀ w ∈ lw_tbl, goodWord w = true → w.before (as.map (ztv A0 aS)).toArray s = true := fun w hw hg => hts0 w (List.mem_cons_of_mem _ (List.mem_filter.mpr ⟨hw, hg⟩))
  have hcl := (zm_facts a ha hts').2.2.1
  rw [hcl] at hown
  rw [lg_entry_eq]
  have hA0 : A0 ≤ s.heap.size := by rw [hP'.1]; exact Nat.le_add_right _ _
  refine zsound l A0 aS aV D cI cD f d a 0 _ [] w r w1 ha h1 p e _ s m _ below meth c s.heap [] 0 0 _ w.length (zsl w) ⟨B.exec, B.bytes, B.returns, hml, hown, B.notSynchronized, hin, hts', hnw', hK', hA0, hAO'⟩ hST' hP' va_S.rf (zls_entry hok hlen) (by rw [List.length_append, List.length_replicate]; omega) (Nat.le_refl _) (Nat.le_refl _) (Nat.zero_add _) (Nat.zero_add _) ?_ ?_
  · show w1.length ≤ (w1.length - w.length) + w.length
    omega
  · show zsl w1 ≤ (zsl w1 - zsl w) + zsl w
    omega
section LAW
variable {p : Program} {l : Launch} {e : Env} {s : State} {m : MethodId} {below : List Frame} {meth : Method} {c : Code} {H : Heap} {locs : List Loc} {cells slots : Nat} {Q : State → Prop}
variable {pc : Nat} {ls : Array Slot} {D : va_G} {cI cD : ClassId} {aS aV b L : Nat} {xs : Nat → Int32}
theorem lw_filt (hts : ∀ w ∈ lw_tbl, w.before #[Value.ref b] s = true) : ∀ w ∈ lw_tbl.filter goodWord, w.before #[Value.ref b] s = true := fun w hw => hts w (List.mem_filter.mp hw).1
theorem lw_goodW (a : Nat) (ha : a < 292) : GoodIn (lw_tbl.filter goodWord) (zWs a) := fun w hw => by
  rcases List.mem_cons.mp hw with rfl | hw
  · exact ⟨List.mem_filter.mpr ⟨zcode_word a ha, rfl⟩, good_of_word rfl⟩
  · exact ⟨hw, good_of_word (List.mem_filter.mp hw).2⟩
theorem lw_nw (hts : ∀ w ∈ lw_tbl, w.before #[Value.ref b] s = true) : ∀ w ∈ lw_tbl, zn w = true → va_Nw w s := fun w hw hn => by
  have h := hts w hw
  cases w <;> first | (cases hn; done) | exact va_Nw.of rfl h
set_option maxRecDepth 100000 in
theorem lcallV {σ : zS} {Q' : Int32 → zS → Prop} {idx a r : Nat} {as' : List Value} {fs st0 rest : List Value} (F : LFx p s m meth c b L xs D cI cD aS aV) (hP : zHP s.heap.size aS D cI cD (zwl σ) H) (hS : va_S (fun q => s.heap.size ≤ q) s.heap H locs) (hls : ls.size = 4) (hz : zI1 10 a (.ref r :: as') σ Q') (ha : a < 292) (hkind : (zm a).2.2.2.2.2.1 = 0) (hna : (zm a).2.2.2.2.2.2.1 = as'.length + 1) (hlink : Cond.methodLink R_law idx (zm a).1 ∈ lw_tbl) (hd : decode code pc = .ok (.invokevirtual idx, 3)) (hok : as'.all zokv = true) (hml' : as'.length + 1 ≤ (zm a).2.2.1) (hw : (zwl σ)[r]? = some (.inr (.inr ((zm a).2.2.2.2.1, fs)))) (hst : st0 = (as'.map (ztv s.heap.size aS)).reverse ++ .ref (s.heap.size + r) :: rest) (h8 : (rest.map fun v => v.category).sum ≤ 8) (hRc : cells ≤ 600000) (hRs : slots ≤ 7302250)
    (kk : ∀ (v : Int32) (τ : zS), Q' v τ → ∀ (H1 : Heap) (locs1 : List Loc), zHP s.heap.size aS D cI cD (zwl τ) H1 → va_S (fun q => s.heap.size ≤ q) s.heap H1 locs1 → W p l e room_1 s m #[Value.ref b] below meth c H1 locs1 cells slots Q (F0 m (pc + 3) ls (.int v :: rest))) : W p l e room_1 s m #[Value.ref b] below meth c H locs cells slots Q (F0 m pc ls st0) := by
  obtain ⟨⟨hx, hb, hr, hml, hown, hts, hX, hbl, hlocks, hgv⟩, hK, hAO, hST⟩ := F
  obtain ⟨f1, f2, f3, f4, f5, f6, f7, f8, f9⟩ := zm_facts a ha (args := #[Value.ref b]) (s := s) (fun w hw _ => hts w hw)
  have htsW := lw_filt hts
  have hgood := lw_goodW a ha
  obtain ⟨f, r1, σ', h1, v, rfl, hq⟩ := hz
  have hM := zmet (A0 := s.heap.size) (aS := aS) (aV := aV) (D := D) (cI := cI) (cD := cD) l ha f2 (as := .ref r :: as') (by simp [zokv, hok]) hml' h1
  obtain ⟨hinst, hcls, hna1⟩ := f7 (by rw [hkind]; decide)
  rw [hkind, if_neg (by decide), hna, Nat.add_sub_cancel] at f5
  have hcell : ∃ cellB : Cell, H[s.heap.size + r]? = some cellB ∧ cellB.vm.isStatics = false ∧ s.vm.findClass (zm a).1.cls = some cellB.cls := by
    obtain ⟨q', h1, cell, q1, q2, q3, -⟩ := hP.2 r _ hw
    refine ⟨cell, q1, by rw [q3]; rfl, ?_⟩
    rw [q2]
    have h1' : vwCl[(zm a).2.2.2.2.1]? = some q' := h1
    rw [h1'] at hcls
    have e1 : q'.1 = (zm a).1.cls := Option.some.inj hcls
    rw [← e1]
    exact (hK.1 _ q' h1').2.1
  have hsz1 : (zwl σ').length - (zwl σ).length = 0 := by rw [zwl_len, zwl_len]
  have hsz2 : zsl (zwl σ') - zsl (zwl σ) = 0 := by rw [zwl_sz σ' σ, Nat.sub_self]
  have hroom : (zRm 10 ((zwl σ').length - (zwl σ).length) (zsl (zwl σ') - zsl (zwl σ))).frames + 1 ≤ room_1.frames ∧ 8 + ((zm a).2.2.1 + 11) + (zRm 10 ((zwl σ').length - (zwl σ).length) (zsl (zwl σ') - zsl (zwl σ))).locals ≤ room_1.locals := ⟨(by decide : 10 + 1 + 1 ≤ 13), by show 8 + ((zm a).2.2.1 + 11) + (40 * 10 + 60) ≤ 522; omega⟩
  have hPc : ∀ U : State, U.heap = H → s.WarmedH U.vm → zPw s.heap.size aS aV D cI cD (zwl σ) U := fun U hU hW => zPw.go hU hW hP hK (lw_nw hts) hAO hST hS.2.1
  refine zgo (va_runV (As := as'.map (ztv s.heap.size aS)) (rest := rest) ⟨hx, hb, hml, hown, htsW⟩ hM ⟨callB_of as'.length htsW hgood rfl rfl rfl f4 (hts _ hlink) f5 hroom, hinst, f8 hkind⟩ ⟨zPw.blind, hcell, fun U hU hW => ⟨rfl, hPc U hU hW⟩⟩ rfl (by rw [List.length_map]) hls hst (by show 2 * 0 + _ ≤ 8; omega) hd ⟨by rw [hsz1]; exact hRc, by rw [hsz2]; exact hRs⟩) hS (fun H1 locs1 k1 k2 => ?_)
  rw [hsz1, hsz2]
  exact kk v σ' hq H1 locs1 k1 k2
set_option maxRecDepth 100000 in
theorem lnew {w : zW} {ci idx N : Nat} {C : String} {T : u_T} {rest : List Value} (F : LFx p s m meth c b L xs D cI cD aS aV) (hP : zHP s.heap.size aS D cI cD w H) (hS : va_S (fun q => s.heap.size ≤ q) s.heap H locs) (hc : vwCl[ci]? = some (C, T, N)) (hcl : Cond.classLink R_law idx C ∈ lw_tbl) (hini : Cond.initialized C ∈ lw_tbl) (hdg : decode code pc = .ok (.new idx, 3)) (hcells : cells + 1 ≤ 600000) (hslots : slots + N ≤ 7302250)
    (kk : ∀ (H1 : Heap), zHP s.heap.size aS D cI cD (w ++ [.inr (.inr (ci, (List.range N).map fun k => zdv (zty ci k)))]) H1 → va_S (fun q => s.heap.size ≤ q) s.heap H1 locs → W p l e room_1 s m #[Value.ref b] below meth c H1 locs (cells + 1) (slots + N) Q (F0 m (pc + 3) ls (.ref (s.heap.size + w.length) :: rest))) : W p l e room_1 s m #[Value.ref b] below meth c H locs cells slots Q (F0 m pc ls rest) := by
  obtain ⟨⟨hx, hb, hr, hml, hown, hts, hX, hbl, hlocks, hgv⟩, hK, hAO, hST⟩ := F
  have hKn := hK.1 ci _ hc
  have hg2 : ∀ w ∈ lw_tbl, goodWord w = true → w.before #[Value.ref b] s = true := fun w hw _ => hts w hw
  have hinst : (Jvm.Cond.instantiable C N).before #[Value.ref b] s = true := by
    have h0 := zCIn_ok ci (zcl_lt hc)
    unfold zinchk at h0
    rw [hc] at h0
    simp only [zg, Bool.and_eq_true, decide_eq_true_eq] at h0
    exact hts _ (List.mem_of_getElem? h0.1)
  refine W.newcK hx hb hown (hts _ hcl) hinst (hts _ hini) rfl hdg hcells hslots hKn.2.1 rfl fun H1 kC hkC e1 z1 o1 => ?_
  rw [hP.1]
  refine kk H1 (hP.push z1 ?_ o1) ⟨Nat.le_trans hS.1 (by omega), fun x h1 h2 => (o1 x (Nat.lt_of_lt_of_le h1 hS.1)).trans (hS.2.1 x h1 h2), hS.2.2⟩
  refine ⟨_, hc, (u_born (zty ci) (zgw_hts hg2) (zw_in hc) hKn hkC e1 (zty_ok hc)).to (fun j hj => ?_)⟩
  have hdv : ∀ ty : FieldType, ty = .int ∨ ty = .boolean ∨ (∃ x, ty = .object x) ∨ (∃ x, ty = .array x) → defaultValue ty = ztv s.heap.size aS (zdv ty) := by
    rintro ty (rfl | rfl | ⟨x, rfl⟩ | ⟨x, rfl⟩) <;> rfl
  have hj' : j < N := hj
  rw [hdv _ (zty_kinds hc j hj')]
  simp [vp_V, List.getD_eq_getElem?_getD, hj']
set_option maxRecDepth 100000 in
theorem lcallI {f idx a r : Nat} {w w1 : zW} {st0 rest : List Value} (F : LFx p s m meth c b L xs D cI cD aS aV) (hP : zHP s.heap.size aS D cI cD w H) (hS : va_S (fun q => s.heap.size ≤ q) s.heap H locs) (hls : ls.size = 4) (h1 : zrun f 10 a 0 ([Value.ref r] ++ List.replicate ((zm a).2.2.1 - 1) zun) [] w = some (none, w1)) (ha : a < 292) (hkind : (zm a).2.2.2.2.2.1 = 2) (hna : (zm a).2.2.2.2.2.2.1 = 1) (hlink : Cond.methodLink R_law idx (zm a).1 ∈ lw_tbl) (hd : decode code pc = .ok (.invokespecial idx, 3)) (hml' : 1 ≤ (zm a).2.2.1) (hst : st0 = .ref (s.heap.size + r) :: rest) (h8 : (rest.map fun v => v.category).sum ≤ 8) (hRc : cells + (w1.length - w.length) ≤ 600000) (hRs : slots + (zsl w1 - zsl w) ≤ 7302250)
    (kk : ∀ (H1 : Heap) (locs1 : List Loc), zHP s.heap.size aS D cI cD w1 H1 → va_S (fun q => s.heap.size ≤ q) s.heap H1 locs1 → W p l e room_1 s m #[Value.ref b] below meth c H1 locs1 (cells + (w1.length - w.length)) (slots + (zsl w1 - zsl w)) Q (F0 m (pc + 3) ls rest)) : W p l e room_1 s m #[Value.ref b] below meth c H locs cells slots Q (F0 m pc ls st0) := by
  obtain ⟨⟨hx, hb, hr, hml, hown, hts, hX, hbl, hlocks, hgv⟩, hK, hAO, hST⟩ := F
  obtain ⟨f1, f2, f3, f4, f5, f6, f7, f8, f9⟩ := zm_facts a ha (args := #[Value.ref b]) (s := s) (fun w hw _ => hts w hw)
  have htsW := lw_filt hts
  have hgood := lw_goodW a ha
  have hM := zmet (A0 := s.heap.size) (aS := aS) (aV := aV) (D := D) (cI := cI) (cD := cD) l ha f2 (as := [.ref r]) rfl hml' h1
  obtain ⟨hinst, hcls, hna1⟩ := f7 (by rw [hkind]; decide)
  obtain ⟨hnm2, hrt⟩ := f9 hkind
  rw [hkind, if_neg (by decide), hna] at f5
  have hw0 : zWs a = .code (zm a).1 (zm a).2.1 (zm a).2.2.1 none :: lw_tbl.filter goodWord := by rw [← hrt]; rfl
  have hroom : (zRm 10 (w1.length - w.length) (zsl w1 - zsl w)).frames + 1 ≤ room_1.frames ∧ 8 + ((zm a).2.2.1 + 11) + (zRm 10 (w1.length - w.length) (zsl w1 - zsl w)).locals ≤ room_1.locals := ⟨(by decide : 10 + 1 + 1 ≤ 13), by show 8 + ((zm a).2.2.1 + 11) + (40 * 10 + 60) ≤ 522; omega⟩
  have hPc : ∀ U : State, U.heap = H → s.WarmedH U.vm → zPw s.heap.size aS aV D cI cD w U := fun U hU hW => zPw.go hU hW hP hK (lw_nw hts) hAO hST hS.2.1
  exact zgo (va_runI (As := []) (rest := rest) ⟨hx, hb, hml, hown, htsW⟩ hM (cwI 0 htsW hgood hw0 rfl rfl f4 (hts _ hlink) hinst hnm2 f5 hroom) ⟨zPw.blind, fun U hU hW => ⟨rfl, hPc U hU hW⟩⟩ rfl rfl hls hst (by show 2 * 0 + _ ≤ 8; omega) hd ⟨hRc, hRs⟩) hS kk
end LAW

