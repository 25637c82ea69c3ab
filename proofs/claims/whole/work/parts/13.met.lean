/-! SOUND: a method -/
noncomputable def zWs (y : Nat) : List Jvm.Cond := .code (zm y).1 (zm y).2.1 (zm y).2.2.1 (zm y).2.2.2.1 :: lw_tbl.filter goodWord
def zRm (d mc ms : Nat) : Room := { frames := d + 1, cells := mc, slots := ms, locals := 40 * d + 60 }
/-- a method's start: the world's cells, the tables' words -/
def zPw (A0 aS aV : Nat) (D : va_G) (cI cD : ClassId) (w : zW) (U : State) : Prop :=
  zHP A0 aS D cI cD w U.heap ∧ va_K D vwCl (ztys cI cD) U ∧ (∀ q ∈ lw_tbl, zn q = true → va_Nw q U) ∧ va_AO "LateOrders$Duchy" U ∧ zST A0 aS aV U U.heap
def zQc (A0 aS : Nat) (D : va_G) (cI cD : ClassId) (r : Option Value) (w' : zW) : Array Value → State → Outcome → State → Prop := fun _ st o t =>
  o = .returned (r.map (ztv A0 aS)) ∧ zHP A0 aS D cI cD w' t.heap ∧ va_F (fun q => A0 ≤ q) st t
theorem zcode_word (y : Nat) (hy : y < 292) : Jvm.Cond.code (zm y).1 (zm y).2.1 (zm y).2.2.1 (zm y).2.2.2.1 ∈ lw_tbl := List.mem_of_getElem? (zmk_all y hy)
theorem zWs_good (x y : Nat) (hy : y < 292) : GoodIn (zWs x) (zWs y) := fun w hw => by
  rcases List.mem_cons.mp hw with rfl | hw
  · exact ⟨List.mem_cons_of_mem _ (List.mem_filter.mpr ⟨zcode_word y hy, rfl⟩), good_of_word rfl⟩
  · exact ⟨List.mem_cons_of_mem _ hw, good_of_word (List.mem_filter.mp hw).2⟩
theorem zn_warm {s U : State} (hW : s.WarmedH U.vm) {w : Jvm.Cond} (hn : zn w = true) (h : va_Nw w s) : va_Nw w U := by
  cases w <;> first | (cases hn; done) | exact va_Nw.warmF hW h | exact va_Nw.warmM hW h
theorem zPw.go {A0 aS aV : Nat} {D : va_G} {cI cD : ClassId} {w : zW} {s U : State} {H : Heap} (hU : U.heap = H) (hW : s.WarmedH U.vm) (hP : zHP A0 aS D cI cD w H) (hK : va_K D vwCl (ztys cI cD) s) (hnw : ∀ w ∈ lw_tbl, zn w = true → va_Nw w s) (hAO : va_AO "LateOrders$Duchy" s) (hST : zST A0 aS aV s s.heap) (hq : ∀ a : Nat, a < s.heap.size → ¬ A0 ≤ a → H[a]? = s.heap[a]?) : zPw A0 aS aV D cI cD w U :=
  ⟨by rw [hU]; exact hP, va_K.moved hW.alike hK, fun q hq hn => zn_warm hW hn (hnw q hq hn), va_AO.moved hW.alike hAO, hST.go hW (by rw [hU]; exact hq)⟩
theorem zPw.blind {A0 aS aV : Nat} {D : va_G} {cI cD : ClassId} {w : zW} {as : List Value} : FrameBlind (va_Pc (as.map (ztv A0 aS)) (zPw A0 aS aV D cI cD w)) := by
  intro a U g mk h
  obtain ⟨h1, h2, h3, h4, h5, h6, h7, h8, h9⟩ := h
  have hvm : (U.calling g mk a).vm = U.vm := rfl
  have hal : U.vm.Alike (U.calling g mk a).vm := Vm.Alike.refl U.vm
  refine ⟨h1, h2, va_K.moved hal h3, fun q hq hn => ?_, va_AO.moved hal h5, vk_R.same hvm h6, vk_S.moved hal h7, va_Z.moved hal h8, va_Zq.moved hal h9⟩
  have h0 := h4 q hq hn
  cases q <;> first | (cases hn; done) | exact va_Nw.same rfl rfl h0
theorem zargs_in {A0 aS : Nat} : ∀ (as : List Value) (i k : Nat) (v : Value), as.all zokv = true → as[k]? = some v → (i + k, ztv A0 aS v) ∈ lv_args i (as.map (ztv A0 aS))
  | [], i, k, v, _, h => by simp at h
  | u :: as, i, k, v, ha, h => by
    simp only [List.all_cons, Bool.and_eq_true] at ha
    have hc : ¬ (ztv A0 aS u).category = 2 := by rw [zok_cat ha.1]; decide
    simp only [List.map_cons, lv_args, if_neg hc]
    cases k with
    | zero =>
      simp at h
      subst h
      exact List.mem_cons_self
    | succ k =>
      rw [List.getElem?_cons_succ] at h
      have := zargs_in (A0 := A0) (aS := aS) as (i + 1) k v ha.2 h
      rw [show i + (k + 1) = i + 1 + k by omega]
      exact List.mem_cons_of_mem _ this
theorem zsl_len {A0 aS : Nat} : ∀ (as : List Value), as.all zokv = true → (lg_sl (as.map (ztv A0 aS))).length = as.length
  | [], _ => rfl
  | u :: as, ha => by
    simp only [List.all_cons, Bool.and_eq_true] at ha
    have hc : ¬ (ztv A0 aS u).category = 2 := by rw [zok_cat ha.1]; decide
    have := zsl_len (A0 := A0) (aS := aS) as ha.2
    simp only [lg_sl] at this ⊢
    simp only [List.map_cons, List.flatMap_cons, if_neg hc, List.length_append, this, List.length_cons, List.length_nil]
    omega
theorem zls_entry {A0 aS : Nat} {as : List Value} {n : Nat} (ha : as.all zokv = true) (hn : as.length ≤ n) : zls A0 aS (as ++ List.replicate (n - as.length) zun) ((lg_sl (as.map (ztv A0 aS)) ++ List.replicate (n - (lg_sl (as.map (ztv A0 aS))).length) Slot.unset).toArray) := by
  obtain ⟨h1, h2, h3⟩ := lv_entry (as.map (ztv A0 aS)) (n := n) (by rw [zsl_len as ha]; exact hn)
  refine ⟨by rw [h1, List.length_append, List.length_replicate]; omega, h2, fun k v hk hv => ?_⟩
  by_cases hl : k < as.length
  · rw [List.getElem?_append_left hl] at hk
    refine ⟨List.all_eq_true.mp ha v (List.mem_of_getElem? hk), ?_⟩
    have := zargs_in (A0 := A0) (aS := aS) as 0 k v ha hk
    rw [Nat.zero_add] at this
    exact h3 _ this
  · rw [List.getElem?_append_right (by omega), List.getElem?_replicate] at hk
    split at hk
    · cases hk
      exact absurd rfl hv
    · cases hk

section ZSND
variable {p : Program} {l : Launch} {e : Env} {R : Room} {s : State} {m : MethodId} {args : Array Value} {below : List Frame} {meth : Method} {c : Code} {H : Heap} {locs : List Loc} {cells slots : Nat} {Q : State → Prop}
variable {pc : Nat} {ls : Array Slot} {A0 aS aV : Nat} {D : va_G} {cI cD : ClassId} {w : zW} {y : Nat} {L S : List Value}
theorem zgo {mc ms : Nat} {st0 rest : List Value} {r1 : Option Value} {w1 : zW} {a : Array Value} (hr : va_Run p l e R s m args below meth c H locs cells slots mc ms (F0 m pc ls st0) rest (zQc A0 aS D cI cD r1 w1 a) (fun q => A0 ≤ q)) (hS : va_S (fun q => A0 ≤ q) s.heap H locs)
    (kk : ∀ (H1 : Heap) (locs1 : List Loc), zHP A0 aS D cI cD w1 H1 → va_S (fun q => A0 ≤ q) s.heap H1 locs1 → W p l e R s m args below meth c H1 locs1 (cells + mc) (slots + ms) Q (F0 m (pc + 3) ls ((r1.map (ztv A0 aS)).toList ++ rest))) : W p l e R s m args below meth c H locs cells slots Q (F0 m pc ls st0) := by
  intro T hT X
  obtain ⟨v, st₀, t, T', L, h0, X', hL, e1, e2, ⟨hv, hp, hz, hk⟩, st⟩ := hr T hT X
  have hv' : v = r1.map (ztv A0 aS) := Outcome.returned.inj hv
  subst hv'
  rw [h0] at hz hk
  obtain ⟨t2, a1, b1⟩ := kk T'.heap (locs ++ L) (by rw [e1]; exact hp)
    ⟨Nat.le_trans hS.1 (by rw [e1]; exact hz), fun q h1 h2 => by rw [e1, hk q (Nat.lt_of_lt_of_le h1 hS.1) h2]; exact hS.2.1 q h1 h2, fun q hq => by
      rcases List.mem_append.mp hq with h | h
      · exact hS.2.2 q h
      · exact hL q h⟩ T' rfl X'
  exact ⟨t2, st t2 a1, b1⟩
/-- what holds of a method that is called: its words, among its caller's -/
theorem zm_facts (a : Nat) (ha : a < 292) (hts : ∀ w ∈ lw_tbl, goodWord w = true → w.before args s = true) :
    (zm a).2.2.1 ≤ 21 ∧ plainName (zm a).1.cls = true ∧ (zm a).1.cls = zN (zm a).2.2.2.2.1 ∧ (Jvm.Cond.initialized (zm a).1.cls).before args s = true ∧ ((zm a).1.cls ≠ "java/lang/invoke/MethodHandle" ∧ (zm a).1.cls ≠ "java/lang/invoke/VarHandle" ∧ (parseMethodDescriptor (zm a).1.desc).map (fun d => d.parameters.length) = some (if (zm a).2.2.2.2.2.1 = 1 then (zm a).2.2.2.2.2.2.1 else (zm a).2.2.2.2.2.2.1 - 1)) ∧
    ((zm a).2.2.2.2.2.1 = 1 → (Jvm.Cond.static (zm a).1).before args s = true) ∧ (¬ (zm a).2.2.2.2.2.1 = 1 → (Jvm.Cond.instanceMethod (zm a).1).before args s = true ∧ (vwCl[(zm a).2.2.2.2.1]?).map (fun r => r.1) = some (zm a).1.cls ∧ 1 ≤ (zm a).2.2.2.2.2.2.1) ∧
    ((zm a).2.2.2.2.2.1 = 0 → (Jvm.Cond.selects (zm a).1.cls (zm a).1 (zm a).1).before args s = true) ∧ ((zm a).2.2.2.2.2.1 = 2 → (zm a).1.name = "<init>" ∧ (zm a).2.2.2.1 = none) := by
  have h := zm_all a ha
  clear ha
  revert h
  generalize zm a = q
  obtain ⟨nm, bt, ml, rt, cls, kind, na, ic, ii, iin, ise⟩ := q
  intro h
  delta zmchk at h
  dsimp only at h ⊢
  simp only [Bool.and_eq_true, decide_eq_true_eq] at h
  obtain ⟨⟨⟨⟨⟨⟨⟨⟨⟨h1, h2⟩, h3⟩, h4⟩, h5⟩, h6⟩, h7⟩, h8⟩, h9⟩, h10⟩ := h
  have zgw : ∀ {ix : Nat} {w : Jvm.Cond}, zg ix w = true → w.before args s = true := fun {ix w} hg => by
    simp only [zg, Bool.and_eq_true, decide_eq_true_eq] at hg
    exact hts _ (List.mem_of_getElem? hg.1) hg.2
  refine ⟨h9, h8, h5, zgw h2, ⟨h6.1, h6.2, h7⟩, fun hk => ?_, fun hk => ?_, fun hk => ?_, fun hk => ?_⟩
  · rw [if_pos hk] at h1; exact zgw h1
  · rw [if_neg hk] at h1 h10
    simp only [Bool.and_eq_true, decide_eq_true_eq] at h10
    exact ⟨zgw h1, h10.1, h10.2⟩
  · rw [if_pos hk] at h3; exact zgw h3
  · rw [if_pos hk] at h4
    simp only [Bool.and_eq_true, decide_eq_true_eq] at h4
    exact h4
theorem zlinkm {o idx a : Nat} (hts : ∀ w ∈ lw_tbl, goodWord w = true → w.before args s = true) (hnw : ∀ w ∈ lw_tbl, zn w = true → va_Nw w s) (h : zML.any (fun q => decide (q.1 = o) && decide (q.2.1 = idx) && decide (q.2.2.2.1 = a)) = true) :
    (Jvm.Cond.methodLink (zN o) idx (zm a).1).before args s = true ∨ va_Nw (.methodLinkNest (zN o) idx (zm a).1 "LateOrders") s := by
  obtain ⟨q, hq, h⟩ := List.any_eq_true.mp h
  have h0 := zML_ok q hq
  obtain ⟨o', c', nest, a', ix⟩ := q
  simp only [Bool.and_eq_true, decide_eq_true_eq] at h
  obtain ⟨⟨rfl, rfl⟩, rfl⟩ := h
  delta zlchk at h0
  dsimp only at h0
  cases nest with
  | true =>
    simp only [if_true, decide_eq_true_eq] at h0
    exact Or.inr (hnw _ (List.mem_of_getElem? h0) rfl)
  | false =>
    simp only [Bool.false_eq_true, if_false, zg, Bool.and_eq_true, decide_eq_true_eq] at h0
    exact Or.inl (hts _ (List.mem_of_getElem? h0.1) h0.2)
theorem zws_hts (hy : y < 292) (hts : ∀ w ∈ lw_tbl, goodWord w = true → w.before args s = true) : ∀ w ∈ zWs y, w.before args s = true := fun w hw => by
  rcases List.mem_cons.mp hw with rfl | hw
  · exact hts _ (zcode_word y hy) rfl
  · exact hts w (List.mem_filter.mp hw).1 (List.mem_filter.mp hw).2
set_option maxHeartbeats 4000000 in
theorem zcall (hy : y < 292) (C0 : zCtx A0 aS D cI cD y p s m args meth c) (hST : zST A0 aS aV s s.heap) {i : zI} (hi : i.1 = 30 ∨ i.1 = 31 ∨ i.1 = 32) (hc : zchk y pc i = true) {as rest : List Value} (hcal : zcal i S w (zm i.2.1).2.2.2.2.1 (zm i.2.1).2.2.1 = some (as, rest)) {d' : Nat} {r1 : Option Value} {w1 : zW}
    (hM : Met l (zm i.2.1).1 (zWs i.2.1) (zRm d' (w1.length - w.length) (zsl w1 - zsl w)) (va_Pc (as.map (ztv A0 aS)) (zPw A0 aS aV D cI cD w)) (zQc A0 aS D cI cD r1 w1) (w1.length - w.length) (zsl w1 - zsl w) (fun q => A0 ≤ q))
    (hP : zHP A0 aS D cI cD w H) (hS : va_S (fun q => A0 ≤ q) s.heap H locs) (hl : zls A0 aS L ls) (hL : L.length = (zm y).2.2.1)
    (hfr : d' + 2 ≤ R.frames) (hlo : 40 * d' + 100 ≤ R.locals) (hRc : cells + (w1.length - w.length) ≤ R.cells) (hRs : slots + (zsl w1 - zsl w) ≤ R.slots)
    (kk : ∀ (H1 : Heap) (locs1 : List Loc), zHP A0 aS D cI cD w1 H1 → va_S (fun q => A0 ≤ q) s.heap H1 locs1 → W p l e R s m args below meth c H1 locs1 (cells + (w1.length - w.length)) (slots + (zsl w1 - zsl w)) Q (F0 m i.2.2.2.2.1 ls ((r1.map (ztv A0 aS)).toList ++ rest.map (ztv A0 aS)))) : W p l e R s m args below meth c H locs cells slots Q (F0 m pc ls (S.map (ztv A0 aS))) := by
  obtain ⟨hx, hb, hr, hml, hown, hlk, hnm, hts, hnw, hK, hA, hAO⟩ := C0
  obtain ⟨op, a, b, cp, n0, x, t⟩ := i
  dsimp only at hi hcal hM kk
  have ha : a < 292 ∧ n0 = pc + 3 ∧ (zm a).2.2.2.2.2.2.1 = b ∧ ((Jvm.Cond.methodLink (zN (zm y).2.2.2.2.1) cp (zm a).1).before args s = true ∨ va_Nw (.methodLinkNest (zN (zm y).2.2.2.2.1) cp (zm a).1 "LateOrders") s) ∧
      ((op = 30 ∧ (zm a).2.2.2.2.2.1 = 0 ∧ decode (zm y).2.1 pc = .ok (.invokevirtual cp, 3)) ∨ (op = 31 ∧ (zm a).2.2.2.2.2.1 = 1 ∧ decode (zm y).2.1 pc = .ok (.invokestatic cp, 3)) ∨ (op = 32 ∧ (zm a).2.2.2.2.2.1 = 2 ∧ decode (zm y).2.1 pc = .ok (.invokespecial cp, 3))) := by
    rcases hi with rfl | rfl | rfl <;>
    · delta zchk at hc
      dsimp only at hc
      simp only [zD, Bool.and_eq_true, decide_eq_true_eq] at hc
      obtain ⟨⟨⟨⟨⟨hd, hn⟩, h1⟩, h2⟩, h3⟩, h4⟩ := hc
      refine ⟨h1, hn, h3, zlinkm hts hnw h4, ?_⟩
      simp [h2, hd]
  obtain ⟨ha, rfl, hb3, hlink, hcase⟩ := ha
  obtain ⟨f1, f2, f3, f4, f5, f6, f7, f8, f9⟩ := zm_facts a ha hts
  have htsW := zws_hts hy hts
  have hgood := zWs_good y a ha
  delta zcal at hcal
  dsimp only at hcal
  split at hcal
  · rename_i hcon
    obtain ⟨g1, g2, g3, g4, -⟩ := hcon
    have hsplit : S = S.take b ++ S.drop b := (List.take_append_drop b S).symm
    have hrest8 : ((rest.map (ztv A0 aS)).map fun v => v.category).sum ≤ 8 ∧ rest = S.drop b ∧ as = (S.take b).reverse := by
      have hre : rest = S.drop b ∧ as = (S.take b).reverse := by
        split at hcal
        · cases hcal; exact ⟨rfl, rfl⟩
        · split at hcal
          · rename_i r as' he
            split at hcal
            · split at hcal
              · cases hcal
                exact ⟨rfl, he.symm⟩
              · cases hcal
            · cases hcal
          · cases hcal
      refine ⟨?_, hre⟩
      have hall : ∀ v ∈ rest, zokv v = true := fun v hv => List.all_eq_true.mp g4 v (List.mem_of_mem_drop (hre.1 ▸ hv))
      have hsum : ((rest.map (ztv A0 aS)).map fun v => v.category).sum = rest.length := by
        clear hcal hM kk hre g3
        induction rest with
        | nil => rfl
        | cons v rest ih =>
          simp only [List.map_cons, List.sum_cons, List.length_cons, ih (fun u hu => hall u (List.mem_cons_of_mem _ hu)), zok_cat (hall v List.mem_cons_self)]
          omega
      rw [hsum, hre.1]
      exact g3
    obtain ⟨h8, hre1, hre2⟩ := hrest8
    have hlen : as.length = b := by rw [hre2, List.length_reverse, List.length_take]; omega
    have hstk : S.map (ztv A0 aS) = (as.map (ztv A0 aS)).reverse ++ rest.map (ztv A0 aS) := by
      rw [← List.map_reverse, ← List.map_append, hre2, List.reverse_reverse, hre1, ← hsplit]
    have hroom : (zRm d' (w1.length - w.length) (zsl w1 - zsl w)).frames + 1 ≤ R.frames ∧ 8 + ((zm a).2.2.1 + 11) + (zRm d' (w1.length - w.length) (zsl w1 - zsl w)).locals ≤ R.locals := ⟨hfr, by show 8 + ((zm a).2.2.1 + 11) + (40 * d' + 60) ≤ R.locals; omega⟩
    have hPc : ∀ U : State, U.heap = H → s.WarmedH U.vm → zPw A0 aS aV D cI cD w U := fun U hU hW => zPw.go hU hW hP hK hnw hAO hST hS.2.1
    have hsz : (F0 m pc ls (S.map (ztv A0 aS))).locals.size = (zm y).2.2.1 := by show ls.size = _; rw [hl.1, hL]
    rcases hcase with ⟨rfl, hk, hd⟩ | ⟨rfl, hk, hd⟩ | ⟨rfl, hk, hd⟩
    · -- virtual
      rw [if_neg (by decide)] at hcal
      split at hcal
      · rename_i r as' he
        split at hcal
        · rename_i ci fs hw
          split at hcal
          · rename_i hci
            cases hcal
            obtain ⟨hinst, hcls, hna⟩ := f7 (by rw [hk]; decide)
            rw [hk, if_neg (by decide)] at f5
            have hcell : ∃ cellB : Cell, H[A0 + r]? = some cellB ∧ cellB.vm.isStatics = false ∧ s.vm.findClass (zm a).1.cls = some cellB.cls := by
              obtain ⟨q', h1, cell, q1, q2, q3, -⟩ := hP.2 r _ hw
              refine ⟨cell, q1, by rw [q3]; rfl, ?_⟩
              rw [q2, ← hci] at *
              have h1' : vwCl[ci]? = some q' := h1
              rw [h1'] at hcls
              have e1 : q'.1 = (zm a).1.cls := Option.some.inj hcls
              rw [← e1]
              exact (hK.1 ci q' h1').2.1
            have hn' : (as'.map (ztv A0 aS)).length = b - 1 := by
              simp only [List.length_cons] at hlen
              rw [List.length_map]; omega
            have hstk2 : S.map (ztv A0 aS) = (as'.map (ztv A0 aS)).reverse ++ .ref (A0 + r) :: (S.drop b).map (ztv A0 aS) := by
              rw [hstk]; simp [ztv]
            rcases hlink with hlink | hlink
            · exact zgo (va_runV (As := as'.map (ztv A0 aS)) (rest := (S.drop b).map (ztv A0 aS)) ⟨hx, hb, hml, hown, htsW⟩ hM ⟨callB_of (b - 1) htsW hgood rfl rfl rfl f4 hlink (by rw [← hb3]; exact f5) hroom, hinst, f8 hk⟩ ⟨zPw.blind, hcell, fun U hU hW => ⟨rfl, hPc U hU hW⟩⟩ rfl hn' hsz hstk2 (by show 2 * 0 + _ ≤ 8; omega) hd ⟨hRc, hRs⟩) hS kk
            · exact zgo (va_runVN (As := as'.map (ztv A0 aS)) (rest := (S.drop b).map (ztv A0 aS)) ⟨hx, hb, hml, hown, htsW⟩ hM ⟨va_cnB (b - 1) htsW hgood rfl rfl rfl hlink f4 (by rw [← hb3]; exact f5) hroom, hinst, f8 hk⟩ ⟨zPw.blind, hcell, fun U hU hW => ⟨rfl, hPc U hU hW⟩⟩ rfl hn' hsz hstk2 (by show 2 * 0 + _ ≤ 8; omega) hd ⟨hRc, hRs⟩) hS kk
          · cases hcal
        · cases hcal
      · cases hcal
    · -- static
      rw [if_pos rfl] at hcal
      cases hcal
      rw [hk, if_pos rfl] at f5
      have hn' : ((S.take b).reverse.map (ztv A0 aS)).length = b := by rw [List.length_map]; exact hlen
      rcases hlink with hlink | hlink
      · exact zgo (va_runS (As := (S.take b).reverse.map (ztv A0 aS)) (rest := (S.drop b).map (ztv A0 aS)) ⟨hx, hb, hml, hown, htsW⟩ hM ⟨callB_of b htsW hgood rfl rfl rfl f4 hlink (by rw [← hb3]; exact f5) hroom, f6 hk⟩ ⟨zPw.blind, fun U hU hW => ⟨rfl, hPc U hU hW⟩⟩ rfl hn' hsz hstk (by show 2 * 0 + _ ≤ 8; omega) hd ⟨hRc, hRs⟩) hS kk
      · exact zgo (va_runSN (As := (S.take b).reverse.map (ztv A0 aS)) (rest := (S.drop b).map (ztv A0 aS)) ⟨hx, hb, hml, hown, htsW⟩ hM ⟨va_cnB b htsW hgood rfl rfl rfl hlink f4 (by rw [← hb3]; exact f5) hroom, f6 hk, trivial⟩ ⟨zPw.blind, fun U hU hW => ⟨rfl, hPc U hU hW⟩⟩ rfl hn' hsz hstk (by show 2 * 0 + _ ≤ 8; omega) hd ⟨hRc, hRs⟩) hS kk
    · -- constructor
      rw [if_neg (by decide)] at hcal
      split at hcal
      · rename_i r as' he
        split at hcal
        · rename_i ci fs hw
          split at hcal
          · rename_i hci
            cases hcal
            obtain ⟨hinst, hcls, hna⟩ := f7 (by rw [hk]; decide)
            obtain ⟨hnm2, hrt⟩ := f9 hk
            rw [hk, if_neg (by decide)] at f5
            have hn' : (as'.map (ztv A0 aS)).length = b - 1 := by
              simp only [List.length_cons] at hlen
              rw [List.length_map]; omega
            have hstk2 : S.map (ztv A0 aS) = (as'.map (ztv A0 aS)).reverse ++ .ref (A0 + r) :: (S.drop b).map (ztv A0 aS) := by
              rw [hstk]; simp [ztv]
            have hw0 : zWs a = .code (zm a).1 (zm a).2.1 (zm a).2.2.1 none :: lw_tbl.filter goodWord := by rw [← hrt]; rfl
            rcases hlink with hlink | hlink
            · exact zgo (va_runI (As := as'.map (ztv A0 aS)) (rest := (S.drop b).map (ztv A0 aS)) ⟨hx, hb, hml, hown, htsW⟩ hM (cwI (b - 1) htsW hgood hw0 rfl rfl f4 hlink hinst hnm2 (by rw [← hb3]; exact f5) hroom) ⟨zPw.blind, fun U hU hW => ⟨rfl, hPc U hU hW⟩⟩ rfl hn' hsz hstk2 (by show 2 * 0 + _ ≤ 8; omega) hd ⟨hRc, hRs⟩) hS kk
            · exact zgo (va_runIN (As := as'.map (ztv A0 aS)) (rest := (S.drop b).map (ztv A0 aS)) ⟨hx, hb, hml, hown, htsW⟩ hM ⟨va_cnB (b - 1) htsW hgood hw0 rfl rfl hlink f4 (by rw [← hb3]; exact f5) hroom, hnm2, hinst⟩ ⟨zPw.blind, fun U hU hW => ⟨rfl, hPc U hU hW⟩⟩ rfl hn' hsz hstk2 (by show 2 * 0 + _ ≤ 8; omega) hd ⟨hRc, hRs⟩) hS kk
          · cases hcal
        · cases hcal
      · cases hcal
  · cases hcal
end ZSND
