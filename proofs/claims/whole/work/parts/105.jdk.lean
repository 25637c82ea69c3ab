/-! THE JDK's small methods: Math.floorDiv and floorMod, String.length and charAt on the constant -/
abbrev zkw : String := "obeys tires grows zeal tired what fire wall high sea crowd done day when or and not on order march rest build quench stand stop daily place road "
/-- the String constant and what its methods look at -/
def zST (A0 aS aV : Nat) (U : State) (H : Heap) : Prop :=
  vk_R "LateOrders$Tokens" 58 zkw aS U ∧ vk_S 1 [ztx.length] [ztx] (fun _ => aS) (fun _ => aV) (fun q => A0 ≤ q) U H ∧ va_Z "java/lang/String" "COMPACT_STRINGS" "Z" (.int 1) (fun q => A0 ≤ q) U H ∧ va_Zq "jdk/internal/util/Preconditions" "SIOOBE_FORMATTER" "Ljava/util/function/BiFunction;" (fun q => A0 ≤ q) U H
theorem zST.go {A0 aS aV : Nat} {s U : State} {H H1 : Heap} (h : zST A0 aS aV s H) (hW : s.WarmedH U.vm) (hq : ∀ a : Nat, a < H.size → ¬ A0 ≤ a → H1[a]? = H[a]?) : zST A0 aS aV U H1 :=
  ⟨vk_R.warm hW h.1, (h.2.1.kept hq).moved hW.alike, (h.2.2.1.kept hq).moved hW.alike, (h.2.2.2.kept hq).moved hW.alike⟩
theorem zofWF {l : Launch} {y : MethodName} {ws ws' : List Cond} {rm : Room} {Pc : Array Value → State → Prop} {Qc : Array Value → State → Outcome → State → Prop} {mc ms : Nat} {free : Addr → Prop} {cc : ByteArray} {maxL : Nat} {ret : Option FieldType}
    (hy : plainFor y = true) (hw : ws = Cond.code y cc maxL ret :: ws')
    (body : ∀ p e s m args below meth c s₁, BodyLoose p l y (headSpec ws rm) cc maxL ret e s m args below meth c s₁ → c.maxLocals = maxL → Pc args s →
      W p l e (headSpec ws rm).room s m args below meth c s.heap [] 0 0 (MQ below Qc args s mc ms free) (entryFrame m args maxL)) : Met l y ws rm Pc Qc mc ms free := by
  refine MetFree.of_bodySF (code := cc) (maxLocals := maxL) (ret := ret) hy ?_ ?_
  · intro args s m h hn
    obtain ⟨meth, c, h1, h2, h3, h4, h5, h6, -, -⟩ := Cond.code_spec hn (atoms_spec (ws := ws) h _ (by rw [hw]; exact List.mem_cons_self))
    exact ⟨meth, c, h1, h2, h3, h4, h5, h6⟩
  · intro p e s m args below meth c s₁ B hml hP _
    have hh0 : s₁.heap = s.heap := by rw [B.state]; rfl
    obtain ⟨t, a1, o, b1, b2, b3⟩ := body p e s m args below meth c s₁ B hml hP s₁ hh0 (Stand.of_body B)
    exact ⟨t, o, a1, b1, b2, ⟨b3.1, b3.2⟩⟩
noncomputable def zWj (y : MethodName) (cc : ByteArray) (ml : Nat) (ret : Option FieldType) : List Jvm.Cond := .code y cc ml ret :: lw_tbl.filter goodWord
def zRj (k : Nat) : Room := { frames := k, cells := 0, slots := 0, locals := 25 * k }
def zQj (r : Option Value) : Array Value → State → Outcome → State → Prop := fun _ st o t => o = .returned r ∧ t.heap = st.heap
def zMj (l : Launch) (A0 aS aV : Nat) (y : MethodName) (cc : ByteArray) (ml : Nat) (ret : Option FieldType) (k : Nat) (as : List Value) (r : Option Value) : Prop := Met l y (zWj y cc ml ret) (zRj k) (va_Pc as (fun U => zST A0 aS aV U U.heap)) (zQj r) 0 0 (fun _ => False)
theorem zj_of {l : Launch} {A0 aS aV : Nat} {y : MethodName} {cc : ByteArray} {ml : Nat} {ret : Option FieldType} {k : Nat} {as : List Value} {r : Option Value} (hy : plainFor y = true) (hml : (lg_sl as).length ≤ ml)
    (body : ∀ (p : Program) (e : Env) (s : State) (m : MethodId) (below : List Frame) (meth : Method) (c : Code), p.tables.exec = Jvm.exec → c.code = cc → meth.sig.returnType = ret → c.maxLocals = ml → s.vm.findClass y.cls = some m.cls → meth.locks = false → (∀ w ∈ lw_tbl, goodWord w = true → w.before as.toArray s = true) → zST A0 aS aV s s.heap → ∀ ls, lv_has ls ml (lv_args 0 as) → W p l e (zRj k) s m as.toArray below meth c s.heap [] 0 0 (MQ below (zQj r) as.toArray s 0 0 (fun _ => False)) (F0 m 0 ls [])) : zMj l A0 aS aV y cc ml ret k as r := by
  refine zofWF (cc := cc) (maxL := ml) (ret := ret) hy rfl ?_
  intro p e s m args below meth c s₁ B hml' hv
  obtain ⟨rfl, hST⟩ := hv
  have hts0 := atoms_spec (ws := zWj y cc ml ret) B.pre
  have hown : s.vm.findClass y.cls = some m.cls := findClass_of_methodNamed B.named
  rw [lg_entry_eq]
  exact body p e s m below meth c B.exec B.bytes B.returns hml' hown B.notSynchronized (fun w hw hg => hts0 w (List.mem_cons_of_mem _ (List.mem_filter.mpr ⟨hw, hg⟩))) hST _ (lv_entry as hml)
section ZJ
variable {p : Program} {l : Launch} {e : Env} {R : Room} {s : State} {m : MethodId} {args : Array Value} {below : List Frame} {meth : Method} {c : Code} {H : Heap} {locs : List Loc} {cells slots : Nat} {Q : State → Prop}
variable {pc : Nat} {ls : Array Slot} {A0 aS aV : Nat} {cc : ByteArray} {nL : Nat} {own : String} {y : MethodName} {yc : ByteArray} {yl : Nat} {yr : Option FieldType} {k idx : Nat} {as as' st0 rest : List Value} {r : Option Value}
theorem zgo2 (hr : va_Run p l e R s m args below meth c H locs cells slots 0 0 (F0 m pc ls st0) rest (zQj r #[]) (fun _ => False))
    (kk : W p l e R s m args below meth c H locs cells slots Q (F0 m (pc + 3) ls (r.toList ++ rest))) : W p l e R s m args below meth c H locs cells slots Q (F0 m pc ls st0) := by
  intro T hT X
  obtain ⟨v, st₀, t, T', L, h0, X', hL, e1, e2, ⟨hv, hz⟩, st⟩ := hr T hT X
  have hv' : v = r := Outcome.returned.inj hv
  subst hv'
  have hLn : L = [] := by
    cases L with
    | nil => rfl
    | cons q L => exact (hL q List.mem_cons_self).elim
  subst hLn
  rw [List.append_nil] at X'
  obtain ⟨t2, a1, b1⟩ := kk T' (by rw [e1, hz, h0]) X'
  exact ⟨t2, st t2 a1, b1⟩
theorem zj_blind : FrameBlind (va_Pc as (fun U => zST A0 aS aV U U.heap)) := by
  intro a U g mk h
  obtain ⟨h1, h6, h7, h8, h9⟩ := h
  have hvm : (U.calling g mk a).vm = U.vm := rfl
  have hal : U.vm.Alike (U.calling g mk a).vm := Vm.Alike.refl U.vm
  exact ⟨h1, vk_R.same hvm h6, vk_S.moved hal h7, va_Z.moved hal h8, va_Zq.moved hal h9⟩
theorem zj_good (hc : Jvm.Cond.code y yc yl yr ∈ lw_tbl) : GoodIn (lw_tbl.filter goodWord) (zWj y yc yl yr) := fun w hw => by
  rcases List.mem_cons.mp hw with rfl | hw
  · exact ⟨List.mem_filter.mpr ⟨hc, rfl⟩, good_of_word rfl⟩
  · exact ⟨hw, good_of_word (List.mem_filter.mp hw).2⟩
/-- a static method of the JDK's is called -/
theorem zjS (hx : p.tables.exec = Jvm.exec) (hb : c.code = cc) (hml : c.maxLocals = nL) (hown : s.vm.findClass own = some m.cls) (hts : ∀ w ∈ lw_tbl, goodWord w = true → w.before args s = true) (hST : zST A0 aS aV s s.heap) (hS : va_S (fun q => A0 ≤ q) s.heap H locs) (hls : ls.size = nL) (hM : zMj l A0 aS aV y yc yl yr k as r) (hcode : Jvm.Cond.code y yc yl yr ∈ lw_tbl) (hlink : (Jvm.Cond.methodLink own idx y).before args s = true) (hini : Jvm.Cond.initialized y.cls ∈ lw_tbl) (hstat : Jvm.Cond.static y ∈ lw_tbl)
    (hy : y.cls ≠ "java/lang/invoke/MethodHandle" ∧ y.cls ≠ "java/lang/invoke/VarHandle" ∧ (parseMethodDescriptor y.desc).map (fun d => d.parameters.length) = some as.length) (hd : decode cc pc = .ok (.invokestatic idx, 3)) (hst : st0 = as.reverse ++ rest) (h8 : (rest.map fun v => v.category).sum ≤ 8) (hfr : k + 1 ≤ R.frames) (hlo : 8 + (yl + 11) + 25 * k ≤ R.locals) (hc : cells ≤ R.cells) (hs : slots ≤ R.slots)
    (kk : W p l e R s m args below meth c H locs cells slots Q (F0 m (pc + 3) ls (r.toList ++ rest))) : W p l e R s m args below meth c H locs cells slots Q (F0 m pc ls st0) := by
  have htsW := zgw_hts hts
  have hPc : ∀ U : State, U.heap = H → s.WarmedH U.vm → zST A0 aS aV U U.heap := fun U hU hW => hST.go hW (by rw [hU]; exact hS.2.1)
  exact zgo2 (va_runS (As := as) (rest := rest) (Qc := zQj r) ⟨hx, hb, hml, hown, htsW⟩ hM ⟨callB_of as.length htsW (zj_good hcode) rfl rfl rfl (hts _ hini rfl) hlink hy ⟨hfr, hlo⟩, hts _ hstat rfl⟩ ⟨zj_blind, fun U hU hW => ⟨rfl, hPc U hU hW⟩⟩ rfl rfl hls hst (by show 2 * 0 + _ ≤ 8; omega) hd ⟨hc, hs⟩) kk
/-- a String method on the constant -/
theorem zjV (hx : p.tables.exec = Jvm.exec) (hb : c.code = cc) (hml : c.maxLocals = nL) (hown : s.vm.findClass own = some m.cls) (hts : ∀ w ∈ lw_tbl, goodWord w = true → w.before args s = true) (hST : zST A0 aS aV s s.heap) (hS : va_S (fun q => A0 ≤ q) s.heap H locs) (hls : ls.size = nL) (hM : zMj l A0 aS aV y yc yl yr k (.ref aS :: as') r) (hyc : y.cls = "java/lang/String") (hcode : Jvm.Cond.code y yc yl yr ∈ lw_tbl) (hlink : (Jvm.Cond.methodLink own idx y).before args s = true) (hini : Jvm.Cond.initialized y.cls ∈ lw_tbl) (hinst : Jvm.Cond.instanceMethod y ∈ lw_tbl) (hsel : Jvm.Cond.selects y.cls y y ∈ lw_tbl)
    (hy : y.cls ≠ "java/lang/invoke/MethodHandle" ∧ y.cls ≠ "java/lang/invoke/VarHandle" ∧ (parseMethodDescriptor y.desc).map (fun d => d.parameters.length) = some as'.length) (hd : decode cc pc = .ok (.invokevirtual idx, 3)) (hst : st0 = as'.reverse ++ .ref aS :: rest) (h8 : (rest.map fun v => v.category).sum ≤ 8) (hfr : k + 1 ≤ R.frames) (hlo : 8 + (yl + 11) + 25 * k ≤ R.locals) (hc : cells ≤ R.cells) (hs : slots ≤ R.slots)
    (kk : W p l e R s m args below meth c H locs cells slots Q (F0 m (pc + 3) ls (r.toList ++ rest))) : W p l e R s m args below meth c H locs cells slots Q (F0 m pc ls st0) := by
  have htsW := zgw_hts hts
  have hPc : ∀ U : State, U.heap = H → s.WarmedH U.vm → zST A0 aS aV U U.heap := fun U hU hW => hST.go hW (by rw [hU]; exact hS.2.1)
  have hcell : ∃ cellB : Cell, H[aS]? = some cellB ∧ cellB.vm.isStatics = false ∧ s.vm.findClass y.cls = some cellB.cls := by rw [hyc]; exact vk_recv (i := 0) hST.2.1 (by decide) hS
  exact zgo2 (va_runV (As := as') (rest := rest) (Qc := zQj r) ⟨hx, hb, hml, hown, htsW⟩ hM ⟨callB_of as'.length htsW (zj_good hcode) rfl rfl rfl (hts _ hini rfl) hlink hy ⟨hfr, hlo⟩, hts _ hinst rfl, hts _ hsel rfl⟩ ⟨zj_blind, hcell, fun U hU hW => ⟨rfl, hPc U hU hW⟩⟩ rfl rfl hls hst (by show 2 * 0 + _ ≤ 8; omega) hd ⟨hc, hs⟩) kk
end ZJ
theorem zxor_nn (x y : Int32) : 0 ≤ x ^^^ y ↔ (0 ≤ x ↔ 0 ≤ y) := by
  have h : ∀ z : Int32, 0 ≤ z ↔ z.toBitVec.msb = false := fun z => by
    rw [Int32.le_iff_toInt_le, BitVec.msb_eq_toInt]
    show (0 : Int) ≤ z.toBitVec.toInt ↔ _
    simp
  rw [h, h, h, Int32.toBitVec_xor, BitVec.msb_xor]
  cases x.toBitVec.msb <;> cases y.toBitVec.msb <;> simp
theorem zfm_eq {u v : Int32} (hv : ¬ v = 0) : zfm u v = if 0 ≤ u ^^^ v then u % v else if u % v = 0 then u % v else u % v + v := by
  unfold zfm
  by_cases h0 : u % v = 0
  · rw [h0]; simp
  · rw [if_neg h0]
    have hs : 0 ≤ u % v ↔ 0 ≤ u := by
      rw [Int32.le_iff_toInt_le, Int32.le_iff_toInt_le, Int32.toInt_mod]
      show 0 ≤ u.toInt.tmod v.toInt ↔ 0 ≤ u.toInt
      constructor
      · intro h
        by_cases hu : 0 ≤ u.toInt
        · exact hu
        · exfalso
          have h1 : u.toInt.tmod v.toInt ≤ 0 := by
            have := Int.tmod_nonneg v.toInt (a := -u.toInt) (by omega)
            rw [Int.neg_tmod] at this
            omega
          have h2 : (u % v).toInt = 0 := by rw [Int32.toInt_mod]; omega
          exact h0 (Int32.toInt_inj.mp (h2.trans rfl))
      · intro h
        exact Int.tmod_nonneg v.toInt h
    have e : (0 ≤ (u % v) ^^^ v) ↔ (0 ≤ u ^^^ v) := by rw [zxor_nn, zxor_nn, hs]
    by_cases h : 0 ≤ u ^^^ v
    · rw [if_pos h, if_pos (e.mpr h)]
    · rw [if_neg h, if_neg (fun z => h (e.mp z))]
theorem dJ9_floorDiv_7cf53_0 : decode cJ9_floorDiv_7cf53 0 = .ok (.iload_n 0, 1) := by decide +kernel
theorem dJ9_floorDiv_7cf53_1 : decode cJ9_floorDiv_7cf53 1 = .ok (.iload_n 1, 1) := by decide +kernel
theorem dJ9_floorDiv_7cf53_2 : decode cJ9_floorDiv_7cf53 2 = .ok (.idiv, 1) := by decide +kernel
theorem dJ9_floorDiv_7cf53_3 : decode cJ9_floorDiv_7cf53 3 = .ok (.istore_n 2, 1) := by decide +kernel
theorem dJ9_floorDiv_7cf53_4 : decode cJ9_floorDiv_7cf53 4 = .ok (.iload_n 0, 1) := by decide +kernel
theorem dJ9_floorDiv_7cf53_5 : decode cJ9_floorDiv_7cf53 5 = .ok (.iload_n 1, 1) := by decide +kernel
theorem dJ9_floorDiv_7cf53_6 : decode cJ9_floorDiv_7cf53 6 = .ok (.ixor, 1) := by decide +kernel
theorem dJ9_floorDiv_7cf53_7 : decode cJ9_floorDiv_7cf53 7 = .ok (.ifCond .ge 14, 3) := by decide +kernel
theorem dJ9_floorDiv_7cf53_10 : decode cJ9_floorDiv_7cf53 10 = .ok (.iload_n 2, 1) := by decide +kernel
theorem dJ9_floorDiv_7cf53_11 : decode cJ9_floorDiv_7cf53 11 = .ok (.iload_n 1, 1) := by decide +kernel
theorem dJ9_floorDiv_7cf53_12 : decode cJ9_floorDiv_7cf53 12 = .ok (.imul, 1) := by decide +kernel
theorem dJ9_floorDiv_7cf53_13 : decode cJ9_floorDiv_7cf53 13 = .ok (.iload_n 0, 1) := by decide +kernel
theorem dJ9_floorDiv_7cf53_14 : decode cJ9_floorDiv_7cf53 14 = .ok (.if_icmp .eq 7, 3) := by decide +kernel
theorem dJ9_floorDiv_7cf53_17 : decode cJ9_floorDiv_7cf53 17 = .ok (.iload_n 2, 1) := by decide +kernel
theorem dJ9_floorDiv_7cf53_18 : decode cJ9_floorDiv_7cf53 18 = .ok (.iconst 1, 1) := by decide +kernel
theorem dJ9_floorDiv_7cf53_19 : decode cJ9_floorDiv_7cf53 19 = .ok (.isub, 1) := by decide +kernel
theorem dJ9_floorDiv_7cf53_20 : decode cJ9_floorDiv_7cf53 20 = .ok (.ireturn, 1) := by decide +kernel
theorem dJ9_floorDiv_7cf53_21 : decode cJ9_floorDiv_7cf53 21 = .ok (.iload_n 2, 1) := by decide +kernel
theorem dJ9_floorDiv_7cf53_22 : decode cJ9_floorDiv_7cf53 22 = .ok (.ireturn, 1) := by decide +kernel
theorem dJ9_floorMod_7cf53_0 : decode cJ9_floorMod_7cf53 0 = .ok (.iload_n 0, 1) := by decide +kernel
theorem dJ9_floorMod_7cf53_1 : decode cJ9_floorMod_7cf53 1 = .ok (.iload_n 1, 1) := by decide +kernel
theorem dJ9_floorMod_7cf53_2 : decode cJ9_floorMod_7cf53 2 = .ok (.irem, 1) := by decide +kernel
theorem dJ9_floorMod_7cf53_3 : decode cJ9_floorMod_7cf53 3 = .ok (.istore_n 2, 1) := by decide +kernel
theorem dJ9_floorMod_7cf53_4 : decode cJ9_floorMod_7cf53 4 = .ok (.iload_n 0, 1) := by decide +kernel
theorem dJ9_floorMod_7cf53_5 : decode cJ9_floorMod_7cf53 5 = .ok (.iload_n 1, 1) := by decide +kernel
theorem dJ9_floorMod_7cf53_6 : decode cJ9_floorMod_7cf53 6 = .ok (.ixor, 1) := by decide +kernel
theorem dJ9_floorMod_7cf53_7 : decode cJ9_floorMod_7cf53 7 = .ok (.ifCond .ge 11, 3) := by decide +kernel
theorem dJ9_floorMod_7cf53_10 : decode cJ9_floorMod_7cf53 10 = .ok (.iload_n 2, 1) := by decide +kernel
theorem dJ9_floorMod_7cf53_11 : decode cJ9_floorMod_7cf53 11 = .ok (.ifCond .eq 7, 3) := by decide +kernel
theorem dJ9_floorMod_7cf53_14 : decode cJ9_floorMod_7cf53 14 = .ok (.iload_n 2, 1) := by decide +kernel
theorem dJ9_floorMod_7cf53_15 : decode cJ9_floorMod_7cf53 15 = .ok (.iload_n 1, 1) := by decide +kernel
theorem dJ9_floorMod_7cf53_16 : decode cJ9_floorMod_7cf53 16 = .ok (.iadd, 1) := by decide +kernel
theorem dJ9_floorMod_7cf53_17 : decode cJ9_floorMod_7cf53 17 = .ok (.ireturn, 1) := by decide +kernel
theorem dJ9_floorMod_7cf53_18 : decode cJ9_floorMod_7cf53 18 = .ok (.iload_n 2, 1) := by decide +kernel
theorem dJ9_floorMod_7cf53_19 : decode cJ9_floorMod_7cf53 19 = .ok (.ireturn, 1) := by decide +kernel
theorem dJ0_length_8abf5_0 : decode cJ0_length_8abf5 0 = .ok (.aload_n 0, 1) := by decide +kernel
theorem dJ0_length_8abf5_1 : decode cJ0_length_8abf5 1 = .ok (.getfield 9, 3) := by decide +kernel
theorem dJ0_length_8abf5_4 : decode cJ0_length_8abf5 4 = .ok (.arraylength, 1) := by decide +kernel
theorem dJ0_length_8abf5_5 : decode cJ0_length_8abf5 5 = .ok (.aload_n 0, 1) := by decide +kernel
theorem dJ0_length_8abf5_6 : decode cJ0_length_8abf5 6 = .ok (.invokevirtual 335, 3) := by decide +kernel
theorem dJ0_length_8abf5_9 : decode cJ0_length_8abf5 9 = .ok (.ishr, 1) := by decide +kernel
theorem dJ0_length_8abf5_10 : decode cJ0_length_8abf5 10 = .ok (.ireturn, 1) := by decide +kernel
theorem dJ0_charAt_5068e_0 : decode cJ0_charAt_5068e 0 = .ok (.aload_n 0, 1) := by decide +kernel
theorem dJ0_charAt_5068e_1 : decode cJ0_charAt_5068e 1 = .ok (.invokevirtual 492, 3) := by decide +kernel
theorem dJ0_charAt_5068e_4 : decode cJ0_charAt_5068e 4 = .ok (.ifCond .eq 12, 3) := by decide +kernel
theorem dJ0_charAt_5068e_7 : decode cJ0_charAt_5068e 7 = .ok (.aload_n 0, 1) := by decide +kernel
theorem dJ0_charAt_5068e_8 : decode cJ0_charAt_5068e 8 = .ok (.getfield 9, 3) := by decide +kernel
theorem dJ0_charAt_5068e_11 : decode cJ0_charAt_5068e 11 = .ok (.iload_n 1, 1) := by decide +kernel
theorem dJ0_charAt_5068e_12 : decode cJ0_charAt_5068e 12 = .ok (.invokestatic 495, 3) := by decide +kernel
theorem dJ0_charAt_5068e_15 : decode cJ0_charAt_5068e 15 = .ok (.ireturn, 1) := by decide +kernel
theorem dJ0_charAt_5068e_16 : decode cJ0_charAt_5068e 16 = .ok (.aload_n 0, 1) := by decide +kernel
theorem dJ0_charAt_5068e_17 : decode cJ0_charAt_5068e 17 = .ok (.getfield 9, 3) := by decide +kernel
theorem dJ0_charAt_5068e_20 : decode cJ0_charAt_5068e 20 = .ok (.iload_n 1, 1) := by decide +kernel
theorem dJ0_charAt_5068e_21 : decode cJ0_charAt_5068e 21 = .ok (.invokestatic 498, 3) := by decide +kernel
theorem dJ0_charAt_5068e_24 : decode cJ0_charAt_5068e 24 = .ok (.ireturn, 1) := by decide +kernel
theorem dJ0_coder_7d493_0 : decode cJ0_coder_7d493 0 = .ok (.getstatic 38, 3) := by decide +kernel
theorem dJ0_coder_7d493_3 : decode cJ0_coder_7d493 3 = .ok (.ifCond .eq 10, 3) := by decide +kernel
theorem dJ0_coder_7d493_6 : decode cJ0_coder_7d493 6 = .ok (.aload_n 0, 1) := by decide +kernel
theorem dJ0_coder_7d493_7 : decode cJ0_coder_7d493 7 = .ok (.getfield 15, 3) := by decide +kernel
theorem dJ0_coder_7d493_10 : decode cJ0_coder_7d493 10 = .ok (.goto 4, 3) := by decide +kernel
theorem dJ0_coder_7d493_13 : decode cJ0_coder_7d493 13 = .ok (.iconst 1, 1) := by decide +kernel
theorem dJ0_coder_7d493_14 : decode cJ0_coder_7d493 14 = .ok (.ireturn, 1) := by decide +kernel
theorem dJ0_isLatin1_aae02_0 : decode cJ0_isLatin1_aae02 0 = .ok (.getstatic 38, 3) := by decide +kernel
theorem dJ0_isLatin1_aae02_3 : decode cJ0_isLatin1_aae02 3 = .ok (.ifCond .eq 14, 3) := by decide +kernel
theorem dJ0_isLatin1_aae02_6 : decode cJ0_isLatin1_aae02 6 = .ok (.aload_n 0, 1) := by decide +kernel
theorem dJ0_isLatin1_aae02_7 : decode cJ0_isLatin1_aae02 7 = .ok (.getfield 15, 3) := by decide +kernel
theorem dJ0_isLatin1_aae02_10 : decode cJ0_isLatin1_aae02 10 = .ok (.ifCond .ne 7, 3) := by decide +kernel
theorem dJ0_isLatin1_aae02_13 : decode cJ0_isLatin1_aae02 13 = .ok (.iconst 1, 1) := by decide +kernel
theorem dJ0_isLatin1_aae02_14 : decode cJ0_isLatin1_aae02 14 = .ok (.goto 4, 3) := by decide +kernel
theorem dJ0_isLatin1_aae02_17 : decode cJ0_isLatin1_aae02 17 = .ok (.iconst 0, 1) := by decide +kernel
theorem dJ0_isLatin1_aae02_18 : decode cJ0_isLatin1_aae02 18 = .ok (.ireturn, 1) := by decide +kernel
theorem dJ0_checkIndex_df160_0 : decode cJ0_checkIndex_df160 0 = .ok (.iload_n 0, 1) := by decide +kernel
theorem dJ0_checkIndex_df160_1 : decode cJ0_checkIndex_df160 1 = .ok (.iload_n 1, 1) := by decide +kernel
theorem dJ0_checkIndex_df160_2 : decode cJ0_checkIndex_df160 2 = .ok (.getstatic 1053, 3) := by decide +kernel
theorem dJ0_checkIndex_df160_5 : decode cJ0_checkIndex_df160 5 = .ok (.invokestatic 1059, 3) := by decide +kernel
theorem dJ0_checkIndex_df160_8 : decode cJ0_checkIndex_df160 8 = .ok (.pop, 1) := by decide +kernel
theorem dJ0_checkIndex_df160_9 : decode cJ0_checkIndex_df160 9 = .ok (.return_, 1) := by decide +kernel
theorem dJ1_charAt_3b067_0 : decode cJ1_charAt_3b067 0 = .ok (.iload_n 1, 1) := by decide +kernel
theorem dJ1_charAt_3b067_1 : decode cJ1_charAt_3b067 1 = .ok (.aload_n 0, 1) := by decide +kernel
theorem dJ1_charAt_3b067_2 : decode cJ1_charAt_3b067 2 = .ok (.arraylength, 1) := by decide +kernel
theorem dJ1_charAt_3b067_3 : decode cJ1_charAt_3b067 3 = .ok (.invokestatic 9, 3) := by decide +kernel
theorem dJ1_charAt_3b067_6 : decode cJ1_charAt_3b067 6 = .ok (.aload_n 0, 1) := by decide +kernel
theorem dJ1_charAt_3b067_7 : decode cJ1_charAt_3b067 7 = .ok (.iload_n 1, 1) := by decide +kernel
theorem dJ1_charAt_3b067_8 : decode cJ1_charAt_3b067 8 = .ok (.baload, 1) := by decide +kernel
theorem dJ1_charAt_3b067_9 : decode cJ1_charAt_3b067 9 = .ok (.sipush 255, 3) := by decide +kernel
theorem dJ1_charAt_3b067_12 : decode cJ1_charAt_3b067 12 = .ok (.iand, 1) := by decide +kernel
theorem dJ1_charAt_3b067_13 : decode cJ1_charAt_3b067 13 = .ok (.i2c, 1) := by decide +kernel
theorem dJ1_charAt_3b067_14 : decode cJ1_charAt_3b067 14 = .ok (.ireturn, 1) := by decide +kernel
theorem dJ3_checkIndex_8e157_0 : decode cJ3_checkIndex_8e157 0 = .ok (.iload_n 0, 1) := by decide +kernel
theorem dJ3_checkIndex_8e157_1 : decode cJ3_checkIndex_8e157 1 = .ok (.ifCond .lt 8, 3) := by decide +kernel
theorem dJ3_checkIndex_8e157_4 : decode cJ3_checkIndex_8e157 4 = .ok (.iload_n 0, 1) := by decide +kernel
theorem dJ3_checkIndex_8e157_5 : decode cJ3_checkIndex_8e157 5 = .ok (.iload_n 1, 1) := by decide +kernel
theorem dJ3_checkIndex_8e157_6 : decode cJ3_checkIndex_8e157 6 = .ok (.if_icmp .lt 10, 3) := by decide +kernel
theorem dJ3_checkIndex_8e157_9 : decode cJ3_checkIndex_8e157 9 = .ok (.aload_n 2, 1) := by decide +kernel
theorem dJ3_checkIndex_8e157_10 : decode cJ3_checkIndex_8e157 10 = .ok (.iload_n 0, 1) := by decide +kernel
theorem dJ3_checkIndex_8e157_11 : decode cJ3_checkIndex_8e157 11 = .ok (.iload_n 1, 1) := by decide +kernel
theorem dJ3_checkIndex_8e157_12 : decode cJ3_checkIndex_8e157 12 = .ok (.invokestatic 95, 3) := by decide +kernel
theorem dJ3_checkIndex_8e157_16 : decode cJ3_checkIndex_8e157 16 = .ok (.iload_n 0, 1) := by decide +kernel
theorem dJ3_checkIndex_8e157_17 : decode cJ3_checkIndex_8e157 17 = .ok (.ireturn, 1) := by decide +kernel
theorem zrem_eq {x y : Int32} (hy : ¬ y = 0) : x % y = x - x / y * y := by
  apply Int32.toInt_inj.mp
  rw [Int32.toInt_sub, Int32.toInt_mul, Int32.toInt_div, Int.bmod_mul_bmod, Int.sub_bmod_bmod, ← Int32.toInt_bmod]
  rw [Int32.toInt_mod, Int.tmod_def, Int.mul_comm]
theorem zfd_met {l : Launch} {A0 aS aV : Nat} {u v : Int32} (hv : ¬ v = 0) : zMj l A0 aS aV yJ9_floorDiv_7cf53 cJ9_floorDiv_7cf53 3 (some .int) 0 [.int u, .int v] (some (.int (zfd u v))) := by
  refine zj_of (by decide +kernel) (Nat.le_of_ble_eq_true rfl) (fun p e s m below meth c hx hb hr hml hown hlocks hts hST ls hl => ?_)
  have hl : lv_has ls 3 [(0, .int u), (1, .int v)] := hl
  refine lv_iload_n hx hb dJ9_floorDiv_7cf53_0 rfl (lv_at hl 0 rfl) ?_
  refine lv_iload_n hx hb dJ9_floorDiv_7cf53_1 rfl (lv_at hl 1 rfl) ?_
  refine lv_idiv hx hb dJ9_floorDiv_7cf53_2 hv ?_
  refine lv_istore_n (lv' := [(2, .int (u / v)), (0, .int u), (1, .int v)]) hx hb dJ9_floorDiv_7cf53_3 rfl hl (by decide) rfl (fun ls hl => ?_)
  refine lv_iload_n hx hb dJ9_floorDiv_7cf53_4 rfl (lv_at hl 1 rfl) ?_
  refine lv_iload_n hx hb dJ9_floorDiv_7cf53_5 rfl (lv_at hl 2 rfl) ?_
  refine lv_ixor hx hb dJ9_floorDiv_7cf53_6 ?_
  refine lv_if_ge (tgt := 21) hx hb dJ9_floorDiv_7cf53_7 (by decide) (fun c1 => ?_) (fun c1 => ?_)
  · refine lv_iload_n hx hb dJ9_floorDiv_7cf53_21 rfl (lv_at hl 0 rfl) ?_
    exact W.iret (v := u / v) hx hb hr (fun t ht hW => ⟨by unfold zfd; rw [if_pos c1], ht⟩) (fun q hq => by cases hq) dJ9_floorDiv_7cf53_22
  · refine lv_iload_n hx hb dJ9_floorDiv_7cf53_10 rfl (lv_at hl 0 rfl) ?_
    refine lv_iload_n hx hb dJ9_floorDiv_7cf53_11 rfl (lv_at hl 2 rfl) ?_
    refine lv_imul hx hb dJ9_floorDiv_7cf53_12 ?_
    refine lv_iload_n hx hb dJ9_floorDiv_7cf53_13 rfl (lv_at hl 1 rfl) ?_
    refine lv_icmp_eq (tgt := 21) hx hb dJ9_floorDiv_7cf53_14 (by decide) (fun c2 => ?_) (fun c2 => ?_)
    · refine lv_iload_n hx hb dJ9_floorDiv_7cf53_21 rfl (lv_at hl 0 rfl) ?_
      exact W.iret (v := u / v) hx hb hr (fun t ht hW => ⟨by unfold zfd; rw [if_neg c1, if_pos c2], ht⟩) (fun q hq => by cases hq) dJ9_floorDiv_7cf53_22
    · refine lv_iload_n hx hb dJ9_floorDiv_7cf53_17 rfl (lv_at hl 0 rfl) ?_
      refine lv_iconst (v := 1) hx hb dJ9_floorDiv_7cf53_18 (by decide) ?_
      refine lv_isub hx hb dJ9_floorDiv_7cf53_19 ?_
      exact W.iret (v := u / v - 1) hx hb hr (fun t ht hW => ⟨by unfold zfd; rw [if_neg c1, if_neg c2], ht⟩) (fun q hq => by cases hq) dJ9_floorDiv_7cf53_20
theorem zfm_met {l : Launch} {A0 aS aV : Nat} {u v : Int32} (hv : ¬ v = 0) : zMj l A0 aS aV yJ9_floorMod_7cf53 cJ9_floorMod_7cf53 3 (some .int) 0 [.int u, .int v] (some (.int (zfm u v))) := by
  refine zj_of (by decide +kernel) (Nat.le_of_ble_eq_true rfl) (fun p e s m below meth c hx hb hr hml hown hlocks hts hST ls hl => ?_)
  have hl : lv_has ls 3 [(0, .int u), (1, .int v)] := hl
  rw [zfm_eq hv]
  refine lv_iload_n hx hb dJ9_floorMod_7cf53_0 rfl (lv_at hl 0 rfl) ?_
  refine lv_iload_n hx hb dJ9_floorMod_7cf53_1 rfl (lv_at hl 1 rfl) ?_
  refine lv_irem hx hb dJ9_floorMod_7cf53_2 hv ?_
  rw [← zrem_eq hv]
  refine lv_istore_n (lv' := [(2, .int (u % v)), (0, .int u), (1, .int v)]) hx hb dJ9_floorMod_7cf53_3 rfl hl (by decide) rfl (fun ls hl => ?_)
  refine lv_iload_n hx hb dJ9_floorMod_7cf53_4 rfl (lv_at hl 1 rfl) ?_
  refine lv_iload_n hx hb dJ9_floorMod_7cf53_5 rfl (lv_at hl 2 rfl) ?_
  refine lv_ixor hx hb dJ9_floorMod_7cf53_6 ?_
  refine lv_if_ge (tgt := 18) hx hb dJ9_floorMod_7cf53_7 (by decide) (fun c1 => ?_) (fun c1 => ?_)
  · refine lv_iload_n hx hb dJ9_floorMod_7cf53_18 rfl (lv_at hl 0 rfl) ?_
    exact W.iret (v := u % v) hx hb hr (fun t ht hW => ⟨by rw [if_pos c1], ht⟩) (fun q hq => by cases hq) dJ9_floorMod_7cf53_19
  · refine lv_iload_n hx hb dJ9_floorMod_7cf53_10 rfl (lv_at hl 0 rfl) ?_
    refine lv_if_eq (tgt := 18) hx hb dJ9_floorMod_7cf53_11 (by decide) (fun c2 => ?_) (fun c2 => ?_)
    · refine lv_iload_n hx hb dJ9_floorMod_7cf53_18 rfl (lv_at hl 0 rfl) ?_
      exact W.iret (v := u % v) hx hb hr (fun t ht hW => ⟨by rw [if_neg c1, if_pos c2], ht⟩) (fun q hq => by cases hq) dJ9_floorMod_7cf53_19
    · refine lv_iload_n hx hb dJ9_floorMod_7cf53_14 rfl (lv_at hl 0 rfl) ?_
      refine lv_iload_n hx hb dJ9_floorMod_7cf53_15 rfl (lv_at hl 2 rfl) ?_
      refine lv_iadd hx hb dJ9_floorMod_7cf53_16 ?_
      exact W.iret (v := u % v + v) hx hb hr (fun t ht hW => ⟨by rw [if_neg c1, if_neg c2], ht⟩) (fun q hq => by cases hq) dJ9_floorMod_7cf53_17
theorem zc_coder : Jvm.Cond.code yJ0_coder_7d493 cJ0_coder_7d493 1 (some .byte) ∈ lw_tbl := by decide +kernel
theorem zc_isLatin1 : Jvm.Cond.code yJ0_isLatin1_aae02 cJ0_isLatin1_aae02 1 (some .boolean) ∈ lw_tbl := by decide +kernel
theorem zc_checkP : Jvm.Cond.code yJ3_checkIndex_8e157 cJ3_checkIndex_8e157 3 (some .int) ∈ lw_tbl := by decide +kernel
theorem zc_check : Jvm.Cond.code yJ0_checkIndex_df160 cJ0_checkIndex_df160 2 none ∈ lw_tbl := by decide +kernel
theorem zc_charL : Jvm.Cond.code yJ1_charAt_3b067 cJ1_charAt_3b067 2 (some .char) ∈ lw_tbl := by decide +kernel
theorem zc_char : Jvm.Cond.code yJ0_charAt_5068e cJ0_charAt_5068e 2 (some .char) ∈ lw_tbl := by decide +kernel
theorem zc_length : Jvm.Cond.code yJ0_length_8abf5 cJ0_length_8abf5 1 (some .int) ∈ lw_tbl := by decide +kernel
theorem zfl_cs : Jvm.Cond.fieldLink "java/lang/String" 38 "java/lang/String" "COMPACT_STRINGS" "Z" ∈ lw_tbl := by decide +kernel
theorem zfl_coder : Jvm.Cond.fieldLink "java/lang/String" 15 "java/lang/String" "coder" "B" ∈ lw_tbl := by decide +kernel
theorem zfl_value : Jvm.Cond.fieldLink "java/lang/String" 9 "java/lang/String" "value" "[B" ∈ lw_tbl := by decide +kernel
theorem zcoder_met {l : Launch} {A0 aS aV : Nat} : zMj l A0 aS aV yJ0_coder_7d493 cJ0_coder_7d493 1 (some .byte) 0 [.ref aS] (some (.int 0)) := by
  refine zj_of (by decide +kernel) (Nat.le_of_ble_eq_true rfl) (fun p e s m below meth c hx hb hr hml hown hlocks hts hST ls hl => ?_)
  have hl : lv_has ls 1 [(0, .ref aS)] := hl
  have hown : s.vm.findClass "java/lang/String" = some m.cls := hown
  refine va_gets hx hb hST.2.2.1 va_S.rf hown (hts _ zfl_cs rfl) (fun _ h => h) dJ0_coder_7d493_0 ?_
  refine lv_if_eq (tgt := 13) hx hb dJ0_coder_7d493_3 (by decide) (fun z => absurd z (by decide)) (fun _ => ?_)
  refine lv_aload_n hx hb dJ0_coder_7d493_6 rfl (lv_at hl 0 rfl) ?_
  refine vk_getf hx hb (hST.2.1.1 0 (by decide)).2.1 va_S.rf hown (hts _ zfl_coder rfl) (fun _ h => h) dJ0_coder_7d493_7 ?_
  refine lv_goto (tgt := 14) hx hb dJ0_coder_7d493_10 (by decide) ?_
  exact W.zret (v := 0) hx hb hr rfl (fun t ht hW => ⟨rfl, ht⟩) (fun q hq => by cases hq) dJ0_coder_7d493_14
theorem zisL_met {l : Launch} {A0 aS aV : Nat} : zMj l A0 aS aV yJ0_isLatin1_aae02 cJ0_isLatin1_aae02 1 (some .boolean) 0 [.ref aS] (some (.int 1)) := by
  refine zj_of (by decide +kernel) (Nat.le_of_ble_eq_true rfl) (fun p e s m below meth c hx hb hr hml hown hlocks hts hST ls hl => ?_)
  have hl : lv_has ls 1 [(0, .ref aS)] := hl
  have hown : s.vm.findClass "java/lang/String" = some m.cls := hown
  refine va_gets hx hb hST.2.2.1 va_S.rf hown (hts _ zfl_cs rfl) (fun _ h => h) dJ0_isLatin1_aae02_0 ?_
  refine lv_if_eq (tgt := 17) hx hb dJ0_isLatin1_aae02_3 (by decide) (fun z => absurd z (by decide)) (fun _ => ?_)
  refine lv_aload_n hx hb dJ0_isLatin1_aae02_6 rfl (lv_at hl 0 rfl) ?_
  refine vk_getf hx hb (hST.2.1.1 0 (by decide)).2.1 va_S.rf hown (hts _ zfl_coder rfl) (fun _ h => h) dJ0_isLatin1_aae02_7 ?_
  refine lv_if_ne (tgt := 17) hx hb dJ0_isLatin1_aae02_10 (by decide) (fun z => absurd rfl z) (fun _ => ?_)
  refine lv_iconst (v := 1) hx hb dJ0_isLatin1_aae02_13 (by decide) ?_
  refine lv_goto (tgt := 18) hx hb dJ0_isLatin1_aae02_14 (by decide) ?_
  exact W.zret (v := 1) hx hb hr rfl (fun t ht hW => ⟨rfl, ht⟩) (fun q hq => by cases hq) dJ0_isLatin1_aae02_18
theorem zchP_met {l : Launch} {A0 aS aV : Nat} {i n : Int32} {v : Value} (h0 : 0 ≤ i) (h1 : i < n) (hv : v = .null ∨ ∃ t, v = .ref t) : zMj l A0 aS aV yJ3_checkIndex_8e157 cJ3_checkIndex_8e157 3 (some .int) 0 [.int i, .int n, v] (some (.int i)) := by
  have hln : (lg_sl [.int i, .int n, v]).length ≤ 3 := by rcases hv with rfl | ⟨t, rfl⟩ <;> exact Nat.le_of_ble_eq_true rfl
  refine zj_of (by decide +kernel) hln (fun p e s m below meth c hx hb hr hml hown hlocks hts hST ls hl => ?_)
  have hl : lv_has ls 3 [(0, .int i), (1, .int n)] := by
    rcases hv with rfl | ⟨t, rfl⟩
    · exact lv_sub hl [0, 1] rfl
    · exact lv_sub hl [0, 1] rfl
  refine lv_iload_n hx hb dJ3_checkIndex_8e157_0 rfl (lv_at hl 0 rfl) ?_
  refine lv_if_lt (tgt := 9) hx hb dJ3_checkIndex_8e157_1 (by decide) (fun z => absurd h0 (Int32.not_le.mpr z)) (fun _ => ?_)
  refine lv_iload_n hx hb dJ3_checkIndex_8e157_4 rfl (lv_at hl 0 rfl) ?_
  refine lv_iload_n hx hb dJ3_checkIndex_8e157_5 rfl (lv_at hl 1 rfl) ?_
  refine lv_icmp_lt (tgt := 16) hx hb dJ3_checkIndex_8e157_6 (by decide) (fun _ => ?_) (fun z => absurd h1 z)
  refine lv_iload_n hx hb dJ3_checkIndex_8e157_16 rfl (lv_at hl 0 rfl) ?_
  exact W.iret (v := i) hx hb hr (fun t ht hW => ⟨rfl, ht⟩) (fun q hq => by cases hq) dJ3_checkIndex_8e157_17
theorem zch_met {l : Launch} {A0 aS aV : Nat} {i n : Int32} (h0 : 0 ≤ i) (h1 : i < n) : zMj l A0 aS aV yJ0_checkIndex_df160 cJ0_checkIndex_df160 2 none 1 [.int i, .int n] none := by
  refine zj_of (by decide +kernel) (Nat.le_of_ble_eq_true rfl) (fun p e s m below meth c hx hb hr hml hown hlocks hts hST ls hl => ?_)
  have hl : lv_has ls 2 [(0, .int i), (1, .int n)] := hl
  have hown : s.vm.findClass "java/lang/String" = some m.cls := hown
  have hgo : ∀ v : Value, (v = .null ∨ ∃ t, v = .ref t) → W p l e (zRj 1) s m #[.int i, .int n] below meth c s.heap [] 0 0 (MQ below (zQj none) #[.int i, .int n] s 0 0 (fun _ => False)) (F0 m 5 ls [v, .int n, .int i]) := fun v hv => by
    refine zjS (rest := []) hx hb hml hown hts hST va_S.rf hl.1 (zchP_met h0 h1 hv) zc_checkP (hts (.methodLink "java/lang/String" 1059 yJ3_checkIndex_8e157) (by decide +kernel) rfl) (by decide +kernel) (by decide +kernel) ⟨by decide, by decide, (by show _ = some 3; decide +kernel)⟩ dJ0_checkIndex_df160_5 rfl (by decide) (by decide) (by decide) (Nat.zero_le _) (Nat.zero_le _) ?_
    refine lv_pop hx hb dJ0_checkIndex_df160_8 rfl ?_
    exact W.vret hx hb hr (fun t ht hW => ⟨rfl, ht⟩) (fun q hq => by cases hq) dJ0_checkIndex_df160_9
  refine lv_iload_n hx hb dJ0_checkIndex_df160_0 rfl (lv_at hl 0 rfl) ?_
  refine lv_iload_n hx hb dJ0_checkIndex_df160_1 rfl (lv_at hl 1 rfl) ?_
  rcases hST.2.2.2 with hz | ⟨t, hz⟩
  · refine va_gets hx hb hz va_S.rf hown (hts (.fieldLink "java/lang/String" 1053 "jdk/internal/util/Preconditions" "SIOOBE_FORMATTER" "Ljava/util/function/BiFunction;") (by decide +kernel) rfl) (fun _ h => h) dJ0_checkIndex_df160_2 ?_
    exact hgo _ (Or.inl rfl)
  · refine va_gets hx hb hz va_S.rf hown (hts (.fieldLink "java/lang/String" 1053 "jdk/internal/util/Preconditions" "SIOOBE_FORMATTER" "Ljava/util/function/BiFunction;") (by decide +kernel) rfl) (fun _ h => h) dJ0_checkIndex_df160_2 ?_
    exact hgo _ (Or.inr ⟨t, rfl⟩)
theorem ztx_n : ztx.length = 145 := by decide +kernel
theorem ztx_c : ∀ j, j < 145 → ((ztx.getD j 0 &&& 255).toUInt32 % 65536).toInt32 = ztx.getD j 0 ∧ (ztx.getD j 0).toUInt32.toUInt16.toUInt32.toInt32 = ztx.getD j 0 := by
  have key : (List.range 145).all (fun j => decide (((ztx.getD j 0 &&& 255).toUInt32 % 65536).toInt32 = ztx.getD j 0) && decide ((ztx.getD j 0).toUInt32.toUInt16.toUInt32.toInt32 = ztx.getD j 0)) = true := by decide +kernel
  intro j hj
  have h := (Bool.and_eq_true _ _).mp (List.all_eq_true.mp key j (List.mem_range.mpr hj))
  exact ⟨of_decide_eq_true h.1, of_decide_eq_true h.2⟩
theorem zin_p {i : Int32} {n : Nat} (h : zin i n = true) (hn : n < 2 ^ 31) : 0 ≤ i ∧ i < Int32.ofNat n ∧ i.toNatClampNeg < n := by
  unfold zin at h
  have h2 := (Bool.and_eq_true _ _).mp h
  have a := of_decide_eq_true h2.1
  have b := of_decide_eq_true h2.2
  refine ⟨a, ?_, b⟩
  rw [Int32.lt_iff_toInt_lt, Int32.toInt_ofNat_of_lt hn]
  rw [Int32.le_iff_toInt_le] at a
  have b2 : i.toInt.toNat < n := b
  have a2 : (0 : Int) ≤ i.toInt := a
  omega
theorem zchL_met {l : Launch} {A0 aS aV : Nat} {i : Int32} (hi : zin i ztx.length = true) : zMj l A0 aS aV yJ1_charAt_3b067 cJ1_charAt_3b067 2 (some .char) 2 [.ref aV, .int i] (some (.int (ztx.getD i.toNatClampNeg 0))) := by
  obtain ⟨i0, i1, i2⟩ := zin_p hi (by rw [ztx_n]; decide)
  refine zj_of (by decide +kernel) (Nat.le_of_ble_eq_true rfl) (fun p e s m below meth c hx hb hr hml hown hlocks hts hST ls hl => ?_)
  have hl : lv_has ls 2 [(0, .ref aV), (1, .int i)] := hl
  have hown : s.vm.findClass "java/lang/StringLatin1" = some m.cls := hown
  have hT := (hST.2.1.1 0 (by decide)).2.2.2
  refine lv_iload_n hx hb dJ1_charAt_3b067_0 rfl (lv_at hl 1 rfl) ?_
  refine lv_aload_n hx hb dJ1_charAt_3b067_1 rfl (lv_at hl 0 rfl) ?_
  refine va_tlen hx hb hT va_S.rf (v := Int32.ofNat ztx.length) rfl dJ1_charAt_3b067_2 ?_
  refine zjS (rest := []) hx hb hml hown hts hST va_S.rf hl.1 (zch_met i0 i1) zc_check (hts (.methodLink "java/lang/StringLatin1" 9 yJ0_checkIndex_df160) (by decide +kernel) rfl) (by decide +kernel) (by decide +kernel) ⟨by decide, by decide, (by show _ = some 2; decide +kernel)⟩ dJ1_charAt_3b067_3 rfl (by decide) (by decide) (by decide) (Nat.zero_le _) (Nat.zero_le _) ?_
  refine lv_aload_n hx hb dJ1_charAt_3b067_6 rfl (lv_at hl 0 rfl) ?_
  refine lv_iload_n hx hb dJ1_charAt_3b067_7 rfl (lv_at hl 1 rfl) ?_
  refine va_tb hx hb hT va_S.rf (v := .int (ztx.getD i.toNatClampNeg 0)) (zvin hi) rfl dJ1_charAt_3b067_8 ?_
  refine lv_sipush (v := 255) hx hb dJ1_charAt_3b067_9 (by decide) ?_
  refine lv_iand hx hb dJ1_charAt_3b067_12 ?_
  refine lv_i2c hx hb dJ1_charAt_3b067_13 (ztx_c _ (by rw [← ztx_n]; exact i2)).1 ?_
  exact W.zret hx hb hr (by show Value.int _ = _; rw [(ztx_c _ (by rw [← ztx_n]; exact i2)).2]) (fun t ht hW => ⟨rfl, ht⟩) (fun q hq => by cases hq) dJ1_charAt_3b067_14
theorem zchar_met {l : Launch} {A0 aS aV : Nat} {i : Int32} (hi : zin i ztx.length = true) : zMj l A0 aS aV yJ0_charAt_5068e cJ0_charAt_5068e 2 (some .char) 3 [.ref aS, .int i] (some (.int (ztx.getD i.toNatClampNeg 0))) := by
  obtain ⟨i0, i1, i2⟩ := zin_p hi (by rw [ztx_n]; decide)
  refine zj_of (by decide +kernel) (Nat.le_of_ble_eq_true rfl) (fun p e s m below meth c hx hb hr hml hown hlocks hts hST ls hl => ?_)
  have hl : lv_has ls 2 [(0, .ref aS), (1, .int i)] := hl
  have hown : s.vm.findClass "java/lang/String" = some m.cls := hown
  refine lv_aload_n hx hb dJ0_charAt_5068e_0 rfl (lv_at hl 0 rfl) ?_
  refine zjV (as' := []) (rest := []) hx hb hml hown hts hST va_S.rf hl.1 zisL_met rfl zc_isLatin1 (hts (.methodLink "java/lang/String" 492 yJ0_isLatin1_aae02) (by decide +kernel) rfl) (by decide +kernel) (by decide +kernel) (by decide +kernel) ⟨by decide, by decide, by decide +kernel⟩ dJ0_charAt_5068e_1 rfl (by decide) (by decide) (by decide) (Nat.zero_le _) (Nat.zero_le _) ?_
  refine lv_if_eq (tgt := 16) hx hb dJ0_charAt_5068e_4 (by decide) (fun z => absurd z (by decide)) (fun _ => ?_)
  refine lv_aload_n hx hb dJ0_charAt_5068e_7 rfl (lv_at hl 0 rfl) ?_
  refine vk_getf hx hb (hST.2.1.1 0 (by decide)).2.2.1 va_S.rf hown (hts _ zfl_value rfl) (fun _ h => h) dJ0_charAt_5068e_8 ?_
  refine lv_iload_n hx hb dJ0_charAt_5068e_11 rfl (lv_at hl 1 rfl) ?_
  refine zjS (rest := []) hx hb hml hown hts hST va_S.rf hl.1 (zchL_met hi) zc_charL (hts (.methodLink "java/lang/String" 495 yJ1_charAt_3b067) (by decide +kernel) rfl) (by decide +kernel) (by decide +kernel) ⟨by decide, by decide, (by show _ = some 2; decide +kernel)⟩ dJ0_charAt_5068e_12 rfl (by decide) (by decide) (by decide) (Nat.zero_le _) (Nat.zero_le _) ?_
  exact W.zret hx hb hr (by show Value.int _ = _; rw [(ztx_c _ (by rw [← ztx_n]; exact i2)).2]) (fun t ht hW => ⟨rfl, ht⟩) (fun q hq => by cases hq) dJ0_charAt_5068e_15
theorem zlen_met {l : Launch} {A0 aS aV : Nat} : zMj l A0 aS aV yJ0_length_8abf5 cJ0_length_8abf5 1 (some .int) 1 [.ref aS] (some (.int (Int32.ofNat ztx.length))) := by
  refine zj_of (by decide +kernel) (Nat.le_of_ble_eq_true rfl) (fun p e s m below meth c hx hb hr hml hown hlocks hts hST ls hl => ?_)
  have hl : lv_has ls 1 [(0, .ref aS)] := hl
  have hown : s.vm.findClass "java/lang/String" = some m.cls := hown
  refine lv_aload_n hx hb dJ0_length_8abf5_0 rfl (lv_at hl 0 rfl) ?_
  refine vk_getf hx hb (hST.2.1.1 0 (by decide)).2.2.1 va_S.rf hown (hts _ zfl_value rfl) (fun _ h => h) dJ0_length_8abf5_1 ?_
  refine va_tlen hx hb (hST.2.1.1 0 (by decide)).2.2.2 va_S.rf (v := Int32.ofNat ztx.length) rfl dJ0_length_8abf5_4 ?_
  refine lv_aload_n hx hb dJ0_length_8abf5_5 rfl (lv_at hl 0 rfl) ?_
  refine zjV (as' := []) (rest := [.int (Int32.ofNat ztx.length)]) hx hb hml hown hts hST va_S.rf hl.1 zcoder_met rfl zc_coder (hts (.methodLink "java/lang/String" 335 yJ0_coder_7d493) (by decide +kernel) rfl) (by decide +kernel) (by decide +kernel) (by decide +kernel) ⟨by decide, by decide, by decide +kernel⟩ dJ0_length_8abf5_6 rfl (Nat.le_of_ble_eq_true rfl) (by decide) (by decide) (Nat.zero_le _) (Nat.zero_le _) ?_
  refine lv_ishr hx hb dJ0_length_8abf5_9 ?_
  exact W.iret hx hb hr (fun t ht hW => ⟨by rw [show Int32.ofNat ztx.length >>> ((0 : Int32) &&& 31) = Int32.ofNat ztx.length from by decide +kernel], ht⟩) (fun q hq => by cases hq) dJ0_length_8abf5_10
theorem zjk {y c op : Nat} {args : Array Value} {s : State} (hts : ∀ w ∈ lw_tbl, goodWord w = true → w.before args s = true) (h : zJK.any (fun q => decide (q.1 = y) && decide (q.2.1 = c) && decide (q.2.2.1 = op)) = true) : (Jvm.Cond.methodLink (zN y) c (zjn op)).before args s = true := by
  obtain ⟨q, hq, h⟩ := List.any_eq_true.mp h
  simp only [Bool.and_eq_true, decide_eq_true_eq] at h
  obtain ⟨⟨rfl, rfl⟩, rfl⟩ := h
  have h0 := zJK_ok q hq
  simp only [zjchk, zg, Bool.and_eq_true, decide_eq_true_eq] at h0
  exact hts _ (List.mem_of_getElem? h0.1) h0.2
section ZOPS
variable {p : Program} {l : Launch} {e : Env} {R : Room} {s : State} {m : MethodId} {args : Array Value} {below : List Frame} {meth : Method} {c : Code} {H : Heap} {locs : List Loc} {cells slots : Nat} {Q : State → Prop}
variable {pc : Nat} {ls : Array Slot} {A0 aS aV : Nat} {D : va_G} {cI cD : ClassId} {w : zW} {y : Nat} {L S : List Value}
/-- ldc of the String constant -/
theorem z38 (C0 : zCtx A0 aS D cI cD y p s m args meth c) (hST : zST A0 aS aV s s.heap) {a b cp n0 : Nat} {x : Int32} {t : List (Int32 × Nat)} {rest : List Value} (hc : zchk y pc (38, a, b, cp, n0, x, t) = true) (k1 : W p l e R s m args below meth c H locs cells slots Q (F0 m n0 ls (.ref aS :: rest))) : W p l e R s m args below meth c H locs cells slots Q (F0 m pc ls rest) := by
  obtain ⟨hx, hb, hr, hml, hown, hlk, hnm, hts, hnw, hK, hA, hAO⟩ := C0
  delta zchk at hc
  dsimp only at hc
  simp only [zD, Bool.and_eq_true, decide_eq_true_eq] at hc
  obtain ⟨⟨⟨hd, hn⟩, h58⟩, h8⟩ := hc
  subst hn h58
  rw [h8] at hown
  exact va_ldcS hx hb (own := "LateOrders$Tokens") hown hST.1 hd k1
theorem z41 (C0 : zCtx A0 aS D cI cD y p s m args meth c) (hST : zST A0 aS aV s s.heap) {a b cp n0 : Nat} {x u v : Int32} {t : List (Int32 × Nat)} (hc : zchk y pc (41, a, b, cp, n0, x, t) = true) (hv : ¬ v = 0) (hS : va_S (fun q => A0 ≤ q) s.heap H locs) (hl : zls A0 aS L ls) (hL : L.length = (zm y).2.2.1) (hfr : 1 ≤ R.frames) (hlo : 60 ≤ R.locals) (hRc : cells ≤ R.cells) (hRs : slots ≤ R.slots) (k1 : W p l e R s m args below meth c H locs cells slots Q (F0 m n0 ls [.int (zfd u v)])) : W p l e R s m args below meth c H locs cells slots Q (F0 m pc ls [.int v, .int u]) := by
  obtain ⟨hx, hb, hr, hml, hown, hlk, hnm, hts, hnw, hK, hA, hAO⟩ := C0
  delta zchk at hc
  dsimp only at hc
  simp only [zD, Bool.and_eq_true, decide_eq_true_eq] at hc
  obtain ⟨⟨hd, hn⟩, hco⟩ := hc
  have hlink := zjk hts hco
  subst hn
  exact zjS (as := [.int u, .int v]) (rest := []) hx hb hml hown hts hST hS (hl.1.trans hL) (zfd_met hv) (by decide +kernel) hlink (by decide +kernel) (by decide +kernel) ⟨by decide, by decide, (by show _ = some 2; decide +kernel)⟩ hd rfl (by decide) (by omega) (by omega) hRc hRs k1
theorem z42 (C0 : zCtx A0 aS D cI cD y p s m args meth c) (hST : zST A0 aS aV s s.heap) {a b cp n0 : Nat} {x u v : Int32} {t : List (Int32 × Nat)} (hc : zchk y pc (42, a, b, cp, n0, x, t) = true) (hv : ¬ v = 0) (hS : va_S (fun q => A0 ≤ q) s.heap H locs) (hl : zls A0 aS L ls) (hL : L.length = (zm y).2.2.1) (hfr : 1 ≤ R.frames) (hlo : 60 ≤ R.locals) (hRc : cells ≤ R.cells) (hRs : slots ≤ R.slots) (k1 : W p l e R s m args below meth c H locs cells slots Q (F0 m n0 ls [.int (zfm u v)])) : W p l e R s m args below meth c H locs cells slots Q (F0 m pc ls [.int v, .int u]) := by
  obtain ⟨hx, hb, hr, hml, hown, hlk, hnm, hts, hnw, hK, hA, hAO⟩ := C0
  delta zchk at hc
  dsimp only at hc
  simp only [zD, Bool.and_eq_true, decide_eq_true_eq] at hc
  obtain ⟨⟨hd, hn⟩, hco⟩ := hc
  have hlink := zjk hts hco
  subst hn
  exact zjS (as := [.int u, .int v]) (rest := []) hx hb hml hown hts hST hS (hl.1.trans hL) (zfm_met hv) (by decide +kernel) hlink (by decide +kernel) (by decide +kernel) ⟨by decide, by decide, (by show _ = some 2; decide +kernel)⟩ hd rfl (by decide) (by omega) (by omega) hRc hRs k1
theorem zcat1 : ∀ S : List Value, S.all zokv = true → ((S.map (ztv A0 aS)).map fun v => v.category).sum = S.length
  | [], _ => rfl
  | v :: S, h => by
    have h2 := (Bool.and_eq_true _ _).mp h
    simp only [List.map_cons, List.sum_cons, List.length_cons, zcat1 S h2.2, zok_cat h2.1]
    omega
/-- a string's methods -/
theorem zstrs (hy : y < 292) (C0 : zCtx A0 aS D cI cD y p s m args meth c) (hST : zST A0 aS aV s s.heap) {i : zI} (hi : i.1 = 39 ∨ i.1 = 40) (hc : zchk y pc i = true) {S' : List Value} (hs : zstr i S = some S')
    (hP : zHP A0 aS D cI cD w H) (hS : va_S (fun q => A0 ≤ q) s.heap H locs) (hl : zls A0 aS L ls) (hL : L.length = (zm y).2.2.1)
    (hfr : 5 ≤ R.frames) (hlo : 220 ≤ R.locals) (hRc : cells ≤ R.cells) (hRs : slots ≤ R.slots)
    (kk : ∀ (H1 : Heap) (locs1 : List Loc), zHP A0 aS D cI cD w H1 → va_S (fun q => A0 ≤ q) s.heap H1 locs1 → W p l e R s m args below meth c H1 locs1 cells slots Q (F0 m i.2.2.2.2.1 ls (S'.map (ztv A0 aS)))) : W p l e R s m args below meth c H locs cells slots Q (F0 m pc ls (S.map (ztv A0 aS))) := by
  obtain ⟨hx, hb, hr, hml, hown, hlk, hnm, hts, hnw, hK, hA, hAO⟩ := C0
  obtain ⟨op, a, b, cp, n0, x, t⟩ := i
  have k1 := kk H locs hP hS
  dsimp only at hi k1
  unfold zstr at hs
  rcases hi with rfl | rfl
  · delta zchk at hc
    dsimp only at hc
    simp only [zD, Bool.and_eq_true, decide_eq_true_eq] at hc
    obtain ⟨⟨hd, hn⟩, hco⟩ := hc
    have hlink := zjk hts hco
    subst hn
    split at hs
    · rename_i S1 _
      split at hs
      · rename_i hh
        cases hs
        have hcat := zcat1 (A0 := A0) (aS := aS) S1 hh.2
        exact zjV (as' := []) (rest := S1.map (ztv A0 aS)) hx hb hml hown hts hST hS (hl.1.trans hL) zlen_met rfl zc_length hlink (by decide +kernel) (by decide +kernel) (by decide +kernel) ⟨by decide, by decide, by decide +kernel⟩ hd rfl (by rw [hcat]; omega) (by omega) (by omega) hRc hRs k1
      · cases hs
    · rename_i h
      simp at h
    · cases hs
  · delta zchk at hc
    dsimp only at hc
    simp only [zD, Bool.and_eq_true, decide_eq_true_eq] at hc
    obtain ⟨⟨hd, hn⟩, hco⟩ := hc
    have hlink := zjk hts hco
    subst hn
    split at hs
    · rename_i h
      simp at h
    · rename_i k0 v0 S1 _
      split at hs
      · rename_i hh
        cases hs
        have hcat := zcat1 (A0 := A0) (aS := aS) S1 hh.2.1
        exact zjV (as' := [.int _]) (rest := S1.map (ztv A0 aS)) hx hb hml hown hts hST hS (hl.1.trans hL) (zchar_met hh.2.2) rfl zc_char hlink (by decide +kernel) (by decide +kernel) (by decide +kernel) ⟨by decide, by decide, (by show _ = some 1; decide +kernel)⟩ hd rfl (by rw [hcat]; omega) (by omega) (by omega) hRc hRs k1
      · cases hs
    · cases hs
end ZOPS
