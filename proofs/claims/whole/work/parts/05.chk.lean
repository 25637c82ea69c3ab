/-! CHECKS: what the code lists say is what the bytes decode to and what the tables link. -/
noncomputable def zg (ix : Nat) (w : Jvm.Cond) : Bool := decide (lw_tbl[ix]? = some w) && goodWord w
noncomputable def zfchk (q : Nat × Nat × Bool × Nat × Nat × Nat) : Bool := match q with
  | (o, c, nest, ci, k, ix) => match vwCl[ci]? with
    | some (C, T, N) => decide (k < N) && decide ((T k).1 = C) && (if nest then decide (lw_tbl[ix]? = some (.fieldLinkNest (zN o) c C (T k).2.1 (T k).2.2.1 "LateOrders")) else zg ix (.fieldLink (zN o) c C (T k).2.1 (T k).2.2.1))
    | none => false
noncomputable def zlchk (q : Nat × Nat × Bool × Nat × Nat) : Bool := match q with
  | (o, c, nest, y, ix) => if nest then decide (lw_tbl[ix]? = some (.methodLinkNest (zN o) c (zm y).1 "LateOrders")) else zg ix (.methodLink (zN o) c (zm y).1)
noncomputable def zmchk (q : zMT) : Bool := match q with
  | (nm, bt, ml, rt, cls, kind, na, ic, ii, iin, ise) =>
  (if kind = 1 then zg ii (.static nm) else zg ii (.instanceMethod nm)) && zg iin (.initialized nm.cls) && (if kind = 0 then zg ise (.selects nm.cls nm nm) else true)
  && (if kind = 2 then decide (nm.name = "<init>") && decide (rt = none) else true) && decide (nm.cls = zN cls) && decide (nm.cls ≠ "java/lang/invoke/MethodHandle" ∧ nm.cls ≠ "java/lang/invoke/VarHandle")
  && decide ((parseMethodDescriptor nm.desc).map (fun d => d.parameters.length) = some (if kind = 1 then na else na - 1)) && plainName nm.cls && decide (ml ≤ 21) && (if kind = 1 then true else decide ((vwCl[cls]?).map (fun r => r.1) = some nm.cls) && decide (1 ≤ na))
noncomputable def zcochk (q : Nat × Nat × Int32 × Nat) : Bool := zg q.2.2.2 (.constant (zN q.1) q.2.1 q.2.2.1)
noncomputable def zclchk (q : Nat × Nat × Nat × Nat × Nat) : Bool := match q with
  | (o, c, ci, ix, iin) => match vwCl[ci]? with
    | some (C, _, _) => zg ix (.classLink (zN o) c C) && zg iin (.initialized C)
    | none => false
noncomputable def zinchk (ci : Nat) : Bool := match vwCl[ci]? with
  | some (C, _, N) => zg (zCIn.getD ci 0) (.instantiable C N)
  | none => false
def zjn (op : Nat) : MethodName := match op with
  | 33 => Lib.objectInit
  | 34 => Lib.Math.max.name
  | 35 => Lib.Math.min.name
  | 36 => Lib.Math.abs.name
  | 37 => arraycopyName
  | 41 => yJ9_floorDiv_7cf53
  | 42 => yJ9_floorMod_7cf53
  | 39 => yJ0_length_8abf5
  | _ => yJ0_charAt_5068e
noncomputable def zjchk (q : Nat × Nat × Nat × Nat) : Bool := zg q.2.2.2 (.methodLink (zN q.1) q.2.1 (zjn q.2.2.1))
theorem zFL_ok : ∀ q ∈ zFL, zfchk q = true := by decide +kernel
theorem zCO_ok : ∀ q ∈ zCO, zcochk q = true := by decide +kernel
theorem zCLk_ok : ∀ q ∈ zCLk, zclchk q = true := by decide +kernel
theorem zCIn_ok : ∀ ci, ci < 13 → zinchk ci = true := by decide +kernel
theorem zJK_ok : ∀ q ∈ zJK, zjchk q = true := by decide +kernel
