/-! CHECKS of each instruction against the bytes -/
def zF (a : Nat) : Fin 4 := ⟨a % 4, Nat.mod_lt _ (by decide)⟩
noncomputable def zD (y pc : Nat) (j : Instr) (len n : Nat) : Bool := decide (decode (zm y).2.1 pc = .ok (j, len)) && decide (n = pc + len)
def zbI (a : Nat) : Instr := match a with
  | 0 => .iadd
  | 1 => .isub
  | 2 => .imul
  | 3 => .iand
  | 4 => .ior
  | 5 => .ixor
  | 6 => .ishl
  | 7 => .ishr
  | _ => .iushr
def zcd (a : Nat) : Jvm.ClassFile.Cond := match a with
  | 0 => .eq
  | 1 => .ne
  | 2 => .lt
  | 3 => .ge
  | 4 => .gt
  | _ => .le
def ztc : Int → List (Int32 × Nat) → Bool
  | _, [] => true
  | k, q :: t => decide (q.1.toInt = k) && ztc (k + 1) t
noncomputable def zchk (y pc : Nat) (i : zI) : Bool :=
  match i with
  | (op, a, b, c, n, x, t) =>
  match op with
  | 0 => zD y pc (.iconst x.toInt) 1 n || (zD y pc (.bipush x.toInt) 2 n && decide ((Int8.ofInt x.toInt).toInt32 = x)) || (zD y pc (.sipush x.toInt) 3 n && decide ((Int16.ofInt x.toInt).toInt32 = x)) || ((zD y pc (.ldc c) 2 n || zD y pc (.ldc_w c) 3 n) && zCO.any (fun q => decide (q.1 = (zm y).2.2.2.2.1) && decide (q.2.1 = c) && decide (q.2.2.1 = x)))
  | 1 => zD y pc (.iload a) 2 n || (decide (a < 4) && zD y pc (.iload_n (zF a)) 1 n)
  | 2 => zD y pc (.aload a) 2 n || (decide (a < 4) && zD y pc (.aload_n (zF a)) 1 n)
  | 3 => zD y pc (.istore a) 2 n || (decide (a < 4) && zD y pc (.istore_n (zF a)) 1 n)
  | 4 => zD y pc (.astore a) 2 n || (decide (a < 4) && zD y pc (.astore_n (zF a)) 1 n)
  | 5 => zD y pc (.iinc a x.toInt) 3 n
  | 6 => zD y pc (zbI a) 1 n
  | 7 => zD y pc (if a = 0 then .idiv else .irem) 1 n
  | 8 => zD y pc .ineg 1 n
  | 9 => zD y pc .dup 1 n
  | 10 => zD y pc .dup2 1 n
  | 11 => zD y pc .pop 1 n
  | 12 => zD y pc (.getfield c) 3 n && zFL.any (fun q => decide (q.1 = (zm y).2.2.2.2.1) && decide (q.2.1 = c) && decide (q.2.2.2.1 = a) && decide (q.2.2.2.2.1 = b))
  | 13 => zD y pc (.putfield c) 3 n && zFL.any (fun q => decide (q.1 = (zm y).2.2.2.2.1) && decide (q.2.1 = c) && decide (q.2.2.2.1 = a) && decide (q.2.2.2.2.1 = b) && (match vwCl[a]? with
      | some (_, T, _) => decide ((T b).2.2.2 = false) || (decide (q.2.2.1 = false) && decide ((zm y).1.name = "<init>") && decide ((T b).1 = zN (zm y).2.2.2.2.1))
      | none => false))
  | 14 => zD y pc .iaload 1 n
  | 15 => zD y pc .iastore 1 n
  | 16 => zD y pc .arraylength 1 n
  | 17 => zD y pc .aaload 1 n
  | 18 => zD y pc .aastore 1 n
  | 19 => zD y pc (.newarray .int) 2 n
  | 20 => zD y pc (.anewarray c) 3 n && zCLk.any (fun q => decide (q.1 = (zm y).2.2.2.2.1) && decide (q.2.1 = c) && decide (q.2.2.1 = 1))
  | 21 => zD y pc (.new c) 3 n && decide (a < 13) && (match vwCl[a]? with
      | some (_, _, N) => decide (N = b)
      | none => false) && zCLk.any (fun q => decide (q.1 = (zm y).2.2.2.2.1) && decide (q.2.1 = c) && decide (q.2.2.1 = a))
  | 22 => zD y pc (.ifCond (zcd a) ((b : Int) - (pc : Int))) 3 n
  | 23 => zD y pc (.if_icmp (zcd a) ((b : Int) - (pc : Int))) 3 n
  | 24 => zD y pc (.goto ((b : Int) - (pc : Int))) 3 n
  | 25 => zD y pc (.ifnull ((b : Int) - (pc : Int))) 3 n
  | 26 => zD y pc (.ifnonnull ((b : Int) - (pc : Int))) 3 n
  | 27 => if a = 1 then zD y pc (.lookupswitch ((b : Int) - (pc : Int)) (t.map fun q => (q.1.toInt, (q.2 : Int) - (pc : Int))).toArray) (n - pc) n && (((t.map fun q => (q.1.toInt, (q.2 : Int) - (pc : Int))).zip ((t.map fun q => (q.1.toInt, (q.2 : Int) - (pc : Int))).drop 1)).all (fun (q, next) => q.1 < next.1))
      else zD y pc (.tableswitch ((b : Int) - (pc : Int)) (t.headD (0, 0)).1.toInt ((t.headD (0, 0)).1.toInt + (t.length : Int) - 1) (t.map fun q => (q.2 : Int) - (pc : Int)).toArray) (n - pc) n && ztc (t.headD (0, 0)).1.toInt t
  | 28 => zD y pc .return_ 1 n
  | 29 => zD y pc .ireturn 1 n
  | 30 => zD y pc (.invokevirtual c) 3 n && decide (a < 292) && decide ((zm a).2.2.2.2.2.1 = 0) && decide ((zm a).2.2.2.2.2.2.1 = b) && zML.any (fun q => decide (q.1 = (zm y).2.2.2.2.1) && decide (q.2.1 = c) && decide (q.2.2.2.1 = a))
  | 31 => zD y pc (.invokestatic c) 3 n && decide (a < 292) && decide ((zm a).2.2.2.2.2.1 = 1) && decide ((zm a).2.2.2.2.2.2.1 = b) && zML.any (fun q => decide (q.1 = (zm y).2.2.2.2.1) && decide (q.2.1 = c) && decide (q.2.2.2.1 = a))
  | 32 => zD y pc (.invokespecial c) 3 n && decide (a < 292) && decide ((zm a).2.2.2.2.2.1 = 2) && decide ((zm a).2.2.2.2.2.2.1 = b) && zML.any (fun q => decide (q.1 = (zm y).2.2.2.2.1) && decide (q.2.1 = c) && decide (q.2.2.2.1 = a))
  | 33 => zD y pc (.invokespecial c) 3 n && zJK.any (fun q => decide (q.1 = (zm y).2.2.2.2.1) && decide (q.2.1 = c) && decide (q.2.2.1 = 33))
  | 38 => zD y pc (.ldc c) 2 n && decide (c = 58) && decide ((zm y).2.2.2.2.1 = 8)
  | 39 => zD y pc (.invokevirtual c) 3 n && zJK.any (fun q => decide (q.1 = (zm y).2.2.2.2.1) && decide (q.2.1 = c) && decide (q.2.2.1 = 39))
  | 40 => zD y pc (.invokevirtual c) 3 n && zJK.any (fun q => decide (q.1 = (zm y).2.2.2.2.1) && decide (q.2.1 = c) && decide (q.2.2.1 = 40))
  | op => zD y pc (.invokestatic c) 3 n && zJK.any (fun q => decide (q.1 = (zm y).2.2.2.2.1) && decide (q.2.1 = c) && decide (q.2.2.1 = op))
