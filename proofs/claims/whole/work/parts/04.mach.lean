/-! THE PURE MACHINE: cells are numbered in the order in which they were made (a cell's address is A0 and its number); one function runs methods over a list of cells. -/
abbrev zC : Type := (List Int32) ⊕ ((List (Option Nat)) ⊕ (Nat × List Value))
abbrev zW : Type := List zC
def zfnd : List (Nat × zI) → Nat → Option zI
  | [], _ => none
  | (k, i) :: l, pc => if k = pc then some i else zfnd l pc
noncomputable def zcode (y pc : Nat) : Option zI := zfnd (zc y) pc
abbrev zun : Value := .retAddr 0
def zbin (a : Nat) (x y : Int32) : Int32 := match a with
  | 0 => x + y
  | 1 => x - y
  | 2 => x * y
  | 3 => x &&& y
  | 4 => x ||| y
  | 5 => x ^^^ y
  | 6 => x <<< (y &&& 31)
  | 7 => x >>> (y &&& 31)
  | _ => (x.toUInt32 >>> (y &&& 31).toUInt32).toInt32
def zcmp (a : Nat) (x y : Int32) : Bool := match a with
  | 0 => decide (x = y)
  | 1 => decide (¬ x = y)
  | 2 => decide (x < y)
  | 3 => decide (y ≤ x)
  | 4 => decide (y < x)
  | _ => decide (x ≤ y)
def zsw : List (Int32 × Nat) → Nat → Int32 → Nat
  | [], b, _ => b
  | (k, t) :: l, b, x => if x = k then t else zsw l b x
/-- what a field of a kind takes: 0 an int, 1 a boolean, 2 a reference -/
def zfit (ty : FieldType) (v : Value) : Bool := match ty, v with
  | .int, .int _ => true
  | .boolean, .int x => decide (x = 0) || decide (x = 1)
  | .object _, .ref _ => true
  | .array _, .ref _ => true
  | _, _ => false
def zty (ci k : Nat) : FieldType := match ci with
  | 0 => tyX0 k
  | 1 => tyX1 k
  | 2 => tyX2 k
  | 3 => tyX3 k
  | 4 => tyX4 k
  | 5 => tyX5 k
  | 6 => tyX6 k
  | 7 => tyX7 k
  | 8 => tyX8 k
  | 9 => tyX9 k
  | 10 => tyX10 k
  | 11 => tyX11 k
  | _ => tyX12 k
def zdv (ty : FieldType) : Value := match ty with
  | .int => .int 0
  | .boolean => .int 0
  | _ => .null
def zcpy (f g : List Int32) (sp dp n : Nat) : List Int32 := (List.range g.length).map fun k => if dp ≤ k ∧ k < dp + n then f.getD (sp + (k - dp)) 0 else g.getD k 0
def zin (i : Int32) (n : Nat) : Bool := decide (0 ≤ i) && decide (i.toNatClampNeg < n)
/-- Math.floorDiv, Math.floorMod -/
def zfd (u v : Int32) : Int32 := if 0 ≤ u ^^^ v then u / v else if u / v * v = u then u / v else u / v - 1
def zfm (u v : Int32) : Int32 := if 0 ≤ (u % v) ^^^ v then u % v else if u % v = 0 then u % v else u % v + v
/-- one instruction that isn't a call or a return -/
def zstp (i : zI) (L S : List Value) (w : zW) : Option (Nat × List Value × List Value × zW) :=
  match i with
  | (op, a, b, _, n, x, t) =>
  match op with
  | 0 => some (n, L, .int x :: S, w)
  | 1 => match L[a]? with
    | some (.int v) => some (n, L, .int v :: S, w)
    | _ => none
  | 2 => match L[a]? with
    | some (.ref v) => some (n, L, .ref v :: S, w)
    | _ => none
  | 3 => match S with
    | .int v :: S => if a < L.length then some (n, L.set a (.int v), S, w) else none
    | _ => none
  | 4 => match S with
    | .ref v :: S => if a < L.length then some (n, L.set a (.ref v), S, w) else none
    | _ => none
  | 5 => match L[a]? with
    | some (.int v) => some (n, L.set a (.int (v + x)), S, w)
    | _ => none
  | 6 => match S with
    | .int v :: .int u :: S => some (n, L, .int (zbin a u v) :: S, w)
    | _ => none
  | 7 => match S with
    | .int v :: .int u :: S => if v = 0 then none else some (n, L, .int (if a = 0 then u / v else u % v) :: S, w)
    | _ => none
  | 8 => match S with
    | .int v :: S => some (n, L, .int (-v) :: S, w)
    | _ => none
  | 9 => match S with
    | .int v :: S => some (n, L, .int v :: .int v :: S, w)
    | .ref v :: S => some (n, L, .ref v :: .ref v :: S, w)
    | _ => none
  | 10 => match S with
    | .int v :: .ref u :: S => some (n, L, .int v :: .ref u :: .int v :: .ref u :: S, w)
    | _ => none
  | 11 => match S with
    | .int _ :: S => some (n, L, S, w)
    | .ref _ :: S => some (n, L, S, w)
    | _ => none
  | 12 => match S with
    | .ref r :: S => match w[r]? with
      | some (.inr (.inr (ci, fs))) => if ci = a then match fs[b]? with
        | some (.int v) => some (n, L, .int v :: S, w)
        | some (.ref v) => some (n, L, .ref v :: S, w)
        | _ => none else none
      | _ => none
    | _ => none
  | 13 => match S with
    | v :: .ref r :: S => match w[r]? with
      | some (.inr (.inr (ci, fs))) => if ci = a ∧ b < fs.length ∧ zfit (zty a b) v = true then some (n, L, S, w.set r (.inr (.inr (ci, fs.set b v)))) else none
      | _ => none
    | _ => none
  | 14 => match S with
    | .int j :: .ref r :: S => match w[r]? with
      | some (.inl l) => if zin j l.length then some (n, L, .int (l.getD j.toNatClampNeg 0) :: S, w) else none
      | _ => none
    | _ => none
  | 15 => match S with
    | .int v :: .int j :: .ref r :: S => match w[r]? with
      | some (.inl l) => if zin j l.length then some (n, L, S, w.set r (.inl (l.set j.toNatClampNeg v))) else none
      | _ => none
    | _ => none
  | 16 => match S with
    | .ref r :: S => match w[r]? with
      | some (.inl l) => some (n, L, .int (Int32.ofNat l.length) :: S, w)
      | _ => none
    | _ => none
  | 17 => match S with
    | .int j :: .ref r :: S => match w[r]? with
      | some (.inr (.inl l)) => if zin j l.length then match l.getD j.toNatClampNeg none with
        | some v => some (n, L, .ref v :: S, w)
        | none => none else none
      | _ => none
    | _ => none
  | 18 => match S with
    | .ref v :: .int j :: .ref r :: S => match w[r]?, w[v]? with
      | some (.inr (.inl l)), some (.inr (.inr (1, _))) => if zin j l.length then some (n, L, S, w.set r (.inr (.inl (l.set j.toNatClampNeg (some v))))) else none
      | _, _ => none
    | _ => none
  | 19 => match S with
    | .int k :: S => if 0 ≤ k ∧ k.toNatClampNeg ≤ 100000 then some (n, L, .ref w.length :: S, w ++ [.inl (List.replicate k.toNatClampNeg 0)]) else none
    | _ => none
  | 20 => match S with
    | .int k :: S => if 0 ≤ k ∧ k.toNatClampNeg ≤ 100000 then some (n, L, .ref w.length :: S, w ++ [.inr (.inl (List.replicate k.toNatClampNeg none))]) else none
    | _ => none
  | 21 => some (n, L, .ref w.length :: S, w ++ [.inr (.inr (a, (List.range b).map fun k => zdv (zty a k)))])
  | 22 => match S with
    | .int v :: S => some (if zcmp a v 0 then b else n, L, S, w)
    | _ => none
  | 23 => match S with
    | .int v :: .int u :: S => some (if zcmp a u v then b else n, L, S, w)
    | _ => none
  | 24 => some (b, L, S, w)
  | 25 => match S with
    | .ref _ :: S => some (n, L, S, w)
    | _ => none
  | 26 => match S with
    | .ref _ :: S => some (b, L, S, w)
    | _ => none
  | 27 => match S with
    | .int v :: S => some (zsw t b v, L, S, w)
    | _ => none
  | 33 => match S with
    | .ref _ :: S => some (n, L, S, w)
    | _ => none
  | 34 => match S with
    | .int v :: .int u :: S => some (n, L, .int (if u < v then v else u) :: S, w)
    | _ => none
  | 35 => match S with
    | .int v :: .int u :: S => some (n, L, .int (if u < v then u else v) :: S, w)
    | _ => none
  | 36 => match S with
    | .int v :: S => some (n, L, .int (if v < 0 then -v else v) :: S, w)
    | _ => none
  | 37 => match S with
    | .int k :: .int dp :: .ref r1 :: .int sp :: .ref r0 :: S => match w[r0]?, w[r1]? with
      | some (.inl f), some (.inl g) => if 0 ≤ sp ∧ 0 ≤ dp ∧ 0 ≤ k ∧ sp.toNatClampNeg + k.toNatClampNeg ≤ f.length ∧ dp.toNatClampNeg + k.toNatClampNeg ≤ g.length then some (n, L, S, w.set r1 (.inl (zcpy f g sp.toNatClampNeg dp.toNatClampNeg k.toNatClampNeg))) else none
      | _, _ => none
    | _ => none
  | 38 => some (n, L, .long 0 :: S, w)
  | 41 => match S with
    | [.int v, .int u] => if v = 0 then none else some (n, L, [.int (zfd u v)], w)
    | _ => none
  | 42 => match S with
    | [.int v, .int u] => if v = 0 then none else some (n, L, [.int (zfm u v)], w)
    | _ => none
  | _ => none
/-- the keywords' text (a String constant), sign by sign -/
noncomputable def ztx : List Int32 := [111,98,101,121,115,32,116,105,114,101,115,32,103,114,111,119,115,32,122,101,97,108,32,116,105,114,101,100,32,119,104,97,116,32,102,105,114,101,32,119,97,108,108,32,104,105,103,104,32,115,101,97,32,99,114,111,119,100,32,100,111,110,101,32,100,97,121,32,119,104,101,110,32,111,114,32,97,110,100,32,110,111,116,32,111,110,32,111,114,100,101,114,32,109,97,114,99,104,32,114,101,115,116,32,98,117,105,108,100,32,113,117,101,110,99,104,32,115,116,97,110,100,32,115,116,111,112,32,100,97,105,108,121,32,112,108,97,99,101,32,114,111,97,100,32]
def zokv (v : Value) : Bool := match v with
  | .int _ => true
  | .ref _ => true
  | _ => false
/-- a call's arguments and what stays on the stack -/
def zcal (i : zI) (S : List Value) (w : zW) (cls ml : Nat) : Option (List Value × List Value) :=
  match i with
  | (op, _, b, _, _, _, _) =>
  if b ≤ S.length ∧ b ≤ ml ∧ (S.drop b).length ≤ 8 ∧ S.all zokv = true ∧ (op = 30 ∨ op = 31 ∨ op = 32) then
    if op = 31 then some ((S.take b).reverse, S.drop b)
    else match (S.take b).reverse with
      | .ref r :: as => match w[r]? with
        | some (.inr (.inr (ci, _))) => if ci = cls then some (.ref r :: as, S.drop b) else none
        | _ => none
      | _ => none
  else none
def zret (i : zI) (S : List Value) (rt : Option FieldType) : Option (Option Value) :=
  match i.1, S, rt with
  | 28, [], none => some none
  | 29, [.int v], some .int => some (some (.int v))
  | 29, [.int v], some .boolean => if v = 0 ∨ v = 1 then some (some (.int v)) else none
  | _, _, _ => none
/-- what a string's methods answer -/
noncomputable def zstr (i : zI) (S : List Value) : Option (List Value) :=
  match i.1, S with
  | 39, .long _ :: S => if S.length ≤ 6 ∧ S.all zokv = true then some (.int (Int32.ofNat ztx.length) :: S) else none
  | 40, .int k :: .long _ :: S => if S.length ≤ 6 ∧ S.all zokv = true ∧ zin k ztx.length = true then some (.int (ztx.getD k.toNatClampNeg 0) :: S) else none
  | _, _ => none
/-- runs method y from pc: d more calls deep at most -/
noncomputable def zex : Nat → Nat → Nat → Nat → List Value → List Value → zW → Option (Option Value × zW)
  | 0, _, _, _, _, _, _ => none
  | f + 1, d, y, pc, L, S, w =>
    match zcode y pc with
    | none => none
    | some i =>
      if i.1 = 28 ∨ i.1 = 29 then match zret i S (zm y).2.2.2.1 with
        | some r => some (r, w)
        | none => none
      else if i.1 = 30 ∨ i.1 = 31 ∨ i.1 = 32 then match d with
        | 0 => none
        | d' + 1 => match zcal i S w (zm i.2.1).2.2.2.2.1 (zm i.2.1).2.2.1 with
          | none => none
          | some (as, rest) => match zex f d' i.2.1 0 (as ++ List.replicate ((zm i.2.1).2.2.1 - as.length) zun) [] w with
            | none => none
            | some (r, w') => zex f (d' + 1) y i.2.2.2.2.1 L (r.toList ++ rest) w'
      else if i.1 = 39 ∨ i.1 = 40 then (if 4 ≤ d then match zstr i S with
          | some S' => zex f d y i.2.2.2.2.1 L S' w
          | none => none
        else none)
      else match zstp i L S w with
        | none => none
        | some (n, L', S', w') => zex f d y n L' S' w'
