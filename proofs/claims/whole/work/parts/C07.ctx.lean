/-! WHAT THE START GIVES -/
theorem lw_inst {b : Nat} {s : State} (hts : ∀ w ∈ lw_tbl, w.before #[Value.ref b] s = true) {ci N : Nat} {C : String} {T : u_T} (hc : vwCl[ci]? = some (C, T, N)) : (Jvm.Cond.instantiable C N).before #[Value.ref b] s = true := by
  have h0 := zCIn_ok ci (zcl_lt hc)
  unfold zinchk at h0
  rw [hc] at h0
  simp only [zg, Bool.and_eq_true, decide_eq_true_eq] at h0
  exact hts _ (List.mem_of_getElem? h0.1)
set_option maxRecDepth 100000 in
theorem lw_K {b : Nat} {s : State} (hts : ∀ w ∈ lw_tbl, w.before #[Value.ref b] s = true) : ∃ (D : va_G) (cI cD : ClassId), va_K D vwCl (ztys cI cD) s := by
  obtain ⟨cI, kI, compI, i1, i2, i3⟩ := Cond.arrayClass_spec (hts (Cond.arrayClass .int) (by decide +kernel))
  obtain ⟨comp, cD, kD, d1, d2, d3, d4, d5⟩ := Cond.arrayOver_spec (hts (Cond.arrayOver (.object "LateOrders$Duchy")) (by decide +kernel))
  have hcls : ∀ k : Nat, ∃ x : ClassId × (Nat → Nat), ∀ q, vwCl[k]? = some q → u_Kn s q.1 q.2.1 q.2.2 x.1 x.2 := fun k => by
    cases h : vwCl[k]? with
    | none => exact ⟨(cI, fun _ => 0), fun q hq => by cases hq⟩
    | some q0 =>
      obtain ⟨C, T, N⟩ := q0
      obtain ⟨cC, iS, hk⟩ := u_known (lw_filt hts) (zw_in h) (lw_inst hts h)
      exact ⟨(cC, iS), fun q hq => by cases hq; exact hk⟩
  obtain ⟨f, hf⟩ := Classical.axiomOfChoice hcls
  refine ⟨(fun k => (f k).1, fun k => (f k).2), cI, cD, fun c q hq => hf c q hq, fun k q hk => ?_⟩
  match k, hk with
  | 0, hk =>
    cases hk
    exact ⟨fun n z => ⟨fun k h => (by cases h), kI, i2, compI, i3⟩, i1⟩
  | 1, hk =>
    cases hk
    exact ⟨fun n z => ⟨fun k h => (by cases h), kD, d3, comp, d4⟩, ⟨kD, comp, d3, d4, d1, d5⟩⟩
  | k + 2, hk => cases hk
abbrev lwT : Term := .string "LateOrders$Tokens" 58
abbrev lwV : Term := .field lwT "java/lang/String" "value" "[B"
set_option maxRecDepth 100000 in
theorem lw_el : ∀ j, j < 145 → (Cond.eq (.elem lwV (.int (Int32.ofNat j))) (.int (ztx.getD j 0))) ∈ flatC (Jvm.Cond.and given_1 narrow_1) := by
  have key : (List.range 145).all (fun j => decide ((Cond.eq (.elem lwV (.int (Int32.ofNat j))) (.int (ztx.getD j 0))) ∈ flatC (Jvm.Cond.and given_1 narrow_1))) = true := by decide +kernel
  exact fun j hj => of_decide_eq_true (List.all_eq_true.mp key j (List.mem_range.mpr hj))
theorem ztx_len : ztx.length = 145 := by decide +kernel
set_option maxRecDepth 100000 in
theorem lw_ST {b : Nat} {s : State} (hts : ∀ w ∈ lw_tbl, w.before #[Value.ref b] s = true) (hgv : (Jvm.Cond.and given_1 narrow_1).before #[Value.ref b] s = true) : ∃ aS aV, zST s.heap.size aS aV s s.heap := by
  have hs := flat_of_before _ hgv
  have hA : ∀ a : Nat, a < s.heap.size → ¬ (fun q : Nat => s.heap.size ≤ q) a := fun a h => Nat.not_le.mpr h
  obtain ⟨adK, adV, g1, g2⟩ := vk_Sof (args := #[Value.ref b]) (s := s) (N := 1) (tm := fun _ => lwT) (len := [ztx.length]) (byt := [ztx]) (A := fun q => s.heap.size ≤ q) (fun i hi => by
      have e : i = 0 := by omega
      subst e
      show ztx.length < _
      rw [ztx_len]; decide) (fun i _ => hs _ (by decide +kernel)) (fun i _ => hs _ (by decide +kernel)) (fun i _ => hs _ (by decide +kernel)) (fun i hi => by
      have e : i = 0 := by omega
      subst e
      exact hs _ (by decide +kernel)) (fun i hi j hj => by
      have e : i = 0 := by omega
      subst e
      have hj : j < ztx.length := hj
      rw [ztx_len] at hj
      exact hs _ (lw_el j hj)) (fun i j hi hj hij => by omega) hA
  refine ⟨adK 0, adV 0, vk_R.of (A := #[Value.ref b]) (hts _ (by decide +kernel)) (g2 0 (by decide)), ⟨fun i hi => ?_, fun i j hi hj _ => by omega⟩, va_Zof (hts _ (by decide +kernel)) (hts _ (by decide +kernel)) (va_eqt (hs _ (by decide +kernel))) hA, va_Zqof (hts _ (by decide +kernel)) (hts _ (by decide +kernel)) (hs _ (by decide +kernel)) hA⟩
  have e : i = 0 := by omega
  subst e
  exact g1.1 0 hi
theorem lw_ctx {p : Program} {s : State} {m : MethodId} {meth : Method} {c : Code} {b L : Nat} {xs : Nat → Int32} (C0 : lw_At p s m meth c b L xs) : ∃ (D : va_G) (cI cD : ClassId) (aS aV : Nat), LFx p s m meth c b L xs D cI cD aS aV := by
  obtain ⟨hx, hb, hr, hml, hown, hts, hX, hbl, hlocks, hgv⟩ := id C0
  obtain ⟨D, cI, cD, hK⟩ := lw_K hts
  obtain ⟨aS, aV, hST⟩ := lw_ST hts hgv
  exact ⟨D, cI, cD, aS, aV, C0, hK, va_AO.of (hts (Cond.arrayOver (.object "LateOrders$Duchy")) (by decide +kernel)), hST⟩

