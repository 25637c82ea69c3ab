/-! SOUND: the whole run -/
theorem zret_inv {i : zI} {S : List Value} {rt : Option FieldType} {r : Option Value} (h : zret i S rt = some r) : (i.1 = 28 ∧ S = [] ∧ rt = none ∧ r = none) ∨ (i.1 = 29 ∧ ∃ v, S = [.int v] ∧ r = some (.int v) ∧ (rt = some .int ∨ (rt = some .boolean ∧ (v = 0 ∨ v = 1)))) := by
  unfold zret at h
  split at h
  · rename_i h1
    cases h
    exact Or.inl ⟨h1, rfl, rfl, rfl⟩
  · rename_i v h1
    cases h
    exact Or.inr ⟨h1, v, rfl, rfl, Or.inl rfl⟩
  · rename_i v h1
    split at h
    · rename_i h2
      cases h
      exact Or.inr ⟨h1, v, rfl, rfl, Or.inr ⟨rfl, h2⟩⟩
    · cases h
  · cases h
theorem zcal_inv {i : zI} {S : List Value} {w : zW} {cls ml : Nat} {as rest : List Value} (h : zcal i S w cls ml = some (as, rest)) : as.all zokv = true ∧ as.length ≤ ml := by
  obtain ⟨op, a, b, cp, n0, x, t⟩ := i
  delta zcal at h
  dsimp only at h
  split at h
  · rename_i hcon
    obtain ⟨g1, g2, g3, g4, -⟩ := hcon
    have key : as = (S.take b).reverse := by
      split at h
      · cases h; rfl
      · split at h
        · rename_i he
          split at h
          · split at h
            · cases h; exact he.symm
            · cases h
          · cases h
        · cases h
    subst key
    refine ⟨?_, by rw [List.length_reverse, List.length_take]; omega⟩
    rw [List.all_eq_true]
    intro v hv
    exact List.all_eq_true.mp g4 v (List.mem_of_mem_take (List.mem_reverse.mp hv))
  · cases h
set_option maxHeartbeats 4000000 in
/-- SOUND: a run of the pure machine is a run of the machine -/
theorem zsound (l : Launch) (A0 aS aV : Nat) (D : va_G) (cI cD : ClassId) : ∀ (f d y pc : Nat) (L S : List Value) (w : zW) (r : Option Value) (w' : zW), y < 292 → zrun f d y pc L S w = some (r, w') →
    ∀ (p : Program) (e : Env) (R : Room) (s : State) (m : MethodId) (args : Array Value) (below : List Frame) (meth : Method) (c : Code) (H : Heap) (locs : List Loc) (cells slots : Nat) (ls : Array Slot) (n0 s0 : Nat),
    zCtx A0 aS D cI cD y p s m args meth c → zST A0 aS aV s s.heap → zHP A0 aS D cI cD w H → va_S (fun q => A0 ≤ q) s.heap H locs → zls A0 aS L ls → L.length = (zm y).2.2.1 → d + 1 ≤ R.frames → 40 * d + 60 ≤ R.locals → cells + n0 = w.length → slots + s0 = zsl w → w'.length ≤ R.cells + n0 → zsl w' ≤ R.slots + s0 →
    W p l e R s m args below meth c H locs cells slots (MQ below (zQc A0 aS D cI cD r w') args s (w'.length - n0) (zsl w' - s0) (fun q => A0 ≤ q)) (F0 m pc ls (S.map (ztv A0 aS))) := by
  intro f
  induction f with
  | zero => intro d y pc L S w r w' _ h; cases h
  | succ f ih =>
    intro d y pc L S w r w' hy h p e R s m args below meth c H locs cells slots ls n0 s0 C0 hST hP hS hl hL hfr hlo hcn hsn hRc hRs
    rw [zrun] at h
    split at h
    · cases h
    · rename_i i hi
      have hchk := zdec hy hi
      split at h
      · cases h
      · rename_i hS12
        split at h
        · rename_i hop
          split at h
          · rename_i r0 hr0
            cases h
            obtain ⟨hx, hb, hrt, hml, hown, hlk, hnm, hts, hnw, hK, hA, hAO⟩ := C0
            have e1 : w.length - n0 = cells := by omega
            have e2 : zsl w - s0 = slots := by omega
            rw [e1, e2]
            obtain ⟨op, a, b, cp, n1, x, t⟩ := i
            rcases zret_inv hr0 with ⟨ho, rfl, hrn, rfl⟩ | ⟨ho, v, rfl, rfl, hrn⟩
            · dsimp only at ho
              subst ho
              delta zchk at hchk
              dsimp only at hchk
              simp only [zD, Bool.and_eq_true, decide_eq_true_eq] at hchk
              exact W.vret hx hb (by rw [hrt]; exact hrn) (fun t ht hW => ⟨rfl, by rw [ht]; exact hP, hS.F ht⟩) hS.2.2 hchk.1 hlk
            · dsimp only at ho
              subst ho
              delta zchk at hchk
              dsimp only at hchk
              simp only [zD, Bool.and_eq_true, decide_eq_true_eq] at hchk
              rcases hrn with hrn | ⟨hrn, hv⟩
              · exact W.iret hx hb (by rw [hrt]; exact hrn) (fun t ht hW => ⟨rfl, by rw [ht]; exact hP, hS.F ht⟩) hS.2.2 hchk.1 hlk
              · exact W.zret (ty := .boolean) hx hb (by rw [hrt]; exact hrn) (by rcases hv with rfl | rfl <;> rfl) (fun t ht hW => ⟨rfl, by rw [ht]; exact hP, hS.F ht⟩) hS.2.2 hchk.1 hlk
          · cases h
        · split at h
          · rename_i hop
            split at h
            · cases h
            · rename_i d'
              split at h
              · cases h
              · rename_i as rest hcal
                split at h
                · cases h
                · rename_i r1 w1 h1
                  have m1 := zrun_mono _ _ _ _ _ _ _ _ _ h1
                  have m2 := zrun_mono _ _ _ _ _ _ _ _ _ h
                  have ha : i.2.1 < 292 := by
                    obtain ⟨op, a, b, cp, n1, x, t⟩ := i
                    dsimp only at hop ⊢
                    rcases hop with rfl | rfl | rfl <;>
                    · delta zchk at hchk
                      dsimp only at hchk
                      simp only [zD, Bool.and_eq_true, decide_eq_true_eq] at hchk
                      exact hchk.1.1.1.2
                  obtain ⟨hok, hlen⟩ := zcal_inv hcal
                  have hM : Met l (zm i.2.1).1 (zWs i.2.1) (zRm d' (w1.length - w.length) (zsl w1 - zsl w)) (va_Pc (as.map (ztv A0 aS)) (zPw A0 aS aV D cI cD w)) (zQc A0 aS D cI cD r1 w1) (w1.length - w.length) (zsl w1 - zsl w) (fun q => A0 ≤ q) := by
                    refine Met.ofW (cc := (zm i.2.1).2.1) (maxL := (zm i.2.1).2.2.1) (ret := (zm i.2.1).2.2.2.1) (zm_facts i.2.1 ha C0.2.2.2.2.2.2.2.1).2.1 rfl ?_
                    intro p e s m args below meth c s₁ B hml hv
                    obtain ⟨rfl, hP', hK', hnw', hAO', hST'⟩ := hv
                    have hts0 := atoms_spec (ws := zWs i.2.1) B.pre
                    have hown : s.vm.findClass (zm i.2.1).1.cls = some m.cls := findClass_of_methodNamed B.named
                    have hin : meth.name = (zm i.2.1).1.name := (name_of_methodNamed B.named B.method).1
                    have hts' : ∀ w ∈ lw_tbl, goodWord w = true → w.before (as.map (ztv A0 aS)).toArray s = true := fun w hw hg => hts0 w (List.mem_cons_of_mem _ (List.mem_filter.mpr ⟨hw, hg⟩))
                    have hcl := (zm_facts i.2.1 ha hts').2.2.1
                    rw [hcl] at hown
                    rw [lg_entry_eq]
                    have hA0 : A0 ≤ s.heap.size := by rw [hP'.1]; exact Nat.le_add_right _ _
                    refine ih d' i.2.1 0 _ [] w r1 w1 ha h1 p e _ s m _ below meth c s.heap [] 0 0 _ w.length (zsl w) ⟨B.exec, B.bytes, B.returns, hml, hown, B.notSynchronized, hin, hts', hnw', hK', hA0, hAO'⟩ hST' hP' va_S.rf (zls_entry hok hlen) (by rw [List.length_append, List.length_replicate]; omega) (Nat.le_refl _) (Nat.le_refl _) (Nat.zero_add _) (Nat.zero_add _) ?_ ?_
                    · show w1.length ≤ (w1.length - w.length) + w.length
                      omega
                    · show zsl w1 ≤ (zsl w1 - zsl w) + zsl w
                      omega
                  refine zcall hy C0 hST hop hchk hcal hM hP hS hl hL (by omega) (by omega) (by omega) (by omega) (fun H1 locs1 g1 g2 => ?_)
                  have h3 := ih (d' + 1) y i.2.2.2.2.1 L (r1.toList ++ rest) w1 r w' hy h p e R s m args below meth c H1 locs1 (cells + (w1.length - w.length)) (slots + (zsl w1 - zsl w)) ls n0 s0 C0 hST g1 g2 hl hL hfr hlo (by omega) (by omega) hRc hRs
                  rw [List.map_append] at h3
                  have e3 : r1.toList.map (ztv A0 aS) = (r1.map (ztv A0 aS)).toList := by cases r1 <;> rfl
                  rw [e3] at h3
                  exact h3
          · split at h
            · rename_i hop
              split at h
              · rename_i hd4
                split at h
                · rename_i S1 hs1
                  have m2 := zrun_mono _ _ _ _ _ _ _ _ _ h
                  refine zstrs hy C0 hST hop hchk hs1 hP hS hl hL (by omega) (by omega) (by omega) (by omega) (fun H1 locs1 g1 g2 => ?_)
                  exact ih d y i.2.2.2.2.1 L S1 w r w' hy h p e R s m args below meth c H1 locs1 cells slots ls n0 s0 C0 hST g1 g2 hl hL hfr hlo hcn hsn hRc hRs
                · cases h
              · cases h
            · split at h
              · cases h
              · rename_i n1 L1 S1 w1 hs1
                have m1 := zstp_mono hs1
                have m2 := zrun_mono _ _ _ _ _ _ _ _ _ h
                refine zstep C0 hST hchk hs1 hP hS hl hL (by omega) (by omega) (by omega) (by omega) (by omega) (fun _ => trivial) (fun H1 locs1 ls1 g1 g2 g3 => ?_)
                exact ih d y n1 L1 S1 w1 r w' hy h p e R s m args below meth c H1 locs1 _ _ ls1 n0 s0 C0 hST g1 g2 g3 (by rw [m1.1]; exact hL) hfr hlo (by omega) (by omega) hRc hRs
