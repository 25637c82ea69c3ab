/-! TEXT, both: what a good law's codes are -/
def pgC (c : Nat) : Prop := zen (zdo c) (zda c) = c
def pgL (cs : List Nat) : Prop := ∀ c, c ∈ cs → pgC c
theorem pgL_a {a b : List Nat} (h1 : pgL a) (h2 : pgL b) : pgL (a ++ b) := fun c hc => (List.mem_append.mp hc).elim (h1 c) (h2 c)
theorem pgL_1 {c : Nat} (h : pgC c) : pgL [c] := fun x hx => by rw [List.mem_singleton.mp hx]; exact h
theorem pgC_u {c : Nat} (h : pun c = true) : pgC c := by
  have h := of_decide_eq_true h
  unfold pgC zdo zda
  rcases h with h | h
  · rw [if_pos h, if_pos h]; rfl
  · rw [if_neg (by omega), if_neg (by omega), if_neg (by omega), if_neg (by omega), if_pos (by omega), if_neg (by omega), if_pos h]
    show 10003 + (c - 10003) = c
    omega
theorem pam_v {K : Nat → Nat} : ∀ (f : Nat) (w : Option Nat) (j : Nat) (cs : List Nat) (i : Nat) (ds : List Nat), (∀ a, w = some a → pgC a) → pgL cs → pam K f w j cs = some (.inr (i, ds)) → pgL ds
  | 0, w, j, cs, i, ds, hw, hc, h => by cases h
  | f + 1, w, j, cs, i, ds, hw, hc, h => by
    have h : (if K j = 20042 then (if pun (K (j + 1)) = true then pam K f w (j + 2) (cs ++ [K (j + 1)] ++ [20042]) else some (.inl (1, j + 1))) else if K j = 20047 then (if 10000 ≤ K (j + 1) then some (.inl (1, j + 1)) else if K (j + 1) = 0 then some (.inl (2, j + 1)) else pam K f w (j + 2) (cs ++ [K (j + 1)] ++ [20047])) else if K j = 20043 ∨ K j = 20045 then (if pun (K (j + 1)) = true then pam K f (some (K j)) (j + 2) (cs ++ w.toList ++ [K (j + 1)]) else some (.inl (1, j + 1))) else some (.inr (j, cs ++ w.toList))) = some (.inr (i, ds)) := h
    have hwl : pgL w.toList := by
      cases w with
      | none => exact fun c hc => absurd hc (by simp)
      | some a => exact pgL_1 (hw a rfl)
    split at h
    · split at h
      · rename_i g
        exact pam_v f w _ _ i ds hw (pgL_a (pgL_a hc (pgL_1 (pgC_u g))) (pgL_1 (c := 20042) rfl)) h
      · cases h
    · split at h
      · split at h
        · cases h
        · split at h
          · cases h
          · rename_i g g2
            exact pam_v f w _ _ i ds hw (pgL_a (pgL_a hc (pgL_1 (pgC_u (decide_eq_true (Or.inl (by omega)))))) (pgL_1 (c := 20047) rfl)) h
      · split at h
        · rename_i c3
          split at h
          · rename_i g
            exact pam_v f (some (K j)) _ _ i ds (fun a z => by rw [← Option.some.inj z]; rcases c3 with c | c <;> (rw [c]; rfl)) (pgL_a (pgL_a hc hwl) (pgL_1 (pgC_u g))) h
          · cases h
        · have e := Option.some.inj h
          injection e with e
          injection e with e1 e2
          rw [← e2]
          exact pgL_a hc hwl
theorem pe_v {K : Nat → Nat} {f j i : Nat} {cs ds : List Nat} (hc : pgL cs) (h : pe K f j cs = some (.inr (i, ds))) : pgL ds := by
  unfold pe at h
  split at h
  · rename_i g
    exact pam_v f none (j + 1) _ i ds (fun a z => by cases z) (pgL_a hc (pgL_1 (pgC_u g))) h
  · cases h
theorem ppo_v {x : Nat} (hx : pgC x) : ∀ (p cs : List Nat), pgL cs → pgL (ppo x cs p).1
  | [], cs, h => h
  | y :: p, cs, h => by
    by_cases c : y = x
    · have e1 : ppo x cs (y :: p) = ppo x (cs ++ [x]) p := if_pos c
      rw [e1]
      exact ppo_v hx p _ (pgL_a h (pgL_1 hx))
    · have e1 : ppo x cs (y :: p) = (cs, y :: p) := if_neg c
      rw [e1]
      exact h
theorem pjo_v {p cs : List Nat} (h : pgL cs) : pgL (pjo cs p).1 := ppo_v (x := 10014) rfl _ _ (ppo_v (x := 10015) rfl _ _ h)
theorem pcd_v {K : Nat → Nat} : ∀ (f : Nat) (g : Bool) (j : Nat) (cs p : List Nat) (i : Nat) (ds : List Nat), pgL cs → pcd K f g j cs p = some (.inr (i, ds)) → pgL ds
  | 0, g, j, cs, p, i, ds, hc, h => by cases g <;> cases h
  | f + 1, true, j, cs, p, i, ds, hc, h => by
    have h : (if K j = 10016 ∨ K j = 20040 then (if opn p = 8 then some (.inl (3, j)) else pcd K f true (j + 1) cs (K j :: p)) else match pe K 401 j cs with | none => none | some (.inl x) => some (.inl x) | some (.inr (j1, cs1)) => if 20060 ≤ K j1 ∧ K j1 ≤ 20062 then (match pe K 401 (j1 + 1) cs1 with | none => none | some (.inl x) => some (.inl x) | some (.inr (j2, cs2)) => pcd K f false j2 (ppo 10016 (cs2 ++ [K j1]) p).1 (ppo 10016 (cs2 ++ [K j1]) p).2) else some (.inl (1, j1))) = some (.inr (i, ds)) := h
    by_cases c : K j = 10016 ∨ K j = 20040
    · rw [if_pos c] at h
      by_cases o8 : opn p = 8
      · rw [if_pos o8] at h; cases h
      · rw [if_neg o8] at h
        exact pcd_v f true _ _ _ i ds hc h
    · rw [if_neg c] at h
      cases hp : pe K 401 j cs with
      | none => rw [hp] at h; cases h
      | some x =>
        rw [hp] at h
        cases x with
        | inl y => cases h
        | inr y =>
          obtain ⟨j1, cs1⟩ := y
          replace h : (if 20060 ≤ K j1 ∧ K j1 ≤ 20062 then (match pe K 401 (j1 + 1) cs1 with | none => none | some (.inl x) => some (.inl x) | some (.inr (j2, cs2)) => pcd K f false j2 (ppo 10016 (cs2 ++ [K j1]) p).1 (ppo 10016 (cs2 ++ [K j1]) p).2) else some (.inl (1, j1))) = some (.inr (i, ds)) := h
          by_cases c2 : 20060 ≤ K j1 ∧ K j1 ≤ 20062
          · rw [if_pos c2] at h
            cases hp2 : pe K 401 (j1 + 1) cs1 with
            | none => rw [hp2] at h; cases h
            | some x2 =>
              rw [hp2] at h
              cases x2 with
              | inl y => cases h
              | inr y =>
                obtain ⟨j2, cs2⟩ := y
                replace h : pcd K f false j2 (ppo 10016 (cs2 ++ [K j1]) p).1 (ppo 10016 (cs2 ++ [K j1]) p).2 = some (.inr (i, ds)) := h
                have u3 : pgC (K j1) := by
                  have hc : K j1 = 20060 ∨ K j1 = 20061 ∨ K j1 = 20062 := by omega
                  rcases hc with z | z | z <;> (rw [z]; rfl)
                exact pcd_v f false _ _ _ i ds (ppo_v (x := 10016) rfl _ _ (pgL_a (pe_v (pe_v hc hp) hp2) (pgL_1 u3))) h
          · rw [if_neg c2] at h; cases h
  | f + 1, false, j, cs, p, i, ds, hc, h => by
    have h : (if K j = 10015 then pcd K f true (j + 1) (ppo 10015 cs p).1 (10015 :: (ppo 10015 cs p).2) else if K j = 10014 then pcd K f true (j + 1) (pjo cs p).1 (10014 :: (pjo cs p).2) else if K j = 20041 ∧ 0 < brn p then pcd K f false (j + 1) (ppo 10016 (pjo cs p).1 (pjo cs p).2.tail).1 (ppo 10016 (pjo cs p).1 (pjo cs p).2.tail).2 else if brn p = 0 then some (.inr (j, (pjo cs p).1)) else some (.inl (1, j))) = some (.inr (i, ds)) := h
    by_cases c1 : K j = 10015
    · rw [if_pos c1] at h
      exact pcd_v f true _ _ _ i ds (ppo_v (x := 10015) rfl _ _ hc) h
    · rw [if_neg c1] at h
      by_cases c2 : K j = 10014
      · rw [if_pos c2] at h
        exact pcd_v f true _ _ _ i ds (pjo_v hc) h
      · rw [if_neg c2] at h
        by_cases c3 : K j = 20041 ∧ 0 < brn p
        · rw [if_pos c3] at h
          exact pcd_v f false _ _ _ i ds (ppo_v (x := 10016) rfl _ _ (pjo_v hc)) h
        · rw [if_neg c3] at h
          by_cases c4 : brn p = 0
          · rw [if_pos c4] at h
            have e2 := Option.some.inj h
            injection e2 with e2
            injection e2 with e2 e5
            rw [← e5]
            exact pjo_v hc
          · rw [if_neg c4] at h; cases h
theorem plw_v {K : Nat → Nat} {j i : Nat} {cs ds : List Nat} {row : pRw} (hc : pgL cs) (h : plw K j cs = some (.inr (i, ds, row))) : pgL ds := by
  unfold plw at h
  cases hp : pe K 401 (j + 1) cs with
  | none => rw [hp] at h; cases h
  | some x =>
    rw [hp] at h
    cases x with
    | inl y => cases h
    | inr y =>
      obtain ⟨j1, cs1⟩ := y
      replace h : (if K j1 = 10013 then (match pcd K 500 true (j1 + 1) cs1 [] with | none => none | some (.inl x) => some (.inl x) | some (.inr (j2, cs2)) => pkw K j2 20059 (some (.inr (j2 + 1, cs2, nI (K j), nI cs.length, nI cs1.length, nI cs2.length)))) else pkw K j1 20059 (some (.inr (j1 + 1, cs1, nI (K j), nI cs.length, nI cs1.length, nI cs1.length)))) = some (.inr (i, ds, row)) := h
      by_cases c : K j1 = 10013
      · rw [if_pos c] at h
        cases hp2 : pcd K 500 true (j1 + 1) cs1 [] with
        | none => rw [hp2] at h; cases h
        | some x2 =>
          rw [hp2] at h
          cases x2 with
          | inl y => cases h
          | inr y =>
            obtain ⟨j2, cs2⟩ := y
            have h4 := Option.some.inj (pkw_cs h)
            injection h4 with h4
            injection h4 with h5 h6
            injection h6 with h6 h7
            subst h6
            exact pcd_v 500 true _ _ _ _ _ (pe_v hc hp) hp2
      · rw [if_neg c] at h
        have h4 := Option.some.inj (pkw_cs h)
        injection h4 with h4
        injection h4 with h5 h6
        injection h6 with h6 h7
        subst h6
        exact pe_v hc hp
theorem ptx_v {K : Nat → Nat} : ∀ (f j : Nat) (cs : List Nat) (rows : List pRw) (ds : List Nat) (ro : List pRw), pgL cs → ptx 10000 10002 (plw K) K f j cs rows = some (.inr (ds, ro)) → pgL ds
  | 0, j, cs, rows, ds, ro, hc, h => by cases h
  | f + 1, j, cs, rows, ds, ro, hc, h => by
    have h2 : (if K j = 30001 then some (.inr (cs, rows)) else if ¬ (10000 ≤ K j ∧ K j ≤ 10002) then some (.inl (1, j)) else if rows.length = 16 then some (.inl (3, j)) else match plw K j cs with | none => none | some (.inl x) => some (.inl x) | some (.inr (i, ds, row)) => ptx 10000 10002 (plw K) K f i ds (rows ++ [row])) = some (.inr (ds, ro)) := h
    by_cases c0 : K j = 30001
    · rw [if_pos c0] at h2
      have e := Option.some.inj h2
      injection e with e
      injection e with e1 e2
      rw [← e1]; exact hc
    · rw [if_neg c0] at h2
      by_cases c : 10000 ≤ K j ∧ K j ≤ 10002
      · rw [if_neg (fun z => z c)] at h2
        by_cases c16 : rows.length = 16
        · rw [if_pos c16] at h2; cases h2
        · rw [if_neg c16] at h2
          cases hp : plw K j cs with
          | none => rw [hp] at h2; cases h2
          | some y =>
            rw [hp] at h2
            cases y with
            | inl y => cases h2
            | inr y =>
              obtain ⟨i, es, row⟩ := y
              exact ptx_v f i es (rows ++ [row]) ds ro (plw_v hc hp) h2
      · rw [if_pos c] at h2; cases h2
/-! what a text that was read gives -/
theorem vL_t {n b : Nat} {t : Nat → Nat} {υ : zS} {cs : List Nat} {rows : List pRw} (hp : ptR n 0 t b = some (.inr (cs, rows))) (hcl : cs.length ≤ 400) (h16 : rows.length ≤ 16) (hK : kLt 0 υ cs rows) (hM : mLt 0 n υ cs rows) : vL υ := by
  have hg : ∀ x, x ∈ rows → pGd cs x := ptx_g 18 0 [] [] cs rows (fun x hx => absurd hx (by simp)) hp
  have hv : pgL cs := ptx_v 18 0 [] [] cs rows (fun x hx => absurd hx (by simp)) hp
  obtain ⟨k1, k2, k3, _⟩ := hK
  obtain ⟨m1, m2, m3⟩ := hM.1 rfl
  have hrow : ∀ l, l < rows.length → ∃ (w : Nat) (pre s1 s2 post : List Nat) (k : Nat), w ≤ 2 ∧ rows.getD l (0, 0, 0, 0) = (nI (10000 + w), nI pre.length, nI (pre.length + s1.length), nI (pre.length + s1.length + s2.length)) ∧ cs = pre ++ s1 ++ s2 ++ post ∧ pkl s1 [] = some [k] ∧ (s2 = [] ∨ pkl s2 [] = some [1]) ∧ pre.length + s1.length + s2.length ≤ 400 := fun l hl => by
    have hm : rows.getD l (0, 0, 0, 0) ∈ rows := by
      rw [List.getD_eq_getElem?_getD, List.getElem?_eq_getElem hl]
      exact List.getElem_mem hl
    obtain ⟨w, pre, s1, s2, post, k, g1, g2, g3, g4, g5⟩ := hg _ hm
    refine ⟨w, pre, s1, s2, post, k, g1, g2, g3, g4, g5, ?_⟩
    rw [g3, List.length_append, List.length_append, List.length_append] at hcl
    omega
  have hcode : ∀ j, j < cs.length → zen (zdo (cs.getD j 0)) (zda (cs.getD j 0)) = cs.getD j 0 := fun j hj => by
    refine hv _ ?_
    rw [List.getD_eq_getElem?_getD, List.getElem?_eq_getElem hj]
    exact List.getElem_mem hj
  refine ⟨rows.length, fun l => un (rows.getD l (0, 0, 0, 0)).1 - 10000, fun l => un (rows.getD l (0, 0, 0, 0)).2.1, fun l => un (rows.getD l (0, 0, 0, 0)).2.2.1, fun l => un (rows.getD l (0, 0, 0, 0)).2.2.2, fun j => zdo (cs.getD j 0), fun j => zda (cs.getD j 0), ⟨h16, fun l hl => ?_⟩, ⟨k1, fun l hl => ?_⟩, ⟨m1, fun l hl => ?_⟩⟩
  · obtain ⟨w, pre, s1, s2, post, k, g1, g2, g3, g4, g5, g6⟩ := hrow l hl
    simp only [g2]
    rw [un_nI (by omega), un_nI (by omega), un_nI (by omega), un_nI (by omega)]
    refine ⟨by omega, by omega, by omega, by omega, ⟨k, ?_⟩, fun hlt => ?_⟩
    · rw [show pre.length + s1.length - pre.length = s1.length by omega]
      exact (zKc_l s1 pre (s2 ++ post) [] (by rw [g3]; simp [List.append_assoc])).trans g4
    · have h5 := g5.resolve_left (fun z => by rw [z] at hlt; simp at hlt)
      rw [show pre.length + s1.length + s2.length - (pre.length + s1.length) = s2.length by omega]
      have := zKc_l s2 (pre ++ s1) post [] g3
      rw [List.length_append] at this
      exact this.trans h5
  · obtain ⟨w, pre, s1, s2, post, k, g1, g2, g3, g4, g5, g6⟩ := hrow l hl
    obtain ⟨a1, a2, a3, a4⟩ := k2 l hl
    rw [g2] at a1 a2 a3 a4
    simp only [g2]
    rw [un_nI (by omega), un_nI (by omega), un_nI (by omega), un_nI (by omega), show 10000 + (10000 + w - 10000) = 10000 + w by omega]
    refine ⟨a1, a2, a3, a4, fun j j1 j2 => ?_⟩
    have hj : j < cs.length := by rw [g3, List.length_append, List.length_append, List.length_append]; omega
    rw [hcode j hj]
    exact k3 rfl j hj
  · obtain ⟨w, pre, s1, s2, post, k, g1, g2, g3, g4, g5, g6⟩ := hrow l hl
    obtain ⟨⟨w', b0, b1, b1'⟩, b2, b3, b4⟩ := m2 l hl
    rw [Nat.zero_add] at b1 b2 b3 b4
    rw [g2] at b1' b2 b3 b4
    have ew : 10000 + w' = 10000 + w := nI_j b1'.symm rfl (by omega) (by omega)
    simp only [g2]
    rw [un_nI (by omega), un_nI (by omega), un_nI (by omega), un_nI (by omega), show 10000 + w - 10000 = w by omega]
    refine ⟨by rw [b1, show w' = w by omega], b2, b3, b4, fun j j1 j2 => ?_⟩
    have hj : j < cs.length := by rw [g3, List.length_append, List.length_append, List.length_append]; omega
    exact m3 j hj
theorem vE_t {n b : Nat} {υ : zS} {cs : List Nat} {rows : List pRw} (h16 : rows.length ≤ 16) (hK : kLt 1 υ cs rows) (hM : mLt 1 n υ cs rows) : vE υ n := by
  obtain ⟨k1, k2, _⟩ := hK
  obtain ⟨m1, m2⟩ := hM.2.1 rfl
  refine ⟨rows.length, fun l => un (rows.getD l (0, 0, 0, 0)).1, fun l => (rows.getD l (0, 0, 0, 0)).2.1, ⟨k1, h16, fun l hl => ?_⟩, ⟨m1, h16, fun l hl => ?_⟩⟩
  · obtain ⟨a1, a2, a3, a4⟩ := k2 l hl
    exact ⟨a1.trans (nI_un _), a2⟩
  · obtain ⟨b1, b2⟩ := m2 l hl
    rw [Nat.zero_add] at b1 b2
    exact ⟨b1.trans (nI_un _), b2⟩
theorem vT_t {n : Nat} {υ : zS} {cs : List Nat} {rows : List pRw} (h16 : rows.length ≤ 16) (hK : kLt 2 υ cs rows) (hM : mLt 2 n υ cs rows) : vT υ := by
  obtain ⟨k1, k2, _⟩ := hK
  obtain ⟨m1, m2⟩ := hM.2.2.1 rfl
  refine ⟨rows.length, fun l => un (rows.getD l (0, 0, 0, 0)).1, fun l => un (υ 213 (3 * l + 1)), fun l => un (rows.getD l (0, 0, 0, 0)).2.2.1, ⟨k1, h16, fun l hl => ?_⟩, ⟨m1, h16, fun l hl => ?_⟩⟩
  · obtain ⟨a1, a2, a3, a4⟩ := k2 l hl
    obtain ⟨b1, b2, p, b3, b4, b5⟩ := m2 l hl
    rw [Nat.zero_add] at b4
    have ep : un (υ 213 (3 * l + 1)) = p := by rw [b4, un_nI (by omega)]
    simp only [ep]
    exact ⟨a1.trans (nI_un _), a2.trans b5, a3.trans (nI_un _)⟩
  · obtain ⟨b1, b2, p, b3, b4, b5⟩ := m2 l hl
    rw [Nat.zero_add] at b1 b2 b4
    have ep : un (υ 213 (3 * l + 1)) = p := by rw [b4, un_nI (by omega)]
    simp only [ep]
    exact ⟨b1.trans (nI_un _), b4, b2.trans (nI_un _), b3⟩
theorem vR_t {n b : Nat} {t : Nat → Nat} {υ : zS} {cs : List Nat} {rows : List pRw} (hp : ptR n 3 t b = some (.inr (cs, rows))) (h16 : rows.length ≤ 16) (hK : kLt 3 υ cs rows) (hM : mLt 3 n υ cs rows) : vR υ := by
  obtain ⟨k1, k2, _, k4⟩ := hK
  obtain ⟨m1, m2⟩ := hM.2.2.2 rfl
  exact ⟨rows, h16, pRv_x rfl hp, k1, k2, m1, fun p hp => ⟨(k4 rfl).1 p hp, m2 p hp⟩, (k4 rfl).2⟩
theorem kLt_f {k : Nat} {ω υ : zS} {cs : List Nat} {rows : List pRw} (hk : k ≤ 3) (h16 : rows.length ≤ 16) (h : kLt k ω cs rows) (e : ∀ a b, 15 ≤ a → a < 30 → υ a b = ω a b) : kLt k υ cs rows := by
  obtain ⟨h1, h2, h3, h4⟩ := h
  refine ⟨(e _ 2 (by omega) (by omega)).trans h1, kRw_f h2 h16 (fun b _ => e _ b (by omega) (by omega)), fun z i hi => (e 17 i (by omega) (by omega)).trans (h3 z i hi), fun z => ⟨fun p hp => (e 28 p (by omega) (by omega)).trans ((h4 z).1 p hp), fun a b ha hb => ?_⟩⟩
  show υ 29 _ = zdV (υ 28) a b
  rw [e 29 _ (by omega) (by omega), show υ 28 = ω 28 from funext (fun b => e 28 b (by omega) (by omega))]
  exact (h4 z).2 a b ha hb
/-- what a text touches -/
def txQ (a c : Nat) : Prop := (a = 0 ∧ c = 10) ∨ (a = 195 ∧ (c = 11 ∨ c = 31 ∨ c = 32)) ∨ (a = 170 ∧ (c = 4 ∨ c = 5)) ∨ (a = 214 ∧ 12 ≤ c)
def txP (k a c : Nat) : Prop := txQ a c ∨ (k ≠ 0 ∧ a = 95 ∧ c = 2) ∨ kTt k a c ∨ mLv k a c
theorem mX_s {a c : Nat} (h : mX a c) : sc a c ∨ txQ a c := by
  unfold mX at h
  rcases h with ⟨h, h2⟩ | h | h | h | h | h | h
  · left; subst h; unfold sc; omega
  · left; unfold sc; iterate 18 right
    left; omega
  · left; unfold sc; iterate 19 right
    left; omega
  · left; subst h; unfold sc; omega
  · left; unfold sc; iterate 20 right
    left; omega
  · left; unfold sc; iterate 21 right
    left; omega
  · right; unfold txQ; omega
theorem mT0_s {a c : Nat} (h : mT0 a c) : sc a c ∨ txQ a c := by
  rcases h with h | ⟨h, h2⟩
  · exact mX_s h
  · subst h
    rcases h2 with h | h | h | h | h | h | h | h <;> subst h
    · left; unfold sc; omega
    · right; unfold txQ; omega
    · left; unfold sc; omega
    · left; unfold sc; omega
    · left; unfold sc; omega
    · left; unfold sc; omega
    · right; unfold txQ; omega
    · right; unfold txQ; omega
theorem pZ_s {a c : Nat} (h : pZ a c) : sc a c ∨ txQ a c := by
  unfold pZ at h
  rcases h with h | h | h | h | h | h | ⟨h, h2⟩ | ⟨h, h2⟩
  · left; subst h; unfold sc; omega
  · left; subst h; unfold sc; omega
  · left; subst h; unfold sc; omega
  · left; subst h; unfold sc; omega
  · left; subst h; unfold sc; omega
  · left; subst h; unfold sc; omega
  · subst h
    rcases h2 with h | h | h | h <;> subst h
    · left; unfold sc; omega
    · left; unfold sc; omega
    · right; unfold txQ; omega
    · right; unfold txQ; omega
  · left; subst h; unfold sc; omega
theorem INV_tx {σ υ : zS} {n k b : Nat} {t : Nat → Nat} {cs : List Nat} {rows : List pRw} (hI : INV σ) (hs : σ 195 6 = nI n) (hn : n ≤ 18) (hk : k ≤ 3) (hp : ptR n k t b = some (.inr (cs, rows))) (hcl : cs.length ≤ 400) (h16 : rows.length ≤ 16) (e : ∀ a c, ¬ sc a c → ¬ txP k a c → υ a c = σ a c) (e1 : υ 0 10 = 0) (e2 : υ 195 11 = 0) (e3 : υ 170 4 = υ 195 31) (e4 : υ 170 5 = υ 195 32) (e5 : k ≠ 0 → υ 95 2 = 0 ∧ υ 195 3 = 0) (hK : kLt k υ cs rows) (hM : mLt k n υ cs rows) : INV υ := by
  obtain ⟨n2, V, h1, h2, h3, h4, h5, h6, h7, h8, h9⟩ := id hI
  have hn2 : n2 = n := nI_j hs h1.2.2.2.2.1 (by omega) (by have := h1.2.2.1.2.1; omega)
  subst hn2
  refine ⟨n2, V, vD_f h1 (fun a b x => e a b (by unfold sc; omega) (by unfold txP txQ kTt mLv; omega)), ?_, ?_, ?_, ?_, vO_f h6 (fun a b x => e a b (by unfold sc; omega) (by unfold txP txQ kTt mLv; omega)), ?_, ?_, vI_f h9 (fun a b x => e a b (by unfold sc; omega) (by unfold txP txQ kTt mLv; omega))⟩
  · by_cases k0 : k = 0
    · subst k0; exact vL_t hp hcl h16 hK hM
    · exact vL_f h2 (fun a b x => e a b (by unfold sc; omega) (by unfold txP txQ kTt mLv; omega))
  · by_cases k3 : k = 3
    · subst k3; exact vR_t hp h16 hK hM
    · obtain ⟨rs, r⟩ := id h3
      exact vR_f h3 (fun a b x => e a b (by unfold sc; omega) (by unfold txP txQ kTt mLv; omega)) (vR_z r.2.2.2.2.2.2 (fun a b x => e a b (by unfold sc; omega) (by unfold txP txQ kTt mLv; omega)))
  · by_cases k2 : k = 2
    · subst k2; exact vT_t h16 hK hM
    · exact vT_f h4 (fun a b x => e a b (by unfold sc; omega) (by unfold txP txQ kTt mLv; omega))
  · by_cases k1 : k = 1
    · subst k1; exact vE_t (b := b) h16 hK hM
    · exact vE_f h5 (fun a b x => e a b (by unfold sc; omega) (by unfold txP txQ kTt mLv; omega))
  · obtain ⟨⟨b', t', a1, a2, a3, a4⟩, a5, a6, a7, a8, a9⟩ := h7
    exact ⟨⟨0, t', by omega, e1, e2, fun i hi => by rw [e 194 i (by unfold sc; omega) (by unfold txP txQ kTt mLv; omega), e 202 i (by unfold sc; omega) (by unfold txP txQ kTt mLv; omega)]; exact a4 i hi⟩, fun i hi => (e 203 i (by unfold sc; omega) (by unfold txP txQ kTt mLv; omega)).trans (a5 i hi), e3, e4, (e 87 3 (by unfold sc; omega) (by unfold txP txQ kTt mLv; omega)).trans a8, (e 91 3 (by unfold sc; omega) (by unfold txP txQ kTt mLv; omega)).trans a9⟩
  · by_cases k0 : k = 0
    · subst k0
      exact vP_f h8 (fun a b x => e a b (by unfold sc; omega) (by unfold txP txQ kTt mLv; omega))
    · obtain ⟨c, la, q1, q2, q3, q4, q5, q6⟩ := h8
      exact ⟨0, la, by omega, q2, (e5 k0).1, (e5 k0).2, (e 95 1 (by unfold sc; omega) (by unfold txP txQ kTt mLv; omega)).trans q5, fun i hi => absurd hi (by omega)⟩
theorem INV_te {σ υ : zS} (hI : INV σ) (e : ∀ a c, ¬ sc a c → ¬ txQ a c → υ a c = σ a c) (e1 : υ 0 10 = 0) (e2 : υ 195 11 = 0) (e3 : υ 170 4 = υ 195 31) (e4 : υ 170 5 = υ 195 32) : INV υ := by
  obtain ⟨n2, V, h1, h2, h3, h4, h5, h6, h7, h8, h9⟩ := id hI
  refine ⟨n2, V, vD_f h1 (fun a b x => e a b (by unfold sc; omega) (by unfold txQ; omega)), vL_f h2 (fun a b x => e a b (by unfold sc; omega) (by unfold txQ; omega)), ?_, vT_f h4 (fun a b x => e a b (by unfold sc; omega) (by unfold txQ; omega)), vE_f h5 (fun a b x => e a b (by unfold sc; omega) (by unfold txQ; omega)), vO_f h6 (fun a b x => e a b (by unfold sc; omega) (by unfold txQ; omega)), ?_, vP_f h8 (fun a b x => e a b (by unfold sc; omega) (by unfold txQ; omega)), vI_f h9 (fun a b x => e a b (by unfold sc; omega) (by unfold txQ; omega))⟩
  · obtain ⟨rs, r⟩ := id h3
    exact vR_f h3 (fun a b x => e a b (by unfold sc; omega) (by unfold txQ; omega)) (vR_z r.2.2.2.2.2.2 (fun a b x => e a b (by unfold sc; omega) (by unfold txQ; omega)))
  · obtain ⟨⟨b', t', a1, a2, a3, a4⟩, a5, a6, a7, a8, a9⟩ := h7
    exact ⟨⟨0, t', by omega, e1, e2, fun i hi => by rw [e 194 i (by unfold sc; omega) (by unfold txQ; omega), e 202 i (by unfold sc; omega) (by unfold txQ; omega)]; exact a4 i hi⟩, fun i hi => (e 203 i (by unfold sc; omega) (by unfold txQ; omega)).trans (a5 i hi), e3, e4, (e 87 3 (by unfold sc; omega) (by unfold txQ; omega)).trans a8, (e 91 3 (by unfold sc; omega) (by unfold txQ; omega)).trans a9⟩
theorem c_text {kv : Int32} : zPr 129 221 [.int kv] := fun σ hI => by
  obtain ⟨n, V, hD, h2, h3, h4, h5, h6, h7, h8, h9⟩ := id hI
  obtain ⟨hV, hm, hg, hz, hs, h50, hx⟩ := id hD
  obtain ⟨⟨b, t, a1, a2, a3, a4⟩, a5, a6, a7, a8, a9⟩ := id h7
  have hn18 := hg.2.1
  have hsub : σ 2 11 = nI n := (hV.2.1 11 (by omega) (by omega)).trans hg.1
  obtain ⟨N, hN, hNs, hlt⟩ := tk_N t b
  have hE : mEn t b N := ⟨by unfold tkk; rw [hNs]; exact tkc_E (Nat.lt_irrefl b), by omega⟩
  have hc : ∀ ω, (∀ a c, ¬ kTc 3 a c → ¬ kTc 2 a c → ¬ kTc 1 a c → ¬ kTc 0 a c → ω a c = σ a c) → mTc ω t b ∧ ω 195 6 = nI n := fun ω e => ⟨⟨(e 195 11 (by unfold kTc kTt pZ; omega) (by unfold kTc kTt pZ; omega) (by unfold kTc kTt pZ; omega) (by unfold kTc kTt pZ; omega)).trans a3, a1, fun i hi => ⟨(e 202 i (by unfold kTc kTt pZ; omega) (by unfold kTc kTt pZ; omega) (by unfold kTc kTt pZ; omega) (by unfold kTc kTt pZ; omega)).trans (a4 i hi).2.1, (a4 i hi).2.2⟩, fun i hi => (e 203 i (by unfold kTc kTt pZ; omega) (by unfold kTc kTt pZ; omega) (by unfold kTc kTt pZ; omega) (by unfold kTc kTt pZ; omega)).trans (a5 i hi)⟩, (e 195 6 (by unfold kTc kTt pZ; omega) (by unfold kTc kTt pZ; omega) (by unfold kTc kTt pZ; omega) (by unfold kTc kTt pZ; omega)).trans hs⟩
  have hkk : ∀ k, k ≤ 3 → k = 0 ∨ k = 1 ∨ k = 2 ∨ k = 3 := fun k h => by omega
  refine s_ktext (d := 3) (t := t) (fun i hi => ⟨(a4 i hi).1, (a4 i hi).2.2⟩) a1 a2 hn18 hsub (fun k cs rows ω k3 ek hp hcl h16 e w1 w2 w3 w4 hK => ?_) (fun ω q s e w1 w2 w3 hq => ?_)
  · obtain ⟨c1, c2⟩ := hc ω (fun a c x3 x2 x1 x0 => e a c (by rcases hkk k k3 with z | z | z | z <;> (subst z; assumption)))
    refine s_mtext (d := 0) hE c1 hn18 c2 (fun k' cs' rows' υ k3' ek' hp' _ f v1 v2 v3 v4 hM => ?_) (fun υ q s f v1 v2 v3 hq => ?_)
    · have ekk := nI_j ek ek' (by omega) (by omega)
      subst ekk
      have ep := Option.some.inj (hp.symm.trans hp')
      injection ep with ep
      injection ep with ep1 ep2
      subst ep1 ep2
      refine ⟨rfl, INV_tx hI hs hn18 k3 hp hcl h16 (fun a c g1 g2 => ?_) ?_ v1 ?_ ?_ (fun z => ⟨?_, v4 z⟩) (kLt_f k3 h16 hK (fun a c y1 y2 => f a c (by unfold mT0 mX; omega) (by unfold mLv; omega))) hM⟩
      · exact (f a c (fun z => (mT0_s z).elim g1 (fun y => g2 (Or.inl y))) (fun z => g2 (Or.inr (Or.inr (Or.inr z))))).trans (e a c (fun z => by
          rcases z with z | z | z | z
          · exact (pZ_s z).elim g1 (fun y => g2 (Or.inl y))
          · exact g2 (Or.inl (Or.inl z))
          · exact g2 (Or.inr (Or.inl z))
          · exact g2 (Or.inr (Or.inr (Or.inl z)))))
      · exact (f 0 10 (by unfold mT0 mX; omega) (by unfold mLv; omega)).trans w1
      · exact ((f 170 4 (by unfold mT0 mX; omega) (by unfold mLv; omega)).trans w2).trans v2.symm
      · exact ((f 170 5 (by unfold mT0 mX; omega) (by unfold mLv; omega)).trans w3).trans v3.symm
      · exact (f 95 2 (by unfold mT0 mX; omega) (by unfold mLv; omega)).trans (w4 z)
    · exfalso
      rcases hq with ⟨y, _⟩ | ⟨k', w, i, k3', ek', hp', _⟩
      · exact y ⟨by rw [ek]; exact nI_z (by omega), by rw [ek]; exact nI_le (b := 3) k3 (by omega)⟩
      · have ekk := nI_j ek ek' (by omega) (by omega)
        subst ekk
        cases hp.symm.trans hp'
  · obtain ⟨c1, c2⟩ := hc ω (fun a c x3 x2 x1 x0 => e a c (Or.inl x0))
    refine s_mtext (d := 0) hE c1 hn18 c2 (fun k' cs' rows' υ k3' ek' hp' _ f v1 v2 v3 v4 hM => ?_) (fun υ q' s' f v1 v2 v3 hq' => ?_)
    · exfalso
      rcases hq with ⟨y, _⟩ | ⟨k, w, i, k3, ek, hp, _⟩
      · exact y ⟨by rw [ek']; exact nI_z (by omega), by rw [ek']; exact nI_le (b := 3) k3' (by omega)⟩
      · have ekk := nI_j ek ek' (by omega) (by omega)
        subst ekk
        cases hp.symm.trans hp'
    · have hqs : q' = q ∧ s' = s := by
        rcases hq with ⟨y, y1, y2⟩ | ⟨k, w, i, k3, ek, hp, y1, y2⟩
        · rcases hq' with ⟨z, z1, z2⟩ | ⟨k', w', i', k3', ek', hp', z1, z2⟩
          · exact ⟨z1.trans y1.symm, z2.trans y2.symm⟩
          · exact absurd ⟨by rw [ek']; exact nI_z (by omega), by rw [ek']; exact nI_le (b := 3) k3' (by omega)⟩ y
        · rcases hq' with ⟨z, z1, z2⟩ | ⟨k', w', i', k3', ek', hp', z1, z2⟩
          · exact absurd ⟨by rw [ek]; exact nI_z (by omega), by rw [ek]; exact nI_le (b := 3) k3 (by omega)⟩ z
          · have ekk := nI_j ek ek' (by omega) (by omega)
            subst ekk
            have ep := Option.some.inj (hp.symm.trans hp')
            injection ep with ep
            injection ep with ep1 ep2
            rw [z1, z2, y1, y2, ep1, ep2]
            exact ⟨rfl, rfl⟩
      refine ⟨rfl, INV_te hI (fun a c g1 g2 => ?_) ?_ v1 ?_ ?_⟩
      · refine (f a c (fun z => (mT0_s z).elim g1 g2)).trans (e a c ?_)
        by_cases q : a = 15 ∨ a = 16 ∨ a = 17
        · exact Or.inr q
        · refine Or.inl (fun z => ?_)
          rcases z with z | z | z | z
          · exact (pZ_s z).elim g1 g2
          · exact g2 (Or.inl z)
          · exact absurd rfl z.1
          · unfold kTt at z; omega
      · exact (f 0 10 (by unfold mT0 mX; omega)).trans w1
      · exact ((f 170 4 (by unfold mT0 mX; omega)).trans w2).trans (hqs.1.symm.trans v2.symm)
      · exact ((f 170 5 (by unfold mT0 mX; omega)).trans w3).trans (hqs.2.symm.trans v3.symm)

