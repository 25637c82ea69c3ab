/-! CLASS: hunt -/
theorem l_trap {d g : Nat} {σ : zS} {Q : Int32 → zS → Prop} (hg : g < 12) (h : Q (ztr (σ 28) (σ 182) g) σ) : ∀ (m p : Nat) (s : Int32) (u5 : Value), p + m = 12 → s = 1 <<< (nI g &&& 31) ||| zset (ztrp (σ 28) (σ 182 g)) p → zk d 68 7 [.ref 177, .ref 27, .int (nI g), .int s, .int (nI p), u5] [] σ (fun r t => ∃ v, r = some v ∧ Q v t) := by
  intro m
  induction m with
  | zero =>
    intro p s u5 hp hs
    have e12 : p = 12 := by omega
    subst e12
    refine r_il4 zi_68_7 rfl ?_
    refine r_push zi_68_9 rfl ?_
    refine r_ic3 zi_68_11 rfl (fun _ => ?_) (fun c => absurd (by decide) c)
    refine r_il3 zi_68_55 rfl ?_
    refine r_retI zi_68_56 rfl ?_
    exact ⟨_, rfl, by rw [hs]; exact h⟩
  | succ m ih =>
    intro p s u5 hp hs
    have e1 : zset (ztrp (σ 28) (σ 182 g)) (p + 1) = if ztrp (σ 28) (σ 182 g) p then zset (ztrp (σ 28) (σ 182 g)) p ||| (1 <<< (nI p &&& 31)) else zset (ztrp (σ 28) (σ 182 g)) p := rfl
    by_cases hz : (σ 28 p ||| 1 <<< (nI p &&& 31)) &&& (σ 182 g ^^^ -1) = 0
    · rw [show ztrp (σ 28) (σ 182 g) p = true from decide_eq_true hz, if_pos rfl] at e1
      refine r_il4 zi_68_7 rfl ?_
      refine r_push zi_68_9 rfl ?_
      refine n_ic3 (i := p) (j := 12) zi_68_11 rfl (by omega) (by omega) (fun c => absurd c (by omega)) (fun _ => ?_)
      refine r_al1 zi_68_14 rfl ?_
      refine q_getR zi_68_15 rfl cf_27_0 ?_
      refine r_il4 zi_68_18 rfl ?_
      refine r_ald zi_68_20 rfl p ca_28 (by first | rfl | (simp only [zI_add, zI_mul] <;> rfl)) (by first | omega | decide) ?_
      refine r_push zi_68_21 rfl ?_
      refine r_il4 zi_68_22 rfl ?_
      refine r_b6 zi_68_24 rfl ?_
      refine r_b4 zi_68_25 rfl ?_
      refine r_is5 zi_68_26 rfl ?_
      refine r_il5 zi_68_28 rfl ?_
      refine r_al0 zi_68_30 rfl ?_
      refine q_getR zi_68_31 rfl cf_177_5 ?_
      refine r_il2 zi_68_34 rfl ?_
      refine r_ald zi_68_35 rfl g ca_182 (by first | rfl | (simp only [zI_add, zI_mul] <;> rfl)) (by first | omega | decide) ?_
      refine r_push zi_68_36 rfl ?_
      refine r_b5 zi_68_37 rfl ?_
      refine r_b3 zi_68_38 rfl ?_
      refine r_if1 zi_68_39 rfl (fun c => absurd hz c) (fun _ => ?_)
      refine r_il3 zi_68_42 rfl ?_
      refine r_push zi_68_43 rfl ?_
      refine r_il4 zi_68_44 rfl ?_
      refine r_b6 zi_68_46 rfl ?_
      refine r_b4 zi_68_47 rfl ?_
      refine r_is3 zi_68_48 rfl ?_
      refine r_in4 zi_68_49 rfl ?_
      rw [show (nI p + 1 : Int32) = nI (p + 1) from nI_add _ _]
      refine r_goto zi_68_52 rfl ?_
      exact ih (p + 1) _ _ (by omega) (by rw [e1, hs, Int32.or_assoc])
    · rw [show ztrp (σ 28) (σ 182 g) p = false from decide_eq_false hz, if_neg (by simp)] at e1
      refine r_il4 zi_68_7 rfl ?_
      refine r_push zi_68_9 rfl ?_
      refine n_ic3 (i := p) (j := 12) zi_68_11 rfl (by omega) (by omega) (fun c => absurd c (by omega)) (fun _ => ?_)
      refine r_al1 zi_68_14 rfl ?_
      refine q_getR zi_68_15 rfl cf_27_0 ?_
      refine r_il4 zi_68_18 rfl ?_
      refine r_ald zi_68_20 rfl p ca_28 (by first | rfl | (simp only [zI_add, zI_mul] <;> rfl)) (by first | omega | decide) ?_
      refine r_push zi_68_21 rfl ?_
      refine r_il4 zi_68_22 rfl ?_
      refine r_b6 zi_68_24 rfl ?_
      refine r_b4 zi_68_25 rfl ?_
      refine r_is5 zi_68_26 rfl ?_
      refine r_il5 zi_68_28 rfl ?_
      refine r_al0 zi_68_30 rfl ?_
      refine q_getR zi_68_31 rfl cf_177_5 ?_
      refine r_il2 zi_68_34 rfl ?_
      refine r_ald zi_68_35 rfl g ca_182 (by first | rfl | (simp only [zI_add, zI_mul] <;> rfl)) (by first | omega | decide) ?_
      refine r_push zi_68_36 rfl ?_
      refine r_b5 zi_68_37 rfl ?_
      refine r_b3 zi_68_38 rfl ?_
      refine r_if1 zi_68_39 rfl (fun _ => ?_) (fun c => absurd c hz)
      refine r_in4 zi_68_49 rfl ?_
      rw [show (nI p + 1 : Int32) = nI (p + 1) from nI_add _ _]
      refine r_goto zi_68_52 rfl ?_
      exact ih (p + 1) _ _ (by omega) (by rw [e1, hs])
theorem s_trap {d g : Nat} {σ : zS} {Q : Int32 → zS → Prop} (hg : g < 12) (h : Q (ztr (σ 28) (σ 182) g) σ) : zI1 d 68 [.ref 177, .ref 27, .int (nI g)] σ Q := by
  show zk _ _ 0 [.ref 177, .ref 27, .int (nI g), zun, zun, zun] [] _ _
  refine r_push zi_68_0 rfl ?_
  refine r_il2 zi_68_1 rfl ?_
  refine r_b6 zi_68_2 rfl ?_
  refine r_is3 zi_68_3 rfl ?_
  refine r_push zi_68_4 rfl ?_
  refine r_is4 zi_68_5 rfl ?_
  exact l_trap hg h 12 0 _ _ (by omega) (by show _ = _ ||| 0; rw [Int32.or_zero])
theorem l_boa {d g : Nat} {σ : zS} {Q : Int32 → zS → Prop} (hg : g < 12) (h : Q (zor (σ 183) (σ 28 g) (σ 183 g) 12) σ) : ∀ (m p : Nat) (s : Int32), p + m = 12 → s = zor (σ 183) (σ 28 g) (σ 183 g) p → zk d 69 10 [.ref 177, .ref 27, .int (nI g), .int s, .int (nI p)] [] σ (fun r t => ∃ v, r = some v ∧ Q v t) := by
  intro m
  induction m with
  | zero =>
    intro p s hp hs
    have e12 : p = 12 := by omega
    subst e12
    refine r_il4 zi_69_10 rfl ?_
    refine r_push zi_69_12 rfl ?_
    refine r_ic3 zi_69_14 rfl (fun _ => ?_) (fun c => absurd (by decide) c)
    refine r_il3 zi_69_47 rfl ?_
    refine r_retI zi_69_48 rfl ?_
    exact ⟨_, rfl, by rw [hs]; exact h⟩
  | succ m ih =>
    intro p s hp hs
    by_cases hz : σ 28 g >>> (nI p &&& 31) &&& 1 = 1
    · refine r_il4 zi_69_10 rfl ?_
      refine r_push zi_69_12 rfl ?_
      refine n_ic3 (i := p) (j := 12) zi_69_14 rfl (by omega) (by omega) (fun c => absurd c (by omega)) (fun _ => ?_)
      refine r_al1 zi_69_17 rfl ?_
      refine q_getR zi_69_18 rfl cf_27_0 ?_
      refine r_il2 zi_69_21 rfl ?_
      refine r_ald zi_69_22 rfl g ca_28 (by first | rfl | (simp only [zI_add, zI_mul] <;> rfl)) (by first | omega | decide) ?_
      refine r_il4 zi_69_23 rfl ?_
      refine r_b7 zi_69_25 rfl ?_
      refine r_push zi_69_26 rfl ?_
      refine r_b3 zi_69_27 rfl ?_
      refine r_if0 zi_69_28 rfl (fun c => absurd c (by rw [hz]; decide)) (fun _ => ?_)
      refine r_il3 zi_69_31 rfl ?_
      refine r_al0 zi_69_32 rfl ?_
      refine q_getR zi_69_33 rfl cf_177_6 ?_
      refine r_il4 zi_69_36 rfl ?_
      refine r_ald zi_69_38 rfl p ca_183 (by first | rfl | (simp only [zI_add, zI_mul] <;> rfl)) (by first | omega | decide) ?_
      refine r_b4 zi_69_39 rfl ?_
      refine r_is3 zi_69_40 rfl ?_
      refine r_in4 zi_69_41 rfl ?_
      rw [show (nI p + 1 : Int32) = nI (p + 1) from nI_add _ _]
      refine r_goto zi_69_44 rfl ?_
      exact ih (p + 1) _ (by omega) (by rw [hs]; exact (if_pos (decide_eq_true hz)).symm)
    · have h0 := (un_and1 (σ 28 g >>> (nI p &&& 31))).resolve_right hz
      refine r_il4 zi_69_10 rfl ?_
      refine r_push zi_69_12 rfl ?_
      refine n_ic3 (i := p) (j := 12) zi_69_14 rfl (by omega) (by omega) (fun c => absurd c (by omega)) (fun _ => ?_)
      refine r_al1 zi_69_17 rfl ?_
      refine q_getR zi_69_18 rfl cf_27_0 ?_
      refine r_il2 zi_69_21 rfl ?_
      refine r_ald zi_69_22 rfl g ca_28 (by first | rfl | (simp only [zI_add, zI_mul] <;> rfl)) (by first | omega | decide) ?_
      refine r_il4 zi_69_23 rfl ?_
      refine r_b7 zi_69_25 rfl ?_
      refine r_push zi_69_26 rfl ?_
      refine r_b3 zi_69_27 rfl ?_
      refine r_if0 zi_69_28 rfl (fun _ => ?_) (fun c => absurd h0 c)
      refine r_in4 zi_69_41 rfl ?_
      rw [show (nI p + 1 : Int32) = nI (p + 1) from nI_add _ _]
      refine r_goto zi_69_44 rfl ?_
      exact ih (p + 1) _ (by omega) (by rw [hs]; exact (if_neg (fun z => hz (of_decide_eq_true z))).symm)
theorem s_boa {d g : Nat} {σ : zS} {Q : Int32 → zS → Prop} (hg : g < 12) (h : Q (zor (σ 183) (σ 28 g) (σ 183 g) 12) σ) : zI1 d 69 [.ref 177, .ref 27, .int (nI g)] σ Q := by
  show zk _ _ 0 [.ref 177, .ref 27, .int (nI g), zun, zun] [] _ _
  refine r_al0 zi_69_0 rfl ?_
  refine q_getR zi_69_1 rfl cf_177_6 ?_
  refine r_il2 zi_69_4 rfl ?_
  refine r_ald zi_69_5 rfl g ca_183 (by first | rfl | (simp only [zI_add, zI_mul] <;> rfl)) (by first | omega | decide) ?_
  refine r_is3 zi_69_6 rfl ?_
  refine r_push zi_69_7 rfl ?_
  refine r_is4 zi_69_8 rfl ?_
  exact l_boa hg h 12 0 _ (by omega) rfl
theorem ztr_c {B C D : Nat → Int32} {g : Nat} (h : C g = D g) : ztr B C g = ztr B D g := by unfold ztr; rw [h]
theorem zor_c {B D : Nat → Int32} {s a : Int32} : ∀ n, (∀ p, p < n → B p = D p) → zor B s a n = zor D s a n
  | 0, _ => rfl
  | n + 1, h => by
    simp only [zor]
    rw [zor_c n (fun p hp => h p (by omega)), h n (by omega)]
theorem l_hu1 {d n : Nat} {σ : zS} {R : Option Int32 → zS → Prop} {p q w : Int32} {u7 : Value} (hC : ∀ g, g < 12 → σ 182 g = zcf (σ 28) n g) (h : ∀ τ, Fr [183] σ τ → (∀ g, g < 12 → τ 183 g = ztr (σ 28) (zcf (σ 28) n) g) → zk (d + 1) 67 98 [.ref 177, .ref 27, .int p, .int q, .int w, .int (nI n), .int (nI 12), u7] [] τ R) : ∀ (m g : Nat) (τ : zS), g + m = 12 → Fr [183] σ τ → (∀ k, k < g → τ 183 k = ztr (σ 28) (zcf (σ 28) n) k) → zk (d + 1) 67 71 [.ref 177, .ref 27, .int p, .int q, .int w, .int (nI n), .int (nI g), u7] [] τ R := by
  intro m
  induction m with
  | zero =>
    intro g τ hg hF hv
    have e12 : g = 12 := by omega
    subst e12
    refine r_il6 zi_67_71 rfl ?_
    refine r_push zi_67_73 rfl ?_
    refine r_ic3 zi_67_75 rfl (fun _ => ?_) (fun c => absurd (by decide) c)
    exact h _ hF hv
  | succ m ih =>
    intro g τ hg hF hv
    have e1 : τ 28 = σ 28 := funext fun b => hF 28 (by decide) b
    have e2 : ztr (τ 28) (τ 182) g = ztr (σ 28) (zcf (σ 28) n) g := by rw [e1]; exact ztr_c ((hF 182 (by decide) g).trans (hC g (by omega)))
    refine r_il6 zi_67_71 rfl ?_
    refine r_push zi_67_73 rfl ?_
    refine n_ic3 (i := g) (j := 12) zi_67_75 rfl (by omega) (by omega) (fun c => absurd c (by omega)) (fun _ => ?_)
    refine r_al0 zi_67_78 rfl ?_
    refine q_getR zi_67_79 rfl cf_177_6 ?_
    refine r_il6 zi_67_82 rfl ?_
    refine r_al0 zi_67_84 rfl ?_
    refine r_al1 zi_67_85 rfl ?_
    refine r_il6 zi_67_86 rfl ?_
    refine q_cIV zi_67_88 rfl rfl rfl rfl rfl rfl rfl cf_177_0.ob (s_trap (by omega) ?_)
    show zk _ _ 91 _ _ _ _
    refine r_ast zi_67_91 rfl g ca_183 (by first | rfl | (simp only [zI_add, zI_mul] <;> rfl)) (by first | omega | decide) ?_
    refine r_in6 zi_67_92 rfl ?_
    rw [show (nI g + 1 : Int32) = nI (g + 1) from nI_add _ _]
    refine r_goto zi_67_95 rfl ?_
    rw [e2]
    refine ih (g + 1) _ (by omega) (hF.put (by decide)) (fun k hk => ?_)
    rw [up_rd]
    by_cases e : k = g
    · rw [if_pos ⟨rfl, e⟩, e]
    · rw [if_neg (fun z => e z.2)]; exact hv k (by omega)
theorem l_hu2 {d n : Nat} {σ : zS} {R : Option Int32 → zS → Prop} {p q : Int32} (hT : ∀ g, g < 12 → σ 183 g = ztr (σ 28) (zcf (σ 28) n) g) (h : ∀ τ w u7, Fr [182] σ τ → (∀ g, g < 12 → τ 182 g = zcf (σ 28) (n + 1) g) → ((w = 0 ∧ ∀ g, g < 12 → zcf (σ 28) (n + 1) g = zcf (σ 28) n g) ∨ (w = 1 ∧ ∃ g, g < 12 ∧ zcf (σ 28) (n + 1) g ≠ zcf (σ 28) n g)) → zk (d + 1) 67 167 [.ref 177, .ref 27, .int p, .int q, .int w, .int (nI n), .int (nI 12), u7] [] τ R) : ∀ (m g : Nat) (τ : zS) (w : Int32) (u7 : Value), g + m = 12 → Fr [182] σ τ → (∀ k, k < 12 → τ 182 k = if k < g then zcf (σ 28) (n + 1) k else zcf (σ 28) n k) → ((w = 0 ∧ ∀ k, k < g → zcf (σ 28) (n + 1) k = zcf (σ 28) n k) ∨ (w = 1 ∧ ∃ k, k < g ∧ zcf (σ 28) (n + 1) k ≠ zcf (σ 28) n k)) → zk (d + 1) 67 104 [.ref 177, .ref 27, .int p, .int q, .int w, .int (nI n), .int (nI g), u7] [] τ R := by
  intro m
  induction m with
  | zero =>
    intro g τ w u7 hg hF hv hw
    have e12 : g = 12 := by omega
    subst e12
    refine r_il6 zi_67_104 rfl ?_
    refine r_push zi_67_106 rfl ?_
    refine r_ic3 zi_67_108 rfl (fun _ => ?_) (fun c => absurd (by decide) c)
    exact h _ _ _ hF (fun k hk => by rw [hv k hk, if_pos hk]) hw
  | succ m ih =>
    intro g τ w u7 hg hF hv hw
    have e1 : τ 28 = σ 28 := funext fun b => hF 28 (by decide) b
    have e3 : τ 183 = σ 183 := funext fun b => hF 183 (by decide) b
    have e4 : τ 182 g = zcf (σ 28) n g := by rw [hv g (by omega), if_neg (by omega)]
    have e2 : zcf (σ 28) n g ||| zor (τ 183) (τ 28 g) (τ 183 g) 12 = zcf (σ 28) (n + 1) g := by
      rw [e1, e3, zor_c 12 hT, hT g (by omega)]; rfl
    have hnew : ∀ k, k < 12 → up τ 182 g (zcf (σ 28) (n + 1) g) 182 k = if k < g + 1 then zcf (σ 28) (n + 1) k else zcf (σ 28) n k := fun k hk => by
      rw [up_rd]
      by_cases e : k = g
      · subst e; rw [if_pos ⟨rfl, rfl⟩, if_pos (by omega)]
      · rw [if_neg (fun z => e z.2), hv k hk]
        by_cases e5 : k < g
        · rw [if_pos e5, if_pos (by omega)]
        · rw [if_neg e5, if_neg (by omega)]
    rcases hw with ⟨hw0, hw1⟩ | ⟨hw0, hw1⟩
    · subst hw0
      by_cases hc : zcf (σ 28) (n + 1) g = zcf (σ 28) n g
      · refine r_il6 zi_67_104 rfl ?_
        refine r_push zi_67_106 rfl ?_
        refine n_ic3 (i := g) (j := 12) zi_67_108 rfl (by omega) (by omega) (fun c => absurd c (by omega)) (fun _ => ?_)
        refine r_al0 zi_67_111 rfl ?_
        refine q_getR zi_67_112 rfl cf_177_5 ?_
        refine r_il6 zi_67_115 rfl ?_
        refine r_ald zi_67_117 rfl g ca_182 (by first | rfl | (simp only [zI_add, zI_mul] <;> rfl)) (by first | omega | decide) ?_
        rw [e4]
        refine r_al0 zi_67_118 rfl ?_
        refine r_al1 zi_67_119 rfl ?_
        refine r_il6 zi_67_120 rfl ?_
        refine q_cIV zi_67_122 rfl rfl rfl rfl rfl rfl rfl cf_177_0.ob (s_boa (by omega) ?_)
        show zk _ _ 125 _ _ _ _
        refine r_b4 zi_67_125 rfl ?_
        rw [e2]
        refine r_is7 zi_67_126 rfl ?_
        refine r_il4 zi_67_128 rfl ?_
        refine r_if1 zi_67_130 rfl (fun c => absurd (by decide) c) (fun _ => ?_)
        refine r_il7 zi_67_133 rfl ?_
        refine r_al0 zi_67_135 rfl ?_
        refine q_getR zi_67_136 rfl cf_177_5 ?_
        refine r_il6 zi_67_139 rfl ?_
        refine r_ald zi_67_141 rfl g ca_182 (by first | rfl | (simp only [zI_add, zI_mul] <;> rfl)) (by first | omega | decide) ?_
        rw [e4]
        refine r_ic0 zi_67_142 rfl (fun _ => ?_) (fun c => absurd hc c)
        refine r_push zi_67_149 rfl ?_
        refine r_is4 zi_67_150 rfl ?_
        refine r_al0 zi_67_152 rfl ?_
        refine q_getR zi_67_153 rfl cf_177_5 ?_
        refine r_il6 zi_67_156 rfl ?_
        refine r_il7 zi_67_158 rfl ?_
        refine r_ast zi_67_160 rfl g ca_182 (by first | rfl | (simp only [zI_add, zI_mul] <;> rfl)) (by first | omega | decide) ?_
        refine r_in6 zi_67_161 rfl ?_
        rw [show (nI g + 1 : Int32) = nI (g + 1) from nI_add _ _]
        refine r_goto zi_67_164 rfl ?_
        exact ih (g + 1) _ _ _ (by omega) (hF.put (by decide)) hnew (Or.inl ⟨rfl, fun k hk => by by_cases e : k = g; (rw [e]; exact hc); exact hw1 k (by omega)⟩)
      · refine r_il6 zi_67_104 rfl ?_
        refine r_push zi_67_106 rfl ?_
        refine n_ic3 (i := g) (j := 12) zi_67_108 rfl (by omega) (by omega) (fun c => absurd c (by omega)) (fun _ => ?_)
        refine r_al0 zi_67_111 rfl ?_
        refine q_getR zi_67_112 rfl cf_177_5 ?_
        refine r_il6 zi_67_115 rfl ?_
        refine r_ald zi_67_117 rfl g ca_182 (by first | rfl | (simp only [zI_add, zI_mul] <;> rfl)) (by first | omega | decide) ?_
        rw [e4]
        refine r_al0 zi_67_118 rfl ?_
        refine r_al1 zi_67_119 rfl ?_
        refine r_il6 zi_67_120 rfl ?_
        refine q_cIV zi_67_122 rfl rfl rfl rfl rfl rfl rfl cf_177_0.ob (s_boa (by omega) ?_)
        show zk _ _ 125 _ _ _ _
        refine r_b4 zi_67_125 rfl ?_
        rw [e2]
        refine r_is7 zi_67_126 rfl ?_
        refine r_il4 zi_67_128 rfl ?_
        refine r_if1 zi_67_130 rfl (fun c => absurd (by decide) c) (fun _ => ?_)
        refine r_il7 zi_67_133 rfl ?_
        refine r_al0 zi_67_135 rfl ?_
        refine q_getR zi_67_136 rfl cf_177_5 ?_
        refine r_il6 zi_67_139 rfl ?_
        refine r_ald zi_67_141 rfl g ca_182 (by first | rfl | (simp only [zI_add, zI_mul] <;> rfl)) (by first | omega | decide) ?_
        rw [e4]
        refine r_ic0 zi_67_142 rfl (fun c => absurd c hc) (fun _ => ?_)
        refine r_push zi_67_145 rfl ?_
        refine r_goto zi_67_146 rfl ?_
        refine r_is4 zi_67_150 rfl ?_
        refine r_al0 zi_67_152 rfl ?_
        refine q_getR zi_67_153 rfl cf_177_5 ?_
        refine r_il6 zi_67_156 rfl ?_
        refine r_il7 zi_67_158 rfl ?_
        refine r_ast zi_67_160 rfl g ca_182 (by first | rfl | (simp only [zI_add, zI_mul] <;> rfl)) (by first | omega | decide) ?_
        refine r_in6 zi_67_161 rfl ?_
        rw [show (nI g + 1 : Int32) = nI (g + 1) from nI_add _ _]
        refine r_goto zi_67_164 rfl ?_
        exact ih (g + 1) _ _ _ (by omega) (hF.put (by decide)) hnew (Or.inr ⟨rfl, g, by omega, hc⟩)
    · subst hw0
      obtain ⟨k, hk, hne⟩ := hw1
      refine r_il6 zi_67_104 rfl ?_
      refine r_push zi_67_106 rfl ?_
      refine n_ic3 (i := g) (j := 12) zi_67_108 rfl (by omega) (by omega) (fun c => absurd c (by omega)) (fun _ => ?_)
      refine r_al0 zi_67_111 rfl ?_
      refine q_getR zi_67_112 rfl cf_177_5 ?_
      refine r_il6 zi_67_115 rfl ?_
      refine r_ald zi_67_117 rfl g ca_182 (by first | rfl | (simp only [zI_add, zI_mul] <;> rfl)) (by first | omega | decide) ?_
      rw [e4]
      refine r_al0 zi_67_118 rfl ?_
      refine r_al1 zi_67_119 rfl ?_
      refine r_il6 zi_67_120 rfl ?_
      refine q_cIV zi_67_122 rfl rfl rfl rfl rfl rfl rfl cf_177_0.ob (s_boa (by omega) ?_)
      show zk _ _ 125 _ _ _ _
      refine r_b4 zi_67_125 rfl ?_
      rw [e2]
      refine r_is7 zi_67_126 rfl ?_
      refine r_il4 zi_67_128 rfl ?_
      refine r_if1 zi_67_130 rfl (fun _ => ?_) (fun c => absurd c (by decide))
      refine r_push zi_67_145 rfl ?_
      refine r_goto zi_67_146 rfl ?_
      refine r_is4 zi_67_150 rfl ?_
      refine r_al0 zi_67_152 rfl ?_
      refine q_getR zi_67_153 rfl cf_177_5 ?_
      refine r_il6 zi_67_156 rfl ?_
      refine r_il7 zi_67_158 rfl ?_
      refine r_ast zi_67_160 rfl g ca_182 (by first | rfl | (simp only [zI_add, zI_mul] <;> rfl)) (by first | omega | decide) ?_
      refine r_in6 zi_67_161 rfl ?_
      rw [show (nI g + 1 : Int32) = nI (g + 1) from nI_add _ _]
      refine r_goto zi_67_164 rfl ?_
      exact ih (g + 1) _ _ _ (by omega) (hF.put (by decide)) hnew (Or.inr ⟨rfl, k, by omega, hne⟩)
theorem l_hu3 {d n : Nat} {σ : zS} {R : Option Int32 → zS → Prop} {p q w : Int32} {u6 u7 : Value} (hn : n ≤ 144) (hC : ∀ g, g < 12 → σ 182 g = zcf (σ 28) n g) (h : ∀ τ w u6 u7, Fr [182, 183] σ τ → (∀ g, g < 12 → τ 182 g = zcf (σ 28) (n + 1) g) → ((w = 0 ∧ zfx (σ 28) n) ∨ (w = 1 ∧ ¬ zfx (σ 28) n)) → zk (d + 1) 67 33 [.ref 177, .ref 27, .int p, .int q, .int w, .int (nI (n + 1)), u6, u7] [] τ R) : zk (d + 1) 67 68 [.ref 177, .ref 27, .int p, .int q, .int w, .int (nI n), u6, u7] [] σ R := by
  refine r_push zi_67_68 rfl ?_
  refine r_is6 zi_67_69 rfl ?_
  refine l_hu1 hC (fun τ hF hT => ?_) 12 0 σ (by omega) Fr.rf (fun k hk => by omega)
  show zk _ _ 98 _ _ _ _
  refine r_push zi_67_98 rfl ?_
  refine r_is4 zi_67_99 rfl ?_
  refine r_push zi_67_101 rfl ?_
  refine r_is6 zi_67_102 rfl ?_
  have e1 : τ 28 = σ 28 := funext fun b => hF 28 (by decide) b
  rw [← e1] at hC hT h
  refine l_hu2 hT (fun τ2 w2 u72 hF2 hv2 hw2 => ?_) 12 0 τ 0 _ (by omega) Fr.rf (fun k hk => by rw [if_neg (by omega), hF 182 (by decide) k, hC k hk]) (Or.inl ⟨rfl, fun k hk => by omega⟩)
  show zk _ _ 167 _ _ _ _
  refine r_in5 zi_67_167 rfl ?_
  rw [show (nI n + 1 : Int32) = nI (n + 1) from nI_add _ _]
  refine r_goto zi_67_170 rfl ?_
  refine h _ _ _ _ ((hF.sub (by simp)).tr (hF2.sub (by simp))) hv2 ?_
  rcases hw2 with ⟨a, b⟩ | ⟨a, k, hk, hne⟩
  · exact Or.inl ⟨a, b⟩
  · exact Or.inr ⟨a, fun z => hne (z k hk)⟩
theorem l_huq {d p q N : Nat} {σ : zS} {Q : Int32 → zS → Prop} (hB : zBok (σ 28)) (hp : p < 12) (hq : q < 12) (hN : N ≤ 144) (hfx : zfx (σ 28) N) (hnf : ∀ n, n < N → ¬ zfx (σ 28) n) (h : ∀ τ, Fr [182, 183] σ τ → Q (if zvs (σ 28) N p q = 100000000 then -1 else nI (zvs (σ 28) N p q)) τ) : ∀ (m n : Nat) (τ : zS) (w : Int32) (u6 u7 : Value), n + m = N + 1 → Fr [182, 183] σ τ → (∀ g, g < 12 → τ 182 g = zcf (σ 28) n g) → ((w = 0 ∧ n = N + 1) ∨ (w = 1 ∧ n ≤ N)) → (∀ s, s < n → ¬ zcb (σ 28) s p q) → zk (d + 2) 67 33 [.ref 177, .ref 27, .int (nI p), .int (nI q), .int w, .int (nI n), u6, u7] [] τ (fun r t => ∃ v, r = some v ∧ Q v t) := by
  have hI := zvs_inv hB N (by omega) p q hp hq
  intro m
  induction m with
  | zero =>
    intro n τ w u6 u7 hm hF hC hw hs
    have hw0 : w = 0 := by rcases hw with ⟨a, _⟩ | ⟨_, b⟩; exact a; omega
    subst hw0
    have hv : zvs (σ 28) N p q = 100000000 := by
      rcases hI.2 with z | z
      · exact absurd ((hI.1 _ z).mp (Nat.le_refl _)) (hs _ (by omega))
      · exact z
    have hne : ¬ nI q = -1 := fun z => absurd (nI_pos' (n := q) (by omega)) (by rw [z]; decide)
    rw [hv, if_pos rfl] at h
    by_cases hn : 144 < n
    · refine r_il5 zi_67_33 rfl ?_
      refine r_push zi_67_35 rfl ?_
      refine n_ic4 (i := n) (j := 144) zi_67_38 rfl (by omega) (by omega) (fun _ => ?_) (fun c => absurd c (by omega))
      refine r_il3 zi_67_173 rfl ?_
      refine r_push zi_67_174 rfl ?_
      refine r_ic1 zi_67_175 rfl (fun _ => ?_) (fun c => absurd c hne)
      refine r_push zi_67_190 rfl ?_
      refine r_retI zi_67_191 rfl ?_
      exact ⟨_, rfl, h _ hF⟩
    · refine r_il5 zi_67_33 rfl ?_
      refine r_push zi_67_35 rfl ?_
      refine n_ic4 (i := n) (j := 144) zi_67_38 rfl (by omega) (by omega) (fun c => absurd c (by omega)) (fun _ => ?_)
      refine r_il4 zi_67_41 rfl ?_
      refine r_if0 zi_67_43 rfl (fun _ => ?_) (fun c => absurd (by decide) c)
      refine r_il3 zi_67_173 rfl ?_
      refine r_push zi_67_174 rfl ?_
      refine r_ic1 zi_67_175 rfl (fun _ => ?_) (fun c => absurd c hne)
      refine r_push zi_67_190 rfl ?_
      refine r_retI zi_67_191 rfl ?_
      exact ⟨_, rfl, h _ hF⟩
  | succ m ih =>
    intro n τ w u6 u7 hm hF hC hw hs
    have hw1 : w = 1 := by rcases hw with ⟨_, a⟩ | ⟨b, _⟩; omega; exact b
    subst hw1
    have e1 : τ 28 = σ 28 := funext fun b => hF 28 (by decide) b
    have hne : ¬ nI q = -1 := fun z => absurd (nI_pos' (n := q) (by omega)) (by rw [z]; decide)
    have ep := hC p hp
    by_cases hz : zcb (σ 28) n p q
    · have hz' := of_decide_eq_true hz
      have hv : zvs (σ 28) N p q = n := by
        have a := (hI.1 n (by omega)).mpr hz
        by_cases e : zvs (σ 28) N p q = n
        · exact e
        · exact absurd ((hI.1 _ (by omega)).mp (Nat.le_refl _)) (hs _ (by omega))
      rw [hv, if_neg (by omega)] at h
      refine r_il5 zi_67_33 rfl ?_
      refine r_push zi_67_35 rfl ?_
      refine n_ic4 (i := n) (j := 144) zi_67_38 rfl (by omega) (by omega) (fun c => absurd c (by omega)) (fun _ => ?_)
      refine r_il4 zi_67_41 rfl ?_
      refine r_if0 zi_67_43 rfl (fun c => absurd c (by decide)) (fun _ => ?_)
      refine r_il3 zi_67_46 rfl ?_
      refine r_push zi_67_47 rfl ?_
      refine r_ic0 zi_67_48 rfl (fun c => absurd c hne) (fun _ => ?_)
      refine r_al0 zi_67_51 rfl ?_
      refine q_getR zi_67_52 rfl cf_177_5 ?_
      refine r_il2 zi_67_55 rfl ?_
      refine r_ald zi_67_56 rfl p ca_182 (by first | rfl | (simp only [zI_add, zI_mul] <;> rfl)) (by first | omega | decide) ?_
      rw [ep]
      refine r_il3 zi_67_57 rfl ?_
      refine r_b7 zi_67_58 rfl ?_
      refine r_push zi_67_59 rfl ?_
      refine r_b3 zi_67_60 rfl ?_
      refine r_push zi_67_61 rfl ?_
      refine r_ic1 zi_67_62 rfl (fun c => absurd hz' c) (fun _ => ?_)
      refine r_il5 zi_67_65 rfl ?_
      refine r_retI zi_67_67 rfl ?_
      exact ⟨_, rfl, h _ hF⟩
    · have hz' : ¬ zcf (σ 28) n p >>> (nI q &&& 31) &&& 1 = 1 := fun z => hz (decide_eq_true z)
      refine r_il5 zi_67_33 rfl ?_
      refine r_push zi_67_35 rfl ?_
      refine n_ic4 (i := n) (j := 144) zi_67_38 rfl (by omega) (by omega) (fun c => absurd c (by omega)) (fun _ => ?_)
      refine r_il4 zi_67_41 rfl ?_
      refine r_if0 zi_67_43 rfl (fun c => absurd c (by decide)) (fun _ => ?_)
      refine r_il3 zi_67_46 rfl ?_
      refine r_push zi_67_47 rfl ?_
      refine r_ic0 zi_67_48 rfl (fun c => absurd c hne) (fun _ => ?_)
      refine r_al0 zi_67_51 rfl ?_
      refine q_getR zi_67_52 rfl cf_177_5 ?_
      refine r_il2 zi_67_55 rfl ?_
      refine r_ald zi_67_56 rfl p ca_182 (by first | rfl | (simp only [zI_add, zI_mul] <;> rfl)) (by first | omega | decide) ?_
      rw [ep]
      refine r_il3 zi_67_57 rfl ?_
      refine r_b7 zi_67_58 rfl ?_
      refine r_push zi_67_59 rfl ?_
      refine r_b3 zi_67_60 rfl ?_
      refine r_push zi_67_61 rfl ?_
      refine r_ic1 zi_67_62 rfl (fun _ => ?_) (fun c => absurd c hz')
      refine l_hu3 (σ := τ) (by omega) (by rw [e1]; exact hC) (fun τ2 w2 u62 u72 hF2 hv2 hw2 => ?_)
      rw [e1] at hv2 hw2
      refine ih (n + 1) τ2 w2 _ _ (by omega) (hF.tr hF2) hv2 ?_ (fun s hs2 => ?_)
      · rcases hw2 with ⟨a, b⟩ | ⟨a, b⟩
        · exact Or.inl ⟨a, by by_cases e : n < N; exact absurd b (hnf n e); omega⟩
        · exact Or.inr ⟨a, by by_cases e : n = N; exact absurd (e ▸ hfx) b; omega⟩
      · by_cases e : s = n
        · rw [e]; exact hz
        · exact hs s (by omega)
theorem l_hun {d p N : Nat} {σ : zS} {Q : Int32 → zS → Prop} (hp : p < 12) (hN : N ≤ 144) (hfx : zfx (σ 28) N) (hnf : ∀ n, n < N → ¬ zfx (σ 28) n) (h : ∀ τ, Fr [182, 183] σ τ → Q (nI (zpop (zcf (σ 28) N p))) τ) : ∀ (m n : Nat) (τ : zS) (w : Int32) (u6 u7 : Value), n + m = N + 1 → Fr [182, 183] σ τ → (∀ g, g < 12 → τ 182 g = zcf (σ 28) n g) → ((w = 0 ∧ n = N + 1) ∨ (w = 1 ∧ n ≤ N)) → zk (d + 2) 67 33 [.ref 177, .ref 27, .int (nI p), .int (-1), .int w, .int (nI n), u6, u7] [] τ (fun r t => ∃ v, r = some v ∧ Q v t) := by
  intro m
  induction m with
  | zero =>
    intro n τ w u6 u7 hm hF hC hw
    have hw0 : w = 0 := by rcases hw with ⟨a, _⟩ | ⟨_, b⟩; exact a; omega
    subst hw0
    have ep := hC p hp
    rw [show n = N + 1 by omega, hfx p hp] at ep
    by_cases hn : 144 < n
    · refine r_il5 zi_67_33 rfl ?_
      refine r_push zi_67_35 rfl ?_
      refine n_ic4 (i := n) (j := 144) zi_67_38 rfl (by omega) (by omega) (fun _ => ?_) (fun c => absurd c (by omega))
      refine r_il3 zi_67_173 rfl ?_
      refine r_push zi_67_174 rfl ?_
      refine r_ic1 zi_67_175 rfl (fun c => absurd (by decide) c) (fun _ => ?_)
      refine r_al0 zi_67_178 rfl ?_
      refine q_getR zi_67_179 rfl cf_177_5 ?_
      refine r_il2 zi_67_182 rfl ?_
      refine r_ald zi_67_183 rfl p ca_182 (by first | rfl | (simp only [zI_add, zI_mul] <;> rfl)) (by first | omega | decide) ?_
      rw [ep]
      refine r_cIS zi_67_184 rfl rfl rfl rfl rfl rfl (s_bits ?_)
      show zk _ _ 187 _ _ _ _
      refine r_goto zi_67_187 rfl ?_
      refine r_retI zi_67_191 rfl ?_
      exact ⟨_, rfl, h _ hF⟩
    · refine r_il5 zi_67_33 rfl ?_
      refine r_push zi_67_35 rfl ?_
      refine n_ic4 (i := n) (j := 144) zi_67_38 rfl (by omega) (by omega) (fun c => absurd c (by omega)) (fun _ => ?_)
      refine r_il4 zi_67_41 rfl ?_
      refine r_if0 zi_67_43 rfl (fun _ => ?_) (fun c => absurd (by decide) c)
      refine r_il3 zi_67_173 rfl ?_
      refine r_push zi_67_174 rfl ?_
      refine r_ic1 zi_67_175 rfl (fun c => absurd (by decide) c) (fun _ => ?_)
      refine r_al0 zi_67_178 rfl ?_
      refine q_getR zi_67_179 rfl cf_177_5 ?_
      refine r_il2 zi_67_182 rfl ?_
      refine r_ald zi_67_183 rfl p ca_182 (by first | rfl | (simp only [zI_add, zI_mul] <;> rfl)) (by first | omega | decide) ?_
      rw [ep]
      refine r_cIS zi_67_184 rfl rfl rfl rfl rfl rfl (s_bits ?_)
      show zk _ _ 187 _ _ _ _
      refine r_goto zi_67_187 rfl ?_
      refine r_retI zi_67_191 rfl ?_
      exact ⟨_, rfl, h _ hF⟩
  | succ m ih =>
    intro n τ w u6 u7 hm hF hC hw
    have hw1 : w = 1 := by rcases hw with ⟨_, a⟩ | ⟨b, _⟩; omega; exact b
    subst hw1
    have e1 : τ 28 = σ 28 := funext fun b => hF 28 (by decide) b
    refine r_il5 zi_67_33 rfl ?_
    refine r_push zi_67_35 rfl ?_
    refine n_ic4 (i := n) (j := 144) zi_67_38 rfl (by omega) (by omega) (fun c => absurd c (by omega)) (fun _ => ?_)
    refine r_il4 zi_67_41 rfl ?_
    refine r_if0 zi_67_43 rfl (fun c => absurd c (by decide)) (fun _ => ?_)
    refine r_il3 zi_67_46 rfl ?_
    refine r_push zi_67_47 rfl ?_
    refine r_ic0 zi_67_48 rfl (fun _ => ?_) (fun c => absurd (by decide) c)
    refine l_hu3 (σ := τ) (by omega) (by rw [e1]; exact hC) (fun τ2 w2 u62 u72 hF2 hv2 hw2 => ?_)
    rw [e1] at hv2 hw2
    refine ih (n + 1) τ2 w2 _ _ (by omega) (hF.tr hF2) hv2 ?_
    rcases hw2 with ⟨a, b⟩ | ⟨a, b⟩
    · exact Or.inl ⟨a, by by_cases e : n < N; exact absurd b (hnf n e); omega⟩
    · exact Or.inr ⟨a, by by_cases e : n = N; exact absurd (e ▸ hfx) b; omega⟩
theorem l_hu0 {d : Nat} {σ : zS} {R : Option Int32 → zS → Prop} {p q : Int32} (h : ∀ τ, Fr [182, 183] σ τ → (∀ g, g < 12 → τ 182 g = zcf (σ 28) 0 g) → zk d 67 33 [.ref 177, .ref 27, .int p, .int q, .int 1, .int (nI 0), zun, zun] [] τ R) : ∀ (m g : Nat) (τ : zS), g + m = 12 → Fr [182, 183] σ τ → (∀ k, k < g → τ 182 k = zcf (σ 28) 0 k) → zk d 67 3 [.ref 177, .ref 27, .int p, .int q, .int (nI g), zun, zun, zun] [] τ R := by
  intro m
  induction m with
  | zero =>
    intro g τ hg hF hv
    have e12 : g = 12 := by omega
    subst e12
    refine r_il4 zi_67_3 rfl ?_
    refine r_push zi_67_5 rfl ?_
    refine r_ic3 zi_67_7 rfl (fun _ => ?_) (fun c => absurd (by decide) c)
    refine r_push zi_67_27 rfl ?_
    refine r_is4 zi_67_28 rfl ?_
    refine r_push zi_67_30 rfl ?_
    refine r_is5 zi_67_31 rfl ?_
    exact h _ hF hv
  | succ m ih =>
    intro g τ hg hF hv
    refine r_il4 zi_67_3 rfl ?_
    refine r_push zi_67_5 rfl ?_
    refine n_ic3 (i := g) (j := 12) zi_67_7 rfl (by omega) (by omega) (fun c => absurd c (by omega)) (fun _ => ?_)
    refine r_al0 zi_67_10 rfl ?_
    refine q_getR zi_67_11 rfl cf_177_5 ?_
    refine r_il4 zi_67_14 rfl ?_
    refine r_push zi_67_16 rfl ?_
    refine r_il4 zi_67_17 rfl ?_
    refine r_b6 zi_67_19 rfl ?_
    refine r_ast zi_67_20 rfl g ca_182 (by first | rfl | (simp only [zI_add, zI_mul] <;> rfl)) (by first | omega | decide) ?_
    refine r_in4 zi_67_21 rfl ?_
    rw [show (nI g + 1 : Int32) = nI (g + 1) from nI_add _ _]
    refine r_goto zi_67_24 rfl ?_
    refine ih (g + 1) _ (by omega) (hF.put (by decide)) (fun k hk => ?_)
    rw [up_rd]
    by_cases e : k = g
    · rw [if_pos ⟨rfl, e⟩, e]; rfl
    · rw [if_neg (fun z => e z.2)]; exact hv k (by omega)
theorem s_kcaught {d : Nat} {σ : zS} {Q : Int32 → zS → Prop} {v w : Int32} (hB : zBok (σ 28)) (h1 : ∀ p q N, p < 12 → q < 12 → v = nI p → w = nI q → N ≤ 144 → zfx (σ 28) N → (∀ n, n < N → ¬ zfx (σ 28) n) → ∀ τ, Fr [182, 183] σ τ → Q (if zvs (σ 28) N p q = 100000000 then -1 else nI (zvs (σ 28) N p q)) τ) (h2 : ∀ p N, p < 12 → v = nI p → w = -1 → N ≤ 144 → zfx (σ 28) N → (∀ n, n < N → ¬ zfx (σ 28) n) → ∀ τ, Fr [182, 183] σ τ → Q (nI (zpop (zcf (σ 28) N p))) τ) (h0 : ¬ (0 ≤ v ∧ v < 12 ∧ (w = -1 ∨ (0 ≤ w ∧ w < 12))) → Q (-1) σ) : zI1 (d + 3) 138 [.ref 0, .int v, .int w] σ Q := by
  obtain ⟨N, hN, hfx, hnf⟩ := zfx_ex (σ 28)
  have hh : 0 ≤ v → v < 12 → (w = -1 ∨ (0 ≤ w ∧ w < 12)) → zI1 (d + 2) 67 [.ref 177, .ref 27, .int v, .int w] σ Q := by
    intro a b c
    obtain ⟨p, hp, rfl⟩ := zI_of (n := 12) a b (by omega)
    show zk _ _ 0 [.ref 177, .ref 27, .int (nI p), .int w, zun, zun, zun, zun] [] _ _
    rcases c with rfl | ⟨c1, c2⟩
    · refine r_push zi_67_0 rfl ?_
      refine r_is4 zi_67_1 rfl ?_
      exact l_hu0 (σ := σ) (fun τ hF hv => l_hun hp hN hfx hnf (h2 p N hp rfl rfl hN hfx hnf) (N + 1) 0 τ 1 _ _ (by omega) hF hv (Or.inr ⟨rfl, by omega⟩)) 12 0 σ (by omega) Fr.rf (fun k hk => by omega)
    · obtain ⟨q, hq, rfl⟩ := zI_of (n := 12) c1 c2 (by omega)
      refine r_push zi_67_0 rfl ?_
      refine r_is4 zi_67_1 rfl ?_
      exact l_hu0 (σ := σ) (fun τ hF hv => l_huq hB hp hq hN hfx hnf (h1 p q N hp hq rfl rfl hN hfx hnf) (N + 1) 0 τ 1 _ _ (by omega) hF hv (Or.inr ⟨rfl, by omega⟩) (fun s hs => by omega)) 12 0 σ (by omega) Fr.rf (fun k hk => by omega)
  show zk _ _ 0 [.ref 0, .int v, .int w] [] _ _
  refine r_il1 zi_138_0 rfl ?_
  refine r_cIS zi_138_1 rfl rfl rfl rfl rfl rfl (s_kplace (fun i1 a1 => ?_) (fun i1 => ?_))
  · show zk _ _ 4 _ _ _ _
    refine r_if0 zi_138_4 rfl (fun c => absurd c (by decide)) (fun _ => ?_)
    refine r_il2 zi_138_7 rfl ?_
    refine r_push zi_138_8 rfl ?_
    refine r_ic0 zi_138_9 rfl (fun c2 => ?_) (fun c2 => ?_)
    · refine r_al0 zi_138_21 rfl ?_
      refine q_getR zi_138_22 rfl cf_0_8 ?_
      refine r_al0 zi_138_25 rfl ?_
      refine q_getR zi_138_26 rfl cf_0_0 ?_
      refine q_getR zi_138_29 rfl cf_1_6 ?_
      refine r_il1 zi_138_32 rfl ?_
      refine r_il2 zi_138_33 rfl ?_
      refine q_cIV zi_138_34 rfl rfl rfl rfl rfl rfl rfl cf_177_0.ob ((hh (by grind) (by grind) (by grind)).mono (fun r τ hr => ?_))
      show zk _ _ 37 _ _ _ _
      refine r_retI zi_138_37 rfl ?_
      exact ⟨_, rfl, hr⟩
    · refine r_il2 zi_138_12 rfl ?_
      refine r_cIS zi_138_13 rfl rfl rfl rfl rfl rfl (s_kplace (fun i4 a4 => ?_) (fun i4 => ?_))
      · show zk _ _ 16 _ _ _ _
        refine r_if1 zi_138_16 rfl (fun _ => ?_) (fun c => absurd c (by decide))
        refine r_al0 zi_138_21 rfl ?_
        refine q_getR zi_138_22 rfl cf_0_8 ?_
        refine r_al0 zi_138_25 rfl ?_
        refine q_getR zi_138_26 rfl cf_0_0 ?_
        refine q_getR zi_138_29 rfl cf_1_6 ?_
        refine r_il1 zi_138_32 rfl ?_
        refine r_il2 zi_138_33 rfl ?_
        refine q_cIV zi_138_34 rfl rfl rfl rfl rfl rfl rfl cf_177_0.ob ((hh (by grind) (by grind) (by grind)).mono (fun r τ hr => ?_))
        show zk _ _ 37 _ _ _ _
        refine r_retI zi_138_37 rfl ?_
        exact ⟨_, rfl, hr⟩
      · show zk _ _ 16 _ _ _ _
        refine r_if1 zi_138_16 rfl (fun c => absurd (by decide) c) (fun _ => ?_)
        refine r_push zi_138_19 rfl ?_
        refine r_retI zi_138_20 rfl ?_
        exact ⟨_, rfl, h0 (by grind)⟩
  · show zk _ _ 4 _ _ _ _
    refine r_if0 zi_138_4 rfl (fun _ => ?_) (fun c => absurd (by decide) c)
    refine r_push zi_138_19 rfl ?_
    refine r_retI zi_138_20 rfl ?_
    exact ⟨_, rfl, h0 (by grind)⟩

