/-! place and of, both sides -/
noncomputable def zPl (V : zS) (n : Nat) (b : Nat → Int32) (T : zTe) (q : Nat) (f : Int32) : Int32 := if f = 0 then V 0 q else if f = 1 then V 1 q else if f = 2 then V 2 q else if f = 3 then zset (fun s => decide (V 6 s = 1) && decide (V 3 s = nI q)) n else if f = 4 then b q else if f = 5 then T 2 (zFv V n false 0 q 0) else -1
noncomputable def zQo (V : zS) (n : Nat) (T : zTe) (s : Nat) (f : Int32) : Int32 := if f = 0 then V 3 s else if f = 1 then V 4 s else if f = 2 then V 5 s else if f = 3 then V 6 s else if f = 4 then V 7 s else if f = 5 then V 8 s else if f = 6 then T 0 (zFv V n true s (un (V 3 s)) 4) else if f = 7 then T 1 (zFv V n true s (un (V 3 s)) 4) else -1
theorem zka_v {σ V : zS} {k q : Nat} {th : Bool} (h : zVk σ k th V) : zka σ k (nI q) = fun s => decide (V 6 s = 1) && decide (V 3 s = nI q) := by
  funext s
  show (decide (σ (k + 1 + 6) s = 1) && decide (σ (k + 1 + 3) s = nI q)) = _
  rw [h.1 6 (by omega), h.1 3 (by omega)]
theorem zpl_ex {p : Int32} {n : Nat} (h0 : 0 ≤ p) (h1 : p < nI n) (hn : n < 2 ^ 30) : ∃ q, q < n ∧ p = nI q := by
  obtain ⟨q, hq, e⟩ := nI_ex h0 (show p ≤ nI n by grind) hn
  refine ⟨q, ?_, e⟩
  by_cases z : q < n
  · exact z
  · have e2 : q = n := by omega
    rw [e, e2] at h1
    exact absurd h1 (by grind)
theorem s_kplaceOf {d n N : Nat} {σ V : zS} {Q : Int32 → zS → Prop} {p f : Int32} {Wd Fr' Wh To O A : Nat → Nat} {B : Nat → Int32} (hV : zVk σ 2 false V) (hg : zVg V n) (hd : zKd σ N Wd Fr' Wh To O A B) (h1 : ∀ q, q < 12 → p = nI q → ∀ τ, Fr [89, 90] σ τ → Q (zPl V n B (zTl N Wd Fr' Wh To O A) q f) τ) (h0 : ¬ (0 ≤ p ∧ p < 12) → Q (-1) σ) : zI1 (d + 3) 131 [.ref 0, .int p, .int f] σ Q := by
  show zk _ _ 0 [.ref 0, .int p, .int f, zun] [] _ _
  by_cases hp : 0 ≤ p ∧ p < 12
  · obtain ⟨q, hq, e⟩ := zpl_ex (n := 12) hp.1 hp.2 (by decide)
    have hx1 := h1 q hq e
    clear h1
    subst e
    obtain ⟨gn, gn18, _⟩ := id hg
    have hsub : σ 2 11 = nI n := (hV.2.1 11 (by decide) (by decide)).trans gn
    have v0 : σ (2 + 1 + 0) q = V 0 q := hV.1 0 (by decide) q
    have v1 : σ (2 + 1 + 1) q = V 1 q := hV.1 1 (by decide) q
    have v2 : σ (2 + 1 + 2) q = V 2 q := hV.1 2 (by decide) q
    have v4 : σ 28 q = B q := congrFun hd.2.2.1 q
    have hth : ∀ (Q2 : Int32 → zS → Prop), Q2 (zset (fun s => decide (V 6 s = 1) && decide (V 3 s = nI q)) n) σ → zI1 (d + 2) 20 [.ref 2, .int (nI q)] σ Q2 := fun Q2 h2 => s_dthose zDu_2 hsub gn18 (by rw [zka_v hV]; exact h2)
    have htl : ∀ (Q2 : Int32 → zS → Prop), (∀ υ, Fr [89, 90] σ υ → Q2 (zTl N Wd Fr' Wh To O A 2 (zFv V n false 0 q 0)) υ) → zI1 (d + 2) 24 [.ref 88, .int (nI (10000 + 2)), .int (-1), .int (nI q), .int 0] σ Q2 := fun Q2 h2 => s_tells (sb := false) (s := 0) zLa88 zDu_2 (by decide) hsub gn18 (Or.inr ⟨rfl, rfl, rfl⟩) hq hd.1 hd.2.1 (by omega) (fun υ hF => by rw [zfk_v hV]; exact h2 υ hF)
    have hpl : zI1 (d + 2) 159 [.int (nI q)] σ (fun v t => v = 1 ∧ t = σ) := s_kplace (fun _ _ => ⟨rfl, rfl⟩) (fun z => absurd hp z)
    unfold zPl at hx1
    have a0 : f = 0 → Q (V 0 q) σ := fun z => by have := hx1 σ Fr.rf; rw [if_pos z] at this; exact this
    have a1 : f = 1 → Q (V 1 q) σ := fun z => by have := hx1 σ Fr.rf; rw [if_neg (by rw [z]; decide), if_pos z] at this; exact this
    have a2 : f = 2 → Q (V 2 q) σ := fun z => by have := hx1 σ Fr.rf; rw [if_neg (by rw [z]; decide), if_neg (by rw [z]; decide), if_pos z] at this; exact this
    have a3 : f = 3 → Q (zset (fun s => decide (V 6 s = 1) && decide (V 3 s = nI q)) n) σ := fun z => by have := hx1 σ Fr.rf; rw [if_neg (by rw [z]; decide), if_neg (by rw [z]; decide), if_neg (by rw [z]; decide), if_pos z] at this; exact this
    have a4 : f = 4 → Q (B q) σ := fun z => by have := hx1 σ Fr.rf; rw [if_neg (by rw [z]; decide), if_neg (by rw [z]; decide), if_neg (by rw [z]; decide), if_neg (by rw [z]; decide), if_pos z] at this; exact this
    have a5 : f = 5 → ∀ τ, Fr [89, 90] σ τ → Q (zTl N Wd Fr' Wh To O A 2 (zFv V n false 0 q 0)) τ := fun z τ hF => by have := hx1 τ hF; rw [if_neg (by rw [z]; decide), if_neg (by rw [z]; decide), if_neg (by rw [z]; decide), if_neg (by rw [z]; decide), if_neg (by rw [z]; decide), if_pos z] at this; exact this
    have a6 : ¬ f = 0 → ¬ f = 1 → ¬ f = 2 → ¬ f = 3 → ¬ f = 4 → ¬ f = 5 → Q (-1) σ := fun z0 z1 z2 z3 z4 z5 => by have := hx1 σ Fr.rf; rw [if_neg z0, if_neg z1, if_neg z2, if_neg z3, if_neg z4, if_neg z5] at this; exact this
    refine r_il1 zi_131_0 rfl ?_
    refine r_cIS zi_131_1 rfl rfl rfl rfl rfl rfl (s_kplace (fun _ _ => ?_) (fun z => absurd hp z))
    show zk _ _ 4 _ _ _ _
    refine r_if1 zi_131_4 rfl (fun _ => ?_) (fun c => absurd c (by decide))
    refine r_al0 zi_131_9 rfl ?_
    refine q_getR zi_131_10 rfl cf_0_0 ?_
    refine q_getR zi_131_13 rfl cf_1_0 ?_
    refine r_as3 zi_131_16 rfl ?_
    refine r_il2 zi_131_17 rfl ?_
    refine r_sw zi_131_18 rfl ?_
    by_cases c2_0 : f = 0
    · rw [c2_0]
      show zk _ _ 56 _ _ _ _
      refine r_al3 zi_131_56 rfl ?_
      refine q_getR zi_131_57 rfl cf_2_0 ?_
      refine r_il1 zi_131_60 rfl ?_
      refine r_alde zi_131_61 rfl q ca_3 (by first | rfl | (simp only [zI_add, zI_mul] <;> rfl)) (by first | omega | decide) (u := V 0 q) (by first | exact v0 | ((repeat (first | rw [zup_ne (by first | decide | omega)] | rw [zup_nj (by first | decide | omega)] | rw [fil_ne (by first | decide | omega)])) <;> exact v0) | (simp [up_rd, fil_rd]; exact v0)) ?_
      refine r_retI zi_131_62 rfl ?_
      first | exact ⟨_, rfl, a0 (by assumption)⟩ | exact ⟨_, rfl, a1 (by assumption)⟩ | exact ⟨_, rfl, a2 (by assumption)⟩ | exact ⟨_, rfl, a3 (by assumption)⟩ | exact ⟨_, rfl, a4 (by assumption)⟩ | exact ⟨_, rfl, a5 (by assumption) υ x1⟩ | exact ⟨_, rfl, a6 (by assumption) (by assumption) (by assumption) (by assumption) (by assumption) (by assumption)⟩
    by_cases c2_1 : f = 1
    · rw [c2_1]
      show zk _ _ 63 _ _ _ _
      refine r_al3 zi_131_63 rfl ?_
      refine q_getR zi_131_64 rfl cf_2_1 ?_
      refine r_il1 zi_131_67 rfl ?_
      refine r_alde zi_131_68 rfl q ca_4 (by first | rfl | (simp only [zI_add, zI_mul] <;> rfl)) (by first | omega | decide) (u := V 1 q) (by first | exact v1 | ((repeat (first | rw [zup_ne (by first | decide | omega)] | rw [zup_nj (by first | decide | omega)] | rw [fil_ne (by first | decide | omega)])) <;> exact v1) | (simp [up_rd, fil_rd]; exact v1)) ?_
      refine r_retI zi_131_69 rfl ?_
      first | exact ⟨_, rfl, a0 (by assumption)⟩ | exact ⟨_, rfl, a1 (by assumption)⟩ | exact ⟨_, rfl, a2 (by assumption)⟩ | exact ⟨_, rfl, a3 (by assumption)⟩ | exact ⟨_, rfl, a4 (by assumption)⟩ | exact ⟨_, rfl, a5 (by assumption) υ x1⟩ | exact ⟨_, rfl, a6 (by assumption) (by assumption) (by assumption) (by assumption) (by assumption) (by assumption)⟩
    by_cases c2_2 : f = 2
    · rw [c2_2]
      show zk _ _ 70 _ _ _ _
      refine r_al3 zi_131_70 rfl ?_
      refine q_getR zi_131_71 rfl cf_2_2 ?_
      refine r_il1 zi_131_74 rfl ?_
      refine r_alde zi_131_75 rfl q ca_5 (by first | rfl | (simp only [zI_add, zI_mul] <;> rfl)) (by first | omega | decide) (u := V 2 q) (by first | exact v2 | ((repeat (first | rw [zup_ne (by first | decide | omega)] | rw [zup_nj (by first | decide | omega)] | rw [fil_ne (by first | decide | omega)])) <;> exact v2) | (simp [up_rd, fil_rd]; exact v2)) ?_
      refine r_retI zi_131_76 rfl ?_
      first | exact ⟨_, rfl, a0 (by assumption)⟩ | exact ⟨_, rfl, a1 (by assumption)⟩ | exact ⟨_, rfl, a2 (by assumption)⟩ | exact ⟨_, rfl, a3 (by assumption)⟩ | exact ⟨_, rfl, a4 (by assumption)⟩ | exact ⟨_, rfl, a5 (by assumption) υ x1⟩ | exact ⟨_, rfl, a6 (by assumption) (by assumption) (by assumption) (by assumption) (by assumption) (by assumption)⟩
    by_cases c2_3 : f = 3
    · rw [c2_3]
      show zk _ _ 77 _ _ _ _
      refine r_al3 zi_131_77 rfl ?_
      refine r_il1 zi_131_78 rfl ?_
      refine q_cIV zi_131_79 rfl rfl rfl rfl rfl rfl rfl cf_2_0.ob (hth _ ?_)
      show zk _ _ 82 _ _ _ _
      refine r_retI zi_131_82 rfl ?_
      first | exact ⟨_, rfl, a0 (by assumption)⟩ | exact ⟨_, rfl, a1 (by assumption)⟩ | exact ⟨_, rfl, a2 (by assumption)⟩ | exact ⟨_, rfl, a3 (by assumption)⟩ | exact ⟨_, rfl, a4 (by assumption)⟩ | exact ⟨_, rfl, a5 (by assumption) υ x1⟩ | exact ⟨_, rfl, a6 (by assumption) (by assumption) (by assumption) (by assumption) (by assumption) (by assumption)⟩
    by_cases c2_4 : f = 4
    · rw [c2_4]
      show zk _ _ 83 _ _ _ _
      refine r_al0 zi_131_83 rfl ?_
      refine q_getR zi_131_84 rfl cf_0_0 ?_
      refine q_getR zi_131_87 rfl cf_1_6 ?_
      refine q_getR zi_131_90 rfl cf_27_0 ?_
      refine r_il1 zi_131_93 rfl ?_
      refine r_alde zi_131_94 rfl q ca_28 (by first | rfl | (simp only [zI_add, zI_mul] <;> rfl)) (by first | omega | decide) (u := B q) (by first | exact v4 | ((repeat (first | rw [zup_ne (by first | decide | omega)] | rw [zup_nj (by first | decide | omega)] | rw [fil_ne (by first | decide | omega)])) <;> exact v4) | (simp [up_rd, fil_rd]; exact v4)) ?_
      refine r_retI zi_131_95 rfl ?_
      first | exact ⟨_, rfl, a0 (by assumption)⟩ | exact ⟨_, rfl, a1 (by assumption)⟩ | exact ⟨_, rfl, a2 (by assumption)⟩ | exact ⟨_, rfl, a3 (by assumption)⟩ | exact ⟨_, rfl, a4 (by assumption)⟩ | exact ⟨_, rfl, a5 (by assumption) υ x1⟩ | exact ⟨_, rfl, a6 (by assumption) (by assumption) (by assumption) (by assumption) (by assumption) (by assumption)⟩
    by_cases c2_5 : f = 5
    · rw [c2_5]
      show zk _ _ 96 _ _ _ _
      refine r_al0 zi_131_96 rfl ?_
      refine q_getR zi_131_97 rfl cf_0_4 ?_
      refine q_getR zi_131_100 rfl cf_87_2 ?_
      refine r_push zi_131_103 rfl ?_
      refine r_push zi_131_106 rfl ?_
      refine r_il1 zi_131_107 rfl ?_
      refine r_push zi_131_108 rfl ?_
      refine q_cIV zi_131_109 rfl rfl rfl rfl rfl rfl rfl cf_88_0.ob (htl _ (fun υ x1 => ?_))
      show zk _ _ 112 _ _ _ _
      refine r_retI zi_131_112 rfl ?_
      first | exact ⟨_, rfl, a0 (by assumption)⟩ | exact ⟨_, rfl, a1 (by assumption)⟩ | exact ⟨_, rfl, a2 (by assumption)⟩ | exact ⟨_, rfl, a3 (by assumption)⟩ | exact ⟨_, rfl, a4 (by assumption)⟩ | exact ⟨_, rfl, a5 (by assumption) υ x1⟩ | exact ⟨_, rfl, a6 (by assumption) (by assumption) (by assumption) (by assumption) (by assumption) (by assumption)⟩
    rw [show zsw [(0, 56), (1, 63), (2, 70), (3, 77), (4, 83), (5, 96)] 113 f = 113 from by simp [zsw, c2_0, c2_1, c2_2, c2_3, c2_4, c2_5]]
    refine r_push zi_131_113 rfl ?_
    refine r_retI zi_131_114 rfl ?_
    first | exact ⟨_, rfl, a0 (by assumption)⟩ | exact ⟨_, rfl, a1 (by assumption)⟩ | exact ⟨_, rfl, a2 (by assumption)⟩ | exact ⟨_, rfl, a3 (by assumption)⟩ | exact ⟨_, rfl, a4 (by assumption)⟩ | exact ⟨_, rfl, a5 (by assumption) υ x1⟩ | exact ⟨_, rfl, a6 (by assumption) (by assumption) (by assumption) (by assumption) (by assumption) (by assumption)⟩
  · have h0 := h0 hp
    refine r_il1 zi_131_0 rfl ?_
    refine r_cIS zi_131_1 rfl rfl rfl rfl rfl rfl (s_kplace (fun z1 z2 => absurd ⟨z1, z2⟩ hp) (fun _ => ?_))
    show zk _ _ 4 _ _ _ _
    refine r_if1 zi_131_4 rfl (fun c => absurd (by decide) c) (fun _ => ?_)
    refine r_push zi_131_7 rfl ?_
    refine r_retI zi_131_8 rfl ?_
    exact ⟨_, rfl, h0⟩

