/-! THE LAW tells, model -/
def zfM (σ : zS) (n : Nat) (sb : Bool) (s p : Nat) (wh : Int32) (j : Nat) : Int32 := match j with
  | 0 => if sb = true then σ 200 s else 0
  | 1 => if sb = true then σ 196 (48 + s) else 0
  | 2 => wh
  | 3 => σ 196 (6 + p)
  | 4 => σ 196 (18 + p)
  | 5 => σ 199 p + 5
  | 6 => σ 196 3
  | 7 => nI (zpop (zset (zma σ (nI p)) n))
  | 8 => if sb = true then σ 196 (84 + s) else 0
  | _ => σ 196 0
theorem zma_fr {σ τ : zS} {p : Int32} (h : τ 196 = σ 196) : zma τ p = zma σ p := by
  funext s
  show (decide (τ 196 (66 + s) = 0) && decide (τ 196 (30 + s) = p)) = _
  rw [h]
theorem s_asks1 {d n s p : Nat} {σ : zS} {Q : zS → Prop} {wh : Int32} (hn : σ 195 6 = nI n) (hn18 : n ≤ 18) (hs : s < 18) (hp : p < 12) (h : ∀ τ, Fr [215] σ τ → (∀ j, j < 10 → τ 215 j = zfM σ n true s p wh j) → Q τ) : zV1 (d + 2) 226 [.ref 195, .int (nI s), .int wh, .int (nI p)] σ Q := by
  have hne : ¬ nI s = -1 := fun z => absurd (nI_pos' (n := s) (by omega)) (by rw [z]; decide)
  show zk _ _ 0 [.ref 195, .int (nI s), .int wh, .int (nI p)] [] _ _
  refine r_al0 zi_226_0 rfl ?_
  refine q_getR zi_226_1 rfl cf_195_39 ?_
  refine r_push zi_226_4 rfl ?_
  refine r_il1 zi_226_5 rfl ?_
  refine r_push zi_226_6 rfl ?_
  refine r_ic1 zi_226_7 rfl (fun _ => ?_) (fun c => absurd c hne)
  refine r_al0 zi_226_14 rfl ?_
  refine q_getR zi_226_15 rfl cf_195_8 ?_
  refine r_il1 zi_226_18 rfl ?_
  refine r_alde zi_226_19 rfl s ca_200 (by first | rfl | (simp only [zI_add, zI_mul] <;> rfl)) (by first | omega | decide) (u := σ 200 s) (by first | exact rfl | ((repeat (first | rw [zup_ne (by first | decide | omega)] | rw [zup_nj (by first | decide | omega)] | rw [fil_ne (by first | decide | omega)])) <;> exact rfl) | (simp [up_rd, fil_rd]; exact rfl)) ?_
  refine r_ast zi_226_20 rfl 0 ca_215 rfl (by decide) ?_
  refine r_al0 zi_226_21 rfl ?_
  refine q_getR zi_226_22 rfl cf_195_39 ?_
  refine r_push zi_226_25 rfl ?_
  refine r_il1 zi_226_26 rfl ?_
  refine r_push zi_226_27 rfl ?_
  refine r_ic1 zi_226_28 rfl (fun _ => ?_) (fun c => absurd c hne)
  refine r_al0 zi_226_35 rfl ?_
  refine q_getR zi_226_36 rfl cf_195_1 ?_
  refine r_push zi_226_39 rfl ?_
  refine r_il1 zi_226_41 rfl ?_
  refine r_b0 zi_226_42 rfl ?_
  rw [show (48 + nI s : Int32) = nI (48 + s) from nI_add _ _]
  refine r_alde zi_226_43 rfl (48 + s) ca_196 (by first | rfl | (simp only [zI_add, zI_mul] <;> rfl)) (by first | omega | decide) (u := σ 196 (48 + s)) (by first | exact rfl | ((repeat (first | rw [zup_ne (by first | decide | omega)] | rw [zup_nj (by first | decide | omega)] | rw [fil_ne (by first | decide | omega)])) <;> exact rfl) | (simp [up_rd, fil_rd]; exact rfl)) ?_
  refine r_ast zi_226_44 rfl 1 ca_215 rfl (by decide) ?_
  refine r_al0 zi_226_45 rfl ?_
  refine q_getR zi_226_46 rfl cf_195_39 ?_
  refine r_push zi_226_49 rfl ?_
  refine r_il2 zi_226_50 rfl ?_
  refine r_ast zi_226_51 rfl 2 ca_215 rfl (by decide) ?_
  refine r_al0 zi_226_52 rfl ?_
  refine q_getR zi_226_53 rfl cf_195_39 ?_
  refine r_push zi_226_56 rfl ?_
  refine r_al0 zi_226_57 rfl ?_
  refine q_getR zi_226_58 rfl cf_195_1 ?_
  refine r_push zi_226_61 rfl ?_
  refine r_il3 zi_226_63 rfl ?_
  refine r_b0 zi_226_64 rfl ?_
  rw [show (6 + nI p : Int32) = nI (6 + p) from nI_add _ _]
  refine r_alde zi_226_65 rfl (6 + p) ca_196 (by first | rfl | (simp only [zI_add, zI_mul] <;> rfl)) (by first | omega | decide) (u := σ 196 (6 + p)) (by first | exact rfl | ((repeat (first | rw [zup_ne (by first | decide | omega)] | rw [zup_nj (by first | decide | omega)] | rw [fil_ne (by first | decide | omega)])) <;> exact rfl) | (simp [up_rd, fil_rd]; exact rfl)) ?_
  refine r_ast zi_226_66 rfl 3 ca_215 rfl (by decide) ?_
  refine r_al0 zi_226_67 rfl ?_
  refine q_getR zi_226_68 rfl cf_195_39 ?_
  refine r_push zi_226_71 rfl ?_
  refine r_al0 zi_226_72 rfl ?_
  refine q_getR zi_226_73 rfl cf_195_1 ?_
  refine r_push zi_226_76 rfl ?_
  refine r_il3 zi_226_78 rfl ?_
  refine r_b0 zi_226_79 rfl ?_
  rw [show (18 + nI p : Int32) = nI (18 + p) from nI_add _ _]
  refine r_ald zi_226_80 rfl (18 + p) ca_196 (by first | rfl | (simp only [zI_add, zI_mul] <;> rfl)) (by first | omega | decide) ?_
  refine r_ast zi_226_81 rfl 4 ca_215 (by first | rfl | (simp only [zI_add, zI_mul] <;> rfl)) (by first | omega | decide) ?_
  refine r_al0 zi_226_82 rfl ?_
  refine q_getR zi_226_83 rfl cf_195_39 ?_
  refine r_push zi_226_86 rfl ?_
  refine r_al0 zi_226_87 rfl ?_
  refine q_getR zi_226_88 rfl cf_195_7 ?_
  refine r_il3 zi_226_91 rfl ?_
  refine r_alde zi_226_92 rfl p ca_199 (by first | rfl | (simp only [zI_add, zI_mul] <;> rfl)) (by first | omega | decide) (u := σ 199 p) (by first | exact rfl | ((repeat (first | rw [zup_ne (by first | decide | omega)] | rw [zup_nj (by first | decide | omega)] | rw [fil_ne (by first | decide | omega)])) <;> exact rfl) | (simp [up_rd, fil_rd]; exact rfl)) ?_
  refine r_push zi_226_93 rfl ?_
  refine r_b0 zi_226_94 rfl ?_
  refine r_ast zi_226_95 rfl 5 ca_215 rfl (by decide) ?_
  refine r_al0 zi_226_96 rfl ?_
  refine q_getR zi_226_97 rfl cf_195_39 ?_
  refine r_push zi_226_100 rfl ?_
  refine r_al0 zi_226_102 rfl ?_
  refine q_getR zi_226_103 rfl cf_195_1 ?_
  refine r_push zi_226_106 rfl ?_
  refine r_alde zi_226_107 rfl 3 ca_196 rfl (by decide) (u := σ 196 3) (by first | exact rfl | ((repeat (first | rw [zup_ne (by first | decide | omega)] | rw [zup_nj (by first | decide | omega)] | rw [fil_ne (by first | decide | omega)])) <;> exact rfl) | (simp [up_rd, fil_rd]; exact rfl)) ?_
  refine r_ast zi_226_108 rfl 6 ca_215 rfl (by decide) ?_
  refine r_al0 zi_226_109 rfl ?_
  refine q_getR zi_226_110 rfl cf_195_39 ?_
  refine r_push zi_226_113 rfl ?_
  refine r_al0 zi_226_115 rfl ?_
  refine r_al0 zi_226_116 rfl ?_
  refine r_il3 zi_226_117 rfl ?_
  refine q_cIV zi_226_118 rfl rfl rfl rfl rfl rfl rfl cf_195_0.ob (s_mthose (by (repeat rw [zup_ne (by decide)]); exact hn) hn18 ?_)
  show zk _ _ 121 _ _ _ _
  rw [zma_fr (σ := σ) (funext fun b => by (repeat rw [zup_ne (by decide)]))]
  refine q_cIV zi_226_121 rfl rfl rfl rfl rfl rfl rfl cf_195_0.ob (s_ones ?_)
  show zk _ _ 124 _ _ _ _
  refine r_ast zi_226_124 rfl 7 ca_215 rfl (by decide) ?_
  refine r_al0 zi_226_125 rfl ?_
  refine q_getR zi_226_126 rfl cf_195_39 ?_
  refine r_push zi_226_129 rfl ?_
  refine r_il1 zi_226_131 rfl ?_
  refine r_push zi_226_132 rfl ?_
  refine r_ic1 zi_226_133 rfl (fun _ => ?_) (fun c => absurd c hne)
  refine r_al0 zi_226_140 rfl ?_
  refine q_getR zi_226_141 rfl cf_195_1 ?_
  refine r_push zi_226_144 rfl ?_
  refine r_il1 zi_226_146 rfl ?_
  refine r_b0 zi_226_147 rfl ?_
  rw [show (84 + nI s : Int32) = nI (84 + s) from nI_add _ _]
  refine r_alde zi_226_148 rfl (84 + s) ca_196 (by first | rfl | (simp only [zI_add, zI_mul] <;> rfl)) (by first | omega | decide) (u := σ 196 (84 + s)) (by first | exact rfl | ((repeat (first | rw [zup_ne (by first | decide | omega)] | rw [zup_nj (by first | decide | omega)] | rw [fil_ne (by first | decide | omega)])) <;> exact rfl) | (simp [up_rd, fil_rd]; exact rfl)) ?_
  refine r_ast zi_226_149 rfl 8 ca_215 rfl (by decide) ?_
  refine r_al0 zi_226_150 rfl ?_
  refine q_getR zi_226_151 rfl cf_195_39 ?_
  refine r_push zi_226_154 rfl ?_
  refine r_al0 zi_226_156 rfl ?_
  refine q_getR zi_226_157 rfl cf_195_1 ?_
  refine r_push zi_226_160 rfl ?_
  refine r_alde zi_226_161 rfl 0 ca_196 rfl (by decide) (u := σ 196 0) (by first | exact rfl | ((repeat (first | rw [zup_ne (by first | decide | omega)] | rw [zup_nj (by first | decide | omega)] | rw [fil_ne (by first | decide | omega)])) <;> exact rfl) | (simp [up_rd, fil_rd]; exact rfl)) ?_
  refine r_ast zi_226_162 rfl 9 ca_215 rfl (by decide) ?_
  refine r_ret zi_226_163 rfl ?_
  refine ⟨rfl, h _ ?_ (fun j hj => ?_)⟩
  · exact (((((((((Fr.rf.put (by decide)).put (by decide)).put (by decide)).put (by decide)).put (by decide)).put (by decide)).put (by decide)).put (by decide)).put (by decide)).put (by decide)
  · have hj10 : j = 0 ∨ j = 1 ∨ j = 2 ∨ j = 3 ∨ j = 4 ∨ j = 5 ∨ j = 6 ∨ j = 7 ∨ j = 8 ∨ j = 9 := by omega
    rcases hj10 with e | e | e | e | e | e | e | e | e | e <;> subst e <;> simp [up_rd, zfM]
theorem s_asks0 {d n p : Nat} {σ : zS} {Q : zS → Prop} {wh : Int32} (hn : σ 195 6 = nI n) (hn18 : n ≤ 18) (hp : p < 12) (h : ∀ τ, Fr [215] σ τ → (∀ j, j < 10 → τ 215 j = zfM σ n false 0 p wh j) → Q τ) : zV1 (d + 2) 226 [.ref 195, .int (-1), .int wh, .int (nI p)] σ Q := by
  show zk _ _ 0 [.ref 195, .int (-1), .int wh, .int (nI p)] [] _ _
  refine r_al0 zi_226_0 rfl ?_
  refine q_getR zi_226_1 rfl cf_195_39 ?_
  refine r_push zi_226_4 rfl ?_
  refine r_il1 zi_226_5 rfl ?_
  refine r_push zi_226_6 rfl ?_
  refine r_ic1 zi_226_7 rfl (fun c => absurd (by decide) c) (fun _ => ?_)
  refine r_push zi_226_10 rfl ?_
  refine r_goto zi_226_11 rfl ?_
  refine r_ast zi_226_20 rfl 0 ca_215 rfl (by decide) ?_
  refine r_al0 zi_226_21 rfl ?_
  refine q_getR zi_226_22 rfl cf_195_39 ?_
  refine r_push zi_226_25 rfl ?_
  refine r_il1 zi_226_26 rfl ?_
  refine r_push zi_226_27 rfl ?_
  refine r_ic1 zi_226_28 rfl (fun c => absurd (by decide) c) (fun _ => ?_)
  refine r_push zi_226_31 rfl ?_
  refine r_goto zi_226_32 rfl ?_
  refine r_ast zi_226_44 rfl 1 ca_215 rfl (by decide) ?_
  refine r_al0 zi_226_45 rfl ?_
  refine q_getR zi_226_46 rfl cf_195_39 ?_
  refine r_push zi_226_49 rfl ?_
  refine r_il2 zi_226_50 rfl ?_
  refine r_ast zi_226_51 rfl 2 ca_215 rfl (by decide) ?_
  refine r_al0 zi_226_52 rfl ?_
  refine q_getR zi_226_53 rfl cf_195_39 ?_
  refine r_push zi_226_56 rfl ?_
  refine r_al0 zi_226_57 rfl ?_
  refine q_getR zi_226_58 rfl cf_195_1 ?_
  refine r_push zi_226_61 rfl ?_
  refine r_il3 zi_226_63 rfl ?_
  refine r_b0 zi_226_64 rfl ?_
  rw [show (6 + nI p : Int32) = nI (6 + p) from nI_add _ _]
  refine r_alde zi_226_65 rfl (6 + p) ca_196 (by first | rfl | (simp only [zI_add, zI_mul] <;> rfl)) (by first | omega | decide) (u := σ 196 (6 + p)) (by first | exact rfl | ((repeat (first | rw [zup_ne (by first | decide | omega)] | rw [zup_nj (by first | decide | omega)] | rw [fil_ne (by first | decide | omega)])) <;> exact rfl) | (simp [up_rd, fil_rd]; exact rfl)) ?_
  refine r_ast zi_226_66 rfl 3 ca_215 rfl (by decide) ?_
  refine r_al0 zi_226_67 rfl ?_
  refine q_getR zi_226_68 rfl cf_195_39 ?_
  refine r_push zi_226_71 rfl ?_
  refine r_al0 zi_226_72 rfl ?_
  refine q_getR zi_226_73 rfl cf_195_1 ?_
  refine r_push zi_226_76 rfl ?_
  refine r_il3 zi_226_78 rfl ?_
  refine r_b0 zi_226_79 rfl ?_
  rw [show (18 + nI p : Int32) = nI (18 + p) from nI_add _ _]
  refine r_ald zi_226_80 rfl (18 + p) ca_196 (by first | rfl | (simp only [zI_add, zI_mul] <;> rfl)) (by first | omega | decide) ?_
  refine r_ast zi_226_81 rfl 4 ca_215 (by first | rfl | (simp only [zI_add, zI_mul] <;> rfl)) (by first | omega | decide) ?_
  refine r_al0 zi_226_82 rfl ?_
  refine q_getR zi_226_83 rfl cf_195_39 ?_
  refine r_push zi_226_86 rfl ?_
  refine r_al0 zi_226_87 rfl ?_
  refine q_getR zi_226_88 rfl cf_195_7 ?_
  refine r_il3 zi_226_91 rfl ?_
  refine r_alde zi_226_92 rfl p ca_199 (by first | rfl | (simp only [zI_add, zI_mul] <;> rfl)) (by first | omega | decide) (u := σ 199 p) (by first | exact rfl | ((repeat (first | rw [zup_ne (by first | decide | omega)] | rw [zup_nj (by first | decide | omega)] | rw [fil_ne (by first | decide | omega)])) <;> exact rfl) | (simp [up_rd, fil_rd]; exact rfl)) ?_
  refine r_push zi_226_93 rfl ?_
  refine r_b0 zi_226_94 rfl ?_
  refine r_ast zi_226_95 rfl 5 ca_215 rfl (by decide) ?_
  refine r_al0 zi_226_96 rfl ?_
  refine q_getR zi_226_97 rfl cf_195_39 ?_
  refine r_push zi_226_100 rfl ?_
  refine r_al0 zi_226_102 rfl ?_
  refine q_getR zi_226_103 rfl cf_195_1 ?_
  refine r_push zi_226_106 rfl ?_
  refine r_alde zi_226_107 rfl 3 ca_196 rfl (by decide) (u := σ 196 3) (by first | exact rfl | ((repeat (first | rw [zup_ne (by first | decide | omega)] | rw [zup_nj (by first | decide | omega)] | rw [fil_ne (by first | decide | omega)])) <;> exact rfl) | (simp [up_rd, fil_rd]; exact rfl)) ?_
  refine r_ast zi_226_108 rfl 6 ca_215 rfl (by decide) ?_
  refine r_al0 zi_226_109 rfl ?_
  refine q_getR zi_226_110 rfl cf_195_39 ?_
  refine r_push zi_226_113 rfl ?_
  refine r_al0 zi_226_115 rfl ?_
  refine r_al0 zi_226_116 rfl ?_
  refine r_il3 zi_226_117 rfl ?_
  refine q_cIV zi_226_118 rfl rfl rfl rfl rfl rfl rfl cf_195_0.ob (s_mthose (by (repeat rw [zup_ne (by decide)]); exact hn) hn18 ?_)
  show zk _ _ 121 _ _ _ _
  rw [zma_fr (σ := σ) (funext fun b => by (repeat rw [zup_ne (by decide)]))]
  refine q_cIV zi_226_121 rfl rfl rfl rfl rfl rfl rfl cf_195_0.ob (s_ones ?_)
  show zk _ _ 124 _ _ _ _
  refine r_ast zi_226_124 rfl 7 ca_215 rfl (by decide) ?_
  refine r_al0 zi_226_125 rfl ?_
  refine q_getR zi_226_126 rfl cf_195_39 ?_
  refine r_push zi_226_129 rfl ?_
  refine r_il1 zi_226_131 rfl ?_
  refine r_push zi_226_132 rfl ?_
  refine r_ic1 zi_226_133 rfl (fun c => absurd (by decide) c) (fun _ => ?_)
  refine r_push zi_226_136 rfl ?_
  refine r_goto zi_226_137 rfl ?_
  refine r_ast zi_226_149 rfl 8 ca_215 rfl (by decide) ?_
  refine r_al0 zi_226_150 rfl ?_
  refine q_getR zi_226_151 rfl cf_195_39 ?_
  refine r_push zi_226_154 rfl ?_
  refine r_al0 zi_226_156 rfl ?_
  refine q_getR zi_226_157 rfl cf_195_1 ?_
  refine r_push zi_226_160 rfl ?_
  refine r_alde zi_226_161 rfl 0 ca_196 rfl (by decide) (u := σ 196 0) (by first | exact rfl | ((repeat (first | rw [zup_ne (by first | decide | omega)] | rw [zup_nj (by first | decide | omega)] | rw [fil_ne (by first | decide | omega)])) <;> exact rfl) | (simp [up_rd, fil_rd]; exact rfl)) ?_
  refine r_ast zi_226_162 rfl 9 ca_215 rfl (by decide) ?_
  refine r_ret zi_226_163 rfl ?_
  refine ⟨rfl, h _ ?_ (fun j hj => ?_)⟩
  · exact (((((((((Fr.rf.put (by decide)).put (by decide)).put (by decide)).put (by decide)).put (by decide)).put (by decide)).put (by decide)).put (by decide)).put (by decide)).put (by decide)
  · have hj10 : j = 0 ∨ j = 1 ∨ j = 2 ∨ j = 3 ∨ j = 4 ∨ j = 5 ∨ j = 6 ∨ j = 7 ∨ j = 8 ∨ j = 9 := by omega
    rcases hj10 with e | e | e | e | e | e | e | e | e | e <;> subst e <;> simp [up_rd, zfM]
theorem zLwM_fr {σ τ : zS} {n : Nat} {Wd Fr' Wh To O A : Nat → Nat} (h : Fr [215, 216] σ τ) (hM : zLwM σ n Wd Fr' Wh To O A) : zLwM τ n Wd Fr' Wh To O A := ⟨(h 204 (by decide) 0).trans hM.1, fun l hl => by
  obtain ⟨m1, m2, m3, m4, m5⟩ := hM.2 l hl
  exact ⟨(h 205 (by decide) _).trans m1, (h 206 (by decide) _).trans m2, (h 207 (by decide) _).trans m3, (h 208 (by decide) _).trans m4, fun j h3 h4 => ⟨(h 209 (by decide) j).trans (m5 j h3 h4).1, (h 210 (by decide) j).trans (m5 j h3 h4).2⟩⟩⟩
theorem s_obeysOf {d n N s p : Nat} {σ : zS} {Q : Int32 → zS → Prop} {Wd Fr' Wh To O A : Nat → Nat} {wh : Int32} (hn : σ 195 6 = nI n) (hn18 : n ≤ 18) (hs : s < 18) (hp : p < 12) (hat : σ 196 (30 + s) = nI p) (hW : zLw N Wd Fr' Wh To O A) (hM : zLwM σ N Wd Fr' Wh To O A) (hq : ∀ τ, Fr [215, 216] σ τ → Q (zTl N Wd Fr' Wh To O A 0 (zfM σ n true s p wh)) τ) : zI1 (d + 4) 228 [.ref 195, .int (nI s), .int wh] σ Q := by
  show zk _ _ 0 [.ref 195, .int (nI s), .int wh] [] _ _
  refine r_al0 zi_228_0 rfl ?_
  refine r_il1 zi_228_1 rfl ?_
  refine r_il2 zi_228_2 rfl ?_
  refine r_al0 zi_228_3 rfl ?_
  refine q_getR zi_228_4 rfl cf_195_1 ?_
  refine r_push zi_228_7 rfl ?_
  refine r_il1 zi_228_9 rfl ?_
  refine r_b0 zi_228_10 rfl ?_
  rw [show (30 + nI s : Int32) = nI (30 + s) from nI_add _ _]
  refine r_alde zi_228_11 rfl (30 + s) ca_196 (by first | rfl | (simp only [zI_add, zI_mul] <;> rfl)) (by first | omega | decide) (u := nI p) (by first | exact hat | ((repeat (first | rw [zup_ne (by first | decide | omega)] | rw [zup_nj (by first | decide | omega)] | rw [fil_ne (by first | decide | omega)])) <;> exact hat) | (simp [up_rd, fil_rd]; exact hat)) ?_
  refine q_cVV zi_228_12 rfl rfl rfl rfl rfl rfl rfl cf_195_0.ob (s_asks1 hn hn18 hs hp (fun τ h1 h2 => ?_))
  show zk _ _ 15 _ _ _ _
  refine r_al0 zi_228_15 rfl ?_
  refine r_push zi_228_16 rfl ?_
  refine r_push zi_228_17 rfl ?_
  refine r_push zi_228_20 rfl ?_
  refine r_al0 zi_228_22 rfl ?_
  refine q_getR zi_228_23 rfl cf_195_39 ?_
  refine r_push zi_228_26 rfl ?_
  refine r_alde zi_228_27 rfl 0 ca_215 (by first | rfl | (simp only [zI_add, zI_mul] <;> rfl)) (by first | omega | decide) (u := zfM σ n true s p wh 0) (by rw [h2 0 (by decide)]) ?_
  refine r_b2 zi_228_28 rfl ?_
  refine r_b0 zi_228_29 rfl ?_
  refine r_push zi_228_30 rfl ?_
  refine r_al0 zi_228_31 rfl ?_
  refine q_getR zi_228_32 rfl cf_195_39 ?_
  refine r_push zi_228_35 rfl ?_
  refine r_alde zi_228_36 rfl 1 ca_215 (by first | rfl | (simp only [zI_add, zI_mul] <;> rfl)) (by first | omega | decide) (u := zfM σ n true s p wh 1) (by rw [h2 1 (by decide)]) ?_
  refine r_b2 zi_228_37 rfl ?_
  refine r_b1 zi_228_38 rfl ?_
  refine r_push zi_228_39 rfl ?_
  refine q_cIV zi_228_42 rfl rfl rfl rfl rfl rfl rfl cf_195_0.ob (s_lawTells (w := 0) hW (zLwM_fr (h1.sub (by simp)) hM) (by omega) h2 (fun τ2 h3 => ?_))
  show zk _ _ 45 _ _ _ _
  refine r_retI zi_228_45 rfl ?_
  exact ⟨_, rfl, hq τ2 ((h1.sub (by simp)).tr (h3.sub (by simp)))⟩
theorem s_tiresOf {d n N s p : Nat} {σ : zS} {Q : Int32 → zS → Prop} {Wd Fr' Wh To O A : Nat → Nat} {wh : Int32} (hn : σ 195 6 = nI n) (hn18 : n ≤ 18) (hs : s < 18) (hp : p < 12) (hat : σ 196 (30 + s) = nI p) (hW : zLw N Wd Fr' Wh To O A) (hM : zLwM σ N Wd Fr' Wh To O A) (hq : ∀ τ, Fr [215, 216] σ τ → Q (zTl N Wd Fr' Wh To O A 1 (zfM σ n true s p wh)) τ) : zI1 (d + 4) 229 [.ref 195, .int (nI s), .int wh] σ Q := by
  show zk _ _ 0 [.ref 195, .int (nI s), .int wh] [] _ _
  refine r_al0 zi_229_0 rfl ?_
  refine r_il1 zi_229_1 rfl ?_
  refine r_il2 zi_229_2 rfl ?_
  refine r_al0 zi_229_3 rfl ?_
  refine q_getR zi_229_4 rfl cf_195_1 ?_
  refine r_push zi_229_7 rfl ?_
  refine r_il1 zi_229_9 rfl ?_
  refine r_b0 zi_229_10 rfl ?_
  rw [show (30 + nI s : Int32) = nI (30 + s) from nI_add _ _]
  refine r_alde zi_229_11 rfl (30 + s) ca_196 (by first | rfl | (simp only [zI_add, zI_mul] <;> rfl)) (by first | omega | decide) (u := nI p) (by first | exact hat | ((repeat (first | rw [zup_ne (by first | decide | omega)] | rw [zup_nj (by first | decide | omega)] | rw [fil_ne (by first | decide | omega)])) <;> exact hat) | (simp [up_rd, fil_rd]; exact hat)) ?_
  refine q_cVV zi_229_12 rfl rfl rfl rfl rfl rfl rfl cf_195_0.ob (s_asks1 hn hn18 hs hp (fun τ h1 h2 => ?_))
  show zk _ _ 15 _ _ _ _
  refine r_al0 zi_229_15 rfl ?_
  refine r_push zi_229_16 rfl ?_
  refine r_push zi_229_17 rfl ?_
  refine r_push zi_229_18 rfl ?_
  refine q_cIV zi_229_20 rfl rfl rfl rfl rfl rfl rfl cf_195_0.ob (s_lawTells (w := 1) hW (zLwM_fr (h1.sub (by simp)) hM) (by omega) h2 (fun τ2 h3 => ?_))
  show zk _ _ 23 _ _ _ _
  refine r_retI zi_229_23 rfl ?_
  exact ⟨_, rfl, hq τ2 ((h1.sub (by simp)).tr (h3.sub (by simp)))⟩
theorem s_growsOf {d n N p : Nat} {σ : zS} {Q : Int32 → zS → Prop} {Wd Fr' Wh To O A : Nat → Nat} (hn : σ 195 6 = nI n) (hn18 : n ≤ 18) (hp : p < 12) (hW : zLw N Wd Fr' Wh To O A) (hM : zLwM σ N Wd Fr' Wh To O A) (hq : ∀ τ, Fr [215, 216] σ τ → Q (zTl N Wd Fr' Wh To O A 2 (zfM σ n false 0 p 0)) τ) : zI1 (d + 4) 230 [.ref 195, .int (nI p)] σ Q := by
  show zk _ _ 0 [.ref 195, .int (nI p)] [] _ _
  refine r_al0 zi_230_0 rfl ?_
  refine r_push zi_230_1 rfl ?_
  refine r_push zi_230_2 rfl ?_
  refine r_il1 zi_230_3 rfl ?_
  refine q_cVV zi_230_4 rfl rfl rfl rfl rfl rfl rfl cf_195_0.ob (s_asks0 hn hn18 hp (fun τ h1 h2 => ?_))
  show zk _ _ 7 _ _ _ _
  refine r_al0 zi_230_7 rfl ?_
  refine r_push zi_230_8 rfl ?_
  refine r_push zi_230_9 rfl ?_
  refine r_push zi_230_10 rfl ?_
  refine q_cIV zi_230_12 rfl rfl rfl rfl rfl rfl rfl cf_195_0.ob (s_lawTells (w := 2) hW (zLwM_fr (h1.sub (by simp)) hM) (by omega) h2 (fun τ2 h3 => ?_))
  show zk _ _ 15 _ _ _ _
  refine r_retI zi_230_15 rfl ?_
  exact ⟨_, rfl, hq τ2 ((h1.sub (by simp)).tr (h3.sub (by simp)))⟩

