/-! THE LAW tells, both sides -/
def zfk (σ : zS) (k n : Nat) (sb : Bool) (s p : Nat) (wh : Int32) (j : Nat) : Int32 := match j with
  | 0 => if sb = true then σ (k + 1 + 4) s else 0
  | 1 => if sb = true then σ (k + 1 + 5) s else 0
  | 2 => if sb = true then wh else 0
  | 3 => σ (k + 1 + 1) p
  | 4 => σ (k + 1 + 2) p
  | 5 => σ (k + 1 + 0) p
  | 6 => σ k 14
  | 7 => nI (zpop (zset (zka σ k (nI p)) n))
  | 8 => if sb = true then σ (k + 1 + 7) s else 0
  | _ => σ k 17
theorem zka_fr {σ τ : zS} {k : Nat} {p : Int32} (h6 : τ (k + 1 + 6) = σ (k + 1 + 6)) (h3 : τ (k + 1 + 3) = σ (k + 1 + 3)) : zka τ k p = zka σ k p := by
  funext s
  show (decide (τ (k + 1 + 6) s = 1) && decide (τ (k + 1 + 3) s = p)) = _
  rw [h6, h3]
theorem s_learn1 {d L k n s p : Nat} {σ : zS} {Q : zS → Prop} {wh : Int32} (hL : zLa L k) (hk : zDu k) (hkL : k + 12 ≤ L) (hn : σ k 11 = nI n) (hn18 : n ≤ 18) (hs : s < n) (hp : p < 12) (h : ∀ τ, Fr [L + 1] σ τ → (∀ j, j < 10 → τ (L + 1) j = zfk σ k n true s p wh j) → Q τ) : zV1 (d + 1) 26 [.ref L, .int (nI s), .int (nI p), .int wh] σ Q := by
  have ls : nI s < nI n := nI_lt hs (by omega)
  have l0 := nI_pos' (n := s) (by omega)
  have lp : nI p < 12 := nI_lt (b := 12) hp (by omega)
  have lp0 := nI_pos' (n := p) (by omega)
  show zk _ _ 0 [.ref L, .int (nI s), .int (nI p), .int wh, zun, zun] [] _ _
  refine r_al0 zi_26_0 rfl ?_
  refine q_getR zi_26_1 rfl hL.2.1 ?_
  refine r_il1 zi_26_4 rfl ?_
  refine q_cIV zi_26_5 rfl rfl rfl rfl rfl rfl rfl (hk.1 0 (by omega)).ob (s_dsubj hk hn hn18 (fun _ _ _ => ?_) (fun z => absurd ⟨l0, ls⟩ z))
  show zk _ _ 8 _ _ _ _
  refine r_is4 zi_26_8 rfl ?_
  refine r_il2 zi_26_10 rfl ?_
  refine r_cIS zi_26_11 rfl rfl rfl rfl rfl rfl (s_kplace (fun _ _ => ?_) (fun z => absurd ⟨lp0, lp⟩ z))
  show zk _ _ 14 _ _ _ _
  refine r_is5 zi_26_14 rfl ?_
  refine r_al0 zi_26_16 rfl ?_
  refine q_getR zi_26_17 rfl hL.2.2.1 ?_
  refine r_push zi_26_20 rfl ?_
  refine r_il4 zi_26_21 rfl ?_
  refine r_if0 zi_26_23 rfl (fun c => absurd c (by decide)) (fun _ => ?_)
  refine r_al0 zi_26_26 rfl ?_
  refine q_getR zi_26_27 rfl hL.2.1 ?_
  refine q_getR zi_26_30 rfl (hk.1 4 (by omega)) ?_
  refine r_il1 zi_26_33 rfl ?_
  refine r_alde zi_26_34 rfl s (hk.2.2.2.1 4 (by omega) (by omega)) (by first | rfl | (simp only [zI_add, zI_mul] <;> rfl)) (by first | omega | decide) (u := σ (k + 1 + 4) s) (by first | exact rfl | ((repeat (first | rw [zup_ne (by first | decide | omega)] | rw [zup_nj (by first | decide | omega)] | rw [fil_ne (by first | decide | omega)])) <;> exact rfl) | (simp [up_rd, fil_rd]; exact rfl)) ?_
  refine r_goto zi_26_35 rfl ?_
  refine r_ast zi_26_39 rfl 0 hL.2.2.2.2.1 (by first | rfl | (simp only [zI_add, zI_mul] <;> rfl)) (by first | omega | decide) ?_
  refine r_al0 zi_26_40 rfl ?_
  refine q_getR zi_26_41 rfl hL.2.2.1 ?_
  refine r_push zi_26_44 rfl ?_
  refine r_il4 zi_26_45 rfl ?_
  refine r_if0 zi_26_47 rfl (fun c => absurd c (by decide)) (fun _ => ?_)
  refine r_al0 zi_26_50 rfl ?_
  refine q_getR zi_26_51 rfl hL.2.1 ?_
  refine q_getR zi_26_54 rfl (hk.1 5 (by omega)) ?_
  refine r_il1 zi_26_57 rfl ?_
  refine r_alde zi_26_58 rfl s (hk.2.2.2.1 5 (by omega) (by omega)) (by first | rfl | (simp only [zI_add, zI_mul] <;> rfl)) (by first | omega | decide) (u := σ (k + 1 + 5) s) (by first | exact rfl | ((repeat (first | rw [zup_ne (by first | decide | omega)] | rw [zup_nj (by first | decide | omega)] | rw [fil_ne (by first | decide | omega)])) <;> exact rfl) | (simp [up_rd, fil_rd]; exact rfl)) ?_
  refine r_goto zi_26_59 rfl ?_
  refine r_ast zi_26_63 rfl 1 hL.2.2.2.2.1 (by first | rfl | (simp only [zI_add, zI_mul] <;> rfl)) (by first | omega | decide) ?_
  refine r_al0 zi_26_64 rfl ?_
  refine q_getR zi_26_65 rfl hL.2.2.1 ?_
  refine r_push zi_26_68 rfl ?_
  refine r_il4 zi_26_69 rfl ?_
  refine r_if0 zi_26_71 rfl (fun c => absurd c (by decide)) (fun _ => ?_)
  refine r_il3 zi_26_74 rfl ?_
  refine r_goto zi_26_75 rfl ?_
  refine r_ast zi_26_79 rfl 2 hL.2.2.2.2.1 (by first | rfl | (simp only [zI_add, zI_mul] <;> rfl)) (by first | omega | decide) ?_
  refine r_al0 zi_26_80 rfl ?_
  refine q_getR zi_26_81 rfl hL.2.2.1 ?_
  refine r_push zi_26_84 rfl ?_
  refine r_il5 zi_26_85 rfl ?_
  refine r_if0 zi_26_87 rfl (fun c => absurd c (by decide)) (fun _ => ?_)
  refine r_al0 zi_26_90 rfl ?_
  refine q_getR zi_26_91 rfl hL.2.1 ?_
  refine q_getR zi_26_94 rfl (hk.1 1 (by omega)) ?_
  refine r_il2 zi_26_97 rfl ?_
  refine r_alde zi_26_98 rfl p (hk.2.2.1 1 (by omega)) (by first | rfl | (simp only [zI_add, zI_mul] <;> rfl)) (by first | omega | decide) (u := σ (k + 1 + 1) p) (by first | exact rfl | ((repeat (first | rw [zup_ne (by first | decide | omega)] | rw [zup_nj (by first | decide | omega)] | rw [fil_ne (by first | decide | omega)])) <;> exact rfl) | (simp [up_rd, fil_rd]; exact rfl)) ?_
  refine r_goto zi_26_99 rfl ?_
  refine r_ast zi_26_103 rfl 3 hL.2.2.2.2.1 (by first | rfl | (simp only [zI_add, zI_mul] <;> rfl)) (by first | omega | decide) ?_
  refine r_al0 zi_26_104 rfl ?_
  refine q_getR zi_26_105 rfl hL.2.2.1 ?_
  refine r_push zi_26_108 rfl ?_
  refine r_il5 zi_26_109 rfl ?_
  refine r_if0 zi_26_111 rfl (fun c => absurd c (by decide)) (fun _ => ?_)
  refine r_al0 zi_26_114 rfl ?_
  refine q_getR zi_26_115 rfl hL.2.1 ?_
  refine q_getR zi_26_118 rfl (hk.1 2 (by omega)) ?_
  refine r_il2 zi_26_121 rfl ?_
  refine r_alde zi_26_122 rfl p (hk.2.2.1 2 (by omega)) (by first | rfl | (simp only [zI_add, zI_mul] <;> rfl)) (by first | omega | decide) (u := σ (k + 1 + 2) p) (by first | exact rfl | ((repeat (first | rw [zup_ne (by first | decide | omega)] | rw [zup_nj (by first | decide | omega)] | rw [fil_ne (by first | decide | omega)])) <;> exact rfl) | (simp [up_rd, fil_rd]; exact rfl)) ?_
  refine r_goto zi_26_123 rfl ?_
  refine r_ast zi_26_127 rfl 4 hL.2.2.2.2.1 (by first | rfl | (simp only [zI_add, zI_mul] <;> rfl)) (by first | omega | decide) ?_
  refine r_al0 zi_26_128 rfl ?_
  refine q_getR zi_26_129 rfl hL.2.2.1 ?_
  refine r_push zi_26_132 rfl ?_
  refine r_il5 zi_26_133 rfl ?_
  refine r_if0 zi_26_135 rfl (fun c => absurd c (by decide)) (fun _ => ?_)
  refine r_al0 zi_26_138 rfl ?_
  refine q_getR zi_26_139 rfl hL.2.1 ?_
  refine q_getR zi_26_142 rfl (hk.1 0 (by omega)) ?_
  refine r_il2 zi_26_145 rfl ?_
  refine r_alde zi_26_146 rfl p (hk.2.2.1 0 (by omega)) (by first | rfl | (simp only [zI_add, zI_mul] <;> rfl)) (by first | omega | decide) (u := σ (k + 1 + 0) p) (by first | exact rfl | ((repeat (first | rw [zup_ne (by first | decide | omega)] | rw [zup_nj (by first | decide | omega)] | rw [fil_ne (by first | decide | omega)])) <;> exact rfl) | (simp [up_rd, fil_rd]; exact rfl)) ?_
  refine r_goto zi_26_147 rfl ?_
  refine r_ast zi_26_151 rfl 5 hL.2.2.2.2.1 (by first | rfl | (simp only [zI_add, zI_mul] <;> rfl)) (by first | omega | decide) ?_
  refine r_al0 zi_26_152 rfl ?_
  refine q_getR zi_26_153 rfl hL.2.2.1 ?_
  refine r_push zi_26_156 rfl ?_
  refine r_al0 zi_26_158 rfl ?_
  refine q_getR zi_26_159 rfl hL.2.1 ?_
  refine q_getIe zi_26_162 rfl (hk.2.1 14 (by omega) (by omega)) (v := σ k 14) (by first | exact rfl | ((repeat (first | rw [zup_ne (by first | decide | omega)] | rw [zup_nj (by first | decide | omega)] | rw [fil_ne (by first | decide | omega)])) <;> exact rfl) | (simp [up_rd, fil_rd]; exact rfl)) ?_
  refine r_ast zi_26_165 rfl 6 hL.2.2.2.2.1 (by first | rfl | (simp only [zI_add, zI_mul] <;> rfl)) (by first | omega | decide) ?_
  refine r_al0 zi_26_166 rfl ?_
  refine q_getR zi_26_167 rfl hL.2.2.1 ?_
  refine r_push zi_26_170 rfl ?_
  refine r_al0 zi_26_172 rfl ?_
  refine q_getR zi_26_173 rfl hL.2.1 ?_
  refine r_il2 zi_26_176 rfl ?_
  refine q_cIV zi_26_177 rfl rfl rfl rfl rfl rfl rfl (hk.1 0 (by omega)).ob (s_dthose hk (by (repeat rw [zup_ne (by omega)]); exact hn) hn18 ?_)
  show zk _ _ 180 _ _ _ _
  rw [zka_fr (σ := σ) (funext fun b => by (repeat rw [zup_ne (by omega)])) (funext fun b => by (repeat rw [zup_ne (by omega)]))]
  refine r_cIS zi_26_180 rfl rfl rfl rfl rfl rfl (s_bits ?_)
  show zk _ _ 183 _ _ _ _
  refine r_ast zi_26_183 rfl 7 hL.2.2.2.2.1 rfl (by decide) ?_
  refine r_al0 zi_26_184 rfl ?_
  refine q_getR zi_26_185 rfl hL.2.2.1 ?_
  refine r_push zi_26_188 rfl ?_
  refine r_il4 zi_26_190 rfl ?_
  refine r_if0 zi_26_192 rfl (fun c => absurd c (by decide)) (fun _ => ?_)
  refine r_al0 zi_26_195 rfl ?_
  refine q_getR zi_26_196 rfl hL.2.1 ?_
  refine q_getR zi_26_199 rfl (hk.1 7 (by omega)) ?_
  refine r_il1 zi_26_202 rfl ?_
  refine r_alde zi_26_203 rfl s (hk.2.2.2.1 7 (by omega) (by omega)) (by first | rfl | (simp only [zI_add, zI_mul] <;> rfl)) (by first | omega | decide) (u := σ (k + 1 + 7) s) (by first | exact rfl | ((repeat (first | rw [zup_ne (by first | decide | omega)] | rw [zup_nj (by first | decide | omega)] | rw [fil_ne (by first | decide | omega)])) <;> exact rfl) | (simp [up_rd, fil_rd]; exact rfl)) ?_
  refine r_goto zi_26_204 rfl ?_
  refine r_ast zi_26_208 rfl 8 hL.2.2.2.2.1 (by first | rfl | (simp only [zI_add, zI_mul] <;> rfl)) (by first | omega | decide) ?_
  refine r_al0 zi_26_209 rfl ?_
  refine q_getR zi_26_210 rfl hL.2.2.1 ?_
  refine r_push zi_26_213 rfl ?_
  refine r_al0 zi_26_215 rfl ?_
  refine q_getR zi_26_216 rfl hL.2.1 ?_
  refine q_getIe zi_26_219 rfl (hk.2.1 17 (by omega) (by omega)) (v := σ k 17) (by first | exact rfl | ((repeat (first | rw [zup_ne (by first | decide | omega)] | rw [zup_nj (by first | decide | omega)] | rw [fil_ne (by first | decide | omega)])) <;> exact rfl) | (simp [up_rd, fil_rd]; exact rfl)) ?_
  refine r_ast zi_26_222 rfl 9 hL.2.2.2.2.1 (by first | rfl | (simp only [zI_add, zI_mul] <;> rfl)) (by first | omega | decide) ?_
  refine r_ret zi_26_223 rfl ?_
  refine ⟨rfl, h _ ?_ (fun j hj => ?_)⟩
  · exact (((((((((Fr.rf.put (by simp)).put (by simp)).put (by simp)).put (by simp)).put (by simp)).put (by simp)).put (by simp)).put (by simp)).put (by simp)).put (by simp)
  · have hj10 : j = 0 ∨ j = 1 ∨ j = 2 ∨ j = 3 ∨ j = 4 ∨ j = 5 ∨ j = 6 ∨ j = 7 ∨ j = 8 ∨ j = 9 := by omega
    rcases hj10 with e | e | e | e | e | e | e | e | e | e <;> subst e <;> simp [up_rd, zfk]
theorem s_learn0 {d L k n p : Nat} {σ : zS} {Q : zS → Prop} {wh : Int32} (hL : zLa L k) (hk : zDu k) (hkL : k + 12 ≤ L) (hn : σ k 11 = nI n) (hn18 : n ≤ 18) (hp : p < 12) (h : ∀ τ, Fr [L + 1] σ τ → (∀ j, j < 10 → τ (L + 1) j = zfk σ k n false 0 p wh j) → Q τ) : zV1 (d + 1) 26 [.ref L, .int (-1), .int (nI p), .int wh] σ Q := by
  have lp : nI p < 12 := nI_lt (b := 12) hp (by omega)
  have lp0 := nI_pos' (n := p) (by omega)
  show zk _ _ 0 [.ref L, .int (-1), .int (nI p), .int wh, zun, zun] [] _ _
  refine r_al0 zi_26_0 rfl ?_
  refine q_getR zi_26_1 rfl hL.2.1 ?_
  refine r_il1 zi_26_4 rfl ?_
  refine q_cIV zi_26_5 rfl rfl rfl rfl rfl rfl rfl (hk.1 0 (by omega)).ob (s_dsubj hk hn hn18 (fun q hq e => absurd (nI_pos' (n := q) (by omega)) (by rw [← e]; decide)) (fun z => ?_))
  show zk _ _ 8 _ _ _ _
  refine r_is4 zi_26_8 rfl ?_
  refine r_il2 zi_26_10 rfl ?_
  refine r_cIS zi_26_11 rfl rfl rfl rfl rfl rfl (s_kplace (fun _ _ => ?_) (fun z => absurd ⟨lp0, lp⟩ z))
  show zk _ _ 14 _ _ _ _
  refine r_is5 zi_26_14 rfl ?_
  refine r_al0 zi_26_16 rfl ?_
  refine q_getR zi_26_17 rfl hL.2.2.1 ?_
  refine r_push zi_26_20 rfl ?_
  refine r_il4 zi_26_21 rfl ?_
  refine r_if0 zi_26_23 rfl (fun _ => ?_) (fun c => absurd (by decide) c)
  refine r_push zi_26_38 rfl ?_
  refine r_ast zi_26_39 rfl 0 hL.2.2.2.2.1 (by first | rfl | (simp only [zI_add, zI_mul] <;> rfl)) (by first | omega | decide) ?_
  refine r_al0 zi_26_40 rfl ?_
  refine q_getR zi_26_41 rfl hL.2.2.1 ?_
  refine r_push zi_26_44 rfl ?_
  refine r_il4 zi_26_45 rfl ?_
  refine r_if0 zi_26_47 rfl (fun _ => ?_) (fun c => absurd (by decide) c)
  refine r_push zi_26_62 rfl ?_
  refine r_ast zi_26_63 rfl 1 hL.2.2.2.2.1 (by first | rfl | (simp only [zI_add, zI_mul] <;> rfl)) (by first | omega | decide) ?_
  refine r_al0 zi_26_64 rfl ?_
  refine q_getR zi_26_65 rfl hL.2.2.1 ?_
  refine r_push zi_26_68 rfl ?_
  refine r_il4 zi_26_69 rfl ?_
  refine r_if0 zi_26_71 rfl (fun _ => ?_) (fun c => absurd (by decide) c)
  refine r_push zi_26_78 rfl ?_
  refine r_ast zi_26_79 rfl 2 hL.2.2.2.2.1 (by first | rfl | (simp only [zI_add, zI_mul] <;> rfl)) (by first | omega | decide) ?_
  refine r_al0 zi_26_80 rfl ?_
  refine q_getR zi_26_81 rfl hL.2.2.1 ?_
  refine r_push zi_26_84 rfl ?_
  refine r_il5 zi_26_85 rfl ?_
  refine r_if0 zi_26_87 rfl (fun c => absurd c (by decide)) (fun _ => ?_)
  refine r_al0 zi_26_90 rfl ?_
  refine q_getR zi_26_91 rfl hL.2.1 ?_
  refine q_getR zi_26_94 rfl (hk.1 1 (by omega)) ?_
  refine r_il2 zi_26_97 rfl ?_
  refine r_alde zi_26_98 rfl p (hk.2.2.1 1 (by omega)) (by first | rfl | (simp only [zI_add, zI_mul] <;> rfl)) (by first | omega | decide) (u := σ (k + 1 + 1) p) (by first | exact rfl | ((repeat (first | rw [zup_ne (by first | decide | omega)] | rw [zup_nj (by first | decide | omega)] | rw [fil_ne (by first | decide | omega)])) <;> exact rfl) | (simp [up_rd, fil_rd]; exact rfl)) ?_
  refine r_goto zi_26_99 rfl ?_
  refine r_ast zi_26_103 rfl 3 hL.2.2.2.2.1 (by first | rfl | (simp only [zI_add, zI_mul] <;> rfl)) (by first | omega | decide) ?_
  refine r_al0 zi_26_104 rfl ?_
  refine q_getR zi_26_105 rfl hL.2.2.1 ?_
  refine r_push zi_26_108 rfl ?_
  refine r_il5 zi_26_109 rfl ?_
  refine r_if0 zi_26_111 rfl (fun c => absurd c (by decide)) (fun _ => ?_)
  refine r_al0 zi_26_114 rfl ?_
  refine q_getR zi_26_115 rfl hL.2.1 ?_
  refine q_getR zi_26_118 rfl (hk.1 2 (by omega)) ?_
  refine r_il2 zi_26_121 rfl ?_
  refine r_alde zi_26_122 rfl p (hk.2.2.1 2 (by omega)) (by first | rfl | (simp only [zI_add, zI_mul] <;> rfl)) (by first | omega | decide) (u := σ (k + 1 + 2) p) (by first | exact rfl | ((repeat (first | rw [zup_ne (by first | decide | omega)] | rw [zup_nj (by first | decide | omega)] | rw [fil_ne (by first | decide | omega)])) <;> exact rfl) | (simp [up_rd, fil_rd]; exact rfl)) ?_
  refine r_goto zi_26_123 rfl ?_
  refine r_ast zi_26_127 rfl 4 hL.2.2.2.2.1 (by first | rfl | (simp only [zI_add, zI_mul] <;> rfl)) (by first | omega | decide) ?_
  refine r_al0 zi_26_128 rfl ?_
  refine q_getR zi_26_129 rfl hL.2.2.1 ?_
  refine r_push zi_26_132 rfl ?_
  refine r_il5 zi_26_133 rfl ?_
  refine r_if0 zi_26_135 rfl (fun c => absurd c (by decide)) (fun _ => ?_)
  refine r_al0 zi_26_138 rfl ?_
  refine q_getR zi_26_139 rfl hL.2.1 ?_
  refine q_getR zi_26_142 rfl (hk.1 0 (by omega)) ?_
  refine r_il2 zi_26_145 rfl ?_
  refine r_alde zi_26_146 rfl p (hk.2.2.1 0 (by omega)) (by first | rfl | (simp only [zI_add, zI_mul] <;> rfl)) (by first | omega | decide) (u := σ (k + 1 + 0) p) (by first | exact rfl | ((repeat (first | rw [zup_ne (by first | decide | omega)] | rw [zup_nj (by first | decide | omega)] | rw [fil_ne (by first | decide | omega)])) <;> exact rfl) | (simp [up_rd, fil_rd]; exact rfl)) ?_
  refine r_goto zi_26_147 rfl ?_
  refine r_ast zi_26_151 rfl 5 hL.2.2.2.2.1 (by first | rfl | (simp only [zI_add, zI_mul] <;> rfl)) (by first | omega | decide) ?_
  refine r_al0 zi_26_152 rfl ?_
  refine q_getR zi_26_153 rfl hL.2.2.1 ?_
  refine r_push zi_26_156 rfl ?_
  refine r_al0 zi_26_158 rfl ?_
  refine q_getR zi_26_159 rfl hL.2.1 ?_
  refine q_getIe zi_26_162 rfl (hk.2.1 14 (by omega) (by omega)) (v := σ k 14) (by first | exact rfl | ((repeat (first | rw [zup_ne (by first | decide | omega)] | rw [zup_nj (by first | decide | omega)] | rw [fil_ne (by first | decide | omega)])) <;> exact rfl) | (simp [up_rd, fil_rd]; exact rfl)) ?_
  refine r_ast zi_26_165 rfl 6 hL.2.2.2.2.1 (by first | rfl | (simp only [zI_add, zI_mul] <;> rfl)) (by first | omega | decide) ?_
  refine r_al0 zi_26_166 rfl ?_
  refine q_getR zi_26_167 rfl hL.2.2.1 ?_
  refine r_push zi_26_170 rfl ?_
  refine r_al0 zi_26_172 rfl ?_
  refine q_getR zi_26_173 rfl hL.2.1 ?_
  refine r_il2 zi_26_176 rfl ?_
  refine q_cIV zi_26_177 rfl rfl rfl rfl rfl rfl rfl (hk.1 0 (by omega)).ob (s_dthose hk (by (repeat rw [zup_ne (by omega)]); exact hn) hn18 ?_)
  show zk _ _ 180 _ _ _ _
  rw [zka_fr (σ := σ) (funext fun b => by (repeat rw [zup_ne (by omega)])) (funext fun b => by (repeat rw [zup_ne (by omega)]))]
  refine r_cIS zi_26_180 rfl rfl rfl rfl rfl rfl (s_bits ?_)
  show zk _ _ 183 _ _ _ _
  refine r_ast zi_26_183 rfl 7 hL.2.2.2.2.1 rfl (by decide) ?_
  refine r_al0 zi_26_184 rfl ?_
  refine q_getR zi_26_185 rfl hL.2.2.1 ?_
  refine r_push zi_26_188 rfl ?_
  refine r_il4 zi_26_190 rfl ?_
  refine r_if0 zi_26_192 rfl (fun _ => ?_) (fun c => absurd (by decide) c)
  refine r_push zi_26_207 rfl ?_
  refine r_ast zi_26_208 rfl 8 hL.2.2.2.2.1 (by first | rfl | (simp only [zI_add, zI_mul] <;> rfl)) (by first | omega | decide) ?_
  refine r_al0 zi_26_209 rfl ?_
  refine q_getR zi_26_210 rfl hL.2.2.1 ?_
  refine r_push zi_26_213 rfl ?_
  refine r_al0 zi_26_215 rfl ?_
  refine q_getR zi_26_216 rfl hL.2.1 ?_
  refine q_getIe zi_26_219 rfl (hk.2.1 17 (by omega) (by omega)) (v := σ k 17) (by first | exact rfl | ((repeat (first | rw [zup_ne (by first | decide | omega)] | rw [zup_nj (by first | decide | omega)] | rw [fil_ne (by first | decide | omega)])) <;> exact rfl) | (simp [up_rd, fil_rd]; exact rfl)) ?_
  refine r_ast zi_26_222 rfl 9 hL.2.2.2.2.1 (by first | rfl | (simp only [zI_add, zI_mul] <;> rfl)) (by first | omega | decide) ?_
  refine r_ret zi_26_223 rfl ?_
  refine ⟨rfl, h _ ?_ (fun j hj => ?_)⟩
  · exact (((((((((Fr.rf.put (by simp)).put (by simp)).put (by simp)).put (by simp)).put (by simp)).put (by simp)).put (by simp)).put (by simp)).put (by simp)).put (by simp)
  · have hj10 : j = 0 ∨ j = 1 ∨ j = 2 ∨ j = 3 ∨ j = 4 ∨ j = 5 ∨ j = 6 ∨ j = 7 ∨ j = 8 ∨ j = 9 := by omega
    rcases hj10 with e | e | e | e | e | e | e | e | e | e <;> subst e <;> simp [up_rd, zfk]
def zwo (w : Nat) (F : Nat → Int32) : Int32 := if w = 0 then 500 + 50 * F 0 - 5 * F 1 else if w = 1 then 5 else 3
def zmo (w : Nat) : Int32 := if w = 0 then 1000 else 99
/-- what the law tells for facts -/
noncomputable def zTl (n : Nat) (Wd Fr Wh To O A : Nat → Nat) (w : Nat) (F : Nat → Int32) : Int32 := zhld (zlv Fr Wh O A F (zwo w F) (zfst Wd Wh To O A F w n 0)) (zmo w)
theorem s_usual {d L k w : Nat} {σ : zS} {Q : Int32 → zS → Prop} {F : Nat → Int32} (hL : zLa L k) (hF : ∀ j, j < 10 → σ (L + 1) j = F j) (hw : w ≤ 2) (hq : Q (zwo w F) σ) : zI1 d 25 [.ref L, .int (nI (10000 + w))] σ Q := by
  have hk : True := trivial
  have f0 := hF 0 (by omega)
  have f1 := hF 1 (by omega)
  have h3 : w = 0 ∨ w = 1 ∨ w = 2 := by omega
  show zk _ _ 0 [.ref L, .int (nI (10000 + w))] [] _ _
  rcases h3 with e | e | e <;> subst e
  · show zk _ _ 0 [.ref L, .int 10000] [] _ _
    refine r_il1 zi_25_0 rfl ?_
    refine r_sw zi_25_1 rfl ?_
    rw [show zsw [(10000, 28), (10001, 51)] 53 10000 = 28 from by decide]
    refine r_push zi_25_28 rfl ?_
    refine r_push zi_25_31 rfl ?_
    refine r_al0 zi_25_33 rfl ?_
    refine q_getR zi_25_34 rfl hL.2.2.1 ?_
    refine r_push zi_25_37 rfl ?_
    refine r_alde zi_25_38 rfl 0 hL.2.2.2.2.1 (by first | rfl | (simp only [zI_add, zI_mul] <;> rfl)) (by first | omega | decide) (u := F 0) (by first | exact f0 | ((repeat (first | rw [zup_ne (by first | decide | omega)] | rw [zup_nj (by first | decide | omega)] | rw [fil_ne (by first | decide | omega)])) <;> exact f0) | (simp [up_rd, fil_rd]; exact f0)) ?_
    refine r_b2 zi_25_39 rfl ?_
    refine r_b0 zi_25_40 rfl ?_
    refine r_push zi_25_41 rfl ?_
    refine r_al0 zi_25_42 rfl ?_
    refine q_getR zi_25_43 rfl hL.2.2.1 ?_
    refine r_push zi_25_46 rfl ?_
    refine r_alde zi_25_47 rfl 1 hL.2.2.2.2.1 (by first | rfl | (simp only [zI_add, zI_mul] <;> rfl)) (by first | omega | decide) (u := F 1) (by first | exact f1 | ((repeat (first | rw [zup_ne (by first | decide | omega)] | rw [zup_nj (by first | decide | omega)] | rw [fil_ne (by first | decide | omega)])) <;> exact f1) | (simp [up_rd, fil_rd]; exact f1)) ?_
    refine r_b2 zi_25_48 rfl ?_
    refine r_b1 zi_25_49 rfl ?_
    refine r_retI zi_25_50 rfl ?_
    exact ⟨_, rfl, hq⟩
  · show zk _ _ 0 [.ref L, .int 10001] [] _ _
    refine r_il1 zi_25_0 rfl ?_
    refine r_sw zi_25_1 rfl ?_
    rw [show zsw [(10000, 28), (10001, 51)] 53 10001 = 51 from by decide]
    refine r_push zi_25_51 rfl ?_
    refine r_retI zi_25_52 rfl ?_
    exact ⟨_, rfl, hq⟩
  · show zk _ _ 0 [.ref L, .int 10002] [] _ _
    refine r_il1 zi_25_0 rfl ?_
    refine r_sw zi_25_1 rfl ?_
    rw [show zsw [(10000, 28), (10001, 51)] 53 10002 = 53 from by decide]
    refine r_push zi_25_53 rfl ?_
    refine r_retI zi_25_54 rfl ?_
    exact ⟨_, rfl, hq⟩
theorem zhld_k {v most : Int32} (h : 0 ≤ most) : (if 0 < (if most < v then most else v) then (if most < v then most else v) else 0) = zhld v most := zheld_eq v 0 most h
theorem l_tells {d L k n w : Nat} {σ : zS} {Q : Int32 → zS → Prop} {Wd Fr' Wh To O A : Nat → Nat} {F : Nat → Int32} {a2 a3 a4 : Value} (hL : zLa L k) (hW : zLw n Wd Fr' Wh To O A) (hK : zLwK σ 15 n Wd Fr' Wh To O A) (hw : w ≤ 2) (hF : ∀ j, j < 10 → σ (L + 1) j = F j) (hq : ∀ τ, Fr [L + 2] σ τ → Q (zTl n Wd Fr' Wh To O A w F) τ) : ∀ (m l : Nat) (τ : zS) (u7 u8 : Value), l + m = n → zfst Wd Wh To O A F w n 0 = zfst Wd Wh To O A F w m l → Fr [L + 2] σ τ → zk (d + 2) 24 28 [.ref L, .int (nI (10000 + w)), a2, a3, a4, .int (zmo w), .int (nI l), u7, u8] [] τ (fun r t => ∃ v, r = some v ∧ Q v t) := by
  have hLn := hL.2.2.2.2.2.2
  have hn16 := hW.1
  have hmo : 0 ≤ zmo w := by unfold zmo; split <;> decide
  intro m
  induction m with
  | zero =>
    intro l τ u7 u8 hl he hFr
    have hn := (hFr 15 (by simp; omega) 2).trans hK.1
    have hq := hq τ hFr
    unfold zTl at hq
    rw [he] at hq
    have hq : Q (zhld (zwo w F) (zmo w)) τ := hq
    refine r_il6 zi_24_28 rfl ?_
    refine r_al0 zi_24_30 rfl ?_
    refine q_getR zi_24_31 rfl hL.1 ?_
    refine q_getIe zi_24_34 rfl zTx15.2.2.1 (v := nI n) (by first | exact hn | ((repeat (first | rw [zup_ne (by first | decide | omega)] | rw [zup_nj (by first | decide | omega)] | rw [fil_ne (by first | decide | omega)])) <;> exact hn) | (simp [up_rd, fil_rd]; exact hn)) ?_
    refine n_ic3 (i := l) (j := n) zi_24_37 rfl (by omega) (by omega) (fun _ => ?_) (fun c => absurd c (by omega))
    refine r_al0 zi_24_125 rfl ?_
    refine r_il1 zi_24_126 rfl ?_
    refine q_cIV zi_24_127 rfl rfl rfl rfl rfl rfl rfl hL.1.ob (s_usual hL (fun j hj => (hFr (L + 1) (by simp) j).trans (hF j hj)) hw ?_)
    show zk _ _ 130 _ _ _ _
    refine r_push zi_24_130 rfl ?_
    refine r_il5 zi_24_131 rfl ?_
    refine r_cIS zi_24_133 rfl rfl rfl rfl rfl rfl (s_kheld ?_)
    show zk _ _ 136 _ _ _ _
    rw [zhld_k hmo]
    refine r_retI zi_24_136 rfl ?_
    exact ⟨_, rfl, hq⟩
  | succ m ih =>
    intro l τ u7 u8 hl he hFr
    have hn := (hFr 15 (by simp; omega) 2).trans hK.1
    obtain ⟨m1, m2, m3, m4, m5⟩ := hK.2 l (by omega)
    obtain ⟨g1, g2, g3, g4, ⟨kf, g5⟩, g6⟩ := hW.2 l (by omega)
    have c0 : τ (15 + 1) (l * 4 + 0) = nI (10000 + Wd l) := (hFr 16 (by simp; omega) (l * 4)).trans m1
    have c1 := (hFr 16 (by simp; omega) (l * 4 + 1)).trans m2
    have c2 := (hFr 16 (by simp; omega) (l * 4 + 2)).trans m3
    have c3 := (hFr 16 (by simp; omega) (l * 4 + 3)).trans m4
    have hcd : ∀ τ2 : zS, Fr [L + 2] σ τ2 → ∀ j, Fr' l ≤ j → j < To l → τ2 17 j = nI (zen (O j) (A j)) := fun τ2 h2 j h3 h4 => (h2 17 (by simp; omega) j).trans (m5 j h3 h4)
    have hF' : ∀ τ2 : zS, Fr [L + 2] σ τ2 → ∀ j, j < 10 → τ2 (L + 1) j = F j := fun τ2 h2 j hj => (h2 (L + 1) (by simp) j).trans (hF j hj)
    by_cases hwd : Wd l = w
    · have fin : ∀ τ2 : zS, Fr [L + 2] σ τ2 → zfst Wd Wh To O A F w n 0 = some l → ∀ u8, zk (d + 2) 24 96 [.ref L, .int (nI (10000 + w)), a2, a3, a4, .int (zmo w), .int (nI l), .int (nI (Wh l)), u8] [] τ2 (fun r t => ∃ v, r = some v ∧ Q v t) := by
        intro τ2 h2 hz u8
        have c1' := (h2 16 (by simp; omega) (l * 4 + 1)).trans m2
        refine r_al0 zi_24_96 rfl ?_
        refine r_al0 zi_24_97 rfl ?_
        refine q_getR zi_24_98 rfl hL.1 ?_
        refine r_il6 zi_24_101 rfl ?_
        refine r_push zi_24_103 rfl ?_
        refine q_cIV zi_24_104 rfl rfl rfl rfl rfl rfl rfl zTx15.1.ob (s_cell zTx15 (by omega) (j := 1) (by omega) ?_)
        show zk _ _ 107 _ _ _ _
        rw [c1']
        refine r_il7 zi_24_107 rfl ?_
        refine q_cIV zi_24_109 rfl rfl rfl rfl rfl rfl rfl hL.1.ob (s_kvalue hL g2 (by omega) (hF' τ2 h2) (fun j h3 h4 => hcd τ2 h2 j h3 (by omega)) g5 (fun τ3 hF3 => ?_))
        show zk _ _ 112 _ _ _ _
        refine r_push zi_24_112 rfl ?_
        refine r_il5 zi_24_113 rfl ?_
        refine r_cIS zi_24_115 rfl rfl rfl rfl rfl rfl (s_kheld ?_)
        show zk _ _ 118 _ _ _ _
        rw [zhld_k hmo]
        refine r_retI zi_24_118 rfl ?_
        have hq := hq τ3 (h2.tr hF3)
        unfold zTl at hq
        rw [hz] at hq
        exact ⟨_, rfl, hq⟩
      by_cases hwt : Wh l = To l
      · have hc : Wd l = w ∧ zcnd Wh To O A F l := ⟨hwd, Or.inl hwt⟩
        rw [zfst_t hc] at he
        refine r_il6 zi_24_28 rfl ?_
        refine r_al0 zi_24_30 rfl ?_
        refine q_getR zi_24_31 rfl hL.1 ?_
        refine q_getIe zi_24_34 rfl zTx15.2.2.1 (v := nI n) (by first | exact hn | ((repeat (first | rw [zup_ne (by first | decide | omega)] | rw [zup_nj (by first | decide | omega)] | rw [fil_ne (by first | decide | omega)])) <;> exact hn) | (simp [up_rd, fil_rd]; exact hn)) ?_
        refine n_ic3 (i := l) (j := n) zi_24_37 rfl (by omega) (by omega) (fun c => absurd c (by omega)) (fun _ => ?_)
        refine r_al0 zi_24_40 rfl ?_
        refine q_getR zi_24_41 rfl hL.1 ?_
        refine r_il6 zi_24_44 rfl ?_
        refine r_push zi_24_46 rfl ?_
        refine q_cIV zi_24_47 rfl rfl rfl rfl rfl rfl rfl zTx15.1.ob (s_cell zTx15 (by omega) (j := 2) (by omega) ?_)
        show zk _ _ 50 _ _ _ _
        rw [c2]
        refine r_is7 zi_24_50 rfl ?_
        refine r_al0 zi_24_52 rfl ?_
        refine q_getR zi_24_53 rfl hL.1 ?_
        refine r_il6 zi_24_56 rfl ?_
        refine r_push zi_24_58 rfl ?_
        refine q_cIV zi_24_59 rfl rfl rfl rfl rfl rfl rfl zTx15.1.ob (s_cell zTx15 (by omega) (j := 3) (by omega) ?_)
        show zk _ _ 62 _ _ _ _
        rw [c3]
        refine r_is8 zi_24_62 rfl ?_
        refine r_al0 zi_24_64 rfl ?_
        refine q_getR zi_24_65 rfl hL.1 ?_
        refine r_il6 zi_24_68 rfl ?_
        refine r_push zi_24_70 rfl ?_
        refine q_cIV zi_24_71 rfl rfl rfl rfl rfl rfl rfl zTx15.1.ob (s_cell zTx15 (by omega) (j := 0) (by omega) ?_)
        show zk _ _ 74 _ _ _ _
        rw [c0]
        refine r_il1 zi_24_74 rfl ?_
        refine n_ic1 (i := (10000 + Wd l)) (j := (10000+w)) zi_24_75 rfl (by omega) (by omega) (fun c => absurd c (by omega)) (fun _ => ?_)
        refine r_il7 zi_24_78 rfl ?_
        refine r_il8 zi_24_80 rfl ?_
        refine n_ic0 (i := (Wh l)) (j := (To l)) zi_24_82 rfl (by omega) (by omega) (fun _ => ?_) (fun c => absurd c (by omega))
        exact fin τ hFr he _
      · by_cases hv : (zev O A F (To l - Wh l) (Wh l) []).headD 0 = 0
        · have hc : ¬ (Wd l = w ∧ zcnd Wh To O A F l) := fun z => by
            rcases z.2 with z | z
            · exact hwt z
            · exact z hv
          rw [zfst_f hc] at he
          refine r_il6 zi_24_28 rfl ?_
          refine r_al0 zi_24_30 rfl ?_
          refine q_getR zi_24_31 rfl hL.1 ?_
          refine q_getIe zi_24_34 rfl zTx15.2.2.1 (v := nI n) (by first | exact hn | ((repeat (first | rw [zup_ne (by first | decide | omega)] | rw [zup_nj (by first | decide | omega)] | rw [fil_ne (by first | decide | omega)])) <;> exact hn) | (simp [up_rd, fil_rd]; exact hn)) ?_
          refine n_ic3 (i := l) (j := n) zi_24_37 rfl (by omega) (by omega) (fun c => absurd c (by omega)) (fun _ => ?_)
          refine r_al0 zi_24_40 rfl ?_
          refine q_getR zi_24_41 rfl hL.1 ?_
          refine r_il6 zi_24_44 rfl ?_
          refine r_push zi_24_46 rfl ?_
          refine q_cIV zi_24_47 rfl rfl rfl rfl rfl rfl rfl zTx15.1.ob (s_cell zTx15 (by omega) (j := 2) (by omega) ?_)
          show zk _ _ 50 _ _ _ _
          rw [c2]
          refine r_is7 zi_24_50 rfl ?_
          refine r_al0 zi_24_52 rfl ?_
          refine q_getR zi_24_53 rfl hL.1 ?_
          refine r_il6 zi_24_56 rfl ?_
          refine r_push zi_24_58 rfl ?_
          refine q_cIV zi_24_59 rfl rfl rfl rfl rfl rfl rfl zTx15.1.ob (s_cell zTx15 (by omega) (j := 3) (by omega) ?_)
          show zk _ _ 62 _ _ _ _
          rw [c3]
          refine r_is8 zi_24_62 rfl ?_
          refine r_al0 zi_24_64 rfl ?_
          refine q_getR zi_24_65 rfl hL.1 ?_
          refine r_il6 zi_24_68 rfl ?_
          refine r_push zi_24_70 rfl ?_
          refine q_cIV zi_24_71 rfl rfl rfl rfl rfl rfl rfl zTx15.1.ob (s_cell zTx15 (by omega) (j := 0) (by omega) ?_)
          show zk _ _ 74 _ _ _ _
          rw [c0]
          refine r_il1 zi_24_74 rfl ?_
          refine n_ic1 (i := (10000 + Wd l)) (j := (10000+w)) zi_24_75 rfl (by omega) (by omega) (fun c => absurd c (by omega)) (fun _ => ?_)
          refine r_il7 zi_24_78 rfl ?_
          refine r_il8 zi_24_80 rfl ?_
          refine n_ic0 (i := (Wh l)) (j := (To l)) zi_24_82 rfl (by omega) (by omega) (fun c => absurd c (by omega)) (fun _ => ?_)
          refine r_al0 zi_24_85 rfl ?_
          refine r_il7 zi_24_86 rfl ?_
          refine r_il8 zi_24_88 rfl ?_
          refine q_cIV zi_24_90 rfl rfl rfl rfl rfl rfl rfl hL.1.ob (s_kvalue hL g3 g4 (hF' τ hFr) (fun j h3 h4 => hcd τ hFr j (by omega) h4) (g6 (by omega)) (fun τ2 hF2 => ?_))
          show zk _ _ 93 _ _ _ _
          refine r_if0 zi_24_93 rfl (fun _ => ?_) (fun c => absurd hv c)
          refine r_in6 zi_24_119 rfl ?_
          rw [show (nI l + 1 : Int32) = nI (l + 1) from nI_add _ _]
          refine r_goto zi_24_122 rfl ?_
          exact ih (l + 1) τ2 _ _ (by omega) he (hFr.tr hF2)
        · have hc : Wd l = w ∧ zcnd Wh To O A F l := ⟨hwd, Or.inr hv⟩
          rw [zfst_t hc] at he
          refine r_il6 zi_24_28 rfl ?_
          refine r_al0 zi_24_30 rfl ?_
          refine q_getR zi_24_31 rfl hL.1 ?_
          refine q_getIe zi_24_34 rfl zTx15.2.2.1 (v := nI n) (by first | exact hn | ((repeat (first | rw [zup_ne (by first | decide | omega)] | rw [zup_nj (by first | decide | omega)] | rw [fil_ne (by first | decide | omega)])) <;> exact hn) | (simp [up_rd, fil_rd]; exact hn)) ?_
          refine n_ic3 (i := l) (j := n) zi_24_37 rfl (by omega) (by omega) (fun c => absurd c (by omega)) (fun _ => ?_)
          refine r_al0 zi_24_40 rfl ?_
          refine q_getR zi_24_41 rfl hL.1 ?_
          refine r_il6 zi_24_44 rfl ?_
          refine r_push zi_24_46 rfl ?_
          refine q_cIV zi_24_47 rfl rfl rfl rfl rfl rfl rfl zTx15.1.ob (s_cell zTx15 (by omega) (j := 2) (by omega) ?_)
          show zk _ _ 50 _ _ _ _
          rw [c2]
          refine r_is7 zi_24_50 rfl ?_
          refine r_al0 zi_24_52 rfl ?_
          refine q_getR zi_24_53 rfl hL.1 ?_
          refine r_il6 zi_24_56 rfl ?_
          refine r_push zi_24_58 rfl ?_
          refine q_cIV zi_24_59 rfl rfl rfl rfl rfl rfl rfl zTx15.1.ob (s_cell zTx15 (by omega) (j := 3) (by omega) ?_)
          show zk _ _ 62 _ _ _ _
          rw [c3]
          refine r_is8 zi_24_62 rfl ?_
          refine r_al0 zi_24_64 rfl ?_
          refine q_getR zi_24_65 rfl hL.1 ?_
          refine r_il6 zi_24_68 rfl ?_
          refine r_push zi_24_70 rfl ?_
          refine q_cIV zi_24_71 rfl rfl rfl rfl rfl rfl rfl zTx15.1.ob (s_cell zTx15 (by omega) (j := 0) (by omega) ?_)
          show zk _ _ 74 _ _ _ _
          rw [c0]
          refine r_il1 zi_24_74 rfl ?_
          refine n_ic1 (i := (10000 + Wd l)) (j := (10000+w)) zi_24_75 rfl (by omega) (by omega) (fun c => absurd c (by omega)) (fun _ => ?_)
          refine r_il7 zi_24_78 rfl ?_
          refine r_il8 zi_24_80 rfl ?_
          refine n_ic0 (i := (Wh l)) (j := (To l)) zi_24_82 rfl (by omega) (by omega) (fun c => absurd c (by omega)) (fun _ => ?_)
          refine r_al0 zi_24_85 rfl ?_
          refine r_il7 zi_24_86 rfl ?_
          refine r_il8 zi_24_88 rfl ?_
          refine q_cIV zi_24_90 rfl rfl rfl rfl rfl rfl rfl hL.1.ob (s_kvalue hL g3 g4 (hF' τ hFr) (fun j h3 h4 => hcd τ hFr j (by omega) h4) (g6 (by omega)) (fun τ2 hF2 => ?_))
          show zk _ _ 93 _ _ _ _
          refine r_if0 zi_24_93 rfl (fun c => absurd c hv) (fun _ => ?_)
          exact fin τ2 (hFr.tr hF2) he _
    · have hc : ¬ (Wd l = w ∧ zcnd Wh To O A F l) := fun z => hwd z.1
      rw [zfst_f hc] at he
      refine r_il6 zi_24_28 rfl ?_
      refine r_al0 zi_24_30 rfl ?_
      refine q_getR zi_24_31 rfl hL.1 ?_
      refine q_getIe zi_24_34 rfl zTx15.2.2.1 (v := nI n) (by first | exact hn | ((repeat (first | rw [zup_ne (by first | decide | omega)] | rw [zup_nj (by first | decide | omega)] | rw [fil_ne (by first | decide | omega)])) <;> exact hn) | (simp [up_rd, fil_rd]; exact hn)) ?_
      refine n_ic3 (i := l) (j := n) zi_24_37 rfl (by omega) (by omega) (fun c => absurd c (by omega)) (fun _ => ?_)
      refine r_al0 zi_24_40 rfl ?_
      refine q_getR zi_24_41 rfl hL.1 ?_
      refine r_il6 zi_24_44 rfl ?_
      refine r_push zi_24_46 rfl ?_
      refine q_cIV zi_24_47 rfl rfl rfl rfl rfl rfl rfl zTx15.1.ob (s_cell zTx15 (by omega) (j := 2) (by omega) ?_)
      show zk _ _ 50 _ _ _ _
      rw [c2]
      refine r_is7 zi_24_50 rfl ?_
      refine r_al0 zi_24_52 rfl ?_
      refine q_getR zi_24_53 rfl hL.1 ?_
      refine r_il6 zi_24_56 rfl ?_
      refine r_push zi_24_58 rfl ?_
      refine q_cIV zi_24_59 rfl rfl rfl rfl rfl rfl rfl zTx15.1.ob (s_cell zTx15 (by omega) (j := 3) (by omega) ?_)
      show zk _ _ 62 _ _ _ _
      rw [c3]
      refine r_is8 zi_24_62 rfl ?_
      refine r_al0 zi_24_64 rfl ?_
      refine q_getR zi_24_65 rfl hL.1 ?_
      refine r_il6 zi_24_68 rfl ?_
      refine r_push zi_24_70 rfl ?_
      refine q_cIV zi_24_71 rfl rfl rfl rfl rfl rfl rfl zTx15.1.ob (s_cell zTx15 (by omega) (j := 0) (by omega) ?_)
      show zk _ _ 74 _ _ _ _
      rw [c0]
      refine r_il1 zi_24_74 rfl ?_
      refine n_ic1 (i := (10000 + Wd l)) (j := (10000+w)) zi_24_75 rfl (by omega) (by omega) (fun _ => ?_) (fun c => absurd c (by omega))
      refine r_in6 zi_24_119 rfl ?_
      rw [show (nI l + 1 : Int32) = nI (l + 1) from nI_add _ _]
      refine r_goto zi_24_122 rfl ?_
      exact ih (l + 1) τ _ _ (by omega) he hFr
theorem s_tells {d L k n N w s p : Nat} {σ : zS} {Q : Int32 → zS → Prop} {Wd Fr' Wh To O A : Nat → Nat} {sb : Bool} {who wh : Int32} (hL : zLa L k) (hk : zDu k) (hkL : k + 12 ≤ L) (hn : σ k 11 = nI n) (hn18 : n ≤ 18) (hs : (sb = true ∧ s < n ∧ who = nI s) ∨ (sb = false ∧ s = 0 ∧ who = -1)) (hp : p < 12) (hW : zLw N Wd Fr' Wh To O A) (hK : zLwK σ 15 N Wd Fr' Wh To O A) (hw : w ≤ 2) (hq : ∀ τ, Fr [L + 1, L + 2] σ τ → Q (zTl N Wd Fr' Wh To O A w (zfk σ k n sb s p wh)) τ) : zI1 (d + 2) 24 [.ref L, .int (nI (10000 + w)), .int who, .int (nI p), .int wh] σ Q := by
  have hLn := hL.2.2.2.2.2.2
  have key : ∀ τ, Fr [L + 1] σ τ → (∀ j, j < 10 → τ (L + 1) j = zfk σ k n sb s p wh j) → ∀ a2 a3 a4 u7 u8 : Value, zk (d + 2) 24 28 [.ref L, .int (nI (10000 + w)), a2, a3, a4, .int (zmo w), .int (nI 0), u7, u8] [] τ (fun r t => ∃ v, r = some v ∧ Q v t) := by
    intro τ h1 h2 a2 a3 a4 u7 u8
    have hK' : zLwK τ 15 N Wd Fr' Wh To O A := ⟨(h1 15 (by simp; omega) 2).trans hK.1, fun l hl => by
      obtain ⟨m1, m2, m3, m4, m5⟩ := hK.2 l hl
      exact ⟨(h1 16 (by simp; omega) _).trans m1, (h1 16 (by simp; omega) _).trans m2, (h1 16 (by simp; omega) _).trans m3, (h1 16 (by simp; omega) _).trans m4, fun j h3 h4 => (h1 17 (by simp; omega) j).trans (m5 j h3 h4)⟩⟩
    exact l_tells hL hW hK' hw h2 (fun τ2 h3 => hq τ2 ((h1.sub (by simp)).tr (h3.sub (by simp)))) N 0 τ u7 u8 (by omega) rfl Fr.rf
  have hm0 : w = 0 → (1000 : Int32) = zmo w := fun e => by unfold zmo; rw [if_pos e]
  have hm1 : ¬ w = 0 → (99 : Int32) = zmo w := fun e => by unfold zmo; rw [if_neg e]
  show zk _ _ 0 [.ref L, .int (nI (10000 + w)), .int who, .int (nI p), .int wh, zun, zun, zun, zun] [] _ _
  rcases hs with ⟨e1, e2, e3⟩ | ⟨e1, e2, e3⟩
  · subst e1; subst e3
    by_cases hw0 : w = 0
    · refine r_al0 zi_24_0 rfl ?_
      refine r_il2 zi_24_1 rfl ?_
      refine r_il3 zi_24_2 rfl ?_
      refine r_il4 zi_24_3 rfl ?_
      refine q_cVV zi_24_5 rfl rfl rfl rfl rfl rfl rfl hL.1.ob (s_learn1 hL hk hkL hn hn18 e2 hp (fun τ h1 h2 => ?_))
      show zk _ _ 8 _ _ _ _
      refine r_il1 zi_24_8 rfl ?_
      refine r_push zi_24_9 rfl ?_
      refine n_ic1 (i := (10000+w)) (j := 10000) zi_24_12 rfl (by omega) (by omega) (fun c => absurd c (by omega)) (fun _ => ?_)
      refine r_push zi_24_15 rfl ?_
      refine r_goto zi_24_18 rfl ?_
      refine r_is5 zi_24_23 rfl ?_
      refine r_push zi_24_25 rfl ?_
      refine r_is6 zi_24_26 rfl ?_
      rw [hm0 hw0]
      exact key τ h1 h2 _ _ _ _ _
    · refine r_al0 zi_24_0 rfl ?_
      refine r_il2 zi_24_1 rfl ?_
      refine r_il3 zi_24_2 rfl ?_
      refine r_il4 zi_24_3 rfl ?_
      refine q_cVV zi_24_5 rfl rfl rfl rfl rfl rfl rfl hL.1.ob (s_learn1 hL hk hkL hn hn18 e2 hp (fun τ h1 h2 => ?_))
      show zk _ _ 8 _ _ _ _
      refine r_il1 zi_24_8 rfl ?_
      refine r_push zi_24_9 rfl ?_
      refine n_ic1 (i := (10000+w)) (j := 10000) zi_24_12 rfl (by omega) (by omega) (fun _ => ?_) (fun c => absurd c (by omega))
      refine r_push zi_24_21 rfl ?_
      refine r_is5 zi_24_23 rfl ?_
      refine r_push zi_24_25 rfl ?_
      refine r_is6 zi_24_26 rfl ?_
      rw [hm1 hw0]
      exact key τ h1 h2 _ _ _ _ _
  · subst e1; subst e2; subst e3
    by_cases hw0 : w = 0
    · refine r_al0 zi_24_0 rfl ?_
      refine r_il2 zi_24_1 rfl ?_
      refine r_il3 zi_24_2 rfl ?_
      refine r_il4 zi_24_3 rfl ?_
      refine q_cVV zi_24_5 rfl rfl rfl rfl rfl rfl rfl hL.1.ob (s_learn0 hL hk hkL hn hn18 hp (fun τ h1 h2 => ?_))
      show zk _ _ 8 _ _ _ _
      refine r_il1 zi_24_8 rfl ?_
      refine r_push zi_24_9 rfl ?_
      refine n_ic1 (i := (10000+w)) (j := 10000) zi_24_12 rfl (by omega) (by omega) (fun c => absurd c (by omega)) (fun _ => ?_)
      refine r_push zi_24_15 rfl ?_
      refine r_goto zi_24_18 rfl ?_
      refine r_is5 zi_24_23 rfl ?_
      refine r_push zi_24_25 rfl ?_
      refine r_is6 zi_24_26 rfl ?_
      rw [hm0 hw0]
      exact key τ h1 h2 _ _ _ _ _
    · refine r_al0 zi_24_0 rfl ?_
      refine r_il2 zi_24_1 rfl ?_
      refine r_il3 zi_24_2 rfl ?_
      refine r_il4 zi_24_3 rfl ?_
      refine q_cVV zi_24_5 rfl rfl rfl rfl rfl rfl rfl hL.1.ob (s_learn0 hL hk hkL hn hn18 hp (fun τ h1 h2 => ?_))
      show zk _ _ 8 _ _ _ _
      refine r_il1 zi_24_8 rfl ?_
      refine r_push zi_24_9 rfl ?_
      refine n_ic1 (i := (10000+w)) (j := 10000) zi_24_12 rfl (by omega) (by omega) (fun _ => ?_) (fun c => absurd c (by omega))
      refine r_push zi_24_21 rfl ?_
      refine r_is5 zi_24_23 rfl ?_
      refine r_push zi_24_25 rfl ?_
      refine r_is6 zi_24_26 rfl ?_
      rw [hm1 hw0]
      exact key τ h1 h2 _ _ _ _ _

