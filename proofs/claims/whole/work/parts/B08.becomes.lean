/-! A DUCHY BECOMES ANOTHER -/
def dRa (j i : Nat) : Prop := (j < 3 ∧ i < 12) ∨ (3 ≤ j ∧ j < 9 ∧ i < 18) ∨ (9 ≤ j ∧ j < 11 ∧ i < 24)
def dBj (T U j : Nat) (τ υ : zS) : Prop := (∀ a b, a < T + 1 ∨ T + j < a → υ a b = τ a b) ∧ ∀ q i, q < j → dRa q i → υ (T + 1 + q) i = τ (U + 1 + q) i
def dBf (T U f : Nat) (τ υ : zS) : Prop := (∀ a b, a < T ∨ T + 11 < a → υ a b = τ a b) ∧ (∀ q i, q < 11 → dRa q i → υ (T + 1 + q) i = τ (U + 1 + q) i) ∧ ∀ g, 11 ≤ g → g < f → υ T g = τ U g
abbrev dBe (T U : Nat) (τ υ : zS) : Prop := dBf T U 20 τ υ
theorem bj_k {d y pc T U j n : Nat} {L S : List Value} {τ υ : zS} {Q : Option Int32 → zS → Prop} (b : dBj T U j τ υ) (hj : j < 11) (hn : ∀ i, dRa j i → i < n) (hd : T + 11 < U ∨ U + 11 < T) (k : ∀ υ', dBj T U (j + 1) τ υ' → zk d y pc L S υ' Q) : zk d y pc L S (fil υ (T + 1 + j) n (υ (U + 1 + j))) Q := k _ ⟨fun a b' h => by
    unfold fil
    rw [if_neg (by omega)]; exact b.1 a b' (by omega), fun q i hq hr => by
    by_cases e : q = j
    · subst e
      unfold fil
      rw [if_pos ⟨rfl, hn i hr⟩]; exact b.1 _ i (by omega)
    · unfold fil
      rw [if_neg (by omega)]; exact b.2 q i (by omega) hr⟩
theorem bf_k {d y pc T U f : Nat} {L S : List Value} {τ υ : zS} {Q : Option Int32 → zS → Prop} (b : dBf T U f τ υ) (hd : T + 11 < U ∨ U + 11 < T) (k : ∀ υ', dBf T U (f + 1) τ υ' → zk d y pc L S υ' Q) : zk d y pc L S (up υ T f (υ U f)) Q := k _ ⟨fun a b' h => by
    rw [zup_n2 (by omega)]; exact b.1 a b' h, fun q i hq hr => by
    rw [zup_n2 (by omega)]; exact b.2.1 q i hq hr, fun g h1 h2 => by
    by_cases e : g = f
    · subst e
      rw [zup_eq]; exact b.1 U g (by omega)
    · rw [zup_n2 (by omega)]; exact b.2.2 g h1 (by omega)⟩
theorem s_dbec {d T U : Nat} {τ : zS} {Q : zS → Prop} (hT : zDu T) (hU : zDu U) (hd : T + 11 < U ∨ U + 11 < T) (hq : ∀ υ, dBe T U τ υ → Q υ) : zV1 d 15 [.ref T, .ref U] τ Q := by
  show zk _ _ 0 [.ref T, .ref U] [] _ _
  have b0 : dBj T U 0 τ τ := ⟨fun _ _ _ => rfl, fun q i h => by omega⟩
  refine r_al1 zi_15_0 rfl ?_
  refine q_getR zi_15_1 rfl (hU.1 0 (by omega)) ?_
  refine r_push zi_15_4 rfl ?_
  refine r_al0 zi_15_5 rfl ?_
  refine q_getR zi_15_6 rfl (hT.1 0 (by omega)) ?_
  refine r_push zi_15_9 rfl ?_
  refine r_push zi_15_10 rfl ?_
  refine r_acpy (k := 12) zi_15_12 rfl (hU.2.2.1 0 (by omega)) (hT.2.2.1 0 (by omega)) rfl (by first | decide | omega) (by first | decide | omega) ?_
  refine bj_k (j := 0) b0 (by omega) (fun i hi => by unfold dRa at hi; omega) hd (fun υ1 b1 => ?_)
  refine r_al1 zi_15_15 rfl ?_
  refine q_getR zi_15_16 rfl (hU.1 1 (by omega)) ?_
  refine r_push zi_15_19 rfl ?_
  refine r_al0 zi_15_20 rfl ?_
  refine q_getR zi_15_21 rfl (hT.1 1 (by omega)) ?_
  refine r_push zi_15_24 rfl ?_
  refine r_push zi_15_25 rfl ?_
  refine r_acpy (k := 12) zi_15_27 rfl (hU.2.2.1 1 (by omega)) (hT.2.2.1 1 (by omega)) rfl (by first | decide | omega) (by first | decide | omega) ?_
  refine bj_k (j := 1) b1 (by omega) (fun i hi => by unfold dRa at hi; omega) hd (fun υ2 b2 => ?_)
  refine r_al1 zi_15_30 rfl ?_
  refine q_getR zi_15_31 rfl (hU.1 2 (by omega)) ?_
  refine r_push zi_15_34 rfl ?_
  refine r_al0 zi_15_35 rfl ?_
  refine q_getR zi_15_36 rfl (hT.1 2 (by omega)) ?_
  refine r_push zi_15_39 rfl ?_
  refine r_push zi_15_40 rfl ?_
  refine r_acpy (k := 12) zi_15_42 rfl (hU.2.2.1 2 (by omega)) (hT.2.2.1 2 (by omega)) rfl (by first | decide | omega) (by first | decide | omega) ?_
  refine bj_k (j := 2) b2 (by omega) (fun i hi => by unfold dRa at hi; omega) hd (fun υ3 b3 => ?_)
  refine r_al1 zi_15_45 rfl ?_
  refine q_getR zi_15_46 rfl (hU.1 3 (by omega)) ?_
  refine r_push zi_15_49 rfl ?_
  refine r_al0 zi_15_50 rfl ?_
  refine q_getR zi_15_51 rfl (hT.1 3 (by omega)) ?_
  refine r_push zi_15_54 rfl ?_
  refine r_push zi_15_55 rfl ?_
  refine r_acpy (k := 18) zi_15_57 rfl (hU.2.2.2.1 3 (by omega) (by omega)) (hT.2.2.2.1 3 (by omega) (by omega)) rfl (by first | decide | omega) (by first | decide | omega) ?_
  refine bj_k (j := 3) b3 (by omega) (fun i hi => by unfold dRa at hi; omega) hd (fun υ4 b4 => ?_)
  refine r_al1 zi_15_60 rfl ?_
  refine q_getR zi_15_61 rfl (hU.1 4 (by omega)) ?_
  refine r_push zi_15_64 rfl ?_
  refine r_al0 zi_15_65 rfl ?_
  refine q_getR zi_15_66 rfl (hT.1 4 (by omega)) ?_
  refine r_push zi_15_69 rfl ?_
  refine r_push zi_15_70 rfl ?_
  refine r_acpy (k := 18) zi_15_72 rfl (hU.2.2.2.1 4 (by omega) (by omega)) (hT.2.2.2.1 4 (by omega) (by omega)) rfl (by first | decide | omega) (by first | decide | omega) ?_
  refine bj_k (j := 4) b4 (by omega) (fun i hi => by unfold dRa at hi; omega) hd (fun υ5 b5 => ?_)
  refine r_al1 zi_15_75 rfl ?_
  refine q_getR zi_15_76 rfl (hU.1 5 (by omega)) ?_
  refine r_push zi_15_79 rfl ?_
  refine r_al0 zi_15_80 rfl ?_
  refine q_getR zi_15_81 rfl (hT.1 5 (by omega)) ?_
  refine r_push zi_15_84 rfl ?_
  refine r_push zi_15_85 rfl ?_
  refine r_acpy (k := 18) zi_15_87 rfl (hU.2.2.2.1 5 (by omega) (by omega)) (hT.2.2.2.1 5 (by omega) (by omega)) rfl (by first | decide | omega) (by first | decide | omega) ?_
  refine bj_k (j := 5) b5 (by omega) (fun i hi => by unfold dRa at hi; omega) hd (fun υ6 b6 => ?_)
  refine r_al1 zi_15_90 rfl ?_
  refine q_getR zi_15_91 rfl (hU.1 6 (by omega)) ?_
  refine r_push zi_15_94 rfl ?_
  refine r_al0 zi_15_95 rfl ?_
  refine q_getR zi_15_96 rfl (hT.1 6 (by omega)) ?_
  refine r_push zi_15_99 rfl ?_
  refine r_push zi_15_100 rfl ?_
  refine r_acpy (k := 18) zi_15_102 rfl (hU.2.2.2.1 6 (by omega) (by omega)) (hT.2.2.2.1 6 (by omega) (by omega)) rfl (by first | decide | omega) (by first | decide | omega) ?_
  refine bj_k (j := 6) b6 (by omega) (fun i hi => by unfold dRa at hi; omega) hd (fun υ7 b7 => ?_)
  refine r_al1 zi_15_105 rfl ?_
  refine q_getR zi_15_106 rfl (hU.1 7 (by omega)) ?_
  refine r_push zi_15_109 rfl ?_
  refine r_al0 zi_15_110 rfl ?_
  refine q_getR zi_15_111 rfl (hT.1 7 (by omega)) ?_
  refine r_push zi_15_114 rfl ?_
  refine r_push zi_15_115 rfl ?_
  refine r_acpy (k := 18) zi_15_117 rfl (hU.2.2.2.1 7 (by omega) (by omega)) (hT.2.2.2.1 7 (by omega) (by omega)) rfl (by first | decide | omega) (by first | decide | omega) ?_
  refine bj_k (j := 7) b7 (by omega) (fun i hi => by unfold dRa at hi; omega) hd (fun υ8 b8 => ?_)
  refine r_al1 zi_15_120 rfl ?_
  refine q_getR zi_15_121 rfl (hU.1 8 (by omega)) ?_
  refine r_push zi_15_124 rfl ?_
  refine r_al0 zi_15_125 rfl ?_
  refine q_getR zi_15_126 rfl (hT.1 8 (by omega)) ?_
  refine r_push zi_15_129 rfl ?_
  refine r_push zi_15_130 rfl ?_
  refine r_acpy (k := 18) zi_15_132 rfl (hU.2.2.2.1 8 (by omega) (by omega)) (hT.2.2.2.1 8 (by omega) (by omega)) rfl (by first | decide | omega) (by first | decide | omega) ?_
  refine bj_k (j := 8) b8 (by omega) (fun i hi => by unfold dRa at hi; omega) hd (fun υ9 b9 => ?_)
  refine r_al1 zi_15_135 rfl ?_
  refine q_getR zi_15_136 rfl (hU.1 9 (by omega)) ?_
  refine r_push zi_15_139 rfl ?_
  refine r_al0 zi_15_140 rfl ?_
  refine q_getR zi_15_141 rfl (hT.1 9 (by omega)) ?_
  refine r_push zi_15_144 rfl ?_
  refine r_push zi_15_145 rfl ?_
  refine r_acpy (k := 24) zi_15_147 rfl (hU.2.2.2.2 9 (by omega) (by omega)) (hT.2.2.2.2 9 (by omega) (by omega)) rfl (by first | decide | omega) (by first | decide | omega) ?_
  refine bj_k (j := 9) b9 (by omega) (fun i hi => by unfold dRa at hi; omega) hd (fun υ10 b10 => ?_)
  refine r_al1 zi_15_150 rfl ?_
  refine q_getR zi_15_151 rfl (hU.1 10 (by omega)) ?_
  refine r_push zi_15_154 rfl ?_
  refine r_al0 zi_15_155 rfl ?_
  refine q_getR zi_15_156 rfl (hT.1 10 (by omega)) ?_
  refine r_push zi_15_159 rfl ?_
  refine r_push zi_15_160 rfl ?_
  refine r_acpy (k := 24) zi_15_162 rfl (hU.2.2.2.2 10 (by omega) (by omega)) (hT.2.2.2.2 10 (by omega) (by omega)) rfl (by first | decide | omega) (by first | decide | omega) ?_
  refine bj_k (j := 10) b10 (by omega) (fun i hi => by unfold dRa at hi; omega) hd (fun υ11 b11 => ?_)
  have f11 : dBf T U 11 τ υ11 := ⟨fun a b h => b11.1 a b (by omega), fun q i hq hr => b11.2 q i hq hr, fun g h1 h2 => by omega⟩
  refine r_al0 zi_15_165 rfl ?_
  refine r_al1 zi_15_166 rfl ?_
  refine q_getI zi_15_167 rfl (hU.2.1 11 (by omega) (by omega)) ?_
  refine q_put zi_15_170 rfl (hT.2.1 11 (by omega) (by omega)) rfl ?_
  refine bf_k (f := 11) f11 hd (fun w11 f12 => ?_)
  refine r_al0 zi_15_173 rfl ?_
  refine r_al1 zi_15_174 rfl ?_
  refine q_getI zi_15_175 rfl (hU.2.1 12 (by omega) (by omega)) ?_
  refine q_put zi_15_178 rfl (hT.2.1 12 (by omega) (by omega)) rfl ?_
  refine bf_k (f := 12) f12 hd (fun w12 f13 => ?_)
  refine r_al0 zi_15_181 rfl ?_
  refine r_al1 zi_15_182 rfl ?_
  refine q_getI zi_15_183 rfl (hU.2.1 13 (by omega) (by omega)) ?_
  refine q_put zi_15_186 rfl (hT.2.1 13 (by omega) (by omega)) rfl ?_
  refine bf_k (f := 13) f13 hd (fun w13 f14 => ?_)
  refine r_al0 zi_15_189 rfl ?_
  refine r_al1 zi_15_190 rfl ?_
  refine q_getI zi_15_191 rfl (hU.2.1 14 (by omega) (by omega)) ?_
  refine q_put zi_15_194 rfl (hT.2.1 14 (by omega) (by omega)) rfl ?_
  refine bf_k (f := 14) f14 hd (fun w14 f15 => ?_)
  refine r_al0 zi_15_197 rfl ?_
  refine r_al1 zi_15_198 rfl ?_
  refine q_getI zi_15_199 rfl (hU.2.1 15 (by omega) (by omega)) ?_
  refine q_put zi_15_202 rfl (hT.2.1 15 (by omega) (by omega)) rfl ?_
  refine bf_k (f := 15) f15 hd (fun w15 f16 => ?_)
  refine r_al0 zi_15_205 rfl ?_
  refine r_al1 zi_15_206 rfl ?_
  refine q_getI zi_15_207 rfl (hU.2.1 16 (by omega) (by omega)) ?_
  refine q_put zi_15_210 rfl (hT.2.1 16 (by omega) (by omega)) rfl ?_
  refine bf_k (f := 16) f16 hd (fun w16 f17 => ?_)
  refine r_al0 zi_15_213 rfl ?_
  refine r_al1 zi_15_214 rfl ?_
  refine q_getI zi_15_215 rfl (hU.2.1 17 (by omega) (by omega)) ?_
  refine q_put zi_15_218 rfl (hT.2.1 17 (by omega) (by omega)) rfl ?_
  refine bf_k (f := 17) f17 hd (fun w17 f18 => ?_)
  refine r_al0 zi_15_221 rfl ?_
  refine r_al1 zi_15_222 rfl ?_
  refine q_getI zi_15_223 rfl (hU.2.1 18 (by omega) (by omega)) ?_
  refine q_put zi_15_226 rfl (hT.2.1 18 (by omega) (by omega)) rfl ?_
  refine bf_k (f := 18) f18 hd (fun w18 f19 => ?_)
  refine r_al0 zi_15_229 rfl ?_
  refine r_al1 zi_15_230 rfl ?_
  refine q_getI zi_15_231 rfl (hU.2.1 19 (by omega) (by omega)) ?_
  refine q_put zi_15_234 rfl (hT.2.1 19 (by omega) (by omega)) rfl ?_
  refine bf_k (f := 19) f19 hd (fun w19 f20 => ?_)
  refine r_ret zi_15_237 rfl ?_
  exact ⟨rfl, hq _ f20⟩

