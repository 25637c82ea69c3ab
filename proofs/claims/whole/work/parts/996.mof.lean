/-! of in the model -/
theorem s_mof {d n N : Nat} {σ V : zS} {Q : Int32 → zS → Prop} {w f : Int32} {Wd Fr' Wh To O A : Nat → Nat} {B : Nat → Int32} (hM : zMd σ n false N Wd Fr' Wh To O A B) (hV : zVm σ V n false) (hg : zVg V n) (h1 : ∀ s, s < n → w = nI s → ∀ τ, Fr [215, 216] (up σ 195 0 0) τ → Q (zQo V n (zTl N Wd Fr' Wh To O A) s f) τ) (h0 : ¬ (0 ≤ w ∧ w < nI n) → Q (-1) (up σ 195 0 0)) : zI1 (d + 5) 246 [.ref 195, .int w, .int f] σ Q := by
  have hn18 := hM.2.1
  have hM1 := zMd_t (v := 0) hM
  have hV1 : zVm (up σ 195 0 0) V n false := zVm_o hV ((Fr.rf (l := [195])).put (by decide)) (by decide)
  have hn1 := hM1.1
  show zk _ _ 0 [.ref 195, .int w, .int f] [] _ _
  by_cases hw : 0 ≤ w ∧ w < nI n
  · obtain ⟨s, hs, e⟩ := zpl_ex hw.1 hw.2 (by omega)
    have hx := h1 s hs e
    clear h1
    subst e
    obtain ⟨p, hp, hpV⟩ := hg.2.2.1 s hs
    have hup : un (V 3 s) = p := by rw [hpV]; exact un_nI (by omega)
    obtain ⟨m30, m66, m200⟩ := hV1.2.2.1 s hs
    obtain ⟨m48, m84, m102⟩ := hV1.2.2.2.1 s (by omega)
    have m6 : 1 - up σ 195 0 0 196 (66 + s) = V 6 s := by
      rw [m66]
      rcases hg.2.2.2.1 s hs with e | e
      · rw [e]; rfl
      · rw [e]; rfl
    have m8 : up σ 195 0 0 196 (102 + s) - 1 = V 8 s := by rw [m102]; grind
    generalize hσ1 : up σ 195 0 0 = σ1 at *
    have hob : ∀ (Q2 : Int32 → zS → Prop), (∀ υ, Fr [215, 216] σ1 υ → Q2 (zTl N Wd Fr' Wh To O A 0 (zFv V n true s p 4)) υ) → zI1 (d + 4) 228 [.ref 195, .int (nI s), .int 4] σ1 Q2 := fun Q2 h2 => s_obeysOf hM1.1 hn18 (by omega) hp (m30.trans hpV) hM1.2.2.2.1 hM1.2.2.2.2.1 (fun υ x => by rw [zfM_v hV1 hn18 hs hp]; exact h2 υ x)
    have hti : ∀ (Q2 : Int32 → zS → Prop), (∀ υ, Fr [215, 216] σ1 υ → Q2 (zTl N Wd Fr' Wh To O A 1 (zFv V n true s p 4)) υ) → zI1 (d + 4) 229 [.ref 195, .int (nI s), .int 4] σ1 Q2 := fun Q2 h2 => s_tiresOf hM1.1 hn18 (by omega) hp (m30.trans hpV) hM1.2.2.2.1 hM1.2.2.2.2.1 (fun υ x => by rw [zfM_v hV1 hn18 hs hp]; exact h2 υ x)
    have hy := fun τ hF => zQo_c (Q := fun v => Q v τ) (hx τ hF)
    rw [hup] at hy
    have b0 := fun z => (hy σ1 Fr.rf).1 z
    have b1 := fun z => (hy σ1 Fr.rf).2.1 z
    have b2 := fun z => (hy σ1 Fr.rf).2.2.1 z
    have b3 := fun z => (hy σ1 Fr.rf).2.2.2.1 z
    have b4 := fun z => (hy σ1 Fr.rf).2.2.2.2.1 z
    have b5 := fun z => (hy σ1 Fr.rf).2.2.2.2.2.1 z
    have b6 := fun z τ hF => (hy τ hF).2.2.2.2.2.2.1 z
    have b7 := fun z τ hF => (hy τ hF).2.2.2.2.2.2.2.1 z
    have b8 := (hy σ1 Fr.rf).2.2.2.2.2.2.2.2
    rw [← m6] at b3
    rw [← m8] at b5
    have hsu : ∀ (Q2 : Int32 → zS → Prop), Q2 (nI 1) σ1 → zI1 (d + 4) 178 [.ref 195, .int (nI s)] σ1 Q2 := fun Q2 h2 => s_msubj (fun _ _ => h2) (fun z => absurd (by rw [hn1]; exact hw) z)
    refine r_al0 zi_246_0 rfl ?_
    refine r_push zi_246_1 rfl ?_
    refine q_put zi_246_2 rfl cf_195_0 rfl ?_
    refine r_al0 zi_246_5 rfl ?_
    rw [hσ1]
    refine r_il1 zi_246_6 rfl ?_
    refine q_cIV zi_246_7 rfl rfl rfl rfl rfl rfl rfl cf_195_0.ob (hsu _ ?_)
    show zk _ _ 10 _ _ _ _
    refine r_if1 zi_246_10 rfl (fun _ => ?_) (fun c => absurd c (by decide))
    refine r_il2 zi_246_15 rfl ?_
    refine r_if1 zi_246_16 rfl (fun c2 => ?_) (fun c2 => ?_)
    · refine r_il2 zi_246_29 rfl ?_
      refine r_push zi_246_30 rfl ?_
      refine r_ic1 zi_246_31 rfl (fun c3 => ?_) (fun c3 => ?_)
      · refine r_il2 zi_246_41 rfl ?_
        refine r_push zi_246_42 rfl ?_
        refine r_ic1 zi_246_43 rfl (fun c4 => ?_) (fun c4 => ?_)
        · refine r_il2 zi_246_56 rfl ?_
          refine r_push zi_246_57 rfl ?_
          refine r_ic1 zi_246_58 rfl (fun c5 => ?_) (fun c5 => ?_)
          · refine r_il2 zi_246_73 rfl ?_
            refine r_push zi_246_74 rfl ?_
            refine r_ic1 zi_246_75 rfl (fun c6 => ?_) (fun c6 => ?_)
            · refine r_il2 zi_246_88 rfl ?_
              refine r_push zi_246_89 rfl ?_
              refine r_ic1 zi_246_90 rfl (fun c7 => ?_) (fun c7 => ?_)
              · refine r_il2 zi_246_105 rfl ?_
                refine r_push zi_246_106 rfl ?_
                refine r_ic1 zi_246_108 rfl (fun c8 => ?_) (fun c8 => ?_)
                · refine r_il2 zi_246_120 rfl ?_
                  refine r_push zi_246_121 rfl ?_
                  refine r_ic1 zi_246_123 rfl (fun c9 => ?_) (fun c9 => ?_)
                  · refine r_push zi_246_135 rfl ?_
                    refine r_retI zi_246_136 rfl ?_
                    first | exact ⟨_, rfl, b0 (by grind)⟩ | exact ⟨_, rfl, b1 (by grind)⟩ | exact ⟨_, rfl, b2 (by grind)⟩ | exact ⟨_, rfl, b3 (by grind)⟩ | exact ⟨_, rfl, b4 (by grind)⟩ | exact ⟨_, rfl, b5 (by grind)⟩ | exact ⟨_, rfl, b6 (by grind) υ x1⟩ | exact ⟨_, rfl, b7 (by grind) υ x1⟩ | exact ⟨_, rfl, b8 (by grind) (by grind) (by grind) (by grind) (by grind) (by grind) (by grind) (by grind)⟩
                  · refine r_al0 zi_246_126 rfl ?_
                    refine r_il1 zi_246_127 rfl ?_
                    refine r_push zi_246_128 rfl ?_
                    refine q_cIV zi_246_129 rfl rfl rfl rfl rfl rfl rfl cf_195_0.ob (hti _ (fun υ x1 => ?_))
                    show zk _ _ 132 _ _ _ _
                    refine r_goto zi_246_132 rfl ?_
                    refine r_retI zi_246_136 rfl ?_
                    first | exact ⟨_, rfl, b0 (by grind)⟩ | exact ⟨_, rfl, b1 (by grind)⟩ | exact ⟨_, rfl, b2 (by grind)⟩ | exact ⟨_, rfl, b3 (by grind)⟩ | exact ⟨_, rfl, b4 (by grind)⟩ | exact ⟨_, rfl, b5 (by grind)⟩ | exact ⟨_, rfl, b6 (by grind) υ x1⟩ | exact ⟨_, rfl, b7 (by grind) υ x1⟩ | exact ⟨_, rfl, b8 (by grind) (by grind) (by grind) (by grind) (by grind) (by grind) (by grind) (by grind)⟩
                · refine r_al0 zi_246_111 rfl ?_
                  refine r_il1 zi_246_112 rfl ?_
                  refine r_push zi_246_113 rfl ?_
                  refine q_cIV zi_246_114 rfl rfl rfl rfl rfl rfl rfl cf_195_0.ob (hob _ (fun υ x1 => ?_))
                  show zk _ _ 117 _ _ _ _
                  refine r_goto zi_246_117 rfl ?_
                  refine r_retI zi_246_136 rfl ?_
                  first | exact ⟨_, rfl, b0 (by grind)⟩ | exact ⟨_, rfl, b1 (by grind)⟩ | exact ⟨_, rfl, b2 (by grind)⟩ | exact ⟨_, rfl, b3 (by grind)⟩ | exact ⟨_, rfl, b4 (by grind)⟩ | exact ⟨_, rfl, b5 (by grind)⟩ | exact ⟨_, rfl, b6 (by grind) υ x1⟩ | exact ⟨_, rfl, b7 (by grind) υ x1⟩ | exact ⟨_, rfl, b8 (by grind) (by grind) (by grind) (by grind) (by grind) (by grind) (by grind) (by grind)⟩
              · refine r_al0 zi_246_93 rfl ?_
                refine q_getR zi_246_94 rfl cf_195_1 ?_
                refine r_push zi_246_97 rfl ?_
                refine r_il1 zi_246_99 rfl ?_
                refine r_b0 zi_246_100 rfl ?_
                rw [show (102 + nI s : Int32) = nI (102 + s) from nI_add _ _]
                refine r_ald zi_246_101 rfl (102 + s) ca_196 (by first | rfl | (simp only [zI_add, zI_mul] <;> rfl)) (by first | omega | decide) ?_
                refine r_push zi_246_102 rfl ?_
                refine r_b1 zi_246_103 rfl ?_
                refine r_retI zi_246_104 rfl ?_
                first | exact ⟨_, rfl, b0 (by grind)⟩ | exact ⟨_, rfl, b1 (by grind)⟩ | exact ⟨_, rfl, b2 (by grind)⟩ | exact ⟨_, rfl, b3 (by grind)⟩ | exact ⟨_, rfl, b4 (by grind)⟩ | exact ⟨_, rfl, b5 (by grind)⟩ | exact ⟨_, rfl, b6 (by grind) υ x1⟩ | exact ⟨_, rfl, b7 (by grind) υ x1⟩ | exact ⟨_, rfl, b8 (by grind) (by grind) (by grind) (by grind) (by grind) (by grind) (by grind) (by grind)⟩
            · refine r_al0 zi_246_78 rfl ?_
              refine q_getR zi_246_79 rfl cf_195_1 ?_
              refine r_push zi_246_82 rfl ?_
              refine r_il1 zi_246_84 rfl ?_
              refine r_b0 zi_246_85 rfl ?_
              rw [show (84 + nI s : Int32) = nI (84 + s) from nI_add _ _]
              refine r_alde zi_246_86 rfl (84 + s) ca_196 (by first | rfl | (simp only [zI_add, zI_mul] <;> rfl)) (by first | omega | decide) (u := V 7 s) (by first | exact m84 | ((repeat (first | rw [zup_ne (by first | decide | omega)] | rw [zup_nj (by first | decide | omega)] | rw [fil_ne (by first | decide | omega)])) <;> exact m84) | (simp [up_rd, fil_rd]; exact m84)) ?_
              refine r_retI zi_246_87 rfl ?_
              first | exact ⟨_, rfl, b0 (by grind)⟩ | exact ⟨_, rfl, b1 (by grind)⟩ | exact ⟨_, rfl, b2 (by grind)⟩ | exact ⟨_, rfl, b3 (by grind)⟩ | exact ⟨_, rfl, b4 (by grind)⟩ | exact ⟨_, rfl, b5 (by grind)⟩ | exact ⟨_, rfl, b6 (by grind) υ x1⟩ | exact ⟨_, rfl, b7 (by grind) υ x1⟩ | exact ⟨_, rfl, b8 (by grind) (by grind) (by grind) (by grind) (by grind) (by grind) (by grind) (by grind)⟩
          · refine r_push zi_246_61 rfl ?_
            refine r_al0 zi_246_62 rfl ?_
            refine q_getR zi_246_63 rfl cf_195_1 ?_
            refine r_push zi_246_66 rfl ?_
            refine r_il1 zi_246_68 rfl ?_
            refine r_b0 zi_246_69 rfl ?_
            rw [show (66 + nI s : Int32) = nI (66 + s) from nI_add _ _]
            refine r_ald zi_246_70 rfl (66 + s) ca_196 (by first | rfl | (simp only [zI_add, zI_mul] <;> rfl)) (by first | omega | decide) ?_
            refine r_b1 zi_246_71 rfl ?_
            refine r_retI zi_246_72 rfl ?_
            first | exact ⟨_, rfl, b0 (by grind)⟩ | exact ⟨_, rfl, b1 (by grind)⟩ | exact ⟨_, rfl, b2 (by grind)⟩ | exact ⟨_, rfl, b3 (by grind)⟩ | exact ⟨_, rfl, b4 (by grind)⟩ | exact ⟨_, rfl, b5 (by grind)⟩ | exact ⟨_, rfl, b6 (by grind) υ x1⟩ | exact ⟨_, rfl, b7 (by grind) υ x1⟩ | exact ⟨_, rfl, b8 (by grind) (by grind) (by grind) (by grind) (by grind) (by grind) (by grind) (by grind)⟩
        · refine r_al0 zi_246_46 rfl ?_
          refine q_getR zi_246_47 rfl cf_195_1 ?_
          refine r_push zi_246_50 rfl ?_
          refine r_il1 zi_246_52 rfl ?_
          refine r_b0 zi_246_53 rfl ?_
          rw [show (48 + nI s : Int32) = nI (48 + s) from nI_add _ _]
          refine r_alde zi_246_54 rfl (48 + s) ca_196 (by first | rfl | (simp only [zI_add, zI_mul] <;> rfl)) (by first | omega | decide) (u := V 5 s) (by first | exact m48 | ((repeat (first | rw [zup_ne (by first | decide | omega)] | rw [zup_nj (by first | decide | omega)] | rw [fil_ne (by first | decide | omega)])) <;> exact m48) | (simp [up_rd, fil_rd]; exact m48)) ?_
          refine r_retI zi_246_55 rfl ?_
          first | exact ⟨_, rfl, b0 (by grind)⟩ | exact ⟨_, rfl, b1 (by grind)⟩ | exact ⟨_, rfl, b2 (by grind)⟩ | exact ⟨_, rfl, b3 (by grind)⟩ | exact ⟨_, rfl, b4 (by grind)⟩ | exact ⟨_, rfl, b5 (by grind)⟩ | exact ⟨_, rfl, b6 (by grind) υ x1⟩ | exact ⟨_, rfl, b7 (by grind) υ x1⟩ | exact ⟨_, rfl, b8 (by grind) (by grind) (by grind) (by grind) (by grind) (by grind) (by grind) (by grind)⟩
      · refine r_al0 zi_246_34 rfl ?_
        refine q_getR zi_246_35 rfl cf_195_8 ?_
        refine r_il1 zi_246_38 rfl ?_
        refine r_alde zi_246_39 rfl s ca_200 (by first | rfl | (simp only [zI_add, zI_mul] <;> rfl)) (by first | omega | decide) (u := V 4 s) (by first | exact m200 | ((repeat (first | rw [zup_ne (by first | decide | omega)] | rw [zup_nj (by first | decide | omega)] | rw [fil_ne (by first | decide | omega)])) <;> exact m200) | (simp [up_rd, fil_rd]; exact m200)) ?_
        refine r_retI zi_246_40 rfl ?_
        first | exact ⟨_, rfl, b0 (by grind)⟩ | exact ⟨_, rfl, b1 (by grind)⟩ | exact ⟨_, rfl, b2 (by grind)⟩ | exact ⟨_, rfl, b3 (by grind)⟩ | exact ⟨_, rfl, b4 (by grind)⟩ | exact ⟨_, rfl, b5 (by grind)⟩ | exact ⟨_, rfl, b6 (by grind) υ x1⟩ | exact ⟨_, rfl, b7 (by grind) υ x1⟩ | exact ⟨_, rfl, b8 (by grind) (by grind) (by grind) (by grind) (by grind) (by grind) (by grind) (by grind)⟩
    · refine r_al0 zi_246_19 rfl ?_
      refine q_getR zi_246_20 rfl cf_195_1 ?_
      refine r_push zi_246_23 rfl ?_
      refine r_il1 zi_246_25 rfl ?_
      refine r_b0 zi_246_26 rfl ?_
      rw [show (30 + nI s : Int32) = nI (30 + s) from nI_add _ _]
      refine r_alde zi_246_27 rfl (30 + s) ca_196 (by first | rfl | (simp only [zI_add, zI_mul] <;> rfl)) (by first | omega | decide) (u := V 3 s) (by first | exact m30 | ((repeat (first | rw [zup_ne (by first | decide | omega)] | rw [zup_nj (by first | decide | omega)] | rw [fil_ne (by first | decide | omega)])) <;> exact m30) | (simp [up_rd, fil_rd]; exact m30)) ?_
      refine r_retI zi_246_28 rfl ?_
      first | exact ⟨_, rfl, b0 (by grind)⟩ | exact ⟨_, rfl, b1 (by grind)⟩ | exact ⟨_, rfl, b2 (by grind)⟩ | exact ⟨_, rfl, b3 (by grind)⟩ | exact ⟨_, rfl, b4 (by grind)⟩ | exact ⟨_, rfl, b5 (by grind)⟩ | exact ⟨_, rfl, b6 (by grind) υ x1⟩ | exact ⟨_, rfl, b7 (by grind) υ x1⟩ | exact ⟨_, rfl, b8 (by grind) (by grind) (by grind) (by grind) (by grind) (by grind) (by grind) (by grind)⟩
  · have h0 := h0 hw
    refine r_al0 zi_246_0 rfl ?_
    refine r_push zi_246_1 rfl ?_
    refine q_put zi_246_2 rfl cf_195_0 rfl ?_
    refine r_al0 zi_246_5 rfl ?_
    refine r_il1 zi_246_6 rfl ?_
    refine q_cIV zi_246_7 rfl rfl rfl rfl rfl rfl rfl cf_195_0.ob (s_msubj (fun z1 z2 => absurd ⟨z1, by rw [← hn1]; exact z2⟩ hw) (fun _ => ?_))
    show zk _ _ 10 _ _ _ _
    refine r_if1 zi_246_10 rfl (fun c => absurd (by decide) c) (fun _ => ?_)
    refine r_push zi_246_13 rfl ?_
    refine r_retI zi_246_14 rfl ?_
    exact ⟨_, rfl, h0⟩
/-! sits: most at one place -/
def zMo (V : zS) (n : Nat) : Nat → Nat
  | 0 => 0
  | p + 1 => max (zMo V n p) (zpop (zset (fun s => decide (V 6 s = 1) && decide (V 3 s = nI p)) n))

