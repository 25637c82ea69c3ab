/-! CROSS, model, to its end -/
def zmx (C : Nat → Nat) : Nat → Nat
  | 0 => 0
  | a + 1 => max (zmx C a) (C a)
theorem zmx_le {C : Nat → Nat} {B : Nat} (h : ∀ k, C k ≤ B) : ∀ a, zmx C a ≤ B
  | 0 => Nat.zero_le _
  | a + 1 => Nat.max_le.mpr ⟨zmx_le h a, h a⟩
theorem l_mx4 {d c i n0 : Nat} {σ : zS} {R : Option Int32 → zS → Prop} {r : Nat → Nat} {w most : Int32} {u6 : Value} (hc : σ 195 61 = nI c) (hcN : c ≤ 10) (hr : ∀ k, k < 10 → r k < 10000) (hs : ∀ k, k < c → σ 233 k = nI (r k / 100)) (ht : ∀ k, k < c → σ 234 k = nI (r k % 100)) (hi : i < c) (h : zk (d + 1) 277 197 [.ref 195, .int w, .int (nI (n0 + zxn r i c)), .int most, .int (nI i), .int (nI c), u6] [] σ R) : ∀ (m j n : Nat), j + m = c → n = n0 + zxn r i j → zk (d + 1) 277 167 [.ref 195, .int w, .int (nI n), .int most, .int (nI i), .int (nI j), u6] [] σ R := by
  intro m
  induction m with
  | zero =>
    intro j n hj hn
    have e : j = c := by omega
    subst e
    refine r_il5 zi_277_167 rfl ?_
    refine r_al0 zi_277_169 rfl ?_
    refine q_getI zi_277_170 rfl cf_195_61 ?_
    rw [hc]
    refine r_ic3 zi_277_173 rfl (fun _ => ?_) (fun c => absurd (nI_le (by omega) (by omega)) c)
    rw [hn]; exact h
  | succ m ih =>
    intro j n hj hn
    by_cases hx : zX r i j
    · refine r_il5 zi_277_167 rfl ?_
      refine r_al0 zi_277_169 rfl ?_
      refine q_getI zi_277_170 rfl cf_195_61 ?_
      rw [hc]
      refine r_ic3 zi_277_173 rfl (fun c => absurd c (nI_ge (by omega) (by omega))) (fun _ => ?_)
      refine r_al0 zi_277_176 rfl ?_
      refine r_il4 zi_277_177 rfl ?_
      refine r_il5 zi_277_179 rfl ?_
      refine q_cIV zi_277_181 rfl rfl rfl rfl rfl rfl rfl cf_195_0.ob (s_over (by omega) (by omega) hr (fun k z => hs k (by omega)) (fun k z => ht k (by omega)) (fun _ => ?_) (fun z => absurd hx z))
      show zk _ _ 184 _ _ _ _
      refine r_if0 zi_277_184 rfl (fun c => absurd c (by decide)) (fun _ => ?_)
      refine r_il2 zi_277_187 rfl ?_
      refine r_push zi_277_188 rfl ?_
      refine r_b0 zi_277_189 rfl ?_
      rw [show (nI n + 1 : Int32) = nI (n + 1) from nI_add _ _]
      refine r_is2 zi_277_190 rfl ?_
      refine r_in5 zi_277_191 rfl ?_
      rw [show (nI j + 1 : Int32) = nI (j + 1) from nI_add _ _]
      refine r_goto zi_277_194 rfl ?_
      exact ih (j + 1) _ (by omega) (by simp only [zxn]; rw [if_pos hx]; omega)
    · refine r_il5 zi_277_167 rfl ?_
      refine r_al0 zi_277_169 rfl ?_
      refine q_getI zi_277_170 rfl cf_195_61 ?_
      rw [hc]
      refine r_ic3 zi_277_173 rfl (fun c => absurd c (nI_ge (by omega) (by omega))) (fun _ => ?_)
      refine r_al0 zi_277_176 rfl ?_
      refine r_il4 zi_277_177 rfl ?_
      refine r_il5 zi_277_179 rfl ?_
      refine q_cIV zi_277_181 rfl rfl rfl rfl rfl rfl rfl cf_195_0.ob (s_over (by omega) (by omega) hr (fun k z => hs k (by omega)) (fun k z => ht k (by omega)) (fun z => absurd z hx) (fun _ => ?_))
      show zk _ _ 184 _ _ _ _
      refine r_if0 zi_277_184 rfl (fun _ => ?_) (fun c => absurd (by decide) c)
      refine r_in5 zi_277_191 rfl ?_
      rw [show (nI j + 1 : Int32) = nI (j + 1) from nI_add _ _]
      refine r_goto zi_277_194 rfl ?_
      exact ih (j + 1) _ (by omega) (by simp only [zxn]; rw [if_neg hx]; omega)
theorem l_mx5 {d c B : Nat} {σ : zS} {R : Option Int32 → zS → Prop} {r C : Nat → Nat} {w : Int32} (hc : σ 195 61 = nI c) (hcN : c ≤ 10) (hr : ∀ k, k < 10 → r k < 10000) (hs : ∀ k, k < c → σ 233 k = nI (r k / 100)) (ht : ∀ k, k < c → σ 234 k = nI (r k % 100)) (hk : ∀ k, k < c → σ 235 k = nI (C k)) (hC : ∀ k, C k ≤ B) (hB : B ≤ 90000)
    (h : ∀ u4 u5 u6, zk (d + 1) 277 203 [.ref 195, .int w, .int (nI (zxt r c c)), .int (nI (zmx C c)), u4, u5, u6] [] σ R) : ∀ (m i n b : Nat) (u5 u6 : Value), i + m = c → n = zxt r c i → b = zmx C i → zk (d + 1) 277 142 [.ref 195, .int w, .int (nI n), .int (nI b), .int (nI i), u5, u6] [] σ R := by
  intro m
  induction m with
  | zero =>
    intro i n b u5 u6 hi hn hb
    have e : i = c := by omega
    subst e
    refine r_il4 zi_277_142 rfl ?_
    refine r_al0 zi_277_144 rfl ?_
    refine q_getI zi_277_145 rfl cf_195_61 ?_
    rw [hc]
    refine r_ic3 zi_277_148 rfl (fun _ => ?_) (fun c => absurd (nI_le (by omega) (by omega)) c)
    rw [hn, hb]; exact h _ _ _
  | succ m ih =>
    intro i n b u5 u6 hi hn hb
    have ei := hk i (by omega)
    have b1 := hC i
    have b2 := zmx_le hC i
    have em : zmx C (i + 1) = max b (C i) := by rw [hb]; rfl
    have hmx := zmaxI (a := b) (b := C i) (by omega) (by omega)
    obtain ⟨b3, hb3⟩ : ∃ b3, b3 = max b (C i) := ⟨_, rfl⟩
    refine r_il4 zi_277_142 rfl ?_
    refine r_al0 zi_277_144 rfl ?_
    refine q_getI zi_277_145 rfl cf_195_61 ?_
    rw [hc]
    refine r_ic3 zi_277_148 rfl (fun c => absurd c (nI_ge (by omega) (by omega))) (fun _ => ?_)
    refine r_al0 zi_277_151 rfl ?_
    refine r_il3 zi_277_152 rfl ?_
    refine r_al0 zi_277_153 rfl ?_
    refine q_getR zi_277_154 rfl cf_195_64 ?_
    refine r_il4 zi_277_157 rfl ?_
    refine r_ald zi_277_159 rfl i ca_235 (by first | rfl | (simp only [zI_add, zI_mul] <;> rfl)) (by first | omega | decide) ?_
    rw [ei]
    refine q_cIV zi_277_160 rfl rfl rfl rfl rfl rfl rfl cf_195_0.ob (s_greater ?_)
    show zk _ _ 163 _ _ _ _
    refine r_is3 zi_277_163 rfl ?_
    refine r_push zi_277_164 rfl ?_
    refine r_is5 zi_277_165 rfl ?_
    rw [hmx, ← hb3]
    refine l_mx4 (n0 := n) hc hcN hr hs ht (by omega) ?_ c 0 n (by omega) rfl
    obtain ⟨n2, hn2⟩ : ∃ n2, n2 = n + zxn r i c := ⟨_, rfl⟩
    rw [← hn2]
    show zk _ _ 197 _ _ _ _
    refine r_in4 zi_277_197 rfl ?_
    rw [show (nI i + 1 : Int32) = nI (i + 1) from nI_add _ _]
    refine r_goto zi_277_200 rfl ?_
    exact ih (i + 1) _ _ _ _ (by omega) (by rw [hn2, hn]; rfl) (by rw [em, hb3])
theorem l_mx0 {d c : Nat} {σ : zS} {R : Option Int32 → zS → Prop} {w : Int32} (hc : σ 195 61 = nI c) (hcN : c ≤ 10)
    (h : ∀ τ u4, Fr [235] σ τ → (∀ k, k < c → τ 235 k = 1) → zk (d + 1) 277 47 [.ref 195, .int w, .int (nI 0), .int (nI 0), u4, zun, zun] [] τ R) : ∀ (m i : Nat) (τ : zS), i + m = c → Fr [235] σ τ → (∀ k, k < i → τ 235 k = 1) → zk (d + 1) 277 24 [.ref 195, .int w, .int (nI 0), .int (nI 0), .int (nI i), zun, zun] [] τ R := by
  intro m
  induction m with
  | zero =>
    intro i τ hi hf hk
    have e : i = c := by omega
    subst e
    have hc' : τ 195 61 = nI i := (hf 195 (by decide) 61).trans hc
    refine r_il4 zi_277_24 rfl ?_
    refine r_al0 zi_277_26 rfl ?_
    refine q_getI zi_277_27 rfl cf_195_61 ?_
    rw [hc']
    refine r_ic3 zi_277_30 rfl (fun _ => ?_) (fun c => absurd (nI_le (by omega) (by omega)) c)
    exact h _ _ hf hk
  | succ m ih =>
    intro i τ hi hf hk
    have hc' : τ 195 61 = nI c := (hf 195 (by decide) 61).trans hc
    refine r_il4 zi_277_24 rfl ?_
    refine r_al0 zi_277_26 rfl ?_
    refine q_getI zi_277_27 rfl cf_195_61 ?_
    rw [hc']
    refine r_ic3 zi_277_30 rfl (fun c => absurd c (nI_ge (by omega) (by omega))) (fun _ => ?_)
    refine r_al0 zi_277_33 rfl ?_
    refine q_getR zi_277_34 rfl cf_195_64 ?_
    refine r_il4 zi_277_37 rfl ?_
    refine r_push zi_277_39 rfl ?_
    refine r_ast zi_277_40 rfl i ca_235 (by first | rfl | (simp only [zI_add, zI_mul] <;> rfl)) (by first | omega | decide) ?_
    refine r_in4 zi_277_41 rfl ?_
    rw [show (nI i + 1 : Int32) = nI (i + 1) from nI_add _ _]
    refine r_goto zi_277_44 rfl ?_
    refine ih (i + 1) _ (by omega) (hf.put (by decide)) (fun k hki => ?_)
    by_cases hki2 : k = i
    · rw [hki2, zup_eq]
    · rw [zup_nj hki2]; exact hk k (by omega)
theorem s_mcross {d c : Nat} {σ : zS} {Q : Int32 → zS → Prop} {r : Nat → Nat} {w : Int32} (hc : σ 195 61 = nI c) (hcN : c ≤ 10) (hr : ∀ k, k < 10 → r k < 10000) (hs : ∀ k, k < c → σ 233 k = nI (r k / 100)) (ht : ∀ k, k < c → σ 234 k = nI (r k % 100))
    (h0 : ¬ (0 ≤ w ∧ w ≤ 1) → Q (-1) (up σ 195 0 0))
    (h1 : w = 0 → ∀ τ, Fr [235] (up σ 195 0 0) τ → Q (nI (zxt r c c)) τ)
    (h2 : w = 1 → ∀ τ, Fr [235] (up σ 195 0 0) τ → Q (nI (zmx (zct r c c) c)) τ) : zI1 (d + 1) 277 [.ref 195, .int w] σ Q := by
  show zk _ _ 0 [.ref 195, .int w, zun, zun, zun, zun, zun] [] _ _
  have key : 0 ≤ w → w ≤ 1 → zk (d + 1) 277 24 [.ref 195, .int w, .int (nI 0), .int (nI 0), .int (nI 0), zun, zun] [] (up σ 195 0 0) (fun r t => ∃ v, r = some v ∧ Q v t) := by
    intro w0 w1
    refine l_mx0 (σ := up σ 195 0 0) hc hcN (fun τ u4 hf hk => ?_) c 0 _ (by omega) Fr.rf (fun k z => absurd z (by omega))
    have hc1 : τ 195 61 = nI c := (hf 195 (by decide) 61).trans hc
    have hs1 : ∀ k, k < c → τ 233 k = nI (r k / 100) := fun k z => (hf 233 (by decide) k).trans (hs k z)
    have ht1 : ∀ k, k < c → τ 234 k = nI (r k % 100) := fun k z => (hf 234 (by decide) k).trans (ht k z)
    have fin : ∀ (τ2 : zS) (u4 u5 u6 : Value), Fr [235] τ τ2 → zk (d + 1) 277 203 [.ref 195, .int w, .int (nI (zxt r c c)), .int (nI (zmx (zct r c c) c)), u4, u5, u6] [] τ2 (fun r t => ∃ v, r = some v ∧ Q v t) := by
      intro τ2 u4 u5 u6 hf2
      by_cases hw : w = 0
      · refine r_il1 zi_277_203 rfl ?_
        refine r_if1 zi_277_204 rfl (fun c => absurd hw c) (fun _ => ?_)
        refine r_il2 zi_277_207 rfl ?_
        refine r_goto zi_277_208 rfl ?_
        refine r_retI zi_277_212 rfl ?_
        exact ⟨_, rfl, h1 hw _ (hf.tr hf2)⟩
      · refine r_il1 zi_277_203 rfl ?_
        refine r_if1 zi_277_204 rfl (fun _ => ?_) (fun c => absurd c hw)
        refine r_il3 zi_277_211 rfl ?_
        refine r_retI zi_277_212 rfl ?_
        exact ⟨_, rfl, h2 (by grind) _ (hf.tr hf2)⟩
    refine r_push zi_277_47 rfl ?_
    refine r_is4 zi_277_48 rfl ?_
    refine l_mx3 hc1 hcN hr hs1 ht1 (fun τ2 u42 u52 u62 hf2 hk2 => ?_) c 0 _ _ _ (by omega) Fr.rf hk
    show zk _ _ 139 _ _ _ _
    refine r_push zi_277_139 rfl ?_
    refine r_is4 zi_277_140 rfl ?_
    refine l_mx5 ((hf2 195 (by decide) 61).trans hc1) hcN hr (fun k z => (hf2 233 (by decide) k).trans (hs1 k z)) (fun k z => (hf2 234 (by decide) k).trans (ht1 k z)) hk2 (zct_le c) ?_ (fun u43 u53 u63 => ?_) c 0 0 0 _ _ (by omega) rfl rfl
    · have hct : c * c * c ≤ 10 * 10 * 10 := Nat.mul_le_mul (Nat.mul_le_mul hcN hcN) (by omega)
      omega
    · exact fin _ _ _ _ hf2
  refine r_al0 zi_277_0 rfl ?_
  refine r_push zi_277_1 rfl ?_
  refine q_put zi_277_2 rfl cf_195_0 rfl ?_
  refine r_al0 zi_277_5 rfl ?_
  refine r_il1 zi_277_6 rfl ?_
  refine r_push zi_277_7 rfl ?_
  refine r_push zi_277_8 rfl ?_
  refine q_cIV zi_277_9 rfl rfl rfl rfl rfl rfl rfl cf_195_0.ob (s_isIn (fun i1 a1 => ?_) (fun i1 => ?_))
  · show zk _ _ 12 _ _ _ _
    refine r_if1 zi_277_12 rfl (fun _ => ?_) (fun c => absurd c (by decide))
    refine r_push zi_277_17 rfl ?_
    refine r_is2 zi_277_18 rfl ?_
    refine r_push zi_277_19 rfl ?_
    refine r_is3 zi_277_20 rfl ?_
    refine r_push zi_277_21 rfl ?_
    refine r_is4 zi_277_22 rfl ?_
    exact key (by assumption) (by assumption)
  · show zk _ _ 12 _ _ _ _
    refine r_if1 zi_277_12 rfl (fun c => absurd (by decide) c) (fun _ => ?_)
    refine r_push zi_277_15 rfl ?_
    refine r_retI zi_277_16 rfl ?_
    exact ⟨_, rfl, h0 (by grind)⟩

