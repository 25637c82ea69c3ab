/-! MODEL: the next token is read -/
def tkMw : List Nat := 32 :: tkM.flatMap (fun w => w ++ [32])
theorem tkMw_l : tkMw.length = 146 := by decide +kernel
theorem tkMw_b : ∀ x, x ∈ tkMw → x < 256 := by decide +kernel
/-- what the model reads of -/
def mTc (τ : zS) (t : Nat → Nat) (b : Nat) : Prop := τ 195 11 = nI b ∧ b ≤ 400 ∧ (∀ i, i < 400 → τ 202 i = nI (t i) ∧ t i ≤ 255) ∧ ∀ i, i < 146 → τ 203 i = nI (tkMw.getD i 0)
def mkd (v : Nat) (k x : Int32) : Prop := (v < 10000 ∧ k = 3 ∧ x = nI v) ∨ (∃ q, q < 28 ∧ v = 10000 + q ∧ k = 2 ∧ x = nI (tkm q)) ∨ (∃ c, tkS c = true ∧ v = 20000 + c ∧ k = 4 ∧ x = nI c) ∨ (v = 30000 ∧ k = 1) ∨ (v = 30001 ∧ k = 0)
def mR (a b : Nat) : Prop := a = 195 ∧ (b = 12 ∨ b = 13 ∨ b = 14 ∨ b = 15)
theorem mTc_f {τ υ : zS} {t : Nat → Nat} {b : Nat} (h : mTc τ t b) (h1 : υ 195 11 = τ 195 11) (h2 : ∀ i, υ 202 i = τ 202 i) (h3 : ∀ i, υ 203 i = τ 203 i) : mTc υ t b := by
  obtain ⟨g1, g2, g3, g4⟩ := h
  exact ⟨h1.trans g1, g2, fun i hi => by rw [h2]; exact g3 i hi, fun i hi => by rw [h3]; exact g4 i hi⟩
theorem s_raw {d b p : Nat} {τ : zS} {Q : Int32 → zS → Prop} {t : Nat → Nat} (hc : mTc τ t b) (hp : p < 2000) (h1 : p < b → Q (nI (t p)) τ) (h0 : ¬ p < b → Q (-1) τ) : zI1 d 188 [.ref 195, .int (nI p)] τ Q := by
  obtain ⟨g1, g2, g3, g4⟩ := hc
  show zk _ _ 0 [.ref 195, .int (nI p)] [] _ _
  by_cases c : p < b
  · have h1 := h1 c
    obtain ⟨ht, ht2⟩ := g3 p (by omega)
    refine r_il1 zi_188_0 rfl ?_
    refine r_al0 zi_188_1 rfl ?_
    refine q_getIe zi_188_2 rfl cf_195_11 (v := nI b) (by first | exact g1 | ((repeat (first | rw [zup_ne (by first | decide | omega)] | rw [zup_nj (by first | decide | omega)] | rw [fil_ne (by first | decide | omega)])) <;> exact g1) | (simp [up_rd, fil_rd]; exact g1)) ?_
    refine n_ic3 (i := p) (j := b) zi_188_5 rfl (by omega) (by omega) (fun c => absurd c (by omega)) (fun _ => ?_)
    refine r_al0 zi_188_8 rfl ?_
    refine q_getR zi_188_9 rfl cf_195_10 ?_
    refine r_il1 zi_188_12 rfl ?_
    refine r_alde zi_188_13 rfl p ca_202 (by first | rfl | (simp only [zI_add, zI_mul] <;> rfl)) (by first | omega | decide) (u := nI (t p)) (by first | exact ht | ((repeat (first | rw [zup_ne (by first | decide | omega)] | rw [zup_nj (by first | decide | omega)] | rw [fil_ne (by first | decide | omega)])) <;> exact ht) | (simp [up_rd, fil_rd]; exact ht)) ?_
    refine r_goto zi_188_14 rfl ?_
    refine r_retI zi_188_18 rfl ?_
    exact ⟨_, rfl, h1⟩
  · have h0 := h0 c
    refine r_il1 zi_188_0 rfl ?_
    refine r_al0 zi_188_1 rfl ?_
    refine q_getIe zi_188_2 rfl cf_195_11 (v := nI b) (by first | exact g1 | ((repeat (first | rw [zup_ne (by first | decide | omega)] | rw [zup_nj (by first | decide | omega)] | rw [fil_ne (by first | decide | omega)])) <;> exact g1) | (simp [up_rd, fil_rd]; exact g1)) ?_
    refine n_ic3 (i := p) (j := b) zi_188_5 rfl (by omega) (by omega) (fun _ => ?_) (fun c => absurd c (by omega))
    refine r_push zi_188_17 rfl ?_
    refine r_retI zi_188_18 rfl ?_
    exact ⟨_, rfl, h0⟩
theorem s_misL {d v : Nat} {σ : zS} {Q : Int32 → zS → Prop} (hv : v ≤ 255) (h1 : tkL v = true → Q 1 σ) (h0 : ¬ tkL v = true → Q 0 σ) : zI1 (d + 1) 189 [.ref 195, .int (nI v)] σ Q := by
  simp only [tkL, decide_eq_true_eq] at h1 h0
  have hin : ∀ (lo hi : Nat) (Q2 : Int32 → zS → Prop), lo < 1000 → hi < 1000 → (lo ≤ v ∧ v ≤ hi → Q2 1 σ) → (¬ (lo ≤ v ∧ v ≤ hi) → Q2 0 σ) → zI1 d 164 [.ref 195, .int (nI v), .int (nI lo), .int (nI hi)] σ Q2 := fun lo hi Q2 a b k1 k0 => s_isIn (fun x y => k1 ⟨(nI_leI (by omega) (by omega)).mp x, (nI_leI (by omega) (by omega)).mp y⟩) (fun x => k0 (fun y => x ⟨(nI_leI (by omega) (by omega)).mpr y.1, (nI_leI (by omega) (by omega)).mpr y.2⟩))
  show zk _ _ 0 [.ref 195, .int (nI v)] [] _ _
  refine r_al0 zi_189_0 rfl ?_
  refine r_il1 zi_189_1 rfl ?_
  refine r_push zi_189_2 rfl ?_
  refine r_push zi_189_4 rfl ?_
  refine q_cIV zi_189_6 rfl rfl rfl rfl rfl rfl rfl cf_195_0.ob (hin 97 122 _ (by decide) (by decide) (fun x1 => ?_) (fun x1 => ?_))
  · show zk _ _ 9 _ _ _ _
    refine r_if1 zi_189_9 rfl (fun _ => ?_) (fun c => absurd c (by decide))
    refine r_push zi_189_24 rfl ?_
    refine r_goto zi_189_25 rfl ?_
    refine r_retZ zi_189_29 rfl (by decide) ?_
    first | exact ⟨_, rfl, h1 (by omega)⟩ | exact ⟨_, rfl, h0 (by omega)⟩
  · show zk _ _ 9 _ _ _ _
    refine r_if1 zi_189_9 rfl (fun c => absurd (by decide) c) (fun _ => ?_)
    refine r_al0 zi_189_12 rfl ?_
    refine r_il1 zi_189_13 rfl ?_
    refine r_push zi_189_14 rfl ?_
    refine r_push zi_189_16 rfl ?_
    refine q_cIV zi_189_18 rfl rfl rfl rfl rfl rfl rfl cf_195_0.ob (hin 65 90 _ (by decide) (by decide) (fun x2 => ?_) (fun x2 => ?_))
    · show zk _ _ 21 _ _ _ _
      refine r_if0 zi_189_21 rfl (fun c => absurd c (by decide)) (fun _ => ?_)
      refine r_push zi_189_24 rfl ?_
      refine r_goto zi_189_25 rfl ?_
      refine r_retZ zi_189_29 rfl (by decide) ?_
      first | exact ⟨_, rfl, h1 (by omega)⟩ | exact ⟨_, rfl, h0 (by omega)⟩
    · show zk _ _ 21 _ _ _ _
      refine r_if0 zi_189_21 rfl (fun _ => ?_) (fun c => absurd (by decide) c)
      refine r_push zi_189_28 rfl ?_
      refine r_retZ zi_189_29 rfl (by decide) ?_
      first | exact ⟨_, rfl, h1 (by omega)⟩ | exact ⟨_, rfl, h0 (by omega)⟩
theorem s_misD {d v : Nat} {σ : zS} {Q : Int32 → zS → Prop} (hv : v ≤ 255) (h1 : tkD v = true → Q 1 σ) (h0 : ¬ tkD v = true → Q 0 σ) : zI1 (d + 1) 190 [.ref 195, .int (nI v)] σ Q := by
  simp only [tkD, decide_eq_true_eq] at h1 h0
  have hin : ∀ (lo hi : Nat) (Q2 : Int32 → zS → Prop), lo < 1000 → hi < 1000 → (lo ≤ v ∧ v ≤ hi → Q2 1 σ) → (¬ (lo ≤ v ∧ v ≤ hi) → Q2 0 σ) → zI1 d 164 [.ref 195, .int (nI v), .int (nI lo), .int (nI hi)] σ Q2 := fun lo hi Q2 a b k1 k0 => s_isIn (fun x y => k1 ⟨(nI_leI (by omega) (by omega)).mp x, (nI_leI (by omega) (by omega)).mp y⟩) (fun x => k0 (fun y => x ⟨(nI_leI (by omega) (by omega)).mpr y.1, (nI_leI (by omega) (by omega)).mpr y.2⟩))
  show zk _ _ 0 [.ref 195, .int (nI v)] [] _ _
  refine r_al0 zi_190_0 rfl ?_
  refine r_il1 zi_190_1 rfl ?_
  refine r_push zi_190_2 rfl ?_
  refine r_push zi_190_4 rfl ?_
  refine q_cIV zi_190_6 rfl rfl rfl rfl rfl rfl rfl cf_195_0.ob (hin 48 57 _ (by decide) (by decide) (fun x1 => ?_) (fun x1 => ?_))
  · show zk _ _ 9 _ _ _ _
    refine r_retZ zi_190_9 rfl (by decide) ?_
    first | exact ⟨_, rfl, h1 (by omega)⟩ | exact ⟨_, rfl, h0 (by omega)⟩
  · show zk _ _ 9 _ _ _ _
    refine r_retZ zi_190_9 rfl (by decide) ?_
    first | exact ⟨_, rfl, h1 (by omega)⟩ | exact ⟨_, rfl, h0 (by omega)⟩
theorem s_misN {d : Nat} {σ : zS} {Q : Int32 → zS → Prop} (h0 : Q 0 σ) : zI1 (d + 1) 189 [.ref 195, .int (-1)] σ Q := by
  show zk _ _ 0 [.ref 195, .int (-1)] [] _ _
  refine r_al0 zi_189_0 rfl ?_
  refine r_il1 zi_189_1 rfl ?_
  refine r_push zi_189_2 rfl ?_
  refine r_push zi_189_4 rfl ?_
  refine q_cIV zi_189_6 rfl rfl rfl rfl rfl rfl rfl cf_195_0.ob (s_isIn (fun x y => absurd x (by decide)) (fun _ => ?_))
  show zk _ _ 9 _ _ _ _
  refine r_if1 zi_189_9 rfl (fun c => absurd (by decide) c) (fun _ => ?_)
  refine r_al0 zi_189_12 rfl ?_
  refine r_il1 zi_189_13 rfl ?_
  refine r_push zi_189_14 rfl ?_
  refine r_push zi_189_16 rfl ?_
  refine q_cIV zi_189_18 rfl rfl rfl rfl rfl rfl rfl cf_195_0.ob (s_isIn (fun x y => absurd x (by decide)) (fun _ => ?_))
  show zk _ _ 21 _ _ _ _
  refine r_if0 zi_189_21 rfl (fun _ => ?_) (fun c => absurd (by decide) c)
  refine r_push zi_189_28 rfl ?_
  refine r_retZ zi_189_29 rfl (by decide) ?_
  exact ⟨_, rfl, h0⟩
theorem s_misM {d : Nat} {σ : zS} {Q : Int32 → zS → Prop} (h0 : Q 0 σ) : zI1 (d + 1) 190 [.ref 195, .int (-1)] σ Q := by
  show zk _ _ 0 [.ref 195, .int (-1)] [] _ _
  refine r_al0 zi_190_0 rfl ?_
  refine r_il1 zi_190_1 rfl ?_
  refine r_push zi_190_2 rfl ?_
  refine r_push zi_190_4 rfl ?_
  refine q_cIV zi_190_6 rfl rfl rfl rfl rfl rfl rfl cf_195_0.ob (s_isIn (fun x y => absurd x (by decide)) (fun _ => ?_))
  show zk _ _ 9 _ _ _ _
  refine r_retZ zi_190_9 rfl (by decide) ?_
  exact ⟨_, rfl, h0⟩
theorem s_misS {d v : Nat} {σ : zS} {Q : Int32 → zS → Prop} (hv : v ≤ 255) (h1 : tkS v = true → Q 1 σ) (h0 : ¬ tkS v = true → Q 0 σ) : zI1 d 191 [.ref 195, .int (nI v)] σ Q := by
  simp only [tkS, decide_eq_true_eq] at h1 h0
  show zk _ _ 0 [.ref 195, .int (nI v)] [] _ _
  refine r_il1 zi_191_0 rfl ?_
  refine r_push zi_191_1 rfl ?_
  refine n_ic0 (i := v) (j := 59) zi_191_3 rfl (by omega) (by omega) (fun c1 => ?_) (fun c1 => ?_)
  · refine r_push zi_191_60 rfl ?_
    refine r_goto zi_191_61 rfl ?_
    refine r_retZ zi_191_65 rfl (by decide) ?_
    first | exact ⟨_, rfl, h1 (by omega)⟩ | exact ⟨_, rfl, h0 (by omega)⟩
  · refine r_il1 zi_191_6 rfl ?_
    refine r_push zi_191_7 rfl ?_
    refine n_ic0 (i := v) (j := 43) zi_191_9 rfl (by omega) (by omega) (fun c2 => ?_) (fun c2 => ?_)
    · refine r_push zi_191_60 rfl ?_
      refine r_goto zi_191_61 rfl ?_
      refine r_retZ zi_191_65 rfl (by decide) ?_
      first | exact ⟨_, rfl, h1 (by omega)⟩ | exact ⟨_, rfl, h0 (by omega)⟩
    · refine r_il1 zi_191_12 rfl ?_
      refine r_push zi_191_13 rfl ?_
      refine n_ic0 (i := v) (j := 45) zi_191_15 rfl (by omega) (by omega) (fun c3 => ?_) (fun c3 => ?_)
      · refine r_push zi_191_60 rfl ?_
        refine r_goto zi_191_61 rfl ?_
        refine r_retZ zi_191_65 rfl (by decide) ?_
        first | exact ⟨_, rfl, h1 (by omega)⟩ | exact ⟨_, rfl, h0 (by omega)⟩
      · refine r_il1 zi_191_18 rfl ?_
        refine r_push zi_191_19 rfl ?_
        refine n_ic0 (i := v) (j := 42) zi_191_21 rfl (by omega) (by omega) (fun c4 => ?_) (fun c4 => ?_)
        · refine r_push zi_191_60 rfl ?_
          refine r_goto zi_191_61 rfl ?_
          refine r_retZ zi_191_65 rfl (by decide) ?_
          first | exact ⟨_, rfl, h1 (by omega)⟩ | exact ⟨_, rfl, h0 (by omega)⟩
        · refine r_il1 zi_191_24 rfl ?_
          refine r_push zi_191_25 rfl ?_
          refine n_ic0 (i := v) (j := 47) zi_191_27 rfl (by omega) (by omega) (fun c5 => ?_) (fun c5 => ?_)
          · refine r_push zi_191_60 rfl ?_
            refine r_goto zi_191_61 rfl ?_
            refine r_retZ zi_191_65 rfl (by decide) ?_
            first | exact ⟨_, rfl, h1 (by omega)⟩ | exact ⟨_, rfl, h0 (by omega)⟩
          · refine r_il1 zi_191_30 rfl ?_
            refine r_push zi_191_31 rfl ?_
            refine n_ic0 (i := v) (j := 40) zi_191_33 rfl (by omega) (by omega) (fun c6 => ?_) (fun c6 => ?_)
            · refine r_push zi_191_60 rfl ?_
              refine r_goto zi_191_61 rfl ?_
              refine r_retZ zi_191_65 rfl (by decide) ?_
              first | exact ⟨_, rfl, h1 (by omega)⟩ | exact ⟨_, rfl, h0 (by omega)⟩
            · refine r_il1 zi_191_36 rfl ?_
              refine r_push zi_191_37 rfl ?_
              refine n_ic0 (i := v) (j := 41) zi_191_39 rfl (by omega) (by omega) (fun c7 => ?_) (fun c7 => ?_)
              · refine r_push zi_191_60 rfl ?_
                refine r_goto zi_191_61 rfl ?_
                refine r_retZ zi_191_65 rfl (by decide) ?_
                first | exact ⟨_, rfl, h1 (by omega)⟩ | exact ⟨_, rfl, h0 (by omega)⟩
              · refine r_il1 zi_191_42 rfl ?_
                refine r_push zi_191_43 rfl ?_
                refine n_ic0 (i := v) (j := 60) zi_191_45 rfl (by omega) (by omega) (fun c8 => ?_) (fun c8 => ?_)
                · refine r_push zi_191_60 rfl ?_
                  refine r_goto zi_191_61 rfl ?_
                  refine r_retZ zi_191_65 rfl (by decide) ?_
                  first | exact ⟨_, rfl, h1 (by omega)⟩ | exact ⟨_, rfl, h0 (by omega)⟩
                · refine r_il1 zi_191_48 rfl ?_
                  refine r_push zi_191_49 rfl ?_
                  refine n_ic0 (i := v) (j := 61) zi_191_51 rfl (by omega) (by omega) (fun c9 => ?_) (fun c9 => ?_)
                  · refine r_push zi_191_60 rfl ?_
                    refine r_goto zi_191_61 rfl ?_
                    refine r_retZ zi_191_65 rfl (by decide) ?_
                    first | exact ⟨_, rfl, h1 (by omega)⟩ | exact ⟨_, rfl, h0 (by omega)⟩
                  · refine r_il1 zi_191_54 rfl ?_
                    refine r_push zi_191_55 rfl ?_
                    refine n_ic1 (i := v) (j := 62) zi_191_57 rfl (by omega) (by omega) (fun c10 => ?_) (fun c10 => ?_)
                    · refine r_push zi_191_64 rfl ?_
                      refine r_retZ zi_191_65 rfl (by decide) ?_
                      first | exact ⟨_, rfl, h1 (by omega)⟩ | exact ⟨_, rfl, h0 (by omega)⟩
                    · refine r_push zi_191_60 rfl ?_
                      refine r_goto zi_191_61 rfl ?_
                      refine r_retZ zi_191_65 rfl (by decide) ?_
                      first | exact ⟨_, rfl, h1 (by omega)⟩ | exact ⟨_, rfl, h0 (by omega)⟩
theorem tkl_eq {t : Nat → Nat} : ∀ (m s : Nat) (x : List Nat), tkl t s m = x ↔ m = x.length ∧ ∀ q, q < m → t (s + q) = x.getD q 0
  | 0, s, [] => ⟨fun _ => ⟨rfl, fun q hq => absurd hq (Nat.not_lt_zero q)⟩, fun _ => rfl⟩
  | 0, s, y :: x => ⟨fun h => (by cases h), fun h => absurd h.1 (by simp)⟩
  | m + 1, s, [] => ⟨fun h => (by cases h), fun h => absurd h.1 (by simp)⟩
  | m + 1, s, y :: x => by
    have ih := tkl_eq (t := t) m (s + 1) x
    constructor
    · intro h
      have h : t s :: tkl t (s + 1) m = y :: x := h
      obtain ⟨h1, h2⟩ := List.cons.inj h
      obtain ⟨h3, h4⟩ := ih.mp h2
      refine ⟨by rw [List.length_cons, h3], fun q hq => ?_⟩
      cases q with
      | zero => exact h1
      | succ q =>
        have := h4 q (by omega)
        rw [show s + (q + 1) = s + 1 + q by omega, this]; rfl
    · intro h
      obtain ⟨h1, h2⟩ := h
      rw [List.length_cons] at h1
      show t s :: tkl t (s + 1) m = y :: x
      have h3 := h2 0 (by omega)
      rw [ih.mpr ⟨by omega, fun q hq => by have := h2 (q + 1) (by omega); rw [show s + (q + 1) = s + 1 + q by omega] at this; exact this⟩]
      rw [show t s = y from h3]
/-- one word: does it lie from s to e -/
theorem l_win {d s e n pos w : Nat} {t X : Nat → Nat} {b : Nat} {σ : zS} {Q : Option Int32 → zS → Prop} (hc : mTc σ t b) (he : e ≤ b) (hL : ∀ j, s ≤ j → j < e → t j ≠ 32) (hX : ∀ q, q ≤ n → σ 203 (pos + 1 + q) = nI (X q)) (hXb : ∀ q, q ≤ n → X q < 256) (hX3 : ∀ q, q < n → X q ≠ 32) (hXn : X n = 32) (hpn : pos + 1 + n < 146) (hw : w < 100) (hy : (e - s = n ∧ ∀ q, q < n → t (s + q) = X q) → Q (some (nI w)) σ) (hn : ∀ u, ¬ (e - s = n ∧ ∀ q, q < n → t (s + q) = X q) → zk d 192 88 [.ref 195, .int (nI s), .int (nI e), .int (nI w), .int (nI pos), u] [] σ Q) : ∀ (m i : Nat), i + m = n + 1 → i ≤ n → s + i ≤ e → (∀ q, q < i → t (s + q) = X q) → zk d 192 20 [.ref 195, .int (nI s), .int (nI e), .int (nI w), .int (nI pos), .int (nI i)] [] σ Q := by
  obtain ⟨g1, g2, g3, g4⟩ := hc
  intro m
  induction m with
  | zero => intro i h1 h2; omega
  | succ m ih =>
    intro i h1 h2 h3 h4
    have hXi := hX i h2
    have hXi2 := hXb i h2
    by_cases c : s + i < e
    · obtain ⟨ht, ht2⟩ := g3 (s + i) (by omega)
      by_cases c2 : X i = t (s + i)
      · have hin : i ≠ n := fun z => hL (s + i) (by omega) c (by rw [← c2, z, hXn])
        have ih := ih (i + 1) (by omega) (by omega) (by omega) (fun q hq => by
          by_cases e : q = i
          · rw [e]; exact c2.symm
          · exact h4 q (by omega))
        refine r_il1 zi_192_20 rfl ?_
        refine r_il5 zi_192_21 rfl ?_
        refine r_b0 zi_192_23 rfl ?_
        rw [show (nI s + nI i : Int32) = nI (s + i) from nI_add _ _]
        refine r_il2 zi_192_24 rfl ?_
        refine n_ic3 (i := (s + i)) (j := e) zi_192_25 rfl (by omega) (by omega) (fun c => absurd c (by omega)) (fun _ => ?_)
        refine r_al0 zi_192_28 rfl ?_
        refine q_getR zi_192_29 rfl cf_195_16 ?_
        refine r_il4 zi_192_32 rfl ?_
        refine r_push zi_192_34 rfl ?_
        refine r_b0 zi_192_35 rfl ?_
        rw [show (nI pos + 1 : Int32) = nI (pos + 1) from nI_add _ _]
        refine r_il5 zi_192_36 rfl ?_
        refine r_b0 zi_192_38 rfl ?_
        rw [show (nI (pos + 1) + nI i : Int32) = nI ((pos + 1) + i) from nI_add _ _]
        refine r_alde zi_192_39 rfl ((pos + 1) + i) ca_203 (by first | rfl | (simp only [zI_add, zI_mul] <;> rfl)) (by first | omega | decide) (u := nI (X i)) (by first | exact hXi | ((repeat (first | rw [zup_ne (by first | decide | omega)] | rw [zup_nj (by first | decide | omega)] | rw [fil_ne (by first | decide | omega)])) <;> exact hXi) | (simp [up_rd, fil_rd]; exact hXi)) ?_
        refine r_al0 zi_192_40 rfl ?_
        refine q_getR zi_192_41 rfl cf_195_10 ?_
        refine r_il1 zi_192_44 rfl ?_
        refine r_il5 zi_192_45 rfl ?_
        refine r_b0 zi_192_47 rfl ?_
        rw [show (nI s + nI i : Int32) = nI (s + i) from nI_add _ _]
        refine r_alde zi_192_48 rfl (s + i) ca_202 (by first | rfl | (simp only [zI_add, zI_mul] <;> rfl)) (by first | omega | decide) (u := nI (t (s+i))) (by first | exact ht | ((repeat (first | rw [zup_ne (by first | decide | omega)] | rw [zup_nj (by first | decide | omega)] | rw [fil_ne (by first | decide | omega)])) <;> exact ht) | (simp [up_rd, fil_rd]; exact ht)) ?_
        refine n_ic1 (i := X i) (j := t (s+i)) zi_192_49 rfl (by omega) (by omega) (fun c => absurd c (by omega)) (fun _ => ?_)
        refine r_il5 zi_192_52 rfl ?_
        refine r_push zi_192_54 rfl ?_
        refine r_b0 zi_192_55 rfl ?_
        rw [show (nI i + 1 : Int32) = nI (i + 1) from nI_add _ _]
        refine r_is5 zi_192_56 rfl ?_
        refine r_goto zi_192_58 rfl ?_
        exact ih
      · have hn := fun u => hn u (fun z => c2 (by
          by_cases e : i < n
          · exact (z.2 i e).symm
          · omega))
        refine r_il1 zi_192_20 rfl ?_
        refine r_il5 zi_192_21 rfl ?_
        refine r_b0 zi_192_23 rfl ?_
        rw [show (nI s + nI i : Int32) = nI (s + i) from nI_add _ _]
        refine r_il2 zi_192_24 rfl ?_
        refine n_ic3 (i := (s + i)) (j := e) zi_192_25 rfl (by omega) (by omega) (fun c => absurd c (by omega)) (fun _ => ?_)
        refine r_al0 zi_192_28 rfl ?_
        refine q_getR zi_192_29 rfl cf_195_16 ?_
        refine r_il4 zi_192_32 rfl ?_
        refine r_push zi_192_34 rfl ?_
        refine r_b0 zi_192_35 rfl ?_
        rw [show (nI pos + 1 : Int32) = nI (pos + 1) from nI_add _ _]
        refine r_il5 zi_192_36 rfl ?_
        refine r_b0 zi_192_38 rfl ?_
        rw [show (nI (pos + 1) + nI i : Int32) = nI ((pos + 1) + i) from nI_add _ _]
        refine r_alde zi_192_39 rfl ((pos + 1) + i) ca_203 (by first | rfl | (simp only [zI_add, zI_mul] <;> rfl)) (by first | omega | decide) (u := nI (X i)) (by first | exact hXi | ((repeat (first | rw [zup_ne (by first | decide | omega)] | rw [zup_nj (by first | decide | omega)] | rw [fil_ne (by first | decide | omega)])) <;> exact hXi) | (simp [up_rd, fil_rd]; exact hXi)) ?_
        refine r_al0 zi_192_40 rfl ?_
        refine q_getR zi_192_41 rfl cf_195_10 ?_
        refine r_il1 zi_192_44 rfl ?_
        refine r_il5 zi_192_45 rfl ?_
        refine r_b0 zi_192_47 rfl ?_
        rw [show (nI s + nI i : Int32) = nI (s + i) from nI_add _ _]
        refine r_alde zi_192_48 rfl (s + i) ca_202 (by first | rfl | (simp only [zI_add, zI_mul] <;> rfl)) (by first | omega | decide) (u := nI (t (s+i))) (by first | exact ht | ((repeat (first | rw [zup_ne (by first | decide | omega)] | rw [zup_nj (by first | decide | omega)] | rw [fil_ne (by first | decide | omega)])) <;> exact ht) | (simp [up_rd, fil_rd]; exact ht)) ?_
        refine n_ic1 (i := X i) (j := t (s+i)) zi_192_49 rfl (by omega) (by omega) (fun _ => ?_) (fun c => absurd c (by omega))
        refine r_il1 zi_192_61 rfl ?_
        refine r_il5 zi_192_62 rfl ?_
        refine r_b0 zi_192_64 rfl ?_
        rw [show (nI s + nI i : Int32) = nI (s + i) from nI_add _ _]
        refine r_il2 zi_192_65 rfl ?_
        refine n_ic1 (i := (s + i)) (j := e) zi_192_66 rfl (by omega) (by omega) (fun _ => ?_) (fun c => absurd c (by omega))
        exact hn _
    · by_cases c2 : i = n
      · have hy := hy ⟨by omega, by rw [← c2]; exact h4⟩
        have hx32 : σ 203 (pos + 1 + i) = nI 32 := by rw [hXi, c2, hXn]
        refine r_il1 zi_192_20 rfl ?_
        refine r_il5 zi_192_21 rfl ?_
        refine r_b0 zi_192_23 rfl ?_
        rw [show (nI s + nI i : Int32) = nI (s + i) from nI_add _ _]
        refine r_il2 zi_192_24 rfl ?_
        refine n_ic3 (i := (s + i)) (j := e) zi_192_25 rfl (by omega) (by omega) (fun _ => ?_) (fun c => absurd c (by omega))
        refine r_il1 zi_192_61 rfl ?_
        refine r_il5 zi_192_62 rfl ?_
        refine r_b0 zi_192_64 rfl ?_
        rw [show (nI s + nI i : Int32) = nI (s + i) from nI_add _ _]
        refine r_il2 zi_192_65 rfl ?_
        refine n_ic1 (i := (s + i)) (j := e) zi_192_66 rfl (by omega) (by omega) (fun c => absurd c (by omega)) (fun _ => ?_)
        refine r_al0 zi_192_69 rfl ?_
        refine q_getR zi_192_70 rfl cf_195_16 ?_
        refine r_il4 zi_192_73 rfl ?_
        refine r_push zi_192_75 rfl ?_
        refine r_b0 zi_192_76 rfl ?_
        rw [show (nI pos + 1 : Int32) = nI (pos + 1) from nI_add _ _]
        refine r_il5 zi_192_77 rfl ?_
        refine r_b0 zi_192_79 rfl ?_
        rw [show (nI (pos + 1) + nI i : Int32) = nI ((pos + 1) + i) from nI_add _ _]
        refine r_alde zi_192_80 rfl ((pos + 1) + i) ca_203 (by first | rfl | (simp only [zI_add, zI_mul] <;> rfl)) (by first | omega | decide) (u := nI 32) (by first | exact hx32 | ((repeat (first | rw [zup_ne (by first | decide | omega)] | rw [zup_nj (by first | decide | omega)] | rw [fil_ne (by first | decide | omega)])) <;> exact hx32) | (simp [up_rd, fil_rd]; exact hx32)) ?_
        refine r_push zi_192_81 rfl ?_
        refine n_ic1 (i := 32) (j := 32) zi_192_83 rfl (by omega) (by omega) (fun c => absurd c (by omega)) (fun _ => ?_)
        refine r_il3 zi_192_86 rfl ?_
        refine r_retI zi_192_87 rfl ?_
        exact hy
      · have hn := fun u => hn u (fun z => by omega)
        have hx3 := hX3 i (by omega)
        refine r_il1 zi_192_20 rfl ?_
        refine r_il5 zi_192_21 rfl ?_
        refine r_b0 zi_192_23 rfl ?_
        rw [show (nI s + nI i : Int32) = nI (s + i) from nI_add _ _]
        refine r_il2 zi_192_24 rfl ?_
        refine n_ic3 (i := (s + i)) (j := e) zi_192_25 rfl (by omega) (by omega) (fun _ => ?_) (fun c => absurd c (by omega))
        refine r_il1 zi_192_61 rfl ?_
        refine r_il5 zi_192_62 rfl ?_
        refine r_b0 zi_192_64 rfl ?_
        rw [show (nI s + nI i : Int32) = nI (s + i) from nI_add _ _]
        refine r_il2 zi_192_65 rfl ?_
        refine n_ic1 (i := (s + i)) (j := e) zi_192_66 rfl (by omega) (by omega) (fun c => absurd c (by omega)) (fun _ => ?_)
        refine r_al0 zi_192_69 rfl ?_
        refine q_getR zi_192_70 rfl cf_195_16 ?_
        refine r_il4 zi_192_73 rfl ?_
        refine r_push zi_192_75 rfl ?_
        refine r_b0 zi_192_76 rfl ?_
        rw [show (nI pos + 1 : Int32) = nI (pos + 1) from nI_add _ _]
        refine r_il5 zi_192_77 rfl ?_
        refine r_b0 zi_192_79 rfl ?_
        rw [show (nI (pos + 1) + nI i : Int32) = nI ((pos + 1) + i) from nI_add _ _]
        refine r_alde zi_192_80 rfl ((pos + 1) + i) ca_203 (by first | rfl | (simp only [zI_add, zI_mul] <;> rfl)) (by first | omega | decide) (u := nI (X i)) (by first | exact hXi | ((repeat (first | rw [zup_ne (by first | decide | omega)] | rw [zup_nj (by first | decide | omega)] | rw [fil_ne (by first | decide | omega)])) <;> exact hXi) | (simp [up_rd, fil_rd]; exact hXi)) ?_
        refine r_push zi_192_81 rfl ?_
        refine n_ic1 (i := X i) (j := 32) zi_192_83 rfl (by omega) (by omega) (fun _ => ?_) (fun c => absurd c (by omega))
        exact hn _
theorem l_wnext {d n pos : Nat} {X : Nat → Nat} {σ : zS} {Q : Option Int32 → zS → Prop} {u1 u2 u3 u5 : Value} (hX : ∀ q, q ≤ n → σ 203 (pos + 1 + q) = nI (X q)) (hXb : ∀ q, q ≤ n → X q < 256) (hX3 : ∀ q, q < n → X q ≠ 32) (hXn : X n = 32) (hpn : pos + 1 + n < 146) (hq : zk d 192 5 [.ref 195, u1, u2, u3, .int (nI (pos + 1 + n)), u5] [] σ Q) : ∀ (m i : Nat), i + m = n → zk d 192 94 [.ref 195, u1, u2, u3, .int (nI (pos + 1 + i)), u5] [] σ Q := by
  intro m
  induction m with
  | zero =>
    intro i hi
    have e : i = n := by omega
    subst e
    have hx32 : σ 203 (pos + 1 + i) = nI 32 := by rw [hX i (Nat.le_refl _), hXn]
    refine r_al0 zi_192_94 rfl ?_
    refine q_getR zi_192_95 rfl cf_195_16 ?_
    refine r_il4 zi_192_98 rfl ?_
    refine r_alde zi_192_100 rfl (pos+1+i) ca_203 (by first | rfl | (simp only [zI_add, zI_mul] <;> rfl)) (by first | omega | decide) (u := nI 32) (by first | exact hx32 | ((repeat (first | rw [zup_ne (by first | decide | omega)] | rw [zup_nj (by first | decide | omega)] | rw [fil_ne (by first | decide | omega)])) <;> exact hx32) | (simp [up_rd, fil_rd]; exact hx32)) ?_
    refine r_push zi_192_101 rfl ?_
    refine n_ic0 (i := 32) (j := 32) zi_192_103 rfl (by omega) (by omega) (fun _ => ?_) (fun c => absurd c (by omega))
    refine r_goto zi_192_115 rfl ?_
    exact hq
  | succ m ih =>
    intro i hi
    have ih := ih (i + 1) (by omega)
    have hXi := hX i (by omega)
    have hXi2 := hXb i (by omega)
    have hXi3 := hX3 i (by omega)
    refine r_al0 zi_192_94 rfl ?_
    refine q_getR zi_192_95 rfl cf_195_16 ?_
    refine r_il4 zi_192_98 rfl ?_
    refine r_alde zi_192_100 rfl (pos+1+i) ca_203 (by first | rfl | (simp only [zI_add, zI_mul] <;> rfl)) (by first | omega | decide) (u := nI (X i)) (by first | exact hXi | ((repeat (first | rw [zup_ne (by first | decide | omega)] | rw [zup_nj (by first | decide | omega)] | rw [fil_ne (by first | decide | omega)])) <;> exact hXi) | (simp [up_rd, fil_rd]; exact hXi)) ?_
    refine r_push zi_192_101 rfl ?_
    refine n_ic0 (i := X i) (j := 32) zi_192_103 rfl (by omega) (by omega) (fun c => absurd c (by omega)) (fun _ => ?_)
    refine r_il4 zi_192_106 rfl ?_
    refine r_push zi_192_108 rfl ?_
    refine r_b0 zi_192_109 rfl ?_
    rw [show (nI (pos+1+i) + 1 : Int32) = nI ((pos+1+i) + 1) from nI_add _ _]
    refine r_is4 zi_192_110 rfl ?_
    refine r_goto zi_192_112 rfl ?_
    exact ih
theorem l_word {d s e : Nat} {t : Nat → Nat} {b : Nat} {σ : zS} {Q : Int32 → zS → Prop} (hc : mTc σ t b) (he : e ≤ b) (hse : s ≤ e) (hL : ∀ j, s ≤ j → j < e → t j ≠ 32) (hq : Q (if tkx (tkl t s (e - s)) tkM 0 = 30000 then -1 else nI (tkx (tkl t s (e - s)) tkM 0 - 10000)) σ) : ∀ (ws : List (List Nat)) (pos w : Nat) (nv : Int32) (u5 : Value), nv + 1 = nI w → w + ws.length = 28 → (∀ x, x ∈ ws → ∀ c, c ∈ x → c ≠ 32) → tkMw.drop pos = 32 :: ws.flatMap (fun x => x ++ [32]) → pos < 146 → tkx (tkl t s (e - s)) tkM 0 = tkx (tkl t s (e - s)) ws w → zk d 192 5 [.ref 195, .int (nI s), .int (nI e), .int nv, .int (nI pos), u5] [] σ (fun r t => ∃ v, r = some v ∧ Q v t) := by
  obtain ⟨g1, g2, g3, g4⟩ := id hc
  intro ws
  induction ws with
  | nil =>
    intro pos w nv u5 hnv hw hne hd hp hx
    have hl : (tkMw.drop pos).length = 1 := by rw [hd]; rfl
    rw [List.length_drop, tkMw_l] at hl
    have e : pos = 145 := by omega
    subst e
    rw [hx, show tkx (tkl t s (e - s)) [] w = 30000 from rfl, if_pos rfl] at hq
    refine r_il4 zi_192_5 rfl ?_
    refine r_push zi_192_7 rfl ?_
    refine r_ic3 zi_192_10 rfl (fun _ => ?_) (fun c => absurd (by decide) c)
    refine r_push zi_192_118 rfl ?_
    refine r_retI zi_192_119 rfl ?_
    exact ⟨_, rfl, hq⟩
  | cons x ws ih =>
    intro pos w nv u5 hnv hw hne hd hp hx
    have hl : (tkMw.drop pos).length = 1 + (x.length + 1 + (ws.flatMap (fun x => x ++ [32])).length) := by rw [hd, List.flatMap_cons, List.length_cons, List.length_append, List.length_append, List.length_singleton]; omega
    rw [List.length_drop, tkMw_l] at hl
    rw [List.length_cons] at hw
    have hd1 : tkMw.drop (pos + 1) = x ++ 32 :: ws.flatMap (fun x => x ++ [32]) := by
      have : tkMw.drop (pos + 1) = (tkMw.drop pos).drop 1 := by rw [List.drop_drop]
      rw [this, hd, List.flatMap_cons]
      show (x ++ [32] ++ _) = _
      rw [List.append_assoc]; rfl
    have hX0 : ∀ q, q ≤ x.length → tkMw.getD (pos + 1 + q) 0 = (x ++ 32 :: ws.flatMap (fun x => x ++ [32])).getD q 0 := fun q hq => by
      rw [← hd1, List.getD_eq_getElem?_getD, List.getD_eq_getElem?_getD, List.getElem?_drop]
    have hX : ∀ q, q ≤ x.length → σ 203 (pos + 1 + q) = nI (tkMw.getD (pos + 1 + q) 0) := fun q hq => g4 _ (by omega)
    have hXb : ∀ q, q ≤ x.length → tkMw.getD (pos + 1 + q) 0 < 256 := fun q hq => by
      have hl2 : pos + 1 + q < tkMw.length := by rw [tkMw_l]; omega
      rw [List.getD_eq_getElem?_getD, List.getElem?_eq_getElem hl2]
      exact tkMw_b _ (List.getElem_mem hl2)
    have hX1 : ∀ q, q < x.length → tkMw.getD (pos + 1 + q) 0 = x.getD q 0 := fun q hq => by
      rw [hX0 q (by omega), List.getD_eq_getElem?_getD, List.getD_eq_getElem?_getD, List.getElem?_append_left hq]
    have hX3 : ∀ q, q < x.length → tkMw.getD (pos + 1 + q) 0 ≠ 32 := fun q hq => by
      rw [hX1 q hq, List.getD_eq_getElem?_getD, List.getElem?_eq_getElem hq]
      exact hne x (List.mem_cons_self ..) _ (List.getElem_mem hq)
    have hXn : tkMw.getD (pos + 1 + x.length) 0 = 32 := by
      rw [hX0 _ (Nat.le_refl _), List.getD_eq_getElem?_getD, List.getElem?_append_right (Nat.le_refl _), Nat.sub_self]; rfl
    have hiff : (e - s = x.length ∧ ∀ q, q < x.length → t (s + q) = tkMw.getD (pos + 1 + q) 0) ↔ tkl t s (e - s) = x := by
      rw [tkl_eq]
      constructor
      · intro z
        exact ⟨z.1, fun q hq => by rw [z.2 q (by omega), hX1 q (by omega)]⟩
      · intro z
        exact ⟨z.1, fun q hq => by rw [z.2 q (by omega), hX1 q hq]⟩
    have hx : tkx (tkl t s (e - s)) tkM 0 = if tkl t s (e - s) = x then 10000 + w else tkx (tkl t s (e - s)) ws (w + 1) := hx
    have hd2 : tkMw.drop (pos + 1 + x.length) = 32 :: ws.flatMap (fun x => x ++ [32]) := by
      rw [← List.drop_drop, hd1, List.drop_left]
    have k1 := fun Q2 hy hn => l_win (d := d) (Q := Q2) (w := w) hc he hL hX hXb hX3 hXn (by omega) (by omega) hy hn (x.length + 1) 0 (by omega) (Nat.zero_le _) hse (fun q hq => absurd hq (Nat.not_lt_zero q))
    have hyes : (e - s = x.length ∧ ∀ q, q < x.length → t (s + q) = tkMw.getD (pos + 1 + q) 0) → Q (nI w) σ := fun z => by
      rw [if_pos (hiff.mp z)] at hx
      rw [hx, if_neg (by omega), Nat.add_sub_cancel_left] at hq
      exact hq
    have hno : ∀ u, ¬ (e - s = x.length ∧ ∀ q, q < x.length → t (s + q) = tkMw.getD (pos + 1 + q) 0) → zk d 192 88 [.ref 195, .int (nI s), .int (nI e), .int (nI w), .int (nI pos), u] [] σ (fun r t => ∃ v, r = some v ∧ Q v t) := fun u z => by
      rw [if_neg (fun y => z (hiff.mpr y))] at hx
      have ih := ih (pos + 1 + x.length) (w + 1) (nI w) u (nI_1 w) (by omega) (fun y hy => hne y (List.mem_cons_of_mem _ hy)) hd2 (by omega) hx
      have k2 := l_wnext hX hXb hX3 hXn (by omega) ih x.length 0 (by omega)
      refine r_il4 zi_192_88 rfl ?_
      refine r_push zi_192_90 rfl ?_
      refine r_b0 zi_192_91 rfl ?_
      rw [show (nI pos + 1 : Int32) = nI (pos + 1) from nI_add _ _]
      refine r_is4 zi_192_92 rfl ?_
      exact k2
    have k1 := k1 _ (fun z => ⟨_, rfl, hyes z⟩) hno
    refine r_il4 zi_192_5 rfl ?_
    refine r_push zi_192_7 rfl ?_
    refine n_ic3 (i := pos) (j := 145) zi_192_10 rfl (by omega) (by omega) (fun c => absurd c (by omega)) (fun _ => ?_)
    refine r_push zi_192_13 rfl ?_
    refine r_is5 zi_192_14 rfl ?_
    refine r_il3 zi_192_16 rfl ?_
    refine r_push zi_192_17 rfl ?_
    refine r_b0 zi_192_18 rfl ?_
    rw [hnv]
    refine r_is3 zi_192_19 rfl ?_
    exact k1
theorem s_mword {d s e : Nat} {t : Nat → Nat} {b : Nat} {σ : zS} {Q : Int32 → zS → Prop} (hc : mTc σ t b) (he : e ≤ b) (hse : s ≤ e) (hL : ∀ j, s ≤ j → j < e → t j ≠ 32) (hq : Q (if tkx (tkl t s (e - s)) tkM 0 = 30000 then -1 else nI (tkx (tkl t s (e - s)) tkM 0 - 10000)) σ) : zI1 d 192 [.ref 195, .int (nI s), .int (nI e)] σ Q := by
  show zk _ _ 0 [.ref 195, .int (nI s), .int (nI e), zun, zun, zun] [] _ _
  refine r_push zi_192_0 rfl ?_
  refine r_is3 zi_192_1 rfl ?_
  refine r_push zi_192_2 rfl ?_
  refine r_is4 zi_192_3 rfl ?_
  exact l_word hc he hse hL hq tkM 0 0 (-1) _ (by decide) (by decide) (by decide +kernel) rfl (by decide) rfl

