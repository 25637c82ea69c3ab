/-! CLASS: how far all places are -/
def zdV (B : Nat → Int32) (a b : Nat) : Int32 := if zds B a b < 12 then nI (zds B a b) else -1
abbrev zed (B : Nat → Int32) (a f : Nat) : Int32 := zset (fun t => decide (zds B a t = f ∧ f < 12)) 12
abbrev zrc (B : Nat → Int32) (a f : Nat) : Int32 := zset (fun t => decide (zds B a t < f)) 12
theorem zset_bt {f : Nat → Bool} {n k : Nat} (hn : n ≤ 32) (hk : k < 32) : zbt (zset f n) k = (decide (k < n) && f k) := by rw [zbt_iff hk, zset_bit hn]
theorem zbt_ext {v w : Int32} (h : ∀ k, k < 32 → zbt v k = zbt w k) : v = w := un_ext (fun k hk => by rw [← zbt_iff hk, ← zbt_iff hk]; exact h k hk)
theorem zbt_or {v w : Int32} {k : Nat} (hk : k < 32) : zbt (v ||| w) k = (zbt v k || zbt w k) := by rw [zbt_iff hk, zbt_iff hk, zbt_iff hk, un_or, Nat.testBit_or]
theorem zbt_and {v w : Int32} {k : Nat} (hk : k < 32) : zbt (v &&& w) k = (zbt v k && zbt w k) := by rw [zbt_iff hk, zbt_iff hk, zbt_iff hk, un_and, Nat.testBit_and]
theorem zbt_not {v : Int32} {k : Nat} (hk : k < 32) : zbt (v ^^^ -1) k = !zbt v k := by rw [zbt_iff hk, zbt_iff hk, un_not v k hk]
theorem zbt_one {p k : Nat} (hp : p < 32) (hk : k < 32) : zbt (1 <<< (nI p &&& 31)) k = decide (p = k) := by rw [zbt_iff hk, un_one p hp, Nat.testBit_two_pow]
theorem zbt_0 {k : Nat} (hk : k < 32) : zbt 0 k = false := by rw [zbt_iff hk, show un 0 = 0 by rfl, Nat.zero_testBit]
theorem zed_0 (B : Nat → Int32) {a : Nat} (ha : a < 12) : 1 <<< (nI a &&& 31) = zed B a 0 := by
  apply zbt_ext
  intro k hk
  rw [zbt_one (by omega) hk, zset_bt (by omega) hk]
  by_cases h : k < 12
  · have := zds_0 (B := B) ha h
    simp only [h, decide_true, Bool.true_and]
    by_cases e : a = k
    · rw [this.mpr e, e]; simp
    · rw [decide_eq_false e, decide_eq_false (fun z => e (this.mp z.1))]
  · simp [h, show ¬ a = k by omega]
theorem zrc_s (B : Nat → Int32) {a f : Nat} (hf : f < 12) : zrc B a f ||| zed B a f = zrc B a (f + 1) := by
  apply zbt_ext
  intro k hk
  rw [zbt_or hk, zset_bt (by omega) hk, zset_bt (by omega) hk, zset_bt (by omega) hk]
  by_cases h : k < 12
  · simp only [h, decide_true, Bool.true_and, ← Bool.decide_or]
    exact decide_eq_decide.mpr (by omega)
  · simp [h]
theorem zds_back {B : Nat → Int32} {a t g : Nat} (ht : t < 32) (h : zds B a t = g + 1) (hg : g + 1 < 12) : ∃ p, p < 12 ∧ zds B a p = g ∧ zbt (B p) t = true := by
  have h1 : zrb B a (g + 1) t := by rw [← h]; exact zds_bit (by omega)
  rcases (zrb_s ht).mp h1 with h2 | ⟨p, hp, h2, h3⟩
  · have := zds_min ht h2 (by omega); omega
  · refine ⟨p, hp, ?_, h3⟩
    have h4 := zds_min (by omega) h2 (by omega)
    by_cases e : zds B a p = g
    · exact e
    · have h5 : zrb B a (zds B a p + 1) t := (zrb_s ht).mpr (Or.inr ⟨p, hp, zds_bit (by omega), h3⟩)
      have := zds_min ht h5 (by omega)
      omega
theorem zed_s {B : Nat → Int32} (hB : zBok B) {a f : Nat} (ha : a < 12) (hf : f < 12) : zor B (zed B a f) 0 12 &&& (zrc B a (f + 1) ^^^ -1) = zed B a (f + 1) := by
  apply zbt_ext
  intro k hk
  rw [zbt_and hk, zbt_not hk]
  have e1 : zbt (zrc B a (f + 1)) k = decide (k < 12 ∧ zds B a k < f + 1) := by
    rw [zset_bt (by omega) hk, ← Bool.decide_and]
  have e2 : zbt (zed B a (f + 1)) k = decide (k < 12 ∧ zds B a k = f + 1 ∧ f + 1 < 12) := by
    rw [zset_bt (by omega) hk, ← Bool.decide_and]
  have e3 : zbt (zor B (zed B a f) 0 12) k = true ↔ ∃ p, p < 12 ∧ zds B a p = f ∧ zbt (B p) k = true := by
    rw [zor_bit _ _ _ _ hk 12 (by omega), zbt_0 hk]
    constructor
    · rintro (h | ⟨p, hp, h1, h2⟩)
      · cases h
      · rw [zset_bt (by omega) (by omega)] at h1
        simp only [Bool.and_eq_true, decide_eq_true_eq] at h1
        exact ⟨p, hp, h1.2.1, h2⟩
    · rintro ⟨p, hp, h1, h2⟩
      refine Or.inr ⟨p, hp, ?_, h2⟩
      rw [zset_bt (by omega) (by omega)]
      simp only [Bool.and_eq_true, decide_eq_true_eq]
      exact ⟨hp, h1, hf⟩
  rw [e1, e2]
  cases hx : zbt (zor B (zed B a f) 0 12) k with
  | true =>
    obtain ⟨p, hp, h1, h2⟩ := e3.mp hx
    have h3 : zrb B a (f + 1) k := (zrb_s hk).mpr (Or.inr ⟨p, hp, by have := zds_bit (B := B) (a := a) (b := p) (by omega); rw [h1] at this; exact this, h2⟩)
    have h4 := zrb_lt hB ha hk h3
    have h5 := zds_min hk (zrb_11 hB ha hk h3) (by omega)
    have h6 : f + 1 < 12 → zds B a k ≤ f + 1 := fun z => zds_min hk h3 z
    rw [Bool.true_and, ← decide_not]
    exact decide_eq_decide.mpr (by omega)
  | false =>
    rw [Bool.false_and]
    symm
    rw [decide_eq_false_iff_not]
    rintro ⟨h1, h2, h3⟩
    obtain ⟨p, hp, h4, h5⟩ := zds_back hk h2 h3
    rw [e3.mpr ⟨p, hp, h4, h5⟩] at hx
    cases hx
theorem zed_none {B : Nat → Int32} {a f : Nat} (hf : f < 12) (h : zed B a f = 0) : ∀ t, t < 12 → f ≤ zds B a t → zds B a t = 12 := by
  have h0 : ∀ t, t < 12 → ¬ zds B a t = f := by
    intro t ht e
    have h1 : zbt (zed B a f) t = true := by
      rw [zset_bt (by omega) (by omega)]
      simp only [Bool.and_eq_true, decide_eq_true_eq]
      exact ⟨ht, e, hf⟩
    rw [h, zbt_0 (by omega)] at h1
    cases h1
  have key : ∀ m t, t < 12 → zds B a t = f + m → f + m < 12 → False := by
    intro m
    induction m with
    | zero => intro t ht e _; exact h0 t ht e
    | succ m ih =>
      intro t ht e h2
      obtain ⟨p, hp, h3, _⟩ := zds_back (B := B) (a := a) (t := t) (g := f + m) (by omega) (by omega) (by omega)
      exact ih p hp h3 (by omega)
  intro t ht hft
  have := zds_le (B := B) (a := a) (b := t)
  by_cases e : zds B a t = 12
  · exact e
  · exact absurd (key (zds B a t - f) t ht (by omega) (by omega)) id
theorem l_me1 {d k fr f : Nat} {σ : zS} {R : Option Int32 → zS → Prop} {e r : Int32} (hk : zWa k) (hfr : fr < 12) (h : ∀ τ u, Fr [k + 2] σ τ → (∀ i, τ (k + 2) i = if fr * 12 ≤ i ∧ i < fr * 12 + 12 ∧ zbt e (i - fr * 12) = true then nI f else σ (k + 2) i) → zk d 116 79 [.ref k, .int (nI fr), .int r, .int e, .int (nI f), u] [] τ R) : ∀ (m t : Nat) (τ : zS), t + m = 12 → Fr [k + 2] σ τ → (∀ i, τ (k + 2) i = if fr * 12 ≤ i ∧ i < fr * 12 + t ∧ zbt e (i - fr * 12) = true then nI f else σ (k + 2) i) → zk d 116 43 [.ref k, .int (nI fr), .int r, .int e, .int (nI f), .int (nI t)] [] τ R := by
  intro m
  induction m with
  | zero =>
    intro t τ ht hF hv
    have e12 : t = 12 := by omega
    subst e12
    refine r_il5 zi_116_43 rfl ?_
    refine r_push zi_116_45 rfl ?_
    refine r_ic3 zi_116_47 rfl (fun _ => ?_) (fun c => absurd (by decide) c)
    exact h _ _ hF hv
  | succ m ih =>
    intro t τ ht hF hv
    by_cases hs : e >>> (nI t &&& 31) &&& 1 = 1
    · refine r_il5 zi_116_43 rfl ?_
      refine r_push zi_116_45 rfl ?_
      refine n_ic3 (i := t) (j := 12) zi_116_47 rfl (by omega) (by omega) (fun c => absurd c (by omega)) (fun _ => ?_)
      refine r_il3 zi_116_50 rfl ?_
      refine r_il5 zi_116_51 rfl ?_
      refine r_b7 zi_116_53 rfl ?_
      refine r_push zi_116_54 rfl ?_
      refine r_b3 zi_116_55 rfl ?_
      refine r_if0 zi_116_56 rfl (fun c => absurd c (by rw [hs]; decide)) (fun _ => ?_)
      refine r_al0 zi_116_59 rfl ?_
      refine q_getR zi_116_60 rfl hk.2.1 ?_
      refine r_il1 zi_116_63 rfl ?_
      refine r_push zi_116_64 rfl ?_
      refine r_b2 zi_116_66 rfl ?_
      rw [show (nI fr * 12 : Int32) = nI (fr * 12) from pk_mul _ _]
      refine r_il5 zi_116_67 rfl ?_
      refine r_b0 zi_116_69 rfl ?_
      rw [show (nI (fr * 12) + nI t : Int32) = nI ((fr * 12) + t) from nI_add _ _]
      refine r_il4 zi_116_70 rfl ?_
      refine r_ast zi_116_72 rfl ((fr * 12) + t) hk.2.2.2 (by first | rfl | (simp only [zI_add, zI_mul] <;> rfl)) (by first | omega | decide) ?_
      refine r_in5 zi_116_73 rfl ?_
      rw [show (nI t + 1 : Int32) = nI (t + 1) from nI_add _ _]
      refine r_goto zi_116_76 rfl ?_
      refine ih (t + 1) _ (by omega) (hF.put (by simp)) (fun i => ?_)
      rw [up_rd, hv i]
      by_cases hi : i = fr * 12 + t
      · rw [if_pos ⟨rfl, hi⟩, if_pos ⟨by omega, by omega, by rw [show i - fr * 12 = t by omega]; exact decide_eq_true hs⟩]
      · rw [if_neg (fun z => hi z.2)]
        by_cases hc : fr * 12 ≤ i ∧ i < fr * 12 + t ∧ zbt e (i - fr * 12) = true
        · rw [if_pos hc, if_pos ⟨hc.1, by omega, hc.2.2⟩]
        · rw [if_neg hc, if_neg (fun z => hc ⟨z.1, by omega, z.2.2⟩)]
    · have h0 := (un_and1 (e >>> (nI t &&& 31))).resolve_right hs
      refine r_il5 zi_116_43 rfl ?_
      refine r_push zi_116_45 rfl ?_
      refine n_ic3 (i := t) (j := 12) zi_116_47 rfl (by omega) (by omega) (fun c => absurd c (by omega)) (fun _ => ?_)
      refine r_il3 zi_116_50 rfl ?_
      refine r_il5 zi_116_51 rfl ?_
      refine r_b7 zi_116_53 rfl ?_
      refine r_push zi_116_54 rfl ?_
      refine r_b3 zi_116_55 rfl ?_
      refine r_if0 zi_116_56 rfl (fun _ => ?_) (fun c => absurd h0 c)
      refine r_in5 zi_116_73 rfl ?_
      rw [show (nI t + 1 : Int32) = nI (t + 1) from nI_add _ _]
      refine r_goto zi_116_76 rfl ?_
      refine ih (t + 1) _ (by omega) hF (fun i => ?_)
      rw [hv i]
      by_cases hc : fr * 12 ≤ i ∧ i < fr * 12 + t ∧ zbt e (i - fr * 12) = true
      · rw [if_pos hc, if_pos ⟨hc.1, by omega, hc.2.2⟩]
      · rw [if_neg hc, if_neg (fun z => hc ⟨z.1, by
          have : i ≠ fr * 12 + t := fun w => by
            have z2 := z.2.2
            rw [w, show fr * 12 + t - fr * 12 = t by omega] at z2
            exact hs (of_decide_eq_true z2)
          omega, z.2.2⟩)]
theorem l_me2 {d k fr : Nat} {σ : zS} {R : Option Int32 → zS → Prop} (hk : zWa k) (hB : zBok (σ (k + 1))) (hfr : fr < 12) (h : ∀ τ u2 u3 u4 u5, Fr [k + 2] σ τ → (∀ i, τ (k + 2) i = if fr * 12 ≤ i ∧ i < fr * 12 + 12 then zdV (σ (k + 1)) fr (i - fr * 12) else σ (k + 2) i) → zk (d + 1) 116 95 [.ref k, .int (nI fr), u2, u3, u4, u5] [] τ R) : ∀ (m f : Nat) (τ : zS) (u5 : Value) (r e : Int32), r = zrc (σ (k + 1)) fr f → e = zed (σ (k + 1)) fr f → f + m = 12 → Fr [k + 2] σ τ → (∀ i, τ (k + 2) i = if fr * 12 ≤ i ∧ i < fr * 12 + 12 then (if zds (σ (k + 1)) fr (i - fr * 12) < f then nI (zds (σ (k + 1)) fr (i - fr * 12)) else -1) else σ (k + 2) i) → zk (d + 1) 116 25 [.ref k, .int (nI fr), .int r, .int e, .int (nI f), u5] [] τ R := by
  intro m
  induction m with
  | zero =>
    intro f τ u5 r e hre hee hf hF hv
    subst hre; subst hee
    have e12 : f = 12 := by omega
    subst e12
    refine r_il4 zi_116_25 rfl ?_
    refine r_push zi_116_27 rfl ?_
    refine r_ic3 zi_116_29 rfl (fun _ => ?_) (fun c => absurd (by decide) c)
    exact h _ _ _ _ _ hF hv
  | succ m ih =>
    intro f τ u5 r e hre hee hf hF hv
    subst hre; subst hee
    by_cases he : zed (σ (k + 1)) fr f = 0
    · refine r_il4 zi_116_25 rfl ?_
      refine r_push zi_116_27 rfl ?_
      refine n_ic3 (i := f) (j := 12) zi_116_29 rfl (by omega) (by omega) (fun c => absurd c (by omega)) (fun _ => ?_)
      refine r_il3 zi_116_32 rfl ?_
      refine r_if0 zi_116_33 rfl (fun _ => ?_) (fun c => absurd he c)
      refine h _ _ _ _ _ hF (fun i => ?_)
      rw [hv i]
      by_cases hi : fr * 12 ≤ i ∧ i < fr * 12 + 12
      · rw [if_pos hi, if_pos hi]
        unfold zdV
        have := zed_none (by omega) he (i - fr * 12) (by omega)
        by_cases hl : zds (σ (k + 1)) fr (i - fr * 12) < f
        · rw [if_pos hl, if_pos (by omega)]
        · rw [if_neg hl, if_neg (by omega)]
      · rw [if_neg hi, if_neg hi]
    · have hr := zrc_s (σ (k + 1)) (a := fr) (f := f) (by omega)
      have hn := zed_s hB hfr (f := f) (by omega)
      have hb : ∀ τ2, Fr [k + 2] τ τ2 → τ2 (k + 1) = σ (k + 1) := fun τ2 h2 => funext fun b => (h2 (k + 1) (by simp) b).trans (hF (k + 1) (by simp) b)
      refine r_il4 zi_116_25 rfl ?_
      refine r_push zi_116_27 rfl ?_
      refine n_ic3 (i := f) (j := 12) zi_116_29 rfl (by omega) (by omega) (fun c => absurd c (by omega)) (fun _ => ?_)
      refine r_il3 zi_116_32 rfl ?_
      refine r_if0 zi_116_33 rfl (fun c => absurd c he) (fun _ => ?_)
      refine r_il2 zi_116_36 rfl ?_
      refine r_il3 zi_116_37 rfl ?_
      refine r_b4 zi_116_38 rfl ?_
      rw [hr]
      refine r_is2 zi_116_39 rfl ?_
      refine r_push zi_116_40 rfl ?_
      refine r_is5 zi_116_41 rfl ?_
      refine l_me1 hk hfr (fun τ2 u52 hf2 hv2 => ?_) 12 0 τ (by omega) Fr.rf (fun i => by rw [if_neg (fun z => by omega)])
      show zk _ _ 79 _ _ _ _
      refine r_al0 zi_116_79 rfl ?_
      refine r_il3 zi_116_80 rfl ?_
      refine q_cIV zi_116_81 rfl rfl rfl rfl rfl rfl rfl hk.1.ob (s_beside hk ?_)
      show zk _ _ 84 _ _ _ _
      refine r_il2 zi_116_84 rfl ?_
      refine r_push zi_116_85 rfl ?_
      refine r_b5 zi_116_86 rfl ?_
      refine r_b3 zi_116_87 rfl ?_
      refine r_is3 zi_116_88 rfl ?_
      refine r_in4 zi_116_89 rfl ?_
      rw [show (nI f + 1 : Int32) = nI (f + 1) from nI_add _ _]
      refine r_goto zi_116_92 rfl ?_
      rw [hb τ2 hf2, hn]
      refine ih (f + 1) τ2 _ _ _ rfl rfl (by omega) (hF.tr hf2) (fun i => ?_)
      rw [hv2 i, hv i]
      by_cases hi : fr * 12 ≤ i ∧ i < fr * 12 + 12
      · rw [if_pos hi, if_pos hi]
        have hz : zbt (zed (σ (k + 1)) fr f) (i - fr * 12) = decide (zds (σ (k + 1)) fr (i - fr * 12) = f ∧ f < 12) := by rw [zset_bt (by omega) (by omega), decide_eq_true (show i - fr * 12 < 12 by omega), Bool.true_and]
        rw [hz]
        by_cases hq : zds (σ (k + 1)) fr (i - fr * 12) = f
        · rw [if_pos ⟨hi.1, hi.2, decide_eq_true ⟨hq, by omega⟩⟩, if_pos (by omega), hq]
        · rw [if_neg (fun z => hq (of_decide_eq_true z.2.2).1)]
          by_cases hl : zds (σ (k + 1)) fr (i - fr * 12) < f
          · rw [if_pos hl, if_pos (by omega)]
          · rw [if_neg hl, if_neg (by omega)]
      · rw [if_neg hi, if_neg hi, if_neg (fun z => hi ⟨z.1, z.2.1⟩)]
theorem l_me3 {d k : Nat} {σ : zS} {Q : zS → Prop} (hk : zWa k) (hB : zBok (σ (k + 1))) (h : ∀ τ, Fr [k + 2] σ τ → (∀ a b, a < 12 → b < 12 → τ (k + 2) (a * 12 + b) = zdV (σ (k + 1)) a b) → Q τ) : ∀ (m fr : Nat) (τ : zS) (u2 u3 u4 u5 : Value), fr + m = 12 → Fr [k + 2] σ τ → (∀ a b, a < fr → b < 12 → τ (k + 2) (a * 12 + b) = zdV (σ (k + 1)) a b) → (∀ i, fr * 12 ≤ i → i < 144 → τ (k + 2) i = -1) → zk (d + 1) 116 10 [.ref k, .int (nI fr), u2, u3, u4, u5] [] τ (fun r t => r = none ∧ Q t) := by
  intro m
  induction m with
  | zero =>
    intro fr τ u2 u3 u4 u5 hf hF hv hn
    have e12 : fr = 12 := by omega
    subst e12
    refine r_il1 zi_116_10 rfl ?_
    refine r_push zi_116_11 rfl ?_
    refine r_ic3 zi_116_13 rfl (fun _ => ?_) (fun c => absurd (by decide) c)
    refine r_ret zi_116_101 rfl ?_
    exact ⟨rfl, h _ hF hv⟩
  | succ m ih =>
    intro fr τ u2 u3 u4 u5 hf hF hv hn
    have hb : τ (k + 1) = σ (k + 1) := funext fun b => hF (k + 1) (by simp) b
    have e0 := zed_0 (τ (k + 1)) (a := fr) (by omega)
    have r0 : (0 : Int32) = zrc (τ (k + 1)) fr 0 := by
      apply zbt_ext
      intro q hq
      rw [zbt_0 hq, zset_bt (by omega) hq]
      simp
    have hin : ∀ i, τ (k + 2) i = if fr * 12 ≤ i ∧ i < fr * 12 + 12 then (if zds (τ (k + 1)) fr (i - fr * 12) < 0 then nI (zds (τ (k + 1)) fr (i - fr * 12)) else -1) else τ (k + 2) i := fun i => by
      by_cases hi : fr * 12 ≤ i ∧ i < fr * 12 + 12
      · rw [if_pos hi, if_neg (by omega)]; exact hn i hi.1 (by omega)
      · rw [if_neg hi]
    refine r_il1 zi_116_10 rfl ?_
    refine r_push zi_116_11 rfl ?_
    refine n_ic3 (i := fr) (j := 12) zi_116_13 rfl (by omega) (by omega) (fun c => absurd c (by omega)) (fun _ => ?_)
    refine r_push zi_116_16 rfl ?_
    refine r_is2 zi_116_17 rfl ?_
    refine r_push zi_116_18 rfl ?_
    refine r_il1 zi_116_19 rfl ?_
    refine r_b6 zi_116_20 rfl ?_
    refine r_is3 zi_116_21 rfl ?_
    refine r_push zi_116_22 rfl ?_
    refine r_is4 zi_116_23 rfl ?_
    refine l_me2 (σ := τ) hk (by rw [hb]; exact hB) (by omega) (fun τ2 u2 u3 u4 u5 hf2 hv2 => ?_) 12 0 τ _ _ _ r0 e0 (by omega) Fr.rf hin
    show zk _ _ 95 _ _ _ _
    refine r_in1 zi_116_95 rfl ?_
    rw [show (nI fr + 1 : Int32) = nI (fr + 1) from nI_add _ _]
    refine r_goto zi_116_98 rfl ?_
    refine ih (fr + 1) τ2 _ _ _ _ (by omega) (hF.tr hf2) (fun a b ha hb' => ?_) (fun i h1 h2 => ?_)
    · rw [hv2]
      by_cases e : a = fr
      · subst e; rw [if_pos (by omega), hb, show a * 12 + b - a * 12 = b by omega]
      · rw [if_neg (by omega)]; exact hv a b (by omega) hb'
    · rw [hv2, if_neg (by omega)]; exact hn i (by omega) h2
theorem s_measureAll {d k : Nat} {σ : zS} {Q : zS → Prop} (hk : zWa k) (hB : zBok (σ (k + 1))) (h : ∀ τ, Fr [k + 2] σ τ → (∀ a b, a < 12 → b < 12 → τ (k + 2) (a * 12 + b) = zdV (σ (k + 1)) a b) → Q τ) : zV1 (d + 1) 116 [.ref k] σ Q := by
  show zk _ _ 0 [.ref k, zun, zun, zun, zun, zun] [] _ _
  refine r_al0 zi_116_0 rfl ?_
  refine q_getR zi_116_1 rfl hk.2.1 ?_
  refine r_push zi_116_4 rfl ?_
  refine r_cVS zi_116_5 rfl rfl rfl rfl rfl rfl (s_afill hk.2.2.2 (by omega) ?_)
  show zk _ _ 8 _ _ _ _
  refine r_push zi_116_8 rfl ?_
  refine r_is1 zi_116_9 rfl ?_
  refine l_me3 (σ := σ) hk hB h 12 0 _ _ _ _ _ (by omega) (Fr.rf.fil (by simp)) (fun a b ha hb => by omega) (fun i h1 h2 => fil_in h2)

