/-! FRAMES with some fields of one object -/
def Fx (c : Nat) (l fs : List Nat) (σ τ : zS) : Prop := ∀ a b, a ∉ l → (a = c → b ∉ fs) → τ a b = σ a b
theorem Fx.rf {c : Nat} {l fs : List Nat} {σ : zS} : Fx c l fs σ σ := fun _ _ _ _ => rfl
theorem Fx.tr {c : Nat} {l fs : List Nat} {σ τ υ : zS} (h1 : Fx c l fs σ τ) (h2 : Fx c l fs τ υ) : Fx c l fs σ υ := fun a b ha hb => (h2 a b ha hb).trans (h1 a b ha hb)
theorem Fx.put {c : Nat} {l fs : List Nat} {σ τ : zS} {k i : Nat} {v : Int32} (h : Fx c l fs σ τ) (hk : k ∈ l) : Fx c l fs σ (up τ k i v) := fun a b ha hb => by
  have hne : a ≠ k := fun e => ha (by rw [e]; exact hk)
  rw [zup_ne hne]; exact h a b ha hb
theorem Fx.fil {c : Nat} {l fs : List Nat} {σ τ : zS} {k n : Nat} {f : Nat → Int32} (h : Fx c l fs σ τ) (hk : k ∈ l) : Fx c l fs σ (fil τ k n f) := fun a b ha hb => by
  have hne : a ≠ k := fun e => ha (by rw [e]; exact hk)
  rw [fil_ne hne]; exact h a b ha hb
theorem Fx.pf {c : Nat} {l fs : List Nat} {σ τ : zS} {f : Nat} {v : Int32} (h : Fx c l fs σ τ) (hf : f ∈ fs) : Fx c l fs σ (up τ c f v) := fun a b ha hb => by
  have hne : ¬ (a = c ∧ b = f) := fun z => hb z.1 (by rw [z.2]; exact hf)
  rw [up_rd, if_neg hne]; exact h a b ha hb
theorem Fx.of {c : Nat} {l m fs : List Nat} {σ τ : zS} (h : Fr m σ τ) (hm : ∀ a, a ∈ m → a ∈ l) : Fx c l fs σ τ := fun a b ha _ => h a (fun z => ha (hm a z)) b
theorem Fx.at {c : Nat} {l fs : List Nat} {σ τ : zS} (h : Fx c l fs σ τ) {a : Nat} (ha : a ∉ l) (h5 : a ≠ c) (b : Nat) : τ a b = σ a b := h a b ha (fun e => absurd e h5)
theorem Fx.fl {c : Nat} {l fs : List Nat} {σ τ : zS} (h : Fx c l fs σ τ) {f : Nat} (h5 : c ∉ l) (hf : f ∉ fs) : τ c f = σ c f := h c f h5 (fun _ => hf)
theorem Fx.sub {c : Nat} {l m fs : List Nat} {σ τ : zS} (h : Fx c l fs σ τ) (h1 : ∀ a, a ∈ l → a ∈ m) : Fx c m fs σ τ := fun a b ha hb => h a b (fun z => ha (h1 a z)) hb
theorem zmx0_k (v : Int32) : (if 0 < v then v else 0) = zmx0 v := by unfold zmx0; grind
/-- what a day of the class stands on: the law, the roads, the lists by days -/
def zKd (σ : zS) (N : Nat) (Wd Fr' Wh To O A : Nat → Nat) (B : Nat → Int32) : Prop := zLw N Wd Fr' Wh To O A ∧ zLwK σ 15 N Wd Fr' Wh To O A ∧ σ 28 = B ∧ zBok B ∧ zhd σ 27
theorem zKd_fr {σ τ : zS} {c N : Nat} {l fs : List Nat} {Wd Fr' Wh To O A : Nat → Nat} {B : Nat → Int32} (h : zKd σ N Wd Fr' Wh To O A B) (hF : Fx c l fs σ τ) (h1 : ∀ a, 15 ≤ a → a < 30 → a ∉ l ∧ a ≠ c) : zKd τ N Wd Fr' Wh To O A B := by
  have e : ∀ a, 15 ≤ a → a < 30 → ∀ b, τ a b = σ a b := fun a h2 h3 b => hF.at (h1 a h2 h3).1 (h1 a h2 h3).2 b
  obtain ⟨g1, g2, g3, g4, g5⟩ := h
  refine ⟨g1, ⟨(e 15 (by omega) (by omega) 2).trans g2.1, fun l hl => ?_⟩, (funext fun b => e 28 (by omega) (by omega) b).trans g3, g4, fun a b ha hb => ?_⟩
  · obtain ⟨m1, m2, m3, m4, m5⟩ := g2.2 l hl
    exact ⟨(e 16 (by omega) (by omega) _).trans m1, (e 16 (by omega) (by omega) _).trans m2, (e 16 (by omega) (by omega) _).trans m3, (e 16 (by omega) (by omega) _).trans m4, fun j h3 h4 => (e 17 (by omega) (by omega) j).trans (m5 j h3 h4)⟩
  · show τ 29 _ = zdV (τ 28) a b
    rw [e 29 (by omega) (by omega), show τ 28 = σ 28 from funext fun b => e 28 (by omega) (by omega) b]
    exact g5 a b ha hb

