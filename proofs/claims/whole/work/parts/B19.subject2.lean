theorem zV_new {σ υ V : zS} {n : Nat} {p z : Int32} {q : Nat} (hn : n < 18) (hq : q < 12) (ep : p = nI q) (hg : zVg V n) (hz : ∀ s, n ≤ s → s < 18 → V 5 s = 0 ∧ V 7 s = 0) (hm : zVm σ V n false) (e199 : ∀ b, υ 199 b = σ 199 b) (e201 : ∀ b, υ 201 b = σ 201 b) (e200 : ∀ b, υ 200 b = if b = n then z else σ 200 b) (e30 : υ 196 (30 + n) = p) (e0 : ∀ k, 1 ≤ k → k < 5 → υ 196 (30 + 18 * k + n) = 0) (eo : ∀ b, (∀ k, k < 5 → b ≠ 30 + 18 * k + n) → υ 196 b = σ 196 b) : zVm υ (up (up (up (up V 3 n p) 4 n z) 6 n 1) 11 11 (nI (n + 1))) (n + 1) false ∧ zVg (up (up (up (up V 3 n p) 4 n z) 6 n 1) 11 11 (nI (n + 1))) (n + 1) := by
  have u3 : ∀ s, up (up (up (up V 3 n p) 4 n z) 6 n 1) 11 11 (nI (n + 1)) 3 s = if s = n then p else V 3 s := fun s => by
    rw [zup_z (by decide), zup_z (by decide), zup_z (by decide), up_rd]
    by_cases e : s = n
    · rw [if_pos ⟨rfl, e⟩, if_pos e]
    · rw [if_neg (fun y => e y.2), if_neg e]
  have u4 : ∀ s, up (up (up (up V 3 n p) 4 n z) 6 n 1) 11 11 (nI (n + 1)) 4 s = if s = n then z else V 4 s := fun s => by
    rw [zup_z (by decide), zup_z (by decide), up_rd]
    by_cases e : s = n
    · rw [if_pos ⟨rfl, e⟩, if_pos e]
    · rw [if_neg (fun y => e y.2), if_neg e, zup_z (by decide)]
  have u6 : ∀ s, up (up (up (up V 3 n p) 4 n z) 6 n 1) 11 11 (nI (n + 1)) 6 s = if s = n then 1 else V 6 s := fun s => by
    rw [zup_z (by decide), up_rd]
    by_cases e : s = n
    · rw [if_pos ⟨rfl, e⟩, if_pos e]
    · rw [if_neg (fun y => e y.2), if_neg e, zup_z (by decide), zup_z (by decide)]
  have uo : ∀ r s, r ≠ 3 → r ≠ 4 → r ≠ 6 → ¬ (r = 11 ∧ s = 11) → up (up (up (up V 3 n p) 4 n z) 6 n 1) 11 11 (nI (n + 1)) r s = V r s := fun r s a b c d => (zup_n2 d).trans ((zup_z (fun y => c y.symm)).trans ((zup_z (fun y => b y.symm)).trans (zup_z (fun y => a y.symm))))
  have u11 : up (up (up (up V 3 n p) 4 n z) 6 n 1) 11 11 (nI (n + 1)) 11 11 = nI (n + 1) := zup_eq
  generalize up (up (up (up V 3 n p) 4 n z) 6 n 1) 11 11 (nI (n + 1)) = U at *
  obtain ⟨h1, h2, h3, h4, h5, h6, h7, h8⟩ := hm
  obtain ⟨g1, g2, g3, g4, g5, ⟨t1, g6, g7, g8⟩, ⟨t2, g9, g10, g11⟩, ⟨w, g12, g13⟩⟩ := hg
  have v8 : V 8 n = -1 := by
    rcases g5 n hn with e | ⟨e, _⟩
    · exact e
    · omega
  refine ⟨⟨?_, fun r hr => ?_, fun s hs => ?_, fun s hs => ?_, ?_, fun i hi hi2 => ?_, fun i hi hi2 => ?_, fun ht i hi => ?_⟩, ⟨u11, by omega, fun s hs => ?_, fun s hs => ?_, fun s hs => ?_, ⟨t1, g6, ?_, fun i hi => ?_⟩, ⟨t2, g9, ?_, fun i hi => ?_⟩, ⟨w, g12, ?_⟩⟩⟩
  · rw [eo 0 (fun k hk => by omega), eo 1 (fun k hk => by omega), eo 2 (fun k hk => by omega), eo 3 (fun k hk => by omega), eo 4 (fun k hk => by omega), eo 5 (fun k hk => by omega), uo 11 17 (by decide) (by decide) (by decide) (by decide), uo 11 18 (by decide) (by decide) (by decide) (by decide), uo 11 19 (by decide) (by decide) (by decide) (by decide), uo 11 14 (by decide) (by decide) (by decide) (by decide), uo 11 15 (by decide) (by decide) (by decide) (by decide), uo 11 16 (by decide) (by decide) (by decide) (by decide)]; exact h1
  · rw [eo (6 + r) (fun k hk => by omega), eo (18 + r) (fun k hk => by omega), e199, uo 1 r (by decide) (by decide) (by decide) (by omega), uo 2 r (by decide) (by decide) (by decide) (by omega), uo 0 r (by decide) (by decide) (by decide) (by omega)]; exact h2 r hr
  · rw [u3, u4, u6, e200]
    by_cases e : s = n
    · subst e
      rw [if_pos rfl, if_pos rfl, if_pos rfl, if_pos rfl, if_pos rfl, e30]
      exact ⟨rfl, (by have := e0 2 (by omega) (by omega); rw [show 30 + 18 * 2 + s = 66 + s by omega] at this; exact this), rfl⟩
    · rw [if_neg e, if_neg e, if_neg e, if_neg e, eo (30 + s) (fun k hk => by omega), eo (66 + s) (fun k hk => by omega)]; exact h3 s (by omega)
  · rw [uo 5 s (by decide) (by decide) (by decide) (by omega), uo 7 s (by decide) (by decide) (by decide) (by omega), uo 8 s (by decide) (by decide) (by decide) (by omega)]
    by_cases e : s = n
    · subst e
      have a1 := e0 1 (by omega) (by omega)
      have a3 := e0 3 (by omega) (by omega)
      have a4 := e0 4 (by omega) (by omega)
      rw [show 48 + s = 30 + 18 * 1 + s by omega, show 84 + s = 30 + 18 * 3 + s by omega, show 102 + s = 30 + 18 * 4 + s by omega, a1, a3, a4, (hz s (by omega) hs).1, (hz s (by omega) hs).2, v8]
      exact ⟨rfl, rfl, rfl⟩
    · rw [eo (48 + s) (fun k hk => by omega), eo (84 + s) (fun k hk => by omega), eo (102 + s) (fun k hk => by omega)]; exact h4 s hs
  · rw [eo 120 (fun k hk => by omega), eo 145 (fun k hk => by omega), uo 11 12 (by decide) (by decide) (by decide) (by decide), uo 11 13 (by decide) (by decide) (by decide) (by decide)]; exact h5
  · rw [uo 11 12 (by decide) (by decide) (by decide) (by decide)] at hi
    rw [eo (121 + i) (fun k hk => by omega), uo 9 i (by decide) (by decide) (by decide) (by omega)]; exact zOm_m (h6 i hi hi2) (by omega)
  · rw [uo 11 13 (by decide) (by decide) (by decide) (by decide)] at hi
    rw [eo (146 + i) (fun k hk => by omega), uo 10 i (by decide) (by decide) (by decide) (by omega)]; exact zOm_m (h7 i hi hi2) (by omega)
  · rw [e201, uo 12 i (by decide) (by decide) (by decide) (by omega)]; exact h8 ht i hi
  · rw [u3]
    by_cases e : s = n
    · rw [if_pos e]; exact ⟨q, hq, ep⟩
    · rw [if_neg e]; exact g3 s (by omega)
  · rw [u6]
    by_cases e : s = n
    · rw [if_pos e]; exact Or.inr rfl
    · rw [if_neg e]; exact g4 s (by omega)
  · rw [uo 8 s (by decide) (by decide) (by decide) (by omega)]
    rcases g5 s hs with e | ⟨e, x⟩
    · exact Or.inl e
    · exact Or.inr ⟨by omega, x⟩
  · rw [uo 11 12 (by decide) (by decide) (by decide) (by decide)]; exact g7
  · rw [uo 9 i (by decide) (by decide) (by decide) (by omega)]; exact zOg_m (g8 i hi) (by omega)
  · rw [uo 11 13 (by decide) (by decide) (by decide) (by decide)]; exact g10
  · rw [uo 10 i (by decide) (by decide) (by decide) (by omega)]; exact zOg_m (g11 i hi) (by omega)
  · rw [uo 11 19 (by decide) (by decide) (by decide) (by decide)]; exact g13
theorem c_subject {p z : Int32} : zPr 122 182 [.int p, .int z] := fun σ hI => by
  obtain ⟨n, V, hD, _⟩ := id hI
  obtain ⟨hV, hm, hg, hz, hs, h50, hx⟩ := id hD
  have hn18 := hg.2.1
  have hsub : σ 2 11 = nI n := (hV.2.1 11 (by decide) (by decide)).trans hg.1
  refine s_ksubject (d := 9) hsub hn18 (fun hk => ?_) (fun hk => ?_)
  · have f1 : ∀ a b, ¬ (2 ≤ a ∧ a ≤ 13) → ¬ (a = 95 ∧ b = 2) → up (up (up (up (up σ 6 n p) 7 n z) 9 n 1) 2 11 (nI (n + 1))) 95 2 0 a b = σ a b := fun a b g1 g2 => (zup_n2 (by omega)).trans ((zup_n2 (by omega)).trans ((zup_n2 (by omega)).trans ((zup_n2 (by omega)).trans (zup_n2 (by omega)))))
    refine s_msubject (d := 9) ((f1 195 6 (by omega) (by omega)).trans hs) hn18 (fun _ υ u1 u2 u3 u4 u5 u6 u7 => ⟨rfl, ?_⟩) (fun y => absurd hk y)
    obtain ⟨k1, k2, k3, k4, k5⟩ := id hk
    obtain ⟨q, hq, eq⟩ := zI_of (n := 12) k1 k2 (by omega)
    have fu : ∀ a b, a ≠ 196 → a ≠ 200 → ¬ (a = 195 ∧ (b = 0 ∨ b = 3 ∨ b = 6)) → ¬ (2 ≤ a ∧ a ≤ 13) → ¬ (a = 95 ∧ b = 2) → υ a b = σ a b := fun a b g1 g2 g3 g4 g5 => (u1 a b g1 g2 g3).trans (f1 a b g4 g5)
    have hnew := zV_new (υ := υ) k5 hq eq hg hz hm (fun b => fu 199 b (by omega) (by omega) (by omega) (by omega) (by omega)) (fun b => fu 201 b (by omega) (by omega) (by omega) (by omega) (by omega)) (fun b => by rw [u2, f1 200 b (by omega) (by omega)]) u3 u4 (fun b hb => by rw [u5 b hb, f1 196 b (by omega) (by omega)])
    refine INV_D hI hD (by omega) ⟨?_, hnew.1, hnew.2, fun s g1 g2 => ?_, u7, ?_, vX_x hx (fun j i h => ?_)⟩ (fun a b x y => ?_) ?_ u6
    · have k := zVk_f zKk2 (zVk_a zKk2 (zVk_a zKk2 (zVk_a zKk2 hV (j := 3) (i := n) (v := p) (by omega)) (j := 4) (i := n) (v := z) (by omega)) (j := 6) (i := n) (v := 1) (by omega)) (f := 11) (v := nI (n + 1)) (by omega) (by omega)
      exact zVk_g k (fun a b g1 g2 => (u1 a b (by omega) (by omega) (by omega)).trans (zup_n2 (by omega)))
    · rw [zup_n2 (by omega), zup_n2 (by omega), zup_n2 (by omega), zup_n2 (by omega), zup_n2 (by omega), zup_n2 (by omega), zup_n2 (by omega), zup_n2 (by omega)]; exact hz s (by omega) g2
    · exact (fu 195 5 (by omega) (by omega) (by omega) (by omega) (by omega)).trans h50
    · rw [zup_n2 (by omega), zup_n2 (by omega), zup_n2 (by omega), zup_n2 (by omega)]
    · unfold sc at x; unfold dc at y
      exact fu a b (by omega) (by omega) (by omega) (by omega) (by omega)
    · exact (u1 95 2 (by omega) (by omega) (by omega)).trans zup_eq
  · exact s_msubject (d := 9) hs hn18 (fun y => absurd y hk) (fun _ => zPr_i hI sc_u)

