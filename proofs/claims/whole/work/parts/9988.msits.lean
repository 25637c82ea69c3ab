/-! sits in the model: roads to a place as a call -/
theorem s_mroads {d n p : Nat} {σ V : zS} {Q : Int32 → zS → Prop} {B : Nat → Int32} (hV : zVm σ V n false) (hn : σ 195 6 = nI n) (hn18 : n ≤ 18) (hg : zVg V n) (hB : σ 214 = B) (hBk : zBok B) (hp : p < 12) (hq : ∀ τ, Fr [217] σ τ → Q (nI (zRt V n B p n)) τ) : zI1 (d + 2) 280 [.ref 195, .int (nI p)] σ Q := by
  subst hB
  have hfar : ∀ (Q2 : zS → Prop), (∀ τ, Fr [217] σ τ → (∀ a, a < 12 → τ 217 a = nI (zRd (σ 214) a p)) → Q2 τ) → zV1 (d + 1) 231 [.ref 195, .int (nI p)] σ Q2 := fun Q2 h2 => s_mfar hBk hp h2
  show zk _ _ 0 [.ref 195, .int (nI p), zun, zun] [] _ _
  refine r_al0 zi_280_0 rfl ?_
  refine r_il1 zi_280_1 rfl ?_
  refine q_cVV zi_280_2 rfl rfl rfl rfl rfl rfl rfl cf_195_0.ob (hfar _ (fun τ hF h217 => ?_))
  show zk _ _ 5 _ _ _ _
  refine r_push zi_280_5 rfl ?_
  refine r_is2 zi_280_6 rfl ?_
  refine r_push zi_280_7 rfl ?_
  refine r_is3 zi_280_8 rfl ?_
  exact l_mroads (zVm_o hV hF (by decide)) ((hF 195 (by decide) 6).trans hn) hn18 hg h217 (hq τ hF) n 0 (by omega)

