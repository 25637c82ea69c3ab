/-! FOLLOWS, numbers -/
def zq (m x y : Nat) : Prop := x % m = y % m
theorem zq.rf {m x : Nat} : zq m x x := rfl
theorem zq.sy {m x y : Nat} (h : zq m x y) : zq m y x := Eq.symm h
theorem zq.tr {m x y z : Nat} (h : zq m x y) (g : zq m y z) : zq m x z := Eq.trans h g
theorem zq.add {m x y u v : Nat} (h : zq m x y) (g : zq m u v) : zq m (x + u) (y + v) := by
  unfold zq at *; rw [Nat.add_mod, h, g, ← Nat.add_mod]
theorem zq.mul {m x y u v : Nat} (h : zq m x y) (g : zq m u v) : zq m (x * u) (y * v) := by
  unfold zq at *; rw [Nat.mul_mod, h, g, ← Nat.mul_mod]
theorem zq.md {m x : Nat} : zq m (x % m) x := Nat.mod_mod _ _
theorem zsum_q {m : Nat} {f g : Nat → Nat} : ∀ n, (∀ k, k < n → zq m (f k) (g k)) → zq m (zsum f n) (zsum g n)
  | 0, _ => rfl
  | n + 1, h => (zsum_q n (fun k hk => h k (by omega))).add (h n (by omega))
theorem zsum_mul (c : Nat) (f : Nat → Nat) : ∀ n, zsum (fun k => c * f k) n = c * zsum f n
  | 0 => rfl
  | n + 1 => by show zsum (fun k => c * f k) n + c * f n = c * (zsum f n + f n); rw [zsum_mul c f n, Nat.mul_add]
def zpd (w : Nat → Nat) (x v : Nat) : Nat → Nat := fun j => if j = x then v else w j
theorem zsum_upd {w g : Nat → Nat} {x v : Nat} : ∀ n, x < n → zsum (fun j => zpd w x v j * g j) n + w x * g x = zsum (fun j => w j * g j) n + v * g x
  | n + 1, h => by
    show zsum (fun j => zpd w x v j * g j) n + zpd w x v n * g n + w x * g x = zsum (fun j => w j * g j) n + w n * g n + v * g x
    by_cases e : x = n
    · subst e
      have h1 : zsum (fun j => zpd w x v j * g j) x = zsum (fun j => w j * g j) x := zsum_congr x (fun k hk => by unfold zpd; rw [if_neg (by omega)])
      have h2 : zpd w x v x = v := if_pos rfl
      rw [h1, h2]; omega
    · have h1 := zsum_upd (w := w) (g := g) (x := x) (v := v) n (by omega)
      have h2 : zpd w x v n = w n := if_neg (fun z => e z.symm)
      rw [h2]; omega
/-- one number of a row grows by c, modulo m -/
theorem zsum_add {w g : Nat → Nat} {x c m n : Nat} (hx : x < n) : zq m (zsum (fun j => zpd w x ((w x + c) % m) j * g j) n) (zsum (fun j => w j * g j) n + c * g x) := by
  have h1 := zsum_upd (w := w) (g := g) (x := x) (v := w x + c) n hx
  have h2 : zsum (fun j => zpd w x (w x + c) j * g j) n = zsum (fun j => w j * g j) n + c * g x := by
    rw [Nat.add_mul] at h1; omega
  rw [← h2]
  refine zsum_q n (fun k hk => ?_)
  unfold zpd
  by_cases e : k = x
  · rw [if_pos e, if_pos e]; exact zq.md.mul zq.rf
  · rw [if_neg e, if_neg e]; exact zq.rf
def zrec (a b d m : Nat) (f : Nat → Nat) : Prop := (∀ i, i < d → f i = 1 % m) ∧ ∀ i, f (i + d) = (a * f (i + d - 1) + b * f i) % m
def zwin (a b d m : Nat) : Nat → Nat → Nat
  | 0 => fun _ => 1 % m
  | n + 1 => fun j => if j + 1 < d then zwin a b d m n (j + 1) else (a * zwin a b d m n (d - 1) + b * zwin a b d m n 0) % m
theorem zrec_ex (a b d m : Nat) (hd : 1 ≤ d) : zrec a b d m (fun i => zwin a b d m i 0) := by
  have h1 : ∀ j n, j < d → zwin a b d m n j = zwin a b d m (n + j) 0 := by
    intro j
    induction j with
    | zero => intro n _; rfl
    | succ j ih =>
      intro n hj
      have e : zwin a b d m (n + 1) j = zwin a b d m n (j + 1) := if_pos hj
      rw [← e, ih (n + 1) (by omega), show n + 1 + j = n + (j + 1) by omega]
  refine ⟨fun i hi => ?_, fun i => ?_⟩
  · show zwin a b d m i 0 = _
    have := h1 i 0 hi
    rw [Nat.zero_add] at this
    rw [← this]
    rfl
  · show zwin a b d m (i + d) 0 = (a * zwin a b d m (i + d - 1) 0 + b * zwin a b d m i 0) % m
    have e1 := h1 (d - 1) (i + 1) (by omega)
    rw [show i + 1 + (d - 1) = i + d by omega] at e1
    rw [← e1]
    have e2 : zwin a b d m (i + 1) (d - 1) = (a * zwin a b d m i (d - 1) + b * zwin a b d m i 0) % m := if_neg (by omega)
    rw [e2, h1 (d - 1) i (by omega), show i + (d - 1) = i + d - 1 by omega]
theorem zrec_q {a b d m : Nat} {f : Nat → Nat} (h : zrec a b d m f) (i : Nat) : zq m (f (i + d)) (a * f (i + d - 1) + b * f i) := by rw [h.2 i]; exact zq.md
/-- the parts lead s days on -/
def zle (d m : Nat) (f : Nat → Nat) (P : Nat → Nat) (s : Nat) : Prop := ∀ t, zq m (zsum (fun j => P j * f (t + j)) d) (f (t + s))
theorem zle_end {a b d m s : Nat} {f P : Nat → Nat} (hd : 1 ≤ d) (hd5 : d ≤ 5) (hf : zrec a b d m f) (h : zle d m f P s) (h0 : ∀ j, d ≤ j → P j = 0) : zsum P 5 % m = f s % m := by
  have h1 := h 0
  rw [Nat.zero_add] at h1
  refine zq.tr ?_ h1
  have e : zsum P 5 = zsum P d := by
    have : ∀ n, zsum P (d + n) = zsum P d := by
      intro n
      induction n with
      | zero => rfl
      | succ n ih => show zsum P (d + n) + P (d + n) = _; rw [ih, h0 _ (by omega), Nat.add_zero]
    have h2 := this (5 - d)
    rwa [show d + (5 - d) = 5 by omega] at h2
  rw [e]
  refine zsum_q d (fun k hk => ?_)
  rw [Nat.zero_add, hf.1 k hk]
  have : zq m (P k * (1 % m)) (P k * 1) := zq.rf.mul zq.md
  rw [Nat.mul_one] at this
  exact this.sy
/-- products of parts so far -/
def zdp (d : Nat) (f P : Nat → Nat) (t i j : Nat) : Nat := zsum (fun x => P x * zsum (fun y => P y * f (t + x + y)) d) i + P i * zsum (fun y => P y * f (t + i + y)) j
theorem zdp_s {d : Nat} {f P : Nat → Nat} {t i j : Nat} : zdp d f P t i (j + 1) = zdp d f P t i j + P i * P j * f (t + (i + j)) := by
  unfold zdp
  show _ + P i * (zsum (fun y => P y * f (t + i + y)) j + P j * f (t + i + j)) = _
  rw [Nat.mul_add, Nat.mul_assoc, Nat.add_assoc t i j, Nat.add_assoc]
theorem zdp_i {d : Nat} {f P : Nat → Nat} {t i : Nat} : zdp d f P t (i + 1) 0 = zdp d f P t i d := by
  unfold zdp
  show _ + P (i + 1) * 0 = _
  rw [Nat.mul_zero]; rfl
theorem zdp_end {d m s : Nat} {f P : Nat → Nat} (h : zle d m f P s) (t : Nat) : zq m (zdp d f P t d 0) (f (t + (s + s))) := by
  have e : zdp d f P t d 0 = zsum (fun x => P x * zsum (fun y => P y * f (t + x + y)) d) d := by
    unfold zdp; show _ + P d * 0 = _; rw [Nat.mul_zero]; rfl
  rw [e]
  have h1 : zq m (zsum (fun x => P x * zsum (fun y => P y * f (t + x + y)) d) d) (zsum (fun x => P x * f (t + s + x)) d) := zsum_q d (fun k hk => by
    have := h (t + k)
    rw [show t + k + s = t + s + k by omega] at this
    exact zq.rf.mul this)
  have h2 := h (t + s)
  rw [show t + s + s = t + (s + s) by omega] at h2
  exact h1.tr h2
/-- the highest of the wide parts is led down -/
theorem zdown {a b d m i : Nat} {f W : Nat → Nat} (hf : zrec a b d m f) (hd : 2 ≤ d) (hi : d ≤ i) {t s : Nat} (h : zq m (zsum (fun j => W j * f (t + j)) (i + 1)) (f (t + s))) : zq m (zsum (fun j => zpd (zpd W (i - 1) ((W (i - 1) + a * W i) % m)) (i - d) ((zpd W (i - 1) ((W (i - 1) + a * W i) % m) (i - d) + b * W i) % m) j * f (t + j)) i) (f (t + s)) := by
  refine zq.tr ?_ h
  have h1 := zsum_add (w := zpd W (i - 1) ((W (i - 1) + a * W i) % m)) (g := fun j => f (t + j)) (x := i - d) (c := b * W i) (m := m) (n := i) (by omega)
  have h2 := zsum_add (w := W) (g := fun j => f (t + j)) (x := i - 1) (c := a * W i) (m := m) (n := i) (by omega)
  refine h1.tr ((h2.add zq.rf).tr ?_)
  show zq m _ (zsum (fun j => W j * f (t + j)) i + W i * f (t + i))
  have h3 := zrec_q hf (t + (i - d))
  rw [show t + (i - d) + d = t + i by omega] at h3
  have h4 : zq m (W i * f (t + i)) (W i * (a * f (t + i - 1) + b * f (t + (i - d)))) := zq.rf.mul h3
  have e5 : W i * (a * f (t + i - 1) + b * f (t + (i - d))) = a * W i * f (t + (i - 1)) + b * W i * f (t + (i - d)) := by
    rw [show t + i - 1 = t + (i - 1) by omega, Nat.mul_add, Nat.mul_comm a (W i), Nat.mul_comm b (W i), Nat.mul_assoc, Nat.mul_assoc]
  rw [e5] at h4
  rw [Nat.add_assoc]
  exact zq.rf.add h4.sy
def zshf (a b d m : Nat) (P : Nat → Nat) : Nat → Nat := fun j => if d ≤ j then P j else if j = d - 1 then ((if d = 1 then b * P (d - 1) % m else P (d - 2)) + a * P (d - 1)) % m else if j = 0 then b * P (d - 1) % m else P (j - 1)
theorem zsum_sh (g : Nat → Nat) : ∀ n, zsum g (n + 1) = g 0 + zsum (fun j => g (j + 1)) n
  | 0 => by simp [zsum]
  | n + 1 => by
    show zsum g (n + 1) + g (n + 1) = g 0 + (zsum (fun j => g (j + 1)) n + g (n + 1))
    rw [zsum_sh g n]; omega
theorem zshf_ok {a b d m s : Nat} {f P : Nat → Nat} (hf : zrec a b d m f) (hd : 1 ≤ d) (h : zle d m f P s) : zle d m f (zshf a b d m P) (s + 1) := by
  intro t
  have h1 := h (t + 1)
  rw [show t + 1 + s = t + (s + 1) by omega] at h1
  refine zq.tr ?_ h1
  have h3 := zrec_q hf t
  obtain ⟨e, rfl⟩ : ∃ e, d = e + 1 := ⟨d - 1, by omega⟩
  have hl : zq m (P e * f (t + (e + 1))) (b * P e * f t + a * P e * f (t + e)) := by
    have : zq m (P e * f (t + (e + 1))) (P e * (a * f (t + (e + 1) - 1) + b * f t)) := zq.rf.mul h3
    rw [Nat.mul_add, show t + (e + 1) - 1 = t + e by omega] at this
    rw [Nat.mul_comm b (P e), Nat.mul_comm a (P e), Nat.mul_assoc, Nat.mul_assoc, Nat.add_comm (P e * (b * f t))]
    exact this
  have hr : zq m (zsum (fun j => P j * f (t + 1 + j)) (e + 1)) (zsum (fun j => P j * f (t + 1 + j)) e + (b * P e * f t + a * P e * f (t + e))) := by
    show zq m (zsum (fun j => P j * f (t + 1 + j)) e + P e * f (t + 1 + e)) _
    rw [show t + 1 + e = t + (e + 1) by omega]
    exact zq.rf.add hl
  refine zq.tr ?_ hr.sy
  match e with
  | 0 =>
    have e1 : zshf a b (0 + 1) m P 0 = (b * P 0 % m + a * P 0) % m := by simp [zshf]
    show zq m (0 + zshf a b (0 + 1) m P 0 * f (t + 0)) (0 + (b * P 0 * f t + a * P 0 * f (t + 0)))
    rw [e1, Nat.zero_add, Nat.zero_add, Nat.add_zero, ← Nat.add_mul]
    exact (zq.md.tr (zq.md.add zq.rf)).mul zq.rf
  | e + 1 =>
    have e1 : zshf a b (e + 1 + 1) m P (e + 1) = (P e + a * P (e + 1)) % m := by
      unfold zshf
      rw [if_neg (by omega), if_pos (by omega), if_neg (by omega)]
      rfl
    have e0 : zshf a b (e + 1 + 1) m P 0 = b * P (e + 1) % m := by
      unfold zshf
      rw [if_neg (by omega), if_neg (by omega), if_pos rfl]
      rfl
    have em : ∀ j, j < e → zshf a b (e + 1 + 1) m P (j + 1) = P j := fun j hj => by
      unfold zshf
      rw [if_neg (by omega), if_neg (by omega), if_neg (by omega)]
      rfl
    show zq m (zsum (fun j => zshf a b (e + 1 + 1) m P j * f (t + j)) (e + 1) + zshf a b (e + 1 + 1) m P (e + 1) * f (t + (e + 1))) (zsum (fun j => P j * f (t + 1 + j)) e + P e * f (t + 1 + e) + (b * P (e + 1) * f t + a * P (e + 1) * f (t + (e + 1))))
    rw [zsum_sh, e0, e1]
    have e2 : zsum (fun j => zshf a b (e + 1 + 1) m P (j + 1) * f (t + (j + 1))) e = zsum (fun j => P j * f (t + 1 + j)) e := zsum_congr e (fun k hk => by rw [em k hk, show t + (k + 1) = t + 1 + k by omega])
    rw [e2]
    have q1 : zq m (b * P (e + 1) % m * f (t + 0)) (b * P (e + 1) * f t) := zq.md.mul zq.rf
    have q2 : zq m ((P e + a * P (e + 1)) % m * f (t + (e + 1))) (P e * f (t + (e + 1)) + a * P (e + 1) * f (t + (e + 1))) := by rw [← Nat.add_mul]; exact zq.md.mul zq.rf
    have q3 := (q1.add (zq.rf (x := zsum (fun j => P j * f (t + 1 + j)) e))).add q2
    refine q3.tr ?_
    rw [show t + 1 + e = t + (e + 1) by omega]
    unfold zq
    congr 1
    omega

