/-! quantiles, by natural numbers -/
def seg (s w p s' w' p' t : Nat) : Nat := (s * w' * (p' - p) + (s' * w - s * w') * (t - p)) / (w * w' * (p' - p))
def qN (G n t : Nat) : Nat → Nat → Nat → Nat → List (Nat × Nat) → Nat
  | _, p, s, w, [] => seg s w p G 1 (1000 * n) t
  | a, p, s, w, x :: r => if t ≤ 1000 * a + 500 * x.1 then seg s w p x.2 x.1 (1000 * a + 500 * x.1) t else qN G n t (a + x.1) (1000 * a + 500 * x.1) x.2 x.1 r
def Ch (G : Nat) : Nat → Nat → List (Nat × Nat) → Prop
  | s, w, [] => s ≤ G * w
  | s, w, x :: r => s * x.1 ≤ x.2 * w ∧ 0 < x.1 ∧ Ch G x.2 x.1 r
def psum : List (Nat × Nat) → Nat
  | [] => 0
  | x :: r => x.1 + psum r
theorem seg_start {s w p s' w' p' : Nat} (h1 : 0 < w') (h2 : p < p') : seg s w p s' w' p' p = s / w := by
  rw [seg, Nat.sub_self, Nat.mul_zero, Nat.add_zero, Nat.mul_assoc, Nat.mul_assoc]
  exact Nat.mul_div_mul_right _ _ (Nat.mul_pos h1 (by omega))
theorem seg_end {s w p s' w' p' : Nat} (h1 : 0 < w) (h2 : p < p') (h : s * w' ≤ s' * w) : seg s w p s' w' p' p' = s' / w' := by
  rw [seg, ← Nat.add_mul, Nat.add_comm, Nat.sub_add_cancel h, Nat.mul_comm w w', Nat.mul_assoc, Nat.mul_assoc]
  exact Nat.mul_div_mul_right _ _ (Nat.mul_pos h1 (by omega))
theorem seg_mono {s w p s' w' p' t t' : Nat} (h : t ≤ t') : seg s w p s' w' p' t ≤ seg s w p s' w' p' t' := by
  unfold seg
  apply Nat.div_le_div_right
  apply Nat.add_le_add_left
  exact Nat.mul_le_mul_left _ (by omega)
theorem div_ch {s w s' w' : Nat} (h1 : 0 < w) (h2 : 0 < w') (h : s * w' ≤ s' * w) : s / w ≤ s' / w' := by
  rw [Nat.le_div_iff_mul_le h2]
  apply Nat.le_of_mul_le_mul_right (c := w) _ h1
  have h3 := Nat.div_mul_le_self s w
  calc s / w * w' * w = s / w * w * w' := Nat.mul_right_comm _ _ _
    _ ≤ s * w' := Nat.mul_le_mul_right _ h3
    _ ≤ s' * w := h
theorem qN_ge {G n t : Nat} : ∀ (r : List (Nat × Nat)) (a p s w : Nat), Ch G s w r → 0 < w → p ≤ 1000 * a → p < 1000 * n → a + psum r = n → p ≤ t → s / w ≤ qN G n t a p s w r
  | [], a, p, s, w, hc, hw, hp, hq, hs, ht => by
    rw [qN, ← seg_start (s := s) (w := w) (s' := G) (w' := 1) (by omega) hq]
    exact seg_mono ht
  | x :: r, a, p, s, w, hc, hw, hp, hq, hs, ht => by
    obtain ⟨c1, c2, c3⟩ := hc
    rw [psum] at hs
    rw [qN]
    split
    · rw [← seg_start (s := s) (w := w) (p := p) (s' := x.2) (w' := x.1) (p' := 1000 * a + 500 * x.1) c2 (by omega)]
      exact seg_mono ht
    · exact Nat.le_trans (div_ch hw c2 c1) (qN_ge r _ _ _ _ c3 c2 (by omega) (by omega) (by omega) (by omega))
theorem qN_mono {G n t t' : Nat} (h : t ≤ t') : ∀ (r : List (Nat × Nat)) (a p s w : Nat), Ch G s w r → 0 < w → p ≤ 1000 * a → p < 1000 * n → a + psum r = n → p ≤ t → qN G n t a p s w r ≤ qN G n t' a p s w r
  | [], a, p, s, w, hc, hw, hp, hq, hs, ht => by
    rw [qN, qN]
    exact seg_mono h
  | x :: r, a, p, s, w, hc, hw, hp, hq, hs, ht => by
    obtain ⟨c1, c2, c3⟩ := hc
    rw [psum] at hs
    rw [qN, qN]
    by_cases q1 : t' ≤ 1000 * a + 500 * x.1
    · rw [if_pos q1, if_pos (by omega)]
      exact seg_mono h
    · rw [if_neg q1]
      by_cases q2 : t ≤ 1000 * a + 500 * x.1
      · rw [if_pos q2]
        refine Nat.le_trans (seg_mono q2) ?_
        rw [seg_end hw (by omega) c1]
        exact qN_ge r _ _ _ _ c3 c2 (by omega) (by omega) (by omega) (by omega)
      · rw [if_neg q2]
        exact qN_mono h r _ _ _ _ c3 c2 (by omega) (by omega) (by omega) (by omega)
theorem qN_at {G n a p s w : Nat} {r : List (Nat × Nat)} (hc : Ch G s w r) (hp : p ≤ 1000 * a) (hq : p < 1000 * n) : qN G n p a p s w r = s / w := by
  cases r with
  | nil => rw [qN, seg_start (by omega) hq]
  | cons x r =>
    obtain ⟨c1, c2, c3⟩ := hc
    rw [qN, if_pos (by omega), seg_start c2 (by omega)]
theorem qN_step {G n t a p s w : Nat} {x : Nat × Nat} {r : List (Nat × Nat)} (hc : Ch G s w (x :: r)) (hw : 0 < w) (hp : p ≤ 1000 * a) (hs : a + psum (x :: r) = n) (ht : 1000 * a + 500 * x.1 ≤ t) :
    qN G n t a p s w (x :: r) = qN G n t (a + x.1) (1000 * a + 500 * x.1) x.2 x.1 r := by
  obtain ⟨c1, c2, c3⟩ := hc
  rw [psum] at hs
  rw [qN]
  by_cases q : t ≤ 1000 * a + 500 * x.1
  · obtain rfl : t = 1000 * a + 500 * x.1 := by omega
    rw [if_pos q, seg_end hw (by omega) c1, qN_at c3 (by omega) (by omega)]
  · rw [if_neg q]
/-- a segment by the class's longs -/
theorem seg_bd {a b d : Nat} (ha : a ≤ 2000000) (hb : b ≤ 200) (hd : d ≤ 200000) : a * b * d < 2 ^ 62 := by
  have h1 : a * b ≤ 2000000 * 200 := Nat.mul_le_mul ha hb
  have h2 : a * b * d ≤ 2000000 * 200 * 200000 := Nat.mul_le_mul h1 hd
  omega
theorem btw_n {s w p s' w' p' t : Nat} (hs : s ≤ 2000000) (hs' : s' ≤ 2000000) (hw0 : 0 < w) (hw : w ≤ 200) (hw0' : 0 < w') (hw' : w' ≤ 200) (hp : p < p') (hp' : p' ≤ 200000) (h1 : p ≤ t) (h2 : t ≤ p') (hc : s * w' ≤ s' * w) :
    btw (nJ s) (nJ w) (nJ p) (nJ s') (nJ w') (nJ p') (nJ t) = nI (seg s w p s' w' p' t) := by
  have b1 := seg_bd (a := s) (b := w') (d := p' - p) hs hw' (by omega)
  have b2 := seg_bd (a := w) (b := w') (d := p' - p) (by omega) hw' (by omega)
  have b3 := seg_bd (a := s') (b := w) (d := t - p) hs' hw (by omega)
  have b4 : (s' * w - s * w') * (t - p) ≤ s' * w * (t - p) := Nat.mul_le_mul_right _ (by omega)
  have b5 : 0 < w * w' * (p' - p) := Nat.mul_pos (Nat.mul_pos hw0 hw0') (by omega)
  unfold btw seg
  rw [nJ_mul, nJ_sub (by omega), nJ_mul, nJ_mul, nJ_mul, nJ_mul, nJ_sub hc, nJ_sub h1, nJ_mul, nJ_add, if_neg, fdv_n (by omega) (by omega), nJ_l2i]
  intro z
  exact absurd ((nJ_le (by omega) (show 0 < 2 ^ 63 by omega)).mp (show _ ≤ nJ 0 from z)) (by omega)
