/-! the model's quantile -/
theorem HLw {σ : Me} {A : List Hp} (h : HL σ A) (hg : ∀ x ∈ A, GH x) {k : Nat} (hk : k < A.length) : σ 4 k = nI (wN (A.getD k hd0)) ∧ σ 5 k = nI (sN (A.getD k hd0)) ∧ 1 ≤ wN (A.getD k hd0) ∧ wN (A.getD k hd0) ≤ 200 ∧ sN (A.getD k hd0) ≤ 1999800 := by
  have hx := hg _ (mem_getD (d := hd0) hk)
  obtain ⟨w1, w2, w3⟩ := wN_GH hx
  obtain ⟨s1, s2⟩ := sN_GH hx
  have e := h.2 k hk
  exact ⟨(congrArg (fun q : Hp => q.1) e).trans w1, (congrArg (fun q : Hp => q.2.1) e).trans s1, w2, w3, s2⟩
/-- where a heap's middle lies -/
def plc (A : List Hp) (k : Nat) : Nat := 1000 * sumN (A.take k) + 500 * wN (A.getD k hd0)
theorem QF.c {A : List Hp} {n L0 G0 : Nat} (h : QF A n L0 G0) : Ch G0 L0 1 (A.map pr) := h.2.2.2.2.2.2.2.2
theorem QF.s {A : List Hp} {n L0 G0 : Nat} (h : QF A n L0 G0) : sumN A = n := h.2.2.2.2.1
theorem QF.g {A : List Hp} {n L0 G0 : Nat} (h : QF A n L0 G0) : ∀ x ∈ A, GH x := h.2.2.2.2.2.2.2.1
theorem QF.l {A : List Hp} {n L0 G0 : Nat} (h : QF A n L0 G0) : 0 < A.length := by
  rcases Nat.eq_zero_or_pos A.length with q | q
  · have e := h.s
    rw [List.length_eq_zero_iff.mp q] at e
    exact absurd e.symm (Nat.ne_of_gt h.2.2.2.2.2.1)
  · exact q
theorem drop_pr {A : List Hp} {k : Nat} (h : k < A.length) : (A.drop k).map pr = (wN (A.getD k hd0), sN (A.getD k hd0)) :: (A.drop (k + 1)).map pr := by
  rw [drop_getD (d := hd0) h]
  rfl
theorem sum_td (A : List Hp) (k : Nat) : sumN (A.take k) + sumN (A.drop k) = sumN A := by rw [← sumN_app, List.take_append_drop]
theorem q_run {A : List Hp} {n L0 G0 t : Nat} (h : QF A n L0 G0) (h0 : 500 * wN (A.getD 0 hd0) < t) : ∀ k, k < A.length → plc A k ≤ t →
    Ch G0 (sN (A.getD k hd0)) (wN (A.getD k hd0)) ((A.drop (k + 1)).map pr) ∧ qN G0 n t 0 0 L0 1 (A.map pr) = qN G0 n t (sumN (A.take (k + 1))) (plc A k) (sN (A.getD k hd0)) (wN (A.getD k hd0)) ((A.drop (k + 1)).map pr)
  | 0, hk, hp => by
    have hc := h.c
    have e : A.map pr = (wN (A.getD 0 hd0), sN (A.getD 0 hd0)) :: (A.drop 1).map pr := drop_pr hk
    rw [e] at hc ⊢
    refine ⟨hc.2.2, ?_⟩
    rw [qN, if_neg (by show ¬ t ≤ 1000 * 0 + 500 * wN (A.getD 0 hd0); omega), sumN_take hk]
    rfl
  | k + 1, hk, hp => by
    have h1 := sumN_take (A := A) (k := k) (by omega)
    have hw := wN_GH (h.g _ (mem_getD (d := hd0) (show k < A.length by omega)))
    obtain ⟨c1, c2⟩ := q_run h h0 k (by omega) (by unfold plc at hp ⊢; omega)
    have st := sum_td A (k + 1)
    rw [h.s] at st
    have e := drop_pr hk
    rw [e] at c1 c2
    refine ⟨c1.2.2, ?_⟩
    have hpp : psum ((wN (A.getD (k + 1) hd0), sN (A.getD (k + 1) hd0)) :: (A.drop (k + 1 + 1)).map pr) = sumN (A.drop (k + 1)) := by rw [← e, psum_pr]
    rw [c2, qN_step c1 hw.2.1 (by unfold plc; omega) (by rw [hpp]; exact st) (by unfold plc at hp; exact hp), sumN_take hk]
    rfl
theorem dbl {a b c : Nat} (h : 0 < c) : (c * a) / (c * b) = a / b := Nat.mul_div_mul_left _ _ h
theorem q_first {A : List Hp} {n L0 G0 q t : Nat} (h : QF A n L0 G0) (ht : t = q * n) (h0 : 2 * t ≤ 1000 * wN (A.getD 0 hd0)) :
    qV A n L0 G0 q = L0 + (sN (A.getD 0 hd0) - L0 * wN (A.getD 0 hd0)) * (2 * t) / (wN (A.getD 0 hd0) * (1000 * wN (A.getD 0 hd0))) := by
  have hl := h.l
  have e : A.map pr = (wN (A.getD 0 hd0), sN (A.getD 0 hd0)) :: (A.drop 1).map pr := drop_pr hl
  have hw := (wN_GH (h.g _ (mem_getD (d := hd0) hl))).2.1
  rw [qV, ← ht, e, qN, if_pos (by show t ≤ 1000 * 0 + 500 * wN (A.getD 0 hd0); omega)]
  show seg L0 1 0 (sN (A.getD 0 hd0)) (wN (A.getD 0 hd0)) (1000 * 0 + 500 * wN (A.getD 0 hd0)) t = _
  generalize sN (A.getD 0 hd0) = s0
  generalize wN (A.getD 0 hd0) = w0 at hw
  have hp : 0 < w0 * (500 * w0) := Nat.mul_pos hw (by omega)
  rw [seg, Nat.mul_zero, Nat.zero_add, Nat.sub_zero, Nat.sub_zero, Nat.one_mul, Nat.mul_one, Nat.mul_assoc L0 w0, Nat.mul_comm L0 (w0 * (500 * w0)), Nat.mul_add_div hp,
    show (s0 - L0 * w0) * (2 * t) = 2 * ((s0 - L0 * w0) * t) from Nat.mul_left_comm _ _ _, show w0 * (1000 * w0) = 2 * (w0 * (500 * w0)) by rw [Nat.mul_left_comm 2 w0, ← Nat.mul_assoc 2 500 w0], dbl (by omega)]
theorem q_last {A : List Hp} {n L0 G0 q t k : Nat} (h : QF A n L0 G0) (ht : t = q * n) (h0 : 1000 * wN (A.getD 0 hd0) < 2 * t) (hk : A.length = k + 1) (h1 : 1000 * (2 * n - wN (A.getD k hd0)) ≤ 2 * t) :
    qV A n L0 G0 q = (sN (A.getD k hd0) * (2000 * n - 1000 * (2 * n - wN (A.getD k hd0))) + (G0 * wN (A.getD k hd0) - sN (A.getD k hd0)) * (2 * t - 1000 * (2 * n - wN (A.getD k hd0)))) / (wN (A.getD k hd0) * (2000 * n - 1000 * (2 * n - wN (A.getD k hd0)))) := by
  have hkl : k < A.length := by omega
  have e1 := sumN_take hkl
  have e2 : sumN (A.take (k + 1)) = n := by rw [← hk, List.take_length]; exact h.s
  have hw := (wN_GH (h.g _ (mem_getD (d := hd0) hkl))).2.1
  have ep : 2 * plc A k = 1000 * (2 * n - wN (A.getD k hd0)) := by unfold plc; omega
  obtain ⟨c1, c2⟩ := q_run h (show 500 * wN (A.getD 0 hd0) < t by omega) k hkl (by omega)
  rw [qV, ← ht, c2, show A.drop (k + 1) = [] from by rw [← hk]; exact List.drop_length, List.map_nil, qN, ← ep]
  have hp : plc A k < 1000 * n := by omega
  have r1 : 2000 * n - 2 * plc A k = 2 * (1000 * n - plc A k) := by omega
  have r2 : 2 * t - 2 * plc A k = 2 * (t - plc A k) := by omega
  rw [r1, r2, seg]
  generalize sN (A.getD k hd0) = s0
  generalize wN (A.getD k hd0) = w0
  generalize 1000 * n - plc A k = D
  generalize t - plc A k = y
  rw [Nat.mul_one, Nat.mul_one, Nat.mul_left_comm s0 2 D, Nat.mul_left_comm _ 2 y, ← Nat.mul_add, Nat.mul_left_comm w0 2 D, dbl (by omega)]
theorem q_mid {A : List Hp} {n L0 G0 q t k : Nat} (h : QF A n L0 G0) (ht : t = q * n) (h0 : 1000 * wN (A.getD 0 hd0) < 2 * t) (hk : k + 1 < A.length) (h1 : plc A k ≤ t) (h2 : 2 * t < 1000 * (2 * (sumN (A.take k) + wN (A.getD k hd0)) + wN (A.getD (k + 1) hd0))) :
    qV A n L0 G0 q = (sN (A.getD k hd0) * wN (A.getD (k + 1) hd0) * (1000 * (wN (A.getD k hd0) + wN (A.getD (k + 1) hd0))) + (sN (A.getD (k + 1) hd0) * wN (A.getD k hd0) - sN (A.getD k hd0) * wN (A.getD (k + 1) hd0)) * (2 * t - 1000 * (2 * sumN (A.take k) + wN (A.getD k hd0)))) / (wN (A.getD k hd0) * wN (A.getD (k + 1) hd0) * (1000 * (wN (A.getD k hd0) + wN (A.getD (k + 1) hd0)))) := by
  have hkl : k < A.length := by omega
  have e1 := sumN_take hkl
  obtain ⟨c1, c2⟩ := q_run h (show 500 * wN (A.getD 0 hd0) < t by omega) k hkl h1
  have hq : t ≤ 1000 * sumN (A.take (k + 1)) + 500 * wN (A.getD (k + 1) hd0) := by omega
  rw [qV, ← ht, c2, drop_pr hk, qN, if_pos hq]
  show seg (sN (A.getD k hd0)) (wN (A.getD k hd0)) (plc A k) (sN (A.getD (k + 1) hd0)) (wN (A.getD (k + 1) hd0)) (1000 * sumN (A.take (k + 1)) + 500 * wN (A.getD (k + 1) hd0)) t = _
  have d1 : 1000 * (wN (A.getD k hd0) + wN (A.getD (k + 1) hd0)) = 2 * (1000 * sumN (A.take (k + 1)) + 500 * wN (A.getD (k + 1) hd0) - plc A k) := by unfold plc; omega
  have d2 : 2 * t - 1000 * (2 * sumN (A.take k) + wN (A.getD k hd0)) = 2 * (t - plc A k) := by unfold plc; omega
  rw [d1, d2, seg]
  generalize 1000 * sumN (A.take (k + 1)) + 500 * wN (A.getD (k + 1) hd0) - plc A k = D
  generalize t - plc A k = y
  rw [Nat.mul_left_comm _ 2 D, Nat.mul_left_comm _ 2 y, ← Nat.mul_add, Nat.mul_left_comm _ 2 D, dbl (by omega)]
theorem Ch_two {A : List Hp} {n L0 G0 k : Nat} (h : QF A n L0 G0) (hm : Mo A) (hk : k + 1 < A.length) : sN (A.getD k hd0) * wN (A.getD (k + 1) hd0) ≤ sN (A.getD (k + 1) hd0) * wN (A.getD k hd0) := by
  have h1 : Mo (A.drop k) := List.Pairwise.sublist (List.drop_sublist k A) hm
  rw [drop_getD (d := hd0) (show k < A.length by omega), drop_getD (d := hd0) hk] at h1
  exact (List.pairwise_cons.mp h1).1 _ List.mem_cons_self
theorem q_bd {A : List Hp} {n L0 G0 : Nat} (h : QF A n L0 G0) {x : Hp} (hx : x ∈ A) : L0 * wN x ≤ sN x ∧ sN x ≤ G0 * wN x := by
  obtain ⟨a, b, e1, e2, e3, e4, e5, hg, hc⟩ := h
  have m1 := (map_len_min (f := h_l) hx).1
  have m2 := (map_len_min (f := h_g) hx).2
  rw [e1] at m1
  rw [e2] at m2
  exact GH_lg (hg x hx) a b m1 m2
theorem Ch_at {A : List Hp} {n L0 G0 t k : Nat} (h : QF A n L0 G0) (h0 : 1000 * wN (A.getD 0 hd0) < 2 * t) (hk : k + 1 < A.length) (h1 : plc A k ≤ t) : sN (A.getD k hd0) * wN (A.getD (k + 1) hd0) ≤ sN (A.getD (k + 1) hd0) * wN (A.getD k hd0) := by
  have c := (q_run h (show 500 * wN (A.getD 0 hd0) < t by omega) k (by omega) h1).1
  rw [drop_pr hk] at c
  exact c.1
