/-! the class's quantile, by natural numbers -/
def pr (x : Hp) : Nat × Nat := (wN x, sN x)
theorem psum_pr : ∀ (A : List Hp), psum (A.map pr) = sumN A
  | [] => rfl
  | x :: r => by
    show wN x + psum (r.map pr) = wN x + sumN r
    rw [psum_pr r]
theorem Ch_of {G : Nat} : ∀ (A : List Hp) (s w : Nat), Mo A → (∀ x ∈ A, GH x) → (∀ x ∈ A, sN x ≤ G * wN x) → s ≤ G * w → (∀ x ∈ A, s * wN x ≤ sN x * w) → Ch G s w (A.map pr)
  | [], s, w, _, _, _, h, _ => h
  | x :: r, s, w, hm, hg, hG, h, hl => by
    obtain ⟨m1, m2⟩ := List.pairwise_cons.mp hm
    exact ⟨hl x List.mem_cons_self, (wN_GH (hg x List.mem_cons_self)).2.1, Ch_of r _ _ m2 (fun z hz => hg z (List.mem_cons_of_mem _ hz)) (fun z hz => hG z (List.mem_cons_of_mem _ hz)) (hG x List.mem_cons_self) (fun z hz => m1 z hz)⟩
theorem qScan_n {G n t : Nat} (hG : G ≤ 9999) (hn : n ≤ 200) (ht : t ≤ 1000 * n) : ∀ (A : List Hp) (a p s w : Nat), (∀ x ∈ A, GH x) → Ch G s w (A.map pr) → 0 < w → w ≤ 200 → s ≤ 2000000 → p ≤ 1000 * a → p < 1000 * n → a + sumN A = n → p ≤ t →
    qScan (nI G) (nI n) (nI t) (nI a) (nI p) (nI s) (nI w) A = nI (qN G n t a p s w (A.map pr))
  | [], a, p, s, w, hg, hc, hw, hw2, hs, hp, hq, hsum, hpt => by
    have hc2 : s ≤ G * w := hc
    show btw (nI s).toInt64 (nI w).toInt64 (nI p).toInt64 (nI G).toInt64 1 (nI 1000 * nI n).toInt64 (nI t).toInt64 = _
    rw [pk_mul, nJ_i2l (by omega), nJ_i2l (by omega), nJ_i2l (by omega), nJ_i2l (by omega), nJ_i2l (by omega), nJ_i2l (by omega)]
    exact btw_n (w' := 1) hs (by omega) hw hw2 (by omega) (by omega) hq (by omega) hpt ht (by rw [Nat.mul_one]; exact hc2)
  | x :: r, a, p, s, w, hg, hc, hw, hw2, hs, hp, hq, hsum, hpt => by
    obtain ⟨c1, c2, c3⟩ := hc
    have hgx := hg x List.mem_cons_self
    obtain ⟨w1, w2, w3⟩ := wN_GH hgx
    obtain ⟨s1, s2⟩ := sN_GH hgx
    have c1' : s * wN x ≤ sN x * w := c1
    rw [sumN] at hsum
    have e : nI 1000 * nI a + nI 500 * h_w x = nI (1000 * a + 500 * wN x) := by rw [w1, pk_mul, pk_mul, nI_add]
    show (if nI t ≤ nI 1000 * nI a + nI 500 * h_w x then btw (nI s).toInt64 (nI w).toInt64 (nI p).toInt64 (h_s x).toInt64 (h_w x).toInt64 (nI 1000 * nI a + nI 500 * h_w x).toInt64 (nI t).toInt64 else qScan (nI G) (nI n) (nI t) (nI a + h_w x) (nI 1000 * nI a + nI 500 * h_w x) (h_s x) (h_w x) r) = nI (if t ≤ 1000 * a + 500 * wN x then seg s w p (sN x) (wN x) (1000 * a + 500 * wN x) t else qN G n t (a + wN x) (1000 * a + 500 * wN x) (sN x) (wN x) (r.map pr))
    rw [e]
    by_cases q : t ≤ 1000 * a + 500 * wN x
    · rw [if_pos q, if_pos ((nI_leI (by omega) (by omega)).mpr q), s1, w1, nJ_i2l (by omega), nJ_i2l (by omega), nJ_i2l (by omega), nJ_i2l (by omega), nJ_i2l (by omega), nJ_i2l (by omega), nJ_i2l (by omega)]
      exact btw_n hs (by omega) hw hw2 (by omega) (by omega) (by omega) (by omega) hpt q c1'
    · rw [if_neg q, if_neg (fun z => q ((nI_leI (by omega) (by omega)).mp z)), w1, s1, nI_add]
      exact qScan_n hG hn ht r _ _ _ _ (fun z hz => hg z (List.mem_cons_of_mem _ hz)) c3 (by omega) (by omega) (by omega) (by omega) (by omega) (by omega) (by omega)
theorem qN_top {G n : Nat} : ∀ (r : List (Nat × Nat)) (a p s w : Nat), Ch G s w r → 0 < w → p ≤ 1000 * a → p < 1000 * n → a + psum r = n → qN G n (1000 * n) a p s w r = G
  | [], a, p, s, w, hc, hw, hp, hq, hs => by
    rw [qN, seg_end hw hq (by rw [Nat.mul_one]; exact hc), Nat.div_one]
  | x :: r, a, p, s, w, hc, hw, hp, hq, hs => by
    obtain ⟨c1, c2, c3⟩ := hc
    rw [psum] at hs
    rw [qN, if_neg (by omega)]
    exact qN_top r _ _ _ _ c3 c2 (by omega) (by omega) (by omega)
/-- all that a digest's quantiles ask -/
def QF (A : List Hp) (n L0 G0 : Nat) : Prop := L0 ≤ 9999 ∧ G0 ≤ 9999 ∧ imin (A.map h_l) A.length = nI L0 ∧ imax (A.map h_g) A.length = nI G0 ∧ sumN A = n ∧ 0 < n ∧ n ≤ 200 ∧ (∀ x ∈ A, GH x) ∧ Ch G0 L0 1 (A.map pr)
def qV (A : List Hp) (n L0 G0 q : Nat) : Nat := qN G0 n (q * n) 0 0 L0 1 (A.map pr)
theorem qAt_n {A : List Hp} {n L0 G0 q : Nat} (h : QF A n L0 G0) (hq : q ≤ 1000) : qAt A (nI q) = nI (qV A n L0 G0 q) := by
  obtain ⟨a, b, e1, e2, e3, e4, e5, hg, hc⟩ := h
  have ew : wTot A = nI n := by rw [wTot_eq, (wTot_sumN A hg).1, e3]
  have ht : q * n ≤ 1000 * n := Nat.mul_le_mul_right _ hq
  unfold qAt qV
  rw [e1, e2, ew, pk_mul]
  exact qScan_n b e5 ht A 0 0 L0 1 hg hc (by omega) (by omega) (by omega) (by omega) (by omega) (by omega) (by omega)
theorem qV_mono {A : List Hp} {n L0 G0 q q' : Nat} (h : QF A n L0 G0) (hq : q ≤ q') : qV A n L0 G0 q ≤ qV A n L0 G0 q' := by
  obtain ⟨a, b, e1, e2, e3, e4, e5, hg, hc⟩ := h
  exact qN_mono (Nat.mul_le_mul_right _ hq) _ _ _ _ _ hc (by omega) (by omega) (by omega) (by rw [psum_pr]; omega) (Nat.zero_le _)
theorem qV_le {A : List Hp} {n L0 G0 q : Nat} (h : QF A n L0 G0) (hq : q ≤ 1000) : qV A n L0 G0 q ≤ G0 := by
  have h1 := qV_mono h hq
  obtain ⟨a, b, e1, e2, e3, e4, e5, hg, hc⟩ := h
  have h2 : qV A n L0 G0 1000 = G0 := qN_top _ _ _ _ _ hc (by omega) (by omega) (by omega) (by rw [psum_pr]; omega)
  rw [h2] at h1
  exact h1
theorem qAt_le {A : List Hp} {n L0 G0 q q' : Nat} {v : Int32} (h : QF A n L0 G0) (hq : q ≤ q') (hq' : q' ≤ 1000) (hv : qAt A (nI q') ≤ v) : qAt A (nI q) ≤ v := by
  rw [qAt_n h (by omega)]
  rw [qAt_n h hq'] at hv
  have h1 := qV_mono h hq
  have h2 := qV_le h hq'
  have h3 := h.2.1
  exact Int32.le_trans ((nI_leI (by omega) (by omega)).mpr h1) hv
theorem GH_lg {x : Hp} (h : GH x) {L0 G0 : Nat} (hL : L0 ≤ 9999) (hG : G0 ≤ 9999) (h1 : nI L0 ≤ h_l x) (h2 : h_g x ≤ nI G0) : L0 * wN x ≤ sN x ∧ sN x ≤ G0 * wN x := by
  obtain ⟨w, s, l, g, rfl, b1, b2, b3, b4, b5⟩ := h
  have m1 : w * g ≤ 200 * 9999 := Nat.mul_le_mul b2 b5
  have m2 : 1 * l ≤ w * l := Nat.mul_le_mul_right _ b1
  have a1 : L0 ≤ l := (nI_leI (by omega) (by omega)).mp h1
  have a2 : g ≤ G0 := (nI_leI (by omega) (by omega)).mp h2
  have e1 : wN (nI w, nI s, nI l, nI g) = w := nI_clamp (by omega)
  have e2 : sN (nI w, nI s, nI l, nI g) = s := nI_clamp (by omega)
  rw [e1, e2]
  have m3 : w * L0 ≤ w * l := Nat.mul_le_mul_left _ a1
  have m4 : w * g ≤ w * G0 := Nat.mul_le_mul_left _ a2
  rw [Nat.mul_comm L0 w, Nat.mul_comm G0 w]
  omega
theorem QF_of {X : SS} {i : Nat} (hG : GD (X.2.2 i)) (hR : RD (X.2.2 i)) (h0 : 0 < (X.2.2 i).2.2.1.length) : ∃ L0 G0, QF (trL X i) (X.2.2 i).2.2.1.length L0 G0 ∧ (srt (X.2.2 i).2.2.1).getD 0 0 = nI L0 ∧ (srt (X.2.2 i).2.2.1).getD ((X.2.2 i).2.2.1.length - 1) 0 = nI G0 := by
  obtain ⟨g1, g2⟩ := trL_GH hG
  have hP : RD (pkD X.1 (X.2.2 i)) := RD_pk hR
  have hVn := hG.2.2.2
  have d1 := dLeast_srt hP hVn h0
  have d2 := dGreatest_srt hP hVn h0
  obtain ⟨hu, hp⟩ := srt_Up (V := (X.2.2 i).2.2.1)
  obtain ⟨L0, hL, eL⟩ := hVn _ (hp.mem_iff.mp (mem_getD (d := (0 : Int32)) (show 0 < (srt (X.2.2 i).2.2.1).length by rw [srt_len]; exact h0)))
  obtain ⟨G0, hG0, eG⟩ := hVn _ (hp.mem_iff.mp (mem_getD (d := (0 : Int32)) (show (X.2.2 i).2.2.1.length - 1 < (srt (X.2.2 i).2.2.1).length by rw [srt_len]; omega)))
  have c1 : dLeast (trL X i) [] = nI L0 := d1.trans eL
  have c2 : dGreatest (trL X i) [] = nI G0 := d2.trans eG
  have k1 : imin ((trL X i).map h_l) (trL X i).length = nI L0 := by
    unfold dLeast at c1
    split at c1
    · have := nI_toInt (n := L0) (by omega)
      rw [← c1, show (imin [] ([] : List Int32).length).toInt = 2147483647 from by decide +kernel] at this
      omega
    · exact c1
  have k2 : imax ((trL X i).map h_g) (trL X i).length = nI G0 := by
    unfold dGreatest at c2
    split at c2
    · have := nI_toInt (n := G0) (by omega)
      rw [← c2, show (imax [] ([] : List Int32).length).toInt = -2147483648 from by decide +kernel] at this
      omega
    · exact c2
  have hb : ∀ x ∈ trL X i, L0 * wN x ≤ sN x ∧ sN x ≤ G0 * wN x := fun x hx => by
    have m1 := (map_len_min (f := h_l) hx).1
    have m2 := (map_len_min (f := h_g) hx).2
    rw [k1] at m1
    rw [k2] at m2
    exact GH_lg (g1 x hx) hL hG0 m1 m2
  have hle : L0 ≤ G0 * 1 := by
    have h1 := Up_last hu (mem_getD (d := (0 : Int32)) (show 0 < (srt (X.2.2 i).2.2.1).length by rw [srt_len]; exact h0))
    rw [srt_len, eL, eG] at h1
    have := (nI_leI (by omega) (by omega)).mp h1
    omega
  refine ⟨L0, G0, ⟨hL, hG0, k1, k2, g2, h0, hG.1.2.1, g1, Ch_of _ _ _ ?_ g1 (fun x hx => (hb x hx).2) hle (fun x hx => by rw [Nat.mul_one]; exact (hb x hx).1)⟩, eL, eG⟩
  obtain ⟨a, b⟩ := GD_all hG
  exact packL_Mo a (by rw [b]; exact hG.1.2.1)
