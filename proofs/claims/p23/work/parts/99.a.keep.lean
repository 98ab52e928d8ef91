/-! what every state keeps -/
def RX (X : SS) : Prop := ∀ i, i < 3 → RD (X.2.2 i) ∧ DS (X.2.2 i)
def FX (X : SS) : Prop := GX X ∧ RX X
def KX (q : Int32 × SS × List SS) : Prop := FX q.2.1 ∧ ∀ Y ∈ q.2.2, FX Y
theorem RX_setD {X : SS} {i : Nat} {D : Dg} (h : RX X) (hD : i < 3 → RD D ∧ DS D) : RX (setD X i D) := fun j hj => by
  by_cases q : j = i
  · subst q; rw [setD_i]; exact hD hj
  · rw [setD_n q]; exact h j hj
theorem FX_setD {X : SS} {i : Nat} {D : Dg} (h : FX X) (h1 : GD D) (h2 : RD D) (h3 : DS D) : FX (setD X i D) := ⟨GX_setD h.1 h1, RX_setD h.2 (fun _ => ⟨h2, h3⟩)⟩
theorem FX_rec {X : SS} {hh : List SS} (h : FX X) (hH : ∀ Y ∈ hh, FX Y) : ∀ Y ∈ recH hh X, FX Y := fun Y hY => by
  unfold recH at hY
  rcases List.mem_append.mp hY with q | q
  · split at q
    · exact hH Y q
    · exact hH Y (List.mem_of_mem_tail q)
  · rw [List.mem_singleton.mp q]; exact h
theorem Vn_rng {v : Int32} (h : nI 0 ≤ v ∧ v ≤ nI 9999) : Vn v := by
  obtain ⟨n, -, h2, e⟩ := rng_nat (a := 0) (b := 9999) (by omega) (by omega) h
  exact ⟨n, h2, e⟩
theorem KX_0 {X : SS} {hh : List SS} {r : Int32} (h : FX X) (hH : ∀ Y ∈ hh, FX Y) : KX (r, X, hh) := ⟨h, hH⟩
theorem KX_add {X : SS} {hh : List SS} {x v tm : Int32} (h : FX X) (hH : ∀ Y ∈ hh, FX Y) : KX (mAdd X hh x v tm) := by
  unfold mAdd
  split
  · exact KX_0 h hH
  · rename_i c1
    have c1' := Decidable.of_not_not c1
    obtain ⟨i, -, hi, rfl⟩ := rng_nat (a := 0) (b := 2) (by omega) (by omega) c1'
    rw [nI_clamp (by omega)]
    unfold mAdd1
    split
    · exact KX_0 h hH
    · rename_i c2
      split
      · exact KX_0 h hH
      · rename_i c3
        split
        · exact KX_0 h hH
        · rename_i c4
          obtain ⟨n, hn1, hn2, rfl⟩ := rng_nat (a := 1) (b := 20) (by omega) (by omega) (Decidable.of_not_not c3)
          have hl := (h.1.1 i (by omega)).1.2.1
          rw [nI_add] at c4
          have hVn := (nI_leI (by omega) (by omega)).mp (Int32.not_lt.mp c4)
          rw [nI_clamp (by omega)]
          exact ⟨FX_setD h (GD_rcvMN (h.1.1 i (by omega)) h.1.2 (Vn_rng (Decidable.of_not_not c2)) n hVn).1 (RD_rcvMN (h.2 i (by omega)).1 n) (DS_rcvMN (h.2 i (by omega)).2 n), FX_rec h hH⟩
theorem KX_pack {X : SS} {hh : List SS} {x : Int32} (h : FX X) (hH : ∀ Y ∈ hh, FX Y) : KX (mPack X hh x) := by
  unfold mPack
  split
  · exact KX_0 h hH
  · rename_i c1
    obtain ⟨i, -, hi, rfl⟩ := rng_nat (a := 0) (b := 2) (by omega) (by omega) (Decidable.of_not_not c1)
    rw [nI_clamp (by omega)]
    exact ⟨FX_setD h (GD_pk (h.1.1 i (by omega))) (RD_pk (h.2 i (by omega)).1) (DS_pk (h.2 i (by omega)).2), FX_rec h hH⟩
theorem GD_nil {n : Int32} : GD ([], [], [], n) := ⟨⟨Nat.le_refl _, Nat.zero_le _, Nat.zero_le _, (show dW [] [] = nI 0 from by decide +kernel)⟩, fun x hx => (by cases hx), fun x hx => (by cases hx), fun x hx => (by cases hx)⟩
theorem RD_nil {n : Int32} : RD ([], [], [], n) := ⟨fun x hx => (by cases hx), fun x hx => (by cases hx), fun x hx => (by cases hx)⟩
theorem DS_nil {n : Int32} : DS ([], [], [], n) := by
  show lsum [] + lsum [] = lsum []
  decide +kernel
theorem KX_clear {X : SS} {hh : List SS} {x : Int32} (h : FX X) (hH : ∀ Y ∈ hh, FX Y) : KX (mClear X hh x) := by
  unfold mClear
  split
  · exact KX_0 h hH
  · exact ⟨FX_setD h GD_nil RD_nil DS_nil, FX_rec h hH⟩
theorem KX_set {X : SS} {hh : List SS} {w v : Int32} (h : FX X) (hH : ∀ Y ∈ hh, FX Y) : KX (cSet X hh w v) := by
  unfold cSet
  by_cases c1 : ¬ (nI 0 ≤ w ∧ w ≤ nI 1)
  · rw [if_pos c1]; exact KX_0 h hH
  · rw [if_neg c1]
    by_cases c2 : ¬ (nI 1 ≤ v ∧ v ≤ (if w = 0 then nI 60 else nI 20))
    · rw [if_pos c2]; exact KX_0 h hH
    · rw [if_neg c2]
      obtain ⟨i, -, hi, rfl⟩ := rng_nat (a := 0) (b := 1) (by omega) (by omega) (Decidable.of_not_not c1)
      have c3 := (Decidable.of_not_not c2).2
      refine ⟨?_, FX_rec h hH⟩
      rw [nI_clamp (by omega)]
      rcases (show i = 0 ∨ i = 1 by omega) with rfl | rfl
      · exact ⟨⟨h.1.1, h.1.2⟩, h.2⟩
      · rw [if_neg (show ¬ nI 1 = 0 from by decide +kernel)] at c3
        exact ⟨⟨h.1.1, c3⟩, h.2⟩
theorem KX_join {X : SS} {hh : List SS} {x y : Int32} (h : FX X) (hH : ∀ Y ∈ hh, FX Y) : KX (mJoin X hh x y) := by
  unfold mJoin
  split
  · exact KX_0 h hH
  · rename_i c1
    split
    · exact KX_0 h hH
    · rename_i c2
      obtain ⟨i, -, hi, rfl⟩ := rng_nat (a := 0) (b := 2) (by omega) (by omega) (Decidable.of_not_not c1)
      obtain ⟨j, -, hj, rfl⟩ := rng_nat (a := 0) (b := 2) (by omega) (by omega) (Decidable.of_not_not c2)
      rw [nI_clamp (by omega), nI_clamp (by omega)]
      unfold mJoin1
      split
      · exact KX_0 h hH
      · split
        · exact KX_0 h hH
        · rename_i c3 c4
          have a := h.1.1 i (by omega)
          have b := h.1.1 j (by omega)
          have a2 := h.2 i (by omega)
          have b2 := h.2 j (by omega)
          exact ⟨FX_setD (FX_setD h (GD_pk a) (RD_pk a2.1) (DS_pk a2.2)) (GD_toM b a (by omega)) (RD_toM b2.1 a2.1) (DS_toM b2.2 a2.2), FX_rec h hH⟩
theorem RD_rcvP {s0 s1 : Int32} : ∀ (vs : List Int32) (D : Dg), RD D → RD (rcvP s0 s1 D vs)
  | [], _, h => h
  | v :: vs, D, h => RD_rcvP vs (rcvM s0 s1 D v) (RD_rcvM h)
theorem DS_rcvP {s0 s1 : Int32} : ∀ (vs : List Int32) (D : Dg), DS D → DS (rcvP s0 s1 D vs)
  | [], _, h => h
  | v :: vs, D, h => DS_rcvP vs (rcvM s0 s1 D v) (DS_rcvM h)
theorem RX_plM {t : List Int32} : ∀ (n s : Nat) (X : SS), RX X → RX (plM t n s X)
  | 0, _, _, h => h
  | n + 1, s, X, h => by
    rw [plM]
    split
    · exact RX_plM n _ _ (RX_setD h (fun hi => ⟨RD_rcvP _ _ (h _ hi).1, DS_rcvP _ _ (h _ hi).2⟩))
    · exact h
theorem cl8_rcvP {s0 s1 : Int32} : ∀ (vs : List Int32) (D : Dg), rcvL s0 s1 (cl8 D) vs = cl8 (rcvP s0 s1 D vs)
  | [], _ => rfl
  | v :: vs, D => by
    show rcvL s0 s1 (rcvD s0 s1 (cl8 D) v) vs = cl8 (rcvP s0 s1 (rcvM s0 s1 D v) vs)
    rw [cl8_rcv, cl8_rcvP vs]
theorem eq_pl {t : List Int32} : ∀ (n s : Nat) (X : SS), plS t n s (clX X) = clX (plM t n s X)
  | 0, _, _ => rfl
  | n + 1, s, X => by
    rw [plS, plM]
    by_cases q : s < t.length
    · rw [if_pos q, if_pos q, show (clX X).2.2 (rF t s).2.1.toNatClampNeg = cl8 (X.2.2 (rF t s).2.1.toNatClampNeg) from rfl, show (clX X).1 = X.1 from rfl, show (clX X).2.1 = X.2.1 from rfl, cl8_rcvP, clX_setD, eq_pl n]
    · rw [if_neg q, if_neg q]
theorem eq_play {X : SS} {t : List Int32} (h : GX (plM t 60 0 X)) : cPly (clX X) t = vSum (plM t 60 0 X) := by
  have e : ∀ i, dW ((clX (plM t 60 0 X)).2.2 i).1 ((clX (plM t 60 0 X)).2.2 i).2.1 = dW ((plM t 60 0 X).2.2 i).1 ((plM t 60 0 X).2.2 i).2.1 := fun i => rfl
  rw [cPly, eq_pl, e, e, e, (h.1 0 (by omega)).1.2.2.2, (h.1 1 (by omega)).1.2.2.2, (h.1 2 (by omega)).1.2.2.2, nI_add, nI_add]
  rfl
theorem eq_fo {X : SS} {t : List Int32} : faultOf t (clX X) = faultOf t X := rfl
theorem eq_qua {X : SS} {i : Nat} {q : Int32} (hi : i < 3) : cQua (clX X) i q = mQua X (nI i) q := by
  have e : (clX X).2.2 i = cl8 (X.2.2 i) := rfl
  unfold cQua mQua
  rw [whyQ_in hi, e, cl8_V, nI_clamp (show i < 2 ^ 31 by omega), trL_cl]
  by_cases c1 : ¬ (nI 0 ≤ q ∧ q ≤ nI 1000)
  · rw [if_pos c1, if_pos c1, if_pos (by decide)]
  · rw [if_neg c1, if_neg c1]
    obtain ⟨n, -, hn, rfl⟩ := rng_nat (a := 0) (b := 1000) (by omega) (by omega) (Decidable.of_not_not c1)
    by_cases c2 : (X.2.2 i).2.2.1.length = 0
    · rw [if_pos c2, if_pos c2, if_pos (by decide)]
    · rw [if_neg c2, if_neg c2, if_neg (by decide), nI_clamp (by omega)]
theorem eq_wor {X : SS} {i : Nat} {w : Int32} (hi : i < 3) : cWor (clX X) i w = mWor X (nI i) w := by
  have e : (clX X).2.2 i = cl8 (X.2.2 i) := rfl
  have ev : (cl8 (X.2.2 i)).2.2.1 = srt (X.2.2 i).2.2.1 := rfl
  unfold cWor mWor
  rw [whyQ_in hi, e, cl8_V, nI_clamp (show i < 2 ^ 31 by omega), trL_cl, ev]
  by_cases c1 : ¬ (nI 0 ≤ w ∧ w ≤ nI 1)
  · rw [if_pos c1, if_pos c1, if_pos (by decide)]
  · rw [if_neg c1, if_neg c1]
    obtain ⟨n, -, hn, rfl⟩ := rng_nat (a := 0) (b := 1) (by omega) (by omega) (Decidable.of_not_not c1)
    by_cases c2 : (X.2.2 i).2.2.1.length = 0
    · rw [if_pos c2, if_pos c2, if_pos (by decide)]
    · rw [if_neg c2, if_neg c2, if_neg (show ¬ (0 : Int32) < 0 from by decide), nI_clamp (by omega)]
      rcases (show n = 0 ∨ n = 1 by omega) with rfl | rfl
      · rw [if_pos (show nI 0 = 0 from rfl), if_pos (show 0 = 0 from rfl)]
      · rw [if_neg (show ¬ nI 1 = 0 from by decide +kernel), if_neg (show ¬ 1 = 0 from by omega)]
theorem rkc_add : ∀ (c m : Nat), 0 < m → rkc c + nI m = rkc (c + m)
  | 0, m, h => by
    obtain ⟨k, rfl⟩ : ∃ k, m = k + 1 := ⟨m - 1, by omega⟩
    rw [Nat.zero_add]
    show (-1) + nI (k + 1) = nI k
    rw [Int32.add_comm, ← nI_add k 1, Int32.add_assoc, show nI 1 + -1 = (0 : Int32) from by decide +kernel, Int32.add_zero]
  | c + 1, m, _ => by
    rw [show c + 1 + m = (c + m) + 1 by omega]
    exact nI_add c m
theorem rkM_R {A : List Hp} {n L0 G0 : Nat} {v : Int32} (h : QF A n L0 G0) : ∀ m, m ≤ 1001 → ∃ R, R ≤ m ∧ (∀ q, q < m → (qAt A (nI q) ≤ v ↔ q < R)) ∧ rkM A v m = rkc R
  | 0, _ => ⟨0, Nat.le_refl _, fun q hq => absurd hq (Nat.not_lt_zero _), rfl⟩
  | m + 1, hm => by
    by_cases c : qAt A (nI m) ≤ v
    · refine ⟨m + 1, Nat.le_refl _, fun q hq => ⟨fun _ => hq, fun _ => qAt_le h (by omega) (by omega) c⟩, ?_⟩
      rw [rkM, if_pos c]
      rfl
    · obtain ⟨R, h1, h2, h3⟩ := rkM_R h m (by omega)
      refine ⟨R, by omega, fun q hq => ?_, by rw [rkM, if_neg c, h3]⟩
      rcases Nat.lt_or_ge q m with z | z
      · exact h2 q z
      · obtain rfl : q = m := by omega
        exact ⟨fun z2 => absurd z2 c, fun z2 => absurd z2 (by omega)⟩
theorem rkS_R {A : List Hp} {v : Int32} {R : Nat} (hR : R ≤ 1001) (h : ∀ q, q < 1001 → (qAt A (nI q) ≤ v ↔ q < R)) : ∀ (j c : Nat), j ≤ 10 → c ≤ R → R < c + 2 ^ j → rkS A v j (rkc c) = rkc R
  | 0, c, _, h1, h2 => by
    rw [Nat.pow_zero] at h2
    rw [rkS, show c = R by omega]
  | j + 1, c, hj, h1, h2 => by
    have hp := Nat.two_pow_pos j
    have hp2 : 2 ^ j ≤ 2 ^ 10 := Nat.pow_le_pow_right (by omega) (by omega)
    rw [Nat.pow_succ] at h2
    obtain ⟨M, hM⟩ : ∃ M, c + 2 ^ j = M + 1 := ⟨c + 2 ^ j - 1, by omega⟩
    have e : rkc c + nI (2 ^ j) = nI M := by rw [rkc_add _ _ hp, hM]; rfl
    rw [rkS, e]
    by_cases q : nI M ≤ nI 1000 ∧ qAt A (nI M) ≤ v
    · have hM2 := (nI_leI (by omega) (by omega)).mp q.1
      have hMR := (h M (by omega)).mp q.2
      rw [if_pos q]
      show rkS A v j (rkc (M + 1)) = rkc R
      exact rkS_R hR h j (M + 1) (by omega) (by omega) (by omega)
    · rw [if_neg q]
      refine rkS_R hR h j c (by omega) h1 ?_
      rcases Nat.lt_or_ge M R with z | z
      · exact absurd ⟨(nI_leI (by omega) (by omega)).mpr (by omega), (h M (by omega)).mpr z⟩ q
      · omega
theorem eq_ran {X : SS} {i : Nat} {v : Int32} (hi : i < 3) (h : FX X) : cRan (clX X) i v = mRan X (nI i) v := by
  have e : (clX X).2.2 i = cl8 (X.2.2 i) := rfl
  unfold cRan mRan
  rw [whyQ_in hi, e, cl8_V, nI_clamp (show i < 2 ^ 31 by omega), trL_cl]
  by_cases c1 : ¬ (nI 0 ≤ v ∧ v ≤ nI 9999)
  · rw [if_pos c1, if_pos c1, if_pos (by decide)]
  · rw [if_neg c1, if_neg c1]
    obtain ⟨n, -, hn, rfl⟩ := rng_nat (a := 0) (b := 9999) (by omega) (by omega) (Decidable.of_not_not c1)
    by_cases c2 : (X.2.2 i).2.2.1.length = 0
    · rw [if_pos c2, if_pos c2, if_pos (by decide)]
    · rw [if_neg c2, if_neg c2, if_neg (by decide), nI_clamp (by omega)]
      obtain ⟨L0, G0, hQ, -, -⟩ := QF_of (h.1.1 i hi) (h.2 i hi).1 (by omega)
      obtain ⟨R, h1, h2, h3⟩ := rkM_R (v := nI n) hQ 1001 (Nat.le_refl _)
      rw [h3]
      exact rkS_R h1 h2 10 0 (Nat.le_refl _) (Nat.zero_le _) (by omega)
