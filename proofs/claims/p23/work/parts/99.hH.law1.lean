/-! the walk of the law's turns -/
theorem IV_9 {X : SS} {μ u : Me} (h : IV X μ) (ho : Oa 9 μ u) : IV X u := by
  obtain ⟨h1, h2, h3, h4, h5⟩ := h
  exact ⟨h1, fun i hi => (h2 i hi).congr (ho _ (by omega)) (ho _ (by omega)) (ho _ (by omega)) (ho _ (by omega)), h3, by rw [ho 0 (by omega)]; exact h4, by rw [ho 0 (by omega)]; exact h5⟩
theorem jn_1 {σ1 : Me} {a n k : Nat} {f : Nat → Int32} (h : ∀ i, i < k → σ1 a (n + i) = f i) : ∀ i, i < k + 1 → mu σ1 a (n + k) (f k) a (n + i) = f i := fun i hi => by
  by_cases q : i = k
  · rw [q, mu_s]
  · rw [mu_i (by omega)]
    exact h i (by omega)
theorem LD_to {σ2 : Me} {d : Nat} {f : Int32} {E D : Dg} (h1 : HA (σ2 (1 + d)) (packL f ((pkD f D).1 ++ (pkD f E).1))) (h5 : RA (σ2 (5 + d)) (D.2.2.1 ++ E.2.2.1.take E.2.2.1.length)) (n0 : σ2 (7 + d) 0 = nI (packL f ((pkD f D).1 ++ (pkD f E).1)).length) (n1 : σ2 (7 + d) 1 = nI 0) (n2 : σ2 (7 + d) 2 = nI (D.2.2.1.length + E.2.2.1.length)) (n3 : σ2 (7 + d) 3 = D.2.2.2 + nI 1 + nI 1) : LD σ2 d (toM f E D E.2.2.1.length) := by
  refine ⟨h1, fun i hi => absurd hi (Nat.not_lt_zero _), h5, n0, n1, ?_, n3⟩
  rw [n2]
  show _ = nI (D.2.2.1 ++ E.2.2.1.take E.2.2.1.length).length
  rw [List.take_length, List.length_append]
theorem BD_of {X : SS} (c0 : (X.2.2 0).1.length + (X.2.2 0).2.1.length ≤ 13) (c1 : (X.2.2 1).1.length + (X.2.2 1).2.1.length ≤ 13) (c2 : (X.2.2 0).2.2.1.length + (X.2.2 1).2.2.1.length ≤ 34) : BD X := fun i hi => by
  rcases (show i = 0 ∨ i = 1 by omega) with rfl | rfl
  · omega
  · omega
set_option maxHeartbeats 8000000 in
set_option maxRecDepth 100000 in
theorem lw_tail {p : Program} {l : Launch} {e : Env} {s U : State} {m : MethodId} {below : List Frame} {meth : Method} {c : Code} {b : Nat} {Lc L : Lay} {ls : Array Slot} {X : SS} {hh : List SS} {σ : Me} {H : Heap} {locs : List Loc} {tn : Nat} {v13 : Int32} (S : CallFix p m c cL_law 24 U #[Value.ref b] qA RL) (hV : VA (fun q => U.heap.size ≤ q) Lc L) (hK : Kn9 Lc L U) (h : HdA (fun q => U.heap.size ≤ q) Lc L X hh U.heap H σ locs) (hI : IV X σ) (hB : BD X) (hl : lv_has ls 24 [(13, .int v13), (12, .int (nI tn)), (11, .ref (ad L 9)), (10, .ref (ad L 8)), (9, .ref (ad L 7)), (8, .ref (ad L 6)), (7, .ref (ad L 5)), (6, .ref (ad L 4)), (5, .ref (ad L 3)), (4, .ref (ad L 2)), (3, .ref (ad L 1)), (2, .ref (ad L 0)), (1, .ref (ad Lc 244)), (0, .ref b)]) (K : ∀ (X2 : SS) (hh2 : List SS) (σ2 : Me) (H : Heap) (locs : List Loc) (ls : Array Slot), HdA (fun q => U.heap.size ≤ q) Lc L X2 hh2 U.heap H σ2 locs → IV X2 σ2 → lv_has ls 24 [(12, .int (nI (tn + 1))), (11, .ref (ad L 9)), (10, .ref (ad L 8)), (9, .ref (ad L 7)), (8, .ref (ad L 6)), (7, .ref (ad L 5)), (6, .ref (ad L 4)), (5, .ref (ad L 3)), (4, .ref (ad L 2)), (3, .ref (ad L 1)), (2, .ref (ad L 0)), (1, .ref (ad Lc 244)), (0, .ref b)] → W p l e room_1 U m #[Value.ref b] below meth c H locs 600000 7302250 (lw_Z below #[Value.ref b] s) (F0 m 75 ls [])) : W p l e room_1 U m #[Value.ref b] below meth c H locs 600000 7302250 (lw_Z below #[Value.ref b] s) (F0 m 639 ls []) := by
  have hx := S.1
  have hb := S.2.1
  refine lv_aload_n hx hb dL_law_639 rfl (lv_at hl 12 rfl) ?_
  refine lv_iconst (v := (nI 0)) hx hb dL_law_640 (by decide) ?_
  refine lv_iload hx hb dL_law_641 (lv_at hl 0 rfl) ?_
  refine lv_iconst (v := (nI 2)) hx hb dL_law_643 (by decide) ?_
  refine lv_ishr hx hb dL_law_644 ?_
  refine lv_aload_n hx hb dL_law_645 rfl (lv_at hl 10 rfl) ?_
  refine lv_aload hx hb dL_law_646 (lv_at hl 8 rfl) ?_
  refine lv_aload hx hb dL_law_648 (lv_at hl 6 rfl) ?_
  refine lv_aload hx hb dL_law_650 (lv_at hl 4 rfl) ?_
  refine lv_aload_n hx hb dL_law_652 rfl (lv_at hl 11 rfl) ?_
  refine lv_aload hx hb dL_law_653 (lv_at hl 2 rfl) ?_
  refine k_SR S hV hK h [.ref (ad Lc 244), .int (nI 0), .int (v13 >>> ((nI 2) &&& 31)), .ref (ad L 1), .ref (ad L 3), .ref (ad L 5), .ref (ad L 7), .ref (ad L 0), .ref (ad L 9)] (c_L_same l Lc L X hh σ hI.1 (d := 0) (by omega) (hI.2.1 0 (by omega)) hI.2.2.2.1 (hB 0 (by omega)).1 (hB 0 (by omega)).2 (v13 >>> ((nI 2) &&& 31))) q_408 q_409 q_0 q_410 yd_L_same rfl ⟨⟨rfl, rfl⟩, ⟨(Nat.le_of_ble_eq_true rfl), (Nat.le_of_ble_eq_true rfl)⟩, (Nat.le_of_ble_eq_true rfl), (Nat.le_of_ble_eq_true rfl)⟩ rfl (Nat.le_of_ble_eq_true rfl) hl.1 dL_law_655 (fun σ8 H locs hp9 h => ?_)
  have hO8 : Oa 9 σ σ8 := hp9
  refine b_if_eq (tgt := 684) hx hb dL_law_658 (by decide) (by decide) (fun c9 => absurd c9 (by decide)) (fun _ => ?_)
  refine lv_aload_n hx hb dL_law_661 rfl (lv_at hl 12 rfl) ?_
  refine lv_iconst (v := (nI 1)) hx hb dL_law_662 (by decide) ?_
  refine lv_iload hx hb dL_law_663 (lv_at hl 0 rfl) ?_
  refine lv_iconst (v := (nI 3)) hx hb dL_law_665 (by decide) ?_
  refine lv_ishr hx hb dL_law_666 ?_
  refine lv_aload hx hb dL_law_667 (lv_at hl 9 rfl) ?_
  refine lv_aload hx hb dL_law_669 (lv_at hl 7 rfl) ?_
  refine lv_aload hx hb dL_law_671 (lv_at hl 5 rfl) ?_
  refine lv_aload hx hb dL_law_673 (lv_at hl 3 rfl) ?_
  refine lv_aload_n hx hb dL_law_675 rfl (lv_at hl 11 rfl) ?_
  refine lv_aload hx hb dL_law_676 (lv_at hl 2 rfl) ?_
  refine k_SR S hV hK h [.ref (ad Lc 244), .int (nI 1), .int (v13 >>> ((nI 3) &&& 31)), .ref (ad L 2), .ref (ad L 4), .ref (ad L 6), .ref (ad L 8), .ref (ad L 0), .ref (ad L 9)] (c_L_same l Lc L X hh σ8 hI.1 (d := 1) (by omega) ((hI.2.1 1 (by omega)).congr (hO8 _ (by omega)) (hO8 _ (by omega)) (hO8 _ (by omega)) (hO8 _ (by omega))) (by rw [hO8 _ (by omega)]; exact hI.2.2.2.1) (hB 1 (by omega)).1 (hB 1 (by omega)).2 (v13 >>> ((nI 3) &&& 31))) q_408 q_409 q_0 q_410 yd_L_same rfl ⟨⟨rfl, rfl⟩, ⟨(Nat.le_of_ble_eq_true rfl), (Nat.le_of_ble_eq_true rfl)⟩, (Nat.le_of_ble_eq_true rfl), (Nat.le_of_ble_eq_true rfl)⟩ rfl (Nat.le_of_ble_eq_true rfl) hl.1 dL_law_678 (fun σ9 H locs hp9 h => ?_)
  have hO9 : Oa 9 σ σ9 := hO8.tr hp9
  have hJ := IV_9 hI hO9
  refine b_if_ne (tgt := 686) hx hb dL_law_681 (by decide) (by decide) (fun _ => ?_) (fun c9 => absurd c9 (by decide))
  refine lv_aload_n hx hb dL_law_686 rfl (lv_at hl 12 rfl) ?_
  refine lv_iconst (v := (nI 0)) hx hb dL_law_687 (by decide) ?_
  refine k_C (v := (nI ((X.2.2 0).2.2.1.length + (X.2.2 1).2.2.1.length))) (X' := X) (hh' := hh) S hV hK h [.int (nI 0)] (t_cnt0 hI.1 hI.2.2.1.2) q_365 q_366 q_367 q_1 q_368 yd_X7_count rfl ⟨⟨rfl, rfl⟩, ⟨(Nat.le_of_ble_eq_true rfl), (Nat.le_of_ble_eq_true rfl)⟩, (Nat.le_of_ble_eq_true rfl), (Nat.le_of_ble_eq_true rfl)⟩ rfl (Nat.le_of_ble_eq_true rfl) hl.1 dL_law_688 (fun H locs h => ?_)
  refine lv_aload hx hb dL_law_691 (lv_at hl 4 rfl) ?_
  refine lv_iconst (v := (nI 2)) hx hb dL_law_693 (by decide) ?_
  refine g9_el (n := 4) S hK h (by decide) rfl (by omega) dL_law_694 ?_
  refine cv_i (show (σ9 7 2 : Int32) = nI ((X.2.2 0).2.2.1.length) from (hJ.2.1 0 (by omega)).2.2.2.2.2.1) ?_
  refine lv_aload hx hb dL_law_695 (lv_at hl 3 rfl) ?_
  refine lv_iconst (v := (nI 2)) hx hb dL_law_697 (by decide) ?_
  refine g9_el (n := 4) S hK h (by decide) rfl (by omega) dL_law_698 ?_
  refine cv_i (show (σ9 8 2 : Int32) = nI ((X.2.2 1).2.2.1.length) from (hJ.2.1 1 (by omega)).2.2.2.2.2.1) ?_
  refine a_iadd hx hb dL_law_699 ?_
  refine lv_icmp_ne (tgt := 744) hx hb dL_law_700 (by decide) (fun c_700 => absurd c_700 (fun z => z rfl)) (fun c_700 => ?_)
  refine lv_aload_n hx hb dL_law_703 rfl (lv_at hl 12 rfl) ?_
  refine lv_iconst (v := (nI 1)) hx hb dL_law_704 (by decide) ?_
  refine k_C (v := (nI ((X.2.2 0).1.length + (X.2.2 1).1.length))) (X' := X) (hh' := hh) S hV hK h [.int (nI 1)] (t_cnt1 hI.1 hI.2.2.1.1) q_365 q_366 q_367 q_1 q_368 yd_X7_count rfl ⟨⟨rfl, rfl⟩, ⟨(Nat.le_of_ble_eq_true rfl), (Nat.le_of_ble_eq_true rfl)⟩, (Nat.le_of_ble_eq_true rfl), (Nat.le_of_ble_eq_true rfl)⟩ rfl (Nat.le_of_ble_eq_true rfl) hl.1 dL_law_705 (fun H locs h => ?_)
  refine lv_aload hx hb dL_law_708 (lv_at hl 4 rfl) ?_
  refine lv_iconst (v := (nI 0)) hx hb dL_law_710 (by decide) ?_
  refine g9_el (n := 4) S hK h (by decide) rfl (by omega) dL_law_711 ?_
  refine cv_i (show (σ9 7 0 : Int32) = nI ((X.2.2 0).1.length) from (hJ.2.1 0 (by omega)).2.2.2.1) ?_
  refine lv_aload hx hb dL_law_712 (lv_at hl 3 rfl) ?_
  refine lv_iconst (v := (nI 0)) hx hb dL_law_714 (by decide) ?_
  refine g9_el (n := 4) S hK h (by decide) rfl (by omega) dL_law_715 ?_
  refine cv_i (show (σ9 8 0 : Int32) = nI ((X.2.2 1).1.length) from (hJ.2.1 1 (by omega)).2.2.2.1) ?_
  refine a_iadd hx hb dL_law_716 ?_
  refine lv_icmp_ne (tgt := 744) hx hb dL_law_717 (by decide) (fun c_717 => absurd c_717 (fun z => z rfl)) (fun c_717 => ?_)
  refine lv_aload_n hx hb dL_law_720 rfl (lv_at hl 12 rfl) ?_
  refine lv_bipush (v := (nI 20)) hx hb dL_law_721 (by decide) ?_
  refine k_C (v := X.1) (X' := X) (hh' := hh) S hV hK h [.int (nI 20)] (t_cnt20 hI.1) q_365 q_366 q_367 q_1 q_368 yd_X7_count rfl ⟨⟨rfl, rfl⟩, ⟨(Nat.le_of_ble_eq_true rfl), (Nat.le_of_ble_eq_true rfl)⟩, (Nat.le_of_ble_eq_true rfl), (Nat.le_of_ble_eq_true rfl)⟩ rfl (Nat.le_of_ble_eq_true rfl) hl.1 dL_law_723 (fun H locs h => ?_)
  refine lv_aload_n hx hb dL_law_726 rfl (lv_at hl 11 rfl) ?_
  refine lv_iconst (v := (nI 0)) hx hb dL_law_727 (by decide) ?_
  refine g9_el (n := 2) S hK h (by decide) rfl (by omega) dL_law_728 ?_
  refine cv_i (show (σ9 0 0 : Int32) = X.1 from hJ.2.2.2.1) ?_
  refine lv_icmp_ne (tgt := 744) hx hb dL_law_729 (by decide) (fun c_729 => absurd c_729 (fun z => z rfl)) (fun c_729 => ?_)
  refine lv_aload_n hx hb dL_law_732 rfl (lv_at hl 12 rfl) ?_
  refine lv_bipush (v := (nI 21)) hx hb dL_law_733 (by decide) ?_
  refine k_C (v := X.2.1) (X' := X) (hh' := hh) S hV hK h [.int (nI 21)] (t_cnt21 hI.1) q_365 q_366 q_367 q_1 q_368 yd_X7_count rfl ⟨⟨rfl, rfl⟩, ⟨(Nat.le_of_ble_eq_true rfl), (Nat.le_of_ble_eq_true rfl)⟩, (Nat.le_of_ble_eq_true rfl), (Nat.le_of_ble_eq_true rfl)⟩ rfl (Nat.le_of_ble_eq_true rfl) hl.1 dL_law_735 (fun H locs h => ?_)
  refine lv_aload_n hx hb dL_law_738 rfl (lv_at hl 11 rfl) ?_
  refine lv_iconst (v := (nI 1)) hx hb dL_law_739 (by decide) ?_
  refine g9_el (n := 2) S hK h (by decide) rfl (by omega) dL_law_740 ?_
  refine cv_i (show (σ9 0 1 : Int32) = X.2.1 from hJ.2.2.2.2) ?_
  refine lv_icmp_eq (tgt := 746) hx hb dL_law_741 (by decide) (fun c_741 => ?_) (fun c_741 => absurd c_741 (fun z => z rfl))
  refine lv_iinc (v := (nI (tn + 1))) (lv' := [(12, .int (nI (tn + 1))), (13, .int v13), (11, .ref (ad L 9)), (10, .ref (ad L 8)), (9, .ref (ad L 7)), (8, .ref (ad L 6)), (7, .ref (ad L 5)), (6, .ref (ad L 4)), (5, .ref (ad L 3)), (4, .ref (ad L 2)), (3, .ref (ad L 1)), (2, .ref (ad L 0)), (1, .ref (ad Lc 244)), (0, .ref b)]) hx hb dL_law_746 hl (k := 1) rfl (iinc_1 _) (by decide) rfl (fun ls hl => ?_)
  refine lv_goto (tgt := 75) hx hb dL_law_749 (by decide) ?_
  exact K X hh _ _ _ _ h hJ (lv_sub hl [0, 2, 3, 4, 5, 6, 7, 8, 9, 10, 11, 12, 13] rfl)