set_option maxHeartbeats 8000000 in
set_option maxRecDepth 100000 in
theorem lw_join_0 {p : Program} {l : Launch} {e : Env} {s U : State} {m : MethodId} {below : List Frame} {meth : Method} {c : Code} {b : Nat} {Lc L : Lay} {ls : Array Slot} {X : SS} {hh : List SS} {σ : Me} {H : Heap} {locs : List Loc} {tn : Nat} {v13 : Int32} (S : CallFix p m c cL_law 24 U #[Value.ref b] qA RL) (hV : VA (fun q => U.heap.size ≤ q) Lc L) (hK : Kn9 Lc L U) (h : HdA (fun q => U.heap.size ≤ q) Lc L X hh U.heap H σ locs) (hI : IV X σ) (hB : BD X) (c0 : (X.2.2 0).1.length + (X.2.2 0).2.1.length ≤ 13) (c1 : (X.2.2 1).1.length + (X.2.2 1).2.1.length ≤ 13) (c2 : (X.2.2 0).2.2.1.length + (X.2.2 1).2.2.1.length ≤ 34) (hl : lv_has ls 24 [(13, .int v13), (12, .int (nI tn)), (11, .ref (ad L 9)), (10, .ref (ad L 8)), (9, .ref (ad L 7)), (8, .ref (ad L 6)), (7, .ref (ad L 5)), (6, .ref (ad L 4)), (5, .ref (ad L 3)), (4, .ref (ad L 2)), (3, .ref (ad L 1)), (2, .ref (ad L 0)), (1, .ref (ad Lc 244)), (0, .ref b), (15, .int (nI 0)), (16, .ref (ad L 1)), (17, .ref (ad L 3)), (18, .ref (ad L 5)), (19, .ref (ad L 7))]) (T : ∀ (X2 : SS) (hh2 : List SS) (σ2 : Me) (H : Heap) (locs : List Loc) (ls : Array Slot), HdA (fun q => U.heap.size ≤ q) Lc L X2 hh2 U.heap H σ2 locs → IV X2 σ2 → BD X2 → lv_has ls 24 [(13, .int v13), (12, .int (nI tn)), (11, .ref (ad L 9)), (10, .ref (ad L 8)), (9, .ref (ad L 7)), (8, .ref (ad L 6)), (7, .ref (ad L 5)), (6, .ref (ad L 4)), (5, .ref (ad L 3)), (4, .ref (ad L 2)), (3, .ref (ad L 1)), (2, .ref (ad L 0)), (1, .ref (ad Lc 244)), (0, .ref b)] → W p l e room_1 U m #[Value.ref b] below meth c H locs 600000 7302250 (lw_Z below #[Value.ref b] s) (F0 m 639 ls [])) (E : ∀ (H : Heap) (locs : List Loc) (ls : Array Slot), va_S (fun q => U.heap.size ≤ q) U.heap H locs → W p l e room_1 U m #[Value.ref b] below meth c H locs 600000 7302250 (lw_Z below #[Value.ref b] s) (F0 m 752 ls [])) : W p l e room_1 U m #[Value.ref b] below meth c H locs 600000 7302250 (lw_Z below #[Value.ref b] s) (F0 m 442 ls []) := by
  have hx := S.1
  have hb := S.2.1
  have hF := hI.1
  have e00 := hI.2.2.2.1
  refine lv_aload_n hx hb dL_law_442 rfl (lv_at hl 10 rfl) ?_
  refine lv_aload hx hb dL_law_443 (lv_at hl 8 rfl) ?_
  refine lv_aload hx hb dL_law_445 (lv_at hl 4 rfl) ?_
  refine lv_aload_n hx hb dL_law_447 rfl (lv_at hl 11 rfl) ?_
  refine k_SR S hV hK h [.ref (ad L 1), .ref (ad L 3), .ref (ad L 7), .ref (ad L 0)] (c_L_pack l Lc L X hh σ (d := 0) (by omega) (hI.2.1 0 (by omega)) (hF.1.1 0 (by omega)) (by omega)) q_402 q_403 q_0 q_404 yd_L_pack rfl ⟨⟨rfl, rfl⟩, ⟨(Nat.le_of_ble_eq_true rfl), (Nat.le_of_ble_eq_true rfl)⟩, (Nat.le_of_ble_eq_true rfl), (Nat.le_of_ble_eq_true rfl)⟩ rfl (Nat.le_of_ble_eq_true rfl) hl.1 dL_law_448 (fun σa H locs hp9 h => ?_)
  obtain ⟨hDa, hoa⟩ := hp9
  rw [e00] at hDa
  have hDa1 : LD σa 1 (X.2.2 1) := (hI.2.1 1 (by omega)).congr (hoa _ (by omega) (by omega)) (hoa _ (by omega) (by omega)) (hoa _ (by omega) (by omega)) (hoa _ (by omega) (by omega))
  refine lv_aload hx hb dL_law_451 (lv_at hl 9 rfl) ?_
  refine lv_aload hx hb dL_law_453 (lv_at hl 7 rfl) ?_
  refine lv_aload hx hb dL_law_455 (lv_at hl 3 rfl) ?_
  refine lv_aload_n hx hb dL_law_457 rfl (lv_at hl 11 rfl) ?_
  refine k_SR S hV hK h [.ref (ad L 2), .ref (ad L 4), .ref (ad L 8), .ref (ad L 0)] (c_L_pack l Lc L X hh σa (d := 1) (by omega) hDa1 (hF.1.1 1 (by omega)) (by omega)) q_402 q_403 q_0 q_404 yd_L_pack rfl ⟨⟨rfl, rfl⟩, ⟨(Nat.le_of_ble_eq_true rfl), (Nat.le_of_ble_eq_true rfl)⟩, (Nat.le_of_ble_eq_true rfl), (Nat.le_of_ble_eq_true rfl)⟩ rfl (Nat.le_of_ble_eq_true rfl) hl.1 dL_law_458 (fun σb H locs hp9 h => ?_)
  obtain ⟨hDb, hob⟩ := hp9
  rw [hoa 0 (by omega) (by omega), e00] at hDb
  have hDb0 : LD σb 0 (pkD X.1 (X.2.2 0)) := hDa.congr (hob _ (by omega) (by omega)) (hob _ (by omega) (by omega)) (hob _ (by omega) (by omega)) (hob _ (by omega) (by omega))
  have hb0 : σb 0 = σ 0 := (hob 0 (by omega) (by omega)).trans (hoa 0 (by omega) (by omega))
  have hDd : LD σb 0 (pkD X.1 (X.2.2 0)) := hDb0
  have hDe : LD σb 1 (pkD X.1 (X.2.2 1)) := hDb
  refine lv_aload hx hb dL_law_461 (lv_at hl 4 rfl) ?_
  refine lv_iconst (v := (nI 0)) hx hb dL_law_463 (by decide) ?_
  refine g9_el (n := 4) S hK h (by decide) rfl (by omega) dL_law_464 ?_
  refine cv_i (show (σb 7 0 : Int32) = nI ((pkD X.1 (X.2.2 0)).1.length) from hDb0.2.2.2.1) ?_
  refine lv_aload hx hb dL_law_465 (lv_at hl 3 rfl) ?_
  refine lv_iconst (v := (nI 0)) hx hb dL_law_467 (by decide) ?_
  refine g9_el (n := 4) S hK h (by decide) rfl (by omega) dL_law_468 ?_
  refine cv_i (show (σb 8 0 : Int32) = nI ((pkD X.1 (X.2.2 1)).1.length) from hDb.2.2.2.1) ?_
  refine a_iadd hx hb dL_law_469 ?_
  have k0 := pkD_len (f := X.1) (D := X.2.2 0)
  have k1 := pkD_len (f := X.1) (D := X.2.2 1)
  refine lv_bipush (v := (nI 16)) hx hb dL_law_470 (by decide) ?_
  refine b_icmp_le (tgt := 478) hx hb dL_law_472 (by decide) (by omega) (by omega) (fun c_472 => ?_) (fun c_472 => ?_)
  · obtain ⟨gU, sU, lU⟩ := to_GH (f := X.1) (hF.1.1 0 (by omega)) (hF.1.1 1 (by omega)) (by omega)
    refine lv_iload hx hb dL_law_478 (lv_at hl 14 rfl) ?_
    refine b_if_ne (tgt := 488) hx hb dL_law_480 (by decide) (by decide) (fun c9 => absurd c9 (by decide)) (fun _ => ?_)
    refine lv_aload hx hb dL_law_483 (lv_at hl 9 rfl) ?_
    refine lv_goto (tgt := 489) hx hb dL_law_485 (by decide) ?_
    refine lv_astore (lv' := [(20, .ref (ad L 2)), (13, .int v13), (12, .int (nI tn)), (11, .ref (ad L 9)), (10, .ref (ad L 8)), (9, .ref (ad L 7)), (8, .ref (ad L 6)), (7, .ref (ad L 5)), (6, .ref (ad L 4)), (5, .ref (ad L 3)), (4, .ref (ad L 2)), (3, .ref (ad L 1)), (2, .ref (ad L 0)), (1, .ref (ad Lc 244)), (0, .ref b), (15, .int (nI 0)), (16, .ref (ad L 1)), (17, .ref (ad L 3)), (18, .ref (ad L 5)), (19, .ref (ad L 7))]) hx hb dL_law_489 hl (by decide) rfl (fun ls hl => ?_)
    refine lv_iload hx hb dL_law_491 (lv_at hl 15 rfl) ?_
    refine b_if_ne (tgt := 501) hx hb dL_law_493 (by decide) (by decide) (fun c9 => absurd c9 (by decide)) (fun _ => ?_)
    refine lv_aload hx hb dL_law_496 (lv_at hl 4 rfl) ?_
    refine lv_goto (tgt := 503) hx hb dL_law_498 (by decide) ?_
    refine lv_astore (lv' := [(21, .ref (ad L 8)), (20, .ref (ad L 2)), (13, .int v13), (12, .int (nI tn)), (11, .ref (ad L 9)), (10, .ref (ad L 8)), (9, .ref (ad L 7)), (8, .ref (ad L 6)), (7, .ref (ad L 5)), (6, .ref (ad L 4)), (5, .ref (ad L 3)), (4, .ref (ad L 2)), (3, .ref (ad L 1)), (2, .ref (ad L 0)), (1, .ref (ad Lc 244)), (0, .ref b), (15, .int (nI 0)), (16, .ref (ad L 1)), (17, .ref (ad L 3)), (18, .ref (ad L 5)), (19, .ref (ad L 7))]) hx hb dL_law_503 hl (by decide) rfl (fun ls hl => ?_)
    refine lv_iload hx hb dL_law_505 (lv_at hl 16 rfl) ?_
    refine b_if_ne (tgt := 515) hx hb dL_law_507 (by decide) (by decide) (fun c9 => absurd c9 (by decide)) (fun _ => ?_)
    refine lv_aload hx hb dL_law_510 (lv_at hl 7 rfl) ?_
    refine lv_goto (tgt := 517) hx hb dL_law_512 (by decide) ?_
    refine lv_astore (lv' := [(22, .ref (ad L 6)), (21, .ref (ad L 8)), (20, .ref (ad L 2)), (13, .int v13), (12, .int (nI tn)), (11, .ref (ad L 9)), (10, .ref (ad L 8)), (9, .ref (ad L 7)), (8, .ref (ad L 6)), (7, .ref (ad L 5)), (6, .ref (ad L 4)), (5, .ref (ad L 3)), (4, .ref (ad L 2)), (3, .ref (ad L 1)), (2, .ref (ad L 0)), (1, .ref (ad Lc 244)), (0, .ref b), (15, .int (nI 0)), (16, .ref (ad L 1)), (17, .ref (ad L 3)), (18, .ref (ad L 5)), (19, .ref (ad L 7))]) hx hb dL_law_517 hl (by decide) rfl (fun ls hl => ?_)
    refine lv_iconst (v := (nI 0)) hx hb dL_law_519 (by decide) ?_
    refine lv_istore (lv' := [(23, .int (nI 0)), (22, .ref (ad L 6)), (21, .ref (ad L 8)), (20, .ref (ad L 2)), (13, .int v13), (12, .int (nI tn)), (11, .ref (ad L 9)), (10, .ref (ad L 8)), (9, .ref (ad L 7)), (8, .ref (ad L 6)), (7, .ref (ad L 5)), (6, .ref (ad L 4)), (5, .ref (ad L 3)), (4, .ref (ad L 2)), (3, .ref (ad L 1)), (2, .ref (ad L 0)), (1, .ref (ad Lc 244)), (0, .ref b), (15, .int (nI 0)), (16, .ref (ad L 1)), (17, .ref (ad L 3)), (18, .ref (ad L 5)), (19, .ref (ad L 7))]) hx hb dL_law_520 hl (by decide) rfl (fun ls hl => ?_)
    have LP_522 : ∀ (n_522 : Nat) (k : Nat) (σ1 : Me), (k ≤ 4 * (pkD X.1 (X.2.2 1)).1.length) → (∀ i, i < k → σ1 1 (4 * (pkD X.1 (X.2.2 0)).1.length + i) = σb 2 i) → (∀ i, i < 4 * (pkD X.1 (X.2.2 0)).1.length → σ1 1 i = σb 1 i) → (Oa 1 σb σ1) → 4 * (pkD X.1 (X.2.2 1)).1.length - k < n_522 → ∀ (H : Heap) (locs : List Loc) (ls : Array Slot), HdA (fun q => U.heap.size ≤ q) Lc L X hh U.heap H σ1 locs → lv_has ls 24 [(13, .int v13), (12, .int (nI tn)), (11, .ref (ad L 9)), (10, .ref (ad L 8)), (9, .ref (ad L 7)), (8, .ref (ad L 6)), (7, .ref (ad L 5)), (6, .ref (ad L 4)), (5, .ref (ad L 3)), (4, .ref (ad L 2)), (3, .ref (ad L 1)), (2, .ref (ad L 0)), (1, .ref (ad Lc 244)), (0, .ref b), (15, .int (nI 0)), (16, .ref (ad L 1)), (18, .ref (ad L 5)), (19, .ref (ad L 7)), (20, .ref (ad L 2)), (21, .ref (ad L 8)), (22, .ref (ad L 6)), (23, .int (nI k))] → W p l e room_1 U m #[Value.ref b] below meth c H locs 600000 7302250 (lw_Z below #[Value.ref b] s) (F0 m 522 ls []) := by
      intro n_522
      induction n_522 with
      | zero => intro k σ1; intros; omega
      | succ n_522 ih_522 =>
        intro k σ1 hk hcp9 hlo hO1 hm_522 H locs ls h hl
        refine lv_iload hx hb dL_law_522 (lv_at hl 21 rfl) ?_
        refine lv_iconst (v := (nI 4)) hx hb dL_law_524 (by decide) ?_
        refine lv_aload hx hb dL_law_525 (lv_at hl 19 rfl) ?_
        refine lv_iconst (v := (nI 0)) hx hb dL_law_527 (by decide) ?_
        refine g9_el (n := 4) S hK h (by decide) rfl (by omega) dL_law_528 ?_
        refine cv_i (show (σ1 8 0 : Int32) = nI ((pkD X.1 (X.2.2 1)).1.length) from (by rw [hO1 _ (by omega)]; exact hDe.2.2.2.1)) ?_
        refine a_imul hx hb dL_law_529 ?_
        refine b_icmp_ge (tgt := 556) hx hb dL_law_530 (by decide) (by omega) (by omega) (fun c_530 => ?_) (fun c_530 => ?_)
        · have hJ9 : HA (σ1 1) ((pkD X.1 (X.2.2 0)).1 ++ (pkD X.1 (X.2.2 1)).1) := HA_jn hDd.1 hDe.1 hlo (fun i hi => hcp9 i (by omega))
          refine lv_aload hx hb dL_law_556 (lv_at hl 17 rfl) ?_
          refine lv_iconst (v := (nI 0)) hx hb dL_law_558 (by decide) ?_
          refine lv_aload hx hb dL_law_559 (lv_at hl 15 rfl) ?_
          refine lv_aload hx hb dL_law_561 (lv_at hl 17 rfl) ?_
          refine lv_iconst (v := (nI 0)) hx hb dL_law_563 (by decide) ?_
          refine g9_el (n := 4) S hK h (by decide) rfl (by omega) dL_law_564 ?_
          refine cv_i (show (σ1 7 0 : Int32) = nI ((pkD X.1 (X.2.2 0)).1.length) from (by rw [hO1 _ (by omega)]; exact hDd.2.2.2.1)) ?_
          refine lv_aload hx hb dL_law_565 (lv_at hl 19 rfl) ?_
          refine lv_iconst (v := (nI 0)) hx hb dL_law_567 (by decide) ?_
          refine g9_el (n := 4) S hK h (by decide) rfl (by omega) dL_law_568 ?_
          refine cv_i (show (σ1 8 0 : Int32) = nI ((pkD X.1 (X.2.2 1)).1.length) from (by rw [hO1 _ (by omega)]; exact hDe.2.2.2.1)) ?_
          refine a_iadd hx hb dL_law_569 ?_
          refine cv_i (show (nI ((pkD X.1 (X.2.2 0)).1.length + ((pkD X.1 (X.2.2 1)).1.length)) : Int32) = nI (((pkD X.1 (X.2.2 0)).1 ++ (pkD X.1 (X.2.2 1)).1).length) from (by rw [List.length_append])) ?_
          refine lv_aload_n hx hb dL_law_570 rfl (lv_at hl 11 rfl) ?_
          refine lv_iconst (v := (nI 0)) hx hb dL_law_571 (by decide) ?_
          refine g9_el (n := 2) S hK h (by decide) rfl (by omega) dL_law_572 ?_
          refine cv_i (show (σ1 0 0 : Int32) = X.1 from (by rw [hO1 _ (by omega), hb0]; exact e00)) ?_
          refine k_SR S hV hK h [.ref (ad L 1), .int (nI (((pkD X.1 (X.2.2 0)).1 ++ (pkD X.1 (X.2.2 1)).1).length)), .int X.1] (c_L_packed l Lc L X hh σ1 (a := 1) (by decide) rfl (A := ((pkD X.1 (X.2.2 0)).1 ++ (pkD X.1 (X.2.2 1)).1)) hJ9 gU (by rw [List.length_append]; omega) X.1) q_393 q_394 q_0 q_395 yd_L_packed rfl ⟨⟨rfl, rfl⟩, ⟨(Nat.le_of_ble_eq_true rfl), (Nat.le_of_ble_eq_true rfl)⟩, (Nat.le_of_ble_eq_true rfl), (Nat.le_of_ble_eq_true rfl)⟩ rfl (Nat.le_of_ble_eq_true rfl) hl.1 dL_law_573 (fun σ8 H locs hp9 h => ?_)
          obtain ⟨hO8, hH8⟩ := hp9
          refine p9_el (n := 4) S hV hK h (by decide) rfl (by omega) dL_law_576 (fun H locs h => ?_)
          refine lv_aload hx hb dL_law_577 (lv_at hl 17 rfl) ?_
          refine lv_iconst (v := (nI 3)) hx hb dL_law_579 (by decide) ?_
          refine lv_dup2_11 hx hb dL_law_580 rfl rfl ?_
          refine g9_el (n := 4) S hK h (by decide) rfl (by omega) dL_law_581 ?_
          refine cv_i (show ((mu σ8 7 0 (nI ((packL X.1 ((pkD X.1 (X.2.2 0)).1 ++ (pkD X.1 (X.2.2 1)).1)).length))) 7 3 : Int32) = (pkD X.1 (X.2.2 0)).2.2.2 from (by rw [mu_i (by omega), hO8 _ (by omega), hO1 _ (by omega)]; exact hDd.2.2.2.2.2.2)) ?_
          refine lv_iconst (v := (nI 1)) hx hb dL_law_582 (by decide) ?_
          refine lv_iadd hx hb dL_law_583 ?_
          refine p9_el (n := 4) S hV hK h (by decide) rfl (by omega) dL_law_584 (fun H locs h => ?_)
          refine lv_iconst (v := (nI 0)) hx hb dL_law_585 (by decide) ?_
          obtain ⟨σ9, e_σ9⟩ : ∃ z : Me, z = mu (mu σ8 7 0 (nI ((packL X.1 ((pkD X.1 (X.2.2 0)).1 ++ (pkD X.1 (X.2.2 1)).1)).length))) 7 3 (((pkD X.1 (X.2.2 0)).2.2.2) + (nI 1)) := ⟨_, rfl⟩
          have h := h.to e_σ9.symm
          have g9 : ∀ k, k ≠ 1 → k ≠ 7 → σ9 k = σb k := fun k h1 h2 => by rw [e_σ9, mu_r h2, mu_r h2, hO8 k h1, hO1 k h1]
          have gn2 : σ9 7 2 = nI ((X.2.2 0).2.2.1.length + 0) := by rw [e_σ9, mu_i (by omega), mu_i (by omega), hO8 _ (by omega), hO1 _ (by omega)]; exact hDd.2.2.2.2.2.1
          refine lv_istore (lv' := [(23, .int (nI 0)), (13, .int v13), (12, .int (nI tn)), (11, .ref (ad L 9)), (10, .ref (ad L 8)), (9, .ref (ad L 7)), (8, .ref (ad L 6)), (7, .ref (ad L 5)), (6, .ref (ad L 4)), (5, .ref (ad L 3)), (4, .ref (ad L 2)), (3, .ref (ad L 1)), (2, .ref (ad L 0)), (1, .ref (ad Lc 244)), (0, .ref b), (15, .int (nI 0)), (16, .ref (ad L 1)), (18, .ref (ad L 5)), (19, .ref (ad L 7)), (20, .ref (ad L 2)), (21, .ref (ad L 8)), (22, .ref (ad L 6))]) hx hb dL_law_586 hl (by decide) rfl (fun ls hl => ?_)
          have LP_588 : ∀ (n_588 : Nat) (k : Nat) (σ2 : Me), (k ≤ (X.2.2 1).2.2.1.length) → (σ2 7 2 = nI ((X.2.2 0).2.2.1.length + k)) → (RA (σ2 5) ((X.2.2 0).2.2.1 ++ (X.2.2 1).2.2.1.take k)) → (∀ q, q ≠ 5 → q ≠ 7 → σ2 q = σ9 q) → (∀ i, i ≠ 2 → σ2 7 i = σ9 7 i) → (X.2.2 1).2.2.1.length - k < n_588 → ∀ (H : Heap) (locs : List Loc) (ls : Array Slot), HdA (fun q => U.heap.size ≤ q) Lc L X hh U.heap H σ2 locs → lv_has ls 24 [(13, .int v13), (12, .int (nI tn)), (11, .ref (ad L 9)), (10, .ref (ad L 8)), (9, .ref (ad L 7)), (8, .ref (ad L 6)), (7, .ref (ad L 5)), (6, .ref (ad L 4)), (5, .ref (ad L 3)), (4, .ref (ad L 2)), (3, .ref (ad L 1)), (2, .ref (ad L 0)), (1, .ref (ad Lc 244)), (0, .ref b), (15, .int (nI 0)), (16, .ref (ad L 1)), (18, .ref (ad L 5)), (19, .ref (ad L 7)), (20, .ref (ad L 2)), (21, .ref (ad L 8)), (22, .ref (ad L 6)), (23, .int (nI k))] → W p l e room_1 U m #[Value.ref b] below meth c H locs 600000 7302250 (lw_Z below #[Value.ref b] s) (F0 m 588 ls []) := by
            intro n_588
            induction n_588 with
            | zero => intro k σ2; intros; omega
            | succ n_588 ih_588 =>
              intro k σ2 hk hn2 hR2 ho2 hn hm_588 H locs ls h hl
              refine lv_iload hx hb dL_law_588 (lv_at hl 21 rfl) ?_
              refine lv_aload hx hb dL_law_590 (lv_at hl 19 rfl) ?_
              refine lv_iconst (v := (nI 2)) hx hb dL_law_592 (by decide) ?_
              refine g9_el (n := 4) S hK h (by decide) rfl (by omega) dL_law_593 ?_
              refine cv_i (show (σ2 8 2 : Int32) = nI ((X.2.2 1).2.2.1.length) from (by rw [ho2 _ (by omega) (by omega), g9 _ (by omega) (by omega)]; exact hDe.2.2.2.2.2.1)) ?_
              refine b_icmp_ge (tgt := 620) hx hb dL_law_594 (by decide) (by omega) (by omega) (fun c_594 => ?_) (fun c_594 => ?_)
              · have e7 : k = (X.2.2 1).2.2.1.length := by omega
                rw [e7] at hn2 hR2
                have hLd : LD σ2 0 (toM X.1 (X.2.2 1) (X.2.2 0) (X.2.2 1).2.2.1.length) := LD_to (by rw [ho2 _ (by omega) (by omega), e_σ9, mu_r (by omega), mu_r (by omega)]; exact hH8) hR2 (by rw [hn 0 (by omega), e_σ9, mu_i (by omega), mu_s] <;> rfl) (by rw [hn 1 (by omega), e_σ9, mu_i (by omega), mu_i (by omega), hO8 _ (by omega), hO1 _ (by omega)]; exact hDd.2.2.2.2.1) hn2 (by rw [hn 3 (by omega), e_σ9, mu_s] <;> rfl)
                have hLe : LD σ2 1 (pkD X.1 (X.2.2 1)) := hDe.congr ((ho2 _ (by omega) (by omega)).trans (g9 _ (by omega) (by omega))) ((ho2 _ (by omega) (by omega)).trans (g9 _ (by omega) (by omega))) ((ho2 _ (by omega) (by omega)).trans (g9 _ (by omega) (by omega))) ((ho2 _ (by omega) (by omega)).trans (g9 _ (by omega) (by omega)))
                have k9 := packL_len (f := X.1) (A := (pkD X.1 (X.2.2 0)).1 ++ (pkD X.1 (X.2.2 1)).1)
                rw [List.length_append] at k9
                refine lv_aload_n hx hb dL_law_620 rfl (lv_at hl 12 rfl) ?_
                refine lv_iconst (v := (nI 1)) hx hb dL_law_621 (by decide) ?_
                refine lv_iload hx hb dL_law_622 (lv_at hl 14 rfl) ?_
                refine a_isub hx hb dL_law_624 (by omega) ?_
                refine lv_iload hx hb dL_law_625 (lv_at hl 14 rfl) ?_
                refine k_C (v := (nI ((X.2.2 0).2.2.1.length + (X.2.2 1).2.2.1.length))) (X' := (setD (setD X 1 (pkD X.1 (X.2.2 1))) 0 (toM X.1 (X.2.2 1) (X.2.2 0) (X.2.2 1).2.2.1.length))) (hh' := (recH hh X)) S hV hK h [.int (nI 1), .int (nI 0)] (t_join hF (i := 1) (j := 0) (by omega) (by omega) (by omega) (by omega)) q_341 q_342 q_343 q_1 q_344 yd_X7_join rfl ⟨⟨rfl, rfl⟩, ⟨(Nat.le_of_ble_eq_true rfl), (Nat.le_of_ble_eq_true rfl)⟩, (Nat.le_of_ble_eq_true rfl), (Nat.le_of_ble_eq_true rfl)⟩ rfl (Nat.le_of_ble_eq_true rfl) hl.1 dL_law_627 (fun H locs h => ?_)
                refine lv_aload hx hb dL_law_630 (lv_at hl 17 rfl) ?_
                refine lv_iconst (v := (nI 2)) hx hb dL_law_632 (by decide) ?_
                refine g9_el (n := 4) S hK h (by decide) rfl (by omega) dL_law_633 ?_
                refine cv_i (show (σ2 7 2 : Int32) = nI ((X.2.2 0).2.2.1.length + (X.2.2 1).2.2.1.length) from hn2) ?_
                refine lv_icmp_eq (tgt := 639) hx hb dL_law_634 (by decide) (fun c_634 => ?_) (fun c_634 => absurd c_634 (fun z => z rfl))
                exact T (setD (setD X 1 (pkD X.1 (X.2.2 1))) 0 (toM X.1 (X.2.2 1) (X.2.2 0) (X.2.2 1).2.2.1.length)) (recH hh X) _ _ _ _ h (IV_join hI (d := 0) (e := 1) (by omega) (by omega) (by omega) (FX_join hF (by omega) (by omega) (by omega)) hLd hLe (by rw [ho2 0 (by omega) (by omega), g9 0 (by omega) (by omega), hb0])) (BD_setD (BD_setD hB (by show (pkD X.1 (X.2.2 1)).1.length + 0 ≤ 16; omega) (by show (X.2.2 1).2.2.1.length ≤ 40; omega)) (by show (packL X.1 ((pkD X.1 (X.2.2 0)).1 ++ (pkD X.1 (X.2.2 1)).1)).length + 0 ≤ 16; omega) (by show ((X.2.2 0).2.2.1 ++ (X.2.2 1).2.2.1.take (X.2.2 1).2.2.1.length).length ≤ 40; rw [List.take_length, List.length_append]; omega)) (lv_sub hl [0, 1, 2, 3, 4, 5, 6, 7, 8, 9, 10, 11, 12, 13] rfl)
              · refine lv_aload hx hb dL_law_597 (lv_at hl 16 rfl) ?_
                refine lv_aload hx hb dL_law_599 (lv_at hl 17 rfl) ?_
                refine lv_iconst (v := (nI 2)) hx hb dL_law_601 (by decide) ?_
                refine lv_dup2_11 hx hb dL_law_602 rfl rfl ?_
                refine g9_el (n := 4) S hK h (by decide) rfl (by omega) dL_law_603 ?_
                refine cv_i (show (σ2 7 2 : Int32) = nI ((X.2.2 0).2.2.1.length + k) from hn2) ?_
                refine lv_dup_x2 hx hb dL_law_604 rfl rfl rfl ?_
                refine lv_iconst (v := (nI 1)) hx hb dL_law_605 (by decide) ?_
                refine a_iadd hx hb dL_law_606 ?_
                refine p9_el (n := 4) S hV hK h (by decide) rfl (by omega) dL_law_607 (fun H locs h => ?_)
                refine lv_aload hx hb dL_law_608 (lv_at hl 20 rfl) ?_
                refine lv_iload hx hb dL_law_610 (lv_at hl 21 rfl) ?_
                refine g9_el (n := 40) S hK h (by decide) rfl (by omega) dL_law_612 ?_
                refine cv_i (show ((mu σ2 7 2 (nI ((X.2.2 0).2.2.1.length + k + 1))) 6 k : Int32) = (X.2.2 1).2.2.1.getD k 0 from (by rw [mu_k (by omega), ho2 _ (by omega) (by omega), g9 _ (by omega) (by omega)]; exact hDe.2.2.1 k c_594)) ?_
                refine p9_el (n := 40) S hV hK h (by decide) rfl (by omega) dL_law_613 (fun H locs h => ?_)
                refine lv_iinc (v := (nI (k + 1))) (lv' := [(23, .int (nI (k + 1))), (13, .int v13), (12, .int (nI tn)), (11, .ref (ad L 9)), (10, .ref (ad L 8)), (9, .ref (ad L 7)), (8, .ref (ad L 6)), (7, .ref (ad L 5)), (6, .ref (ad L 4)), (5, .ref (ad L 3)), (4, .ref (ad L 2)), (3, .ref (ad L 1)), (2, .ref (ad L 0)), (1, .ref (ad Lc 244)), (0, .ref b), (15, .int (nI 0)), (16, .ref (ad L 1)), (18, .ref (ad L 5)), (19, .ref (ad L 7)), (20, .ref (ad L 2)), (21, .ref (ad L 8)), (22, .ref (ad L 6))]) hx hb dL_law_614 hl (k := 21) rfl (iinc_1 _) (by decide) rfl (fun ls hl => ?_)
                refine lv_goto (tgt := 588) hx hb dL_law_617 (by decide) ?_
                exact ih_588 (k + 1) (mu (mu σ2 7 2 (nI ((X.2.2 0).2.2.1.length + k + 1))) 5 ((X.2.2 0).2.2.1.length + k) ((X.2.2 1).2.2.1.getD k 0)) (by omega) (by rw [mu_k (by omega), mu_s, Nat.add_assoc]) (by rw [mu_f, mu_r (by omega)]; exact RA_cons hR2 c_594) (fun q q5 q7 => by rw [mu_r q5, mu_r q7]; exact ho2 q q5 q7) (fun i q => by rw [mu_k (by omega), mu_i q]; exact hn i q) (by omega) _ _ _ h (lv_sub hl [1, 2, 3, 4, 5, 6, 7, 8, 9, 10, 11, 12, 13, 14, 15, 16, 17, 18, 19, 20, 21, 0] rfl)
          exact LP_588 _ 0 σ9 (by omega) gn2 (by rw [List.take_zero, List.append_nil, g9 _ (by omega) (by omega)]; exact hDd.2.2.1) (fun _ _ _ => rfl) (fun _ _ => rfl) (Nat.lt_succ_self _) _ _ _ h (lv_sub hl [1, 2, 3, 4, 5, 6, 7, 8, 9, 10, 11, 12, 13, 14, 15, 16, 17, 18, 19, 20, 21, 0] rfl)
        · refine lv_aload hx hb dL_law_533 (lv_at hl 15 rfl) ?_
          refine lv_iconst (v := (nI 4)) hx hb dL_law_535 (by decide) ?_
          refine lv_aload hx hb dL_law_536 (lv_at hl 17 rfl) ?_
          refine lv_iconst (v := (nI 0)) hx hb dL_law_538 (by decide) ?_
          refine g9_el (n := 4) S hK h (by decide) rfl (by omega) dL_law_539 ?_
          refine cv_i (show (σ1 7 0 : Int32) = nI ((pkD X.1 (X.2.2 0)).1.length) from (by rw [hO1 _ (by omega)]; exact hDd.2.2.2.1)) ?_
          refine a_imul hx hb dL_law_540 ?_
          refine lv_iload hx hb dL_law_541 (lv_at hl 21 rfl) ?_
          refine a_iadd hx hb dL_law_543 ?_
          refine lv_aload hx hb dL_law_544 (lv_at hl 18 rfl) ?_
          refine lv_iload hx hb dL_law_546 (lv_at hl 21 rfl) ?_
          refine g9_el (n := 64) S hK h (by decide) rfl (by omega) dL_law_548 ?_
          refine cv_i (show (σ1 2 k : Int32) = σb 2 k from (by rw [hO1 _ (by omega)])) ?_
          refine p9_el (n := 64) S hV hK h (by decide) rfl (by omega) dL_law_549 (fun H locs h => ?_)
          refine lv_iinc (v := (nI (k + 1))) (lv' := [(23, .int (nI (k + 1))), (13, .int v13), (12, .int (nI tn)), (11, .ref (ad L 9)), (10, .ref (ad L 8)), (9, .ref (ad L 7)), (8, .ref (ad L 6)), (7, .ref (ad L 5)), (6, .ref (ad L 4)), (5, .ref (ad L 3)), (4, .ref (ad L 2)), (3, .ref (ad L 1)), (2, .ref (ad L 0)), (1, .ref (ad Lc 244)), (0, .ref b), (15, .int (nI 0)), (16, .ref (ad L 1)), (18, .ref (ad L 5)), (19, .ref (ad L 7)), (20, .ref (ad L 2)), (21, .ref (ad L 8)), (22, .ref (ad L 6))]) hx hb dL_law_550 hl (k := 21) rfl (iinc_1 _) (by decide) rfl (fun ls hl => ?_)
          refine lv_goto (tgt := 522) hx hb dL_law_553 (by decide) ?_
          exact ih_522 (k + 1) (mu σ1 1 (4 * ((pkD X.1 (X.2.2 0)).1.length) + k) (σb 2 k)) (by omega) (jn_1 hcp9) (fun i hi => by rw [mu_i (by omega)]; exact hlo i hi) (hO1.tr Oa.mu) (by omega) _ _ _ h (lv_sub hl [1, 2, 3, 4, 5, 6, 7, 8, 9, 10, 11, 12, 13, 14, 15, 16, 17, 18, 19, 20, 21, 0] rfl)
    exact LP_522 _ 0 σb (by omega) (fun i hi => absurd hi (Nat.not_lt_zero _)) (fun _ _ => rfl) Oa.rf (Nat.lt_succ_self _) _ _ _ h (lv_sub hl [4, 5, 6, 7, 8, 9, 10, 11, 12, 13, 14, 15, 16, 17, 18, 19, 21, 22, 3, 2, 1, 0] rfl)
  · refine lv_goto (tgt := 752) hx hb dL_law_475 (by decide) ?_
    exact E _ _ _ h.2
set_option maxHeartbeats 8000000 in
set_option maxRecDepth 100000 in
theorem lw_join_1 {p : Program} {l : Launch} {e : Env} {s U : State} {m : MethodId} {below : List Frame} {meth : Method} {c : Code} {b : Nat} {Lc L : Lay} {ls : Array Slot} {X : SS} {hh : List SS} {σ : Me} {H : Heap} {locs : List Loc} {tn : Nat} {v13 : Int32} (S : CallFix p m c cL_law 24 U #[Value.ref b] qA RL) (hV : VA (fun q => U.heap.size ≤ q) Lc L) (hK : Kn9 Lc L U) (h : HdA (fun q => U.heap.size ≤ q) Lc L X hh U.heap H σ locs) (hI : IV X σ) (hB : BD X) (c0 : (X.2.2 0).1.length + (X.2.2 0).2.1.length ≤ 13) (c1 : (X.2.2 1).1.length + (X.2.2 1).2.1.length ≤ 13) (c2 : (X.2.2 0).2.2.1.length + (X.2.2 1).2.2.1.length ≤ 34) (hl : lv_has ls 24 [(13, .int v13), (12, .int (nI tn)), (11, .ref (ad L 9)), (10, .ref (ad L 8)), (9, .ref (ad L 7)), (8, .ref (ad L 6)), (7, .ref (ad L 5)), (6, .ref (ad L 4)), (5, .ref (ad L 3)), (4, .ref (ad L 2)), (3, .ref (ad L 1)), (2, .ref (ad L 0)), (1, .ref (ad Lc 244)), (0, .ref b), (15, .int (nI 1)), (16, .ref (ad L 2)), (17, .ref (ad L 4)), (18, .ref (ad L 6)), (19, .ref (ad L 8))]) (T : ∀ (X2 : SS) (hh2 : List SS) (σ2 : Me) (H : Heap) (locs : List Loc) (ls : Array Slot), HdA (fun q => U.heap.size ≤ q) Lc L X2 hh2 U.heap H σ2 locs → IV X2 σ2 → BD X2 → lv_has ls 24 [(13, .int v13), (12, .int (nI tn)), (11, .ref (ad L 9)), (10, .ref (ad L 8)), (9, .ref (ad L 7)), (8, .ref (ad L 6)), (7, .ref (ad L 5)), (6, .ref (ad L 4)), (5, .ref (ad L 3)), (4, .ref (ad L 2)), (3, .ref (ad L 1)), (2, .ref (ad L 0)), (1, .ref (ad Lc 244)), (0, .ref b)] → W p l e room_1 U m #[Value.ref b] below meth c H locs 600000 7302250 (lw_Z below #[Value.ref b] s) (F0 m 639 ls [])) (E : ∀ (H : Heap) (locs : List Loc) (ls : Array Slot), va_S (fun q => U.heap.size ≤ q) U.heap H locs → W p l e room_1 U m #[Value.ref b] below meth c H locs 600000 7302250 (lw_Z below #[Value.ref b] s) (F0 m 752 ls [])) : W p l e room_1 U m #[Value.ref b] below meth c H locs 600000 7302250 (lw_Z below #[Value.ref b] s) (F0 m 442 ls []) := by
  have hx := S.1
  have hb := S.2.1
  have hF := hI.1
  have e00 := hI.2.2.2.1
  refine lv_aload_n hx hb dL_law_442 rfl (lv_at hl 10 rfl) ?_
  refine lv_aload hx hb dL_law_443 (lv_at hl 8 rfl) ?_
  refine lv_aload hx hb dL_law_445 (lv_at hl 4 rfl) ?_
  refine lv_aload_n hx hb dL_law_447 rfl (lv_at hl 11 rfl) ?_
  refine k_SR S hV hK h [.ref (ad L 1), .ref (ad L 3), .ref (ad L 7), .ref (ad L 0)] (c_L_pack l Lc L X hh σ (d := 0) (by omega) (hI.2.1 0 (by omega)) (hF.1.1 0 (by omega)) (by omega)) q_402 q_403 q_0 q_404 yd_L_pack rfl ⟨⟨rfl, rfl⟩, ⟨(Nat.le_of_ble_eq_true rfl), (Nat.le_of_ble_eq_true rfl)⟩, (Nat.le_of_ble_eq_true rfl), (Nat.le_of_ble_eq_true rfl)⟩ rfl (Nat.le_of_ble_eq_true rfl) hl.1 dL_law_448 (fun σa H locs hp9 h => ?_)
  obtain ⟨hDa, hoa⟩ := hp9
  rw [e00] at hDa
  have hDa1 : LD σa 1 (X.2.2 1) := (hI.2.1 1 (by omega)).congr (hoa _ (by omega) (by omega)) (hoa _ (by omega) (by omega)) (hoa _ (by omega) (by omega)) (hoa _ (by omega) (by omega))
  refine lv_aload hx hb dL_law_451 (lv_at hl 9 rfl) ?_
  refine lv_aload hx hb dL_law_453 (lv_at hl 7 rfl) ?_
  refine lv_aload hx hb dL_law_455 (lv_at hl 3 rfl) ?_
  refine lv_aload_n hx hb dL_law_457 rfl (lv_at hl 11 rfl) ?_
  refine k_SR S hV hK h [.ref (ad L 2), .ref (ad L 4), .ref (ad L 8), .ref (ad L 0)] (c_L_pack l Lc L X hh σa (d := 1) (by omega) hDa1 (hF.1.1 1 (by omega)) (by omega)) q_402 q_403 q_0 q_404 yd_L_pack rfl ⟨⟨rfl, rfl⟩, ⟨(Nat.le_of_ble_eq_true rfl), (Nat.le_of_ble_eq_true rfl)⟩, (Nat.le_of_ble_eq_true rfl), (Nat.le_of_ble_eq_true rfl)⟩ rfl (Nat.le_of_ble_eq_true rfl) hl.1 dL_law_458 (fun σb H locs hp9 h => ?_)
  obtain ⟨hDb, hob⟩ := hp9
  rw [hoa 0 (by omega) (by omega), e00] at hDb
  have hDb0 : LD σb 0 (pkD X.1 (X.2.2 0)) := hDa.congr (hob _ (by omega) (by omega)) (hob _ (by omega) (by omega)) (hob _ (by omega) (by omega)) (hob _ (by omega) (by omega))
  have hb0 : σb 0 = σ 0 := (hob 0 (by omega) (by omega)).trans (hoa 0 (by omega) (by omega))
  have hDd : LD σb 1 (pkD X.1 (X.2.2 1)) := hDb
  have hDe : LD σb 0 (pkD X.1 (X.2.2 0)) := hDb0
  refine lv_aload hx hb dL_law_461 (lv_at hl 4 rfl) ?_
  refine lv_iconst (v := (nI 0)) hx hb dL_law_463 (by decide) ?_
  refine g9_el (n := 4) S hK h (by decide) rfl (by omega) dL_law_464 ?_
  refine cv_i (show (σb 7 0 : Int32) = nI ((pkD X.1 (X.2.2 0)).1.length) from hDb0.2.2.2.1) ?_
  refine lv_aload hx hb dL_law_465 (lv_at hl 3 rfl) ?_
  refine lv_iconst (v := (nI 0)) hx hb dL_law_467 (by decide) ?_
  refine g9_el (n := 4) S hK h (by decide) rfl (by omega) dL_law_468 ?_
  refine cv_i (show (σb 8 0 : Int32) = nI ((pkD X.1 (X.2.2 1)).1.length) from hDb.2.2.2.1) ?_
  refine a_iadd hx hb dL_law_469 ?_
  have k0 := pkD_len (f := X.1) (D := X.2.2 0)
  have k1 := pkD_len (f := X.1) (D := X.2.2 1)
  refine lv_bipush (v := (nI 16)) hx hb dL_law_470 (by decide) ?_
  refine b_icmp_le (tgt := 478) hx hb dL_law_472 (by decide) (by omega) (by omega) (fun c_472 => ?_) (fun c_472 => ?_)
  · obtain ⟨gU, sU, lU⟩ := to_GH (f := X.1) (hF.1.1 1 (by omega)) (hF.1.1 0 (by omega)) (by omega)
    refine lv_iload hx hb dL_law_478 (lv_at hl 14 rfl) ?_
    refine b_if_ne (tgt := 488) hx hb dL_law_480 (by decide) (by decide) (fun _ => ?_) (fun c9 => absurd c9 (by decide))
    refine lv_aload_n hx hb dL_law_488 rfl (lv_at hl 10 rfl) ?_
    refine lv_astore (lv' := [(20, .ref (ad L 1)), (13, .int v13), (12, .int (nI tn)), (11, .ref (ad L 9)), (10, .ref (ad L 8)), (9, .ref (ad L 7)), (8, .ref (ad L 6)), (7, .ref (ad L 5)), (6, .ref (ad L 4)), (5, .ref (ad L 3)), (4, .ref (ad L 2)), (3, .ref (ad L 1)), (2, .ref (ad L 0)), (1, .ref (ad Lc 244)), (0, .ref b), (15, .int (nI 1)), (16, .ref (ad L 2)), (17, .ref (ad L 4)), (18, .ref (ad L 6)), (19, .ref (ad L 8))]) hx hb dL_law_489 hl (by decide) rfl (fun ls hl => ?_)
    refine lv_iload hx hb dL_law_491 (lv_at hl 15 rfl) ?_
    refine b_if_ne (tgt := 501) hx hb dL_law_493 (by decide) (by decide) (fun _ => ?_) (fun c9 => absurd c9 (by decide))
    refine lv_aload hx hb dL_law_501 (lv_at hl 5 rfl) ?_
    refine lv_astore (lv' := [(21, .ref (ad L 7)), (20, .ref (ad L 1)), (13, .int v13), (12, .int (nI tn)), (11, .ref (ad L 9)), (10, .ref (ad L 8)), (9, .ref (ad L 7)), (8, .ref (ad L 6)), (7, .ref (ad L 5)), (6, .ref (ad L 4)), (5, .ref (ad L 3)), (4, .ref (ad L 2)), (3, .ref (ad L 1)), (2, .ref (ad L 0)), (1, .ref (ad Lc 244)), (0, .ref b), (15, .int (nI 1)), (16, .ref (ad L 2)), (17, .ref (ad L 4)), (18, .ref (ad L 6)), (19, .ref (ad L 8))]) hx hb dL_law_503 hl (by decide) rfl (fun ls hl => ?_)
    refine lv_iload hx hb dL_law_505 (lv_at hl 16 rfl) ?_
    refine b_if_ne (tgt := 515) hx hb dL_law_507 (by decide) (by decide) (fun _ => ?_) (fun c9 => absurd c9 (by decide))
    refine lv_aload hx hb dL_law_515 (lv_at hl 8 rfl) ?_
    refine lv_astore (lv' := [(22, .ref (ad L 5)), (21, .ref (ad L 7)), (20, .ref (ad L 1)), (13, .int v13), (12, .int (nI tn)), (11, .ref (ad L 9)), (10, .ref (ad L 8)), (9, .ref (ad L 7)), (8, .ref (ad L 6)), (7, .ref (ad L 5)), (6, .ref (ad L 4)), (5, .ref (ad L 3)), (4, .ref (ad L 2)), (3, .ref (ad L 1)), (2, .ref (ad L 0)), (1, .ref (ad Lc 244)), (0, .ref b), (15, .int (nI 1)), (16, .ref (ad L 2)), (17, .ref (ad L 4)), (18, .ref (ad L 6)), (19, .ref (ad L 8))]) hx hb dL_law_517 hl (by decide) rfl (fun ls hl => ?_)
    refine lv_iconst (v := (nI 0)) hx hb dL_law_519 (by decide) ?_
    refine lv_istore (lv' := [(23, .int (nI 0)), (22, .ref (ad L 5)), (21, .ref (ad L 7)), (20, .ref (ad L 1)), (13, .int v13), (12, .int (nI tn)), (11, .ref (ad L 9)), (10, .ref (ad L 8)), (9, .ref (ad L 7)), (8, .ref (ad L 6)), (7, .ref (ad L 5)), (6, .ref (ad L 4)), (5, .ref (ad L 3)), (4, .ref (ad L 2)), (3, .ref (ad L 1)), (2, .ref (ad L 0)), (1, .ref (ad Lc 244)), (0, .ref b), (15, .int (nI 1)), (16, .ref (ad L 2)), (17, .ref (ad L 4)), (18, .ref (ad L 6)), (19, .ref (ad L 8))]) hx hb dL_law_520 hl (by decide) rfl (fun ls hl => ?_)
    have LP_522 : ∀ (n_522 : Nat) (k : Nat) (σ1 : Me), (k ≤ 4 * (pkD X.1 (X.2.2 0)).1.length) → (∀ i, i < k → σ1 2 (4 * (pkD X.1 (X.2.2 1)).1.length + i) = σb 1 i) → (∀ i, i < 4 * (pkD X.1 (X.2.2 1)).1.length → σ1 2 i = σb 2 i) → (Oa 2 σb σ1) → 4 * (pkD X.1 (X.2.2 0)).1.length - k < n_522 → ∀ (H : Heap) (locs : List Loc) (ls : Array Slot), HdA (fun q => U.heap.size ≤ q) Lc L X hh U.heap H σ1 locs → lv_has ls 24 [(13, .int v13), (12, .int (nI tn)), (11, .ref (ad L 9)), (10, .ref (ad L 8)), (9, .ref (ad L 7)), (8, .ref (ad L 6)), (7, .ref (ad L 5)), (6, .ref (ad L 4)), (5, .ref (ad L 3)), (4, .ref (ad L 2)), (3, .ref (ad L 1)), (2, .ref (ad L 0)), (1, .ref (ad Lc 244)), (0, .ref b), (15, .int (nI 1)), (16, .ref (ad L 2)), (18, .ref (ad L 6)), (19, .ref (ad L 8)), (20, .ref (ad L 1)), (21, .ref (ad L 7)), (22, .ref (ad L 5)), (23, .int (nI k))] → W p l e room_1 U m #[Value.ref b] below meth c H locs 600000 7302250 (lw_Z below #[Value.ref b] s) (F0 m 522 ls []) := by
      intro n_522
      induction n_522 with
      | zero => intro k σ1; intros; omega
      | succ n_522 ih_522 =>
        intro k σ1 hk hcp9 hlo hO1 hm_522 H locs ls h hl
        refine lv_iload hx hb dL_law_522 (lv_at hl 21 rfl) ?_
        refine lv_iconst (v := (nI 4)) hx hb dL_law_524 (by decide) ?_
        refine lv_aload hx hb dL_law_525 (lv_at hl 19 rfl) ?_
        refine lv_iconst (v := (nI 0)) hx hb dL_law_527 (by decide) ?_
        refine g9_el (n := 4) S hK h (by decide) rfl (by omega) dL_law_528 ?_
        refine cv_i (show (σ1 7 0 : Int32) = nI ((pkD X.1 (X.2.2 0)).1.length) from (by rw [hO1 _ (by omega)]; exact hDe.2.2.2.1)) ?_
        refine a_imul hx hb dL_law_529 ?_
        refine b_icmp_ge (tgt := 556) hx hb dL_law_530 (by decide) (by omega) (by omega) (fun c_530 => ?_) (fun c_530 => ?_)
        · have hJ9 : HA (σ1 2) ((pkD X.1 (X.2.2 1)).1 ++ (pkD X.1 (X.2.2 0)).1) := HA_jn hDd.1 hDe.1 hlo (fun i hi => hcp9 i (by omega))
          refine lv_aload hx hb dL_law_556 (lv_at hl 17 rfl) ?_
          refine lv_iconst (v := (nI 0)) hx hb dL_law_558 (by decide) ?_
          refine lv_aload hx hb dL_law_559 (lv_at hl 15 rfl) ?_
          refine lv_aload hx hb dL_law_561 (lv_at hl 17 rfl) ?_
          refine lv_iconst (v := (nI 0)) hx hb dL_law_563 (by decide) ?_
          refine g9_el (n := 4) S hK h (by decide) rfl (by omega) dL_law_564 ?_
          refine cv_i (show (σ1 8 0 : Int32) = nI ((pkD X.1 (X.2.2 1)).1.length) from (by rw [hO1 _ (by omega)]; exact hDd.2.2.2.1)) ?_
          refine lv_aload hx hb dL_law_565 (lv_at hl 19 rfl) ?_
          refine lv_iconst (v := (nI 0)) hx hb dL_law_567 (by decide) ?_
          refine g9_el (n := 4) S hK h (by decide) rfl (by omega) dL_law_568 ?_
          refine cv_i (show (σ1 7 0 : Int32) = nI ((pkD X.1 (X.2.2 0)).1.length) from (by rw [hO1 _ (by omega)]; exact hDe.2.2.2.1)) ?_
          refine a_iadd hx hb dL_law_569 ?_
          refine cv_i (show (nI ((pkD X.1 (X.2.2 1)).1.length + ((pkD X.1 (X.2.2 0)).1.length)) : Int32) = nI (((pkD X.1 (X.2.2 1)).1 ++ (pkD X.1 (X.2.2 0)).1).length) from (by rw [List.length_append])) ?_
          refine lv_aload_n hx hb dL_law_570 rfl (lv_at hl 11 rfl) ?_
          refine lv_iconst (v := (nI 0)) hx hb dL_law_571 (by decide) ?_
          refine g9_el (n := 2) S hK h (by decide) rfl (by omega) dL_law_572 ?_
          refine cv_i (show (σ1 0 0 : Int32) = X.1 from (by rw [hO1 _ (by omega), hb0]; exact e00)) ?_
          refine k_SR S hV hK h [.ref (ad L 2), .int (nI (((pkD X.1 (X.2.2 1)).1 ++ (pkD X.1 (X.2.2 0)).1).length)), .int X.1] (c_L_packed l Lc L X hh σ1 (a := 2) (by decide) rfl (A := ((pkD X.1 (X.2.2 1)).1 ++ (pkD X.1 (X.2.2 0)).1)) hJ9 gU (by rw [List.length_append]; omega) X.1) q_393 q_394 q_0 q_395 yd_L_packed rfl ⟨⟨rfl, rfl⟩, ⟨(Nat.le_of_ble_eq_true rfl), (Nat.le_of_ble_eq_true rfl)⟩, (Nat.le_of_ble_eq_true rfl), (Nat.le_of_ble_eq_true rfl)⟩ rfl (Nat.le_of_ble_eq_true rfl) hl.1 dL_law_573 (fun σ8 H locs hp9 h => ?_)
          obtain ⟨hO8, hH8⟩ := hp9
          refine p9_el (n := 4) S hV hK h (by decide) rfl (by omega) dL_law_576 (fun H locs h => ?_)
          refine lv_aload hx hb dL_law_577 (lv_at hl 17 rfl) ?_
          refine lv_iconst (v := (nI 3)) hx hb dL_law_579 (by decide) ?_
          refine lv_dup2_11 hx hb dL_law_580 rfl rfl ?_
          refine g9_el (n := 4) S hK h (by decide) rfl (by omega) dL_law_581 ?_
          refine cv_i (show ((mu σ8 8 0 (nI ((packL X.1 ((pkD X.1 (X.2.2 1)).1 ++ (pkD X.1 (X.2.2 0)).1)).length))) 8 3 : Int32) = (pkD X.1 (X.2.2 1)).2.2.2 from (by rw [mu_i (by omega), hO8 _ (by omega), hO1 _ (by omega)]; exact hDd.2.2.2.2.2.2)) ?_
          refine lv_iconst (v := (nI 1)) hx hb dL_law_582 (by decide) ?_
          refine lv_iadd hx hb dL_law_583 ?_
          refine p9_el (n := 4) S hV hK h (by decide) rfl (by omega) dL_law_584 (fun H locs h => ?_)
          refine lv_iconst (v := (nI 0)) hx hb dL_law_585 (by decide) ?_
          obtain ⟨σ9, e_σ9⟩ : ∃ z : Me, z = mu (mu σ8 8 0 (nI ((packL X.1 ((pkD X.1 (X.2.2 1)).1 ++ (pkD X.1 (X.2.2 0)).1)).length))) 8 3 (((pkD X.1 (X.2.2 1)).2.2.2) + (nI 1)) := ⟨_, rfl⟩
          have h := h.to e_σ9.symm
          have g9 : ∀ k, k ≠ 2 → k ≠ 8 → σ9 k = σb k := fun k h1 h2 => by rw [e_σ9, mu_r h2, mu_r h2, hO8 k h1, hO1 k h1]
          have gn2 : σ9 8 2 = nI ((X.2.2 1).2.2.1.length + 0) := by rw [e_σ9, mu_i (by omega), mu_i (by omega), hO8 _ (by omega), hO1 _ (by omega)]; exact hDd.2.2.2.2.2.1
          refine lv_istore (lv' := [(23, .int (nI 0)), (13, .int v13), (12, .int (nI tn)), (11, .ref (ad L 9)), (10, .ref (ad L 8)), (9, .ref (ad L 7)), (8, .ref (ad L 6)), (7, .ref (ad L 5)), (6, .ref (ad L 4)), (5, .ref (ad L 3)), (4, .ref (ad L 2)), (3, .ref (ad L 1)), (2, .ref (ad L 0)), (1, .ref (ad Lc 244)), (0, .ref b), (15, .int (nI 1)), (16, .ref (ad L 2)), (18, .ref (ad L 6)), (19, .ref (ad L 8)), (20, .ref (ad L 1)), (21, .ref (ad L 7)), (22, .ref (ad L 5))]) hx hb dL_law_586 hl (by decide) rfl (fun ls hl => ?_)
          have LP_588 : ∀ (n_588 : Nat) (k : Nat) (σ2 : Me), (k ≤ (X.2.2 0).2.2.1.length) → (σ2 8 2 = nI ((X.2.2 1).2.2.1.length + k)) → (RA (σ2 6) ((X.2.2 1).2.2.1 ++ (X.2.2 0).2.2.1.take k)) → (∀ q, q ≠ 6 → q ≠ 8 → σ2 q = σ9 q) → (∀ i, i ≠ 2 → σ2 8 i = σ9 8 i) → (X.2.2 0).2.2.1.length - k < n_588 → ∀ (H : Heap) (locs : List Loc) (ls : Array Slot), HdA (fun q => U.heap.size ≤ q) Lc L X hh U.heap H σ2 locs → lv_has ls 24 [(13, .int v13), (12, .int (nI tn)), (11, .ref (ad L 9)), (10, .ref (ad L 8)), (9, .ref (ad L 7)), (8, .ref (ad L 6)), (7, .ref (ad L 5)), (6, .ref (ad L 4)), (5, .ref (ad L 3)), (4, .ref (ad L 2)), (3, .ref (ad L 1)), (2, .ref (ad L 0)), (1, .ref (ad Lc 244)), (0, .ref b), (15, .int (nI 1)), (16, .ref (ad L 2)), (18, .ref (ad L 6)), (19, .ref (ad L 8)), (20, .ref (ad L 1)), (21, .ref (ad L 7)), (22, .ref (ad L 5)), (23, .int (nI k))] → W p l e room_1 U m #[Value.ref b] below meth c H locs 600000 7302250 (lw_Z below #[Value.ref b] s) (F0 m 588 ls []) := by
            intro n_588
            induction n_588 with
            | zero => intro k σ2; intros; omega
            | succ n_588 ih_588 =>
              intro k σ2 hk hn2 hR2 ho2 hn hm_588 H locs ls h hl
              refine lv_iload hx hb dL_law_588 (lv_at hl 21 rfl) ?_
              refine lv_aload hx hb dL_law_590 (lv_at hl 19 rfl) ?_
              refine lv_iconst (v := (nI 2)) hx hb dL_law_592 (by decide) ?_
              refine g9_el (n := 4) S hK h (by decide) rfl (by omega) dL_law_593 ?_
              refine cv_i (show (σ2 7 2 : Int32) = nI ((X.2.2 0).2.2.1.length) from (by rw [ho2 _ (by omega) (by omega), g9 _ (by omega) (by omega)]; exact hDe.2.2.2.2.2.1)) ?_
              refine b_icmp_ge (tgt := 620) hx hb dL_law_594 (by decide) (by omega) (by omega) (fun c_594 => ?_) (fun c_594 => ?_)
              · have e7 : k = (X.2.2 0).2.2.1.length := by omega
                rw [e7] at hn2 hR2
                have hLd : LD σ2 1 (toM X.1 (X.2.2 0) (X.2.2 1) (X.2.2 0).2.2.1.length) := LD_to (by rw [ho2 _ (by omega) (by omega), e_σ9, mu_r (by omega), mu_r (by omega)]; exact hH8) hR2 (by rw [hn 0 (by omega), e_σ9, mu_i (by omega), mu_s] <;> rfl) (by rw [hn 1 (by omega), e_σ9, mu_i (by omega), mu_i (by omega), hO8 _ (by omega), hO1 _ (by omega)]; exact hDd.2.2.2.2.1) hn2 (by rw [hn 3 (by omega), e_σ9, mu_s] <;> rfl)
                have hLe : LD σ2 0 (pkD X.1 (X.2.2 0)) := hDe.congr ((ho2 _ (by omega) (by omega)).trans (g9 _ (by omega) (by omega))) ((ho2 _ (by omega) (by omega)).trans (g9 _ (by omega) (by omega))) ((ho2 _ (by omega) (by omega)).trans (g9 _ (by omega) (by omega))) ((ho2 _ (by omega) (by omega)).trans (g9 _ (by omega) (by omega)))
                have k9 := packL_len (f := X.1) (A := (pkD X.1 (X.2.2 1)).1 ++ (pkD X.1 (X.2.2 0)).1)
                rw [List.length_append] at k9
                refine lv_aload_n hx hb dL_law_620 rfl (lv_at hl 12 rfl) ?_
                refine lv_iconst (v := (nI 1)) hx hb dL_law_621 (by decide) ?_
                refine lv_iload hx hb dL_law_622 (lv_at hl 14 rfl) ?_
                refine a_isub hx hb dL_law_624 (by omega) ?_
                refine lv_iload hx hb dL_law_625 (lv_at hl 14 rfl) ?_
                refine k_C (v := (nI ((X.2.2 1).2.2.1.length + (X.2.2 0).2.2.1.length))) (X' := (setD (setD X 0 (pkD X.1 (X.2.2 0))) 1 (toM X.1 (X.2.2 0) (X.2.2 1) (X.2.2 0).2.2.1.length))) (hh' := (recH hh X)) S hV hK h [.int (nI 0), .int (nI 1)] (t_join hF (i := 0) (j := 1) (by omega) (by omega) (by omega) (by omega)) q_341 q_342 q_343 q_1 q_344 yd_X7_join rfl ⟨⟨rfl, rfl⟩, ⟨(Nat.le_of_ble_eq_true rfl), (Nat.le_of_ble_eq_true rfl)⟩, (Nat.le_of_ble_eq_true rfl), (Nat.le_of_ble_eq_true rfl)⟩ rfl (Nat.le_of_ble_eq_true rfl) hl.1 dL_law_627 (fun H locs h => ?_)
                refine lv_aload hx hb dL_law_630 (lv_at hl 17 rfl) ?_
                refine lv_iconst (v := (nI 2)) hx hb dL_law_632 (by decide) ?_
                refine g9_el (n := 4) S hK h (by decide) rfl (by omega) dL_law_633 ?_
                refine cv_i (show (σ2 8 2 : Int32) = nI ((X.2.2 1).2.2.1.length + (X.2.2 0).2.2.1.length) from hn2) ?_
                refine lv_icmp_eq (tgt := 639) hx hb dL_law_634 (by decide) (fun c_634 => ?_) (fun c_634 => absurd c_634 (fun z => z rfl))
                exact T (setD (setD X 0 (pkD X.1 (X.2.2 0))) 1 (toM X.1 (X.2.2 0) (X.2.2 1) (X.2.2 0).2.2.1.length)) (recH hh X) _ _ _ _ h (IV_join hI (d := 1) (e := 0) (by omega) (by omega) (by omega) (FX_join hF (by omega) (by omega) (by omega)) hLd hLe (by rw [ho2 0 (by omega) (by omega), g9 0 (by omega) (by omega), hb0])) (BD_setD (BD_setD hB (by show (pkD X.1 (X.2.2 0)).1.length + 0 ≤ 16; omega) (by show (X.2.2 0).2.2.1.length ≤ 40; omega)) (by show (packL X.1 ((pkD X.1 (X.2.2 1)).1 ++ (pkD X.1 (X.2.2 0)).1)).length + 0 ≤ 16; omega) (by show ((X.2.2 1).2.2.1 ++ (X.2.2 0).2.2.1.take (X.2.2 0).2.2.1.length).length ≤ 40; rw [List.take_length, List.length_append]; omega)) (lv_sub hl [0, 1, 2, 3, 4, 5, 6, 7, 8, 9, 10, 11, 12, 13] rfl)
              · refine lv_aload hx hb dL_law_597 (lv_at hl 16 rfl) ?_
                refine lv_aload hx hb dL_law_599 (lv_at hl 17 rfl) ?_
                refine lv_iconst (v := (nI 2)) hx hb dL_law_601 (by decide) ?_
                refine lv_dup2_11 hx hb dL_law_602 rfl rfl ?_
                refine g9_el (n := 4) S hK h (by decide) rfl (by omega) dL_law_603 ?_
                refine cv_i (show (σ2 8 2 : Int32) = nI ((X.2.2 1).2.2.1.length + k) from hn2) ?_
                refine lv_dup_x2 hx hb dL_law_604 rfl rfl rfl ?_
                refine lv_iconst (v := (nI 1)) hx hb dL_law_605 (by decide) ?_
                refine a_iadd hx hb dL_law_606 ?_
                refine p9_el (n := 4) S hV hK h (by decide) rfl (by omega) dL_law_607 (fun H locs h => ?_)
                refine lv_aload hx hb dL_law_608 (lv_at hl 20 rfl) ?_
                refine lv_iload hx hb dL_law_610 (lv_at hl 21 rfl) ?_
                refine g9_el (n := 40) S hK h (by decide) rfl (by omega) dL_law_612 ?_
                refine cv_i (show ((mu σ2 8 2 (nI ((X.2.2 1).2.2.1.length + k + 1))) 5 k : Int32) = (X.2.2 0).2.2.1.getD k 0 from (by rw [mu_k (by omega), ho2 _ (by omega) (by omega), g9 _ (by omega) (by omega)]; exact hDe.2.2.1 k c_594)) ?_
                refine p9_el (n := 40) S hV hK h (by decide) rfl (by omega) dL_law_613 (fun H locs h => ?_)
                refine lv_iinc (v := (nI (k + 1))) (lv' := [(23, .int (nI (k + 1))), (13, .int v13), (12, .int (nI tn)), (11, .ref (ad L 9)), (10, .ref (ad L 8)), (9, .ref (ad L 7)), (8, .ref (ad L 6)), (7, .ref (ad L 5)), (6, .ref (ad L 4)), (5, .ref (ad L 3)), (4, .ref (ad L 2)), (3, .ref (ad L 1)), (2, .ref (ad L 0)), (1, .ref (ad Lc 244)), (0, .ref b), (15, .int (nI 1)), (16, .ref (ad L 2)), (18, .ref (ad L 6)), (19, .ref (ad L 8)), (20, .ref (ad L 1)), (21, .ref (ad L 7)), (22, .ref (ad L 5))]) hx hb dL_law_614 hl (k := 21) rfl (iinc_1 _) (by decide) rfl (fun ls hl => ?_)
                refine lv_goto (tgt := 588) hx hb dL_law_617 (by decide) ?_
                exact ih_588 (k + 1) (mu (mu σ2 8 2 (nI ((X.2.2 1).2.2.1.length + k + 1))) 6 ((X.2.2 1).2.2.1.length + k) ((X.2.2 0).2.2.1.getD k 0)) (by omega) (by rw [mu_k (by omega), mu_s, Nat.add_assoc]) (by rw [mu_f, mu_r (by omega)]; exact RA_cons hR2 c_594) (fun q q5 q7 => by rw [mu_r q5, mu_r q7]; exact ho2 q q5 q7) (fun i q => by rw [mu_k (by omega), mu_i q]; exact hn i q) (by omega) _ _ _ h (lv_sub hl [1, 2, 3, 4, 5, 6, 7, 8, 9, 10, 11, 12, 13, 14, 15, 16, 17, 18, 19, 20, 21, 0] rfl)
          exact LP_588 _ 0 σ9 (by omega) gn2 (by rw [List.take_zero, List.append_nil, g9 _ (by omega) (by omega)]; exact hDd.2.2.1) (fun _ _ _ => rfl) (fun _ _ => rfl) (Nat.lt_succ_self _) _ _ _ h (lv_sub hl [1, 2, 3, 4, 5, 6, 7, 8, 9, 10, 11, 12, 13, 14, 15, 16, 17, 18, 19, 20, 21, 0] rfl)
        · refine lv_aload hx hb dL_law_533 (lv_at hl 15 rfl) ?_
          refine lv_iconst (v := (nI 4)) hx hb dL_law_535 (by decide) ?_
          refine lv_aload hx hb dL_law_536 (lv_at hl 17 rfl) ?_
          refine lv_iconst (v := (nI 0)) hx hb dL_law_538 (by decide) ?_
          refine g9_el (n := 4) S hK h (by decide) rfl (by omega) dL_law_539 ?_
          refine cv_i (show (σ1 8 0 : Int32) = nI ((pkD X.1 (X.2.2 1)).1.length) from (by rw [hO1 _ (by omega)]; exact hDd.2.2.2.1)) ?_
          refine a_imul hx hb dL_law_540 ?_
          refine lv_iload hx hb dL_law_541 (lv_at hl 21 rfl) ?_
          refine a_iadd hx hb dL_law_543 ?_
          refine lv_aload hx hb dL_law_544 (lv_at hl 18 rfl) ?_
          refine lv_iload hx hb dL_law_546 (lv_at hl 21 rfl) ?_
          refine g9_el (n := 64) S hK h (by decide) rfl (by omega) dL_law_548 ?_
          refine cv_i (show (σ1 1 k : Int32) = σb 1 k from (by rw [hO1 _ (by omega)])) ?_
          refine p9_el (n := 64) S hV hK h (by decide) rfl (by omega) dL_law_549 (fun H locs h => ?_)
          refine lv_iinc (v := (nI (k + 1))) (lv' := [(23, .int (nI (k + 1))), (13, .int v13), (12, .int (nI tn)), (11, .ref (ad L 9)), (10, .ref (ad L 8)), (9, .ref (ad L 7)), (8, .ref (ad L 6)), (7, .ref (ad L 5)), (6, .ref (ad L 4)), (5, .ref (ad L 3)), (4, .ref (ad L 2)), (3, .ref (ad L 1)), (2, .ref (ad L 0)), (1, .ref (ad Lc 244)), (0, .ref b), (15, .int (nI 1)), (16, .ref (ad L 2)), (18, .ref (ad L 6)), (19, .ref (ad L 8)), (20, .ref (ad L 1)), (21, .ref (ad L 7)), (22, .ref (ad L 5))]) hx hb dL_law_550 hl (k := 21) rfl (iinc_1 _) (by decide) rfl (fun ls hl => ?_)
          refine lv_goto (tgt := 522) hx hb dL_law_553 (by decide) ?_
          exact ih_522 (k + 1) (mu σ1 2 (4 * ((pkD X.1 (X.2.2 1)).1.length) + k) (σb 1 k)) (by omega) (jn_1 hcp9) (fun i hi => by rw [mu_i (by omega)]; exact hlo i hi) (hO1.tr Oa.mu) (by omega) _ _ _ h (lv_sub hl [1, 2, 3, 4, 5, 6, 7, 8, 9, 10, 11, 12, 13, 14, 15, 16, 17, 18, 19, 20, 21, 0] rfl)
    exact LP_522 _ 0 σb (by omega) (fun i hi => absurd hi (Nat.not_lt_zero _)) (fun _ _ => rfl) Oa.rf (Nat.lt_succ_self _) _ _ _ h (lv_sub hl [4, 5, 6, 7, 8, 9, 10, 11, 12, 13, 14, 15, 16, 17, 18, 19, 21, 22, 3, 2, 1, 0] rfl)
  · refine lv_goto (tgt := 752) hx hb dL_law_475 (by decide) ?_
    exact E _ _ _ h.2