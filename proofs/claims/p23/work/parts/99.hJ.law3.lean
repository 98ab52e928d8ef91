set_option maxHeartbeats 8000000 in
set_option maxRecDepth 100000 in
theorem lw_turn {p : Program} {l : Launch} {e : Env} {s U : State} {m : MethodId} {below : List Frame} {meth : Method} {c : Code} {b : Nat} {Lc L : Lay} {ls : Array Slot} {X : SS} {hh : List SS} {σ : Me} {H : Heap} {locs : List Loc} {tn : Nat} {v13 : Int32} (S : CallFix p m c cL_law 24 U #[Value.ref b] qA RL) (hV : VA (fun q => U.heap.size ≤ q) Lc L) (hK : Kn9 Lc L U) (h : HdA (fun q => U.heap.size ≤ q) Lc L X hh U.heap H σ locs) (hI : IV X σ) (hB : BD X) {d kn : Nat} (hd : d < 2) (hkn : kn < 9) (c0 : (X.2.2 0).1.length + (X.2.2 0).2.1.length ≤ 13) (c1 : (X.2.2 1).1.length + (X.2.2 1).2.1.length ≤ 13) (c2 : (X.2.2 0).2.2.1.length + (X.2.2 1).2.2.1.length ≤ 34) (hl : lv_has ls 24 [(13, .int v13), (12, .int (nI tn)), (11, .ref (ad L 9)), (10, .ref (ad L 8)), (9, .ref (ad L 7)), (8, .ref (ad L 6)), (7, .ref (ad L 5)), (6, .ref (ad L 4)), (5, .ref (ad L 3)), (4, .ref (ad L 2)), (3, .ref (ad L 1)), (2, .ref (ad L 0)), (1, .ref (ad Lc 244)), (0, .ref b), (14, .int (nI kn)), (15, .int (nI d)), (16, .ref (ad L (1 + d))), (17, .ref (ad L (3 + d))), (18, .ref (ad L (5 + d))), (19, .ref (ad L (7 + d)))]) (T : ∀ (X2 : SS) (hh2 : List SS) (σ2 : Me) (H : Heap) (locs : List Loc) (ls : Array Slot), HdA (fun q => U.heap.size ≤ q) Lc L X2 hh2 U.heap H σ2 locs → IV X2 σ2 → BD X2 → lv_has ls 24 [(13, .int v13), (12, .int (nI tn)), (11, .ref (ad L 9)), (10, .ref (ad L 8)), (9, .ref (ad L 7)), (8, .ref (ad L 6)), (7, .ref (ad L 5)), (6, .ref (ad L 4)), (5, .ref (ad L 3)), (4, .ref (ad L 2)), (3, .ref (ad L 1)), (2, .ref (ad L 0)), (1, .ref (ad Lc 244)), (0, .ref b)] → W p l e room_1 U m #[Value.ref b] below meth c H locs 600000 7302250 (lw_Z below #[Value.ref b] s) (F0 m 639 ls [])) (E : ∀ (H : Heap) (locs : List Loc) (ls : Array Slot), va_S (fun q => U.heap.size ≤ q) U.heap H locs → W p l e room_1 U m #[Value.ref b] below meth c H locs 600000 7302250 (lw_Z below #[Value.ref b] s) (F0 m 752 ls [])) : W p l e room_1 U m #[Value.ref b] below meth c H locs 600000 7302250 (lw_Z below #[Value.ref b] s) (F0 m 209 ls []) := by
  have hx := S.1
  have hb := S.2.1
  have hF := hI.1
  have e00 := hI.2.2.2.1
  have e01 := hI.2.2.2.2
  have hd3 : d < 3 := by omega
  have cD : (X.2.2 d).1.length + (X.2.2 d).2.1.length ≤ 13 := by rcases (show d = 0 ∨ d = 1 by omega) with rfl | rfl; exact c0; exact c1
  have cV : (X.2.2 d).2.2.1.length ≤ 34 := by rcases (show d = 0 ∨ d = 1 by omega) with rfl | rfl <;> omega
  refine lv_iload hx hb dL_law_209 (lv_at hl 14 rfl) ?_
  refine lv_bipush (v := (nI 6)) hx hb dL_law_211 (by decide) ?_
  refine b_icmp_ge (tgt := 333) hx hb dL_law_213 (by decide) (by omega) (by omega) (fun c_213 => ?_) (fun c_213 => ?_)
  · refine lv_iload hx hb dL_law_333 (lv_at hl 14 rfl) ?_
    refine lv_bipush (v := (nI 6)) hx hb dL_law_335 (by decide) ?_
    refine b_icmp_ne (tgt := 365) hx hb dL_law_337 (by decide) (by omega) (by omega) (fun c_337 => ?_) (fun c_337 => ?_)
    · refine lv_iload hx hb dL_law_365 (lv_at hl 14 rfl) ?_
      refine lv_bipush (v := (nI 7)) hx hb dL_law_367 (by decide) ?_
      refine b_icmp_ne (tgt := 442) hx hb dL_law_369 (by decide) (by omega) (by omega) (fun c_369 => ?_) (fun c_369 => ?_)
      · rcases (show d = 0 ∨ d = 1 by omega) with rfl | rfl
        · exact lw_join_0 S hV hK h hI hB c0 c1 c2 (lv_sub hl [0, 1, 2, 3, 4, 5, 6, 7, 8, 9, 10, 11, 12, 13, 15, 16, 17, 18, 19] rfl) T E
        · exact lw_join_1 S hV hK h hI hB c0 c1 c2 (lv_sub hl [0, 1, 2, 3, 4, 5, 6, 7, 8, 9, 10, 11, 12, 13, 15, 16, 17, 18, 19] rfl) T E
      · refine lv_iload hx hb dL_law_372 (lv_at hl 0 rfl) ?_
        refine lv_iconst (v := (nI 5)) hx hb dL_law_374 (by decide) ?_
        refine lv_ishr hx hb dL_law_375 ?_
        refine lv_iconst (v := (nI 2)) hx hb dL_law_376 (by decide) ?_
        refine k_S1 S hV hK h [.int (v13 >>> ((nI 5) &&& 31)), .int (nI 2)] (c_L_low l Lc L X hh σ (n := 2) (by omega) (by omega) (v13 >>> ((nI 5) &&& 31))) q_389 q_390 q_0 q_391 yd_L_low rfl ⟨⟨rfl, rfl⟩, ⟨(Nat.le_of_ble_eq_true rfl), (Nat.le_of_ble_eq_true rfl)⟩, (Nat.le_of_ble_eq_true rfl), (Nat.le_of_ble_eq_true rfl)⟩ rfl (Nat.le_of_ble_eq_true rfl) hl.1 dL_law_377 (fun H locs h => ?_)
        obtain ⟨w9, ew9⟩ : ∃ z, z = lowN (v13 >>> (nI 5 &&& 31)) 2 := ⟨_, rfl⟩
        have hw9 : w9 < 2 := by rw [ew9]; exact lowN_lt (by omega)
        refine cv_i (show (nI (lowN (v13 >>> ((nI 5) &&& 31)) 2) : Int32) = nI w9 from (by rw [ew9])) ?_
        refine lv_istore (lv' := [(20, .int (nI w9)), (13, .int v13), (12, .int (nI tn)), (11, .ref (ad L 9)), (10, .ref (ad L 8)), (9, .ref (ad L 7)), (8, .ref (ad L 6)), (7, .ref (ad L 5)), (6, .ref (ad L 4)), (5, .ref (ad L 3)), (4, .ref (ad L 2)), (3, .ref (ad L 1)), (2, .ref (ad L 0)), (1, .ref (ad Lc 244)), (0, .ref b), (14, .int (nI kn)), (15, .int (nI d)), (16, .ref (ad L (1 + d))), (17, .ref (ad L (3 + d))), (18, .ref (ad L (5 + d))), (19, .ref (ad L (7 + d)))]) hx hb dL_law_380 hl (by decide) rfl (fun ls hl => ?_)
        have CT_416 : ∀ (va : Nat) (H : Heap) (locs : List Loc) (ls : Array Slot), (1 ≤ va) → (va ≤ 12) → HdA (fun q => U.heap.size ≤ q) Lc L X hh U.heap H σ locs → lv_has ls 24 [(13, .int v13), (12, .int (nI tn)), (11, .ref (ad L 9)), (10, .ref (ad L 8)), (9, .ref (ad L 7)), (8, .ref (ad L 6)), (7, .ref (ad L 5)), (6, .ref (ad L 4)), (5, .ref (ad L 3)), (4, .ref (ad L 2)), (3, .ref (ad L 1)), (2, .ref (ad L 0)), (1, .ref (ad Lc 244)), (0, .ref b), (15, .int (nI d)), (16, .ref (ad L (1 + d))), (17, .ref (ad L (3 + d))), (18, .ref (ad L (5 + d))), (19, .ref (ad L (7 + d))), (20, .int (nI w9)), (21, .int (nI va))] → W p l e room_1 U m #[Value.ref b] below meth c H locs 600000 7302250 (lw_Z below #[Value.ref b] s) (F0 m 416 ls []) := by
          intro va H locs ls hva hvb h hl
          refine lv_aload_n hx hb dL_law_416 rfl (lv_at hl 12 rfl) ?_
          refine lv_iload hx hb dL_law_417 (lv_at hl 19 rfl) ?_
          refine lv_iload hx hb dL_law_419 (lv_at hl 20 rfl) ?_
          refine k_C (v := ([X.1, X.2.1].getD w9 0)) (X' := (setS X w9 (nI va))) (hh' := (recH hh X)) S hV hK h [.int (nI w9), .int (nI va)] (t_sett hF hw9 hva (by omega)) q_357 q_358 q_359 q_1 q_360 yd_X7_set rfl ⟨⟨rfl, rfl⟩, ⟨(Nat.le_of_ble_eq_true rfl), (Nat.le_of_ble_eq_true rfl)⟩, (Nat.le_of_ble_eq_true rfl), (Nat.le_of_ble_eq_true rfl)⟩ rfl (Nat.le_of_ble_eq_true rfl) hl.1 dL_law_421 (fun H locs h => ?_)
          refine lv_aload_n hx hb dL_law_424 rfl (lv_at hl 11 rfl) ?_
          refine lv_iload hx hb dL_law_425 (lv_at hl 19 rfl) ?_
          refine g9_el (n := 2) S hK h (by decide) rfl (by omega) dL_law_427 ?_
          refine cv_i (show (σ 0 w9 : Int32) = [X.1, X.2.1].getD w9 0 from (set_get hI hw9)) ?_
          refine lv_icmp_eq (tgt := 433) hx hb dL_law_428 (by decide) (fun c_428 => ?_) (fun c_428 => absurd c_428 (fun z => z rfl))
          refine lv_aload_n hx hb dL_law_433 rfl (lv_at hl 11 rfl) ?_
          refine lv_iload hx hb dL_law_434 (lv_at hl 19 rfl) ?_
          refine lv_iload hx hb dL_law_436 (lv_at hl 20 rfl) ?_
          refine p9_el (n := 2) S hV hK h (by decide) rfl (by omega) dL_law_438 (fun H locs h => ?_)
          refine lv_goto (tgt := 639) hx hb dL_law_439 (by decide) ?_
          exact T (setS X w9 (nI va)) (recH hh X) _ _ _ _ h (IV_set hI hw9 (FX_set hF hw9 (by omega))) (BD_set hB) (lv_sub hl [0, 1, 2, 3, 4, 5, 6, 7, 8, 9, 10, 11, 12, 13] rfl)
        refine lv_iload hx hb dL_law_382 (lv_at hl 0 rfl) ?_
        refine b_if_ne (tgt := 402) hx hb dL_law_384 (by decide) (by omega) (fun c_384 => ?_) (fun c_384 => ?_)
        · refine lv_iconst (v := (nI 1)) hx hb dL_law_402 (by decide) ?_
          refine lv_iload hx hb dL_law_403 (lv_at hl 1 rfl) ?_
          refine lv_bipush (v := (nI 7)) hx hb dL_law_405 (by decide) ?_
          refine lv_ishr hx hb dL_law_407 ?_
          refine lv_bipush (v := (nI 8)) hx hb dL_law_408 (by decide) ?_
          refine k_S1 S hV hK h [.int (v13 >>> ((nI 7) &&& 31)), .int (nI 8)] (c_L_low l Lc L X hh σ (n := 8) (by omega) (by omega) (v13 >>> ((nI 7) &&& 31))) q_389 q_390 q_0 q_391 yd_L_low rfl ⟨⟨rfl, rfl⟩, ⟨(Nat.le_of_ble_eq_true rfl), (Nat.le_of_ble_eq_true rfl)⟩, (Nat.le_of_ble_eq_true rfl), (Nat.le_of_ble_eq_true rfl)⟩ rfl (Nat.le_of_ble_eq_true rfl) hl.1 dL_law_410 (fun H locs h => ?_)
          have z6 := lowN_lt (v := v13 >>> (nI 7 &&& 31)) (n := 8) (by omega)
          refine a_iadd hx hb dL_law_413 ?_
          refine lv_istore (lv' := [(21, .int (nI (1 + (lowN (v13 >>> ((nI 7) &&& 31)) 8)))), (20, .int (nI w9)), (13, .int v13), (12, .int (nI tn)), (11, .ref (ad L 9)), (10, .ref (ad L 8)), (9, .ref (ad L 7)), (8, .ref (ad L 6)), (7, .ref (ad L 5)), (6, .ref (ad L 4)), (5, .ref (ad L 3)), (4, .ref (ad L 2)), (3, .ref (ad L 1)), (2, .ref (ad L 0)), (1, .ref (ad Lc 244)), (0, .ref b), (14, .int (nI kn)), (15, .int (nI d)), (16, .ref (ad L (1 + d))), (17, .ref (ad L (3 + d))), (18, .ref (ad L (5 + d))), (19, .ref (ad L (7 + d)))]) hx hb dL_law_414 hl (by decide) rfl (fun ls hl => ?_)
          exact CT_416 (1 + (lowN (v13 >>> ((nI 7) &&& 31)) 8)) _ _ _ (by omega) (by omega) h (lv_sub hl [2, 3, 4, 5, 6, 7, 8, 9, 10, 11, 12, 13, 14, 15, 17, 18, 19, 20, 21, 1, 0] rfl)
        · refine lv_iconst (v := (nI 1)) hx hb dL_law_387 (by decide) ?_
          refine lv_iload hx hb dL_law_388 (lv_at hl 1 rfl) ?_
          refine lv_bipush (v := (nI 7)) hx hb dL_law_390 (by decide) ?_
          refine lv_ishr hx hb dL_law_392 ?_
          refine lv_bipush (v := (nI 12)) hx hb dL_law_393 (by decide) ?_
          refine k_S1 S hV hK h [.int (v13 >>> ((nI 7) &&& 31)), .int (nI 12)] (c_L_low l Lc L X hh σ (n := 12) (by omega) (by omega) (v13 >>> ((nI 7) &&& 31))) q_389 q_390 q_0 q_391 yd_L_low rfl ⟨⟨rfl, rfl⟩, ⟨(Nat.le_of_ble_eq_true rfl), (Nat.le_of_ble_eq_true rfl)⟩, (Nat.le_of_ble_eq_true rfl), (Nat.le_of_ble_eq_true rfl)⟩ rfl (Nat.le_of_ble_eq_true rfl) hl.1 dL_law_395 (fun H locs h => ?_)
          have z5 := lowN_lt (v := v13 >>> (nI 7 &&& 31)) (n := 12) (by omega)
          refine a_iadd hx hb dL_law_398 ?_
          refine lv_goto (tgt := 414) hx hb dL_law_399 (by decide) ?_
          refine lv_istore (lv' := [(21, .int (nI (1 + (lowN (v13 >>> ((nI 7) &&& 31)) 12)))), (20, .int (nI w9)), (13, .int v13), (12, .int (nI tn)), (11, .ref (ad L 9)), (10, .ref (ad L 8)), (9, .ref (ad L 7)), (8, .ref (ad L 6)), (7, .ref (ad L 5)), (6, .ref (ad L 4)), (5, .ref (ad L 3)), (4, .ref (ad L 2)), (3, .ref (ad L 1)), (2, .ref (ad L 0)), (1, .ref (ad Lc 244)), (0, .ref b), (14, .int (nI kn)), (15, .int (nI d)), (16, .ref (ad L (1 + d))), (17, .ref (ad L (3 + d))), (18, .ref (ad L (5 + d))), (19, .ref (ad L (7 + d)))]) hx hb dL_law_414 hl (by decide) rfl (fun ls hl => ?_)
          exact CT_416 (1 + (lowN (v13 >>> ((nI 7) &&& 31)) 12)) _ _ _ (by omega) (by omega) h (lv_sub hl [2, 3, 4, 5, 6, 7, 8, 9, 10, 11, 12, 13, 14, 15, 17, 18, 19, 20, 21, 1, 0] rfl)
    · refine lv_aload hx hb dL_law_340 (lv_at hl 16 rfl) ?_
      refine lv_aload hx hb dL_law_342 (lv_at hl 17 rfl) ?_
      refine lv_aload hx hb dL_law_344 (lv_at hl 19 rfl) ?_
      refine lv_aload_n hx hb dL_law_346 rfl (lv_at hl 11 rfl) ?_
      refine k_SR S hV hK h [.ref (ad L (1 + d)), .ref (ad L (3 + d)), .ref (ad L (7 + d)), .ref (ad L 0)] (c_L_pack l Lc L X hh σ hd (hI.2.1 d hd) (hF.1.1 d hd3) (by omega)) q_402 q_403 q_0 q_404 yd_L_pack rfl ⟨⟨rfl, rfl⟩, ⟨(Nat.le_of_ble_eq_true rfl), (Nat.le_of_ble_eq_true rfl)⟩, (Nat.le_of_ble_eq_true rfl), (Nat.le_of_ble_eq_true rfl)⟩ rfl (Nat.le_of_ble_eq_true rfl) hl.1 dL_law_347 (fun σ8 H locs hp9 h => ?_)
      obtain ⟨hLD8, ho8⟩ := hp9
      rw [e00] at hLD8
      have k0 := pkD_len (f := X.1) (D := (X.2.2 d))
      refine lv_aload_n hx hb dL_law_350 rfl (lv_at hl 12 rfl) ?_
      refine lv_iload hx hb dL_law_351 (lv_at hl 15 rfl) ?_
      refine k_C (v := (nI ((pkD X.1 (X.2.2 d)).1.length))) (X' := (setD X d (pkD X.1 (X.2.2 d)))) (hh' := (recH hh X)) S hV hK h [.int (nI d)] (t_pack hF hd3) q_334 q_335 q_336 q_1 q_337 yd_X7_pack rfl ⟨⟨rfl, rfl⟩, ⟨(Nat.le_of_ble_eq_true rfl), (Nat.le_of_ble_eq_true rfl)⟩, (Nat.le_of_ble_eq_true rfl), (Nat.le_of_ble_eq_true rfl)⟩ rfl (Nat.le_of_ble_eq_true rfl) hl.1 dL_law_353 (fun H locs h => ?_)
      refine lv_aload hx hb dL_law_356 (lv_at hl 19 rfl) ?_
      refine lv_iconst (v := (nI 0)) hx hb dL_law_358 (by decide) ?_
      refine g9_el (n := 4) S hK h (by omega) (ln9_7 hd) (by omega) dL_law_359 ?_
      refine cv_i (show (σ8 (7 + d) 0 : Int32) = nI ((pkD X.1 (X.2.2 d)).1.length) from hLD8.2.2.2.1) ?_
      refine lv_icmp_eq (tgt := 639) hx hb dL_law_360 (by decide) (fun c_360 => ?_) (fun c_360 => absurd c_360 (fun z => z rfl))
      exact T (setD X d (pkD X.1 (X.2.2 d))) (recH hh X) _ _ _ _ h (IV_setD hI hd (FX_pack hF hd3) hLD8 (fun q q1 _ _ q7 => ho8 q q1 q7)) (BD_setD hB (by show (pkD X.1 (X.2.2 d)).1.length + 0 ≤ 16; omega) (by show (X.2.2 d).2.2.1.length ≤ 40; omega)) (lv_sub hl [0, 1, 2, 3, 4, 5, 6, 7, 8, 9, 10, 11, 12, 13] rfl)
  · have CT_252 : ∀ (vv : Nat) (H : Heap) (locs : List Loc) (ls : Array Slot), (vv ≤ 9999) → HdA (fun q => U.heap.size ≤ q) Lc L X hh U.heap H σ locs → lv_has ls 24 [(13, .int v13), (12, .int (nI tn)), (11, .ref (ad L 9)), (10, .ref (ad L 8)), (9, .ref (ad L 7)), (8, .ref (ad L 6)), (7, .ref (ad L 5)), (6, .ref (ad L 4)), (5, .ref (ad L 3)), (4, .ref (ad L 2)), (3, .ref (ad L 1)), (2, .ref (ad L 0)), (1, .ref (ad Lc 244)), (0, .ref b), (15, .int (nI d)), (16, .ref (ad L (1 + d))), (17, .ref (ad L (3 + d))), (18, .ref (ad L (5 + d))), (19, .ref (ad L (7 + d))), (20, .int (nI vv))] → W p l e room_1 U m #[Value.ref b] below meth c H locs 600000 7302250 (lw_Z below #[Value.ref b] s) (F0 m 252 ls []) := by
      intro vv H locs ls hvv h hl
      refine lv_iload hx hb dL_law_252 (lv_at hl 0 rfl) ?_
      have CT_281 : ∀ (tm : Nat) (H : Heap) (locs : List Loc) (ls : Array Slot), (1 ≤ tm) → (tm ≤ 3) → HdA (fun q => U.heap.size ≤ q) Lc L X hh U.heap H σ locs → lv_has ls 24 [(13, .int v13), (12, .int (nI tn)), (11, .ref (ad L 9)), (10, .ref (ad L 8)), (9, .ref (ad L 7)), (8, .ref (ad L 6)), (7, .ref (ad L 5)), (6, .ref (ad L 4)), (5, .ref (ad L 3)), (4, .ref (ad L 2)), (3, .ref (ad L 1)), (2, .ref (ad L 0)), (1, .ref (ad Lc 244)), (0, .ref b), (15, .int (nI d)), (16, .ref (ad L (1 + d))), (17, .ref (ad L (3 + d))), (18, .ref (ad L (5 + d))), (19, .ref (ad L (7 + d))), (20, .int (nI vv)), (21, .int (nI tm))] → W p l e room_1 U m #[Value.ref b] below meth c H locs 600000 7302250 (lw_Z below #[Value.ref b] s) (F0 m 281 ls []) := by
        intro tm H locs ls htm htn h hl
        refine lv_iconst (v := (nI 0)) hx hb dL_law_281 (by decide) ?_
        refine lv_istore (lv' := [(22, .int (nI 0)), (13, .int v13), (12, .int (nI tn)), (11, .ref (ad L 9)), (10, .ref (ad L 8)), (9, .ref (ad L 7)), (8, .ref (ad L 6)), (7, .ref (ad L 5)), (6, .ref (ad L 4)), (5, .ref (ad L 3)), (4, .ref (ad L 2)), (3, .ref (ad L 1)), (2, .ref (ad L 0)), (1, .ref (ad Lc 244)), (0, .ref b), (15, .int (nI d)), (16, .ref (ad L (1 + d))), (17, .ref (ad L (3 + d))), (18, .ref (ad L (5 + d))), (19, .ref (ad L (7 + d))), (20, .int (nI vv)), (21, .int (nI tm))]) hx hb dL_law_282 hl (by decide) rfl (fun ls hl => ?_)
        have LP_284 : ∀ (n_284 : Nat) (k : Nat) (σ1 : Me), (k ≤ tm) → (LD σ1 d (rcvMN X.1 X.2.1 (X.2.2 d) (nI vv) k)) → (∀ q, q ≠ 1 + d → q ≠ 3 + d → q ≠ 5 + d → q ≠ 7 + d → σ1 q = σ q) → tm - k < n_284 → ∀ (H : Heap) (locs : List Loc) (ls : Array Slot), HdA (fun q => U.heap.size ≤ q) Lc L X hh U.heap H σ1 locs → lv_has ls 24 [(13, .int v13), (12, .int (nI tn)), (11, .ref (ad L 9)), (10, .ref (ad L 8)), (9, .ref (ad L 7)), (8, .ref (ad L 6)), (7, .ref (ad L 5)), (6, .ref (ad L 4)), (5, .ref (ad L 3)), (4, .ref (ad L 2)), (3, .ref (ad L 1)), (2, .ref (ad L 0)), (1, .ref (ad Lc 244)), (0, .ref b), (15, .int (nI d)), (16, .ref (ad L (1 + d))), (17, .ref (ad L (3 + d))), (18, .ref (ad L (5 + d))), (19, .ref (ad L (7 + d))), (20, .int (nI vv)), (21, .int (nI tm)), (22, .int (nI k))] → W p l e room_1 U m #[Value.ref b] below meth c H locs 600000 7302250 (lw_Z below #[Value.ref b] s) (F0 m 284 ls []) := by
          intro n_284
          induction n_284 with
          | zero => intro k σ1; intros; omega
          | succ n_284 ih_284 =>
            intro k σ1 hk hLD ho hm_284 H locs ls h hl
            obtain ⟨g1, g2⟩ := GD_rcvMN (s0 := X.1) (hF.1.1 d hd3) hF.1.2 (⟨vv, hvv, rfl⟩ : Vn (nI vv)) k (by omega)
            have g3 := rcvMN_sz (s0 := X.1) (s1 := X.2.1) (v := nI vv) (D := (X.2.2 d)) k
            have g0 := ho 0 (by omega) (by omega) (by omega) (by omega)
            refine lv_iload hx hb dL_law_284 (lv_at hl 21 rfl) ?_
            refine lv_iload hx hb dL_law_286 (lv_at hl 20 rfl) ?_
            refine b_icmp_ge (tgt := 311) hx hb dL_law_288 (by decide) (by omega) (by omega) (fun c_288 => ?_) (fun c_288 => ?_)
            · have e4 : k = tm := by omega
              rw [e4] at hLD g1 g2 g3
              refine lv_aload_n hx hb dL_law_311 rfl (lv_at hl 12 rfl) ?_
              refine lv_iload hx hb dL_law_312 (lv_at hl 14 rfl) ?_
              refine lv_iload hx hb dL_law_314 (lv_at hl 19 rfl) ?_
              refine lv_iload hx hb dL_law_316 (lv_at hl 20 rfl) ?_
              refine k_C (v := (nI ((X.2.2 d).2.2.1.length + tm))) (X' := (setD X d (rcvMN X.1 X.2.1 (X.2.2 d) (nI vv) tm))) (hh' := (recH hh X)) S hV hK h [.int (nI d), .int (nI vv), .int (nI tm)] (t_add hF hd3 hvv htm (by omega) (by omega)) q_192 q_193 q_194 q_1 q_195 yd_X7_add rfl ⟨⟨rfl, rfl⟩, ⟨(Nat.le_of_ble_eq_true rfl), (Nat.le_of_ble_eq_true rfl)⟩, (Nat.le_of_ble_eq_true rfl), (Nat.le_of_ble_eq_true rfl)⟩ rfl (Nat.le_of_ble_eq_true rfl) hl.1 dL_law_318 (fun H locs h => ?_)
              refine lv_aload hx hb dL_law_321 (lv_at hl 18 rfl) ?_
              refine lv_iconst (v := (nI 2)) hx hb dL_law_323 (by decide) ?_
              refine g9_el (n := 4) S hK h (by omega) (ln9_7 hd) (by omega) dL_law_324 ?_
              refine cv_i (show (σ1 (7 + d) 2 : Int32) = nI ((X.2.2 d).2.2.1.length + tm) from (by rw [hLD.2.2.2.2.2.1, g2])) ?_
              refine lv_icmp_eq (tgt := 330) hx hb dL_law_325 (by decide) (fun c_325 => ?_) (fun c_325 => absurd c_325 (fun z => z rfl))
              refine lv_goto (tgt := 639) hx hb dL_law_330 (by decide) ?_
              exact T (setD X d (rcvMN X.1 X.2.1 (X.2.2 d) (nI vv) tm)) (recH hh X) _ _ _ _ h (IV_setD hI hd (FX_add hF hd3 hvv (by omega)) hLD ho) (BD_setD hB (by omega) (by omega)) (lv_sub hl [0, 1, 2, 3, 4, 5, 6, 7, 8, 9, 10, 11, 12, 13] rfl)
            · refine lv_iload hx hb dL_law_291 (lv_at hl 19 rfl) ?_
              refine lv_aload hx hb dL_law_293 (lv_at hl 15 rfl) ?_
              refine lv_aload hx hb dL_law_295 (lv_at hl 16 rfl) ?_
              refine lv_aload hx hb dL_law_297 (lv_at hl 17 rfl) ?_
              refine lv_aload hx hb dL_law_299 (lv_at hl 18 rfl) ?_
              refine lv_aload_n hx hb dL_law_301 rfl (lv_at hl 11 rfl) ?_
              refine k_SR S hV hK h [.int (nI vv), .ref (ad L (1 + d)), .ref (ad L (3 + d)), .ref (ad L (5 + d)), .ref (ad L (7 + d)), .ref (ad L 0)] (c_L_comes l Lc L X hh σ1 hd hLD g1 (by omega) (by omega) (by rw [g0, e01]; exact hF.1.2) (nI vv)) q_405 q_406 q_0 q_407 yd_L_comes rfl ⟨⟨rfl, rfl⟩, ⟨(Nat.le_of_ble_eq_true rfl), (Nat.le_of_ble_eq_true rfl)⟩, (Nat.le_of_ble_eq_true rfl), (Nat.le_of_ble_eq_true rfl)⟩ rfl (Nat.le_of_ble_eq_true rfl) hl.1 dL_law_302 (fun σ8 H locs hp9 h => ?_)
              obtain ⟨hLD8, ho8⟩ := hp9
              rw [g0, e00, e01] at hLD8
              refine lv_iinc (v := (nI (k + 1))) (lv' := [(22, .int (nI (k + 1))), (13, .int v13), (12, .int (nI tn)), (11, .ref (ad L 9)), (10, .ref (ad L 8)), (9, .ref (ad L 7)), (8, .ref (ad L 6)), (7, .ref (ad L 5)), (6, .ref (ad L 4)), (5, .ref (ad L 3)), (4, .ref (ad L 2)), (3, .ref (ad L 1)), (2, .ref (ad L 0)), (1, .ref (ad Lc 244)), (0, .ref b), (15, .int (nI d)), (16, .ref (ad L (1 + d))), (17, .ref (ad L (3 + d))), (18, .ref (ad L (5 + d))), (19, .ref (ad L (7 + d))), (20, .int (nI vv)), (21, .int (nI tm))]) hx hb dL_law_305 hl (k := 21) rfl (iinc_1 _) (by decide) rfl (fun ls hl => ?_)
              refine lv_goto (tgt := 284) hx hb dL_law_308 (by decide) ?_
              exact ih_284 (k + 1) σ8 (by omega) hLD8 (fun q q1 q3 q5 q7 => (ho8 q q1 q3 q5 q7).trans (ho q q1 q3 q5 q7)) (by omega) _ _ _ h (lv_sub hl [1, 2, 3, 4, 5, 6, 7, 8, 9, 10, 11, 12, 13, 14, 15, 16, 17, 18, 19, 20, 21, 0] rfl)
        exact LP_284 _ 0 σ (by omega) (hI.2.1 d hd) (fun _ _ _ _ _ => rfl) (Nat.lt_succ_self _) _ _ _ h (lv_sub hl [1, 2, 3, 4, 5, 6, 7, 8, 9, 10, 11, 12, 13, 14, 15, 16, 17, 18, 19, 20, 21, 0] rfl)
      refine lv_bipush (v := (nI 11)) hx hb dL_law_254 (by decide) ?_
      refine lv_ishr hx hb dL_law_256 ?_
      refine lv_iconst (v := (nI 4)) hx hb dL_law_257 (by decide) ?_
      refine k_S1 S hV hK h [.int (v13 >>> ((nI 11) &&& 31)), .int (nI 4)] (c_L_low l Lc L X hh σ (n := 4) (by omega) (by omega) (v13 >>> ((nI 11) &&& 31))) q_389 q_390 q_0 q_391 yd_L_low rfl ⟨⟨rfl, rfl⟩, ⟨(Nat.le_of_ble_eq_true rfl), (Nat.le_of_ble_eq_true rfl)⟩, (Nat.le_of_ble_eq_true rfl), (Nat.le_of_ble_eq_true rfl)⟩ rfl (Nat.le_of_ble_eq_true rfl) hl.1 dL_law_258 (fun H locs h => ?_)
      have z3 := lowN_lt (v := v13 >>> (nI 11 &&& 31)) (n := 4) (by omega)
      refine b_if_ne (tgt := 278) hx hb dL_law_261 (by decide) (by omega) (fun c_261 => ?_) (fun c_261 => ?_)
      · refine lv_iconst (v := (nI 1)) hx hb dL_law_278 (by decide) ?_
        refine lv_istore (lv' := [(21, .int (nI 1)), (13, .int v13), (12, .int (nI tn)), (11, .ref (ad L 9)), (10, .ref (ad L 8)), (9, .ref (ad L 7)), (8, .ref (ad L 6)), (7, .ref (ad L 5)), (6, .ref (ad L 4)), (5, .ref (ad L 3)), (4, .ref (ad L 2)), (3, .ref (ad L 1)), (2, .ref (ad L 0)), (1, .ref (ad Lc 244)), (0, .ref b), (15, .int (nI d)), (16, .ref (ad L (1 + d))), (17, .ref (ad L (3 + d))), (18, .ref (ad L (5 + d))), (19, .ref (ad L (7 + d))), (20, .int (nI vv))]) hx hb dL_law_279 hl (by decide) rfl (fun ls hl => ?_)
        exact CT_281 1 _ _ _ (by omega) (by omega) h (lv_sub hl [1, 2, 3, 4, 5, 6, 7, 8, 9, 10, 11, 12, 13, 14, 15, 16, 17, 18, 19, 20, 0] rfl)
      · refine lv_iconst (v := (nI 2)) hx hb dL_law_264 (by decide) ?_
        refine lv_iload hx hb dL_law_265 (lv_at hl 0 rfl) ?_
        refine lv_bipush (v := (nI 13)) hx hb dL_law_267 (by decide) ?_
        refine lv_ishr hx hb dL_law_269 ?_
        refine lv_iconst (v := (nI 2)) hx hb dL_law_270 (by decide) ?_
        refine k_S1 S hV hK h [.int (v13 >>> ((nI 13) &&& 31)), .int (nI 2)] (c_L_low l Lc L X hh σ (n := 2) (by omega) (by omega) (v13 >>> ((nI 13) &&& 31))) q_389 q_390 q_0 q_391 yd_L_low rfl ⟨⟨rfl, rfl⟩, ⟨(Nat.le_of_ble_eq_true rfl), (Nat.le_of_ble_eq_true rfl)⟩, (Nat.le_of_ble_eq_true rfl), (Nat.le_of_ble_eq_true rfl)⟩ rfl (Nat.le_of_ble_eq_true rfl) hl.1 dL_law_271 (fun H locs h => ?_)
        have z4 := lowN_lt (v := v13 >>> (nI 13 &&& 31)) (n := 2) (by omega)
        refine a_iadd hx hb dL_law_274 ?_
        refine lv_goto (tgt := 279) hx hb dL_law_275 (by decide) ?_
        refine lv_istore (lv' := [(21, .int (nI (2 + (lowN (v13 >>> ((nI 13) &&& 31)) 2)))), (13, .int v13), (12, .int (nI tn)), (11, .ref (ad L 9)), (10, .ref (ad L 8)), (9, .ref (ad L 7)), (8, .ref (ad L 6)), (7, .ref (ad L 5)), (6, .ref (ad L 4)), (5, .ref (ad L 3)), (4, .ref (ad L 2)), (3, .ref (ad L 1)), (2, .ref (ad L 0)), (1, .ref (ad Lc 244)), (0, .ref b), (15, .int (nI d)), (16, .ref (ad L (1 + d))), (17, .ref (ad L (3 + d))), (18, .ref (ad L (5 + d))), (19, .ref (ad L (7 + d))), (20, .int (nI vv))]) hx hb dL_law_279 hl (by decide) rfl (fun ls hl => ?_)
        exact CT_281 (2 + (lowN (v13 >>> ((nI 13) &&& 31)) 2)) _ _ _ (by omega) (by omega) h (lv_sub hl [1, 2, 3, 4, 5, 6, 7, 8, 9, 10, 11, 12, 13, 14, 15, 16, 17, 18, 19, 20, 0] rfl)
    refine lv_iload hx hb dL_law_216 (lv_at hl 0 rfl) ?_
    refine lv_bipush (v := (nI 9)) hx hb dL_law_218 (by decide) ?_
    refine lv_ishr hx hb dL_law_220 ?_
    refine lv_iconst (v := (nI 3)) hx hb dL_law_221 (by decide) ?_
    refine k_S1 S hV hK h [.int (v13 >>> ((nI 9) &&& 31)), .int (nI 3)] (c_L_low l Lc L X hh σ (n := 3) (by omega) (by omega) (v13 >>> ((nI 9) &&& 31))) q_389 q_390 q_0 q_391 yd_L_low rfl ⟨⟨rfl, rfl⟩, ⟨(Nat.le_of_ble_eq_true rfl), (Nat.le_of_ble_eq_true rfl)⟩, (Nat.le_of_ble_eq_true rfl), (Nat.le_of_ble_eq_true rfl)⟩ rfl (Nat.le_of_ble_eq_true rfl) hl.1 dL_law_222 (fun H locs h => ?_)
    have z0 := lowN_lt (v := v13 >>> (nI 9 &&& 31)) (n := 3) (by omega)
    refine b_if_ne (tgt := 241) hx hb dL_law_225 (by decide) (by omega) (fun c_225 => ?_) (fun c_225 => ?_)
    · refine lv_iload hx hb dL_law_241 (lv_at hl 0 rfl) ?_
      refine lv_iconst (v := (nI 5)) hx hb dL_law_243 (by decide) ?_
      refine lv_ishr hx hb dL_law_244 ?_
      refine lv_bipush (v := (nI 40)) hx hb dL_law_245 (by decide) ?_
      refine k_S1 S hV hK h [.int (v13 >>> ((nI 5) &&& 31)), .int (nI 40)] (c_L_low l Lc L X hh σ (n := 40) (by omega) (by omega) (v13 >>> ((nI 5) &&& 31))) q_389 q_390 q_0 q_391 yd_L_low rfl ⟨⟨rfl, rfl⟩, ⟨(Nat.le_of_ble_eq_true rfl), (Nat.le_of_ble_eq_true rfl)⟩, (Nat.le_of_ble_eq_true rfl), (Nat.le_of_ble_eq_true rfl)⟩ rfl (Nat.le_of_ble_eq_true rfl) hl.1 dL_law_247 (fun H locs h => ?_)
      have z2 := lowN_lt (v := v13 >>> (nI 5 &&& 31)) (n := 40) (by omega)
      refine lv_istore (lv' := [(20, .int (nI (lowN (v13 >>> ((nI 5) &&& 31)) 40))), (13, .int v13), (12, .int (nI tn)), (11, .ref (ad L 9)), (10, .ref (ad L 8)), (9, .ref (ad L 7)), (8, .ref (ad L 6)), (7, .ref (ad L 5)), (6, .ref (ad L 4)), (5, .ref (ad L 3)), (4, .ref (ad L 2)), (3, .ref (ad L 1)), (2, .ref (ad L 0)), (1, .ref (ad Lc 244)), (0, .ref b), (14, .int (nI kn)), (15, .int (nI d)), (16, .ref (ad L (1 + d))), (17, .ref (ad L (3 + d))), (18, .ref (ad L (5 + d))), (19, .ref (ad L (7 + d)))]) hx hb dL_law_250 hl (by decide) rfl (fun ls hl => ?_)
      exact CT_252 (lowN (v13 >>> ((nI 5) &&& 31)) 40) _ _ _ (by omega) h (lv_sub hl [1, 2, 3, 4, 5, 6, 7, 8, 9, 10, 11, 12, 13, 14, 16, 17, 18, 19, 20, 0] rfl)
    · refine lv_iload hx hb dL_law_228 (lv_at hl 0 rfl) ?_
      refine lv_iconst (v := (nI 5)) hx hb dL_law_230 (by decide) ?_
      refine lv_ishr hx hb dL_law_231 ?_
      refine lv_sipush (v := (nI 10000)) hx hb dL_law_232 (by decide) ?_
      refine k_S1 S hV hK h [.int (v13 >>> ((nI 5) &&& 31)), .int (nI 10000)] (c_L_low l Lc L X hh σ (n := 10000) (by omega) (by omega) (v13 >>> ((nI 5) &&& 31))) q_389 q_390 q_0 q_391 yd_L_low rfl ⟨⟨rfl, rfl⟩, ⟨(Nat.le_of_ble_eq_true rfl), (Nat.le_of_ble_eq_true rfl)⟩, (Nat.le_of_ble_eq_true rfl), (Nat.le_of_ble_eq_true rfl)⟩ rfl (Nat.le_of_ble_eq_true rfl) hl.1 dL_law_235 (fun H locs h => ?_)
      have z1 := lowN_lt (v := v13 >>> (nI 5 &&& 31)) (n := 10000) (by omega)
      refine lv_goto (tgt := 250) hx hb dL_law_238 (by decide) ?_
      have z2 := lowN_lt (v := v13 >>> (nI 5 &&& 31)) (n := 40) (by omega)
      refine lv_istore (lv' := [(20, .int (nI (lowN (v13 >>> ((nI 5) &&& 31)) 10000))), (13, .int v13), (12, .int (nI tn)), (11, .ref (ad L 9)), (10, .ref (ad L 8)), (9, .ref (ad L 7)), (8, .ref (ad L 6)), (7, .ref (ad L 5)), (6, .ref (ad L 4)), (5, .ref (ad L 3)), (4, .ref (ad L 2)), (3, .ref (ad L 1)), (2, .ref (ad L 0)), (1, .ref (ad Lc 244)), (0, .ref b), (14, .int (nI kn)), (15, .int (nI d)), (16, .ref (ad L (1 + d))), (17, .ref (ad L (3 + d))), (18, .ref (ad L (5 + d))), (19, .ref (ad L (7 + d)))]) hx hb dL_law_250 hl (by decide) rfl (fun ls hl => ?_)
      exact CT_252 (lowN (v13 >>> ((nI 5) &&& 31)) 10000) _ _ _ (by omega) h (lv_sub hl [1, 2, 3, 4, 5, 6, 7, 8, 9, 10, 11, 12, 13, 14, 16, 17, 18, 19, 20, 0] rfl)