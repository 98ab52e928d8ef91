def heapsR  : List RE := ((Sum.inl (1, [some (.inl 1), some (.inl 3), some (.inl 5), some (.inl 7)]) : RE) :: (([] : List RE) ++ List.map (sh 1) (rowR 200 [] ) ++ List.map (sh 3) (rowR 200 [] ) ++ List.map (sh 5) (rowR 200 [] ) ++ List.map (sh 7) (rowR 200 [] )))
abbrev rX1_init : Room := { frames := 2, cells := 8, slots := 808, locals := 35 }
theorem yc_X1_init : yX1_init.cls ≠ "java/lang/invoke/MethodHandle" ∧ yX1_init.cls ≠ "java/lang/invoke/VarHandle" ∧ (parseMethodDescriptor yX1_init.desc).map (fun d => d.parameters.length) = some 0 := ⟨by decide +kernel, by decide +kernel, by decide +kernel⟩
set_option maxHeartbeats 4000000 in
set_option maxRecDepth 100000 in
theorem c_X1_init (l : Launch) (L : Lay) (h0 : Nat)  : Mc l L yX1_init (Cond.code yX1_init cX1_init 1 none :: qA) rX1_init [.ref h0] h0 [(Sum.inl (1, [none, none, none, none]) : RE)] heapsR 8 808 := by
  refine Mc.ofW (by decide) (Nat.le_of_ble_eq_true rfl) ?_
  intro p e s m args below meth c ls S hr hlk hnm hK h hl
  have hx := S.1
  have hb := S.2.1
  have hl : lv_has ls 1 [(0, .ref h0)] := hl
  refine lv_aload_n hx hb dX1_init_0 rfl (lv_at hl 0 rfl) ?_
  refine W.objInit hx hb S.2.2.2.1 (S.2.2.2.2 _ q_53) (S.2.2.2.2 _ q_17) (S.2.2.2.2 _ q_18) rfl (hl.1.trans S.2.2.1.symm) rfl dX1_init_1 (Nat.le_of_ble_eq_true rfl) (Nat.le_of_ble_eq_true rfl) ?_
  refine W.eq (g2 := F0 m 4 ls []) rfl ?_
  refine lv_aload_n hx hb dX1_init_4 rfl (lv_at hl 0 rfl) ?_
  refine x_new (ci := 4) (C := RX4) (T := TX4) (N := 2) (fs := [none, some (.inr 0)]) (rl := ((Sum.inl (1, [none, none, none, none]) : RE) :: (([] : List RE)))) (d := 1) S hK h rfl rfl i_wsX40 tyX4 tyX4_ok (fun j hj => by rcases (show j = 0 ∨ j = 1 by omega) with rfl | rfl <;> rfl) q_54 q_26 q_3 (Nat.le_of_ble_eq_true rfl) (Nat.le_of_ble_eq_true rfl) dX1_init_5 (fun H h => ?_)
  refine lv_dup hx hb dX1_init_8 rfl ?_
  refine lv_sipush (v := (nI 200)) hx hb dX1_init_9 (by decide) ?_
  refine x_ctI (rl := ((Sum.inl (1, [none, none, none, none]) : RE) :: (([] : List RE)))) (d := 1) (r0 := (Sum.inl (4, [none, some (.inr 0)]) : RE)) (As := [.int (nI 200)]) (rl2 := (rowR 200 [] )) S hK h rfl (c_X4_init l L (h0 + 1) (n := 200) (by omega)) q_55 q_28 q_3 q_29 rfl yc_X4_init rfl ⟨rfl, rfl⟩ ⟨(Nat.le_of_ble_eq_true rfl), (Nat.le_of_ble_eq_true rfl)⟩ ⟨(Nat.le_of_ble_eq_true rfl), (Nat.le_of_ble_eq_true rfl)⟩ rfl (Nat.le_of_ble_eq_true rfl) hl.1 dX1_init_12 (fun H locs h => ?_)
  have h : CS L h0 s.heap H _ ((Sum.inl (1, [none, none, none, none]) : RE) :: (([] : List RE) ++ List.map (sh 1) (rowR 200 [] ))) := h
  refine x_putF (i := 0) (ci := 1) (C := RX1) (T := TX1) (N := 4) (fs := [none, none, none, none]) (v := some (.inl 1)) (ty := .object "QuantileDigests$Row") (rl := ((Sum.inl (1, [none, none, none, none]) : RE) :: (([] : List RE) ++ List.map (sh 1) (rowR 200 [] )))) S hK h hnm rfl rfl i_wsX10 tyX1 tyX1_ok nmX1 0 (by decide) q_56 rfl rfl rfl (by decide +kernel) rfl rfl (Nat.le_of_ble_eq_true rfl) dX1_init_15 (fun H locs h => ?_)
  have h : CS L h0 s.heap H _ ((Sum.inl (1, [some (.inl 1), none, none, none]) : RE) :: (([] : List RE) ++ List.map (sh 1) (rowR 200 [] ))) := h
  refine lv_aload_n hx hb dX1_init_18 rfl (lv_at hl 0 rfl) ?_
  refine x_new (ci := 4) (C := RX4) (T := TX4) (N := 2) (fs := [none, some (.inr 0)]) (rl := ((Sum.inl (1, [some (.inl 1), none, none, none]) : RE) :: (([] : List RE) ++ List.map (sh 1) (rowR 200 [] )))) (d := 3) S hK h rfl rfl i_wsX40 tyX4 tyX4_ok (fun j hj => by rcases (show j = 0 ∨ j = 1 by omega) with rfl | rfl <;> rfl) q_54 q_26 q_3 (Nat.le_of_ble_eq_true rfl) (Nat.le_of_ble_eq_true rfl) dX1_init_19 (fun H h => ?_)
  refine lv_dup hx hb dX1_init_22 rfl ?_
  refine lv_sipush (v := (nI 200)) hx hb dX1_init_23 (by decide) ?_
  refine x_ctI (rl := ((Sum.inl (1, [some (.inl 1), none, none, none]) : RE) :: (([] : List RE) ++ List.map (sh 1) (rowR 200 [] )))) (d := 3) (r0 := (Sum.inl (4, [none, some (.inr 0)]) : RE)) (As := [.int (nI 200)]) (rl2 := (rowR 200 [] )) S hK h rfl (c_X4_init l L (h0 + 3) (n := 200) (by omega)) q_55 q_28 q_3 q_29 rfl yc_X4_init rfl ⟨rfl, rfl⟩ ⟨(Nat.le_of_ble_eq_true rfl), (Nat.le_of_ble_eq_true rfl)⟩ ⟨(Nat.le_of_ble_eq_true rfl), (Nat.le_of_ble_eq_true rfl)⟩ rfl (Nat.le_of_ble_eq_true rfl) hl.1 dX1_init_26 (fun H locs h => ?_)
  have h : CS L h0 s.heap H _ ((Sum.inl (1, [some (.inl 1), none, none, none]) : RE) :: (([] : List RE) ++ List.map (sh 1) (rowR 200 [] ) ++ List.map (sh 3) (rowR 200 [] ))) := h
  refine x_putF (i := 0) (ci := 1) (C := RX1) (T := TX1) (N := 4) (fs := [some (.inl 1), none, none, none]) (v := some (.inl 3)) (ty := .object "QuantileDigests$Row") (rl := ((Sum.inl (1, [some (.inl 1), none, none, none]) : RE) :: (([] : List RE) ++ List.map (sh 1) (rowR 200 [] ) ++ List.map (sh 3) (rowR 200 [] )))) S hK h hnm rfl rfl i_wsX10 tyX1 tyX1_ok nmX1 1 (by decide) q_59 rfl rfl rfl (by decide +kernel) rfl rfl (Nat.le_of_ble_eq_true rfl) dX1_init_29 (fun H locs h => ?_)
  have h : CS L h0 s.heap H _ ((Sum.inl (1, [some (.inl 1), some (.inl 3), none, none]) : RE) :: (([] : List RE) ++ List.map (sh 1) (rowR 200 [] ) ++ List.map (sh 3) (rowR 200 [] ))) := h
  refine lv_aload_n hx hb dX1_init_32 rfl (lv_at hl 0 rfl) ?_
  refine x_new (ci := 4) (C := RX4) (T := TX4) (N := 2) (fs := [none, some (.inr 0)]) (rl := ((Sum.inl (1, [some (.inl 1), some (.inl 3), none, none]) : RE) :: (([] : List RE) ++ List.map (sh 1) (rowR 200 [] ) ++ List.map (sh 3) (rowR 200 [] )))) (d := 5) S hK h rfl rfl i_wsX40 tyX4 tyX4_ok (fun j hj => by rcases (show j = 0 ∨ j = 1 by omega) with rfl | rfl <;> rfl) q_54 q_26 q_3 (Nat.le_of_ble_eq_true rfl) (Nat.le_of_ble_eq_true rfl) dX1_init_33 (fun H h => ?_)
  refine lv_dup hx hb dX1_init_36 rfl ?_
  refine lv_sipush (v := (nI 200)) hx hb dX1_init_37 (by decide) ?_
  refine x_ctI (rl := ((Sum.inl (1, [some (.inl 1), some (.inl 3), none, none]) : RE) :: (([] : List RE) ++ List.map (sh 1) (rowR 200 [] ) ++ List.map (sh 3) (rowR 200 [] )))) (d := 5) (r0 := (Sum.inl (4, [none, some (.inr 0)]) : RE)) (As := [.int (nI 200)]) (rl2 := (rowR 200 [] )) S hK h rfl (c_X4_init l L (h0 + 5) (n := 200) (by omega)) q_55 q_28 q_3 q_29 rfl yc_X4_init rfl ⟨rfl, rfl⟩ ⟨(Nat.le_of_ble_eq_true rfl), (Nat.le_of_ble_eq_true rfl)⟩ ⟨(Nat.le_of_ble_eq_true rfl), (Nat.le_of_ble_eq_true rfl)⟩ rfl (Nat.le_of_ble_eq_true rfl) hl.1 dX1_init_40 (fun H locs h => ?_)
  have h : CS L h0 s.heap H _ ((Sum.inl (1, [some (.inl 1), some (.inl 3), none, none]) : RE) :: (([] : List RE) ++ List.map (sh 1) (rowR 200 [] ) ++ List.map (sh 3) (rowR 200 [] ) ++ List.map (sh 5) (rowR 200 [] ))) := h
  refine x_putF (i := 0) (ci := 1) (C := RX1) (T := TX1) (N := 4) (fs := [some (.inl 1), some (.inl 3), none, none]) (v := some (.inl 5)) (ty := .object "QuantileDigests$Row") (rl := ((Sum.inl (1, [some (.inl 1), some (.inl 3), none, none]) : RE) :: (([] : List RE) ++ List.map (sh 1) (rowR 200 [] ) ++ List.map (sh 3) (rowR 200 [] ) ++ List.map (sh 5) (rowR 200 [] )))) S hK h hnm rfl rfl i_wsX10 tyX1 tyX1_ok nmX1 2 (by decide) q_62 rfl rfl rfl (by decide +kernel) rfl rfl (Nat.le_of_ble_eq_true rfl) dX1_init_43 (fun H locs h => ?_)
  have h : CS L h0 s.heap H _ ((Sum.inl (1, [some (.inl 1), some (.inl 3), some (.inl 5), none]) : RE) :: (([] : List RE) ++ List.map (sh 1) (rowR 200 [] ) ++ List.map (sh 3) (rowR 200 [] ) ++ List.map (sh 5) (rowR 200 [] ))) := h
  refine lv_aload_n hx hb dX1_init_46 rfl (lv_at hl 0 rfl) ?_
  refine x_new (ci := 4) (C := RX4) (T := TX4) (N := 2) (fs := [none, some (.inr 0)]) (rl := ((Sum.inl (1, [some (.inl 1), some (.inl 3), some (.inl 5), none]) : RE) :: (([] : List RE) ++ List.map (sh 1) (rowR 200 [] ) ++ List.map (sh 3) (rowR 200 [] ) ++ List.map (sh 5) (rowR 200 [] )))) (d := 7) S hK h rfl rfl i_wsX40 tyX4 tyX4_ok (fun j hj => by rcases (show j = 0 ∨ j = 1 by omega) with rfl | rfl <;> rfl) q_54 q_26 q_3 (Nat.le_of_ble_eq_true rfl) (Nat.le_of_ble_eq_true rfl) dX1_init_47 (fun H h => ?_)
  refine lv_dup hx hb dX1_init_50 rfl ?_
  refine lv_sipush (v := (nI 200)) hx hb dX1_init_51 (by decide) ?_
  refine x_ctI (rl := ((Sum.inl (1, [some (.inl 1), some (.inl 3), some (.inl 5), none]) : RE) :: (([] : List RE) ++ List.map (sh 1) (rowR 200 [] ) ++ List.map (sh 3) (rowR 200 [] ) ++ List.map (sh 5) (rowR 200 [] )))) (d := 7) (r0 := (Sum.inl (4, [none, some (.inr 0)]) : RE)) (As := [.int (nI 200)]) (rl2 := (rowR 200 [] )) S hK h rfl (c_X4_init l L (h0 + 7) (n := 200) (by omega)) q_55 q_28 q_3 q_29 rfl yc_X4_init rfl ⟨rfl, rfl⟩ ⟨(Nat.le_of_ble_eq_true rfl), (Nat.le_of_ble_eq_true rfl)⟩ ⟨(Nat.le_of_ble_eq_true rfl), (Nat.le_of_ble_eq_true rfl)⟩ rfl (Nat.le_of_ble_eq_true rfl) hl.1 dX1_init_54 (fun H locs h => ?_)
  have h : CS L h0 s.heap H _ ((Sum.inl (1, [some (.inl 1), some (.inl 3), some (.inl 5), none]) : RE) :: (([] : List RE) ++ List.map (sh 1) (rowR 200 [] ) ++ List.map (sh 3) (rowR 200 [] ) ++ List.map (sh 5) (rowR 200 [] ) ++ List.map (sh 7) (rowR 200 [] ))) := h
  refine x_putF (i := 0) (ci := 1) (C := RX1) (T := TX1) (N := 4) (fs := [some (.inl 1), some (.inl 3), some (.inl 5), none]) (v := some (.inl 7)) (ty := .object "QuantileDigests$Row") (rl := ((Sum.inl (1, [some (.inl 1), some (.inl 3), some (.inl 5), none]) : RE) :: (([] : List RE) ++ List.map (sh 1) (rowR 200 [] ) ++ List.map (sh 3) (rowR 200 [] ) ++ List.map (sh 5) (rowR 200 [] ) ++ List.map (sh 7) (rowR 200 [] )))) S hK h hnm rfl rfl i_wsX10 tyX1 tyX1_ok nmX1 3 (by decide) q_65 rfl rfl rfl (by decide +kernel) rfl rfl (Nat.le_of_ble_eq_true rfl) dX1_init_57 (fun H locs h => ?_)
  have h : CS L h0 s.heap H _ ((Sum.inl (1, [some (.inl 1), some (.inl 3), some (.inl 5), some (.inl 7)]) : RE) :: (([] : List RE) ++ List.map (sh 1) (rowR 200 [] ) ++ List.map (sh 3) (rowR 200 [] ) ++ List.map (sh 5) (rowR 200 [] ) ++ List.map (sh 7) (rowR 200 [] ))) := h
  exact x_ret S hK h hr hlk dX1_init_60

def digR  : List RE := ((Sum.inl (0, [some (.inl 1), some (.inl 10), some (.inl 12), some (.inr (nI 0))]) : RE) :: (([] : List RE) ++ List.map (sh 1) heapsR ++ List.map (sh 10) (rowR 20 [] ) ++ List.map (sh 12) (rowR 200 [] )))
abbrev rX0_init : Room := { frames := 3, cells := 13, slots := 1036, locals := 55 }
theorem yc_X0_init : yX0_init.cls ≠ "java/lang/invoke/MethodHandle" ∧ yX0_init.cls ≠ "java/lang/invoke/VarHandle" ∧ (parseMethodDescriptor yX0_init.desc).map (fun d => d.parameters.length) = some 0 := ⟨by decide +kernel, by decide +kernel, by decide +kernel⟩
set_option maxHeartbeats 4000000 in
set_option maxRecDepth 100000 in
theorem c_X0_init (l : Launch) (L : Lay) (h0 : Nat)  : Mc l L yX0_init (Cond.code yX0_init cX0_init 1 none :: qA) rX0_init [.ref h0] h0 [(Sum.inl (0, [none, none, none, some (.inr 0)]) : RE)] digR 13 1036 := by
  refine Mc.ofW (by decide) (Nat.le_of_ble_eq_true rfl) ?_
  intro p e s m args below meth c ls S hr hlk hnm hK h hl
  have hx := S.1
  have hb := S.2.1
  have hl : lv_has ls 1 [(0, .ref h0)] := hl
  refine lv_aload_n hx hb dX0_init_0 rfl (lv_at hl 0 rfl) ?_
  refine W.objInit hx hb S.2.2.2.1 (S.2.2.2.2 _ q_47) (S.2.2.2.2 _ q_17) (S.2.2.2.2 _ q_18) rfl (hl.1.trans S.2.2.1.symm) rfl dX0_init_1 (Nat.le_of_ble_eq_true rfl) (Nat.le_of_ble_eq_true rfl) ?_
  refine W.eq (g2 := F0 m 4 ls []) rfl ?_
  refine lv_aload_n hx hb dX0_init_4 rfl (lv_at hl 0 rfl) ?_
  refine x_new (ci := 1) (C := RX1) (T := TX1) (N := 4) (fs := [none, none, none, none]) (rl := ((Sum.inl (0, [none, none, none, some (.inr 0)]) : RE) :: (([] : List RE)))) (d := 1) S hK h rfl rfl i_wsX10 tyX1 tyX1_ok (fun j hj => by rcases (show j = 0 ∨ j = 1 ∨ j = 2 ∨ j = 3 by omega) with rfl | rfl | rfl | rfl <;> rfl) q_48 q_49 q_6 (Nat.le_of_ble_eq_true rfl) (Nat.le_of_ble_eq_true rfl) dX0_init_5 (fun H h => ?_)
  refine lv_dup hx hb dX0_init_8 rfl ?_
  refine x_ctN (rl := ((Sum.inl (0, [none, none, none, some (.inr 0)]) : RE) :: (([] : List RE)))) (d := 1) (r0 := (Sum.inl (1, [none, none, none, none]) : RE)) (As := []) (rl2 := heapsR) S hK h rfl (c_X1_init l L (h0 + 1)) hK.2.2.1 q_51 q_6 q_52 rfl yc_X1_init rfl ⟨rfl, rfl⟩ ⟨(Nat.le_of_ble_eq_true rfl), (Nat.le_of_ble_eq_true rfl)⟩ ⟨(Nat.le_of_ble_eq_true rfl), (Nat.le_of_ble_eq_true rfl)⟩ rfl (Nat.le_of_ble_eq_true rfl) hl.1 dX0_init_9 (fun H locs h => ?_)
  have h : CS L h0 s.heap H _ ((Sum.inl (0, [none, none, none, some (.inr 0)]) : RE) :: (([] : List RE) ++ List.map (sh 1) heapsR)) := h
  refine x_putF (i := 0) (ci := 0) (C := RX0) (T := TX0) (N := 4) (fs := [none, none, none, some (.inr 0)]) (v := some (.inl 1)) (ty := .object "QuantileDigests$Heaps") (rl := ((Sum.inl (0, [none, none, none, some (.inr 0)]) : RE) :: (([] : List RE) ++ List.map (sh 1) heapsR))) S hK h hnm rfl rfl i_wsX00 tyX0 tyX0_ok nmX0 0 (by decide) q_79 rfl rfl rfl (by decide +kernel) rfl rfl (Nat.le_of_ble_eq_true rfl) dX0_init_12 (fun H locs h => ?_)
  have h : CS L h0 s.heap H _ ((Sum.inl (0, [some (.inl 1), none, none, some (.inr 0)]) : RE) :: (([] : List RE) ++ List.map (sh 1) heapsR)) := h
  refine lv_aload_n hx hb dX0_init_15 rfl (lv_at hl 0 rfl) ?_
  refine x_new (ci := 4) (C := RX4) (T := TX4) (N := 2) (fs := [none, some (.inr 0)]) (rl := ((Sum.inl (0, [some (.inl 1), none, none, some (.inr 0)]) : RE) :: (([] : List RE) ++ List.map (sh 1) heapsR))) (d := 10) S hK h rfl rfl i_wsX40 tyX4 tyX4_ok (fun j hj => by rcases (show j = 0 ∨ j = 1 by omega) with rfl | rfl <;> rfl) q_77 q_26 q_3 (Nat.le_of_ble_eq_true rfl) (Nat.le_of_ble_eq_true rfl) dX0_init_16 (fun H h => ?_)
  refine lv_dup hx hb dX0_init_19 rfl ?_
  refine lv_bipush (v := (nI 20)) hx hb dX0_init_20 (by decide) ?_
  refine x_ctI (rl := ((Sum.inl (0, [some (.inl 1), none, none, some (.inr 0)]) : RE) :: (([] : List RE) ++ List.map (sh 1) heapsR))) (d := 10) (r0 := (Sum.inl (4, [none, some (.inr 0)]) : RE)) (As := [.int (nI 20)]) (rl2 := (rowR 20 [] )) S hK h rfl (c_X4_init l L (h0 + 10) (n := 20) (by omega)) q_78 q_28 q_3 q_29 rfl yc_X4_init rfl ⟨rfl, rfl⟩ ⟨(Nat.le_of_ble_eq_true rfl), (Nat.le_of_ble_eq_true rfl)⟩ ⟨(Nat.le_of_ble_eq_true rfl), (Nat.le_of_ble_eq_true rfl)⟩ rfl (Nat.le_of_ble_eq_true rfl) hl.1 dX0_init_22 (fun H locs h => ?_)
  have h : CS L h0 s.heap H _ ((Sum.inl (0, [some (.inl 1), none, none, some (.inr 0)]) : RE) :: (([] : List RE) ++ List.map (sh 1) heapsR ++ List.map (sh 10) (rowR 20 [] ))) := h
  refine x_putF (i := 0) (ci := 0) (C := RX0) (T := TX0) (N := 4) (fs := [some (.inl 1), none, none, some (.inr 0)]) (v := some (.inl 10)) (ty := .object "QuantileDigests$Row") (rl := ((Sum.inl (0, [some (.inl 1), none, none, some (.inr 0)]) : RE) :: (([] : List RE) ++ List.map (sh 1) heapsR ++ List.map (sh 10) (rowR 20 [] )))) S hK h hnm rfl rfl i_wsX00 tyX0 tyX0_ok nmX0 1 (by decide) q_82 rfl rfl rfl (by decide +kernel) rfl rfl (Nat.le_of_ble_eq_true rfl) dX0_init_25 (fun H locs h => ?_)
  have h : CS L h0 s.heap H _ ((Sum.inl (0, [some (.inl 1), some (.inl 10), none, some (.inr 0)]) : RE) :: (([] : List RE) ++ List.map (sh 1) heapsR ++ List.map (sh 10) (rowR 20 [] ))) := h
  refine lv_aload_n hx hb dX0_init_28 rfl (lv_at hl 0 rfl) ?_
  refine x_new (ci := 4) (C := RX4) (T := TX4) (N := 2) (fs := [none, some (.inr 0)]) (rl := ((Sum.inl (0, [some (.inl 1), some (.inl 10), none, some (.inr 0)]) : RE) :: (([] : List RE) ++ List.map (sh 1) heapsR ++ List.map (sh 10) (rowR 20 [] )))) (d := 12) S hK h rfl rfl i_wsX40 tyX4 tyX4_ok (fun j hj => by rcases (show j = 0 ∨ j = 1 by omega) with rfl | rfl <;> rfl) q_77 q_26 q_3 (Nat.le_of_ble_eq_true rfl) (Nat.le_of_ble_eq_true rfl) dX0_init_29 (fun H h => ?_)
  refine lv_dup hx hb dX0_init_32 rfl ?_
  refine lv_sipush (v := (nI 200)) hx hb dX0_init_33 (by decide) ?_
  refine x_ctI (rl := ((Sum.inl (0, [some (.inl 1), some (.inl 10), none, some (.inr 0)]) : RE) :: (([] : List RE) ++ List.map (sh 1) heapsR ++ List.map (sh 10) (rowR 20 [] )))) (d := 12) (r0 := (Sum.inl (4, [none, some (.inr 0)]) : RE)) (As := [.int (nI 200)]) (rl2 := (rowR 200 [] )) S hK h rfl (c_X4_init l L (h0 + 12) (n := 200) (by omega)) q_78 q_28 q_3 q_29 rfl yc_X4_init rfl ⟨rfl, rfl⟩ ⟨(Nat.le_of_ble_eq_true rfl), (Nat.le_of_ble_eq_true rfl)⟩ ⟨(Nat.le_of_ble_eq_true rfl), (Nat.le_of_ble_eq_true rfl)⟩ rfl (Nat.le_of_ble_eq_true rfl) hl.1 dX0_init_36 (fun H locs h => ?_)
  have h : CS L h0 s.heap H _ ((Sum.inl (0, [some (.inl 1), some (.inl 10), none, some (.inr 0)]) : RE) :: (([] : List RE) ++ List.map (sh 1) heapsR ++ List.map (sh 10) (rowR 20 [] ) ++ List.map (sh 12) (rowR 200 [] ))) := h
  refine x_putF (i := 0) (ci := 0) (C := RX0) (T := TX0) (N := 4) (fs := [some (.inl 1), some (.inl 10), none, some (.inr 0)]) (v := some (.inl 12)) (ty := .object "QuantileDigests$Row") (rl := ((Sum.inl (0, [some (.inl 1), some (.inl 10), none, some (.inr 0)]) : RE) :: (([] : List RE) ++ List.map (sh 1) heapsR ++ List.map (sh 10) (rowR 20 [] ) ++ List.map (sh 12) (rowR 200 [] )))) S hK h hnm rfl rfl i_wsX00 tyX0 tyX0_ok nmX0 2 (by decide) q_84 rfl rfl rfl (by decide +kernel) rfl rfl (Nat.le_of_ble_eq_true rfl) dX0_init_39 (fun H locs h => ?_)
  have h : CS L h0 s.heap H _ ((Sum.inl (0, [some (.inl 1), some (.inl 10), some (.inl 12), some (.inr 0)]) : RE) :: (([] : List RE) ++ List.map (sh 1) heapsR ++ List.map (sh 10) (rowR 20 [] ) ++ List.map (sh 12) (rowR 200 [] ))) := h
  refine lv_aload_n hx hb dX0_init_42 rfl (lv_at hl 0 rfl) ?_
  refine lv_iconst (v := (nI 0)) hx hb dX0_init_43 (by decide) ?_
  refine x_put (i := 0) (ci := 0) (C := RX0) (T := TX0) (N := 4) (fs := [some (.inl 1), some (.inl 10), some (.inl 12), some (.inr 0)]) (v := some (.inr (nI 0))) (ty := .int) (rl := ((Sum.inl (0, [some (.inl 1), some (.inl 10), some (.inl 12), some (.inr 0)]) : RE) :: (([] : List RE) ++ List.map (sh 1) heapsR ++ List.map (sh 10) (rowR 20 [] ) ++ List.map (sh 12) (rowR 200 [] )))) S hK h rfl rfl i_wsX00 tyX0 tyX0_ok nmX0 3 (by decide) q_85 rfl rfl (by decide +kernel) rfl rfl (Nat.le_of_ble_eq_true rfl) dX0_init_44 (fun H locs h => ?_)
  have h : CS L h0 s.heap H _ ((Sum.inl (0, [some (.inl 1), some (.inl 10), some (.inl 12), some (.inr (nI 0))]) : RE) :: (([] : List RE) ++ List.map (sh 1) heapsR ++ List.map (sh 10) (rowR 20 [] ) ++ List.map (sh 12) (rowR 200 [] ))) := h
  exact x_ret S hK h hr hlk dX0_init_47

def staR  : List RE := ((Sum.inl (5, [some (.inl 1), some (.inl 3), some (.inl 17), some (.inl 31)]) : RE) :: (([] : List RE) ++ [(.inl (4, [some (.inl 2), some (.inr (nI 2))]) : RE), .inr (.inl (2, [nI 10, nI 5]))] ++ List.map (sh 3) digR ++ List.map (sh 17) digR ++ List.map (sh 31) digR))
abbrev rX5_init : Room := { frames := 4, cells := 44, slots := 3124, locals := 75 }
theorem yc_X5_init : yX5_init.cls ≠ "java/lang/invoke/MethodHandle" ∧ yX5_init.cls ≠ "java/lang/invoke/VarHandle" ∧ (parseMethodDescriptor yX5_init.desc).map (fun d => d.parameters.length) = some 0 := ⟨by decide +kernel, by decide +kernel, by decide +kernel⟩
set_option maxHeartbeats 4000000 in
set_option maxRecDepth 100000 in
theorem c_X5_init (l : Launch) (L : Lay) (h0 : Nat)  : Mc l L yX5_init (Cond.code yX5_init cX5_init 1 none :: qA) rX5_init [.ref h0] h0 [(Sum.inl (5, [none, none, none, none]) : RE)] staR 44 3124 := by
  refine Mc.ofW (by decide) (Nat.le_of_ble_eq_true rfl) ?_
  intro p e s m args below meth c ls S hr hlk hnm hK h hl
  have hx := S.1
  have hb := S.2.1
  have hl : lv_has ls 1 [(0, .ref h0)] := hl
  refine lv_aload_n hx hb dX5_init_0 rfl (lv_at hl 0 rfl) ?_
  refine W.objInit hx hb S.2.2.2.1 (S.2.2.2.2 _ q_24) (S.2.2.2.2 _ q_17) (S.2.2.2.2 _ q_18) rfl (hl.1.trans S.2.2.1.symm) rfl dX5_init_1 (Nat.le_of_ble_eq_true rfl) (Nat.le_of_ble_eq_true rfl) ?_
  refine W.eq (g2 := F0 m 4 ls []) rfl ?_
  refine lv_aload_n hx hb dX5_init_4 rfl (lv_at hl 0 rfl) ?_
  refine x_new (ci := 4) (C := RX4) (T := TX4) (N := 2) (fs := [none, some (.inr 0)]) (rl := ((Sum.inl (5, [none, none, none, none]) : RE) :: (([] : List RE)))) (d := 1) S hK h rfl rfl i_wsX40 tyX4 tyX4_ok (fun j hj => by rcases (show j = 0 ∨ j = 1 by omega) with rfl | rfl <;> rfl) q_25 q_26 q_3 (Nat.le_of_ble_eq_true rfl) (Nat.le_of_ble_eq_true rfl) dX5_init_5 (fun H h => ?_)
  refine lv_dup hx hb dX5_init_8 rfl ?_
  refine lv_iconst (v := (nI 2)) hx hb dX5_init_9 (by decide) ?_
  refine x_ctI (rl := ((Sum.inl (5, [none, none, none, none]) : RE) :: (([] : List RE)))) (d := 1) (r0 := (Sum.inl (4, [none, some (.inr 0)]) : RE)) (As := [.int (nI 2)]) (rl2 := (rowR 2 [] )) S hK h rfl (c_X4_init l L (h0 + 1) (n := 2) (by omega)) q_27 q_28 q_3 q_29 rfl yc_X4_init rfl ⟨rfl, rfl⟩ ⟨(Nat.le_of_ble_eq_true rfl), (Nat.le_of_ble_eq_true rfl)⟩ ⟨(Nat.le_of_ble_eq_true rfl), (Nat.le_of_ble_eq_true rfl)⟩ rfl (Nat.le_of_ble_eq_true rfl) hl.1 dX5_init_10 (fun H locs h => ?_)
  have h : CS L h0 s.heap H _ ((Sum.inl (5, [none, none, none, none]) : RE) :: (([] : List RE) ++ List.map (sh 1) (rowR 2 [] ))) := h
  refine x_putF (i := 0) (ci := 5) (C := RX5) (T := TX5) (N := 4) (fs := [none, none, none, none]) (v := some (.inl 1)) (ty := .object "QuantileDigests$Row") (rl := ((Sum.inl (5, [none, none, none, none]) : RE) :: (([] : List RE) ++ List.map (sh 1) (rowR 2 [] )))) S hK h hnm rfl rfl i_wsX50 tyX5 tyX5_ok nmX5 0 (by decide) q_100 rfl rfl rfl (by decide +kernel) rfl rfl (Nat.le_of_ble_eq_true rfl) dX5_init_13 (fun H locs h => ?_)
  have h : CS L h0 s.heap H _ ((Sum.inl (5, [some (.inl 1), none, none, none]) : RE) :: (([] : List RE) ++ List.map (sh 1) (rowR 2 [] ))) := h
  refine lv_aload_n hx hb dX5_init_16 rfl (lv_at hl 0 rfl) ?_
  refine x_new (ci := 0) (C := RX0) (T := TX0) (N := 4) (fs := [none, none, none, some (.inr 0)]) (rl := ((Sum.inl (5, [some (.inl 1), none, none, none]) : RE) :: (([] : List RE) ++ List.map (sh 1) (rowR 2 [] )))) (d := 3) S hK h rfl rfl i_wsX00 tyX0 tyX0_ok (fun j hj => by rcases (show j = 0 ∨ j = 1 ∨ j = 2 ∨ j = 3 by omega) with rfl | rfl | rfl | rfl <;> rfl) q_42 q_43 q_5 (Nat.le_of_ble_eq_true rfl) (Nat.le_of_ble_eq_true rfl) dX5_init_17 (fun H h => ?_)
  refine lv_dup hx hb dX5_init_20 rfl ?_
  refine x_ctN (rl := ((Sum.inl (5, [some (.inl 1), none, none, none]) : RE) :: (([] : List RE) ++ List.map (sh 1) (rowR 2 [] )))) (d := 3) (r0 := (Sum.inl (0, [none, none, none, some (.inr 0)]) : RE)) (As := []) (rl2 := digR) S hK h rfl (c_X0_init l L (h0 + 3)) hK.2.1 q_45 q_5 q_46 rfl yc_X0_init rfl ⟨rfl, rfl⟩ ⟨(Nat.le_of_ble_eq_true rfl), (Nat.le_of_ble_eq_true rfl)⟩ ⟨(Nat.le_of_ble_eq_true rfl), (Nat.le_of_ble_eq_true rfl)⟩ rfl (Nat.le_of_ble_eq_true rfl) hl.1 dX5_init_21 (fun H locs h => ?_)
  have h : CS L h0 s.heap H _ ((Sum.inl (5, [some (.inl 1), none, none, none]) : RE) :: (([] : List RE) ++ List.map (sh 1) (rowR 2 [] ) ++ List.map (sh 3) digR)) := h
  refine x_putF (i := 0) (ci := 5) (C := RX5) (T := TX5) (N := 4) (fs := [some (.inl 1), none, none, none]) (v := some (.inl 3)) (ty := .object "QuantileDigests$Digest") (rl := ((Sum.inl (5, [some (.inl 1), none, none, none]) : RE) :: (([] : List RE) ++ List.map (sh 1) (rowR 2 [] ) ++ List.map (sh 3) digR))) S hK h hnm rfl rfl i_wsX50 tyX5 tyX5_ok nmX5 1 (by decide) q_102 rfl rfl rfl (by decide +kernel) rfl rfl (Nat.le_of_ble_eq_true rfl) dX5_init_24 (fun H locs h => ?_)
  have h : CS L h0 s.heap H _ ((Sum.inl (5, [some (.inl 1), some (.inl 3), none, none]) : RE) :: (([] : List RE) ++ List.map (sh 1) (rowR 2 [] ) ++ List.map (sh 3) digR)) := h
  refine lv_aload_n hx hb dX5_init_27 rfl (lv_at hl 0 rfl) ?_
  refine x_new (ci := 0) (C := RX0) (T := TX0) (N := 4) (fs := [none, none, none, some (.inr 0)]) (rl := ((Sum.inl (5, [some (.inl 1), some (.inl 3), none, none]) : RE) :: (([] : List RE) ++ List.map (sh 1) (rowR 2 [] ) ++ List.map (sh 3) digR))) (d := 17) S hK h rfl rfl i_wsX00 tyX0 tyX0_ok (fun j hj => by rcases (show j = 0 ∨ j = 1 ∨ j = 2 ∨ j = 3 by omega) with rfl | rfl | rfl | rfl <;> rfl) q_42 q_43 q_5 (Nat.le_of_ble_eq_true rfl) (Nat.le_of_ble_eq_true rfl) dX5_init_28 (fun H h => ?_)
  refine lv_dup hx hb dX5_init_31 rfl ?_
  refine x_ctN (rl := ((Sum.inl (5, [some (.inl 1), some (.inl 3), none, none]) : RE) :: (([] : List RE) ++ List.map (sh 1) (rowR 2 [] ) ++ List.map (sh 3) digR))) (d := 17) (r0 := (Sum.inl (0, [none, none, none, some (.inr 0)]) : RE)) (As := []) (rl2 := digR) S hK h rfl (c_X0_init l L (h0 + 17)) hK.2.1 q_45 q_5 q_46 rfl yc_X0_init rfl ⟨rfl, rfl⟩ ⟨(Nat.le_of_ble_eq_true rfl), (Nat.le_of_ble_eq_true rfl)⟩ ⟨(Nat.le_of_ble_eq_true rfl), (Nat.le_of_ble_eq_true rfl)⟩ rfl (Nat.le_of_ble_eq_true rfl) hl.1 dX5_init_32 (fun H locs h => ?_)
  have h : CS L h0 s.heap H _ ((Sum.inl (5, [some (.inl 1), some (.inl 3), none, none]) : RE) :: (([] : List RE) ++ List.map (sh 1) (rowR 2 [] ) ++ List.map (sh 3) digR ++ List.map (sh 17) digR)) := h
  refine x_putF (i := 0) (ci := 5) (C := RX5) (T := TX5) (N := 4) (fs := [some (.inl 1), some (.inl 3), none, none]) (v := some (.inl 17)) (ty := .object "QuantileDigests$Digest") (rl := ((Sum.inl (5, [some (.inl 1), some (.inl 3), none, none]) : RE) :: (([] : List RE) ++ List.map (sh 1) (rowR 2 [] ) ++ List.map (sh 3) digR ++ List.map (sh 17) digR))) S hK h hnm rfl rfl i_wsX50 tyX5 tyX5_ok nmX5 2 (by decide) q_103 rfl rfl rfl (by decide +kernel) rfl rfl (Nat.le_of_ble_eq_true rfl) dX5_init_35 (fun H locs h => ?_)
  have h : CS L h0 s.heap H _ ((Sum.inl (5, [some (.inl 1), some (.inl 3), some (.inl 17), none]) : RE) :: (([] : List RE) ++ List.map (sh 1) (rowR 2 [] ) ++ List.map (sh 3) digR ++ List.map (sh 17) digR)) := h
  refine lv_aload_n hx hb dX5_init_38 rfl (lv_at hl 0 rfl) ?_
  refine x_new (ci := 0) (C := RX0) (T := TX0) (N := 4) (fs := [none, none, none, some (.inr 0)]) (rl := ((Sum.inl (5, [some (.inl 1), some (.inl 3), some (.inl 17), none]) : RE) :: (([] : List RE) ++ List.map (sh 1) (rowR 2 [] ) ++ List.map (sh 3) digR ++ List.map (sh 17) digR))) (d := 31) S hK h rfl rfl i_wsX00 tyX0 tyX0_ok (fun j hj => by rcases (show j = 0 ∨ j = 1 ∨ j = 2 ∨ j = 3 by omega) with rfl | rfl | rfl | rfl <;> rfl) q_42 q_43 q_5 (Nat.le_of_ble_eq_true rfl) (Nat.le_of_ble_eq_true rfl) dX5_init_39 (fun H h => ?_)
  refine lv_dup hx hb dX5_init_42 rfl ?_
  refine x_ctN (rl := ((Sum.inl (5, [some (.inl 1), some (.inl 3), some (.inl 17), none]) : RE) :: (([] : List RE) ++ List.map (sh 1) (rowR 2 [] ) ++ List.map (sh 3) digR ++ List.map (sh 17) digR))) (d := 31) (r0 := (Sum.inl (0, [none, none, none, some (.inr 0)]) : RE)) (As := []) (rl2 := digR) S hK h rfl (c_X0_init l L (h0 + 31)) hK.2.1 q_45 q_5 q_46 rfl yc_X0_init rfl ⟨rfl, rfl⟩ ⟨(Nat.le_of_ble_eq_true rfl), (Nat.le_of_ble_eq_true rfl)⟩ ⟨(Nat.le_of_ble_eq_true rfl), (Nat.le_of_ble_eq_true rfl)⟩ rfl (Nat.le_of_ble_eq_true rfl) hl.1 dX5_init_43 (fun H locs h => ?_)
  have h : CS L h0 s.heap H _ ((Sum.inl (5, [some (.inl 1), some (.inl 3), some (.inl 17), none]) : RE) :: (([] : List RE) ++ List.map (sh 1) (rowR 2 [] ) ++ List.map (sh 3) digR ++ List.map (sh 17) digR ++ List.map (sh 31) digR)) := h
  refine x_putF (i := 0) (ci := 5) (C := RX5) (T := TX5) (N := 4) (fs := [some (.inl 1), some (.inl 3), some (.inl 17), none]) (v := some (.inl 31)) (ty := .object "QuantileDigests$Digest") (rl := ((Sum.inl (5, [some (.inl 1), some (.inl 3), some (.inl 17), none]) : RE) :: (([] : List RE) ++ List.map (sh 1) (rowR 2 [] ) ++ List.map (sh 3) digR ++ List.map (sh 17) digR ++ List.map (sh 31) digR))) S hK h hnm rfl rfl i_wsX50 tyX5 tyX5_ok nmX5 3 (by decide) q_104 rfl rfl rfl (by decide +kernel) rfl rfl (Nat.le_of_ble_eq_true rfl) dX5_init_46 (fun H locs h => ?_)
  have h : CS L h0 s.heap H _ ((Sum.inl (5, [some (.inl 1), some (.inl 3), some (.inl 17), some (.inl 31)]) : RE) :: (([] : List RE) ++ List.map (sh 1) (rowR 2 [] ) ++ List.map (sh 3) digR ++ List.map (sh 17) digR ++ List.map (sh 31) digR)) := h
  refine lv_aload_n hx hb dX5_init_49 rfl (lv_at hl 0 rfl) ?_
  refine x_get (i := 0) (ci := 5) (C := RX5) (T := TX5) (N := 4) (fs := [some (.inl 1), some (.inl 3), some (.inl 17), some (.inl 31)]) (v := some (.inl 1)) (rl := ((Sum.inl (5, [some (.inl 1), some (.inl 3), some (.inl 17), some (.inl 31)]) : RE) :: (([] : List RE) ++ List.map (sh 1) (rowR 2 [] ) ++ List.map (sh 3) digR ++ List.map (sh 17) digR ++ List.map (sh 31) digR))) S hK h rfl rfl i_wsX50 0 (by decide) rfl q_100 rfl dX5_init_50 ?_
  refine W.eq (g2 := F0 m 53 ls [.ref (h0 + 1)]) rfl ?_
  refine lv_bipush (v := (nI 10)) hx hb dX5_init_53 (by decide) ?_
  refine x_ctV (i := 1) (ci := 4) (C := RX4) (T := TX4) (N := 2) (fs := [some (.inl (1 + 1)), some (.inr (nI [].length))]) (rl := ((Sum.inl (5, [some (.inl 1), some (.inl 3), some (.inl 17), some (.inl 31)]) : RE) :: (([] : List RE) ++ List.map (sh 1) (rowR 2 [] ) ++ List.map (sh 3) digR ++ List.map (sh 17) digR ++ List.map (sh 31) digR))) (As := [.int (nI 10)]) S hK h rfl rfl (cc_append l L h0 1 ((Sum.inl (5, [some (.inl 1), some (.inl 3), some (.inl 17), some (.inl 31)]) : RE) :: (([] : List RE) ++ List.map (sh 1) (rowR 2 [] ) ++ List.map (sh 3) digR ++ List.map (sh 17) digR ++ List.map (sh 31) digR)) [] (n := 2) (nI 10) rfl rfl (by decide) (by decide)) q_96 q_97 q_98 q_3 q_99 ⟨rfl, by decide +kernel, by decide +kernel, by decide +kernel⟩ rfl ⟨⟨rfl, rfl⟩, ⟨(Nat.le_of_ble_eq_true rfl), (Nat.le_of_ble_eq_true rfl)⟩, Nat.le_refl _, Nat.le_refl _⟩ rfl (Nat.le_of_ble_eq_true rfl) hl.1 dX5_init_55 (fun H locs h => ?_)
  have h : CS L h0 s.heap H _ ((Sum.inl (5, [some (.inl 1), some (.inl 3), some (.inl 17), some (.inl 31)]) : RE) :: (([] : List RE) ++ [(.inl (4, [some (.inl 2), some (.inr (nI 1))]) : RE), .inr (.inl (2, [nI 10]))] ++ List.map (sh 3) digR ++ List.map (sh 17) digR ++ List.map (sh 31) digR)) := h
  refine lv_aload_n hx hb dX5_init_58 rfl (lv_at hl 0 rfl) ?_
  refine x_get (i := 0) (ci := 5) (C := RX5) (T := TX5) (N := 4) (fs := [some (.inl 1), some (.inl 3), some (.inl 17), some (.inl 31)]) (v := some (.inl 1)) (rl := ((Sum.inl (5, [some (.inl 1), some (.inl 3), some (.inl 17), some (.inl 31)]) : RE) :: (([] : List RE) ++ [(.inl (4, [some (.inl 2), some (.inr (nI 1))]) : RE), .inr (.inl (2, [nI 10]))] ++ List.map (sh 3) digR ++ List.map (sh 17) digR ++ List.map (sh 31) digR))) S hK h rfl rfl i_wsX50 0 (by decide) rfl q_100 rfl dX5_init_59 ?_
  refine W.eq (g2 := F0 m 62 ls [.ref (h0 + 1)]) rfl ?_
  refine lv_iconst (v := (nI 5)) hx hb dX5_init_62 (by decide) ?_
  refine x_ctV (i := 1) (ci := 4) (C := RX4) (T := TX4) (N := 2) (fs := [some (.inl (1 + 1)), some (.inr (nI [nI 10].length))]) (rl := ((Sum.inl (5, [some (.inl 1), some (.inl 3), some (.inl 17), some (.inl 31)]) : RE) :: (([] : List RE) ++ [(.inl (4, [some (.inl 2), some (.inr (nI 1))]) : RE), .inr (.inl (2, [nI 10]))] ++ List.map (sh 3) digR ++ List.map (sh 17) digR ++ List.map (sh 31) digR))) (As := [.int (nI 5)]) S hK h rfl rfl (cc_append l L h0 1 ((Sum.inl (5, [some (.inl 1), some (.inl 3), some (.inl 17), some (.inl 31)]) : RE) :: (([] : List RE) ++ [(.inl (4, [some (.inl 2), some (.inr (nI 1))]) : RE), .inr (.inl (2, [nI 10]))] ++ List.map (sh 3) digR ++ List.map (sh 17) digR ++ List.map (sh 31) digR)) [nI 10] (n := 2) (nI 5) rfl rfl (by decide) (by decide)) q_96 q_97 q_98 q_3 q_99 ⟨rfl, by decide +kernel, by decide +kernel, by decide +kernel⟩ rfl ⟨⟨rfl, rfl⟩, ⟨(Nat.le_of_ble_eq_true rfl), (Nat.le_of_ble_eq_true rfl)⟩, Nat.le_refl _, Nat.le_refl _⟩ rfl (Nat.le_of_ble_eq_true rfl) hl.1 dX5_init_63 (fun H locs h => ?_)
  have h : CS L h0 s.heap H _ ((Sum.inl (5, [some (.inl 1), some (.inl 3), some (.inl 17), some (.inl 31)]) : RE) :: (([] : List RE) ++ [(.inl (4, [some (.inl 2), some (.inr (nI 2))]) : RE), .inr (.inl (2, [nI 10, nI 5]))] ++ List.map (sh 3) digR ++ List.map (sh 17) digR ++ List.map (sh 31) digR)) := h
  exact x_ret S hK h hr hlk dX5_init_66

def partR  : List RE := ((Sum.inl (3, [some (.inl 1), some (.inr (nI 0)), some (.inr (nI 0))]) : RE) :: (([] : List RE) ++ List.map (sh 1) (rowR 60 [] )))
abbrev rX3_init : Room := { frames := 2, cells := 2, slots := 62, locals := 35 }
theorem yc_X3_init : yX3_init.cls ≠ "java/lang/invoke/MethodHandle" ∧ yX3_init.cls ≠ "java/lang/invoke/VarHandle" ∧ (parseMethodDescriptor yX3_init.desc).map (fun d => d.parameters.length) = some 0 := ⟨by decide +kernel, by decide +kernel, by decide +kernel⟩
set_option maxHeartbeats 4000000 in
set_option maxRecDepth 100000 in
theorem c_X3_init (l : Launch) (L : Lay) (h0 : Nat)  : Mc l L yX3_init (Cond.code yX3_init cX3_init 1 none :: qA) rX3_init [.ref h0] h0 [(Sum.inl (3, [none, some (.inr 0), some (.inr 0)]) : RE)] partR 2 62 := by
  refine Mc.ofW (by decide) (Nat.le_of_ble_eq_true rfl) ?_
  intro p e s m args below meth c ls S hr hlk hnm hK h hl
  have hx := S.1
  have hb := S.2.1
  have hl : lv_has ls 1 [(0, .ref h0)] := hl
  refine lv_aload_n hx hb dX3_init_0 rfl (lv_at hl 0 rfl) ?_
  refine W.objInit hx hb S.2.2.2.1 (S.2.2.2.2 _ q_137) (S.2.2.2.2 _ q_17) (S.2.2.2.2 _ q_18) rfl (hl.1.trans S.2.2.1.symm) rfl dX3_init_1 (Nat.le_of_ble_eq_true rfl) (Nat.le_of_ble_eq_true rfl) ?_
  refine W.eq (g2 := F0 m 4 ls []) rfl ?_
  refine lv_aload_n hx hb dX3_init_4 rfl (lv_at hl 0 rfl) ?_
  refine x_new (ci := 4) (C := RX4) (T := TX4) (N := 2) (fs := [none, some (.inr 0)]) (rl := ((Sum.inl (3, [none, some (.inr 0), some (.inr 0)]) : RE) :: (([] : List RE)))) (d := 1) S hK h rfl rfl i_wsX40 tyX4 tyX4_ok (fun j hj => by rcases (show j = 0 ∨ j = 1 by omega) with rfl | rfl <;> rfl) q_138 q_26 q_3 (Nat.le_of_ble_eq_true rfl) (Nat.le_of_ble_eq_true rfl) dX3_init_5 (fun H h => ?_)
  refine lv_dup hx hb dX3_init_8 rfl ?_
  refine lv_bipush (v := (nI 60)) hx hb dX3_init_9 (by decide) ?_
  refine x_ctI (rl := ((Sum.inl (3, [none, some (.inr 0), some (.inr 0)]) : RE) :: (([] : List RE)))) (d := 1) (r0 := (Sum.inl (4, [none, some (.inr 0)]) : RE)) (As := [.int (nI 60)]) (rl2 := (rowR 60 [] )) S hK h rfl (c_X4_init l L (h0 + 1) (n := 60) (by omega)) q_139 q_28 q_3 q_29 rfl yc_X4_init rfl ⟨rfl, rfl⟩ ⟨(Nat.le_of_ble_eq_true rfl), (Nat.le_of_ble_eq_true rfl)⟩ ⟨(Nat.le_of_ble_eq_true rfl), (Nat.le_of_ble_eq_true rfl)⟩ rfl (Nat.le_of_ble_eq_true rfl) hl.1 dX3_init_11 (fun H locs h => ?_)
  have h : CS L h0 s.heap H _ ((Sum.inl (3, [none, some (.inr 0), some (.inr 0)]) : RE) :: (([] : List RE) ++ List.map (sh 1) (rowR 60 [] ))) := h
  refine x_putF (i := 0) (ci := 3) (C := RX3) (T := TX3) (N := 3) (fs := [none, some (.inr 0), some (.inr 0)]) (v := some (.inl 1)) (ty := .object "QuantileDigests$Row") (rl := ((Sum.inl (3, [none, some (.inr 0), some (.inr 0)]) : RE) :: (([] : List RE) ++ List.map (sh 1) (rowR 60 [] )))) S hK h hnm rfl rfl i_wsX30 tyX3 tyX3_ok nmX3 0 (by decide) q_140 rfl rfl rfl (by decide +kernel) rfl rfl (Nat.le_of_ble_eq_true rfl) dX3_init_14 (fun H locs h => ?_)
  have h : CS L h0 s.heap H _ ((Sum.inl (3, [some (.inl 1), some (.inr 0), some (.inr 0)]) : RE) :: (([] : List RE) ++ List.map (sh 1) (rowR 60 [] ))) := h
  refine lv_aload_n hx hb dX3_init_17 rfl (lv_at hl 0 rfl) ?_
  refine lv_iconst (v := (nI 0)) hx hb dX3_init_18 (by decide) ?_
  refine x_put (i := 0) (ci := 3) (C := RX3) (T := TX3) (N := 3) (fs := [some (.inl 1), some (.inr 0), some (.inr 0)]) (v := some (.inr (nI 0))) (ty := .int) (rl := ((Sum.inl (3, [some (.inl 1), some (.inr 0), some (.inr 0)]) : RE) :: (([] : List RE) ++ List.map (sh 1) (rowR 60 [] )))) S hK h rfl rfl i_wsX30 tyX3 tyX3_ok nmX3 1 (by decide) q_141 rfl rfl (by decide +kernel) rfl rfl (Nat.le_of_ble_eq_true rfl) dX3_init_19 (fun H locs h => ?_)
  have h : CS L h0 s.heap H _ ((Sum.inl (3, [some (.inl 1), some (.inr (nI 0)), some (.inr 0)]) : RE) :: (([] : List RE) ++ List.map (sh 1) (rowR 60 [] ))) := h
  refine lv_aload_n hx hb dX3_init_22 rfl (lv_at hl 0 rfl) ?_
  refine lv_iconst (v := (nI 0)) hx hb dX3_init_23 (by decide) ?_
  refine x_put (i := 0) (ci := 3) (C := RX3) (T := TX3) (N := 3) (fs := [some (.inl 1), some (.inr (nI 0)), some (.inr 0)]) (v := some (.inr (nI 0))) (ty := .int) (rl := ((Sum.inl (3, [some (.inl 1), some (.inr (nI 0)), some (.inr 0)]) : RE) :: (([] : List RE) ++ List.map (sh 1) (rowR 60 [] )))) S hK h rfl rfl i_wsX30 tyX3 tyX3_ok nmX3 2 (by decide) q_142 rfl rfl (by decide +kernel) rfl rfl (Nat.le_of_ble_eq_true rfl) dX3_init_24 (fun H locs h => ?_)
  have h : CS L h0 s.heap H _ ((Sum.inl (3, [some (.inl 1), some (.inr (nI 0)), some (.inr (nI 0))]) : RE) :: (([] : List RE) ++ List.map (sh 1) (rowR 60 [] ))) := h
  exact x_ret S hK h hr hlk dX3_init_27

def tfR  : List RE := ((Sum.inl (6, [some (.inl 1), some (.inr (nI 0)), some (.inr (nI 0)), some (.inr (nI 0))]) : RE) :: (([] : List RE) ++ List.map (sh 1) (rowR 3 [] )))
abbrev rX6_init : Room := { frames := 2, cells := 2, slots := 5, locals := 35 }
theorem yc_X6_init : yX6_init.cls ≠ "java/lang/invoke/MethodHandle" ∧ yX6_init.cls ≠ "java/lang/invoke/VarHandle" ∧ (parseMethodDescriptor yX6_init.desc).map (fun d => d.parameters.length) = some 0 := ⟨by decide +kernel, by decide +kernel, by decide +kernel⟩
set_option maxHeartbeats 4000000 in
set_option maxRecDepth 100000 in
theorem c_X6_init (l : Launch) (L : Lay) (h0 : Nat)  : Mc l L yX6_init (Cond.code yX6_init cX6_init 1 none :: qA) rX6_init [.ref h0] h0 [(Sum.inl (6, [none, some (.inr 0), some (.inr 0), some (.inr 0)]) : RE)] tfR 2 5 := by
  refine Mc.ofW (by decide) (Nat.le_of_ble_eq_true rfl) ?_
  intro p e s m args below meth c ls S hr hlk hnm hK h hl
  have hx := S.1
  have hb := S.2.1
  have hl : lv_has ls 1 [(0, .ref h0)] := hl
  refine lv_aload_n hx hb dX6_init_0 rfl (lv_at hl 0 rfl) ?_
  refine W.objInit hx hb S.2.2.2.1 (S.2.2.2.2 _ q_155) (S.2.2.2.2 _ q_17) (S.2.2.2.2 _ q_18) rfl (hl.1.trans S.2.2.1.symm) rfl dX6_init_1 (Nat.le_of_ble_eq_true rfl) (Nat.le_of_ble_eq_true rfl) ?_
  refine W.eq (g2 := F0 m 4 ls []) rfl ?_
  refine lv_aload_n hx hb dX6_init_4 rfl (lv_at hl 0 rfl) ?_
  refine x_new (ci := 4) (C := RX4) (T := TX4) (N := 2) (fs := [none, some (.inr 0)]) (rl := ((Sum.inl (6, [none, some (.inr 0), some (.inr 0), some (.inr 0)]) : RE) :: (([] : List RE)))) (d := 1) S hK h rfl rfl i_wsX40 tyX4 tyX4_ok (fun j hj => by rcases (show j = 0 ∨ j = 1 by omega) with rfl | rfl <;> rfl) q_156 q_26 q_3 (Nat.le_of_ble_eq_true rfl) (Nat.le_of_ble_eq_true rfl) dX6_init_5 (fun H h => ?_)
  refine lv_dup hx hb dX6_init_8 rfl ?_
  refine lv_iconst (v := (nI 3)) hx hb dX6_init_9 (by decide) ?_
  refine x_ctI (rl := ((Sum.inl (6, [none, some (.inr 0), some (.inr 0), some (.inr 0)]) : RE) :: (([] : List RE)))) (d := 1) (r0 := (Sum.inl (4, [none, some (.inr 0)]) : RE)) (As := [.int (nI 3)]) (rl2 := (rowR 3 [] )) S hK h rfl (c_X4_init l L (h0 + 1) (n := 3) (by omega)) q_157 q_28 q_3 q_29 rfl yc_X4_init rfl ⟨rfl, rfl⟩ ⟨(Nat.le_of_ble_eq_true rfl), (Nat.le_of_ble_eq_true rfl)⟩ ⟨(Nat.le_of_ble_eq_true rfl), (Nat.le_of_ble_eq_true rfl)⟩ rfl (Nat.le_of_ble_eq_true rfl) hl.1 dX6_init_10 (fun H locs h => ?_)
  have h : CS L h0 s.heap H _ ((Sum.inl (6, [none, some (.inr 0), some (.inr 0), some (.inr 0)]) : RE) :: (([] : List RE) ++ List.map (sh 1) (rowR 3 [] ))) := h
  refine x_putF (i := 0) (ci := 6) (C := RX6) (T := TX6) (N := 4) (fs := [none, some (.inr 0), some (.inr 0), some (.inr 0)]) (v := some (.inl 1)) (ty := .object "QuantileDigests$Row") (rl := ((Sum.inl (6, [none, some (.inr 0), some (.inr 0), some (.inr 0)]) : RE) :: (([] : List RE) ++ List.map (sh 1) (rowR 3 [] )))) S hK h hnm rfl rfl i_wsX60 tyX6 tyX6_ok nmX6 0 (by decide) q_158 rfl rfl rfl (by decide +kernel) rfl rfl (Nat.le_of_ble_eq_true rfl) dX6_init_13 (fun H locs h => ?_)
  have h : CS L h0 s.heap H _ ((Sum.inl (6, [some (.inl 1), some (.inr 0), some (.inr 0), some (.inr 0)]) : RE) :: (([] : List RE) ++ List.map (sh 1) (rowR 3 [] ))) := h
  refine lv_aload_n hx hb dX6_init_16 rfl (lv_at hl 0 rfl) ?_
  refine lv_iconst (v := (nI 0)) hx hb dX6_init_17 (by decide) ?_
  refine x_put (i := 0) (ci := 6) (C := RX6) (T := TX6) (N := 4) (fs := [some (.inl 1), some (.inr 0), some (.inr 0), some (.inr 0)]) (v := some (.inr (nI 0))) (ty := .int) (rl := ((Sum.inl (6, [some (.inl 1), some (.inr 0), some (.inr 0), some (.inr 0)]) : RE) :: (([] : List RE) ++ List.map (sh 1) (rowR 3 [] )))) S hK h rfl rfl i_wsX60 tyX6 tyX6_ok nmX6 1 (by decide) q_159 rfl rfl (by decide +kernel) rfl rfl (Nat.le_of_ble_eq_true rfl) dX6_init_18 (fun H locs h => ?_)
  have h : CS L h0 s.heap H _ ((Sum.inl (6, [some (.inl 1), some (.inr (nI 0)), some (.inr 0), some (.inr 0)]) : RE) :: (([] : List RE) ++ List.map (sh 1) (rowR 3 [] ))) := h
  refine lv_aload_n hx hb dX6_init_21 rfl (lv_at hl 0 rfl) ?_
  refine lv_iconst (v := (nI 0)) hx hb dX6_init_22 (by decide) ?_
  refine x_put (i := 0) (ci := 6) (C := RX6) (T := TX6) (N := 4) (fs := [some (.inl 1), some (.inr (nI 0)), some (.inr 0), some (.inr 0)]) (v := some (.inr (nI 0))) (ty := .int) (rl := ((Sum.inl (6, [some (.inl 1), some (.inr (nI 0)), some (.inr 0), some (.inr 0)]) : RE) :: (([] : List RE) ++ List.map (sh 1) (rowR 3 [] )))) S hK h rfl rfl i_wsX60 tyX6 tyX6_ok nmX6 2 (by decide) q_160 rfl rfl (by decide +kernel) rfl rfl (Nat.le_of_ble_eq_true rfl) dX6_init_23 (fun H locs h => ?_)
  have h : CS L h0 s.heap H _ ((Sum.inl (6, [some (.inl 1), some (.inr (nI 0)), some (.inr (nI 0)), some (.inr 0)]) : RE) :: (([] : List RE) ++ List.map (sh 1) (rowR 3 [] ))) := h
  refine lv_aload_n hx hb dX6_init_26 rfl (lv_at hl 0 rfl) ?_
  refine lv_iconst (v := (nI 0)) hx hb dX6_init_27 (by decide) ?_
  refine x_put (i := 0) (ci := 6) (C := RX6) (T := TX6) (N := 4) (fs := [some (.inl 1), some (.inr (nI 0)), some (.inr (nI 0)), some (.inr 0)]) (v := some (.inr (nI 0))) (ty := .int) (rl := ((Sum.inl (6, [some (.inl 1), some (.inr (nI 0)), some (.inr (nI 0)), some (.inr 0)]) : RE) :: (([] : List RE) ++ List.map (sh 1) (rowR 3 [] )))) S hK h rfl rfl i_wsX60 tyX6 tyX6_ok nmX6 3 (by decide) q_161 rfl rfl (by decide +kernel) rfl rfl (Nat.le_of_ble_eq_true rfl) dX6_init_28 (fun H locs h => ?_)
  have h : CS L h0 s.heap H _ ((Sum.inl (6, [some (.inl 1), some (.inr (nI 0)), some (.inr (nI 0)), some (.inr (nI 0))]) : RE) :: (([] : List RE) ++ List.map (sh 1) (rowR 3 [] ))) := h
  exact x_ret S hK h hr hlk dX6_init_31

def hisR  : List RE := ((Sum.inl (2, [some (.inl 1), some (.inr (nI 0))]) : RE) :: (([] : List RE) ++ [(.inr (.inr (4, [some 2, some 47, some 92, some 137])) : RE)] ++ List.map (sh 2) staR ++ List.map (sh 47) staR ++ List.map (sh 92) staR ++ List.map (sh 137) staR))
abbrev rX2_init : Room := { frames := 5, cells := 181, slots := 12516, locals := 95 }
theorem yc_X2_init : yX2_init.cls ≠ "java/lang/invoke/MethodHandle" ∧ yX2_init.cls ≠ "java/lang/invoke/VarHandle" ∧ (parseMethodDescriptor yX2_init.desc).map (fun d => d.parameters.length) = some 0 := ⟨by decide +kernel, by decide +kernel, by decide +kernel⟩
set_option maxHeartbeats 4000000 in
set_option maxRecDepth 100000 in
theorem c_X2_init (l : Launch) (L : Lay) (h0 : Nat)  : Mc l L yX2_init (Cond.code yX2_init cX2_init 2 none :: qA) rX2_init [.ref h0] h0 [(Sum.inl (2, [none, some (.inr 0)]) : RE)] hisR 181 12516 := by
  refine Mc.ofW (by decide) (Nat.le_of_ble_eq_true rfl) ?_
  intro p e s m args below meth c ls S hr hlk hnm hK h hl
  have hx := S.1
  have hb := S.2.1
  have hl : lv_has ls 2 [(0, .ref h0)] := hl
  refine lv_aload_n hx hb dX2_init_0 rfl (lv_at hl 0 rfl) ?_
  refine W.objInit hx hb S.2.2.2.1 (S.2.2.2.2 _ q_119) (S.2.2.2.2 _ q_17) (S.2.2.2.2 _ q_18) rfl (hl.1.trans S.2.2.1.symm) rfl dX2_init_1 (Nat.le_of_ble_eq_true rfl) (Nat.le_of_ble_eq_true rfl) ?_
  refine W.eq (g2 := F0 m 4 ls []) rfl ?_
  refine lv_aload_n hx hb dX2_init_4 rfl (lv_at hl 0 rfl) ?_
  refine lv_iconst (v := (nI 4)) hx hb dX2_init_5 (by decide) ?_
  refine x_newq (N := 4) (rl := ((Sum.inl (2, [none, some (.inr 0)]) : RE) :: (([] : List RE)))) (d := 1) S hK h rfl (nI_pos (by omega)) (nI_clamp (by omega)) (by omega) q_120 (Nat.le_of_ble_eq_true rfl) (Nat.le_of_ble_eq_true rfl) dX2_init_6 (fun H h => ?_)
  have h : CS L h0 s.heap H _ ((Sum.inl (2, [none, some (.inr 0)]) : RE) :: (([] : List RE) ++ [(.inr (.inr (4, [])) : RE)])) := h
  refine x_putF (i := 0) (ci := 2) (C := RX2) (T := TX2) (N := 2) (fs := [none, some (.inr 0)]) (v := some (.inl 1)) (ty := .array (.object "QuantileDigests$State")) (rl := ((Sum.inl (2, [none, some (.inr 0)]) : RE) :: (([] : List RE) ++ [(.inr (.inr (4, [])) : RE)]))) S hK h hnm rfl rfl i_wsX20 tyX2 tyX2_ok nmX2 0 (by decide) q_123 rfl rfl rfl (by decide +kernel) rfl rfl (Nat.le_of_ble_eq_true rfl) dX2_init_9 (fun H locs h => ?_)
  have h : CS L h0 s.heap H _ ((Sum.inl (2, [some (.inl 1), some (.inr 0)]) : RE) :: (([] : List RE) ++ [(.inr (.inr (4, [])) : RE)])) := h
  refine lv_aload_n hx hb dX2_init_12 rfl (lv_at hl 0 rfl) ?_
  refine lv_iconst (v := (nI 0)) hx hb dX2_init_13 (by decide) ?_
  refine x_put (i := 0) (ci := 2) (C := RX2) (T := TX2) (N := 2) (fs := [some (.inl 1), some (.inr 0)]) (v := some (.inr (nI 0))) (ty := .int) (rl := ((Sum.inl (2, [some (.inl 1), some (.inr 0)]) : RE) :: (([] : List RE) ++ [(.inr (.inr (4, [])) : RE)]))) S hK h rfl rfl i_wsX20 tyX2 tyX2_ok nmX2 1 (by decide) q_124 rfl rfl (by decide +kernel) rfl rfl (Nat.le_of_ble_eq_true rfl) dX2_init_14 (fun H locs h => ?_)
  have h : CS L h0 s.heap H _ ((Sum.inl (2, [some (.inl 1), some (.inr (nI 0))]) : RE) :: (([] : List RE) ++ [(.inr (.inr (4, [])) : RE)])) := h
  refine lv_iconst (v := (nI 0)) hx hb dX2_init_17 (by decide) ?_
  refine lv_istore_n (lv' := [(1, .int (nI 0)), (0, .ref h0)]) hx hb dX2_init_18 rfl hl (by decide) rfl (fun ls hl => ?_)
  refine lv_iload_n hx hb dX2_init_19 rfl (lv_at hl 0 rfl) ?_
  refine lv_aload_n hx hb dX2_init_20 rfl (lv_at hl 1 rfl) ?_
  refine x_get (i := 0) (ci := 2) (C := RX2) (T := TX2) (N := 2) (fs := [some (.inl 1), some (.inr (nI 0))]) (v := some (.inl 1)) (rl := ((Sum.inl (2, [some (.inl 1), some (.inr (nI 0))]) : RE) :: (([] : List RE) ++ [(.inr (.inr (4, [])) : RE)]))) S hK h rfl rfl i_wsX20 0 (by decide) rfl q_123 rfl dX2_init_21 ?_
  refine W.eq (g2 := F0 m 24 ls [.ref (h0 + 1), .int (nI 0)]) rfl ?_
  refine x_alenq (i := 1) (a := (4, [])) (rl := ((Sum.inl (2, [some (.inl 1), some (.inr (nI 0))]) : RE) :: (([] : List RE) ++ [(.inr (.inr (4, [])) : RE)]))) S hK h rfl dX2_init_24 ?_
  refine b_icmp_ge (tgt := 47) hx hb dX2_init_25 (by decide) (by decide) (by decide) (fun c9 => absurd c9 (by decide)) (fun _ => ?_)
  refine lv_aload_n hx hb dX2_init_28 rfl (lv_at hl 1 rfl) ?_
  refine x_get (i := 0) (ci := 2) (C := RX2) (T := TX2) (N := 2) (fs := [some (.inl 1), some (.inr (nI 0))]) (v := some (.inl 1)) (rl := ((Sum.inl (2, [some (.inl 1), some (.inr (nI 0))]) : RE) :: (([] : List RE) ++ [(.inr (.inr (4, [])) : RE)]))) S hK h rfl rfl i_wsX20 0 (by decide) rfl q_123 rfl dX2_init_29 ?_
  refine W.eq (g2 := F0 m 32 ls [.ref (h0 + 1)]) rfl ?_
  refine lv_iload_n hx hb dX2_init_32 rfl (lv_at hl 0 rfl) ?_
  refine x_new (ci := 5) (C := RX5) (T := TX5) (N := 4) (fs := [none, none, none, none]) (rl := ((Sum.inl (2, [some (.inl 1), some (.inr (nI 0))]) : RE) :: (([] : List RE) ++ [(.inr (.inr (4, [])) : RE)]))) (d := 2) S hK h rfl rfl i_wsX50 tyX5 tyX5_ok (fun j hj => by rcases (show j = 0 ∨ j = 1 ∨ j = 2 ∨ j = 3 by omega) with rfl | rfl | rfl | rfl <;> rfl) q_120 q_20 q_2 (Nat.le_of_ble_eq_true rfl) (Nat.le_of_ble_eq_true rfl) dX2_init_33 (fun H h => ?_)
  refine lv_dup hx hb dX2_init_36 rfl ?_
  refine x_ctI (rl := ((Sum.inl (2, [some (.inl 1), some (.inr (nI 0))]) : RE) :: (([] : List RE) ++ [(.inr (.inr (4, [])) : RE)]))) (d := 2) (r0 := (Sum.inl (5, [none, none, none, none]) : RE)) (As := []) (rl2 := staR) S hK h rfl (c_X5_init l L (h0 + 2)) q_122 q_22 q_2 q_23 rfl yc_X5_init rfl ⟨rfl, rfl⟩ ⟨(Nat.le_of_ble_eq_true rfl), (Nat.le_of_ble_eq_true rfl)⟩ ⟨(Nat.le_of_ble_eq_true rfl), (Nat.le_of_ble_eq_true rfl)⟩ rfl (Nat.le_of_ble_eq_true rfl) hl.1 dX2_init_37 (fun H locs h => ?_)
  have h : CS L h0 s.heap H _ ((Sum.inl (2, [some (.inl 1), some (.inr (nI 0))]) : RE) :: (([] : List RE) ++ [(.inr (.inr (4, [])) : RE)] ++ List.map (sh 2) staR)) := h
  refine x_aast (i := 1) (n := 4) (d := 2) (li := []) (fs := [some (.inl (2 + 1)), some (.inl (2 + 3)), some (.inl (2 + 17)), some (.inl (2 + 31))]) (rl := ((Sum.inl (2, [some (.inl 1), some (.inr (nI 0))]) : RE) :: (([] : List RE) ++ [(.inr (.inr (4, [])) : RE)] ++ List.map (sh 2) staR))) S hK h rfl rfl (by decide) (by decide) dX2_init_40 (fun H locs h => ?_)
  have h : CS L h0 s.heap H _ ((Sum.inl (2, [some (.inl 1), some (.inr (nI 0))]) : RE) :: (([] : List RE) ++ [(.inr (.inr (4, [some 2])) : RE)] ++ List.map (sh 2) staR)) := h
  refine lv_iinc (v := (nI 1)) (lv' := [(1, .int (nI 1)), (0, .ref h0)]) hx hb dX2_init_41 hl (k := 0) rfl (iinc_k 0 1) (by decide) rfl (fun ls hl => ?_)
  refine lv_goto (tgt := 19) hx hb dX2_init_44 (by decide) ?_
  refine lv_iload_n hx hb dX2_init_19 rfl (lv_at hl 0 rfl) ?_
  refine lv_aload_n hx hb dX2_init_20 rfl (lv_at hl 1 rfl) ?_
  refine x_get (i := 0) (ci := 2) (C := RX2) (T := TX2) (N := 2) (fs := [some (.inl 1), some (.inr (nI 0))]) (v := some (.inl 1)) (rl := ((Sum.inl (2, [some (.inl 1), some (.inr (nI 0))]) : RE) :: (([] : List RE) ++ [(.inr (.inr (4, [some 2])) : RE)] ++ List.map (sh 2) staR))) S hK h rfl rfl i_wsX20 0 (by decide) rfl q_123 rfl dX2_init_21 ?_
  refine W.eq (g2 := F0 m 24 ls [.ref (h0 + 1), .int (nI 1)]) rfl ?_
  refine x_alenq (i := 1) (a := (4, [some 2])) (rl := ((Sum.inl (2, [some (.inl 1), some (.inr (nI 0))]) : RE) :: (([] : List RE) ++ [(.inr (.inr (4, [some 2])) : RE)] ++ List.map (sh 2) staR))) S hK h rfl dX2_init_24 ?_
  refine b_icmp_ge (tgt := 47) hx hb dX2_init_25 (by decide) (by decide) (by decide) (fun c9 => absurd c9 (by decide)) (fun _ => ?_)
  refine lv_aload_n hx hb dX2_init_28 rfl (lv_at hl 1 rfl) ?_
  refine x_get (i := 0) (ci := 2) (C := RX2) (T := TX2) (N := 2) (fs := [some (.inl 1), some (.inr (nI 0))]) (v := some (.inl 1)) (rl := ((Sum.inl (2, [some (.inl 1), some (.inr (nI 0))]) : RE) :: (([] : List RE) ++ [(.inr (.inr (4, [some 2])) : RE)] ++ List.map (sh 2) staR))) S hK h rfl rfl i_wsX20 0 (by decide) rfl q_123 rfl dX2_init_29 ?_
  refine W.eq (g2 := F0 m 32 ls [.ref (h0 + 1)]) rfl ?_
  refine lv_iload_n hx hb dX2_init_32 rfl (lv_at hl 0 rfl) ?_
  refine x_new (ci := 5) (C := RX5) (T := TX5) (N := 4) (fs := [none, none, none, none]) (rl := ((Sum.inl (2, [some (.inl 1), some (.inr (nI 0))]) : RE) :: (([] : List RE) ++ [(.inr (.inr (4, [some 2])) : RE)] ++ List.map (sh 2) staR))) (d := 47) S hK h rfl rfl i_wsX50 tyX5 tyX5_ok (fun j hj => by rcases (show j = 0 ∨ j = 1 ∨ j = 2 ∨ j = 3 by omega) with rfl | rfl | rfl | rfl <;> rfl) q_120 q_20 q_2 (Nat.le_of_ble_eq_true rfl) (Nat.le_of_ble_eq_true rfl) dX2_init_33 (fun H h => ?_)
  refine lv_dup hx hb dX2_init_36 rfl ?_
  refine x_ctI (rl := ((Sum.inl (2, [some (.inl 1), some (.inr (nI 0))]) : RE) :: (([] : List RE) ++ [(.inr (.inr (4, [some 2])) : RE)] ++ List.map (sh 2) staR))) (d := 47) (r0 := (Sum.inl (5, [none, none, none, none]) : RE)) (As := []) (rl2 := staR) S hK h rfl (c_X5_init l L (h0 + 47)) q_122 q_22 q_2 q_23 rfl yc_X5_init rfl ⟨rfl, rfl⟩ ⟨(Nat.le_of_ble_eq_true rfl), (Nat.le_of_ble_eq_true rfl)⟩ ⟨(Nat.le_of_ble_eq_true rfl), (Nat.le_of_ble_eq_true rfl)⟩ rfl (Nat.le_of_ble_eq_true rfl) hl.1 dX2_init_37 (fun H locs h => ?_)
  have h : CS L h0 s.heap H _ ((Sum.inl (2, [some (.inl 1), some (.inr (nI 0))]) : RE) :: (([] : List RE) ++ [(.inr (.inr (4, [some 2])) : RE)] ++ List.map (sh 2) staR ++ List.map (sh 47) staR)) := h
  refine x_aast (i := 1) (n := 4) (d := 47) (li := [some 2]) (fs := [some (.inl (47 + 1)), some (.inl (47 + 3)), some (.inl (47 + 17)), some (.inl (47 + 31))]) (rl := ((Sum.inl (2, [some (.inl 1), some (.inr (nI 0))]) : RE) :: (([] : List RE) ++ [(.inr (.inr (4, [some 2])) : RE)] ++ List.map (sh 2) staR ++ List.map (sh 47) staR))) S hK h rfl rfl (by decide) (by decide) dX2_init_40 (fun H locs h => ?_)
  have h : CS L h0 s.heap H _ ((Sum.inl (2, [some (.inl 1), some (.inr (nI 0))]) : RE) :: (([] : List RE) ++ [(.inr (.inr (4, [some 2, some 47])) : RE)] ++ List.map (sh 2) staR ++ List.map (sh 47) staR)) := h
  refine lv_iinc (v := (nI 2)) (lv' := [(1, .int (nI 2)), (0, .ref h0)]) hx hb dX2_init_41 hl (k := 0) rfl (iinc_k 1 1) (by decide) rfl (fun ls hl => ?_)
  refine lv_goto (tgt := 19) hx hb dX2_init_44 (by decide) ?_
  refine lv_iload_n hx hb dX2_init_19 rfl (lv_at hl 0 rfl) ?_
  refine lv_aload_n hx hb dX2_init_20 rfl (lv_at hl 1 rfl) ?_
  refine x_get (i := 0) (ci := 2) (C := RX2) (T := TX2) (N := 2) (fs := [some (.inl 1), some (.inr (nI 0))]) (v := some (.inl 1)) (rl := ((Sum.inl (2, [some (.inl 1), some (.inr (nI 0))]) : RE) :: (([] : List RE) ++ [(.inr (.inr (4, [some 2, some 47])) : RE)] ++ List.map (sh 2) staR ++ List.map (sh 47) staR))) S hK h rfl rfl i_wsX20 0 (by decide) rfl q_123 rfl dX2_init_21 ?_
  refine W.eq (g2 := F0 m 24 ls [.ref (h0 + 1), .int (nI 2)]) rfl ?_
  refine x_alenq (i := 1) (a := (4, [some 2, some 47])) (rl := ((Sum.inl (2, [some (.inl 1), some (.inr (nI 0))]) : RE) :: (([] : List RE) ++ [(.inr (.inr (4, [some 2, some 47])) : RE)] ++ List.map (sh 2) staR ++ List.map (sh 47) staR))) S hK h rfl dX2_init_24 ?_
  refine b_icmp_ge (tgt := 47) hx hb dX2_init_25 (by decide) (by decide) (by decide) (fun c9 => absurd c9 (by decide)) (fun _ => ?_)
  refine lv_aload_n hx hb dX2_init_28 rfl (lv_at hl 1 rfl) ?_
  refine x_get (i := 0) (ci := 2) (C := RX2) (T := TX2) (N := 2) (fs := [some (.inl 1), some (.inr (nI 0))]) (v := some (.inl 1)) (rl := ((Sum.inl (2, [some (.inl 1), some (.inr (nI 0))]) : RE) :: (([] : List RE) ++ [(.inr (.inr (4, [some 2, some 47])) : RE)] ++ List.map (sh 2) staR ++ List.map (sh 47) staR))) S hK h rfl rfl i_wsX20 0 (by decide) rfl q_123 rfl dX2_init_29 ?_
  refine W.eq (g2 := F0 m 32 ls [.ref (h0 + 1)]) rfl ?_
  refine lv_iload_n hx hb dX2_init_32 rfl (lv_at hl 0 rfl) ?_
  refine x_new (ci := 5) (C := RX5) (T := TX5) (N := 4) (fs := [none, none, none, none]) (rl := ((Sum.inl (2, [some (.inl 1), some (.inr (nI 0))]) : RE) :: (([] : List RE) ++ [(.inr (.inr (4, [some 2, some 47])) : RE)] ++ List.map (sh 2) staR ++ List.map (sh 47) staR))) (d := 92) S hK h rfl rfl i_wsX50 tyX5 tyX5_ok (fun j hj => by rcases (show j = 0 ∨ j = 1 ∨ j = 2 ∨ j = 3 by omega) with rfl | rfl | rfl | rfl <;> rfl) q_120 q_20 q_2 (Nat.le_of_ble_eq_true rfl) (Nat.le_of_ble_eq_true rfl) dX2_init_33 (fun H h => ?_)
  refine lv_dup hx hb dX2_init_36 rfl ?_
  refine x_ctI (rl := ((Sum.inl (2, [some (.inl 1), some (.inr (nI 0))]) : RE) :: (([] : List RE) ++ [(.inr (.inr (4, [some 2, some 47])) : RE)] ++ List.map (sh 2) staR ++ List.map (sh 47) staR))) (d := 92) (r0 := (Sum.inl (5, [none, none, none, none]) : RE)) (As := []) (rl2 := staR) S hK h rfl (c_X5_init l L (h0 + 92)) q_122 q_22 q_2 q_23 rfl yc_X5_init rfl ⟨rfl, rfl⟩ ⟨(Nat.le_of_ble_eq_true rfl), (Nat.le_of_ble_eq_true rfl)⟩ ⟨(Nat.le_of_ble_eq_true rfl), (Nat.le_of_ble_eq_true rfl)⟩ rfl (Nat.le_of_ble_eq_true rfl) hl.1 dX2_init_37 (fun H locs h => ?_)
  have h : CS L h0 s.heap H _ ((Sum.inl (2, [some (.inl 1), some (.inr (nI 0))]) : RE) :: (([] : List RE) ++ [(.inr (.inr (4, [some 2, some 47])) : RE)] ++ List.map (sh 2) staR ++ List.map (sh 47) staR ++ List.map (sh 92) staR)) := h
  refine x_aast (i := 1) (n := 4) (d := 92) (li := [some 2, some 47]) (fs := [some (.inl (92 + 1)), some (.inl (92 + 3)), some (.inl (92 + 17)), some (.inl (92 + 31))]) (rl := ((Sum.inl (2, [some (.inl 1), some (.inr (nI 0))]) : RE) :: (([] : List RE) ++ [(.inr (.inr (4, [some 2, some 47])) : RE)] ++ List.map (sh 2) staR ++ List.map (sh 47) staR ++ List.map (sh 92) staR))) S hK h rfl rfl (by decide) (by decide) dX2_init_40 (fun H locs h => ?_)
  have h : CS L h0 s.heap H _ ((Sum.inl (2, [some (.inl 1), some (.inr (nI 0))]) : RE) :: (([] : List RE) ++ [(.inr (.inr (4, [some 2, some 47, some 92])) : RE)] ++ List.map (sh 2) staR ++ List.map (sh 47) staR ++ List.map (sh 92) staR)) := h
  refine lv_iinc (v := (nI 3)) (lv' := [(1, .int (nI 3)), (0, .ref h0)]) hx hb dX2_init_41 hl (k := 0) rfl (iinc_k 2 1) (by decide) rfl (fun ls hl => ?_)
  refine lv_goto (tgt := 19) hx hb dX2_init_44 (by decide) ?_
  refine lv_iload_n hx hb dX2_init_19 rfl (lv_at hl 0 rfl) ?_
  refine lv_aload_n hx hb dX2_init_20 rfl (lv_at hl 1 rfl) ?_
  refine x_get (i := 0) (ci := 2) (C := RX2) (T := TX2) (N := 2) (fs := [some (.inl 1), some (.inr (nI 0))]) (v := some (.inl 1)) (rl := ((Sum.inl (2, [some (.inl 1), some (.inr (nI 0))]) : RE) :: (([] : List RE) ++ [(.inr (.inr (4, [some 2, some 47, some 92])) : RE)] ++ List.map (sh 2) staR ++ List.map (sh 47) staR ++ List.map (sh 92) staR))) S hK h rfl rfl i_wsX20 0 (by decide) rfl q_123 rfl dX2_init_21 ?_
  refine W.eq (g2 := F0 m 24 ls [.ref (h0 + 1), .int (nI 3)]) rfl ?_
  refine x_alenq (i := 1) (a := (4, [some 2, some 47, some 92])) (rl := ((Sum.inl (2, [some (.inl 1), some (.inr (nI 0))]) : RE) :: (([] : List RE) ++ [(.inr (.inr (4, [some 2, some 47, some 92])) : RE)] ++ List.map (sh 2) staR ++ List.map (sh 47) staR ++ List.map (sh 92) staR))) S hK h rfl dX2_init_24 ?_
  refine b_icmp_ge (tgt := 47) hx hb dX2_init_25 (by decide) (by decide) (by decide) (fun c9 => absurd c9 (by decide)) (fun _ => ?_)
  refine lv_aload_n hx hb dX2_init_28 rfl (lv_at hl 1 rfl) ?_
  refine x_get (i := 0) (ci := 2) (C := RX2) (T := TX2) (N := 2) (fs := [some (.inl 1), some (.inr (nI 0))]) (v := some (.inl 1)) (rl := ((Sum.inl (2, [some (.inl 1), some (.inr (nI 0))]) : RE) :: (([] : List RE) ++ [(.inr (.inr (4, [some 2, some 47, some 92])) : RE)] ++ List.map (sh 2) staR ++ List.map (sh 47) staR ++ List.map (sh 92) staR))) S hK h rfl rfl i_wsX20 0 (by decide) rfl q_123 rfl dX2_init_29 ?_
  refine W.eq (g2 := F0 m 32 ls [.ref (h0 + 1)]) rfl ?_
  refine lv_iload_n hx hb dX2_init_32 rfl (lv_at hl 0 rfl) ?_
  refine x_new (ci := 5) (C := RX5) (T := TX5) (N := 4) (fs := [none, none, none, none]) (rl := ((Sum.inl (2, [some (.inl 1), some (.inr (nI 0))]) : RE) :: (([] : List RE) ++ [(.inr (.inr (4, [some 2, some 47, some 92])) : RE)] ++ List.map (sh 2) staR ++ List.map (sh 47) staR ++ List.map (sh 92) staR))) (d := 137) S hK h rfl rfl i_wsX50 tyX5 tyX5_ok (fun j hj => by rcases (show j = 0 ∨ j = 1 ∨ j = 2 ∨ j = 3 by omega) with rfl | rfl | rfl | rfl <;> rfl) q_120 q_20 q_2 (Nat.le_of_ble_eq_true rfl) (Nat.le_of_ble_eq_true rfl) dX2_init_33 (fun H h => ?_)
  refine lv_dup hx hb dX2_init_36 rfl ?_
  refine x_ctI (rl := ((Sum.inl (2, [some (.inl 1), some (.inr (nI 0))]) : RE) :: (([] : List RE) ++ [(.inr (.inr (4, [some 2, some 47, some 92])) : RE)] ++ List.map (sh 2) staR ++ List.map (sh 47) staR ++ List.map (sh 92) staR))) (d := 137) (r0 := (Sum.inl (5, [none, none, none, none]) : RE)) (As := []) (rl2 := staR) S hK h rfl (c_X5_init l L (h0 + 137)) q_122 q_22 q_2 q_23 rfl yc_X5_init rfl ⟨rfl, rfl⟩ ⟨(Nat.le_of_ble_eq_true rfl), (Nat.le_of_ble_eq_true rfl)⟩ ⟨(Nat.le_of_ble_eq_true rfl), (Nat.le_of_ble_eq_true rfl)⟩ rfl (Nat.le_of_ble_eq_true rfl) hl.1 dX2_init_37 (fun H locs h => ?_)
  have h : CS L h0 s.heap H _ ((Sum.inl (2, [some (.inl 1), some (.inr (nI 0))]) : RE) :: (([] : List RE) ++ [(.inr (.inr (4, [some 2, some 47, some 92])) : RE)] ++ List.map (sh 2) staR ++ List.map (sh 47) staR ++ List.map (sh 92) staR ++ List.map (sh 137) staR)) := h
  refine x_aast (i := 1) (n := 4) (d := 137) (li := [some 2, some 47, some 92]) (fs := [some (.inl (137 + 1)), some (.inl (137 + 3)), some (.inl (137 + 17)), some (.inl (137 + 31))]) (rl := ((Sum.inl (2, [some (.inl 1), some (.inr (nI 0))]) : RE) :: (([] : List RE) ++ [(.inr (.inr (4, [some 2, some 47, some 92])) : RE)] ++ List.map (sh 2) staR ++ List.map (sh 47) staR ++ List.map (sh 92) staR ++ List.map (sh 137) staR))) S hK h rfl rfl (by decide) (by decide) dX2_init_40 (fun H locs h => ?_)
  have h : CS L h0 s.heap H _ ((Sum.inl (2, [some (.inl 1), some (.inr (nI 0))]) : RE) :: (([] : List RE) ++ [(.inr (.inr (4, [some 2, some 47, some 92, some 137])) : RE)] ++ List.map (sh 2) staR ++ List.map (sh 47) staR ++ List.map (sh 92) staR ++ List.map (sh 137) staR)) := h
  refine lv_iinc (v := (nI 4)) (lv' := [(1, .int (nI 4)), (0, .ref h0)]) hx hb dX2_init_41 hl (k := 0) rfl (iinc_k 3 1) (by decide) rfl (fun ls hl => ?_)
  refine lv_goto (tgt := 19) hx hb dX2_init_44 (by decide) ?_
  refine lv_iload_n hx hb dX2_init_19 rfl (lv_at hl 0 rfl) ?_
  refine lv_aload_n hx hb dX2_init_20 rfl (lv_at hl 1 rfl) ?_
  refine x_get (i := 0) (ci := 2) (C := RX2) (T := TX2) (N := 2) (fs := [some (.inl 1), some (.inr (nI 0))]) (v := some (.inl 1)) (rl := ((Sum.inl (2, [some (.inl 1), some (.inr (nI 0))]) : RE) :: (([] : List RE) ++ [(.inr (.inr (4, [some 2, some 47, some 92, some 137])) : RE)] ++ List.map (sh 2) staR ++ List.map (sh 47) staR ++ List.map (sh 92) staR ++ List.map (sh 137) staR))) S hK h rfl rfl i_wsX20 0 (by decide) rfl q_123 rfl dX2_init_21 ?_
  refine W.eq (g2 := F0 m 24 ls [.ref (h0 + 1), .int (nI 4)]) rfl ?_
  refine x_alenq (i := 1) (a := (4, [some 2, some 47, some 92, some 137])) (rl := ((Sum.inl (2, [some (.inl 1), some (.inr (nI 0))]) : RE) :: (([] : List RE) ++ [(.inr (.inr (4, [some 2, some 47, some 92, some 137])) : RE)] ++ List.map (sh 2) staR ++ List.map (sh 47) staR ++ List.map (sh 92) staR ++ List.map (sh 137) staR))) S hK h rfl dX2_init_24 ?_
  refine b_icmp_ge (tgt := 47) hx hb dX2_init_25 (by decide) (by decide) (by decide) (fun _ => ?_) (fun c9 => absurd c9 (by decide))
  exact x_ret S hK h hr hlk dX2_init_47

def mainR  : List RE := ((Sum.inl (7, [some (.inl 1), some (.inl 46), some (.inl 228), some (.inl 230), some (.inl 233), some (.inl 236)]) : RE) :: (([] : List RE) ++ List.map (sh 1) staR ++ List.map (sh 46) hisR ++ List.map (sh 228) (rowR 60 [] ) ++ List.map (sh 230) partR ++ List.map (sh 233) tfR ++ List.map (sh 236) heapsR))
abbrev rX7_init : Room := { frames := 6, cells := 244, slots := 16594, locals := 116 }
theorem yc_X7_init : yX7_init.cls ≠ "java/lang/invoke/MethodHandle" ∧ yX7_init.cls ≠ "java/lang/invoke/VarHandle" ∧ (parseMethodDescriptor yX7_init.desc).map (fun d => d.parameters.length) = some 0 := ⟨by decide +kernel, by decide +kernel, by decide +kernel⟩
set_option maxHeartbeats 4000000 in
set_option maxRecDepth 100000 in
theorem c_X7_init (l : Launch) (L : Lay) (h0 : Nat)  : Mc l L yX7_init (Cond.code yX7_init cX7_init 1 none :: qA) rX7_init [.ref h0] h0 [(Sum.inl (7, [none, none, none, none, none, none]) : RE)] mainR 244 16594 := by
  refine Mc.ofW (by decide) (Nat.le_of_ble_eq_true rfl) ?_
  intro p e s m args below meth c ls S hr hlk hnm hK h hl
  have hx := S.1
  have hb := S.2.1
  have hl : lv_has ls 1 [(0, .ref h0)] := hl
  refine lv_aload_n hx hb dX7_init_0 rfl (lv_at hl 0 rfl) ?_
  refine W.objInit hx hb S.2.2.2.1 (S.2.2.2.2 _ q_16) (S.2.2.2.2 _ q_17) (S.2.2.2.2 _ q_18) rfl (hl.1.trans S.2.2.1.symm) rfl dX7_init_1 (Nat.le_of_ble_eq_true rfl) (Nat.le_of_ble_eq_true rfl) ?_
  refine W.eq (g2 := F0 m 4 ls []) rfl ?_
  refine lv_aload_n hx hb dX7_init_4 rfl (lv_at hl 0 rfl) ?_
  refine x_new (ci := 5) (C := RX5) (T := TX5) (N := 4) (fs := [none, none, none, none]) (rl := ((Sum.inl (7, [none, none, none, none, none, none]) : RE) :: (([] : List RE)))) (d := 1) S hK h rfl rfl i_wsX50 tyX5 tyX5_ok (fun j hj => by rcases (show j = 0 ∨ j = 1 ∨ j = 2 ∨ j = 3 by omega) with rfl | rfl | rfl | rfl <;> rfl) q_19 q_20 q_2 (Nat.le_of_ble_eq_true rfl) (Nat.le_of_ble_eq_true rfl) dX7_init_5 (fun H h => ?_)
  refine lv_dup hx hb dX7_init_8 rfl ?_
  refine x_ctI (rl := ((Sum.inl (7, [none, none, none, none, none, none]) : RE) :: (([] : List RE)))) (d := 1) (r0 := (Sum.inl (5, [none, none, none, none]) : RE)) (As := []) (rl2 := staR) S hK h rfl (c_X5_init l L (h0 + 1)) q_21 q_22 q_2 q_23 rfl yc_X5_init rfl ⟨rfl, rfl⟩ ⟨(Nat.le_of_ble_eq_true rfl), (Nat.le_of_ble_eq_true rfl)⟩ ⟨(Nat.le_of_ble_eq_true rfl), (Nat.le_of_ble_eq_true rfl)⟩ rfl (Nat.le_of_ble_eq_true rfl) hl.1 dX7_init_9 (fun H locs h => ?_)
  have h : CS L h0 s.heap H _ ((Sum.inl (7, [none, none, none, none, none, none]) : RE) :: (([] : List RE) ++ List.map (sh 1) staR)) := h
  refine x_putF (i := 0) (ci := 7) (C := RX7) (T := TX7) (N := 6) (fs := [none, none, none, none, none, none]) (v := some (.inl 1)) (ty := .object "QuantileDigests$State") (rl := ((Sum.inl (7, [none, none, none, none, none, none]) : RE) :: (([] : List RE) ++ List.map (sh 1) staR))) S hK h hnm rfl rfl i_wsX70 tyX7 tyX7_ok nmX7 0 (by decide) q_173 rfl rfl rfl (by decide +kernel) rfl rfl (Nat.le_of_ble_eq_true rfl) dX7_init_12 (fun H locs h => ?_)
  have h : CS L h0 s.heap H _ ((Sum.inl (7, [some (.inl 1), none, none, none, none, none]) : RE) :: (([] : List RE) ++ List.map (sh 1) staR)) := h
  refine lv_aload_n hx hb dX7_init_15 rfl (lv_at hl 0 rfl) ?_
  refine x_new (ci := 2) (C := RX2) (T := TX2) (N := 2) (fs := [none, some (.inr 0)]) (rl := ((Sum.inl (7, [some (.inl 1), none, none, none, none, none]) : RE) :: (([] : List RE) ++ List.map (sh 1) staR))) (d := 46) S hK h rfl rfl i_wsX20 tyX2 tyX2_ok (fun j hj => by rcases (show j = 0 ∨ j = 1 by omega) with rfl | rfl <;> rfl) q_114 q_115 q_7 (Nat.le_of_ble_eq_true rfl) (Nat.le_of_ble_eq_true rfl) dX7_init_16 (fun H h => ?_)
  refine lv_dup hx hb dX7_init_19 rfl ?_
  refine x_ctI (rl := ((Sum.inl (7, [some (.inl 1), none, none, none, none, none]) : RE) :: (([] : List RE) ++ List.map (sh 1) staR))) (d := 46) (r0 := (Sum.inl (2, [none, some (.inr 0)]) : RE)) (As := []) (rl2 := hisR) S hK h rfl (c_X2_init l L (h0 + 46)) q_116 q_117 q_7 q_118 rfl yc_X2_init rfl ⟨rfl, rfl⟩ ⟨(Nat.le_of_ble_eq_true rfl), (Nat.le_of_ble_eq_true rfl)⟩ ⟨(Nat.le_of_ble_eq_true rfl), (Nat.le_of_ble_eq_true rfl)⟩ rfl (Nat.le_of_ble_eq_true rfl) hl.1 dX7_init_20 (fun H locs h => ?_)
  have h : CS L h0 s.heap H _ ((Sum.inl (7, [some (.inl 1), none, none, none, none, none]) : RE) :: (([] : List RE) ++ List.map (sh 1) staR ++ List.map (sh 46) hisR)) := h
  refine x_putF (i := 0) (ci := 7) (C := RX7) (T := TX7) (N := 6) (fs := [some (.inl 1), none, none, none, none, none]) (v := some (.inl 46)) (ty := .object "QuantileDigests$History") (rl := ((Sum.inl (7, [some (.inl 1), none, none, none, none, none]) : RE) :: (([] : List RE) ++ List.map (sh 1) staR ++ List.map (sh 46) hisR))) S hK h hnm rfl rfl i_wsX70 tyX7 tyX7_ok nmX7 1 (by decide) q_174 rfl rfl rfl (by decide +kernel) rfl rfl (Nat.le_of_ble_eq_true rfl) dX7_init_23 (fun H locs h => ?_)
  have h : CS L h0 s.heap H _ ((Sum.inl (7, [some (.inl 1), some (.inl 46), none, none, none, none]) : RE) :: (([] : List RE) ++ List.map (sh 1) staR ++ List.map (sh 46) hisR)) := h
  refine lv_aload_n hx hb dX7_init_26 rfl (lv_at hl 0 rfl) ?_
  refine x_new (ci := 4) (C := RX4) (T := TX4) (N := 2) (fs := [none, some (.inr 0)]) (rl := ((Sum.inl (7, [some (.inl 1), some (.inl 46), none, none, none, none]) : RE) :: (([] : List RE) ++ List.map (sh 1) staR ++ List.map (sh 46) hisR))) (d := 228) S hK h rfl rfl i_wsX40 tyX4 tyX4_ok (fun j hj => by rcases (show j = 0 ∨ j = 1 by omega) with rfl | rfl <;> rfl) q_130 q_26 q_3 (Nat.le_of_ble_eq_true rfl) (Nat.le_of_ble_eq_true rfl) dX7_init_27 (fun H h => ?_)
  refine lv_dup hx hb dX7_init_30 rfl ?_
  refine lv_bipush (v := (nI 60)) hx hb dX7_init_31 (by decide) ?_
  refine x_ctI (rl := ((Sum.inl (7, [some (.inl 1), some (.inl 46), none, none, none, none]) : RE) :: (([] : List RE) ++ List.map (sh 1) staR ++ List.map (sh 46) hisR))) (d := 228) (r0 := (Sum.inl (4, [none, some (.inr 0)]) : RE)) (As := [.int (nI 60)]) (rl2 := (rowR 60 [] )) S hK h rfl (c_X4_init l L (h0 + 228) (n := 60) (by omega)) q_131 q_28 q_3 q_29 rfl yc_X4_init rfl ⟨rfl, rfl⟩ ⟨(Nat.le_of_ble_eq_true rfl), (Nat.le_of_ble_eq_true rfl)⟩ ⟨(Nat.le_of_ble_eq_true rfl), (Nat.le_of_ble_eq_true rfl)⟩ rfl (Nat.le_of_ble_eq_true rfl) hl.1 dX7_init_33 (fun H locs h => ?_)
  have h : CS L h0 s.heap H _ ((Sum.inl (7, [some (.inl 1), some (.inl 46), none, none, none, none]) : RE) :: (([] : List RE) ++ List.map (sh 1) staR ++ List.map (sh 46) hisR ++ List.map (sh 228) (rowR 60 [] ))) := h
  refine x_putF (i := 0) (ci := 7) (C := RX7) (T := TX7) (N := 6) (fs := [some (.inl 1), some (.inl 46), none, none, none, none]) (v := some (.inl 228)) (ty := .object "QuantileDigests$Row") (rl := ((Sum.inl (7, [some (.inl 1), some (.inl 46), none, none, none, none]) : RE) :: (([] : List RE) ++ List.map (sh 1) staR ++ List.map (sh 46) hisR ++ List.map (sh 228) (rowR 60 [] )))) S hK h hnm rfl rfl i_wsX70 tyX7 tyX7_ok nmX7 2 (by decide) q_175 rfl rfl rfl (by decide +kernel) rfl rfl (Nat.le_of_ble_eq_true rfl) dX7_init_36 (fun H locs h => ?_)
  have h : CS L h0 s.heap H _ ((Sum.inl (7, [some (.inl 1), some (.inl 46), some (.inl 228), none, none, none]) : RE) :: (([] : List RE) ++ List.map (sh 1) staR ++ List.map (sh 46) hisR ++ List.map (sh 228) (rowR 60 [] ))) := h
  refine lv_aload_n hx hb dX7_init_39 rfl (lv_at hl 0 rfl) ?_
  refine x_new (ci := 3) (C := RX3) (T := TX3) (N := 3) (fs := [none, some (.inr 0), some (.inr 0)]) (rl := ((Sum.inl (7, [some (.inl 1), some (.inl 46), some (.inl 228), none, none, none]) : RE) :: (([] : List RE) ++ List.map (sh 1) staR ++ List.map (sh 46) hisR ++ List.map (sh 228) (rowR 60 [] )))) (d := 230) S hK h rfl rfl i_wsX30 tyX3 tyX3_ok (fun j hj => by rcases (show j = 0 ∨ j = 1 ∨ j = 2 by omega) with rfl | rfl | rfl <;> rfl) q_132 q_133 q_8 (Nat.le_of_ble_eq_true rfl) (Nat.le_of_ble_eq_true rfl) dX7_init_40 (fun H h => ?_)
  refine lv_dup hx hb dX7_init_43 rfl ?_
  refine x_ctN (rl := ((Sum.inl (7, [some (.inl 1), some (.inl 46), some (.inl 228), none, none, none]) : RE) :: (([] : List RE) ++ List.map (sh 1) staR ++ List.map (sh 46) hisR ++ List.map (sh 228) (rowR 60 [] )))) (d := 230) (r0 := (Sum.inl (3, [none, some (.inr 0), some (.inr 0)]) : RE)) (As := []) (rl2 := partR) S hK h rfl (c_X3_init l L (h0 + 230)) hK.2.2.2.1 q_135 q_8 q_136 rfl yc_X3_init rfl ⟨rfl, rfl⟩ ⟨(Nat.le_of_ble_eq_true rfl), (Nat.le_of_ble_eq_true rfl)⟩ ⟨(Nat.le_of_ble_eq_true rfl), (Nat.le_of_ble_eq_true rfl)⟩ rfl (Nat.le_of_ble_eq_true rfl) hl.1 dX7_init_44 (fun H locs h => ?_)
  have h : CS L h0 s.heap H _ ((Sum.inl (7, [some (.inl 1), some (.inl 46), some (.inl 228), none, none, none]) : RE) :: (([] : List RE) ++ List.map (sh 1) staR ++ List.map (sh 46) hisR ++ List.map (sh 228) (rowR 60 [] ) ++ List.map (sh 230) partR)) := h
  refine x_putF (i := 0) (ci := 7) (C := RX7) (T := TX7) (N := 6) (fs := [some (.inl 1), some (.inl 46), some (.inl 228), none, none, none]) (v := some (.inl 230)) (ty := .object "QuantileDigests$Part") (rl := ((Sum.inl (7, [some (.inl 1), some (.inl 46), some (.inl 228), none, none, none]) : RE) :: (([] : List RE) ++ List.map (sh 1) staR ++ List.map (sh 46) hisR ++ List.map (sh 228) (rowR 60 [] ) ++ List.map (sh 230) partR))) S hK h hnm rfl rfl i_wsX70 tyX7 tyX7_ok nmX7 3 (by decide) q_176 rfl rfl rfl (by decide +kernel) rfl rfl (Nat.le_of_ble_eq_true rfl) dX7_init_47 (fun H locs h => ?_)
  have h : CS L h0 s.heap H _ ((Sum.inl (7, [some (.inl 1), some (.inl 46), some (.inl 228), some (.inl 230), none, none]) : RE) :: (([] : List RE) ++ List.map (sh 1) staR ++ List.map (sh 46) hisR ++ List.map (sh 228) (rowR 60 [] ) ++ List.map (sh 230) partR)) := h
  refine lv_aload_n hx hb dX7_init_50 rfl (lv_at hl 0 rfl) ?_
  refine x_new (ci := 6) (C := RX6) (T := TX6) (N := 4) (fs := [none, some (.inr 0), some (.inr 0), some (.inr 0)]) (rl := ((Sum.inl (7, [some (.inl 1), some (.inl 46), some (.inl 228), some (.inl 230), none, none]) : RE) :: (([] : List RE) ++ List.map (sh 1) staR ++ List.map (sh 46) hisR ++ List.map (sh 228) (rowR 60 [] ) ++ List.map (sh 230) partR))) (d := 233) S hK h rfl rfl i_wsX60 tyX6 tyX6_ok (fun j hj => by rcases (show j = 0 ∨ j = 1 ∨ j = 2 ∨ j = 3 by omega) with rfl | rfl | rfl | rfl <;> rfl) q_150 q_151 q_9 (Nat.le_of_ble_eq_true rfl) (Nat.le_of_ble_eq_true rfl) dX7_init_51 (fun H h => ?_)
  refine lv_dup hx hb dX7_init_54 rfl ?_
  refine x_ctN (rl := ((Sum.inl (7, [some (.inl 1), some (.inl 46), some (.inl 228), some (.inl 230), none, none]) : RE) :: (([] : List RE) ++ List.map (sh 1) staR ++ List.map (sh 46) hisR ++ List.map (sh 228) (rowR 60 [] ) ++ List.map (sh 230) partR))) (d := 233) (r0 := (Sum.inl (6, [none, some (.inr 0), some (.inr 0), some (.inr 0)]) : RE)) (As := []) (rl2 := tfR) S hK h rfl (c_X6_init l L (h0 + 233)) hK.2.2.2.2.1 q_153 q_9 q_154 rfl yc_X6_init rfl ⟨rfl, rfl⟩ ⟨(Nat.le_of_ble_eq_true rfl), (Nat.le_of_ble_eq_true rfl)⟩ ⟨(Nat.le_of_ble_eq_true rfl), (Nat.le_of_ble_eq_true rfl)⟩ rfl (Nat.le_of_ble_eq_true rfl) hl.1 dX7_init_55 (fun H locs h => ?_)
  have h : CS L h0 s.heap H _ ((Sum.inl (7, [some (.inl 1), some (.inl 46), some (.inl 228), some (.inl 230), none, none]) : RE) :: (([] : List RE) ++ List.map (sh 1) staR ++ List.map (sh 46) hisR ++ List.map (sh 228) (rowR 60 [] ) ++ List.map (sh 230) partR ++ List.map (sh 233) tfR)) := h
  refine x_putF (i := 0) (ci := 7) (C := RX7) (T := TX7) (N := 6) (fs := [some (.inl 1), some (.inl 46), some (.inl 228), some (.inl 230), none, none]) (v := some (.inl 233)) (ty := .object "QuantileDigests$TextFault") (rl := ((Sum.inl (7, [some (.inl 1), some (.inl 46), some (.inl 228), some (.inl 230), none, none]) : RE) :: (([] : List RE) ++ List.map (sh 1) staR ++ List.map (sh 46) hisR ++ List.map (sh 228) (rowR 60 [] ) ++ List.map (sh 230) partR ++ List.map (sh 233) tfR))) S hK h hnm rfl rfl i_wsX70 tyX7 tyX7_ok nmX7 4 (by decide) q_177 rfl rfl rfl (by decide +kernel) rfl rfl (Nat.le_of_ble_eq_true rfl) dX7_init_58 (fun H locs h => ?_)
  have h : CS L h0 s.heap H _ ((Sum.inl (7, [some (.inl 1), some (.inl 46), some (.inl 228), some (.inl 230), some (.inl 233), none]) : RE) :: (([] : List RE) ++ List.map (sh 1) staR ++ List.map (sh 46) hisR ++ List.map (sh 228) (rowR 60 [] ) ++ List.map (sh 230) partR ++ List.map (sh 233) tfR)) := h
  refine lv_aload_n hx hb dX7_init_61 rfl (lv_at hl 0 rfl) ?_
  refine x_new (ci := 1) (C := RX1) (T := TX1) (N := 4) (fs := [none, none, none, none]) (rl := ((Sum.inl (7, [some (.inl 1), some (.inl 46), some (.inl 228), some (.inl 230), some (.inl 233), none]) : RE) :: (([] : List RE) ++ List.map (sh 1) staR ++ List.map (sh 46) hisR ++ List.map (sh 228) (rowR 60 [] ) ++ List.map (sh 230) partR ++ List.map (sh 233) tfR))) (d := 236) S hK h rfl rfl i_wsX10 tyX1 tyX1_ok (fun j hj => by rcases (show j = 0 ∨ j = 1 ∨ j = 2 ∨ j = 3 by omega) with rfl | rfl | rfl | rfl <;> rfl) q_171 q_49 q_6 (Nat.le_of_ble_eq_true rfl) (Nat.le_of_ble_eq_true rfl) dX7_init_62 (fun H h => ?_)
  refine lv_dup hx hb dX7_init_65 rfl ?_
  refine x_ctN (rl := ((Sum.inl (7, [some (.inl 1), some (.inl 46), some (.inl 228), some (.inl 230), some (.inl 233), none]) : RE) :: (([] : List RE) ++ List.map (sh 1) staR ++ List.map (sh 46) hisR ++ List.map (sh 228) (rowR 60 [] ) ++ List.map (sh 230) partR ++ List.map (sh 233) tfR))) (d := 236) (r0 := (Sum.inl (1, [none, none, none, none]) : RE)) (As := []) (rl2 := heapsR) S hK h rfl (c_X1_init l L (h0 + 236)) hK.2.2.2.2.2.1 q_51 q_6 q_52 rfl yc_X1_init rfl ⟨rfl, rfl⟩ ⟨(Nat.le_of_ble_eq_true rfl), (Nat.le_of_ble_eq_true rfl)⟩ ⟨(Nat.le_of_ble_eq_true rfl), (Nat.le_of_ble_eq_true rfl)⟩ rfl (Nat.le_of_ble_eq_true rfl) hl.1 dX7_init_66 (fun H locs h => ?_)
  have h : CS L h0 s.heap H _ ((Sum.inl (7, [some (.inl 1), some (.inl 46), some (.inl 228), some (.inl 230), some (.inl 233), none]) : RE) :: (([] : List RE) ++ List.map (sh 1) staR ++ List.map (sh 46) hisR ++ List.map (sh 228) (rowR 60 [] ) ++ List.map (sh 230) partR ++ List.map (sh 233) tfR ++ List.map (sh 236) heapsR)) := h
  refine x_putF (i := 0) (ci := 7) (C := RX7) (T := TX7) (N := 6) (fs := [some (.inl 1), some (.inl 46), some (.inl 228), some (.inl 230), some (.inl 233), none]) (v := some (.inl 236)) (ty := .object "QuantileDigests$Heaps") (rl := ((Sum.inl (7, [some (.inl 1), some (.inl 46), some (.inl 228), some (.inl 230), some (.inl 233), none]) : RE) :: (([] : List RE) ++ List.map (sh 1) staR ++ List.map (sh 46) hisR ++ List.map (sh 228) (rowR 60 [] ) ++ List.map (sh 230) partR ++ List.map (sh 233) tfR ++ List.map (sh 236) heapsR))) S hK h hnm rfl rfl i_wsX70 tyX7 tyX7_ok nmX7 5 (by decide) q_178 rfl rfl rfl (by decide +kernel) rfl rfl (Nat.le_of_ble_eq_true rfl) dX7_init_69 (fun H locs h => ?_)
  have h : CS L h0 s.heap H _ ((Sum.inl (7, [some (.inl 1), some (.inl 46), some (.inl 228), some (.inl 230), some (.inl 233), some (.inl 236)]) : RE) :: (([] : List RE) ++ List.map (sh 1) staR ++ List.map (sh 46) hisR ++ List.map (sh 228) (rowR 60 [] ) ++ List.map (sh 230) partR ++ List.map (sh 233) tfR ++ List.map (sh 236) heapsR)) := h
  exact x_ret S hK h hr hlk dX7_init_72

def modR  : List RE := ((Sum.inl (8, [some (.inl 1), some (.inl 2), some (.inr 0), some (.inl 3), some (.inr 0), some (.inl 4), some (.inl 5), some (.inl 6), some (.inl 7), some (.inr 0), some (.inl 8), some (.inr 0), some (.inr 0), some (.inr 0), some (.inl 9)]) : RE) :: (([] : List RE) ++ [(.inr (.inl (3074, [nI 10, nI 5])) : RE)] ++ [(.inr (.inl (12296, [])) : RE)] ++ [(.inr (.inl (60, [])) : RE)] ++ [(.inr (.inl (400, [])) : RE)] ++ [(.inr (.inl (400, [])) : RE)] ++ [(.inr (.inl (400, [])) : RE)] ++ [(.inr (.inl (400, [])) : RE)] ++ [(.inr (.inl (200, [])) : RE)] ++ [(.inr (.inl (3, [])) : RE)]))
abbrev rX8_init : Room := { frames := 1, cells := 9, slots := 17233, locals := 14 }
