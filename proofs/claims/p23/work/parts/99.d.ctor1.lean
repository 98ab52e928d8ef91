def rowR (n : Nat) (li : List Int32) : List RE := [.inl (4, [some (.inl 1), some (.inr (nI li.length))]), .inr (.inl (n, li))]
abbrev rX4_init (n : Nat) : Room := { frames := 1, cells := 1, slots := n, locals := 14 }
theorem yc_X4_init : yX4_init.cls ≠ "java/lang/invoke/MethodHandle" ∧ yX4_init.cls ≠ "java/lang/invoke/VarHandle" ∧ (parseMethodDescriptor yX4_init.desc).map (fun d => d.parameters.length) = some 1 := ⟨by decide +kernel, by decide +kernel, by decide +kernel⟩
set_option maxHeartbeats 4000000 in
set_option maxRecDepth 100000 in
theorem c_X4_init (l : Launch) (L : Lay) (h0 : Nat) {n : Nat} (hn : n ≤ 100000) : Mc l L yX4_init (Cond.code yX4_init cX4_init 2 none :: qA) (rX4_init n) [.ref h0, .int (nI n)] h0 [(Sum.inl (4, [none, some (.inr 0)]) : RE)] (rowR n [] ) 1 n := by
  refine Mc.ofW (by decide) (Nat.le_of_ble_eq_true rfl) ?_
  intro p e s m args below meth c ls S hr hlk hnm hK h hl
  have hx := S.1
  have hb := S.2.1
  have hl : lv_has ls 2 [(0, .ref h0), (1, .int (nI n))] := hl
  refine lv_aload_n hx hb dX4_init_0 rfl (lv_at hl 0 rfl) ?_
  refine W.objInit hx hb S.2.2.2.1 (S.2.2.2.2 _ q_30) (S.2.2.2.2 _ q_17) (S.2.2.2.2 _ q_18) rfl (hl.1.trans S.2.2.1.symm) rfl dX4_init_1 (Nat.le_of_ble_eq_true rfl) (Nat.le_of_ble_eq_true rfl) ?_
  refine W.eq (g2 := F0 m 4 ls []) rfl ?_
  refine lv_aload_n hx hb dX4_init_4 rfl (lv_at hl 0 rfl) ?_
  refine lv_iload_n hx hb dX4_init_5 rfl (lv_at hl 1 rfl) ?_
  refine lv_iconst (v := (nI 0)) hx hb dX4_init_6 (by decide) ?_
  refine va_mmax hx hb (S.2.2.1.trans hl.1.symm) S.2.2.2.1 (S.2.2.2.2 _ q_31) (S.2.2.2.2 _ q_32) (S.2.2.2.2 _ q_4) (S.2.2.2.2 _ q_33) (Nat.le_of_ble_eq_true rfl) (Nat.le_of_ble_eq_true rfl) (Nat.zero_le _) (Nat.zero_le _) dX4_init_7 ?_
  refine cv_i (show (if (nI n) < (nI 0) then (nI 0) else (nI n) : Int32) = nI n from (by rw [if_neg (fun z => absurd ((nI_ltI (by omega) (by omega)).mp z) (by omega))])) ?_
  refine x_newa (N := n) (rl := ((Sum.inl (4, [none, some (.inr 0)]) : RE) :: (([] : List RE)))) (d := 1) S hK h rfl (nI_pos (by omega)) (nI_clamp (by omega)) (by omega) (Nat.le_of_ble_eq_true rfl) (show 0 + n ≤ n by omega) dX4_init_10 (fun H h => ?_)
  have h : CS L h0 s.heap H _ ((Sum.inl (4, [none, some (.inr 0)]) : RE) :: (([] : List RE) ++ [(.inr (.inl (n, [])) : RE)])) := h
  refine x_putF (i := 0) (ci := 4) (C := RX4) (T := TX4) (N := 2) (fs := [none, some (.inr 0)]) (v := some (.inl 1)) (ty := .array .int) (rl := ((Sum.inl (4, [none, some (.inr 0)]) : RE) :: (([] : List RE) ++ [(.inr (.inl (n, [])) : RE)]))) S hK h hnm rfl rfl i_wsX40 tyX4 tyX4_ok nmX4 0 (by decide) q_34 rfl rfl rfl (by decide +kernel) rfl rfl (Nat.le_of_ble_eq_true rfl) dX4_init_12 (fun H locs h => ?_)
  have h : CS L h0 s.heap H _ ((Sum.inl (4, [some (.inl 1), some (.inr 0)]) : RE) :: (([] : List RE) ++ [(.inr (.inl (n, [])) : RE)])) := h
  refine lv_aload_n hx hb dX4_init_15 rfl (lv_at hl 0 rfl) ?_
  refine lv_iconst (v := (nI 0)) hx hb dX4_init_16 (by decide) ?_
  refine x_put (i := 0) (ci := 4) (C := RX4) (T := TX4) (N := 2) (fs := [some (.inl 1), some (.inr 0)]) (v := some (.inr (nI 0))) (ty := .int) (rl := ((Sum.inl (4, [some (.inl 1), some (.inr 0)]) : RE) :: (([] : List RE) ++ [(.inr (.inl (n, [])) : RE)]))) S hK h rfl rfl i_wsX40 tyX4 tyX4_ok nmX4 1 (by decide) q_35 rfl rfl (by decide +kernel) rfl rfl (Nat.le_of_ble_eq_true rfl) dX4_init_17 (fun H locs h => ?_)
  have h : CS L h0 s.heap H _ ((Sum.inl (4, [some (.inl 1), some (.inr (nI 0))]) : RE) :: (([] : List RE) ++ [(.inr (.inl (n, [])) : RE)])) := h
  rw [Nat.zero_add n]
  exact x_ret S hK h hr hlk dX4_init_20

abbrev rcc_append : Room := { frames := 0, cells := 0, slots := 0, locals := 0 }
set_option maxHeartbeats 4000000 in
theorem cc_append (l : Launch) (L : Lay) (h0 i : Nat) (rl : List RE) (li : List Int32) {n : Nat} (v : Int32) (hi : rl[i]? = some (.inl (4, [some (.inl (i + 1)), some (.inr (nI li.length))]))) (ha : rl[i + 1]? = some (.inr (.inl (n, li)))) (hlt : li.length < n) (hn : n ≤ 100000) :
    Mc l L yX4_append (Cond.code yX4_append cX4_append 2 none :: qA) rcc_append [.ref (h0 + i), .int v] h0 rl ((rl.set (i + 1) (.inr (.inl (n, li ++ [v])))).set i (.inl (4, [some (.inl (i + 1)), some (.inr (nI li.length + nI 1))]))) 0 0 := by
  refine Mc.ofW (by decide) (Nat.le_of_ble_eq_true rfl) ?_
  intro p e s m args below meth c ls S hr hlk hnm hK h hl
  have hx := S.1
  have hb := S.2.1
  have hl : lv_has ls 2 [(0, .ref (h0 + i)), (1, .int v)] := hl
  refine lv_aload_n hx hb dX4_append_0 rfl (lv_at hl 0 rfl) ?_
  refine x_get (ci := 4) (C := RX4) (T := TX4) (N := 2) S hK h hi rfl i_wsX40 1 (by decide) rfl q_35 rfl dX4_append_1 ?_
  refine lv_aload_n hx hb dX4_append_4 rfl (lv_at hl 0 rfl) ?_
  refine x_get (ci := 4) (C := RX4) (T := TX4) (N := 2) S hK h hi rfl i_wsX40 0 (by decide) rfl q_34 rfl dX4_append_5 ?_
  refine x_alen S hK h ha dX4_append_8 ?_
  refine b_icmp_ge (a := li.length) (b := n) (tgt := 32) hx hb dX4_append_9 (by decide) (by omega) (by omega) (fun z => absurd z (by omega)) (fun _ => ?_)
  refine lv_aload_n hx hb dX4_append_12 rfl (lv_at hl 0 rfl) ?_
  refine x_get (ci := 4) (C := RX4) (T := TX4) (N := 2) S hK h hi rfl i_wsX40 0 (by decide) rfl q_34 rfl dX4_append_13 ?_
  refine lv_aload_n hx hb dX4_append_16 rfl (lv_at hl 0 rfl) ?_
  refine x_get (ci := 4) (C := RX4) (T := TX4) (N := 2) S hK h hi rfl i_wsX40 1 (by decide) rfl q_35 rfl dX4_append_17 ?_
  refine lv_iload_n hx hb dX4_append_20 rfl (lv_at hl 1 rfl) ?_
  refine x_iast S hK h ha hlt (by omega) dX4_append_21 (fun H locs h => ?_)
  have hi2 : (rl.set (i + 1) (.inr (.inl (n, li ++ [v]))))[i]? = some (.inl (4, [some (.inl (i + 1)), some (.inr (nI li.length))])) := by
    rw [List.getElem?_set_ne (by omega)]; exact hi
  refine lv_aload_n hx hb dX4_append_22 rfl (lv_at hl 0 rfl) ?_
  refine lv_dup hx hb dX4_append_23 rfl ?_
  refine x_get (ci := 4) (C := RX4) (T := TX4) (N := 2) S hK h hi2 rfl i_wsX40 1 (by decide) rfl q_35 rfl dX4_append_24 ?_
  refine lv_iconst (v := nI 1) hx hb dX4_append_27 (by decide) ?_
  refine lv_iadd hx hb dX4_append_28 ?_
  refine x_put (ci := 4) (C := RX4) (T := TX4) (N := 2) (v := some (.inr (nI li.length + nI 1))) (ty := .int) S hK h hi2 rfl i_wsX40 tyX4 tyX4_ok nmX4 1 (by decide) q_35 rfl rfl (by decide +kernel) rfl rfl (Nat.le_of_ble_eq_true rfl) dX4_append_29 (fun H locs h => ?_)
  exact x_ret S hK h hr hlk dX4_append_32
