set_option maxHeartbeats 8000000 in
set_option maxRecDepth 100000 in
theorem whole_start {p : Program} {e : Env} {s : State} {m : MethodId} {below : List Frame} {meth : Method} {c : Code} (l : Launch) (hflags : l.flags = flags0) {b Ls : Nat} {xs : Nat → Int32} (hL : Ls ≤ 260) (C0 : lw_At p s m meth c b Ls xs) : W p l e room_1 s m #[Value.ref b] below meth c s.heap [] 0 0 (lw_Z below #[Value.ref b] s) (entryFrame m ([Value.ref b] : List Value).toArray 24) := by
  obtain ⟨hx, hb, hr, hml, hown, hts0, hX, hbl, hlocks, hgv⟩ := id C0
  have hd0 := Drawn.sameBut.refl s.drawn lw_cs
  refine W.base ?_
  have hts : ∀ w ∈ lw_tbl, w.before #[Value.ref b] (s.setDrawn s.drawn) = true := dr_words hts0 s.drawn
  obtain ⟨L, hK⟩ := start_L hts
  have S : CallFix p m c cL_law 24 (s.setDrawn s.drawn) #[Value.ref b] qA RL := ⟨hx, hb, hml, hown, fun w h => hts w (qA_tbl h)⟩
  have hl := lv_entry ([.ref b]) (n := 24) (Nat.le_of_ble_eq_true rfl)
  rw [lg_entry_eq]
  generalize (lg_sl ([.ref b]) ++ List.replicate (24 - (lg_sl ([.ref b])).length) Slot.unset).toArray = ls at hl ⊢
  have hl : lv_has ls 24 [(0, .ref b)] := hl
  have h : CS L s.heap.size s.heap s.heap [] [] := ⟨⟨rfl, fun i r hi => by cases hi⟩, va_S.rf⟩
  refine x_new (ci := 7) (C := RX7) (T := TX7) (N := 6) (fs := [none, none, none, none, none, none]) (rl := []) (d := 0) S hK h rfl rfl i_wsX70 tyX7 tyX7_ok (fun j hj => by rcases (show j = 0 ∨ j = 1 ∨ j = 2 ∨ j = 3 ∨ j = 4 ∨ j = 5 by omega) with rfl | rfl | rfl | rfl | rfl | rfl <;> rfl) q_11 q_12 q_1 (Nat.le_of_ble_eq_true rfl) (Nat.le_of_ble_eq_true rfl) dL_law_0 (fun H h => ?_)
  refine lv_dup hx hb dL_law_3 rfl ?_
  refine x_ctI (rl := []) (d := 0) (r0 := (Sum.inl (7, [none, none, none, none, none, none]) : RE)) (As := []) (rl2 := mainR) S hK h rfl (c_X7_init l L (s.heap.size + 0)) q_13 q_14 q_1 q_15 rfl yc_X7_init rfl ⟨rfl, rfl⟩ ⟨(Nat.le_of_ble_eq_true rfl), (Nat.le_of_ble_eq_true rfl)⟩ ⟨(Nat.le_of_ble_eq_true rfl), (Nat.le_of_ble_eq_true rfl)⟩ rfl (Nat.le_of_ble_eq_true rfl) hl.1 dL_law_4 (fun H locs h => ?_)
  rw [List.nil_append, map_sh0] at h
  refine lv_astore_n (lv' := [(1, .ref (s.heap.size + 0)), (0, .ref b)]) hx hb dL_law_7 rfl hl (by decide) rfl (fun ls hl => ?_)
  refine lv_iconst (v := nI 2) hx hb dL_law_8 (by decide) ?_
  refine x_newa (rl := mainR) (d := 245) (n := nI 2) (N := 2) S hK h rfl (nI_pos (by omega)) (nI_clamp (by omega)) (Nat.le_of_ble_eq_true rfl) (Nat.le_of_ble_eq_true rfl) (Nat.le_of_ble_eq_true rfl) dL_law_9 (fun H h => ?_)
  refine lv_astore_n (lv' := [(2, .ref (s.heap.size + 245)), (1, .ref (s.heap.size + 0)), (0, .ref b)]) hx hb dL_law_11 rfl hl (by decide) rfl (fun ls hl => ?_)
  refine lv_bipush (v := nI 64) hx hb dL_law_12 (by decide) ?_
  refine x_newa (rl := (mainR ++ [.inr (.inl (2, []))])) (d := 246) (n := nI 64) (N := 64) S hK h rfl (nI_pos (by omega)) (nI_clamp (by omega)) (Nat.le_of_ble_eq_true rfl) (Nat.le_of_ble_eq_true rfl) (Nat.le_of_ble_eq_true rfl) dL_law_14 (fun H h => ?_)
  refine lv_astore_n (lv' := [(3, .ref (s.heap.size + 246)), (2, .ref (s.heap.size + 245)), (1, .ref (s.heap.size + 0)), (0, .ref b)]) hx hb dL_law_16 rfl hl (by decide) rfl (fun ls hl => ?_)
  refine lv_bipush (v := nI 64) hx hb dL_law_17 (by decide) ?_
  refine x_newa (rl := ((mainR ++ [.inr (.inl (2, []))]) ++ [.inr (.inl (64, []))])) (d := 247) (n := nI 64) (N := 64) S hK h rfl (nI_pos (by omega)) (nI_clamp (by omega)) (Nat.le_of_ble_eq_true rfl) (Nat.le_of_ble_eq_true rfl) (Nat.le_of_ble_eq_true rfl) dL_law_19 (fun H h => ?_)
  refine lv_astore (lv' := [(4, .ref (s.heap.size + 247)), (3, .ref (s.heap.size + 246)), (2, .ref (s.heap.size + 245)), (1, .ref (s.heap.size + 0)), (0, .ref b)]) hx hb dL_law_21 hl (by decide) rfl (fun ls hl => ?_)
  refine lv_bipush (v := nI 20) hx hb dL_law_23 (by decide) ?_
  refine x_newa (rl := (((mainR ++ [.inr (.inl (2, []))]) ++ [.inr (.inl (64, []))]) ++ [.inr (.inl (64, []))])) (d := 248) (n := nI 20) (N := 20) S hK h rfl (nI_pos (by omega)) (nI_clamp (by omega)) (Nat.le_of_ble_eq_true rfl) (Nat.le_of_ble_eq_true rfl) (Nat.le_of_ble_eq_true rfl) dL_law_25 (fun H h => ?_)
  refine lv_astore (lv' := [(5, .ref (s.heap.size + 248)), (4, .ref (s.heap.size + 247)), (3, .ref (s.heap.size + 246)), (2, .ref (s.heap.size + 245)), (1, .ref (s.heap.size + 0)), (0, .ref b)]) hx hb dL_law_27 hl (by decide) rfl (fun ls hl => ?_)
  refine lv_bipush (v := nI 20) hx hb dL_law_29 (by decide) ?_
  refine x_newa (rl := ((((mainR ++ [.inr (.inl (2, []))]) ++ [.inr (.inl (64, []))]) ++ [.inr (.inl (64, []))]) ++ [.inr (.inl (20, []))])) (d := 249) (n := nI 20) (N := 20) S hK h rfl (nI_pos (by omega)) (nI_clamp (by omega)) (Nat.le_of_ble_eq_true rfl) (Nat.le_of_ble_eq_true rfl) (Nat.le_of_ble_eq_true rfl) dL_law_31 (fun H h => ?_)
  refine lv_astore (lv' := [(6, .ref (s.heap.size + 249)), (5, .ref (s.heap.size + 248)), (4, .ref (s.heap.size + 247)), (3, .ref (s.heap.size + 246)), (2, .ref (s.heap.size + 245)), (1, .ref (s.heap.size + 0)), (0, .ref b)]) hx hb dL_law_33 hl (by decide) rfl (fun ls hl => ?_)
  refine lv_bipush (v := nI 40) hx hb dL_law_35 (by decide) ?_
  refine x_newa (rl := (((((mainR ++ [.inr (.inl (2, []))]) ++ [.inr (.inl (64, []))]) ++ [.inr (.inl (64, []))]) ++ [.inr (.inl (20, []))]) ++ [.inr (.inl (20, []))])) (d := 250) (n := nI 40) (N := 40) S hK h rfl (nI_pos (by omega)) (nI_clamp (by omega)) (Nat.le_of_ble_eq_true rfl) (Nat.le_of_ble_eq_true rfl) (Nat.le_of_ble_eq_true rfl) dL_law_37 (fun H h => ?_)
  refine lv_astore (lv' := [(7, .ref (s.heap.size + 250)), (6, .ref (s.heap.size + 249)), (5, .ref (s.heap.size + 248)), (4, .ref (s.heap.size + 247)), (3, .ref (s.heap.size + 246)), (2, .ref (s.heap.size + 245)), (1, .ref (s.heap.size + 0)), (0, .ref b)]) hx hb dL_law_39 hl (by decide) rfl (fun ls hl => ?_)
  refine lv_bipush (v := nI 40) hx hb dL_law_41 (by decide) ?_
  refine x_newa (rl := ((((((mainR ++ [.inr (.inl (2, []))]) ++ [.inr (.inl (64, []))]) ++ [.inr (.inl (64, []))]) ++ [.inr (.inl (20, []))]) ++ [.inr (.inl (20, []))]) ++ [.inr (.inl (40, []))])) (d := 251) (n := nI 40) (N := 40) S hK h rfl (nI_pos (by omega)) (nI_clamp (by omega)) (Nat.le_of_ble_eq_true rfl) (Nat.le_of_ble_eq_true rfl) (Nat.le_of_ble_eq_true rfl) dL_law_43 (fun H h => ?_)
  refine lv_astore (lv' := [(8, .ref (s.heap.size + 251)), (7, .ref (s.heap.size + 250)), (6, .ref (s.heap.size + 249)), (5, .ref (s.heap.size + 248)), (4, .ref (s.heap.size + 247)), (3, .ref (s.heap.size + 246)), (2, .ref (s.heap.size + 245)), (1, .ref (s.heap.size + 0)), (0, .ref b)]) hx hb dL_law_45 hl (by decide) rfl (fun ls hl => ?_)
  refine lv_iconst (v := nI 4) hx hb dL_law_47 (by decide) ?_
  refine x_newa (rl := (((((((mainR ++ [.inr (.inl (2, []))]) ++ [.inr (.inl (64, []))]) ++ [.inr (.inl (64, []))]) ++ [.inr (.inl (20, []))]) ++ [.inr (.inl (20, []))]) ++ [.inr (.inl (40, []))]) ++ [.inr (.inl (40, []))])) (d := 252) (n := nI 4) (N := 4) S hK h rfl (nI_pos (by omega)) (nI_clamp (by omega)) (Nat.le_of_ble_eq_true rfl) (Nat.le_of_ble_eq_true rfl) (Nat.le_of_ble_eq_true rfl) dL_law_48 (fun H h => ?_)
  refine lv_astore (lv' := [(9, .ref (s.heap.size + 252)), (8, .ref (s.heap.size + 251)), (7, .ref (s.heap.size + 250)), (6, .ref (s.heap.size + 249)), (5, .ref (s.heap.size + 248)), (4, .ref (s.heap.size + 247)), (3, .ref (s.heap.size + 246)), (2, .ref (s.heap.size + 245)), (1, .ref (s.heap.size + 0)), (0, .ref b)]) hx hb dL_law_50 hl (by decide) rfl (fun ls hl => ?_)
  refine lv_iconst (v := nI 4) hx hb dL_law_52 (by decide) ?_
  refine x_newa (rl := ((((((((mainR ++ [.inr (.inl (2, []))]) ++ [.inr (.inl (64, []))]) ++ [.inr (.inl (64, []))]) ++ [.inr (.inl (20, []))]) ++ [.inr (.inl (20, []))]) ++ [.inr (.inl (40, []))]) ++ [.inr (.inl (40, []))]) ++ [.inr (.inl (4, []))])) (d := 253) (n := nI 4) (N := 4) S hK h rfl (nI_pos (by omega)) (nI_clamp (by omega)) (Nat.le_of_ble_eq_true rfl) (Nat.le_of_ble_eq_true rfl) (Nat.le_of_ble_eq_true rfl) dL_law_53 (fun H h => ?_)
  refine lv_astore (lv' := [(10, .ref (s.heap.size + 253)), (9, .ref (s.heap.size + 252)), (8, .ref (s.heap.size + 251)), (7, .ref (s.heap.size + 250)), (6, .ref (s.heap.size + 249)), (5, .ref (s.heap.size + 248)), (4, .ref (s.heap.size + 247)), (3, .ref (s.heap.size + 246)), (2, .ref (s.heap.size + 245)), (1, .ref (s.heap.size + 0)), (0, .ref b)]) hx hb dL_law_55 hl (by decide) rfl (fun ls hl => ?_)
  refine lv_bipush (v := nI 64) hx hb dL_law_57 (by decide) ?_
  refine x_newa (rl := (((((((((mainR ++ [.inr (.inl (2, []))]) ++ [.inr (.inl (64, []))]) ++ [.inr (.inl (64, []))]) ++ [.inr (.inl (20, []))]) ++ [.inr (.inl (20, []))]) ++ [.inr (.inl (40, []))]) ++ [.inr (.inl (40, []))]) ++ [.inr (.inl (4, []))]) ++ [.inr (.inl (4, []))])) (d := 254) (n := nI 64) (N := 64) S hK h rfl (nI_pos (by omega)) (nI_clamp (by omega)) (Nat.le_of_ble_eq_true rfl) (Nat.le_of_ble_eq_true rfl) (Nat.le_of_ble_eq_true rfl) dL_law_59 (fun H h => ?_)
  refine lv_astore (lv' := [(11, .ref (s.heap.size + 254)), (10, .ref (s.heap.size + 253)), (9, .ref (s.heap.size + 252)), (8, .ref (s.heap.size + 251)), (7, .ref (s.heap.size + 250)), (6, .ref (s.heap.size + 249)), (5, .ref (s.heap.size + 248)), (4, .ref (s.heap.size + 247)), (3, .ref (s.heap.size + 246)), (2, .ref (s.heap.size + 245)), (1, .ref (s.heap.size + 0)), (0, .ref b)]) hx hb dL_law_61 hl (by decide) rfl (fun ls hl => ?_)
  refine W.widen (k := 600000) (n := 7302250) (Nat.le_of_ble_eq_true rfl) (Nat.le_of_ble_eq_true rfl) ?_
  have hmr : mainR.length = 245 := rfl
  have er : ((((((((((mainR ++ [.inr (.inl (2, []))]) ++ [.inr (.inl (64, []))]) ++ [.inr (.inl (64, []))]) ++ [.inr (.inl (20, []))]) ++ [.inr (.inl (20, []))]) ++ [.inr (.inl (40, []))]) ++ [.inr (.inl (40, []))]) ++ [.inr (.inl (4, []))]) ++ [.inr (.inl (4, []))]) ++ [.inr (.inl (64, []))]) = mainR ++ arr10 := by simp only [List.append_assoc, List.cons_append, List.nil_append]; rfl
  rw [er] at h
  have hV : VA (fun q => (s.setDrawn s.drawn).heap.size ≤ q) (Lw L s.heap.size) (Lw9 L (s.heap.size + 245)) := by
    refine ⟨Lw_inj, Lw9_inj, fun i j hi hj z => ?_, fun q hq => ?_⟩
    · have z2 : s.heap.size + pos i = s.heap.size + 245 + j := z
      have := pos_lt hi
      omega
    · rcases hq with ⟨i, hi, rfl⟩ | ⟨j, hj, rfl⟩
      · exact Nat.le_add_right s.heap.size (pos i)
      · show s.heap.size ≤ s.heap.size + 245 + j
        omega
  have hP : HdA (fun q => (s.setDrawn s.drawn).heap.size ≤ q) (Lw L s.heap.size) (Lw9 L (s.heap.size + 245)) Xst [] (s.setDrawn s.drawn).heap H me9 locs := by
    refine ⟨⟨⟨sg0, Pw_first (fun i r hi => h.1.2 i r ?_), CR_first⟩, Pw9_first (fun k hk => ?_)⟩, h.2⟩
    · rw [List.getElem?_append_left (List.getElem?_eq_some_iff.mp hi).1]; exact hi
    · have z := h.1.2 (245 + k) _ (by rw [List.getElem?_append_right (by rw [hmr]; omega), hmr, show 245 + k - 245 = k by omega]; exact arr10_at k hk)
      rw [← Nat.add_assoc] at z
      exact z
  have hK9 : Kn9 (Lw L s.heap.size) (Lw9 L (s.heap.size + 245)) (s.setDrawn s.drawn) := ⟨hK.1, hK.1.1⟩
  clear h
  have hl : lv_has ls 24 [(11, .ref (ad (Lw9 L (s.heap.size + 245)) 9)), (10, .ref (ad (Lw9 L (s.heap.size + 245)) 8)), (9, .ref (ad (Lw9 L (s.heap.size + 245)) 7)), (8, .ref (ad (Lw9 L (s.heap.size + 245)) 6)), (7, .ref (ad (Lw9 L (s.heap.size + 245)) 5)), (6, .ref (ad (Lw9 L (s.heap.size + 245)) 4)), (5, .ref (ad (Lw9 L (s.heap.size + 245)) 3)), (4, .ref (ad (Lw9 L (s.heap.size + 245)) 2)), (3, .ref (ad (Lw9 L (s.heap.size + 245)) 1)), (2, .ref (ad (Lw9 L (s.heap.size + 245)) 0)), (1, .ref (ad (Lw L s.heap.size) 244)), (0, .ref b)] := hl
  refine lv_aload_n hx hb dL_law_63 rfl (lv_at hl 9 rfl) ?_
  refine lv_iconst (v := nI 0) hx hb dL_law_64 (by decide) ?_
  refine lv_bipush (v := nI 10) hx hb dL_law_65 (by decide) ?_
  refine p9_el (n := 2) S hV hK9 hP (by decide) rfl (by omega) dL_law_67 (fun H locs hP => ?_)
  refine lv_aload_n hx hb dL_law_68 rfl (lv_at hl 9 rfl) ?_
  refine lv_iconst (v := nI 1) hx hb dL_law_69 (by decide) ?_
  refine lv_iconst (v := nI 5) hx hb dL_law_70 (by decide) ?_
  refine p9_el (n := 2) S hV hK9 hP (by decide) rfl (by omega) dL_law_71 (fun H locs hP => ?_)
  refine lv_iconst (v := nI 0) hx hb dL_law_72 (by decide) ?_
  refine lv_istore (lv' := (12, .int (nI 0)) :: [(11, .ref (ad (Lw9 L (s.heap.size + 245)) 9)), (10, .ref (ad (Lw9 L (s.heap.size + 245)) 8)), (9, .ref (ad (Lw9 L (s.heap.size + 245)) 7)), (8, .ref (ad (Lw9 L (s.heap.size + 245)) 6)), (7, .ref (ad (Lw9 L (s.heap.size + 245)) 5)), (6, .ref (ad (Lw9 L (s.heap.size + 245)) 4)), (5, .ref (ad (Lw9 L (s.heap.size + 245)) 3)), (4, .ref (ad (Lw9 L (s.heap.size + 245)) 2)), (3, .ref (ad (Lw9 L (s.heap.size + 245)) 1)), (2, .ref (ad (Lw9 L (s.heap.size + 245)) 0)), (1, .ref (ad (Lw L s.heap.size) 244)), (0, .ref b)]) hx hb dL_law_73 hl (by decide) rfl (fun ls hl => ?_)
  refine law_loop S hV hK9 hL hX hbl (fun H locs ls hS => ?_) 17 0 Xst [] _ H locs ls (by omega) (by omega) hP IV_first (lv_sub hl [0, 1, 2, 3, 4, 5, 6, 7, 8, 9, 10, 11, 12] rfl)
  refine lv_iconst (v := 1) hx hb dL_law_752 (by decide) ?_
  refine va_forget (fun q hq => hS.2.2 q hq) ?_
  exact lw_ret hd0 hx hb hr hlocks dL_law_753
