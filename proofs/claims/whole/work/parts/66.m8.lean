abbrev rX8_set : Room := { frames := 2, cells := 0, slots := 0, locals := 45 }
theorem yd_X8_set : ydV yX8_set RX8 2 := ⟨rfl, by decide +kernel, by decide +kernel, by decide +kernel⟩
set_option maxHeartbeats 4000000 in
set_option maxRecDepth 100000 in
theorem c_X8_set (l : Launch) (L : Lay) (σ : Me) {X : SS} {hh : List SS} {t : List Int32} (hc : MC σ X hh t) (hX : GX X) (hH : ∀ Y ∈ hh, GX Y) (w v : Int32) : Mg8 l L yX8_set (Cond.code yX8_set cX8_set 4 (some FieldType.int) :: qA) rX8_set [.ref (ad L 0), .int w, .int v] σ (fun r u => r = some (.int (cSet X hh w v).1) ∧ MC u (cSet X hh w v).2.1 (cSet X hh w v).2.2 t) := by
  refine Mr8_ofW (by decide) (Nat.le_of_ble_eq_true rfl) ?_
  intro p e s m args below meth c ls post hp hI S hr hlk hK h hl
  have hx := S.1
  have hb := S.2.1
  have hl : lv_has ls 4 [(0, .ref (ad L 0)), (1, .int w), (2, .int v)] := hl
  unfold cSet at hp
  refine lv_iload_n hx hb dX8_set_0 rfl (lv_at hl 1 rfl) ?_
  refine lv_iconst (v := (nI 0)) hx hb dX8_set_1 (by decide) ?_
  refine lv_iconst (v := (nI 1)) hx hb dX8_set_2 (by decide) ?_
  refine q_S18 S hI hK h [.int w, .int (nI 0), .int (nI 1)] (c_X8_within l L σ w (nI 0) (nI 1)) q_649 q_650 q_10 q_651 yd_X8_within rfl ⟨⟨rfl, rfl⟩, ⟨(Nat.le_of_ble_eq_true rfl), (Nat.le_of_ble_eq_true rfl)⟩, Nat.le_refl _, Nat.le_refl _⟩ rfl (Nat.le_of_ble_eq_true rfl) hl.1 dX8_set_3 (fun H locs h => ?_)
  refine z_eq (tgt := 28) hx hb dX8_set_6 (by decide) (fun c_6 => ?_) (fun c_6 => ?_)
  · rw [if_pos c_6] at hp
    refine lv_ldc (v := (-1000001 : Int32)) hx hb S.2.2.2.1 (S.2.2.2.2 _ q_652) dX8_set_28 ?_
    exact e_i8 S hK h hr hlk dX8_set_30 (hp _ _ ⟨rfl, hc⟩)
  · rw [if_neg (fun q => q c_6)] at hp
    obtain ⟨n, -, hn2, rfl⟩ := rng_nat (a := 0) (b := 1) (by omega) (by omega) c_6
    rw [nI_clamp (show n < 2 ^ 31 by omega)] at hp
    refine lv_iload_n hx hb dX8_set_9 rfl (lv_at hl 2 rfl) ?_
    refine lv_iconst (v := (nI 1)) hx hb dX8_set_10 (by decide) ?_
    refine lv_iload_n hx hb dX8_set_11 rfl (lv_at hl 1 rfl) ?_
    refine b_if_ne (tgt := 20) hx hb dX8_set_12 (by decide) (by omega) (fun c_12 => ?_) (fun c_12 => ?_)
    · rw [if_neg (show ¬ nI n = 0 from nI_ne0 c_12 (by omega))] at hp
      refine lv_bipush (v := (nI 20)) hx hb dX8_set_20 (by decide) ?_
      refine q_S18 S hI hK h [.int v, .int (nI 1), .int (nI 20)] (c_X8_within l L σ v (nI 1) (nI 20)) q_649 q_650 q_10 q_651 yd_X8_within rfl ⟨⟨rfl, rfl⟩, ⟨(Nat.le_of_ble_eq_true rfl), (Nat.le_of_ble_eq_true rfl)⟩, Nat.le_refl _, Nat.le_refl _⟩ rfl (Nat.le_of_ble_eq_true rfl) hl.1 dX8_set_22 (fun H locs h => ?_)
      refine z_ne (tgt := 31) hx hb dX8_set_25 (by decide) (fun c_25 => ?_) (fun c_25 => ?_)
      · rw [if_neg (fun q => q c_25)] at hp
        refine lv_aload_n hx hb dX8_set_31 rfl (lv_at hl 0 rfl) ?_
        refine q_VR8 S hI hK h [] (c_X8_record l L σ hc hX.L (fun Y hY => (hH Y hY).L)) q_662 q_664 qs_14 q_10 q_665 yd_X8_record rfl ⟨⟨rfl, rfl⟩, ⟨(Nat.le_of_ble_eq_true rfl), (Nat.le_of_ble_eq_true rfl)⟩, Nat.le_refl _, Nat.le_refl _⟩ rfl (Nat.le_of_ble_eq_true rfl) hl.1 dX8_set_32 (fun σ1 H locs hp9 h => ?_)
        obtain ⟨hc1, ho1⟩ := hp9
        refine lv_aload_n hx hb dX8_set_35 rfl (lv_at hl 0 rfl) ?_
        refine g8 (v := (.ref (ad L 1))) S hK h 0 (by decide) rfl rfl q_596 dX8_set_36 ?_
        refine lv_iload_n hx hb dX8_set_39 rfl (lv_at hl 1 rfl) ?_
        refine g8_el (n := 3074) S hK h (by decide) rfl (by omega) dX8_set_40 ?_
        refine cv_i (show (σ1 1 n : Int32) = [X.1, X.2.1].getD n 0 from (by rcases (show n = 0 ∨ n = 1 by omega) with rfl | rfl; exact hc1.1.1; exact hc1.1.2.1)) ?_
        refine lv_istore_n (lv' := [(3, .int ([X.1, X.2.1].getD n 0)), (0, .ref (ad L 0)), (1, .int (nI n)), (2, .int v)]) hx hb dX8_set_41 rfl hl (by decide) rfl (fun ls hl => ?_)
        refine lv_aload_n hx hb dX8_set_42 rfl (lv_at hl 1 rfl) ?_
        refine g8 (v := (.ref (ad L 1))) S hK h 0 (by decide) rfl rfl q_596 dX8_set_43 ?_
        refine lv_iload_n hx hb dX8_set_46 rfl (lv_at hl 2 rfl) ?_
        refine lv_iload_n hx hb dX8_set_47 rfl (lv_at hl 3 rfl) ?_
        refine p8_el (n := 3074) S hI hK h (by decide) rfl (by omega) dX8_set_48 (fun H locs h => ?_)
        refine lv_iload_n hx hb dX8_set_49 rfl (lv_at hl 0 rfl) ?_
        exact e_i8 S hK h hr hlk dX8_set_50 (hp _ _ ⟨rfl, MC_1 hc1 (MS_set hc1.1 hX.L (by omega) mu_s (fun i hi => mu_i hi)) (fun k hk => mu_r hk)⟩)
      · rw [if_pos c_25] at hp
        refine lv_ldc (v := (-1000001 : Int32)) hx hb S.2.2.2.1 (S.2.2.2.2 _ q_652) dX8_set_28 ?_
        exact e_i8 S hK h hr hlk dX8_set_30 (hp _ _ ⟨rfl, hc⟩)
    · rw [if_pos (show nI n = 0 by rw [c_12]; rfl)] at hp
      refine lv_bipush (v := (nI 60)) hx hb dX8_set_15 (by decide) ?_
      refine lv_goto (tgt := 22) hx hb dX8_set_17 (by decide) ?_
      refine q_S18 S hI hK h [.int v, .int (nI 1), .int (nI 60)] (c_X8_within l L σ v (nI 1) (nI 60)) q_649 q_650 q_10 q_651 yd_X8_within rfl ⟨⟨rfl, rfl⟩, ⟨(Nat.le_of_ble_eq_true rfl), (Nat.le_of_ble_eq_true rfl)⟩, Nat.le_refl _, Nat.le_refl _⟩ rfl (Nat.le_of_ble_eq_true rfl) hl.1 dX8_set_22 (fun H locs h => ?_)
      refine z_ne (tgt := 31) hx hb dX8_set_25 (by decide) (fun c_25 => ?_) (fun c_25 => ?_)
      · rw [if_neg (fun q => q c_25)] at hp
        refine lv_aload_n hx hb dX8_set_31 rfl (lv_at hl 0 rfl) ?_
        refine q_VR8 S hI hK h [] (c_X8_record l L σ hc hX.L (fun Y hY => (hH Y hY).L)) q_662 q_664 qs_14 q_10 q_665 yd_X8_record rfl ⟨⟨rfl, rfl⟩, ⟨(Nat.le_of_ble_eq_true rfl), (Nat.le_of_ble_eq_true rfl)⟩, Nat.le_refl _, Nat.le_refl _⟩ rfl (Nat.le_of_ble_eq_true rfl) hl.1 dX8_set_32 (fun σ1 H locs hp9 h => ?_)
        obtain ⟨hc1, ho1⟩ := hp9
        refine lv_aload_n hx hb dX8_set_35 rfl (lv_at hl 0 rfl) ?_
        refine g8 (v := (.ref (ad L 1))) S hK h 0 (by decide) rfl rfl q_596 dX8_set_36 ?_
        refine lv_iload_n hx hb dX8_set_39 rfl (lv_at hl 1 rfl) ?_
        refine g8_el (n := 3074) S hK h (by decide) rfl (by omega) dX8_set_40 ?_
        refine cv_i (show (σ1 1 n : Int32) = [X.1, X.2.1].getD n 0 from (by rcases (show n = 0 ∨ n = 1 by omega) with rfl | rfl; exact hc1.1.1; exact hc1.1.2.1)) ?_
        refine lv_istore_n (lv' := [(3, .int ([X.1, X.2.1].getD n 0)), (0, .ref (ad L 0)), (1, .int (nI n)), (2, .int v)]) hx hb dX8_set_41 rfl hl (by decide) rfl (fun ls hl => ?_)
        refine lv_aload_n hx hb dX8_set_42 rfl (lv_at hl 1 rfl) ?_
        refine g8 (v := (.ref (ad L 1))) S hK h 0 (by decide) rfl rfl q_596 dX8_set_43 ?_
        refine lv_iload_n hx hb dX8_set_46 rfl (lv_at hl 2 rfl) ?_
        refine lv_iload_n hx hb dX8_set_47 rfl (lv_at hl 3 rfl) ?_
        refine p8_el (n := 3074) S hI hK h (by decide) rfl (by omega) dX8_set_48 (fun H locs h => ?_)
        refine lv_iload_n hx hb dX8_set_49 rfl (lv_at hl 0 rfl) ?_
        exact e_i8 S hK h hr hlk dX8_set_50 (hp _ _ ⟨rfl, MC_1 hc1 (MS_set hc1.1 hX.L (by omega) mu_s (fun i hi => mu_i hi)) (fun k hk => mu_r hk)⟩)
      · rw [if_pos c_25] at hp
        refine lv_ldc (v := (-1000001 : Int32)) hx hb S.2.2.2.1 (S.2.2.2.2 _ q_652) dX8_set_28 ?_
        exact e_i8 S hK h hr hlk dX8_set_30 (hp _ _ ⟨rfl, hc⟩)

abbrev rX8_undo_n : Room := { frames := 0, cells := 0, slots := 0, locals := 0 }
theorem yd_X8_undo : ydV yX8_undo RX8 0 := ⟨rfl, by decide +kernel, by decide +kernel, by decide +kernel⟩
set_option maxHeartbeats 4000000 in
set_option maxRecDepth 100000 in
theorem c_X8_undo_n (l : Launch) (L : Lay) (σ : Me) {X : SS} {t : List Int32} (hc : MC σ X [] t) : Mg8 l L yX8_undo (Cond.code yX8_undo cX8_undo 1 (some FieldType.int) :: qA) rX8_undo_n [.ref (ad L 0)] σ (fun r u => r = some (.int cNP) ∧ MC u X [] t) := by
  refine Mr8_ofW (by decide) (Nat.le_of_ble_eq_true rfl) ?_
  intro p e s m args below meth c ls post hp hI S hr hlk hK h hl
  have hx := S.1
  have hb := S.2.1
  have hl : lv_has ls 1 [(0, .ref (ad L 0))] := hl
  refine lv_aload_n hx hb dX8_undo_0 rfl (lv_at hl 0 rfl) ?_
  refine g8 (v := (.int (σ 0 0))) S hK h 2 (by decide) rfl rfl q_598 dX8_undo_1 ?_
  refine cv_i (show (σ 0 0 : Int32) = nI 0 from hc.2.1.1) ?_
  refine b_if_ne (tgt := 10) hx hb dX8_undo_4 (by decide) (by decide) (fun c9 => absurd c9 (by decide)) (fun _ => ?_)
  refine lv_ldc (v := (-1000002 : Int32)) hx hb S.2.2.2.1 (S.2.2.2.2 _ q_779) dX8_undo_7 ?_
  exact e_i8 S hK h hr hlk dX8_undo_9 (hp _ _ ⟨rfl, hc⟩)

abbrev rX8_undo : Room := { frames := 1, cells := 0, slots := 0, locals := 24 }
set_option maxHeartbeats 4000000 in
set_option maxRecDepth 100000 in
theorem c_X8_undo (l : Launch) (L : Lay) (σ : Me) {X Y : SS} {hh : List SS} {t : List Int32} (hc : MC σ X (hh ++ [Y]) t) (hY : LX Y) : Mg8 l L yX8_undo (Cond.code yX8_undo cX8_undo 1 (some FieldType.int) :: qA) rX8_undo [.ref (ad L 0)] σ (fun r u => r = some (.int (nI hh.length)) ∧ MC u Y hh t) := by
  refine Mr8_ofW (by decide) (Nat.le_of_ble_eq_true rfl) ?_
  intro p e s m args below meth c ls post hp hI S hr hlk hK h hl
  have hx := S.1
  have hb := S.2.1
  have hl : lv_has ls 1 [(0, .ref (ad L 0))] := hl
  have b1 : σ 0 0 = nI (hh.length + 1) := by have := hc.2.1.1; rw [List.length_append, List.length_singleton] at this; exact this
  have b2 : hh.length + 1 ≤ 4 := by have := hc.2.1.2.1; rw [List.length_append, List.length_singleton] at this; exact this
  refine lv_aload_n hx hb dX8_undo_0 rfl (lv_at hl 0 rfl) ?_
  refine g8 (v := (.int (σ 0 0))) S hK h 2 (by decide) rfl rfl q_598 dX8_undo_1 ?_
  refine cv_i (show (σ 0 0 : Int32) = nI (hh.length + 1) from b1) ?_
  refine b_if_ne (tgt := 10) hx hb dX8_undo_4 (by decide) (by omega) (fun c_4 => ?_) (fun c_4 => absurd c_4 (by omega))
  refine lv_aload_n hx hb dX8_undo_10 rfl (lv_at hl 0 rfl) ?_
  refine lv_dup hx hb dX8_undo_11 rfl ?_
  refine g8 (v := (.int (σ 0 0))) S hK h 2 (by decide) rfl rfl q_598 dX8_undo_12 ?_
  refine cv_i (show (σ 0 0 : Int32) = nI (hh.length + 1) from b1) ?_
  refine lv_iconst (v := (nI 1)) hx hb dX8_undo_15 (by decide) ?_
  refine a_isub hx hb dX8_undo_16 (by omega) ?_
  refine cv_i (show (nI ((hh.length + 1) - 1) : Int32) = nI hh.length from (by rw [Nat.add_sub_cancel])) ?_
  refine p8 0 2 S hI hK h (by decide) rfl (fun _ => rfl) q_598 dX8_undo_17 (fun H locs h => ?_)
  refine lv_aload_n hx hb dX8_undo_20 rfl (lv_at hl 0 rfl) ?_
  refine g8 (v := (.ref (ad L 2))) S hK h 1 (by decide) rfl rfl q_597 dX8_undo_21 ?_
  refine lv_aload_n hx hb dX8_undo_24 rfl (lv_at hl 0 rfl) ?_
  refine g8 (v := (.int ((mu σ 0 0 (nI hh.length)) 0 0))) S hK h 2 (by decide) rfl rfl q_598 dX8_undo_25 ?_
  refine cv_i (show ((mu σ 0 0 (nI hh.length)) 0 0 : Int32) = nI hh.length from mu_s) ?_
  refine lv_sipush (v := (nI 3074)) hx hb dX8_undo_28 (by decide) ?_
  refine a_imul hx hb dX8_undo_31 ?_
  refine lv_aload_n hx hb dX8_undo_32 rfl (lv_at hl 0 rfl) ?_
  refine g8 (v := (.ref (ad L 1))) S hK h 0 (by decide) rfl rfl q_596 dX8_undo_33 ?_
  refine lv_iconst (v := (nI 0)) hx hb dX8_undo_36 (by decide) ?_
  refine q_S08 S hI hK h [.ref (ad L 2), .int (nI (hh.length * 3074)), .ref (ad L 1), .int (nI 0)] (c_X8_moves l L (mu σ 0 0 (nI hh.length)) (a9 := 2) (f9 := hh.length * 3074) (b9 := 1) (t9 := 0) (n1 := 12296) (n2 := 3074) (by decide) rfl (by decide) rfl (by omega) (by omega) (by omega)) q_666 q_667 q_10 q_668 yd_X8_moves rfl ⟨⟨rfl, rfl⟩, ⟨(Nat.le_of_ble_eq_true rfl), (Nat.le_of_ble_eq_true rfl)⟩, Nat.le_refl _, Nat.le_refl _⟩ rfl (Nat.le_of_ble_eq_true rfl) hl.1 dX8_undo_37 (fun H locs h => ?_)
  refine lv_aload_n hx hb dX8_undo_40 rfl (lv_at hl 0 rfl) ?_
  refine g8 (v := (.int ((cp8 (mu σ 0 0 (nI hh.length)) 2 (hh.length * 3074) 1 0 3074) 0 0))) S hK h 2 (by decide) rfl rfl q_598 dX8_undo_41 ?_
  refine cv_i (show ((cp8 (mu σ 0 0 (nI hh.length)) 2 (hh.length * 3074) 1 0 3074) 0 0 : Int32) = nI hh.length from (by rw [show cp8 (mu σ 0 0 (nI hh.length)) 2 (hh.length * 3074) 1 0 3074 0 0 = mu σ 0 0 (nI hh.length) 0 0 from if_neg (by omega)]; exact mu_s)) ?_
  exact e_i8 S hK h hr hlk dX8_undo_44 (hp _ _ ⟨rfl, MC_undo hc hY⟩)

abbrev rX8_type : Room := { frames := 1, cells := 0, slots := 0, locals := 22 }
theorem yd_X8_type : ydV yX8_type RX8 1 := ⟨rfl, by decide +kernel, by decide +kernel, by decide +kernel⟩
set_option maxHeartbeats 4000000 in
set_option maxRecDepth 100000 in
theorem c_X8_type (l : Launch) (L : Lay) (σ : Me) {X : SS} {hh : List SS} {t : List Int32} (hc : MC σ X hh t) (x : Int32) : Mg8 l L yX8_type (Cond.code yX8_type cX8_type 2 (some FieldType.int) :: qA) rX8_type [.ref (ad L 0), .int x] σ (fun r u => r = some (.int (cTyp t x).1) ∧ MC u X hh (cTyp t x).2) := by
  refine Mr8_ofW (by decide) (Nat.le_of_ble_eq_true rfl) ?_
  intro p e s m args below meth c ls post hp hI S hr hlk hK h hl
  have hx := S.1
  have hb := S.2.1
  have hl : lv_has ls 2 [(0, .ref (ad L 0)), (1, .int x)] := hl
  obtain ⟨b1, b2, b3, b4⟩ := MC_lh hc
  unfold cTyp at hp
  refine lv_iload_n hx hb dX8_type_0 rfl (lv_at hl 1 rfl) ?_
  refine lv_bipush (v := (nI 32)) hx hb dX8_type_1 (by decide) ?_
  refine lv_bipush (v := (nI 126)) hx hb dX8_type_3 (by decide) ?_
  refine q_S18 S hI hK h [.int x, .int (nI 32), .int (nI 126)] (c_X8_within l L σ x (nI 32) (nI 126)) q_649 q_650 q_10 q_651 yd_X8_within rfl ⟨⟨rfl, rfl⟩, ⟨(Nat.le_of_ble_eq_true rfl), (Nat.le_of_ble_eq_true rfl)⟩, Nat.le_refl _, Nat.le_refl _⟩ rfl (Nat.le_of_ble_eq_true rfl) hl.1 dX8_type_5 (fun H locs h => ?_)
  refine z_ne (tgt := 14) hx hb dX8_type_8 (by decide) (fun c_8 => ?_) (fun c_8 => ?_)
  · rw [if_neg (fun q => q c_8)] at hp
    refine lv_aload_n hx hb dX8_type_14 rfl (lv_at hl 0 rfl) ?_
    refine g8 (v := (.int (σ 0 1))) S hK h 4 (by decide) rfl rfl q_600 dX8_type_15 ?_
    refine cv_i (show (σ 0 1 : Int32) = nI t.length from b3) ?_
    refine lv_bipush (v := (nI 60)) hx hb dX8_type_18 (by decide) ?_
    refine b_icmp_ne (tgt := 26) hx hb dX8_type_20 (by decide) (by omega) (by omega) (fun c_20 => ?_) (fun c_20 => ?_)
    · rw [if_neg (show ¬ 60 ≤ t.length by omega)] at hp
      refine lv_aload_n hx hb dX8_type_26 rfl (lv_at hl 0 rfl) ?_
      refine g8 (v := (.ref (ad L 3))) S hK h 3 (by decide) rfl rfl q_599 dX8_type_27 ?_
      refine lv_aload_n hx hb dX8_type_30 rfl (lv_at hl 0 rfl) ?_
      refine g8 (v := (.int (σ 0 1))) S hK h 4 (by decide) rfl rfl q_600 dX8_type_31 ?_
      refine cv_i (show (σ 0 1 : Int32) = nI t.length from b3) ?_
      refine lv_iload_n hx hb dX8_type_34 rfl (lv_at hl 1 rfl) ?_
      refine p8_el (n := 60) S hI hK h (by decide) rfl (by omega) dX8_type_35 (fun H locs h => ?_)
      refine lv_aload_n hx hb dX8_type_36 rfl (lv_at hl 0 rfl) ?_
      refine lv_dup hx hb dX8_type_37 rfl ?_
      refine g8 (v := (.int ((mu σ 3 t.length x) 0 1))) S hK h 4 (by decide) rfl rfl q_600 dX8_type_38 ?_
      refine cv_i (show ((mu σ 3 t.length x) 0 1 : Int32) = nI t.length from (by rw [mu_k (by omega)]; exact b3)) ?_
      refine lv_iconst (v := (nI 1)) hx hb dX8_type_41 (by decide) ?_
      refine a_iadd hx hb dX8_type_42 ?_
      refine p8 1 4 S hI hK h (by decide) rfl (fun _ => rfl) q_600 dX8_type_43 (fun H locs h => ?_)
      refine lv_aload_n hx hb dX8_type_46 rfl (lv_at hl 0 rfl) ?_
      refine g8 (v := (.int ((mu (mu σ 3 t.length x) 0 1 (nI (t.length + 1))) 0 1))) S hK h 4 (by decide) rfl rfl q_600 dX8_type_47 ?_
      refine cv_i (show ((mu (mu σ 3 t.length x) 0 1 (nI (t.length + 1))) 0 1 : Int32) = nI (t.length + 1) from mu_s) ?_
      exact e_i8 S hK h hr hlk dX8_type_50 (hp _ _ ⟨rfl, MC_text hc (by rw [mu_r (by omega), mu_r (by omega)]) (by rw [mu_r (by omega), mu_r (by omega)]) (by rw [mu_i (by omega), mu_k (by omega)]) (by rw [mu_s, List.length_append, List.length_singleton]) (by rw [List.length_append, List.length_singleton]; omega) (fun i hi => by rw [List.length_append, List.length_singleton] at hi; rw [mu_k (by omega)]; by_cases q9 : i = t.length; (rw [q9, mu_s, getD_snoc_l]); (rw [mu_i q9, getD_snoc (by omega)]; exact hc.2.2.2.2 i (by omega)))⟩)
    · rw [if_pos (show 60 ≤ t.length by omega)] at hp
      refine lv_ldc (v := (-1000003 : Int32)) hx hb S.2.2.2.1 (S.2.2.2.2 _ q_661) dX8_type_23 ?_
      exact e_i8 S hK h hr hlk dX8_type_25 (hp _ _ ⟨rfl, hc⟩)
  · rw [if_pos c_8] at hp
    refine lv_ldc (v := (-1000001 : Int32)) hx hb S.2.2.2.1 (S.2.2.2.2 _ q_652) dX8_type_11 ?_
    exact e_i8 S hK h hr hlk dX8_type_13 (hp _ _ ⟨rfl, hc⟩)

abbrev rX8_clearText : Room := { frames := 0, cells := 0, slots := 0, locals := 0 }
theorem yd_X8_clearText : ydV yX8_clearText RX8 0 := ⟨rfl, by decide +kernel, by decide +kernel, by decide +kernel⟩
set_option maxHeartbeats 4000000 in
set_option maxRecDepth 100000 in
theorem c_X8_clearText (l : Launch) (L : Lay) (σ : Me) {X : SS} {hh : List SS} {t : List Int32} (hc : MC σ X hh t) : Mg8 l L yX8_clearText (Cond.code yX8_clearText cX8_clearText 2 (some FieldType.int) :: qA) rX8_clearText [.ref (ad L 0)] σ (fun r u => r = some (.int (nI t.length)) ∧ MC u X hh []) := by
  refine Mr8_ofW (by decide) (Nat.le_of_ble_eq_true rfl) ?_
  intro p e s m args below meth c ls post hp hI S hr hlk hK h hl
  have hx := S.1
  have hb := S.2.1
  have hl : lv_has ls 2 [(0, .ref (ad L 0))] := hl
  obtain ⟨b1, b2, b3, b4⟩ := MC_lh hc
  refine lv_aload_n hx hb dX8_clearText_0 rfl (lv_at hl 0 rfl) ?_
  refine g8 (v := (.int (σ 0 1))) S hK h 4 (by decide) rfl rfl q_600 dX8_clearText_1 ?_
  refine cv_i (show (σ 0 1 : Int32) = nI t.length from b3) ?_
  refine lv_istore_n (lv' := [(1, .int (nI t.length)), (0, .ref (ad L 0))]) hx hb dX8_clearText_4 rfl hl (by decide) rfl (fun ls hl => ?_)
  refine lv_aload_n hx hb dX8_clearText_5 rfl (lv_at hl 1 rfl) ?_
  refine lv_iconst (v := (nI 0)) hx hb dX8_clearText_6 (by decide) ?_
  refine p8 1 4 S hI hK h (by decide) rfl (fun _ => rfl) q_600 dX8_clearText_7 (fun H locs h => ?_)
  refine lv_iload_n hx hb dX8_clearText_10 rfl (lv_at hl 0 rfl) ?_
  exact e_i8 S hK h hr hlk dX8_clearText_11 (hp _ _ ⟨rfl, MC_text hc (by rw [mu_r (by omega)]) (by rw [mu_r (by omega)]) (by rw [mu_i (by omega)]) mu_s (Nat.zero_le _) (fun i hi => absurd hi (Nat.not_lt_zero _))⟩)

abbrev rX8_allWeight : Room := { frames := 2, cells := 0, slots := 0, locals := 43 }
theorem yd_X8_allWeight : ydV yX8_allWeight RX8 0 := ⟨rfl, by decide +kernel, by decide +kernel, by decide +kernel⟩
set_option maxHeartbeats 4000000 in
set_option maxRecDepth 100000 in
theorem c_X8_allWeight (l : Launch) (L : Lay) (σ : Me) {X : SS} (hS : MS (σ 1) X) : Mf8 l L yX8_allWeight (Cond.code yX8_allWeight cX8_allWeight 1 (some FieldType.int) :: qA) rX8_allWeight [.ref (ad L 0)] σ (some (.int (nI ((X.2.2 0).2.2.1.length + (X.2.2 1).2.2.1.length + (X.2.2 2).2.2.1.length)))) σ := by
  refine Mf8.ofW (by decide) (Nat.le_of_ble_eq_true rfl) ?_
  intro p e s m args below meth c ls post hp hI S hr hlk hK h hl
  have hx := S.1
  have hb := S.2.1
  have hl : lv_has ls 1 [(0, .ref (ad L 0))] := hl
  refine lv_aload_n hx hb dX8_allWeight_0 rfl (lv_at hl 0 rfl) ?_
  refine lv_iconst (v := (nI 0)) hx hb dX8_allWeight_1 (by decide) ?_
  refine q_V18 S hI hK h [.int (nI 0)] (c_X8_weightOf l L σ (d := 0) (by omega)) q_653 q_655 qs_12 q_10 q_656 yd_X8_weightOf rfl ⟨⟨rfl, rfl⟩, ⟨(Nat.le_of_ble_eq_true rfl), (Nat.le_of_ble_eq_true rfl)⟩, Nat.le_refl _, Nat.le_refl _⟩ rfl (Nat.le_of_ble_eq_true rfl) hl.1 dX8_allWeight_2 (fun H locs h => ?_)
  refine cv_i (show (σ 1 (2 + 1024 * 0 + 2) : Int32) = nI ((X.2.2 0).2.2.1.length) from (hS.2.2 0 (by omega)).2.2.1) ?_
  refine lv_aload_n hx hb dX8_allWeight_5 rfl (lv_at hl 0 rfl) ?_
  refine lv_iconst (v := (nI 1)) hx hb dX8_allWeight_6 (by decide) ?_
  refine q_V18 S hI hK h [.int (nI 1)] (c_X8_weightOf l L σ (d := 1) (by omega)) q_653 q_655 qs_12 q_10 q_656 yd_X8_weightOf rfl ⟨⟨rfl, rfl⟩, ⟨(Nat.le_of_ble_eq_true rfl), (Nat.le_of_ble_eq_true rfl)⟩, Nat.le_refl _, Nat.le_refl _⟩ rfl (Nat.le_of_ble_eq_true rfl) hl.1 dX8_allWeight_7 (fun H locs h => ?_)
  refine cv_i (show (σ 1 (2 + 1024 * 1 + 2) : Int32) = nI ((X.2.2 1).2.2.1.length) from (hS.2.2 1 (by omega)).2.2.1) ?_
  refine a_iadd hx hb dX8_allWeight_10 ?_
  refine lv_aload_n hx hb dX8_allWeight_11 rfl (lv_at hl 0 rfl) ?_
  refine lv_iconst (v := (nI 2)) hx hb dX8_allWeight_12 (by decide) ?_
  refine q_V18 S hI hK h [.int (nI 2)] (c_X8_weightOf l L σ (d := 2) (by omega)) q_653 q_655 qs_12 q_10 q_656 yd_X8_weightOf rfl ⟨⟨rfl, rfl⟩, ⟨(Nat.le_of_ble_eq_true rfl), (Nat.le_of_ble_eq_true rfl)⟩, Nat.le_refl _, Nat.le_refl _⟩ rfl (Nat.le_of_ble_eq_true rfl) hl.1 dX8_allWeight_13 (fun H locs h => ?_)
  refine cv_i (show (σ 1 (2 + 1024 * 2 + 2) : Int32) = nI ((X.2.2 2).2.2.1.length) from (hS.2.2 2 (by omega)).2.2.1) ?_
  refine a_iadd hx hb dX8_allWeight_16 ?_
  exact e_i8 S hK h hr hlk dX8_allWeight_17 hp

abbrev rX8_count_0 : Room := { frames := 3, cells := 0, slots := 0, locals := 63 }
theorem yd_X8_count : ydV yX8_count RX8 1 := ⟨rfl, by decide +kernel, by decide +kernel, by decide +kernel⟩
set_option maxHeartbeats 4000000 in
set_option maxRecDepth 100000 in
theorem c_X8_count_0 (l : Launch) (L : Lay) (σ : Me) {X : SS} {hh : List SS} {t : List Int32} (hc : MC σ X hh t) : Mg8 l L yX8_count (Cond.code yX8_count cX8_count 2 (some FieldType.int) :: qA) rX8_count_0 [.ref (ad L 0), .int (nI 0)] σ (fun r u => r = some (.int (nI ((X.2.2 0).2.2.1.length + (X.2.2 1).2.2.1.length + (X.2.2 2).2.2.1.length))) ∧ MC u X hh t) := by
  refine Mr8_ofW (by decide) (Nat.le_of_ble_eq_true rfl) ?_
  intro p e s m args below meth c ls post hp hI S hr hlk hK h hl
  have hx := S.1
  have hb := S.2.1
  have hl : lv_has ls 2 [(0, .ref (ad L 0)), (1, .int (nI 0))] := hl
  obtain ⟨b1, b2, b3, b4⟩ := MC_lh hc
  refine lv_iload_n hx hb dX8_count_0 rfl (lv_at hl 1 rfl) ?_
  refine lv_lookup (off := 59) (tgt := 60) hx hb dX8_count_1 (by decide) (by decide) (by decide) ?_
  refine lv_aload_n hx hb dX8_count_60 rfl (lv_at hl 0 rfl) ?_
  refine q_V18 S hI hK h [] (c_X8_allWeight l L σ hc.1) q_822 q_824 qs_37 q_10 q_825 yd_X8_allWeight rfl ⟨⟨rfl, rfl⟩, ⟨(Nat.le_of_ble_eq_true rfl), (Nat.le_of_ble_eq_true rfl)⟩, Nat.le_refl _, Nat.le_refl _⟩ rfl (Nat.le_of_ble_eq_true rfl) hl.1 dX8_count_61 (fun H locs h => ?_)
  exact e_i8 S hK h hr hlk dX8_count_64 (hp _ _ ⟨rfl, hc⟩)

abbrev rX8_count_1 : Room := { frames := 1, cells := 0, slots := 0, locals := 22 }
set_option maxHeartbeats 4000000 in
set_option maxRecDepth 100000 in
theorem c_X8_count_1 (l : Launch) (L : Lay) (σ : Me) {X : SS} {hh : List SS} {t : List Int32} (hc : MC σ X hh t) : Mg8 l L yX8_count (Cond.code yX8_count cX8_count 2 (some FieldType.int) :: qA) rX8_count_1 [.ref (ad L 0), .int (nI 1)] σ (fun r u => r = some (.int (nI ((X.2.2 0).1.length + (X.2.2 1).1.length + (X.2.2 2).1.length))) ∧ MC u X hh t) := by
  refine Mr8_ofW (by decide) (Nat.le_of_ble_eq_true rfl) ?_
  intro p e s m args below meth c ls post hp hI S hr hlk hK h hl
  have hx := S.1
  have hb := S.2.1
  have hl : lv_has ls 2 [(0, .ref (ad L 0)), (1, .int (nI 1))] := hl
  obtain ⟨b1, b2, b3, b4⟩ := MC_lh hc
  refine lv_iload_n hx hb dX8_count_0 rfl (lv_at hl 1 rfl) ?_
  refine lv_lookup (off := 64) (tgt := 65) hx hb dX8_count_1 (by decide) (by decide) (by decide) ?_
  refine lv_aload_n hx hb dX8_count_65 rfl (lv_at hl 0 rfl) ?_
  refine lv_iconst (v := (nI 0)) hx hb dX8_count_66 (by decide) ?_
  refine lv_iconst (v := (nI 0)) hx hb dX8_count_67 (by decide) ?_
  refine q_V18 S hI hK h [.int (nI 0), .int (nI 0)] (c_X8_part l L σ (d := 0) (q := 0) (by omega)) q_657 q_659 qs_13 q_10 q_660 yd_X8_part rfl ⟨⟨rfl, rfl⟩, ⟨(Nat.le_of_ble_eq_true rfl), (Nat.le_of_ble_eq_true rfl)⟩, Nat.le_refl _, Nat.le_refl _⟩ rfl (Nat.le_of_ble_eq_true rfl) hl.1 dX8_count_68 (fun H locs h => ?_)
  refine cv_i (show (σ 1 (2 + 1024 * 0 + 0) : Int32) = nI ((X.2.2 0).1.length) from (hc.1.2.2 0 (by omega)).1) ?_
  refine lv_aload_n hx hb dX8_count_71 rfl (lv_at hl 0 rfl) ?_
  refine lv_iconst (v := (nI 1)) hx hb dX8_count_72 (by decide) ?_
  refine lv_iconst (v := (nI 0)) hx hb dX8_count_73 (by decide) ?_
  refine q_V18 S hI hK h [.int (nI 1), .int (nI 0)] (c_X8_part l L σ (d := 1) (q := 0) (by omega)) q_657 q_659 qs_13 q_10 q_660 yd_X8_part rfl ⟨⟨rfl, rfl⟩, ⟨(Nat.le_of_ble_eq_true rfl), (Nat.le_of_ble_eq_true rfl)⟩, Nat.le_refl _, Nat.le_refl _⟩ rfl (Nat.le_of_ble_eq_true rfl) hl.1 dX8_count_74 (fun H locs h => ?_)
  refine cv_i (show (σ 1 (2 + 1024 * 1 + 0) : Int32) = nI ((X.2.2 1).1.length) from (hc.1.2.2 1 (by omega)).1) ?_
  refine a_iadd hx hb dX8_count_77 ?_
  refine lv_aload_n hx hb dX8_count_78 rfl (lv_at hl 0 rfl) ?_
  refine lv_iconst (v := (nI 2)) hx hb dX8_count_79 (by decide) ?_
  refine lv_iconst (v := (nI 0)) hx hb dX8_count_80 (by decide) ?_
  refine q_V18 S hI hK h [.int (nI 2), .int (nI 0)] (c_X8_part l L σ (d := 2) (q := 0) (by omega)) q_657 q_659 qs_13 q_10 q_660 yd_X8_part rfl ⟨⟨rfl, rfl⟩, ⟨(Nat.le_of_ble_eq_true rfl), (Nat.le_of_ble_eq_true rfl)⟩, Nat.le_refl _, Nat.le_refl _⟩ rfl (Nat.le_of_ble_eq_true rfl) hl.1 dX8_count_81 (fun H locs h => ?_)
  refine cv_i (show (σ 1 (2 + 1024 * 2 + 0) : Int32) = nI ((X.2.2 2).1.length) from (hc.1.2.2 2 (by omega)).1) ?_
  refine a_iadd hx hb dX8_count_84 ?_
  exact e_i8 S hK h hr hlk dX8_count_85 (hp _ _ ⟨rfl, hc⟩)

abbrev rX8_count_2 : Room := { frames := 0, cells := 0, slots := 0, locals := 0 }
set_option maxHeartbeats 4000000 in
set_option maxRecDepth 100000 in
theorem c_X8_count_2 (l : Launch) (L : Lay) (σ : Me) {X : SS} {hh : List SS} {t : List Int32} (hc : MC σ X hh t) : Mg8 l L yX8_count (Cond.code yX8_count cX8_count 2 (some FieldType.int) :: qA) rX8_count_2 [.ref (ad L 0), .int (nI 2)] σ (fun r u => r = some (.int (nI hh.length)) ∧ MC u X hh t) := by
  refine Mr8_ofW (by decide) (Nat.le_of_ble_eq_true rfl) ?_
  intro p e s m args below meth c ls post hp hI S hr hlk hK h hl
  have hx := S.1
  have hb := S.2.1
  have hl : lv_has ls 2 [(0, .ref (ad L 0)), (1, .int (nI 2))] := hl
  obtain ⟨b1, b2, b3, b4⟩ := MC_lh hc
  refine lv_iload_n hx hb dX8_count_0 rfl (lv_at hl 1 rfl) ?_
  refine lv_lookup (off := 85) (tgt := 86) hx hb dX8_count_1 (by decide) (by decide) (by decide) ?_
  refine lv_aload_n hx hb dX8_count_86 rfl (lv_at hl 0 rfl) ?_
  refine g8 (v := (.int (σ 0 0))) S hK h 2 (by decide) rfl rfl q_598 dX8_count_87 ?_
  refine cv_i (show (σ 0 0 : Int32) = nI hh.length from b1) ?_
  exact e_i8 S hK h hr hlk dX8_count_90 (hp _ _ ⟨rfl, hc⟩)

abbrev rX8_count_3 : Room := { frames := 0, cells := 0, slots := 0, locals := 0 }
set_option maxHeartbeats 4000000 in
set_option maxRecDepth 100000 in
theorem c_X8_count_3 (l : Launch) (L : Lay) (σ : Me) {X : SS} {hh : List SS} {t : List Int32} (hc : MC σ X hh t) : Mg8 l L yX8_count (Cond.code yX8_count cX8_count 2 (some FieldType.int) :: qA) rX8_count_3 [.ref (ad L 0), .int (nI 3)] σ (fun r u => r = some (.int (nI t.length)) ∧ MC u X hh t) := by
  refine Mr8_ofW (by decide) (Nat.le_of_ble_eq_true rfl) ?_
  intro p e s m args below meth c ls post hp hI S hr hlk hK h hl
  have hx := S.1
  have hb := S.2.1
  have hl : lv_has ls 2 [(0, .ref (ad L 0)), (1, .int (nI 3))] := hl
  obtain ⟨b1, b2, b3, b4⟩ := MC_lh hc
  refine lv_iload_n hx hb dX8_count_0 rfl (lv_at hl 1 rfl) ?_
  refine lv_lookup (off := 90) (tgt := 91) hx hb dX8_count_1 (by decide) (by decide) (by decide) ?_
  refine lv_aload_n hx hb dX8_count_91 rfl (lv_at hl 0 rfl) ?_
  refine g8 (v := (.int (σ 0 1))) S hK h 4 (by decide) rfl rfl q_600 dX8_count_92 ?_
  refine cv_i (show (σ 0 1 : Int32) = nI t.length from b3) ?_
  exact e_i8 S hK h hr hlk dX8_count_95 (hp _ _ ⟨rfl, hc⟩)

abbrev rX8_count_20 : Room := { frames := 0, cells := 0, slots := 0, locals := 0 }
set_option maxHeartbeats 4000000 in
set_option maxRecDepth 100000 in
theorem c_X8_count_20 (l : Launch) (L : Lay) (σ : Me) {X : SS} {hh : List SS} {t : List Int32} (hc : MC σ X hh t) : Mg8 l L yX8_count (Cond.code yX8_count cX8_count 2 (some FieldType.int) :: qA) rX8_count_20 [.ref (ad L 0), .int (nI 20)] σ (fun r u => r = some (.int (X.1)) ∧ MC u X hh t) := by
  refine Mr8_ofW (by decide) (Nat.le_of_ble_eq_true rfl) ?_
  intro p e s m args below meth c ls post hp hI S hr hlk hK h hl
  have hx := S.1
  have hb := S.2.1
  have hl : lv_has ls 2 [(0, .ref (ad L 0)), (1, .int (nI 20))] := hl
  obtain ⟨b1, b2, b3, b4⟩ := MC_lh hc
  refine lv_iload_n hx hb dX8_count_0 rfl (lv_at hl 1 rfl) ?_
  refine lv_lookup (off := 95) (tgt := 96) hx hb dX8_count_1 (by decide) (by decide) (by decide) ?_
  refine lv_aload_n hx hb dX8_count_96 rfl (lv_at hl 0 rfl) ?_
  refine g8 (v := (.ref (ad L 1))) S hK h 0 (by decide) rfl rfl q_596 dX8_count_97 ?_
  refine lv_iload_n hx hb dX8_count_100 rfl (lv_at hl 1 rfl) ?_
  refine lv_bipush (v := (nI 20)) hx hb dX8_count_101 (by decide) ?_
  refine a_isub hx hb dX8_count_103 (by omega) ?_
  refine g8_el (n := 3074) S hK h (by decide) rfl (by omega) dX8_count_104 ?_
  refine cv_i (show (σ 1 0 : Int32) = X.1 from hc.1.1) ?_
  exact e_i8 S hK h hr hlk dX8_count_105 (hp _ _ ⟨rfl, hc⟩)

abbrev rX8_count_21 : Room := { frames := 0, cells := 0, slots := 0, locals := 0 }
set_option maxHeartbeats 4000000 in
set_option maxRecDepth 100000 in
theorem c_X8_count_21 (l : Launch) (L : Lay) (σ : Me) {X : SS} {hh : List SS} {t : List Int32} (hc : MC σ X hh t) : Mg8 l L yX8_count (Cond.code yX8_count cX8_count 2 (some FieldType.int) :: qA) rX8_count_21 [.ref (ad L 0), .int (nI 21)] σ (fun r u => r = some (.int (X.2.1)) ∧ MC u X hh t) := by
  refine Mr8_ofW (by decide) (Nat.le_of_ble_eq_true rfl) ?_
  intro p e s m args below meth c ls post hp hI S hr hlk hK h hl
  have hx := S.1
  have hb := S.2.1
  have hl : lv_has ls 2 [(0, .ref (ad L 0)), (1, .int (nI 21))] := hl
  obtain ⟨b1, b2, b3, b4⟩ := MC_lh hc
  refine lv_iload_n hx hb dX8_count_0 rfl (lv_at hl 1 rfl) ?_
  refine lv_lookup (off := 95) (tgt := 96) hx hb dX8_count_1 (by decide) (by decide) (by decide) ?_
  refine lv_aload_n hx hb dX8_count_96 rfl (lv_at hl 0 rfl) ?_
  refine g8 (v := (.ref (ad L 1))) S hK h 0 (by decide) rfl rfl q_596 dX8_count_97 ?_
  refine lv_iload_n hx hb dX8_count_100 rfl (lv_at hl 1 rfl) ?_
  refine lv_bipush (v := (nI 20)) hx hb dX8_count_101 (by decide) ?_
  refine a_isub hx hb dX8_count_103 (by omega) ?_
  refine g8_el (n := 3074) S hK h (by decide) rfl (by omega) dX8_count_104 ?_
  refine cv_i (show (σ 1 1 : Int32) = X.2.1 from hc.1.2.1) ?_
  exact e_i8 S hK h hr hlk dX8_count_105 (hp _ _ ⟨rfl, hc⟩)

abbrev rX8_count_n : Room := { frames := 0, cells := 0, slots := 0, locals := 0 }
set_option maxHeartbeats 4000000 in
set_option maxRecDepth 100000 in
theorem c_X8_count_n (l : Launch) (L : Lay) (σ : Me) {X : SS} {hh : List SS} {t : List Int32} (hc : MC σ X hh t) {w : Int32} (hw : w ≠ 0 ∧ w ≠ 1 ∧ w ≠ 2 ∧ w ≠ 3 ∧ w ≠ 20 ∧ w ≠ 21) : Mg8 l L yX8_count (Cond.code yX8_count cX8_count 2 (some FieldType.int) :: qA) rX8_count_n [.ref (ad L 0), .int w] σ (fun r u => r = some (.int cINV) ∧ MC u X hh t) := by
  refine Mr8_ofW (by decide) (Nat.le_of_ble_eq_true rfl) ?_
  intro p e s m args below meth c ls post hp hI S hr hlk hK h hl
  have hx := S.1
  have hb := S.2.1
  have hl : lv_has ls 2 [(0, .ref (ad L 0)), (1, .int w)] := hl
  refine lv_iload_n hx hb dX8_count_0 rfl (lv_at hl 1 rfl) ?_
  refine lv_lookup (off := 105) (tgt := 106) hx hb dX8_count_1 (by decide) (lk_out hw) (by decide) ?_
  refine lv_ldc (v := (-1000001 : Int32)) hx hb S.2.2.2.1 (S.2.2.2.2 _ q_652) dX8_count_106 ?_
  exact e_i8 S hK h hr hlk dX8_count_108 (hp _ _ ⟨rfl, hc⟩)
