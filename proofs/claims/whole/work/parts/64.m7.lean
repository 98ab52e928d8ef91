abbrev rX8_add : Room := { frames := 6, cells := 0, slots := 0, locals := 131 }
theorem yd_X8_add : ydV yX8_add RX8 3 := ⟨rfl, by decide +kernel, by decide +kernel, by decide +kernel⟩
set_option maxHeartbeats 4000000 in
set_option maxRecDepth 100000 in
theorem c_X8_add (l : Launch) (L : Lay) (σ : Me) {X : SS} {hh : List SS} {t : List Int32} (hc : MC σ X hh t) (hX : GX X) (hH : ∀ Y ∈ hh, GX Y) (x v tm : Int32) : Mg8 l L yX8_add (Cond.code yX8_add cX8_add 5 (some FieldType.int) :: qA) rX8_add [.ref (ad L 0), .int x, .int v, .int tm] σ (fun r u => r = some (.int (mAdd X hh x v tm).1) ∧ MC u (mAdd X hh x v tm).2.1 (mAdd X hh x v tm).2.2 t) := by
  refine Mr8_ofW (by decide) (Nat.le_of_ble_eq_true rfl) ?_
  intro p e s m args below meth c ls post hp hI S hr hlk hK h hl
  have hx := S.1
  have hb := S.2.1
  have hl : lv_has ls 5 [(0, .ref (ad L 0)), (1, .int x), (2, .int v), (3, .int tm)] := hl
  unfold mAdd at hp
  refine lv_iload_n hx hb dX8_add_0 rfl (lv_at hl 1 rfl) ?_
  refine q_S18 S hI hK h [.int x] (c_X8_isDigest l L σ x) q_646 q_647 q_10 q_648 yd_X8_isDigest rfl ⟨⟨rfl, rfl⟩, ⟨(Nat.le_of_ble_eq_true rfl), (Nat.le_of_ble_eq_true rfl)⟩, Nat.le_refl _, Nat.le_refl _⟩ rfl (Nat.le_of_ble_eq_true rfl) hl.1 dX8_add_1 (fun H locs h => ?_)
  refine z_eq (tgt := 28) hx hb dX8_add_4 (by decide) (fun c_4 => ?_) (fun c_4 => ?_)
  · rw [if_pos c_4] at hp
    refine lv_ldc (v := (-1000001 : Int32)) hx hb S.2.2.2.1 (S.2.2.2.2 _ q_652) dX8_add_28 ?_
    exact e_i8 S hK h hr hlk dX8_add_30 (hp _ _ ⟨rfl, hc⟩)
  · rw [if_neg (fun q => q c_4)] at hp
    obtain ⟨i, -, hi2, rfl⟩ := rng_nat (a := 0) (b := 2) (by omega) (by omega) c_4
    rw [nI_clamp (show i < 2 ^ 31 by omega)] at hp
    have hi : i < 3 := by omega
    have hGi := hX.1 i hi
    obtain ⟨m1, m2, m3, m4, m5, m6, m7⟩ := hc.1.2.2 i hi
    obtain ⟨la, lb, lc, ld⟩ := hGi.1
    unfold mAdd1 at hp
    refine lv_iload_n hx hb dX8_add_7 rfl (lv_at hl 2 rfl) ?_
    refine lv_iconst (v := (nI 0)) hx hb dX8_add_8 (by decide) ?_
    refine lv_sipush (v := (nI 9999)) hx hb dX8_add_9 (by decide) ?_
    refine q_S18 S hI hK h [.int v, .int (nI 0), .int (nI 9999)] (c_X8_within l L σ v (nI 0) (nI 9999)) q_649 q_650 q_10 q_651 yd_X8_within rfl ⟨⟨rfl, rfl⟩, ⟨(Nat.le_of_ble_eq_true rfl), (Nat.le_of_ble_eq_true rfl)⟩, Nat.le_refl _, Nat.le_refl _⟩ rfl (Nat.le_of_ble_eq_true rfl) hl.1 dX8_add_12 (fun H locs h => ?_)
    refine z_eq (tgt := 28) hx hb dX8_add_15 (by decide) (fun c_15 => ?_) (fun c_15 => ?_)
    · rw [if_pos c_15] at hp
      refine lv_ldc (v := (-1000001 : Int32)) hx hb S.2.2.2.1 (S.2.2.2.2 _ q_652) dX8_add_28 ?_
      exact e_i8 S hK h hr hlk dX8_add_30 (hp _ _ ⟨rfl, hc⟩)
    · rw [if_neg (fun q => q c_15)] at hp
      have hvn : Vn v := by obtain ⟨n8, -, h8, e8⟩ := rng_nat (a := 0) (b := 9999) (by omega) (by omega) c_15; exact ⟨n8, h8, e8⟩
      refine lv_iload_n hx hb dX8_add_18 rfl (lv_at hl 3 rfl) ?_
      refine lv_iconst (v := (nI 1)) hx hb dX8_add_19 (by decide) ?_
      refine lv_bipush (v := (nI 20)) hx hb dX8_add_20 (by decide) ?_
      refine q_S18 S hI hK h [.int tm, .int (nI 1), .int (nI 20)] (c_X8_within l L σ tm (nI 1) (nI 20)) q_649 q_650 q_10 q_651 yd_X8_within rfl ⟨⟨rfl, rfl⟩, ⟨(Nat.le_of_ble_eq_true rfl), (Nat.le_of_ble_eq_true rfl)⟩, Nat.le_refl _, Nat.le_refl _⟩ rfl (Nat.le_of_ble_eq_true rfl) hl.1 dX8_add_22 (fun H locs h => ?_)
      refine z_ne (tgt := 31) hx hb dX8_add_25 (by decide) (fun c_25 => ?_) (fun c_25 => ?_)
      · rw [if_neg (fun q => q c_25)] at hp
        refine lv_aload_n hx hb dX8_add_31 rfl (lv_at hl 0 rfl) ?_
        refine lv_iload_n hx hb dX8_add_32 rfl (lv_at hl 1 rfl) ?_
        refine q_V18 S hI hK h [.int (nI i)] (c_X8_weightOf l L σ (d := i) (by omega)) q_653 q_655 qs_12 q_10 q_656 yd_X8_weightOf rfl ⟨⟨rfl, rfl⟩, ⟨(Nat.le_of_ble_eq_true rfl), (Nat.le_of_ble_eq_true rfl)⟩, Nat.le_refl _, Nat.le_refl _⟩ rfl (Nat.le_of_ble_eq_true rfl) hl.1 dX8_add_33 (fun H locs h => ?_)
        refine cv_i (show (σ 1 (2 + 1024 * i + 2) : Int32) = nI ((X.2.2 i).2.2.1.length) from m3) ?_
        refine lv_iload_n hx hb dX8_add_36 rfl (lv_at hl 3 rfl) ?_
        refine lv_iadd hx hb dX8_add_37 ?_
        refine lv_sipush (v := (nI 200)) hx hb dX8_add_38 (by decide) ?_
        refine lv_icmp_le (tgt := 47) hx hb dX8_add_41 (by decide) (fun c_41 => ?_) (fun c_41 => ?_)
        · rw [if_neg (Int32.not_lt.mpr c_41)] at hp
          obtain ⟨n, hn1, hn2, rfl⟩ := rng_nat (a := 1) (b := 20) (by omega) (by omega) c_25
          rw [nI_add] at c_41
          have hVn := (nI_leI (by omega) (by omega)).mp c_41
          rw [nI_clamp (show n < 2 ^ 31 by omega)] at hp
          refine lv_aload_n hx hb dX8_add_47 rfl (lv_at hl 0 rfl) ?_
          refine q_VR8 S hI hK h [] (c_X8_record l L σ hc hX.L (fun Y hY => (hH Y hY).L)) q_662 q_664 qs_14 q_10 q_665 yd_X8_record rfl ⟨⟨rfl, rfl⟩, ⟨(Nat.le_of_ble_eq_true rfl), (Nat.le_of_ble_eq_true rfl)⟩, Nat.le_refl _, Nat.le_refl _⟩ rfl (Nat.le_of_ble_eq_true rfl) hl.1 dX8_add_48 (fun σ1 H locs hp9 h => ?_)
          obtain ⟨hc1, ho1⟩ := hp9
          refine lv_iconst (v := (nI 0)) hx hb dX8_add_51 (by decide) ?_
          refine lv_istore (lv' := [(4, .int (nI 0)), (0, .ref (ad L 0)), (1, .int (nI i)), (2, .int v), (3, .int (nI n))]) hx hb dX8_add_52 hl (by decide) rfl (fun ls hl => ?_)
          have LP_54 : ∀ (n_54 : Nat) (k : Nat) (σ2 : Me), (k ≤ n) → (MC σ2 (setD X i (rcvMN X.1 X.2.1 (X.2.2 i) v k)) (recH hh X) t) → n - k < n_54 → ∀ (H : Heap) (locs : List Loc) (ls : Array Slot), Hd8 L s.heap H σ2 locs → lv_has ls 5 [(4, .int (nI k)), (3, .int (nI n)), (2, .int v), (1, .int (nI i)), (0, .ref (ad L 0))] → W p l e rX8_add s m args below meth c H locs 0 0 (MQ below (Qg post (bs8 L) (Aw8 L)) args s 0 0 (Aw8 L)) (F0 m 54 ls []) := by
            intro n_54
            induction n_54 with
            | zero => intro k σ2; intros; omega
            | succ n_54 ih_54 =>
              intro k σ2 hk hcr hm_54 H locs ls h hl
              obtain ⟨hGk, hlen9⟩ := GD_rcvMN (s0 := X.1) hGi hX.2 hvn k (by omega)
              have hXk := GX_setD (i := i) hX hGk
              refine lv_iload hx hb dX8_add_54 (lv_at hl 0 rfl) ?_
              refine lv_iload_n hx hb dX8_add_56 rfl (lv_at hl 1 rfl) ?_
              refine b_icmp_ge (tgt := 72) hx hb dX8_add_57 (by decide) (by omega) (by omega) (fun c_57 => ?_) (fun c_57 => ?_)
              · have e4 : k = n := by omega
                refine lv_aload_n hx hb dX8_add_72 rfl (lv_at hl 4 rfl) ?_
                refine lv_iload_n hx hb dX8_add_73 rfl (lv_at hl 3 rfl) ?_
                refine q_V18 S hI hK h [.int (nI i)] (c_X8_weightOf l L σ2 (d := i) (by omega)) q_653 q_655 qs_12 q_10 q_656 yd_X8_weightOf rfl ⟨⟨rfl, rfl⟩, ⟨(Nat.le_of_ble_eq_true rfl), (Nat.le_of_ble_eq_true rfl)⟩, Nat.le_refl _, Nat.le_refl _⟩ rfl (Nat.le_of_ble_eq_true rfl) hl.1 dX8_add_74 (fun H locs h => ?_)
                refine cv_i (show (σ2 1 (2 + 1024 * i + 2) : Int32) = nI ((X.2.2 i).2.2.1.length + n) from (by rw [(MS_D hcr.1 hi).2.2.1, hlen9, e4])) ?_
                exact e_i8 S hK h hr hlk dX8_add_77 (hp _ _ ⟨rfl, by rw [← e4]; exact hcr⟩)
              · refine lv_aload_n hx hb dX8_add_60 rfl (lv_at hl 4 rfl) ?_
                refine lv_iload_n hx hb dX8_add_61 rfl (lv_at hl 3 rfl) ?_
                refine lv_iload_n hx hb dX8_add_62 rfl (lv_at hl 2 rfl) ?_
                refine q_VR8 S hI hK h [.int (nI i), .int v] (c_X8_comes l L σ2 hcr.1 hXk.I hi (by rw [setD_i]; exact (GD_all hGk).1) (by rw [setD_i]; omega) v) q_669 q_671 qs_15 q_10 q_672 yd_X8_comes rfl ⟨⟨rfl, rfl⟩, ⟨(Nat.le_of_ble_eq_true rfl), (Nat.le_of_ble_eq_true rfl)⟩, Nat.le_refl _, Nat.le_refl _⟩ rfl (Nat.le_of_ble_eq_true rfl) hl.1 dX8_add_63 (fun σ3 H locs hp9 h => ?_)
                obtain ⟨hS3, hO3⟩ := hp9
                rw [setD_i, setD_setD] at hS3
                have hS4 : MS (σ3 1) (setD X i (rcvMN X.1 X.2.1 (X.2.2 i) v (k + 1))) := hS3
                refine lv_iinc (v := (nI (k + 1))) (lv' := [(4, .int (nI (k + 1))), (3, .int (nI n)), (2, .int v), (1, .int (nI i)), (0, .ref (ad L 0))]) hx hb dX8_add_66 hl (k := 0) rfl (iinc_1 _) (by decide) rfl (fun ls hl => ?_)
                refine lv_goto (tgt := 54) hx hb dX8_add_69 (by decide) ?_
                exact ih_54 (k + 1) σ3 (by omega) (MC_q hcr hS4 hO3) (by omega) _ _ _ h (lv_sub hl [0, 1, 2, 3, 4] rfl)
          exact LP_54 _ 0 σ1 (by omega) (by rw [rcvMN, setD_id]; exact hc1) (Nat.lt_succ_self _) _ _ _ h (lv_sub hl [0, 4, 3, 2, 1] rfl)
        · rw [if_pos (Int32.not_le.mp c_41)] at hp
          refine lv_ldc (v := (-1000003 : Int32)) hx hb S.2.2.2.1 (S.2.2.2.2 _ q_661) dX8_add_44 ?_
          exact e_i8 S hK h hr hlk dX8_add_46 (hp _ _ ⟨rfl, hc⟩)
      · rw [if_pos c_25] at hp
        refine lv_ldc (v := (-1000001 : Int32)) hx hb S.2.2.2.1 (S.2.2.2.2 _ q_652) dX8_add_28 ?_
        exact e_i8 S hK h hr hlk dX8_add_30 (hp _ _ ⟨rfl, hc⟩)

abbrev rX8_pack : Room := { frames := 5, cells := 0, slots := 0, locals := 109 }
theorem yd_X8_pack : ydV yX8_pack RX8 1 := ⟨rfl, by decide +kernel, by decide +kernel, by decide +kernel⟩
set_option maxHeartbeats 4000000 in
set_option maxRecDepth 100000 in
theorem c_X8_pack (l : Launch) (L : Lay) (σ : Me) {X : SS} {hh : List SS} {t : List Int32} (hc : MC σ X hh t) (hX : GX X) (hH : ∀ Y ∈ hh, GX Y) (x : Int32) : Mg8 l L yX8_pack (Cond.code yX8_pack cX8_pack 2 (some FieldType.int) :: qA) rX8_pack [.ref (ad L 0), .int x] σ (fun r u => r = some (.int (mPack X hh x).1) ∧ MC u (mPack X hh x).2.1 (mPack X hh x).2.2 t) := by
  refine Mr8_ofW (by decide) (Nat.le_of_ble_eq_true rfl) ?_
  intro p e s m args below meth c ls post hp hI S hr hlk hK h hl
  have hx := S.1
  have hb := S.2.1
  have hl : lv_has ls 2 [(0, .ref (ad L 0)), (1, .int x)] := hl
  unfold mPack at hp
  refine lv_iload_n hx hb dX8_pack_0 rfl (lv_at hl 1 rfl) ?_
  refine q_S18 S hI hK h [.int x] (c_X8_isDigest l L σ x) q_646 q_647 q_10 q_648 yd_X8_isDigest rfl ⟨⟨rfl, rfl⟩, ⟨(Nat.le_of_ble_eq_true rfl), (Nat.le_of_ble_eq_true rfl)⟩, Nat.le_refl _, Nat.le_refl _⟩ rfl (Nat.le_of_ble_eq_true rfl) hl.1 dX8_pack_1 (fun H locs h => ?_)
  refine z_ne (tgt := 10) hx hb dX8_pack_4 (by decide) (fun c_4 => ?_) (fun c_4 => ?_)
  · rw [if_neg (fun q => q c_4)] at hp
    obtain ⟨i, -, hi2, rfl⟩ := rng_nat (a := 0) (b := 2) (by omega) (by omega) c_4
    rw [nI_clamp (show i < 2 ^ 31 by omega)] at hp
    have hi : i < 3 := by omega
    have hGi := hX.1 i hi
    obtain ⟨m1, m2, m3, m4, m5, m6, m7⟩ := hc.1.2.2 i hi
    obtain ⟨la, lb, lc, ld⟩ := hGi.1
    refine lv_aload_n hx hb dX8_pack_10 rfl (lv_at hl 0 rfl) ?_
    refine q_VR8 S hI hK h [] (c_X8_record l L σ hc hX.L (fun Y hY => (hH Y hY).L)) q_662 q_664 qs_14 q_10 q_665 yd_X8_record rfl ⟨⟨rfl, rfl⟩, ⟨(Nat.le_of_ble_eq_true rfl), (Nat.le_of_ble_eq_true rfl)⟩, Nat.le_refl _, Nat.le_refl _⟩ rfl (Nat.le_of_ble_eq_true rfl) hl.1 dX8_pack_11 (fun σ1 H locs hp9 h => ?_)
    obtain ⟨hc1, ho1⟩ := hp9
    refine lv_aload_n hx hb dX8_pack_14 rfl (lv_at hl 0 rfl) ?_
    refine lv_iload_n hx hb dX8_pack_15 rfl (lv_at hl 1 rfl) ?_
    refine q_VR8 S hI hK h [.int (nI i)] (c_X8_packs l L σ1 hc1.1 hX.I hi (GD_all hGi).1) q_673 q_675 qs_16 q_10 q_676 yd_X8_packs rfl ⟨⟨rfl, rfl⟩, ⟨(Nat.le_of_ble_eq_true rfl), (Nat.le_of_ble_eq_true rfl)⟩, Nat.le_refl _, Nat.le_refl _⟩ rfl (Nat.le_of_ble_eq_true rfl) hl.1 dX8_pack_16 (fun σ2 H locs hp9 h => ?_)
    obtain ⟨hS2, hL2, hO2⟩ := hp9
    refine lv_aload_n hx hb dX8_pack_19 rfl (lv_at hl 0 rfl) ?_
    refine g8 (v := (.int (σ2 0 2))) S hK h 9 (by decide) rfl rfl q_605 dX8_pack_20 ?_
    refine cv_i (show (σ2 0 2 : Int32) = nI ((trL X i).length) from hL2.1) ?_
    exact e_i8 S hK h hr hlk dX8_pack_23 (hp _ _ ⟨rfl, MC_q hc1 hS2 hO2⟩)
  · rw [if_pos c_4] at hp
    refine lv_ldc (v := (-1000001 : Int32)) hx hb S.2.2.2.1 (S.2.2.2.2 _ q_652) dX8_pack_7 ?_
    exact e_i8 S hK h hr hlk dX8_pack_9 (hp _ _ ⟨rfl, hc⟩)

abbrev rX8_clear : Room := { frames := 2, cells := 0, slots := 0, locals := 45 }
theorem yd_X8_clear : ydV yX8_clear RX8 1 := ⟨rfl, by decide +kernel, by decide +kernel, by decide +kernel⟩
set_option maxHeartbeats 4000000 in
set_option maxRecDepth 100000 in
theorem c_X8_clear (l : Launch) (L : Lay) (σ : Me) {X : SS} {hh : List SS} {t : List Int32} (hc : MC σ X hh t) (hX : GX X) (hH : ∀ Y ∈ hh, GX Y) (x : Int32) : Mg8 l L yX8_clear (Cond.code yX8_clear cX8_clear 3 (some FieldType.int) :: qA) rX8_clear [.ref (ad L 0), .int x] σ (fun r u => r = some (.int (mClear X hh x).1) ∧ MC u (mClear X hh x).2.1 (mClear X hh x).2.2 t) := by
  refine Mr8_ofW (by decide) (Nat.le_of_ble_eq_true rfl) ?_
  intro p e s m args below meth c ls post hp hI S hr hlk hK h hl
  have hx := S.1
  have hb := S.2.1
  have hl : lv_has ls 3 [(0, .ref (ad L 0)), (1, .int x)] := hl
  unfold mClear at hp
  refine lv_iload_n hx hb dX8_clear_0 rfl (lv_at hl 1 rfl) ?_
  refine q_S18 S hI hK h [.int x] (c_X8_isDigest l L σ x) q_646 q_647 q_10 q_648 yd_X8_isDigest rfl ⟨⟨rfl, rfl⟩, ⟨(Nat.le_of_ble_eq_true rfl), (Nat.le_of_ble_eq_true rfl)⟩, Nat.le_refl _, Nat.le_refl _⟩ rfl (Nat.le_of_ble_eq_true rfl) hl.1 dX8_clear_1 (fun H locs h => ?_)
  refine z_ne (tgt := 10) hx hb dX8_clear_4 (by decide) (fun c_4 => ?_) (fun c_4 => ?_)
  · rw [if_neg (fun q => q c_4)] at hp
    obtain ⟨i, -, hi2, rfl⟩ := rng_nat (a := 0) (b := 2) (by omega) (by omega) c_4
    rw [nI_clamp (show i < 2 ^ 31 by omega)] at hp
    have hi : i < 3 := by omega
    have hGi := hX.1 i hi
    obtain ⟨m1, m2, m3, m4, m5, m6, m7⟩ := hc.1.2.2 i hi
    obtain ⟨la, lb, lc, ld⟩ := hGi.1
    refine lv_aload_n hx hb dX8_clear_10 rfl (lv_at hl 0 rfl) ?_
    refine q_VR8 S hI hK h [] (c_X8_record l L σ hc hX.L (fun Y hY => (hH Y hY).L)) q_662 q_664 qs_14 q_10 q_665 yd_X8_record rfl ⟨⟨rfl, rfl⟩, ⟨(Nat.le_of_ble_eq_true rfl), (Nat.le_of_ble_eq_true rfl)⟩, Nat.le_refl _, Nat.le_refl _⟩ rfl (Nat.le_of_ble_eq_true rfl) hl.1 dX8_clear_11 (fun σ1 H locs hp9 h => ?_)
    obtain ⟨hc1, ho1⟩ := hp9
    obtain ⟨n1, n2, n3, n4, n5, n6, n7⟩ := hc1.1.2.2 i hi
    refine lv_aload_n hx hb dX8_clear_14 rfl (lv_at hl 0 rfl) ?_
    refine lv_iload_n hx hb dX8_clear_15 rfl (lv_at hl 1 rfl) ?_
    refine q_V18 S hI hK h [.int (nI i)] (c_X8_weightOf l L σ1 (d := i) (by omega)) q_653 q_655 qs_12 q_10 q_656 yd_X8_weightOf rfl ⟨⟨rfl, rfl⟩, ⟨(Nat.le_of_ble_eq_true rfl), (Nat.le_of_ble_eq_true rfl)⟩, Nat.le_refl _, Nat.le_refl _⟩ rfl (Nat.le_of_ble_eq_true rfl) hl.1 dX8_clear_16 (fun H locs h => ?_)
    refine cv_i (show (σ1 1 (2 + 1024 * i + 2) : Int32) = nI ((X.2.2 i).2.2.1.length) from n3) ?_
    refine lv_istore_n (lv' := [(2, .int (nI ((X.2.2 i).2.2.1.length))), (0, .ref (ad L 0)), (1, .int (nI i))]) hx hb dX8_clear_19 rfl hl (by decide) rfl (fun ls hl => ?_)
    refine lv_aload_n hx hb dX8_clear_20 rfl (lv_at hl 1 rfl) ?_
    refine lv_iload_n hx hb dX8_clear_21 rfl (lv_at hl 2 rfl) ?_
    refine lv_iconst (v := (nI 0)) hx hb dX8_clear_22 (by decide) ?_
    refine lv_iconst (v := (nI 0)) hx hb dX8_clear_23 (by decide) ?_
    refine q_V08 S hI hK h [.int (nI i), .int (nI 0), .int (nI 0)] (c_X8_setPart l L σ1 (d := i) (q := 0) (by omega) (nI 0)) q_713 q_715 qs_26 q_10 q_716 yd_X8_setPart rfl ⟨⟨rfl, rfl⟩, ⟨(Nat.le_of_ble_eq_true rfl), (Nat.le_of_ble_eq_true rfl)⟩, Nat.le_refl _, Nat.le_refl _⟩ rfl (Nat.le_of_ble_eq_true rfl) hl.1 dX8_clear_24 (fun H locs h => ?_)
    refine lv_aload_n hx hb dX8_clear_27 rfl (lv_at hl 1 rfl) ?_
    refine lv_iload_n hx hb dX8_clear_28 rfl (lv_at hl 2 rfl) ?_
    refine lv_iconst (v := (nI 1)) hx hb dX8_clear_29 (by decide) ?_
    refine lv_iconst (v := (nI 0)) hx hb dX8_clear_30 (by decide) ?_
    refine q_V08 S hI hK h [.int (nI i), .int (nI 1), .int (nI 0)] (c_X8_setPart l L (mu σ1 1 (2 + 1024 * i + 0) (nI 0)) (d := i) (q := 1) (by omega) (nI 0)) q_713 q_715 qs_26 q_10 q_716 yd_X8_setPart rfl ⟨⟨rfl, rfl⟩, ⟨(Nat.le_of_ble_eq_true rfl), (Nat.le_of_ble_eq_true rfl)⟩, Nat.le_refl _, Nat.le_refl _⟩ rfl (Nat.le_of_ble_eq_true rfl) hl.1 dX8_clear_31 (fun H locs h => ?_)
    refine lv_aload_n hx hb dX8_clear_34 rfl (lv_at hl 1 rfl) ?_
    refine lv_iload_n hx hb dX8_clear_35 rfl (lv_at hl 2 rfl) ?_
    refine lv_iconst (v := (nI 2)) hx hb dX8_clear_36 (by decide) ?_
    refine lv_iconst (v := (nI 0)) hx hb dX8_clear_37 (by decide) ?_
    refine q_V08 S hI hK h [.int (nI i), .int (nI 2), .int (nI 0)] (c_X8_setPart l L (mu (mu σ1 1 (2 + 1024 * i + 0) (nI 0)) 1 (2 + 1024 * i + 1) (nI 0)) (d := i) (q := 2) (by omega) (nI 0)) q_713 q_715 qs_26 q_10 q_716 yd_X8_setPart rfl ⟨⟨rfl, rfl⟩, ⟨(Nat.le_of_ble_eq_true rfl), (Nat.le_of_ble_eq_true rfl)⟩, Nat.le_refl _, Nat.le_refl _⟩ rfl (Nat.le_of_ble_eq_true rfl) hl.1 dX8_clear_38 (fun H locs h => ?_)
    refine lv_iload_n hx hb dX8_clear_41 rfl (lv_at hl 0 rfl) ?_
    exact e_i8 S hK h hr hlk dX8_clear_42 (hp _ _ ⟨rfl, MC_1 hc1 (MS_ofL (E := ([], [], [], (X.2.2 i).2.2.2)) hc1.1 hX.L (fun j hj => by rw [mu_i (by omega), mu_i (by omega), mu_i (by omega)]) ⟨by rw [mu_i (by omega), mu_i (by omega), mu_s]; rfl, by rw [mu_i (by omega), mu_s]; rfl, mu_s, by rw [mu_i (by omega), mu_i (by omega), mu_i (by omega)]; exact n4, fun j hj => absurd hj (Nat.not_lt_zero _), fun j hj => absurd hj (Nat.not_lt_zero _), fun j hj => absurd hj (Nat.not_lt_zero _)⟩) (fun k hk => by rw [mu_r hk, mu_r hk, mu_r hk])⟩)
  · rw [if_pos c_4] at hp
    refine lv_ldc (v := (-1000001 : Int32)) hx hb S.2.2.2.1 (S.2.2.2.2 _ q_652) dX8_clear_7 ?_
    exact e_i8 S hK h hr hlk dX8_clear_9 (hp _ _ ⟨rfl, hc⟩)

abbrev rX8_bufferOf : Room := { frames := 2, cells := 0, slots := 0, locals := 42 }
theorem yd_X8_bufferOf : ydV yX8_bufferOf RX8 2 := ⟨rfl, by decide +kernel, by decide +kernel, by decide +kernel⟩
set_option maxHeartbeats 4000000 in
set_option maxRecDepth 100000 in
theorem c_X8_bufferOf (l : Launch) (L : Lay) (σ : Me) {X : SS} {hh : List SS} {t : List Int32} (hc : MC σ X hh t) (hX : GX X) (hH : ∀ Y ∈ hh, GX Y) (x y : Int32) : Mg8 l L yX8_bufferOf (Cond.code yX8_bufferOf cX8_bufferOf 3 (some FieldType.int) :: qA) rX8_bufferOf [.ref (ad L 0), .int x, .int y] σ (fun r u => r = some (.int (mBuf X x y)) ∧ MC u X hh t) := by
  refine Mr8_ofW (by decide) (Nat.le_of_ble_eq_true rfl) ?_
  intro p e s m args below meth c ls post hp hI S hr hlk hK h hl
  have hx := S.1
  have hb := S.2.1
  have hl : lv_has ls 3 [(0, .ref (ad L 0)), (1, .int x), (2, .int y)] := hl
  unfold mBuf at hp
  refine lv_iload_n hx hb dX8_bufferOf_0 rfl (lv_at hl 1 rfl) ?_
  refine q_S18 S hI hK h [.int x] (c_X8_isDigest l L σ x) q_646 q_647 q_10 q_648 yd_X8_isDigest rfl ⟨⟨rfl, rfl⟩, ⟨(Nat.le_of_ble_eq_true rfl), (Nat.le_of_ble_eq_true rfl)⟩, Nat.le_refl _, Nat.le_refl _⟩ rfl (Nat.le_of_ble_eq_true rfl) hl.1 dX8_bufferOf_1 (fun H locs h => ?_)
  refine z_eq (tgt := 11) hx hb dX8_bufferOf_4 (by decide) (fun c_4 => ?_) (fun c_4 => ?_)
  · rw [if_pos c_4] at hp
    refine lv_ldc (v := (-1000001 : Int32)) hx hb S.2.2.2.1 (S.2.2.2.2 _ q_652) dX8_bufferOf_11 ?_
    exact e_i8 S hK h hr hlk dX8_bufferOf_13 (hp _ _ ⟨rfl, hc⟩)
  · rw [if_neg (fun q => q c_4)] at hp
    obtain ⟨i, -, hi2, rfl⟩ := rng_nat (a := 0) (b := 2) (by omega) (by omega) c_4
    rw [nI_clamp (show i < 2 ^ 31 by omega)] at hp
    have hi : i < 3 := by omega
    have hGi := hX.1 i hi
    obtain ⟨m1, m2, m3, m4, m5, m6, m7⟩ := hc.1.2.2 i hi
    obtain ⟨la, lb, lc, ld⟩ := hGi.1
    unfold cBuf at hp
    refine lv_iload_n hx hb dX8_bufferOf_7 rfl (lv_at hl 2 rfl) ?_
    refine lv_if_ge (tgt := 14) hx hb dX8_bufferOf_8 (by decide) (fun c_8 => ?_) (fun c_8 => ?_)
    · rw [if_neg (Int32.not_lt.mpr c_8)] at hp
      obtain ⟨n, hn, rfl⟩ := pos_nat (Int32.not_lt.mpr c_8)
      rw [nI_clamp hn] at hp
      refine lv_iload_n hx hb dX8_bufferOf_14 rfl (lv_at hl 2 rfl) ?_
      refine lv_aload_n hx hb dX8_bufferOf_15 rfl (lv_at hl 0 rfl) ?_
      refine lv_iload_n hx hb dX8_bufferOf_16 rfl (lv_at hl 1 rfl) ?_
      refine lv_iconst (v := (nI 1)) hx hb dX8_bufferOf_17 (by decide) ?_
      refine q_V18 S hI hK h [.int (nI i), .int (nI 1)] (c_X8_part l L σ (d := i) (q := 1) (by omega)) q_657 q_659 qs_13 q_10 q_660 yd_X8_part rfl ⟨⟨rfl, rfl⟩, ⟨(Nat.le_of_ble_eq_true rfl), (Nat.le_of_ble_eq_true rfl)⟩, Nat.le_refl _, Nat.le_refl _⟩ rfl (Nat.le_of_ble_eq_true rfl) hl.1 dX8_bufferOf_18 (fun H locs h => ?_)
      refine cv_i (show (σ 1 (2 + 1024 * i + 1) : Int32) = nI ((X.2.2 i).2.1.length) from m2) ?_
      refine b_icmp_ge (tgt := 37) hx hb dX8_bufferOf_21 (by decide) (by omega) (by omega) (fun c_21 => ?_) (fun c_21 => ?_)
      · rw [if_pos ((nI_leI (by omega) (by omega)).mpr c_21)] at hp
        refine lv_ldc (v := (-1000004 : Int32)) hx hb S.2.2.2.1 (S.2.2.2.2 _ q_741) dX8_bufferOf_37 ?_
        exact e_i8 S hK h hr hlk dX8_bufferOf_39 (hp _ _ ⟨rfl, hc⟩)
      · rw [if_neg (fun q => absurd ((nI_leI (by omega) (by omega)).mp q) (by omega))] at hp
        refine lv_aload_n hx hb dX8_bufferOf_24 rfl (lv_at hl 0 rfl) ?_
        refine lv_iload_n hx hb dX8_bufferOf_25 rfl (lv_at hl 1 rfl) ?_
        refine lv_sipush (v := (nI 804)) hx hb dX8_bufferOf_26 (by decide) ?_
        refine lv_iload_n hx hb dX8_bufferOf_29 rfl (lv_at hl 2 rfl) ?_
        refine a_iadd hx hb dX8_bufferOf_30 ?_
        refine q_V18 S hI hK h [.int (nI i), .int (nI (804 + n))] (c_X8_part l L σ (d := i) (q := 804 + n) (by omega)) q_657 q_659 qs_13 q_10 q_660 yd_X8_part rfl ⟨⟨rfl, rfl⟩, ⟨(Nat.le_of_ble_eq_true rfl), (Nat.le_of_ble_eq_true rfl)⟩, Nat.le_refl _, Nat.le_refl _⟩ rfl (Nat.le_of_ble_eq_true rfl) hl.1 dX8_bufferOf_31 (fun H locs h => ?_)
        refine cv_i (show (σ 1 (2 + 1024 * i + (804 + n)) : Int32) = (X.2.2 i).2.1.getD n 0 from (m6 n c_21)) ?_
        refine lv_goto (tgt := 39) hx hb dX8_bufferOf_34 (by decide) ?_
        exact e_i8 S hK h hr hlk dX8_bufferOf_39 (hp _ _ ⟨rfl, hc⟩)
    · rw [if_pos (Int32.not_le.mp c_8)] at hp
      refine lv_ldc (v := (-1000001 : Int32)) hx hb S.2.2.2.1 (S.2.2.2.2 _ q_652) dX8_bufferOf_11 ?_
      exact e_i8 S hK h hr hlk dX8_bufferOf_13 (hp _ _ ⟨rfl, hc⟩)
