abbrev rX8_character : Room := { frames := 0, cells := 0, slots := 0, locals := 0 }
theorem yd_X8_character : ydV yX8_character RX8 1 := ⟨rfl, by decide +kernel, by decide +kernel, by decide +kernel⟩
set_option maxHeartbeats 4000000 in
set_option maxRecDepth 100000 in
theorem c_X8_character (l : Launch) (L : Lay) (σ : Me) {t : List Int32} (hT : TX σ t) {p9 : Nat} (hp9 : p9 < 2 ^ 31) : Mf8 l L yX8_character (Cond.code yX8_character cX8_character 2 (some FieldType.int) :: qA) rX8_character [.ref (ad L 0), .int (nI p9)] σ (some (.int (ch8 t p9))) σ := by
  refine Mf8.ofW (by decide) (Nat.le_of_ble_eq_true rfl) ?_
  intro p e s m args below meth c ls post hp hI S hr hlk hK h hl
  have hx := S.1
  have hb := S.2.1
  have hl : lv_has ls 2 [(0, .ref (ad L 0)), (1, .int (nI p9))] := hl
  obtain ⟨t1, t2, t3⟩ := id hT
  unfold ch8 at hp
  refine lv_iload_n hx hb dX8_character_0 rfl (lv_at hl 1 rfl) ?_
  refine lv_aload_n hx hb dX8_character_1 rfl (lv_at hl 0 rfl) ?_
  refine g8 (v := (.int (σ 0 1))) S hK h 4 (by decide) rfl rfl q_600 dX8_character_2 ?_
  refine cv_i (show (σ 0 1 : Int32) = nI t.length from t1) ?_
  refine b_icmp_ge (tgt := 17) hx hb dX8_character_5 (by decide) (by omega) (by omega) (fun c_5 => ?_) (fun c_5 => ?_)
  · rw [if_neg (by omega)] at hp
    refine lv_iconst (v := (-1)) hx hb dX8_character_17 (by decide) ?_
    exact e_i8 S hK h hr hlk dX8_character_18 hp
  · rw [if_pos c_5] at hp
    refine lv_aload_n hx hb dX8_character_8 rfl (lv_at hl 0 rfl) ?_
    refine g8 (v := (.ref (ad L 3))) S hK h 3 (by decide) rfl rfl q_599 dX8_character_9 ?_
    refine lv_iload_n hx hb dX8_character_12 rfl (lv_at hl 1 rfl) ?_
    refine g8_el (n := 60) S hK h (by decide) rfl (by omega) dX8_character_13 ?_
    refine cv_i (show (σ 3 p9 : Int32) = t.getD p9 0 from (t3 _ c_5)) ?_
    refine lv_goto (tgt := 18) hx hb dX8_character_14 (by decide) ?_
    exact e_i8 S hK h hr hlk dX8_character_18 hp

abbrev rX8_takes : Room := { frames := 1, cells := 0, slots := 0, locals := 21 }
theorem yd_X8_takes : ydV yX8_takes RX8 1 := ⟨rfl, by decide +kernel, by decide +kernel, by decide +kernel⟩
set_option maxHeartbeats 4000000 in
set_option maxRecDepth 100000 in
theorem c_X8_takes (l : Launch) (L : Lay) (σ : Me) {t : List Int32} (hT : TX σ t) {e9 : Nat} (ha : σ 0 3 = nI e9) (he : e9 ≤ 1000) (x : Int32) : Mf8 l L yX8_takes (Cond.code yX8_takes cX8_takes 3 (some FieldType.boolean) :: qA) rX8_takes [.ref (ad L 0), .int x] σ (some (.int (if ch8 t e9 = x then 1 else 0))) (mu σ 0 3 (nI (if ch8 t e9 = x then e9 + 1 else e9))) := by
  refine Mf8.ofW (by decide) (Nat.le_of_ble_eq_true rfl) ?_
  intro p e s m args below meth c ls post hp hI S hr hlk hK h hl
  have hx := S.1
  have hb := S.2.1
  have hl : lv_has ls 3 [(0, .ref (ad L 0)), (1, .int x)] := hl
  refine lv_aload_n hx hb dX8_takes_0 rfl (lv_at hl 0 rfl) ?_
  refine lv_aload_n hx hb dX8_takes_1 rfl (lv_at hl 0 rfl) ?_
  refine g8 (v := (.int (σ 0 3))) S hK h 11 (by decide) rfl rfl q_607 dX8_takes_2 ?_
  refine cv_i (show (σ 0 3 : Int32) = nI e9 from ha) ?_
  refine q_V18 S hI hK h [.int (nI e9)] (c_X8_character l L σ hT (p9 := e9) (by omega)) q_854 q_856 qs_41 q_10 q_857 yd_X8_character rfl ⟨⟨rfl, rfl⟩, ⟨(Nat.le_of_ble_eq_true rfl), (Nat.le_of_ble_eq_true rfl)⟩, Nat.le_refl _, Nat.le_refl _⟩ rfl (Nat.le_of_ble_eq_true rfl) hl.1 dX8_takes_5 (fun H locs h => ?_)
  refine lv_iload_n hx hb dX8_takes_8 rfl (lv_at hl 1 rfl) ?_
  refine lv_icmp_ne (tgt := 16) hx hb dX8_takes_9 (by decide) (fun c_9 => ?_) (fun c_9 => ?_)
  · rw [if_neg c_9, if_neg c_9] at hp
    refine lv_iconst (v := (nI 0)) hx hb dX8_takes_16 (by decide) ?_
    refine lv_istore_n (lv' := [(2, .int (nI 0)), (0, .ref (ad L 0)), (1, .int x)]) hx hb dX8_takes_17 rfl hl (by decide) rfl (fun ls hl => ?_)
    refine lv_aload_n hx hb dX8_takes_18 rfl (lv_at hl 1 rfl) ?_
    refine lv_dup hx hb dX8_takes_19 rfl ?_
    refine g8 (v := (.int (σ 0 3))) S hK h 11 (by decide) rfl rfl q_607 dX8_takes_20 ?_
    refine cv_i (show (σ 0 3 : Int32) = nI e9 from ha) ?_
    refine lv_iload_n hx hb dX8_takes_23 rfl (lv_at hl 0 rfl) ?_
    refine b_if_eq (tgt := 31) hx hb dX8_takes_24 (by decide) (by decide) (fun _ => ?_) (fun c9 => absurd c9 (by decide))
    refine lv_iconst (v := (nI 0)) hx hb dX8_takes_31 (by decide) ?_
    refine a_iadd hx hb dX8_takes_32 ?_
    refine p8 3 11 S hI hK h (by decide) rfl (fun _ => rfl) q_607 dX8_takes_33 (fun H locs h => ?_)
    refine lv_iload_n hx hb dX8_takes_36 rfl (lv_at hl 0 rfl) ?_
    exact e_z8 S hK h hr hlk (Or.inl rfl) dX8_takes_37 hp
  · have c9 := c_9
    rw [if_pos c9, if_pos c9] at hp
    refine lv_iconst (v := (nI 1)) hx hb dX8_takes_12 (by decide) ?_
    refine lv_goto (tgt := 17) hx hb dX8_takes_13 (by decide) ?_
    refine lv_istore_n (lv' := [(2, .int (nI 1)), (0, .ref (ad L 0)), (1, .int x)]) hx hb dX8_takes_17 rfl hl (by decide) rfl (fun ls hl => ?_)
    refine lv_aload_n hx hb dX8_takes_18 rfl (lv_at hl 1 rfl) ?_
    refine lv_dup hx hb dX8_takes_19 rfl ?_
    refine g8 (v := (.int (σ 0 3))) S hK h 11 (by decide) rfl rfl q_607 dX8_takes_20 ?_
    refine cv_i (show (σ 0 3 : Int32) = nI e9 from ha) ?_
    refine lv_iload_n hx hb dX8_takes_23 rfl (lv_at hl 0 rfl) ?_
    refine b_if_eq (tgt := 31) hx hb dX8_takes_24 (by decide) (by decide) (fun c9 => absurd c9 (by decide)) (fun _ => ?_)
    refine lv_iconst (v := (nI 1)) hx hb dX8_takes_27 (by decide) ?_
    refine lv_goto (tgt := 32) hx hb dX8_takes_28 (by decide) ?_
    refine a_iadd hx hb dX8_takes_32 ?_
    refine p8 3 11 S hI hK h (by decide) rfl (fun _ => rfl) q_607 dX8_takes_33 (fun H locs h => ?_)
    refine lv_iload_n hx hb dX8_takes_36 rfl (lv_at hl 0 rfl) ?_
    exact e_z8 S hK h hr hlk (Or.inr rfl) dX8_takes_37 hp

abbrev rX8_takeNumber : Room := { frames := 1, cells := 0, slots := 0, locals := 22 }
theorem yd_X8_takeNumber : ydV yX8_takeNumber RX8 1 := ⟨rfl, by decide +kernel, by decide +kernel, by decide +kernel⟩
set_option maxHeartbeats 4000000 in
set_option maxRecDepth 100000 in
theorem c_X8_takeNumber (l : Launch) (L : Lay) (σ : Me) {t : List Int32} (hT : TX σ t) {e9 d9 : Nat} (ha : σ 0 3 = nI e9) (he : e9 ≤ 1000) (hd : d9 ≤ 4) : Mf8 l L yX8_takeNumber (Cond.code yX8_takeNumber cX8_takeNumber 4 (some FieldType.int) :: qA) rX8_takeNumber [.ref (ad L 0), .int (nI d9)] σ (some (.int (nv8 (rv t d9 (nI 0) 0 e9).1 (rv t d9 (nI 0) 0 e9).2.1))) (mu σ 0 3 (nI (rv t d9 (nI 0) 0 e9).2.2)) := by
  refine Mf8.ofW (by decide) (Nat.le_of_ble_eq_true rfl) ?_
  intro p e s m args below meth c ls post hp hI S hr hlk hK h hl
  have hx := S.1
  have hb := S.2.1
  have hl : lv_has ls 4 [(0, .ref (ad L 0)), (1, .int (nI d9))] := hl
  refine lv_iconst (v := (-1)) hx hb dX8_takeNumber_0 (by decide) ?_
  refine cv_i (show ((-1) : Int32) = nv8 (nI 0) 0 from rfl) ?_
  refine lv_istore_n (lv' := [(2, .int (nv8 (nI 0) 0)), (0, .ref (ad L 0)), (1, .int (nI d9))]) hx hb dX8_takeNumber_1 rfl hl (by decide) rfl (fun ls hl => ?_)
  refine lv_iconst (v := (nI 0)) hx hb dX8_takeNumber_2 (by decide) ?_
  refine lv_istore_n (lv' := [(3, .int (nI 0)), (2, .int (nv8 (nI 0) 0)), (0, .ref (ad L 0)), (1, .int (nI d9))]) hx hb dX8_takeNumber_3 rfl hl (by decide) rfl (fun ls hl => ?_)
  have LP_4 : ∀ (n_4 : Nat) (g : Nat) (n : Nat) (v : Int32) (e1 : Nat) (σ1 : Me), (g + n = d9) → (e1 ≤ e9 + g) → (σ1 = mu σ 0 3 (nI e1)) → (sm8 v g) → (g = 0 → v = nI 0) → (rv t d9 (nI 0) 0 e9 = rv t n v g e1) → n < n_4 → ∀ (H : Heap) (locs : List Loc) (ls : Array Slot), Hd8 L s.heap H σ1 locs → lv_has ls 4 [(3, .int (nI g)), (2, .int (nv8 v g)), (1, .int (nI d9)), (0, .ref (ad L 0))] → W p l e rX8_takeNumber s m args below meth c H locs 0 0 (MQ below (Qg post (bs8 L) (Aw8 L)) args s 0 0 (Aw8 L)) (F0 m 4 ls []) := by
    intro n_4
    induction n_4 with
    | zero => intro g n v e1 σ1; intros; omega
    | succ n_4 ih_4 =>
      intro g n v e1 σ1 hg he1 hσ hs hv0 hr9 hm_4 H locs ls h hl
      have a1 : σ1 0 3 = nI e1 := by rw [hσ, mu_s]
      have hT1 : TX σ1 t := ⟨by rw [hσ, mu_i (by omega)]; exact hT.1, hT.2.1, fun i hi => by rw [hσ, mu_k (by omega)]; exact hT.2.2 i hi⟩
      refine lv_iload_n hx hb dX8_takeNumber_4 rfl (lv_at hl 0 rfl) ?_
      refine lv_iload_n hx hb dX8_takeNumber_5 rfl (lv_at hl 2 rfl) ?_
      refine b_icmp_ge (tgt := 68) hx hb dX8_takeNumber_6 (by decide) (by omega) (by omega) (fun c_6 => ?_) (fun c_6 => ?_)
      · have hf9 : rv t d9 (nI 0) 0 e9 = (v, g, e1) := by rw [hr9, show n = 0 by omega]; rfl
        refine lv_iload_n hx hb dX8_takeNumber_68 rfl (lv_at hl 1 rfl) ?_
        exact e_i8 S hK h hr hlk dX8_takeNumber_69 (fin_p8 hp (by rw [hf9]) (by rw [hσ, hf9]))
      · obtain ⟨n1, rfl⟩ : ∃ n1, n = n1 + 1 := ⟨n - 1, by omega⟩
        refine lv_aload_n hx hb dX8_takeNumber_9 rfl (lv_at hl 3 rfl) ?_
        refine lv_aload_n hx hb dX8_takeNumber_10 rfl (lv_at hl 3 rfl) ?_
        refine g8 (v := (.int (σ1 0 3))) S hK h 11 (by decide) rfl rfl q_607 dX8_takeNumber_11 ?_
        refine cv_i (show (σ1 0 3 : Int32) = nI e1 from a1) ?_
        refine q_V18 S hI hK h [.int (nI e1)] (c_X8_character l L σ1 hT1 (p9 := e1) (by omega)) q_854 q_856 qs_41 q_10 q_857 yd_X8_character rfl ⟨⟨rfl, rfl⟩, ⟨(Nat.le_of_ble_eq_true rfl), (Nat.le_of_ble_eq_true rfl)⟩, Nat.le_refl _, Nat.le_refl _⟩ rfl (Nat.le_of_ble_eq_true rfl) hl.1 dX8_takeNumber_14 (fun H locs h => ?_)
        refine lv_bipush (v := (nI 48)) hx hb dX8_takeNumber_17 (by decide) ?_
        refine lv_bipush (v := (nI 57)) hx hb dX8_takeNumber_19 (by decide) ?_
        refine q_S18 S hI hK h [.int (ch8 t e1), .int (nI 48), .int (nI 57)] (c_X8_within l L σ1 (ch8 t e1) (nI 48) (nI 57)) q_649 q_650 q_10 q_651 yd_X8_within rfl ⟨⟨rfl, rfl⟩, ⟨(Nat.le_of_ble_eq_true rfl), (Nat.le_of_ble_eq_true rfl)⟩, Nat.le_refl _, Nat.le_refl _⟩ rfl (Nat.le_of_ble_eq_true rfl) hl.1 dX8_takeNumber_21 (fun H locs h => ?_)
        refine z_eq (tgt := 68) hx hb dX8_takeNumber_24 (by decide) (fun c_24 => ?_) (fun c_24 => ?_)
        · have hf9 : rv t d9 (nI 0) 0 e9 = (v, g, e1) := by rw [hr9, rv_0 (fun z => c_24 (ch8_dg.mpr z))]
          refine lv_iload_n hx hb dX8_takeNumber_68 rfl (lv_at hl 1 rfl) ?_
          exact e_i8 S hK h hr hlk dX8_takeNumber_69 (fin_p8 hp (by rw [hf9]) (by rw [hσ, hf9]))
        · have hd0 := ch8_dg.mp c_24
          have hcd := ch8_d hd0
          refine lv_iload_n hx hb dX8_takeNumber_27 rfl (lv_at hl 1 rfl) ?_
          refine lv_if_ge (tgt := 35) hx hb dX8_takeNumber_28 (by decide) (fun c_28 => ?_) (fun c_28 => ?_)
          · have hx8 := nx_ge hs (by omega) c_28
            refine lv_bipush (v := (nI 10)) hx hb dX8_takeNumber_35 (by decide) ?_
            refine lv_iload_n hx hb dX8_takeNumber_37 rfl (lv_at hl 1 rfl) ?_
            refine lv_imul hx hb dX8_takeNumber_38 ?_
            refine cv_i (show ((nI 10) * (nv8 v g) : Int32) = v * nI 10 from hx8) ?_
            refine lv_aload_n hx hb dX8_takeNumber_39 rfl (lv_at hl 3 rfl) ?_
            refine lv_aload_n hx hb dX8_takeNumber_40 rfl (lv_at hl 3 rfl) ?_
            refine g8 (v := (.int (σ1 0 3))) S hK h 11 (by decide) rfl rfl q_607 dX8_takeNumber_41 ?_
            refine cv_i (show (σ1 0 3 : Int32) = nI e1 from a1) ?_
            refine q_V18 S hI hK h [.int (nI e1)] (c_X8_character l L σ1 hT1 (p9 := e1) (by omega)) q_854 q_856 qs_41 q_10 q_857 yd_X8_character rfl ⟨⟨rfl, rfl⟩, ⟨(Nat.le_of_ble_eq_true rfl), (Nat.le_of_ble_eq_true rfl)⟩, Nat.le_refl _, Nat.le_refl _⟩ rfl (Nat.le_of_ble_eq_true rfl) hl.1 dX8_takeNumber_44 (fun H locs h => ?_)
            refine lv_iadd hx hb dX8_takeNumber_47 ?_
            refine lv_bipush (v := (nI 48)) hx hb dX8_takeNumber_48 (by decide) ?_
            refine lv_isub hx hb dX8_takeNumber_50 ?_
            refine cv_i (show (((v * nI 10) + (ch8 t e1)) - (nI 48) : Int32) = nv8 (v * nI 10 + dgAt t e1) (g + 1) from (nx_fin hcd)) ?_
            refine lv_istore_n (lv' := [(2, .int (nv8 (v * nI 10 + dgAt t e1) (g + 1))), (3, .int (nI g)), (1, .int (nI d9)), (0, .ref (ad L 0))]) hx hb dX8_takeNumber_51 rfl hl (by decide) rfl (fun ls hl => ?_)
            refine lv_aload_n hx hb dX8_takeNumber_52 rfl (lv_at hl 3 rfl) ?_
            refine lv_dup hx hb dX8_takeNumber_53 rfl ?_
            refine g8 (v := (.int (σ1 0 3))) S hK h 11 (by decide) rfl rfl q_607 dX8_takeNumber_54 ?_
            refine cv_i (show (σ1 0 3 : Int32) = nI e1 from a1) ?_
            refine lv_iconst (v := (nI 1)) hx hb dX8_takeNumber_57 (by decide) ?_
            refine a_iadd hx hb dX8_takeNumber_58 ?_
            refine p8 3 11 S hI hK h (by decide) rfl (fun _ => rfl) q_607 dX8_takeNumber_59 (fun H locs h => ?_)
            refine lv_iinc (v := (nI (g + 1))) (lv' := [(3, .int (nI (g + 1))), (2, .int (nv8 (v * nI 10 + dgAt t e1) (g + 1))), (1, .int (nI d9)), (0, .ref (ad L 0))]) hx hb dX8_takeNumber_62 hl (k := 1) rfl (iinc_1 _) (by decide) rfl (fun ls hl => ?_)
            refine lv_goto (tgt := 4) hx hb dX8_takeNumber_65 (by decide) ?_
            exact ih_4 (g + 1) n1 (v * nI 10 + dgAt t e1) (e1 + 1) (mu σ1 0 3 (nI (e1 + 1))) (by omega) (by omega) (by rw [hσ, mu_mu]) (sm8_1 hs hd0) (fun z => absurd z (by omega)) (by rw [hr9, rv_1 hd0]) (by omega) _ _ _ h (lv_sub hl [0, 1, 2, 3] rfl)
          · have hx8 := nx_lt hs hv0 (by omega) c_28
            refine lv_iconst (v := (nI 0)) hx hb dX8_takeNumber_31 (by decide) ?_
            refine lv_goto (tgt := 39) hx hb dX8_takeNumber_32 (by decide) ?_
            refine cv_i (show (nI 0 : Int32) = v * nI 10 from hx8) ?_
            refine lv_aload_n hx hb dX8_takeNumber_39 rfl (lv_at hl 3 rfl) ?_
            refine lv_aload_n hx hb dX8_takeNumber_40 rfl (lv_at hl 3 rfl) ?_
            refine g8 (v := (.int (σ1 0 3))) S hK h 11 (by decide) rfl rfl q_607 dX8_takeNumber_41 ?_
            refine cv_i (show (σ1 0 3 : Int32) = nI e1 from a1) ?_
            refine q_V18 S hI hK h [.int (nI e1)] (c_X8_character l L σ1 hT1 (p9 := e1) (by omega)) q_854 q_856 qs_41 q_10 q_857 yd_X8_character rfl ⟨⟨rfl, rfl⟩, ⟨(Nat.le_of_ble_eq_true rfl), (Nat.le_of_ble_eq_true rfl)⟩, Nat.le_refl _, Nat.le_refl _⟩ rfl (Nat.le_of_ble_eq_true rfl) hl.1 dX8_takeNumber_44 (fun H locs h => ?_)
            refine lv_iadd hx hb dX8_takeNumber_47 ?_
            refine lv_bipush (v := (nI 48)) hx hb dX8_takeNumber_48 (by decide) ?_
            refine lv_isub hx hb dX8_takeNumber_50 ?_
            refine cv_i (show (((v * nI 10) + (ch8 t e1)) - (nI 48) : Int32) = nv8 (v * nI 10 + dgAt t e1) (g + 1) from (nx_fin hcd)) ?_
            refine lv_istore_n (lv' := [(2, .int (nv8 (v * nI 10 + dgAt t e1) (g + 1))), (3, .int (nI g)), (1, .int (nI d9)), (0, .ref (ad L 0))]) hx hb dX8_takeNumber_51 rfl hl (by decide) rfl (fun ls hl => ?_)
            refine lv_aload_n hx hb dX8_takeNumber_52 rfl (lv_at hl 3 rfl) ?_
            refine lv_dup hx hb dX8_takeNumber_53 rfl ?_
            refine g8 (v := (.int (σ1 0 3))) S hK h 11 (by decide) rfl rfl q_607 dX8_takeNumber_54 ?_
            refine cv_i (show (σ1 0 3 : Int32) = nI e1 from a1) ?_
            refine lv_iconst (v := (nI 1)) hx hb dX8_takeNumber_57 (by decide) ?_
            refine a_iadd hx hb dX8_takeNumber_58 ?_
            refine p8 3 11 S hI hK h (by decide) rfl (fun _ => rfl) q_607 dX8_takeNumber_59 (fun H locs h => ?_)
            refine lv_iinc (v := (nI (g + 1))) (lv' := [(3, .int (nI (g + 1))), (2, .int (nv8 (v * nI 10 + dgAt t e1) (g + 1))), (1, .int (nI d9)), (0, .ref (ad L 0))]) hx hb dX8_takeNumber_62 hl (k := 1) rfl (iinc_1 _) (by decide) rfl (fun ls hl => ?_)
            refine lv_goto (tgt := 4) hx hb dX8_takeNumber_65 (by decide) ?_
            exact ih_4 (g + 1) n1 (v * nI 10 + dgAt t e1) (e1 + 1) (mu σ1 0 3 (nI (e1 + 1))) (by omega) (by omega) (by rw [hσ, mu_mu]) (sm8_1 hs hd0) (fun z => absurd z (by omega)) (by rw [hr9, rv_1 hd0]) (by omega) _ _ _ h (lv_sub hl [0, 1, 2, 3] rfl)
  exact LP_4 _ 0 d9 (nI 0) e9 σ (by omega) (by omega) (mu_id ha).symm sm8_0 (fun _ => rfl) rfl (Nat.lt_succ_self _) _ _ _ h (lv_sub hl [0, 1, 3, 2] rfl)
