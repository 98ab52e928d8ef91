abbrev rX8_findFault : Room := { frames := 3, cells := 0, slots := 0, locals := 70 }
theorem yd_X8_findFault : ydV yX8_findFault RX8 0 := ⟨rfl, by decide +kernel, by decide +kernel, by decide +kernel⟩
set_option maxHeartbeats 4000000 in
set_option maxRecDepth 100000 in
theorem c_X8_findFault (l : Launch) (L : Lay) (σ : Me) {X : SS} {hh : List SS} {t : List Int32} (hc : MC σ X hh t) (hX : GX X) : Mg8 l L yX8_findFault (Cond.code yX8_findFault cX8_findFault 3 (some FieldType.int) :: qA) rX8_findFault [.ref (ad L 0)] σ (fun r u => r = some (.int (fauW (faultOf t X) 0)) ∧ MC u X hh t ∧ FO u (faultOf t X)) := by
  refine Mr8_ofW (by decide) (Nat.le_of_ble_eq_true rfl) ?_
  intro p e s m args below meth c ls post hp hI S hr hlk hK h hl
  have hx := S.1
  have hb := S.2.1
  have hl : lv_has ls 3 [(0, .ref (ad L 0))] := hl
  refine lv_aload_n hx hb dX8_findFault_0 rfl (lv_at hl 0 rfl) ?_
  refine lv_iconst (v := (nI 0)) hx hb dX8_findFault_1 (by decide) ?_
  refine p8 3 11 S hI hK h (by decide) rfl (fun _ => rfl) q_607 dX8_findFault_2 (fun H locs h => ?_)
  refine lv_iconst (v := (nI 0)) hx hb dX8_findFault_5 (by decide) ?_
  refine lv_istore_n (lv' := [(1, .int (nI 0)), (0, .ref (ad L 0))]) hx hb dX8_findFault_6 rfl hl (by decide) rfl (fun ls hl => ?_)
  have LP_7 : ∀ (n_7 : Nat) (k : Nat) (σ1 : Me), (k ≤ 3) → (MC σ1 X hh t) → (σ1 0 3 = nI 0) → (∀ j, j < k → σ1 9 j = (Wof X).getD j 0) → 3 - k < n_7 → ∀ (H : Heap) (locs : List Loc) (ls : Array Slot), Hd8 L s.heap H σ1 locs → lv_has ls 3 [(1, .int (nI k)), (0, .ref (ad L 0))] → W p l e rX8_findFault s m args below meth c H locs 0 0 (MQ below (Qg post (bs8 L) (Aw8 L)) args s 0 0 (Aw8 L)) (F0 m 7 ls []) := by
    intro n_7
    induction n_7 with
    | zero => intro k σ1; intros; omega
    | succ n_7 ih_7 =>
      intro k σ1 hk hc1 a1 hw hm_7 H locs ls h hl
      refine lv_iload_n hx hb dX8_findFault_7 rfl (lv_at hl 0 rfl) ?_
      refine lv_iconst (v := (nI 3)) hx hb dX8_findFault_8 (by decide) ?_
      refine b_icmp_ge (tgt := 29) hx hb dX8_findFault_9 (by decide) (by omega) (by omega) (fun c_9 => ?_) (fun c_9 => ?_)
      · have LP_29 : ∀ (n_29 : Nat) (n : Nat) (s9 : Nat) (W9 : List Int32) (σ2 : Me), (MC σ2 X hh t) → (σ2 0 3 = nI s9) → (∀ j, j < 3 → σ2 9 j = W9.getD j 0) → (W9.length = 3) → (faultOf t X = ff t n s9 W9) → (60 ≤ s9 + n) → (s9 ≤ 400) → n < n_29 → ∀ (H : Heap) (locs : List Loc) (ls : Array Slot), Hd8 L s.heap H σ2 locs → lv_has ls 3 [(0, .ref (ad L 0))] → W p l e rX8_findFault s m args below meth c H locs 0 0 (MQ below (Qg post (bs8 L) (Aw8 L)) args s 0 0 (Aw8 L)) (F0 m 29 ls []) := by
          intro n_29
          induction n_29 with
          | zero => intro n s9 W9 σ2; intros; omega
          | succ n_29 ih_29 =>
            intro n s9 W9 σ2 hc2 a2 hW hWl hf h4 h5 hm_29 H locs ls h hl
            obtain ⟨b1, b2, b3, b4⟩ := MC_lh hc2
            refine lv_aload_n hx hb dX8_findFault_29 rfl (lv_at hl 0 rfl) ?_
            refine g8 (v := (.int (σ2 0 3))) S hK h 11 (by decide) rfl rfl q_607 dX8_findFault_30 ?_
            refine cv_i (show (σ2 0 3 : Int32) = nI s9 from a2) ?_
            refine lv_aload_n hx hb dX8_findFault_33 rfl (lv_at hl 0 rfl) ?_
            refine g8 (v := (.int (σ2 0 1))) S hK h 4 (by decide) rfl rfl q_600 dX8_findFault_34 ?_
            refine cv_i (show (σ2 0 1 : Int32) = nI t.length from b3) ?_
            refine b_icmp_ge (tgt := 122) hx hb dX8_findFault_37 (by decide) (by omega) (by omega) (fun c_37 => ?_) (fun c_37 => ?_)
            · have hff : faultOf t X = none := by rw [hf, ff_no (by omega)]
              refine lv_ldc (v := (-1000004 : Int32)) hx hb S.2.2.2.1 (S.2.2.2.2 _ q_741) dX8_findFault_122 ?_
              exact e_i8 S hK h hr hlk dX8_findFault_124 (hp _ _ ⟨by rw [hff]; rfl, hc2, by rw [hff]; trivial⟩)
            · obtain ⟨n1, rfl⟩ : ∃ n1, n = n1 + 1 := ⟨n - 1, by omega⟩
              have hre := (rF_e (t := t) (s := s9)).1
              refine lv_aload_n hx hb dX8_findFault_40 rfl (lv_at hl 0 rfl) ?_
              refine g8 (v := (.int (σ2 0 3))) S hK h 11 (by decide) rfl rfl q_607 dX8_findFault_41 ?_
              refine cv_i (show (σ2 0 3 : Int32) = nI s9 from a2) ?_
              refine lv_istore_n (lv' := [(1, .int (nI s9)), (0, .ref (ad L 0))]) hx hb dX8_findFault_44 rfl hl (by decide) rfl (fun ls hl => ?_)
              refine lv_aload_n hx hb dX8_findFault_45 rfl (lv_at hl 1 rfl) ?_
              refine lv_iconst (v := (nI 0)) hx hb dX8_findFault_46 (by decide) ?_
              refine q_V18 S hI hK h [.int (nI 0)] (c_X8_readsPart l L σ2 (MC_T hc2) a2 (by omega)) q_846 q_848 qs_39 q_10 q_849 yd_X8_readsPart rfl ⟨⟨rfl, rfl⟩, ⟨(Nat.le_of_ble_eq_true rfl), (Nat.le_of_ble_eq_true rfl)⟩, Nat.le_refl _, Nat.le_refl _⟩ rfl (Nat.le_of_ble_eq_true rfl) hl.1 dX8_findFault_47 (fun H locs h => ?_)
              obtain ⟨σ3, e_σ3⟩ : ∃ z : Me, z = mu (wd8 σ2 (rF t s9).2.1.toNatClampNeg (rF t s9).2.2.1.length) 0 3 (nI (rF t s9).2.2.2) := ⟨_, rfl⟩
              have h := h.to e_σ3.symm
              have hc3 : MC σ3 X hh t := by rw [e_σ3]; exact MC_at (MC_wd hc2) (by omega)
              have a3 : σ3 0 3 = nI (rF t s9).2.2.2 := by rw [e_σ3, mu_s]
              refine lv_istore_n (lv' := [(2, .int (rdA t s9)), (1, .int (nI s9)), (0, .ref (ad L 0))]) hx hb dX8_findFault_50 rfl hl (by decide) rfl (fun ls hl => ?_)
              refine lv_aload_n hx hb dX8_findFault_51 rfl (lv_at hl 2 rfl) ?_
              refine lv_iload_n hx hb dX8_findFault_52 rfl (lv_at hl 0 rfl) ?_
              refine lv_if_ge (tgt := 65) hx hb dX8_findFault_53 (by decide) (fun c_53 => ?_) (fun c_53 => ?_)
              · obtain ⟨p1, i, p2, p3, p4⟩ := rdA_pos c_53
                have hcl : (rF t s9).2.1.toNatClampNeg = i := by rw [p4, nI_clamp (by omega)]
                have hgt := rF_gt p1
                refine lv_ldc (v := (-1000004 : Int32)) hx hb S.2.2.2.1 (S.2.2.2.2 _ q_741) dX8_findFault_65 ?_
                refine p8 5 13 S hI hK h (by decide) rfl (fun _ => rfl) q_609 dX8_findFault_67 (fun H locs h => ?_)
                refine lv_aload_n hx hb dX8_findFault_70 rfl (lv_at hl 2 rfl) ?_
                refine lv_iload_n hx hb dX8_findFault_71 rfl (lv_at hl 0 rfl) ?_
                refine lv_if_ge (tgt := 79) hx hb dX8_findFault_72 (by decide) (fun c_72 => ?_) (fun c_72 => absurd c_72 (fun z => z c_53))
                refine lv_iload_n hx hb dX8_findFault_79 rfl (lv_at hl 0 rfl) ?_
                refine cv_i (show (rdA t s9 : Int32) = nI i from p3) ?_
                refine q_S18 S hI hK h [.int (nI i)] (c_X8_isDigest l L (mu σ3 0 5 (-1000004 : Int32)) (nI i)) q_646 q_647 q_10 q_648 yd_X8_isDigest rfl ⟨⟨rfl, rfl⟩, ⟨(Nat.le_of_ble_eq_true rfl), (Nat.le_of_ble_eq_true rfl)⟩, Nat.le_refl _, Nat.le_refl _⟩ rfl (Nat.le_of_ble_eq_true rfl) hl.1 dX8_findFault_80 (fun H locs h => ?_)
                refine z_ne (tgt := 90) hx hb dX8_findFault_83 (by decide) (fun c_83 => ?_) (fun c_83 => ?_)
                · have hi3 : i < 3 := by have q9 := (nI_leI (by omega) (by omega)).mp c_83.2; omega
                  refine lv_aload_n hx hb dX8_findFault_90 rfl (lv_at hl 2 rfl) ?_
                  refine g8 (v := (.ref (ad L 9))) S hK h 14 (by decide) rfl rfl q_610 dX8_findFault_91 ?_
                  refine lv_iload_n hx hb dX8_findFault_94 rfl (lv_at hl 0 rfl) ?_
                  refine cv_i (show (rdA t s9 : Int32) = nI i from p3) ?_
                  refine g8_el (n := 3) S hK h (by decide) rfl (by omega) dX8_findFault_95 ?_
                  refine cv_i (show ((mu σ3 0 5 (-1000004 : Int32)) 9 i : Int32) = W9.getD i 0 + nI (rF t s9).2.2.1.length from (by rw [mu_k (by omega), e_σ3, hcl, wd_i hi3, hW i hi3])) ?_
                  refine lv_sipush (v := (nI 200)) hx hb dX8_findFault_96 (by decide) ?_
                  refine lv_icmp_le (tgt := 106) hx hb dX8_findFault_99 (by decide) (fun c_99 => ?_) (fun c_99 => ?_)
                  · have hz : rO W9 (rF t s9) = 0 := by rw [rO_b p1 p4 hi3, if_neg (Int32.not_lt.mpr c_99)]
                    refine lv_iconst (v := (nI 0)) hx hb dX8_findFault_106 (by decide) ?_
                    refine p8 4 12 S hI hK h (by decide) rfl (fun _ => rfl) q_608 dX8_findFault_107 (fun H locs h => ?_)
                    refine lv_aload_n hx hb dX8_findFault_110 rfl (lv_at hl 2 rfl) ?_
                    refine g8 (v := (.int ((mu (mu σ3 0 5 (-1000004 : Int32)) 0 4 (nI 0)) 0 4))) S hK h 12 (by decide) rfl rfl q_608 dX8_findFault_111 ?_
                    refine cv_i (show ((mu (mu σ3 0 5 (-1000004 : Int32)) 0 4 (nI 0)) 0 4 : Int32) = nI 0 from mu_s) ?_
                    refine b_if_le (tgt := 119) hx hb dX8_findFault_114 (by decide) (by decide) (fun _ => ?_) (fun c9 => absurd c9 (by decide))
                    refine lv_goto (tgt := 29) hx hb dX8_findFault_119 (by decide) ?_
                    exact ih_29 n1 ((rF t s9).2.2.2) (rW W9 (rF t s9)) (mu (mu σ3 0 5 (-1000004 : Int32)) 0 4 (nI 0)) (MC_at (MC_at hc3 (by omega)) (by omega)) (by rw [mu_i (by omega), mu_i (by omega)]; exact a3) (by rw [mu_r (by omega), mu_r (by omega), e_σ3, hcl, rW_z hz p4 hi3]; exact wd_W hW hWl hi3) (by rw [rW_z hz p4 hi3, List.length_set]; exact hWl) (by rw [hf, ff_st c_37 hz]) (by omega) (by omega) (by omega) _ _ _ h (lv_sub hl [2] rfl)
                  · have hff : faultOf t X = some (s9, 3, nI (rF t s9).2.2.2 - nI s9) := by rw [hf, ff_so c_37 (show rO W9 (rF t s9) = 3 by rw [rO_b p1 p4 hi3, if_pos (Int32.not_le.mp c_99)]) (by decide)]
                    have hca : (mu (mu σ3 0 5 (-1000004)) 0 4 (nI 3)) 0 5 = (if 3 = 1 then nI (rF t s9).2.2.2 - nI s9 else cNF) := by rw [mu_i (by omega), mu_s, if_neg (by decide)]
                    refine lv_iconst (v := (nI 3)) hx hb dX8_findFault_102 (by decide) ?_
                    refine lv_goto (tgt := 107) hx hb dX8_findFault_103 (by decide) ?_
                    refine p8 4 12 S hI hK h (by decide) rfl (fun _ => rfl) q_608 dX8_findFault_107 (fun H locs h => ?_)
                    refine lv_aload_n hx hb dX8_findFault_110 rfl (lv_at hl 2 rfl) ?_
                    refine g8 (v := (.int ((mu (mu σ3 0 5 (-1000004 : Int32)) 0 4 (nI 3)) 0 4))) S hK h 12 (by decide) rfl rfl q_608 dX8_findFault_111 ?_
                    refine cv_i (show ((mu (mu σ3 0 5 (-1000004 : Int32)) 0 4 (nI 3)) 0 4 : Int32) = nI 3 from mu_s) ?_
                    refine b_if_le (tgt := 119) hx hb dX8_findFault_114 (by decide) (by decide) (fun c9 => absurd c9 (by decide)) (fun _ => ?_)
                    refine lv_iload_n hx hb dX8_findFault_117 rfl (lv_at hl 1 rfl) ?_
                    exact e_i8 S hK h hr hlk dX8_findFault_118 (hp _ _ ⟨by rw [hff]; rfl, MC_at (MC_at hc3 (by omega)) (by omega), by rw [hff]; exact ⟨mu_s, hca⟩⟩)
                · have hff : faultOf t X = some (s9, 2, nI (rF t s9).2.2.2 - nI s9) := by rw [hf, ff_so c_37 (rO_o p1 p4 (fun z => c_83 ⟨(nI_leI (by omega) (by omega)).mpr (by omega), (nI_leI (by omega) (by omega)).mpr (by omega)⟩) p2) (by decide)]
                  have hca : (mu (mu σ3 0 5 (-1000004)) 0 4 (nI 2)) 0 5 = (if 2 = 1 then nI (rF t s9).2.2.2 - nI s9 else cNF) := by rw [mu_i (by omega), mu_s, if_neg (by decide)]
                  refine lv_iconst (v := (nI 2)) hx hb dX8_findFault_86 (by decide) ?_
                  refine lv_goto (tgt := 107) hx hb dX8_findFault_87 (by decide) ?_
                  refine p8 4 12 S hI hK h (by decide) rfl (fun _ => rfl) q_608 dX8_findFault_107 (fun H locs h => ?_)
                  refine lv_aload_n hx hb dX8_findFault_110 rfl (lv_at hl 2 rfl) ?_
                  refine g8 (v := (.int ((mu (mu σ3 0 5 (-1000004 : Int32)) 0 4 (nI 2)) 0 4))) S hK h 12 (by decide) rfl rfl q_608 dX8_findFault_111 ?_
                  refine cv_i (show ((mu (mu σ3 0 5 (-1000004 : Int32)) 0 4 (nI 2)) 0 4 : Int32) = nI 2 from mu_s) ?_
                  refine b_if_le (tgt := 119) hx hb dX8_findFault_114 (by decide) (by decide) (fun c9 => absurd c9 (by decide)) (fun _ => ?_)
                  refine lv_iload_n hx hb dX8_findFault_117 rfl (lv_at hl 1 rfl) ?_
                  exact e_i8 S hK h hr hlk dX8_findFault_118 (hp _ _ ⟨by rw [hff]; rfl, MC_at (MC_at hc3 (by omega)) (by omega), by rw [hff]; exact ⟨mu_s, hca⟩⟩)
              · have p1 := rdA_neg (Int32.not_le.mp c_53)
                have hff : faultOf t X = some (s9, 1, nI (rF t s9).2.2.2 - nI s9) := by rw [hf, ff_so c_37 (rO_f p1) (by decide)]
                have hca : ∀ z9 : Int32, nI (rF t s9).2.2.2 - nI s9 = z9 → (mu (mu σ3 0 5 z9) 0 4 (nI 1)) 0 5 = (if 1 = 1 then nI (rF t s9).2.2.2 - nI s9 else cNF) := fun z9 hz9 => by rw [mu_i (by omega), mu_s, if_pos rfl, hz9]
                have hca := hca _ rfl
                refine lv_aload_n hx hb dX8_findFault_56 rfl (lv_at hl 2 rfl) ?_
                refine g8 (v := (.int (σ3 0 3))) S hK h 11 (by decide) rfl rfl q_607 dX8_findFault_57 ?_
                refine cv_i (show (σ3 0 3 : Int32) = nI (rF t s9).2.2.2 from a3) ?_
                refine lv_iload_n hx hb dX8_findFault_60 rfl (lv_at hl 1 rfl) ?_
                refine lv_isub hx hb dX8_findFault_61 ?_
                refine lv_goto (tgt := 67) hx hb dX8_findFault_62 (by decide) ?_
                refine p8 5 13 S hI hK h (by decide) rfl (fun _ => rfl) q_609 dX8_findFault_67 (fun H locs h => ?_)
                refine lv_aload_n hx hb dX8_findFault_70 rfl (lv_at hl 2 rfl) ?_
                refine lv_iload_n hx hb dX8_findFault_71 rfl (lv_at hl 0 rfl) ?_
                refine lv_if_ge (tgt := 79) hx hb dX8_findFault_72 (by decide) (fun c_72 => absurd c_72 c_53) (fun c_72 => ?_)
                refine lv_iconst (v := (nI 1)) hx hb dX8_findFault_75 (by decide) ?_
                refine lv_goto (tgt := 107) hx hb dX8_findFault_76 (by decide) ?_
                refine p8 4 12 S hI hK h (by decide) rfl (fun _ => rfl) q_608 dX8_findFault_107 (fun H locs h => ?_)
                refine lv_aload_n hx hb dX8_findFault_110 rfl (lv_at hl 2 rfl) ?_
                refine g8 (v := (.int ((mu (mu σ3 0 5 ((nI (rF t s9).2.2.2) - (nI s9))) 0 4 (nI 1)) 0 4))) S hK h 12 (by decide) rfl rfl q_608 dX8_findFault_111 ?_
                refine cv_i (show ((mu (mu σ3 0 5 ((nI (rF t s9).2.2.2) - (nI s9))) 0 4 (nI 1)) 0 4 : Int32) = nI 1 from mu_s) ?_
                refine b_if_le (tgt := 119) hx hb dX8_findFault_114 (by decide) (by decide) (fun c9 => absurd c9 (by decide)) (fun _ => ?_)
                refine lv_iload_n hx hb dX8_findFault_117 rfl (lv_at hl 1 rfl) ?_
                exact e_i8 S hK h hr hlk dX8_findFault_118 (hp _ _ ⟨by rw [hff]; rfl, MC_at (MC_at hc3 (by omega)) (by omega), by rw [hff]; exact ⟨mu_s, hca⟩⟩)
        exact LP_29 _ 60 0 (Wof X) σ1 hc1 a1 (fun j hj => hw j (by omega)) rfl rfl (by omega) (by omega) (Nat.lt_succ_self _) _ _ _ h (lv_sub hl [1] rfl)
      · refine lv_aload_n hx hb dX8_findFault_12 rfl (lv_at hl 1 rfl) ?_
        refine g8 (v := (.ref (ad L 9))) S hK h 14 (by decide) rfl rfl q_610 dX8_findFault_13 ?_
        refine lv_iload_n hx hb dX8_findFault_16 rfl (lv_at hl 0 rfl) ?_
        refine lv_aload_n hx hb dX8_findFault_17 rfl (lv_at hl 1 rfl) ?_
        refine lv_iload_n hx hb dX8_findFault_18 rfl (lv_at hl 0 rfl) ?_
        refine q_V18 S hI hK h [.int (nI k)] (c_X8_weightOf l L σ1 (d := k) (by omega)) q_653 q_655 qs_12 q_10 q_656 yd_X8_weightOf rfl ⟨⟨rfl, rfl⟩, ⟨(Nat.le_of_ble_eq_true rfl), (Nat.le_of_ble_eq_true rfl)⟩, Nat.le_refl _, Nat.le_refl _⟩ rfl (Nat.le_of_ble_eq_true rfl) hl.1 dX8_findFault_19 (fun H locs h => ?_)
        refine cv_i (show (σ1 1 (2 + 1024 * k + 2) : Int32) = (Wof X).getD k 0 from (by rw [Wof_get hX.I (by omega)]; exact (hc1.1.2.2 k (by omega)).2.2.1)) ?_
        refine p8_el (n := 3) S hI hK h (by decide) rfl (by omega) dX8_findFault_22 (fun H locs h => ?_)
        refine lv_iinc (v := (nI (k + 1))) (lv' := [(1, .int (nI (k + 1))), (0, .ref (ad L 0))]) hx hb dX8_findFault_23 hl (k := 0) rfl (iinc_1 _) (by decide) rfl (fun ls hl => ?_)
        refine lv_goto (tgt := 7) hx hb dX8_findFault_26 (by decide) ?_
        exact ih_7 (k + 1) (mu σ1 9 k ((Wof X).getD k 0)) (by omega) (MC_9 hc1) (by rw [mu_k (by omega)]; exact a1) (fun j hj => by by_cases q9 : j = k; (rw [q9, mu_s]); (rw [mu_i q9]; exact hw j (by omega))) (by omega) _ _ _ h (lv_sub hl [0, 1] rfl)
  exact LP_7 _ 0 (mu σ 0 3 (nI 0)) (by omega) (MC_at hc (by omega)) mu_s (fun j hj => absurd hj (Nat.not_lt_zero _)) (Nat.lt_succ_self _) _ _ _ h (lv_sub hl [0, 1] rfl)

abbrev rX8_fault : Room := { frames := 4, cells := 0, slots := 0, locals := 92 }
theorem yd_X8_fault : ydV yX8_fault RX8 1 := ⟨rfl, by decide +kernel, by decide +kernel, by decide +kernel⟩
set_option maxHeartbeats 4000000 in
set_option maxRecDepth 100000 in
theorem c_X8_fault (l : Launch) (L : Lay) (σ : Me) {X : SS} {hh : List SS} {t : List Int32} (hc : MC σ X hh t) (hX : GX X) (hH : ∀ Y ∈ hh, GX Y) (x : Int32) : Mg8 l L yX8_fault (Cond.code yX8_fault cX8_fault 3 (some FieldType.int) :: qA) rX8_fault [.ref (ad L 0), .int x] σ (fun r u => r = some (.int (cFau X t x)) ∧ MC u X hh t) := by
  refine Mr8_ofW (by decide) (Nat.le_of_ble_eq_true rfl) ?_
  intro p e s m args below meth c ls post hp hI S hr hlk hK h hl
  have hx := S.1
  have hb := S.2.1
  have hl : lv_has ls 3 [(0, .ref (ad L 0)), (1, .int x)] := hl
  unfold cFau at hp
  refine lv_iload_n hx hb dX8_fault_0 rfl (lv_at hl 1 rfl) ?_
  refine lv_iconst (v := (nI 0)) hx hb dX8_fault_1 (by decide) ?_
  refine lv_iconst (v := (nI 2)) hx hb dX8_fault_2 (by decide) ?_
  refine q_S18 S hI hK h [.int x, .int (nI 0), .int (nI 2)] (c_X8_within l L σ x (nI 0) (nI 2)) q_649 q_650 q_10 q_651 yd_X8_within rfl ⟨⟨rfl, rfl⟩, ⟨(Nat.le_of_ble_eq_true rfl), (Nat.le_of_ble_eq_true rfl)⟩, Nat.le_refl _, Nat.le_refl _⟩ rfl (Nat.le_of_ble_eq_true rfl) hl.1 dX8_fault_3 (fun H locs h => ?_)
  refine z_ne (tgt := 12) hx hb dX8_fault_6 (by decide) (fun c_6 => ?_) (fun c_6 => ?_)
  · rw [if_neg (fun q => q c_6)] at hp
    obtain ⟨m9, -, hm2, rfl⟩ := rng_nat (a := 0) (b := 2) (by omega) (by omega) c_6
    rw [nI_clamp (show m9 < 2 ^ 31 by omega)] at hp
    refine lv_aload_n hx hb dX8_fault_12 rfl (lv_at hl 0 rfl) ?_
    refine q_VR8 S hI hK h [] (c_X8_findFault l L σ hc hX) q_842 q_844 qs_38 q_10 q_845 yd_X8_findFault rfl ⟨⟨rfl, rfl⟩, ⟨(Nat.le_of_ble_eq_true rfl), (Nat.le_of_ble_eq_true rfl)⟩, Nat.le_refl _, Nat.le_refl _⟩ rfl (Nat.le_of_ble_eq_true rfl) hl.1 dX8_fault_13 (fun σ1 H locs hp9 h => ?_)
    obtain ⟨hc1, hF⟩ := hp9
    refine lv_istore_n (lv' := [(2, .int (fauW (faultOf t X) 0)), (0, .ref (ad L 0)), (1, .int (nI m9))]) hx hb dX8_fault_16 rfl hl (by decide) rfl (fun ls hl => ?_)
    refine lv_iload_n hx hb dX8_fault_17 rfl (lv_at hl 0 rfl) ?_
    refine lv_ldc (v := (-1000004 : Int32)) hx hb S.2.2.2.1 (S.2.2.2.2 _ q_741) dX8_fault_18 ?_
    refine lv_icmp_ne (tgt := 28) hx hb dX8_fault_20 (by decide) (fun c_20 => ?_) (fun c_20 => ?_)
    · obtain ⟨q9, hfa⟩ : ∃ q9, faultOf t X = some q9 := by cases hfa : faultOf t X with | none => exact absurd (by rw [hfa]; rfl) c_20 | some q9 => exact ⟨q9, rfl⟩
      refine lv_iload_n hx hb dX8_fault_28 rfl (lv_at hl 2 rfl) ?_
      refine b_if_ne (tgt := 36) hx hb dX8_fault_29 (by decide) (by omega) (fun c_29 => ?_) (fun c_29 => ?_)
      · refine lv_iload_n hx hb dX8_fault_36 rfl (lv_at hl 2 rfl) ?_
        refine lv_iconst (v := (nI 1)) hx hb dX8_fault_37 (by decide) ?_
        refine b_icmp_ne (tgt := 48) hx hb dX8_fault_38 (by decide) (by omega) (by omega) (fun c_38 => ?_) (fun c_38 => ?_)
        · obtain rfl : m9 = 2 := by omega
          have hv : σ1 0 5 = fauW (faultOf t X) 2 := by rw [hfa] at hF ⊢; exact hF.2
          refine lv_aload_n hx hb dX8_fault_48 rfl (lv_at hl 1 rfl) ?_
          refine g8 (v := (.int (σ1 0 5))) S hK h 13 (by decide) rfl rfl q_609 dX8_fault_49 ?_
          exact e_i8 S hK h hr hlk dX8_fault_52 (hp _ _ ⟨congrArg (fun z => some (Value.int z)) hv, hc1⟩)
        · subst c_38
          have hv : σ1 0 4 = fauW (faultOf t X) 1 := by rw [hfa] at hF ⊢; exact hF.1
          refine lv_aload_n hx hb dX8_fault_41 rfl (lv_at hl 1 rfl) ?_
          refine g8 (v := (.int (σ1 0 4))) S hK h 12 (by decide) rfl rfl q_608 dX8_fault_42 ?_
          refine lv_goto (tgt := 52) hx hb dX8_fault_45 (by decide) ?_
          exact e_i8 S hK h hr hlk dX8_fault_52 (hp _ _ ⟨congrArg (fun z => some (Value.int z)) hv, hc1⟩)
      · have hv : fauW (faultOf t X) 0 = fauW (faultOf t X) m9 := by rw [c_29]
        refine lv_iload_n hx hb dX8_fault_32 rfl (lv_at hl 0 rfl) ?_
        refine lv_goto (tgt := 52) hx hb dX8_fault_33 (by decide) ?_
        exact e_i8 S hK h hr hlk dX8_fault_52 (hp _ _ ⟨congrArg (fun z => some (Value.int z)) hv, hc1⟩)
    · have hv : (-1000004 : Int32) = fauW (faultOf t X) m9 := by cases hfa : faultOf t X with | none => rfl | some q9 => exact absurd c_20 (fau_ne (MC_lh hc).2.2.2 hfa)
      refine lv_ldc (v := (-1000004 : Int32)) hx hb S.2.2.2.1 (S.2.2.2.2 _ q_741) dX8_fault_23 ?_
      refine lv_goto (tgt := 52) hx hb dX8_fault_25 (by decide) ?_
      exact e_i8 S hK h hr hlk dX8_fault_52 (hp _ _ ⟨congrArg (fun z => some (Value.int z)) hv, hc1⟩)
  · rw [if_pos c_6] at hp
    refine lv_ldc (v := (-1000001 : Int32)) hx hb S.2.2.2.1 (S.2.2.2.2 _ q_652) dX8_fault_9 ?_
    exact e_i8 S hK h hr hlk dX8_fault_11 (hp _ _ ⟨rfl, hc⟩)

abbrev rX8_play_f : Room := { frames := 4, cells := 0, slots := 0, locals := 92 }
theorem yd_X8_play : ydV yX8_play RX8 0 := ⟨rfl, by decide +kernel, by decide +kernel, by decide +kernel⟩
set_option maxHeartbeats 4000000 in
set_option maxRecDepth 100000 in
theorem c_X8_play_f (l : Launch) (L : Lay) (σ : Me) {X : SS} {hh : List SS} {t : List Int32} (hc : MC σ X hh t) (hX : GX X) (hH : ∀ Y ∈ hh, GX Y) {q9 : Nat × Nat × Int32} (hf : faultOf t X = some q9) : Mg8 l L yX8_play (Cond.code yX8_play cX8_play 1 (some FieldType.int) :: qA) rX8_play_f [.ref (ad L 0)] σ (fun r u => r = some (.int cNP) ∧ MC u X hh t) := by
  refine Mr8_ofW (by decide) (Nat.le_of_ble_eq_true rfl) ?_
  intro p e s m args below meth c ls post hp hI S hr hlk hK h hl
  have hx := S.1
  have hb := S.2.1
  have hl : lv_has ls 1 [(0, .ref (ad L 0))] := hl
  refine lv_aload_n hx hb dX8_play_0 rfl (lv_at hl 0 rfl) ?_
  refine q_VR8 S hI hK h [] (c_X8_findFault l L σ hc hX) q_842 q_844 qs_38 q_10 q_845 yd_X8_findFault rfl ⟨⟨rfl, rfl⟩, ⟨(Nat.le_of_ble_eq_true rfl), (Nat.le_of_ble_eq_true rfl)⟩, Nat.le_refl _, Nat.le_refl _⟩ rfl (Nat.le_of_ble_eq_true rfl) hl.1 dX8_play_1 (fun σ1 H locs hp9 h => ?_)
  obtain ⟨hc1, hF⟩ := hp9
  refine lv_ldc (v := (-1000004 : Int32)) hx hb S.2.2.2.1 (S.2.2.2.2 _ q_741) dX8_play_4 ?_
  refine lv_icmp_eq (tgt := 12) hx hb dX8_play_6 (by decide) (fun c_6 => absurd c_6 (fau_ne (MC_lh hc).2.2.2 hf)) (fun c_6 => ?_)
  refine lv_ldc (v := (-1000002 : Int32)) hx hb S.2.2.2.1 (S.2.2.2.2 _ q_779) dX8_play_9 ?_
  exact e_i8 S hK h hr hlk dX8_play_11 (hp _ _ ⟨rfl, hc1⟩)

abbrev rX8_play : Room := { frames := 7, cells := 0, slots := 0, locals := 156 }
set_option maxHeartbeats 4000000 in
set_option maxRecDepth 100000 in
theorem c_X8_play (l : Launch) (L : Lay) (σ : Me) {X : SS} {hh : List SS} {t : List Int32} (hc : MC σ X hh t) (hX : GX X) (hH : ∀ Y ∈ hh, GX Y) (hf : faultOf t X = none) : Mg8 l L yX8_play (Cond.code yX8_play cX8_play 1 (some FieldType.int) :: qA) rX8_play [.ref (ad L 0)] σ (fun r u => r = some (.int (vSum (plM t 60 0 X))) ∧ MC u (plM t 60 0 X) (recH hh X) t ∧ GX (plM t 60 0 X)) := by
  refine Mr8_ofW (by decide) (Nat.le_of_ble_eq_true rfl) ?_
  intro p e s m args below meth c ls post hp hI S hr hlk hK h hl
  have hx := S.1
  have hb := S.2.1
  have hl : lv_has ls 1 [(0, .ref (ad L 0))] := hl
  refine lv_aload_n hx hb dX8_play_0 rfl (lv_at hl 0 rfl) ?_
  refine q_VR8 S hI hK h [] (c_X8_findFault l L σ hc hX) q_842 q_844 qs_38 q_10 q_845 yd_X8_findFault rfl ⟨⟨rfl, rfl⟩, ⟨(Nat.le_of_ble_eq_true rfl), (Nat.le_of_ble_eq_true rfl)⟩, Nat.le_refl _, Nat.le_refl _⟩ rfl (Nat.le_of_ble_eq_true rfl) hl.1 dX8_play_1 (fun σ1 H locs hp9 h => ?_)
  obtain ⟨hc1, hF⟩ := hp9
  refine lv_ldc (v := (-1000004 : Int32)) hx hb S.2.2.2.1 (S.2.2.2.2 _ q_741) dX8_play_4 ?_
  refine lv_icmp_eq (tgt := 12) hx hb dX8_play_6 (by decide) (fun c_6 => ?_) (fun c_6 => absurd c_6 (fun z => z (by rw [hf]; rfl)))
  refine lv_aload_n hx hb dX8_play_12 rfl (lv_at hl 0 rfl) ?_
  refine q_VR8 S hI hK h [] (c_X8_record l L σ1 hc1 hX.L (fun Y hY => (hH Y hY).L)) q_662 q_664 qs_14 q_10 q_665 yd_X8_record rfl ⟨⟨rfl, rfl⟩, ⟨(Nat.le_of_ble_eq_true rfl), (Nat.le_of_ble_eq_true rfl)⟩, Nat.le_refl _, Nat.le_refl _⟩ rfl (Nat.le_of_ble_eq_true rfl) hl.1 dX8_play_13 (fun σ2 H locs hp9 h => ?_)
  obtain ⟨hc2, ho2⟩ := hp9
  refine lv_aload_n hx hb dX8_play_16 rfl (lv_at hl 0 rfl) ?_
  refine lv_iconst (v := (nI 0)) hx hb dX8_play_17 (by decide) ?_
  refine p8 3 11 S hI hK h (by decide) rfl (fun _ => rfl) q_607 dX8_play_18 (fun H locs h => ?_)
  have LP_21 : ∀ (n_21 : Nat) (n : Nat) (s9 : Nat) (Y : SS) (σ3 : Me), (MC σ3 Y (recH hh X) t) → (σ3 0 3 = nI s9) → (GX Y) → (ff t n s9 (Wof Y) = none) → (plM t 60 0 X = plM t n s9 Y) → (60 ≤ s9 + n) → (s9 ≤ 400) → n < n_21 → ∀ (H : Heap) (locs : List Loc) (ls : Array Slot), Hd8 L s.heap H σ3 locs → lv_has ls 1 [(0, .ref (ad L 0))] → W p l e rX8_play s m args below meth c H locs 0 0 (MQ below (Qg post (bs8 L) (Aw8 L)) args s 0 0 (Aw8 L)) (F0 m 21 ls []) := by
    intro n_21
    induction n_21 with
    | zero => intro n s9 Y σ3; intros; omega
    | succ n_21 ih_21 =>
      intro n s9 Y σ3 hc3 a3 hY hff hr9 h4 h5 hm_21 H locs ls h hl
      obtain ⟨b1, b2, b3, b4⟩ := MC_lh hc3
      refine lv_aload_n hx hb dX8_play_21 rfl (lv_at hl 0 rfl) ?_
      refine g8 (v := (.int (σ3 0 3))) S hK h 11 (by decide) rfl rfl q_607 dX8_play_22 ?_
      refine cv_i (show (σ3 0 3 : Int32) = nI s9 from a3) ?_
      refine lv_aload_n hx hb dX8_play_25 rfl (lv_at hl 0 rfl) ?_
      refine g8 (v := (.int (σ3 0 1))) S hK h 4 (by decide) rfl rfl q_600 dX8_play_26 ?_
      refine cv_i (show (σ3 0 1 : Int32) = nI t.length from b3) ?_
      refine b_icmp_ge (tgt := 41) hx hb dX8_play_29 (by decide) (by omega) (by omega) (fun c_29 => ?_) (fun c_29 => ?_)
      · have hfin : plM t 60 0 X = Y := by rw [hr9, plM_n (by omega)]
        refine lv_aload_n hx hb dX8_play_41 rfl (lv_at hl 0 rfl) ?_
        refine q_V18 S hI hK h [] (c_X8_allWeight l L σ3 hc3.1) q_822 q_824 qs_37 q_10 q_825 yd_X8_allWeight rfl ⟨⟨rfl, rfl⟩, ⟨(Nat.le_of_ble_eq_true rfl), (Nat.le_of_ble_eq_true rfl)⟩, Nat.le_refl _, Nat.le_refl _⟩ rfl (Nat.le_of_ble_eq_true rfl) hl.1 dX8_play_42 (fun H locs h => ?_)
        exact e_i8 S hK h hr hlk dX8_play_45 (hp _ _ ⟨by rw [hfin]; rfl, by rw [hfin]; exact hc3, by rw [hfin]; exact hY⟩)
      · obtain ⟨n1, rfl⟩ : ∃ n1, n = n1 + 1 := ⟨n - 1, by omega⟩
        have hre := (rF_e (t := t) (s := s9)).1
        have hf1 := ff_1 c_29 hff
        obtain ⟨i, hi, hie, hil⟩ := rO_0 hY.I hf1.1
        have ht9 := rO_1 hf1.1
        have hgt := rF_gt ht9
        refine lv_aload_n hx hb dX8_play_32 rfl (lv_at hl 0 rfl) ?_
        refine lv_iconst (v := (nI 1)) hx hb dX8_play_33 (by decide) ?_
        refine q_VR8 S hI hK h [.int (nI 1)] (c_X8_readsPart_p l L σ3 hc3 hY hi hil ht9 hie a3 (by omega)) q_846 q_848 qs_39 q_10 q_849 yd_X8_readsPart rfl ⟨⟨rfl, rfl⟩, ⟨(Nat.le_of_ble_eq_true rfl), (Nat.le_of_ble_eq_true rfl)⟩, Nat.le_refl _, Nat.le_refl _⟩ rfl (Nat.le_of_ble_eq_true rfl) hl.1 dX8_play_34 (fun σ4 H locs hp9 h => ?_)
        obtain ⟨hG4, hl4, hc4, a4⟩ := hp9
        refine lv_pop hx hb dX8_play_37 rfl ?_
        refine lv_goto (tgt := 21) hx hb dX8_play_38 (by decide) ?_
        exact ih_21 n1 ((rF t s9).2.2.2) (setD Y i (rcvP Y.1 Y.2.1 (Y.2.2 i) (rF t s9).2.2.1)) σ4 hc4 a4 (GX_setD hY hG4) (by rw [← rW_X hY.I hf1.1 hi hie (GX_setD hY hG4).I hl4]; exact hf1.2) (by rw [hr9, plM_1 c_29 hi hie]) (by omega) (by omega) (by omega) _ _ _ h (lv_sub hl [0] rfl)
  exact LP_21 _ 60 0 X (mu σ2 0 3 (nI 0)) (MC_at hc2 (by omega)) mu_s hX hf rfl (by omega) (by omega) (Nat.lt_succ_self _) _ _ _ h (lv_sub hl [0] rfl)
