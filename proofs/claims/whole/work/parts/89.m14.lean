abbrev rX8_readsPart_p : Room := { frames := 6, cells := 0, slots := 0, locals := 131 }
set_option maxHeartbeats 4000000 in
set_option maxRecDepth 100000 in
theorem c_X8_readsPart_p (l : Launch) (L : Lay) (σ : Me) {X : SS} {hh : List SS} {t : List Int32} (hc : MC σ X hh t) (hX : GX X) {s9 i : Nat} (hi : i < 3) (hl9 : (X.2.2 i).2.2.1.length + (rF t s9).2.2.1.length ≤ 200) (ht9 : (rF t s9).1 = true) (hid : (rF t s9).2.1 = nI i) (ha : σ 0 3 = nI s9) (he : s9 ≤ 60) : Mg8 l L yX8_readsPart (Cond.code yX8_readsPart cX8_readsPart 6 (some FieldType.int) :: qA) rX8_readsPart_p [.ref (ad L 0), .int (nI 1)] σ (fun r u => r = some (.int (nI i)) ∧ GD (rcvP X.1 X.2.1 (X.2.2 i) (rF t s9).2.2.1) ∧ (rcvP X.1 X.2.1 (X.2.2 i) (rF t s9).2.2.1).2.2.1.length = (X.2.2 i).2.2.1.length + (rF t s9).2.2.1.length ∧ MC u (setD X i (rcvP X.1 X.2.1 (X.2.2 i) (rF t s9).2.2.1)) hh t ∧ u 0 3 = nI (rF t s9).2.2.2) := by
  refine Mr8_ofW (by decide) (Nat.le_of_ble_eq_true rfl) ?_
  intro p e s m args below meth c ls post hp hI S hr hlk hK h hl
  have hx := S.1
  have hb := S.2.1
  have hl : lv_has ls 6 [(0, .ref (ad L 0)), (1, .int (nI 1))] := hl
  obtain ⟨d1, d2⟩ := rv_d1 (t := t) (s := s9)
  have hT := MC_T hc
  rw [rF_21] at hid
  have hd9 : ¬ dgAt t s9 < 0 := by rw [hid]; exact nI_pos (by omega)
  have hGi := hX.1 i hi
  refine lv_aload_n hx hb dX8_readsPart_0 rfl (lv_at hl 0 rfl) ?_
  refine lv_iconst (v := (nI 1)) hx hb dX8_readsPart_1 (by decide) ?_
  refine q_V18 S hI hK h [.int (nI 1)] (c_X8_takeNumber l L σ (d9 := 1) hT ha (by omega) (by omega)) q_850 q_852 qs_40 q_10 q_853 yd_X8_takeNumber rfl ⟨⟨rfl, rfl⟩, ⟨(Nat.le_of_ble_eq_true rfl), (Nat.le_of_ble_eq_true rfl)⟩, Nat.le_refl _, Nat.le_refl _⟩ rfl (Nat.le_of_ble_eq_true rfl) hl.1 dX8_readsPart_2 (fun H locs h => ?_)
  refine cv_i (show (nv8 (rv t 1 (nI 0) 0 s9).1 (rv t 1 (nI 0) 0 s9).2.1 : Int32) = nI i from (d1.trans hid)) ?_
  have h := h.to (show mu σ 0 3 (nI (rv t 1 (nI 0) 0 s9).2.2) = mu σ 0 3 (nI (s9 + 1)) from (by rw [d2, if_neg hd9]))
  refine lv_istore_n (lv' := [(2, .int (nI i)), (0, .ref (ad L 0)), (1, .int (nI 1))]) hx hb dX8_readsPart_5 rfl hl (by decide) rfl (fun ls hl => ?_)
  refine lv_iload_n hx hb dX8_readsPart_6 rfl (lv_at hl 0 rfl) ?_
  refine b_if_lt (tgt := 23) hx hb dX8_readsPart_7 (by decide) (by omega) ?_
  refine lv_aload_n hx hb dX8_readsPart_10 rfl (lv_at hl 1 rfl) ?_
  refine lv_bipush (v := (nI 58)) hx hb dX8_readsPart_11 (by decide) ?_
  refine q_V18 S hI hK h [.int (nI 58)] (c_X8_takes l L (mu σ 0 3 (nI (s9 + 1))) (MC_T (MC_at hc (by omega))) mu_s (by omega) (nI 58)) q_858 q_860 qs_42 q_10 q_861 yd_X8_takes rfl ⟨⟨rfl, rfl⟩, ⟨(Nat.le_of_ble_eq_true rfl), (Nat.le_of_ble_eq_true rfl)⟩, Nat.le_refl _, Nat.le_refl _⟩ rfl (Nat.le_of_ble_eq_true rfl) hl.1 dX8_readsPart_13 (fun H locs h => ?_)
  refine z_eq (tgt := 23) hx hb dX8_readsPart_16 (by decide) (fun c_16 => absurd c_16 (fun z => by rw [rF_y hd9, decide_eq_false (fun z2 => z ((ch8_is (by omega) (by omega)).mpr z2)), rL_no, rF2_no (Or.inl rfl)] at ht9; cases ht9)) (fun c_16 => ?_)
  have c16 := c_16
  have h := h.to (show mu (mu σ 0 3 (nI (s9 + 1))) 0 3 (nI (if ch8 t (s9 + 1) = (nI 58) then (s9 + 1) + 1 else (s9 + 1))) = mu σ 0 3 (nI (s9 + 1 + 1)) from (by rw [mu_mu, if_pos c16]))
  refine lv_iconst (v := (nI 1)) hx hb dX8_readsPart_19 (by decide) ?_
  refine lv_goto (tgt := 24) hx hb dX8_readsPart_20 (by decide) ?_
  refine lv_istore_n (lv' := [(3, .int (nI 1)), (2, .int (nI i)), (0, .ref (ad L 0)), (1, .int (nI 1))]) hx hb dX8_readsPart_24 rfl hl (by decide) rfl (fun ls hl => ?_)
  refine lv_iload_n hx hb dX8_readsPart_25 rfl (lv_at hl 0 rfl) ?_
  refine lv_istore (lv' := [(4, .int (nI 1)), (3, .int (nI 1)), (2, .int (nI i)), (0, .ref (ad L 0)), (1, .int (nI 1))]) hx hb dX8_readsPart_26 hl (by decide) rfl (fun ls hl => ?_)
  have LP_28 : ∀ (n_28 : Nat) (mb : Nat) (n : Nat) (vs : List Int32) (e1 : Nat) (σ1 : Me), (mb = 0 → rF t s9 = rF2 t s9 (true, vs, e1) ∧ 0 < vs.length) → (mb = 1 → rF t s9 = rF2 t s9 (rL t n true vs e1)) → (mb = 1 → e1 < 60) → (mb ≤ 1) → (e1 + n + 1 ≥ 61) → (e1 ≤ 65) → (GD (rcvP X.1 X.2.1 (X.2.2 i) vs)) → ((rcvP X.1 X.2.1 (X.2.2 i) vs).2.2.1.length = (X.2.2 i).2.2.1.length + vs.length) → (MC σ1 (setD X i (rcvP X.1 X.2.1 (X.2.2 i) vs)) hh t) → (σ1 0 3 = nI (e1 + mb)) → n + mb < n_28 → ∀ (H : Heap) (locs : List Loc) (ls : Array Slot), Hd8 L s.heap H σ1 locs → lv_has ls 6 [(4, .int (nI mb)), (3, .int (nI 1)), (2, .int (nI i)), (1, .int (nI 1)), (0, .ref (ad L 0))] → W p l e rX8_readsPart_p s m args below meth c H locs 0 0 (MQ below (Qg post (bs8 L) (Aw8 L)) args s 0 0 (Aw8 L)) (F0 m 28 ls []) := by
    intro n_28
    induction n_28 with
    | zero => intro mb n vs e1 σ1; intros; omega
    | succ n_28 ih_28 =>
      intro mb n vs e1 σ1 h1 h2 h9 hm h4 h5 hG1 hl1 hc1 a1 hm_28 H locs ls h hl
      have hT1 : TX σ1 t := MC_T hc1
      refine lv_iload hx hb dX8_readsPart_28 (lv_at hl 0 rfl) ?_
      refine b_if_eq (tgt := 110) hx hb dX8_readsPart_30 (by decide) (by omega) (fun c_30 => ?_) (fun c_30 => ?_)
      · obtain ⟨f1, f2⟩ := h1 c_30
        refine lv_iload_n hx hb dX8_readsPart_110 rfl (lv_at hl 1 rfl) ?_
        refine b_if_eq (tgt := 127) hx hb dX8_readsPart_111 (by decide) (by decide) (fun c9 => absurd c9 (by decide)) (fun _ => ?_)
        refine lv_aload_n hx hb dX8_readsPart_114 rfl (lv_at hl 4 rfl) ?_
        refine lv_bipush (v := (nI 59)) hx hb dX8_readsPart_115 (by decide) ?_
        refine q_V18 S hI hK h [.int (nI 59)] (c_X8_takes l L σ1 (e9 := e1) hT1 (by subst c_30; exact a1) (by omega) (nI 59)) q_858 q_860 qs_42 q_10 q_861 yd_X8_takes rfl ⟨⟨rfl, rfl⟩, ⟨(Nat.le_of_ble_eq_true rfl), (Nat.le_of_ble_eq_true rfl)⟩, Nat.le_refl _, Nat.le_refl _⟩ rfl (Nat.le_of_ble_eq_true rfl) hl.1 dX8_readsPart_117 (fun H locs h => ?_)
        refine z_eq (tgt := 127) hx hb dX8_readsPart_120 (by decide) (fun c_120 => absurd c_120 (fun z => by rw [f1, rF2_no (Or.inr (fun z2 => z ((ch8_is (by omega) (by omega)).mpr z2)))] at ht9; cases ht9)) (fun c_120 => ?_)
        have c120 := c_120
        have hf9 : rF t s9 = (true, dgAt t s9, vs, e1 + 1) := by rw [f1, rF2_yes f2 ((ch8_is (by omega) (by omega)).mp c120)]
        refine lv_iload_n hx hb dX8_readsPart_123 rfl (lv_at hl 2 rfl) ?_
        refine lv_goto (tgt := 128) hx hb dX8_readsPart_124 (by decide) ?_
        exact e_i8 S hK h hr hlk dX8_readsPart_128 (hp _ _ ⟨rfl, by rw [hf9]; exact hG1, by rw [hf9]; exact hl1, by rw [hf9]; exact MC_at hc1 (by omega), by rw [mu_s, if_pos c120, hf9]⟩)
      · obtain rfl : mb = 1 := by omega
        have g2 := h9 rfl
        obtain ⟨n1, rfl⟩ : ∃ n1, n = n1 + 1 := ⟨n - 1, by omega⟩
        obtain ⟨v0, v1⟩ := rv_4 (t := t) (e := e1 + 1)
        obtain ⟨r1, r2⟩ := rv_le (t := t) (e := e1 + 1)
        have z9 : (rv t 4 (nI 0) 0 (e1 + 1)).2.1 ≠ 0 := fun z => by rw [h2 rfl, rL_bad z, rF2_f] at ht9; cases ht9
        obtain ⟨v2, v3, v4⟩ := v1 z9
        have hl3 : (X.2.2 i).2.2.1.length + (vs.length + 1) ≤ 200 := by have q9 := rL_le (t := t) n1 (decide (t.getD (rv t 4 (nI 0) 0 (e1 + 1)).2.2 0 = nI 44)) (vs ++ [(rv t 4 (nI 0) 0 (e1 + 1)).1]) (rv t 4 (nI 0) 0 (e1 + 1)).2.2; rw [List.length_append, List.length_singleton] at q9; rw [h2 rfl, rF2_vs, rL_go z9] at hl9; omega
        refine lv_aload_n hx hb dX8_readsPart_33 rfl (lv_at hl 4 rfl) ?_
        refine lv_iconst (v := (nI 4)) hx hb dX8_readsPart_34 (by decide) ?_
        refine q_V18 S hI hK h [.int (nI 4)] (c_X8_takeNumber l L σ1 (d9 := 4) hT1 a1 (by omega) (by omega)) q_850 q_852 qs_40 q_10 q_853 yd_X8_takeNumber rfl ⟨⟨rfl, rfl⟩, ⟨(Nat.le_of_ble_eq_true rfl), (Nat.le_of_ble_eq_true rfl)⟩, Nat.le_refl _, Nat.le_refl _⟩ rfl (Nat.le_of_ble_eq_true rfl) hl.1 dX8_readsPart_35 (fun H locs h => ?_)
        refine cv_i (show (nv8 (rv t 4 (nI 0) 0 (e1 + 1)).1 (rv t 4 (nI 0) 0 (e1 + 1)).2.1 : Int32) = (rv t 4 (nI 0) 0 (e1 + 1)).1 from v2) ?_
        refine lv_istore (lv' := [(5, .int ((rv t 4 (nI 0) 0 (e1 + 1)).1)), (4, .int (nI 1)), (3, .int (nI 1)), (2, .int (nI i)), (1, .int (nI 1)), (0, .ref (ad L 0))]) hx hb dX8_readsPart_38 hl (by decide) rfl (fun ls hl => ?_)
        refine lv_iload hx hb dX8_readsPart_40 (lv_at hl 0 rfl) ?_
        refine lv_if_lt (tgt := 49) hx hb dX8_readsPart_42 (by decide) (fun c_42 => absurd c_42 (fun z => by obtain ⟨q9, z1, z2⟩ := v3; rw [z2] at z; exact nI_pos (by omega) z)) (fun c_42 => ?_)
        refine lv_iconst (v := (nI 1)) hx hb dX8_readsPart_45 (by decide) ?_
        refine lv_goto (tgt := 50) hx hb dX8_readsPart_46 (by decide) ?_
        refine lv_istore_n (lv' := [(3, .int (nI 1)), (5, .int ((rv t 4 (nI 0) 0 (e1 + 1)).1)), (4, .int (nI 1)), (2, .int (nI i)), (1, .int (nI 1)), (0, .ref (ad L 0))]) hx hb dX8_readsPart_50 rfl hl (by decide) rfl (fun ls hl => ?_)
        refine lv_iload_n hx hb dX8_readsPart_51 rfl (lv_at hl 0 rfl) ?_
        refine b_if_eq (tgt := 72) hx hb dX8_readsPart_52 (by decide) (by decide) (fun c9 => absurd c9 (by decide)) (fun _ => ?_)
        refine lv_iload_n hx hb dX8_readsPart_55 rfl (lv_at hl 3 rfl) ?_
        refine q_S18 S hI hK h [.int (nI i)] (c_X8_isDigest l L (mu σ1 0 3 (nI (rv t 4 (nI 0) 0 (e1 + 1)).2.2)) (nI i)) q_646 q_647 q_10 q_648 yd_X8_isDigest rfl ⟨⟨rfl, rfl⟩, ⟨(Nat.le_of_ble_eq_true rfl), (Nat.le_of_ble_eq_true rfl)⟩, Nat.le_refl _, Nat.le_refl _⟩ rfl (Nat.le_of_ble_eq_true rfl) hl.1 dX8_readsPart_56 (fun H locs h => ?_)
        refine z_eq (tgt := 72) hx hb dX8_readsPart_59 (by decide) (fun c_59 => absurd c_59 (fun z => z ⟨(nI_leI (by omega) (by omega)).mpr (by omega), (nI_leI (by omega) (by omega)).mpr (by omega)⟩)) (fun c_59 => ?_)
        refine lv_aload_n hx hb dX8_readsPart_62 rfl (lv_at hl 5 rfl) ?_
        refine g8 (v := (.ref (ad L 9))) S hK h 14 (by decide) rfl rfl q_610 dX8_readsPart_63 ?_
        refine lv_iload_n hx hb dX8_readsPart_66 rfl (lv_at hl 3 rfl) ?_
        refine lv_dup2_11 hx hb dX8_readsPart_67 rfl rfl ?_
        refine g8_el (n := 3) S hK h (by decide) rfl (by omega) dX8_readsPart_68 ?_
        refine lv_iconst (v := (nI 1)) hx hb dX8_readsPart_69 (by decide) ?_
        refine lv_iadd hx hb dX8_readsPart_70 ?_
        refine p8_el (n := 3) S hI hK h (by decide) rfl (by omega) dX8_readsPart_71 (fun H locs h => ?_)
        obtain ⟨σ4, e_σ4⟩ : ∃ z : Me, z = mu (mu σ1 0 3 (nI (rv t 4 (nI 0) 0 (e1 + 1)).2.2)) 9 i (((mu σ1 0 3 (nI (rv t 4 (nI 0) 0 (e1 + 1)).2.2)) 9 i) + (nI 1)) := ⟨_, rfl⟩
        have h := h.to e_σ4.symm
        have hc4 : MC σ4 (setD X i (rcvP X.1 X.2.1 (X.2.2 i) vs)) hh t := by rw [e_σ4]; exact MC_9 (MC_at hc1 (by omega))
        have a4 : σ4 0 3 = nI (rv t 4 (nI 0) 0 (e1 + 1)).2.2 := by rw [e_σ4, mu_k (by omega), mu_s]
        have hX4 := GX_setD (i := i) hX hG1
        refine lv_iload_n hx hb dX8_readsPart_72 rfl (lv_at hl 0 rfl) ?_
        refine b_if_eq (tgt := 87) hx hb dX8_readsPart_73 (by decide) (by decide) (fun c9 => absurd c9 (by decide)) (fun _ => ?_)
        refine lv_iload_n hx hb dX8_readsPart_76 rfl (lv_at hl 4 rfl) ?_
        refine b_if_eq (tgt := 87) hx hb dX8_readsPart_77 (by decide) (by decide) (fun c9 => absurd c9 (by decide)) (fun _ => ?_)
        refine lv_aload_n hx hb dX8_readsPart_80 rfl (lv_at hl 5 rfl) ?_
        refine lv_iload_n hx hb dX8_readsPart_81 rfl (lv_at hl 3 rfl) ?_
        refine lv_iload hx hb dX8_readsPart_82 (lv_at hl 1 rfl) ?_
        refine q_VR8 S hI hK h [.int (nI i), .int ((rv t 4 (nI 0) 0 (e1 + 1)).1)] (c_X8_comes l L σ4 hc4.1 hX4.I hi (by rw [setD_i]; exact (GD_all hG1).1) (by rw [setD_i]; omega) ((rv t 4 (nI 0) 0 (e1 + 1)).1)) q_669 q_671 qs_15 q_10 q_672 yd_X8_comes rfl ⟨⟨rfl, rfl⟩, ⟨(Nat.le_of_ble_eq_true rfl), (Nat.le_of_ble_eq_true rfl)⟩, Nat.le_refl _, Nat.le_refl _⟩ rfl (Nat.le_of_ble_eq_true rfl) hl.1 dX8_readsPart_84 (fun σ5 H locs hp9 h => ?_)
        obtain ⟨hS5, hO5⟩ := hp9
        rw [setD_i, setD_setD] at hS5
        have hS6 : MS (σ5 1) (setD X i (rcvP X.1 X.2.1 (X.2.2 i) (vs ++ [(rv t 4 (nI 0) 0 (e1 + 1)).1]))) := by rw [rcvP_s]; exact hS5
        have hc5 := MC_q hc4 hS6 hO5
        have a5 : σ5 0 3 = nI (rv t 4 (nI 0) 0 (e1 + 1)).2.2 := (hO5 0 3 (by omega) (by omega) (by omega) (by omega) (by omega) (by omega)).trans a4
        have hG5 : GD (rcvP X.1 X.2.1 (X.2.2 i) (vs ++ [(rv t 4 (nI 0) 0 (e1 + 1)).1])) := by rw [rcvP_s]; exact GD_rcvM hG1 hX.2 (by omega) v3
        have hl5 : (rcvP X.1 X.2.1 (X.2.2 i) (vs ++ [(rv t 4 (nI 0) 0 (e1 + 1)).1])).2.2.1.length = (X.2.2 i).2.2.1.length + (vs ++ [(rv t 4 (nI 0) 0 (e1 + 1)).1]).length := by rw [rcvP_s, rcvM_V, List.length_append, List.length_singleton, List.length_append, List.length_singleton, hl1, Nat.add_assoc]
        refine lv_iload_n hx hb dX8_readsPart_87 rfl (lv_at hl 0 rfl) ?_
        refine b_if_eq (tgt := 104) hx hb dX8_readsPart_88 (by decide) (by decide) (fun c9 => absurd c9 (by decide)) (fun _ => ?_)
        refine lv_aload_n hx hb dX8_readsPart_91 rfl (lv_at hl 5 rfl) ?_
        refine lv_bipush (v := (nI 44)) hx hb dX8_readsPart_92 (by decide) ?_
        refine q_V18 S hI hK h [.int (nI 44)] (c_X8_takes l L σ5 (MC_T hc5) a5 (by omega) (nI 44)) q_858 q_860 qs_42 q_10 q_861 yd_X8_takes rfl ⟨⟨rfl, rfl⟩, ⟨(Nat.le_of_ble_eq_true rfl), (Nat.le_of_ble_eq_true rfl)⟩, Nat.le_refl _, Nat.le_refl _⟩ rfl (Nat.le_of_ble_eq_true rfl) hl.1 dX8_readsPart_94 (fun H locs h => ?_)
        refine z_eq (tgt := 104) hx hb dX8_readsPart_97 (by decide) (fun c_97 => ?_) (fun c_97 => ?_)
        · have k8 : mu σ5 0 3 (nI (if ch8 t (rv t 4 (nI 0) 0 (e1 + 1)).2.2 = nI 44 then (rv t 4 (nI 0) 0 (e1 + 1)).2.2 + 1 else (rv t 4 (nI 0) 0 (e1 + 1)).2.2)) 0 3 = nI ((rv t 4 (nI 0) 0 (e1 + 1)).2.2 + 0) := by rw [mu_s, if_neg c_97]; rfl
          have k1 : (0 : Nat) = 0 → rF t s9 = rF2 t s9 (true, (vs ++ [(rv t 4 (nI 0) 0 (e1 + 1)).1]), (rv t 4 (nI 0) 0 (e1 + 1)).2.2) ∧ 0 < (vs ++ [(rv t 4 (nI 0) 0 (e1 + 1)).1]).length := fun _ => ⟨by rw [h2 rfl, rL_go z9, decide_eq_false (fun z => c_97 ((ch8_is (by omega) (by omega)).mpr z)), rL_no], by rw [List.length_append, List.length_singleton]; omega⟩
          have k2 : (0 : Nat) = 1 → rF t s9 = rF2 t s9 (rL t n1 true (vs ++ [(rv t 4 (nI 0) 0 (e1 + 1)).1]) (rv t 4 (nI 0) 0 (e1 + 1)).2.2) := fun z => absurd z (by decide)
          have k9 : (0 : Nat) = 1 → (rv t 4 (nI 0) 0 (e1 + 1)).2.2 < 60 := fun z => absurd z (by decide)
          refine lv_iconst (v := (nI 0)) hx hb dX8_readsPart_104 (by decide) ?_
          refine lv_istore (lv' := [(4, .int (nI 0)), (3, .int (nI 1)), (5, .int ((rv t 4 (nI 0) 0 (e1 + 1)).1)), (2, .int (nI i)), (1, .int (nI 1)), (0, .ref (ad L 0))]) hx hb dX8_readsPart_105 hl (by decide) rfl (fun ls hl => ?_)
          refine lv_goto (tgt := 28) hx hb dX8_readsPart_107 (by decide) ?_
          exact ih_28 0 n1 (vs ++ [(rv t 4 (nI 0) 0 (e1 + 1)).1]) ((rv t 4 (nI 0) 0 (e1 + 1)).2.2) (mu σ5 0 3 (nI (if ch8 t ((rv t 4 (nI 0) 0 (e1 + 1)).2.2) = (nI 44) then ((rv t 4 (nI 0) 0 (e1 + 1)).2.2) + 1 else ((rv t 4 (nI 0) 0 (e1 + 1)).2.2)))) k1 k2 k9 (by decide) (by omega) (by omega) hG5 hl5 (MC_at hc5 (by omega)) k8 (by omega) _ _ _ h (lv_sub hl [0, 1, 3, 4, 5] rfl)
        · have k8 : mu σ5 0 3 (nI (if ch8 t (rv t 4 (nI 0) 0 (e1 + 1)).2.2 = nI 44 then (rv t 4 (nI 0) 0 (e1 + 1)).2.2 + 1 else (rv t 4 (nI 0) 0 (e1 + 1)).2.2)) 0 3 = nI ((rv t 4 (nI 0) 0 (e1 + 1)).2.2 + 1) := by rw [mu_s, if_pos c_97]
          have k1 : (1 : Nat) = 0 → rF t s9 = rF2 t s9 (true, (vs ++ [(rv t 4 (nI 0) 0 (e1 + 1)).1]), (rv t 4 (nI 0) 0 (e1 + 1)).2.2) ∧ 0 < (vs ++ [(rv t 4 (nI 0) 0 (e1 + 1)).1]).length := fun z => absurd z (by decide)
          have k2 : (1 : Nat) = 1 → rF t s9 = rF2 t s9 (rL t n1 true (vs ++ [(rv t 4 (nI 0) 0 (e1 + 1)).1]) (rv t 4 (nI 0) 0 (e1 + 1)).2.2) := fun _ => by rw [h2 rfl, rL_go z9, decide_eq_true ((ch8_is (by omega) (by omega)).mp c_97)]
          have k9 : (1 : Nat) = 1 → (rv t 4 (nI 0) 0 (e1 + 1)).2.2 < 60 := fun _ => by have q9 := ch8_lt (by omega) c_97; have := hT.2.1; omega
          refine lv_iconst (v := (nI 1)) hx hb dX8_readsPart_100 (by decide) ?_
          refine lv_goto (tgt := 105) hx hb dX8_readsPart_101 (by decide) ?_
          refine lv_istore (lv' := [(4, .int (nI 1)), (3, .int (nI 1)), (5, .int ((rv t 4 (nI 0) 0 (e1 + 1)).1)), (2, .int (nI i)), (1, .int (nI 1)), (0, .ref (ad L 0))]) hx hb dX8_readsPart_105 hl (by decide) rfl (fun ls hl => ?_)
          refine lv_goto (tgt := 28) hx hb dX8_readsPart_107 (by decide) ?_
          exact ih_28 1 n1 (vs ++ [(rv t 4 (nI 0) 0 (e1 + 1)).1]) ((rv t 4 (nI 0) 0 (e1 + 1)).2.2) (mu σ5 0 3 (nI (if ch8 t ((rv t 4 (nI 0) 0 (e1 + 1)).2.2) = (nI 44) then ((rv t 4 (nI 0) 0 (e1 + 1)).2.2) + 1 else ((rv t 4 (nI 0) 0 (e1 + 1)).2.2)))) k1 k2 k9 (by decide) (by omega) (by omega) hG5 hl5 (MC_at hc5 (by omega)) k8 (by omega) _ _ _ h (lv_sub hl [0, 1, 3, 4, 5] rfl)
  exact LP_28 _ 1 60 ([]) (s9 + 1) (mu σ 0 3 (nI (s9 + 1 + 1))) (fun z => absurd z (by decide)) (fun _ => by rw [rF_y hd9, decide_eq_true ((ch8_is (by omega) (by omega)).mp c16)]) (fun _ => by have q9 := ch8_lt (by omega) c16; have := hT.2.1; omega) (by decide) (by omega) (by omega) hGi rfl (by show MC _ (setD X i (X.2.2 i)) hh t; rw [setD_id]; exact MC_at hc (by omega)) mu_s (Nat.lt_succ_self _) _ _ _ h (lv_sub hl [0, 1, 2, 4, 3] rfl)
