theorem mem_getD {α : Type} {d : α} {l : List α} {i : Nat} (h : i < l.length) : l.getD i d ∈ l := by
  rw [List.getD_eq_getElem?_getD, List.getElem?_eq_getElem h]
  exact List.getElem_mem h
theorem c_X7_floatBits_m (l : Launch) (L : Lay) (σ : St) {s w : Nat} (s2 : s < 16777216) (w1 : 1 ≤ w) (w2 : w < 16777216) : Mf l L yX7_floatBits (Cond.code yX7_floatBits cX7_floatBits 4 (some FieldType.int) :: qA) rX7_floatBits [.float (flM s w)] σ (some (.int (flI s w))) σ := by
  unfold flM flI
  by_cases q : s = 0
  · rw [if_pos q, if_pos q]
    exact c_X7_floatBits_z l L σ
  · rw [if_neg q, if_neg q]
    obtain ⟨c, E, h1, h2, h3, h4⟩ := fbN_n (show 1 ≤ s by omega) s2 w1 w2
    rw [h4]
    exact c_X7_floatBits l L σ h1 h2 h3

abbrev rX1_floatMiddle : Room := { frames := 1, cells := 0, slots := 0, locals := 21 }
theorem yd_X1_floatMiddle : ydV yX1_floatMiddle RX1 1 := ⟨rfl, by decide +kernel, by decide +kernel, by decide +kernel⟩
set_option maxHeartbeats 4000000 in
set_option maxRecDepth 100000 in
theorem c_X1_floatMiddle (l : Launch) (L : Lay) (σ : St) {k : Nat} {A : List Hp} (hk : kd k = 1) (hv : HV σ k A) {j s9 w9 : Nat} (hj : j < 2 ^ 31) (hw : h_w (A.getD j hd0) = nI w9) (hs : h_s (A.getD j hd0) = nI s9) (s2 : s9 < 16777216) (w1 : 1 ≤ w9) (w2 : w9 < 16777216) : Mf l L yX1_floatMiddle (Cond.code yX1_floatMiddle cX1_floatMiddle 3 (some FieldType.float) :: qA) rX1_floatMiddle [.ref (ad L k), .int (nI j)] σ (some (.float (flM s9 w9))) σ := by
  refine Mf.ofW (by decide) (Nat.le_of_ble_eq_true rfl) ?_
  intro p e s m args below meth c ls post hp hI S hr hlk hK h hl
  have hx := S.1
  have hb := S.2.1
  have hok := h.ok
  have hl : lv_has ls 3 [(0, .ref (ad L k)), (1, .int (nI j))] := hl
  refine lv_aload_n hx hb dX1_floatMiddle_0 rfl (lv_at hl 0 rfl) ?_
  refine g_weights S hK h hk q_56 dX1_floatMiddle_1 ?_
  refine lv_iload_n hx hb dX1_floatMiddle_4 rfl (lv_at hl 1 rfl) ?_
  refine q_V1 (ci := 4) S hI hK h [.int (nI j)] (c_X4_at l L σ (kd1_1 hk) (by omega)) (kd1_1 hk) rfl (by decide) q_271 q_213 q_214 q_3 q_215 yd_X4_at rfl ⟨⟨rfl, rfl⟩, ⟨(Nat.le_of_ble_eq_true rfl), (Nat.le_of_ble_eq_true rfl)⟩, Nat.le_refl _, Nat.le_refl _⟩ rfl (Nat.le_of_ble_eq_true rfl) hl.1 dX1_floatMiddle_5 (fun H locs h => ?_)
  refine cv_i (show ((σ (k + 1)).getD j 0 : Int32) = h_w (A.getD j hd0) from (hv.w _)) ?_
  refine cv_i (show (h_w (A.getD j hd0) : Int32) = nI w9 from hw) ?_
  refine lv_istore_n (lv' := [(2, .int (nI w9)), (0, .ref (ad L k)), (1, .int (nI j))]) hx hb dX1_floatMiddle_8 rfl hl (by decide) rfl (fun ls hl => ?_)
  refine lv_iload_n hx hb dX1_floatMiddle_9 rfl (lv_at hl 0 rfl) ?_
  refine b_if_le (tgt := 28) hx hb dX1_floatMiddle_10 (by decide) (by omega) (fun c_10 => absurd c_10 (by omega)) (fun c_10 => ?_)
  refine lv_aload_n hx hb dX1_floatMiddle_13 rfl (lv_at hl 1 rfl) ?_
  refine g_sums S hK h hk q_59 dX1_floatMiddle_14 ?_
  refine lv_iload_n hx hb dX1_floatMiddle_17 rfl (lv_at hl 2 rfl) ?_
  refine q_V1 (ci := 4) S hI hK h [.int (nI j)] (c_X4_at l L σ (kd1_3 hk) (by omega)) (kd1_3 hk) rfl (by decide) q_271 q_213 q_214 q_3 q_215 yd_X4_at rfl ⟨⟨rfl, rfl⟩, ⟨(Nat.le_of_ble_eq_true rfl), (Nat.le_of_ble_eq_true rfl)⟩, Nat.le_refl _, Nat.le_refl _⟩ rfl (Nat.le_of_ble_eq_true rfl) hl.1 dX1_floatMiddle_18 (fun H locs h => ?_)
  refine cv_i (show ((σ (k + 3)).getD j 0 : Int32) = h_s (A.getD j hd0) from (hv.s _)) ?_
  refine cv_i (show (h_s (A.getD j hd0) : Int32) = nI s9 from hs) ?_
  refine lv_i2f hx hb dX1_floatMiddle_21 ?_
  refine lv_iload_n hx hb dX1_floatMiddle_22 rfl (lv_at hl 0 rfl) ?_
  refine lv_i2f hx hb dX1_floatMiddle_23 ?_
  refine lv_fdiv hx hb dX1_floatMiddle_24 (by rw [flM_div s2 w1 w2]; exact flM_n s2 w1 w2) ?_
  refine cv_f (show (FP.fdiv (FP.i2f (nI s9)) (FP.i2f (nI w9)) : UInt32) = flM s9 w9 from (flM_div s2 w1 w2)) ?_
  refine lv_goto (tgt := 29) hx hb dX1_floatMiddle_25 (by decide) ?_
  exact e_f S hK h hr hlk dX1_floatMiddle_29 hp

abbrev rX7_heapOf : Room := { frames := 3, cells := 0, slots := 0, locals := 63 }
set_option maxHeartbeats 4000000 in
set_option maxRecDepth 100000 in
theorem c_X7_heapOf (l : Launch) (L : Lay) (σ : St) {X : SS} {hh : List SS} {t : List Int32} (hc : CR σ X hh t) (hX : XI X) {i : Nat} (hi : i < 3) (hG : ∀ x ∈ (X.2.2 i).1, GH x) (x w : Int32) : Mg l L yX7_heapOf (Cond.code yX7_heapOf cX7_heapOf 6 (some FieldType.int) :: qA) rX7_heapOf [.ref (ad L 244), .int (nI i), .int x, .int w] σ (fun r u => r = some (.int (cHo X i x w)) ∧ CR u X hh t) := by
  refine Mr_ofW (by decide) (Nat.le_of_ble_eq_true rfl) ?_
  intro p e s m args below meth c ls post hp hI S hr hlk hK h hl
  have hx := S.1
  have hb := S.2.1
  have hok := h.ok
  have hl : lv_has ls 6 [(0, .ref (ad L 244)), (1, .int (nI i)), (2, .int x), (3, .int w)] := hl
  have hst : σ 1 = [X.1, X.2.1] := hc.1.1
  have hok0 := hok
  have hD := CR_D hc hi
  obtain ⟨la, lb, lc, ld⟩ := hX.1 i hi
  unfold cHo at hp
  refine lv_aload_n hx hb dX7_heapOf_0 rfl (lv_at hl 0 rfl) ?_
  refine g_main S hK h (by decide) 0 0 (by decide) rfl rfl q_173 dX7_heapOf_1 ?_
  refine lv_iload_n hx hb dX7_heapOf_4 rfl (lv_at hl 1 rfl) ?_
  refine q_V1 (ci := 5) S hI hK h [.int (nI i)] (c_X5_digestAt l L σ (by decide) hi) (by decide) rfl (by decide) q_196 q_197 q_198 q_2 q_199 yd_X5_digestAt rfl ⟨⟨rfl, rfl⟩, ⟨(Nat.le_of_ble_eq_true rfl), (Nat.le_of_ble_eq_true rfl)⟩, Nat.le_refl _, Nat.le_refl _⟩ rfl (Nat.le_of_ble_eq_true rfl) hl.1 dX7_heapOf_5 (fun H locs h => ?_)
  refine lv_astore (lv' := [(4, .ref (ad L (3 + 14 * i))), (0, .ref (ad L 244)), (1, .int (nI i)), (2, .int x), (3, .int w)]) hx hb dX7_heapOf_8 hl (by decide) rfl (fun ls hl => ?_)
  refine lv_aload hx hb dX7_heapOf_10 (lv_at hl 0 rfl) ?_
  refine lv_ifnull hx hb dX7_heapOf_12 ?_
  refine lv_iload_n hx hb dX7_heapOf_15 rfl (lv_at hl 3 rfl) ?_
  refine lv_if_lt (tgt := 29) hx hb dX7_heapOf_16 (by decide) (fun c_16 => ?_) (fun c_16 => ?_)
  · rw [if_pos c_16] at hp
    refine lv_ldc (v := (-1000001 : Int32)) hx hb S.2.2.2.1 (S.2.2.2.2 _ q_203) dX7_heapOf_29 ?_
    exact e_i S hK h hr hlk dX7_heapOf_31 (hp _ _ ⟨rfl, hc⟩)
  · rw [if_neg c_16] at hp
    obtain ⟨n, hn, rfl⟩ := pos_nat c_16
    rw [nI_clamp hn] at hp
    refine lv_iload_n hx hb dX7_heapOf_19 rfl (lv_at hl 4 rfl) ?_
    refine lv_iconst (v := (nI 0)) hx hb dX7_heapOf_20 (by decide) ?_
    refine lv_bipush (v := (nI 6)) hx hb dX7_heapOf_21 (by decide) ?_
    refine q_S1 S hI hK h [.int w, .int (nI 0), .int (nI 6)] (c_X7_isWithin l L σ w (nI 0) (nI 6)) q_200 q_201 q_1 q_202 yd_X7_isWithin rfl ⟨⟨rfl, rfl⟩, ⟨(Nat.le_of_ble_eq_true rfl), (Nat.le_of_ble_eq_true rfl)⟩, Nat.le_refl _, Nat.le_refl _⟩ rfl (Nat.le_of_ble_eq_true rfl) hl.1 dX7_heapOf_23 (fun H locs h => ?_)
    refine z_ne (tgt := 32) hx hb dX7_heapOf_26 (by decide) (fun c_26 => ?_) (fun c_26 => ?_)
    · rw [if_neg (fun q => q c_26)] at hp
      obtain ⟨m9, -, hm2, rfl⟩ := rng_nat (a := 0) (b := 6) (by omega) (by omega) c_26
      rw [nI_clamp (show m9 < 2 ^ 31 by omega)] at hp
      refine lv_aload hx hb dX7_heapOf_32 (lv_at hl 0 rfl) ?_
      refine g_heaps S hK h (kd314 hi) q_80 dX7_heapOf_34 ?_
      refine lv_astore (lv' := [(5, .ref (ad L (3 + 14 * i + 1))), (4, .ref (ad L (3 + 14 * i))), (0, .ref (ad L 244)), (1, .int (nI i)), (2, .int (nI n)), (3, .int (nI m9))]) hx hb dX7_heapOf_37 hl (by decide) rfl (fun ls hl => ?_)
      refine lv_iload_n hx hb dX7_heapOf_39 rfl (lv_at hl 4 rfl) ?_
      refine lv_aload hx hb dX7_heapOf_40 (lv_at hl 0 rfl) ?_
      refine q_V1 (ci := 1) S hI hK h [] (c_X1_size l L σ (kd0_heaps (kd314 hi)) hD.1) (kd0_heaps (kd314 hi)) rfl (by decide) q_340 q_286 q_287 q_6 q_288 yd_X1_size rfl ⟨⟨rfl, rfl⟩, ⟨(Nat.le_of_ble_eq_true rfl), (Nat.le_of_ble_eq_true rfl)⟩, Nat.le_refl _, Nat.le_refl _⟩ rfl (Nat.le_of_ble_eq_true rfl) hl.1 dX7_heapOf_42 (fun H locs h => ?_)
      refine b_icmp_lt (tgt := 51) hx hb dX7_heapOf_45 (by decide) (by omega) (by omega) (fun c_45 => ?_) (fun c_45 => ?_)
      · rw [if_neg (fun q => absurd ((nI_leI (by omega) (by omega)).mp q) (by omega))] at hp
        obtain ⟨w9, s9, hw9, hs9, w91, w92, s92⟩ := GH_w (hG _ (mem_getD (d := hd0) c_45))
        refine lv_iload_n hx hb dX7_heapOf_51 rfl (lv_at hl 5 rfl) ?_
        rcases (show m9 = 0 ∨ m9 = 1 ∨ m9 = 2 ∨ m9 = 3 ∨ m9 = 4 ∨ m9 = 5 ∨ m9 = 6 by omega) with rfl | rfl | rfl | rfl | rfl | rfl | rfl
        · refine lv_tableIn (tgt := 92) hx hb dX7_heapOf_52 (by decide) (by decide) rfl (by decide) ?_
          refine lv_aload hx hb dX7_heapOf_92 (lv_at hl 0 rfl) ?_
          refine g_weights S hK h (kd0_heaps (kd314 hi)) q_58 dX7_heapOf_94 ?_
          refine lv_iload_n hx hb dX7_heapOf_97 rfl (lv_at hl 4 rfl) ?_
          refine q_V1 (ci := 4) S hI hK h [.int (nI n)] (c_X4_at l L σ (kd1_1 (kd0_heaps (kd314 hi))) (by omega)) (kd1_1 (kd0_heaps (kd314 hi))) rfl (by decide) q_338 q_213 q_214 q_3 q_215 yd_X4_at rfl ⟨⟨rfl, rfl⟩, ⟨(Nat.le_of_ble_eq_true rfl), (Nat.le_of_ble_eq_true rfl)⟩, Nat.le_refl _, Nat.le_refl _⟩ rfl (Nat.le_of_ble_eq_true rfl) hl.1 dX7_heapOf_98 (fun H locs h => ?_)
          refine cv_i (show ((σ (3 + 14 * i + 1 + 1)).getD n 0 : Int32) = h_w ((X.2.2 i).1.getD n hd0) from (hD.1.w _)) ?_
          exact e_i S hK h hr hlk dX7_heapOf_101 (hp _ _ ⟨rfl, hc⟩)
        · refine lv_tableIn (tgt := 102) hx hb dX7_heapOf_52 (by decide) (by decide) rfl (by decide) ?_
          refine lv_aload hx hb dX7_heapOf_102 (lv_at hl 0 rfl) ?_
          refine g_sums S hK h (kd0_heaps (kd314 hi)) q_61 dX7_heapOf_104 ?_
          refine lv_iload_n hx hb dX7_heapOf_107 rfl (lv_at hl 4 rfl) ?_
          refine q_V1 (ci := 4) S hI hK h [.int (nI n)] (c_X4_at l L σ (kd1_3 (kd0_heaps (kd314 hi))) (by omega)) (kd1_3 (kd0_heaps (kd314 hi))) rfl (by decide) q_338 q_213 q_214 q_3 q_215 yd_X4_at rfl ⟨⟨rfl, rfl⟩, ⟨(Nat.le_of_ble_eq_true rfl), (Nat.le_of_ble_eq_true rfl)⟩, Nat.le_refl _, Nat.le_refl _⟩ rfl (Nat.le_of_ble_eq_true rfl) hl.1 dX7_heapOf_108 (fun H locs h => ?_)
          refine cv_i (show ((σ (3 + 14 * i + 1 + 3)).getD n 0 : Int32) = h_s ((X.2.2 i).1.getD n hd0) from (hD.1.s _)) ?_
          exact e_i S hK h hr hlk dX7_heapOf_111 (hp _ _ ⟨rfl, hc⟩)
        · refine lv_tableIn (tgt := 112) hx hb dX7_heapOf_52 (by decide) (by decide) rfl (by decide) ?_
          refine lv_aload hx hb dX7_heapOf_112 (lv_at hl 0 rfl) ?_
          refine g_leasts S hK h (kd0_heaps (kd314 hi)) q_64 dX7_heapOf_114 ?_
          refine lv_iload_n hx hb dX7_heapOf_117 rfl (lv_at hl 4 rfl) ?_
          refine q_V1 (ci := 4) S hI hK h [.int (nI n)] (c_X4_at l L σ (kd1_5 (kd0_heaps (kd314 hi))) (by omega)) (kd1_5 (kd0_heaps (kd314 hi))) rfl (by decide) q_338 q_213 q_214 q_3 q_215 yd_X4_at rfl ⟨⟨rfl, rfl⟩, ⟨(Nat.le_of_ble_eq_true rfl), (Nat.le_of_ble_eq_true rfl)⟩, Nat.le_refl _, Nat.le_refl _⟩ rfl (Nat.le_of_ble_eq_true rfl) hl.1 dX7_heapOf_118 (fun H locs h => ?_)
          refine cv_i (show ((σ (3 + 14 * i + 1 + 5)).getD n 0 : Int32) = h_l ((X.2.2 i).1.getD n hd0) from (hD.1.l _)) ?_
          exact e_i S hK h hr hlk dX7_heapOf_121 (hp _ _ ⟨rfl, hc⟩)
        · refine lv_tableIn (tgt := 122) hx hb dX7_heapOf_52 (by decide) (by decide) rfl (by decide) ?_
          refine lv_aload hx hb dX7_heapOf_122 (lv_at hl 0 rfl) ?_
          refine g_greatests S hK h (kd0_heaps (kd314 hi)) q_67 dX7_heapOf_124 ?_
          refine lv_iload_n hx hb dX7_heapOf_127 rfl (lv_at hl 4 rfl) ?_
          refine q_V1 (ci := 4) S hI hK h [.int (nI n)] (c_X4_at l L σ (kd1_7 (kd0_heaps (kd314 hi))) (by omega)) (kd1_7 (kd0_heaps (kd314 hi))) rfl (by decide) q_338 q_213 q_214 q_3 q_215 yd_X4_at rfl ⟨⟨rfl, rfl⟩, ⟨(Nat.le_of_ble_eq_true rfl), (Nat.le_of_ble_eq_true rfl)⟩, Nat.le_refl _, Nat.le_refl _⟩ rfl (Nat.le_of_ble_eq_true rfl) hl.1 dX7_heapOf_128 (fun H locs h => ?_)
          refine cv_i (show ((σ (3 + 14 * i + 1 + 7)).getD n 0 : Int32) = h_g ((X.2.2 i).1.getD n hd0) from (hD.1.g _)) ?_
          exact e_i S hK h hr hlk dX7_heapOf_131 (hp _ _ ⟨rfl, hc⟩)
        · refine lv_tableIn (tgt := 132) hx hb dX7_heapOf_52 (by decide) (by decide) rfl (by decide) ?_
          refine lv_aload hx hb dX7_heapOf_132 (lv_at hl 0 rfl) ?_
          refine lv_iload_n hx hb dX7_heapOf_134 rfl (lv_at hl 4 rfl) ?_
          refine q_V1 (ci := 1) S hI hK h [.int (nI n)] (c_X1_wholeMiddle l L σ (kd0_heaps (kd314 hi)) hD.1 (by omega)) (kd0_heaps (kd314 hi)) rfl (by decide) q_417 q_418 q_419 q_6 q_420 yd_X1_wholeMiddle rfl ⟨⟨rfl, rfl⟩, ⟨(Nat.le_of_ble_eq_true rfl), (Nat.le_of_ble_eq_true rfl)⟩, Nat.le_refl _, Nat.le_refl _⟩ rfl (Nat.le_of_ble_eq_true rfl) hl.1 dX7_heapOf_135 (fun H locs h => ?_)
          exact e_i S hK h hr hlk dX7_heapOf_138 (hp _ _ ⟨rfl, hc⟩)
        · refine lv_tableIn (tgt := 139) hx hb dX7_heapOf_52 (by decide) (by decide) rfl (by decide) ?_
          refine lv_aload hx hb dX7_heapOf_139 (lv_at hl 0 rfl) ?_
          refine lv_iload_n hx hb dX7_heapOf_141 rfl (lv_at hl 4 rfl) ?_
          refine q_V1 (ci := 1) S hI hK h [.int (nI n)] (c_X1_weightAheadOf l L σ (kd0_heaps (kd314 hi)) hD.1 (by omega)) (kd0_heaps (kd314 hi)) rfl (by decide) q_421 q_422 q_423 q_6 q_424 yd_X1_weightAheadOf rfl ⟨⟨rfl, rfl⟩, ⟨(Nat.le_of_ble_eq_true rfl), (Nat.le_of_ble_eq_true rfl)⟩, Nat.le_refl _, Nat.le_refl _⟩ rfl (Nat.le_of_ble_eq_true rfl) hl.1 dX7_heapOf_142 (fun H locs h => ?_)
          exact e_i S hK h hr hlk dX7_heapOf_145 (hp _ _ ⟨rfl, hc⟩)
        · refine lv_tableOut (tgt := 146) hx hb dX7_heapOf_52 (Or.inr (by decide)) (by decide) ?_
          refine lv_aload hx hb dX7_heapOf_146 (lv_at hl 0 rfl) ?_
          refine lv_iload_n hx hb dX7_heapOf_148 rfl (lv_at hl 4 rfl) ?_
          refine q_V1 (ci := 1) S hI hK h [.int (nI n)] (c_X1_floatMiddle l L σ (kd0_heaps (kd314 hi)) hD.1 (by omega) hw9 hs9 s92 w91 w92) (kd0_heaps (kd314 hi)) rfl (by decide) q_425 q_426 q_427 q_6 q_428 yd_X1_floatMiddle rfl ⟨⟨rfl, rfl⟩, ⟨(Nat.le_of_ble_eq_true rfl), (Nat.le_of_ble_eq_true rfl)⟩, Nat.le_refl _, Nat.le_refl _⟩ rfl (Nat.le_of_ble_eq_true rfl) hl.1 dX7_heapOf_149 (fun H locs h => ?_)
          refine q_S1 S hI hK h [.float (flM s9 w9)] (c_X7_floatBits_m l L σ s92 w91 w92) q_429 q_430 q_1 q_431 yd_X7_floatBits rfl ⟨⟨rfl, rfl⟩, ⟨(Nat.le_of_ble_eq_true rfl), (Nat.le_of_ble_eq_true rfl)⟩, Nat.le_refl _, Nat.le_refl _⟩ rfl (Nat.le_of_ble_eq_true rfl) hl.1 dX7_heapOf_152 (fun H locs h => ?_)
          refine cv_i (show (flI s9 w9 : Int32) = hoV (X.2.2 i).1 n 6 from (by show flI s9 w9 = flI _ _; rw [hs9, hw9, nI_clamp (by omega), nI_clamp (by omega)])) ?_
          exact e_i S hK h hr hlk dX7_heapOf_155 (hp _ _ ⟨rfl, hc⟩)
      · rw [if_pos ((nI_leI (by omega) (by omega)).mpr c_45)] at hp
        refine lv_ldc (v := (-1000004 : Int32)) hx hb S.2.2.2.1 (S.2.2.2.2 _ q_416) dX7_heapOf_48 ?_
        exact e_i S hK h hr hlk dX7_heapOf_50 (hp _ _ ⟨rfl, hc⟩)
    · rw [if_pos c_26] at hp
      refine lv_ldc (v := (-1000001 : Int32)) hx hb S.2.2.2.1 (S.2.2.2.2 _ q_203) dX7_heapOf_29 ?_
      exact e_i S hK h hr hlk dX7_heapOf_31 (hp _ _ ⟨rfl, hc⟩)
