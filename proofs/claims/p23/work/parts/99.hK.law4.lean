set_option maxHeartbeats 8000000 in
set_option maxRecDepth 100000 in
theorem law_loop {p : Program} {l : Launch} {e : Env} {s U : State} {m : MethodId} {below : List Frame} {meth : Method} {c : Code} {b : Nat} {Lc L : Lay} {Ls : Nat} {xs : Nat → Int32} (S : CallFix p m c cL_law 24 U #[Value.ref b] qA RL) (hV : VA (fun q => U.heap.size ≤ q) Lc L) (hK : Kn9 Lc L U) (hL : Ls ≤ 260) (hX : va_X b Ls xs U U.heap) (hbl : b < U.heap.size) (E : ∀ (H : Heap) (locs : List Loc) (ls : Array Slot), va_S (fun q => U.heap.size ≤ q) U.heap H locs → W p l e room_1 U m #[Value.ref b] below meth c H locs 600000 7302250 (lw_Z below #[Value.ref b] s) (F0 m 752 ls [])) :
    ∀ (n tn : Nat) (X : SS) (hh : List SS) (σ : Me) (H : Heap) (locs : List Loc) (ls : Array Slot), tn ≤ 16 → 16 - tn < n → HdA (fun q => U.heap.size ≤ q) Lc L X hh U.heap H σ locs → IV X σ → lv_has ls 24 [(12, .int (nI tn)), (11, .ref (ad L 9)), (10, .ref (ad L 8)), (9, .ref (ad L 7)), (8, .ref (ad L 6)), (7, .ref (ad L 5)), (6, .ref (ad L 4)), (5, .ref (ad L 3)), (4, .ref (ad L 2)), (3, .ref (ad L 1)), (2, .ref (ad L 0)), (1, .ref (ad Lc 244)), (0, .ref b)] → W p l e room_1 U m #[Value.ref b] below meth c H locs 600000 7302250 (lw_Z below #[Value.ref b] s) (F0 m 75 ls []) := by
  have hx := S.1
  have hb := S.2.1
  have hbA : ¬ (fun q => U.heap.size ≤ q) b := Nat.not_le.mpr hbl
  intro n
  induction n with
  | zero => intros; omega
  | succ n ih =>
    intro tn X hh σ H locs ls htn hm9 h hI hl
    have hF := hI.1
    obtain ⟨la0, lb0, lc0, -⟩ := (hF.1.1 0 (by omega)).1
    obtain ⟨la1, lb1, lc1, -⟩ := (hF.1.1 1 (by omega)).1
    refine lv_iload hx hb dL_law_75 (lv_at hl 0 rfl) ?_
    refine lv_bipush (v := (nI 16)) hx hb dL_law_77 (by decide) ?_
    refine b_icmp_ge (tgt := 752) hx hb dL_law_79 (by decide) (by omega) (by omega) (fun c_79 => ?_) (fun c_79 => ?_)
    · exact E _ _ _ h.2
    · refine lv_aload_n hx hb dL_law_82 rfl (lv_at hl 12 rfl) ?_
      refine lv_iload hx hb dL_law_83 (lv_at hl 0 rfl) ?_
      refine k_cell S hX hbl hbA h (k := tn) (by omega) (by omega) q_384 q_385 q_0 q_386 yd_L_cell ⟨⟨rfl, rfl⟩, ⟨(Nat.le_of_ble_eq_true rfl), (Nat.le_of_ble_eq_true rfl)⟩, (Nat.le_of_ble_eq_true rfl), (Nat.le_of_ble_eq_true rfl)⟩ rfl (Nat.le_of_ble_eq_true rfl) hl.1 dL_law_85 (fun v13 H locs h => ?_)
      refine lv_istore (lv' := [(13, .int v13), (12, .int (nI tn)), (11, .ref (ad L 9)), (10, .ref (ad L 8)), (9, .ref (ad L 7)), (8, .ref (ad L 6)), (7, .ref (ad L 5)), (6, .ref (ad L 4)), (5, .ref (ad L 3)), (4, .ref (ad L 2)), (3, .ref (ad L 1)), (2, .ref (ad L 0)), (1, .ref (ad Lc 244)), (0, .ref b)]) hx hb dL_law_88 hl (by decide) rfl (fun ls hl => ?_)
      refine lv_iload hx hb dL_law_90 (lv_at hl 0 rfl) ?_
      refine lv_bipush (v := (nI 9)) hx hb dL_law_92 (by decide) ?_
      refine k_S1 S hV hK h [.int v13, .int (nI 9)] (c_L_low l Lc L X hh σ (n := 9) (by omega) (by omega) v13) q_389 q_390 q_0 q_391 yd_L_low rfl ⟨⟨rfl, rfl⟩, ⟨(Nat.le_of_ble_eq_true rfl), (Nat.le_of_ble_eq_true rfl)⟩, (Nat.le_of_ble_eq_true rfl), (Nat.le_of_ble_eq_true rfl)⟩ rfl (Nat.le_of_ble_eq_true rfl) hl.1 dL_law_94 (fun H locs h => ?_)
      obtain ⟨kn, ekn⟩ : ∃ z, z = lowN v13 9 := ⟨_, rfl⟩
      have hkn : kn < 9 := by rw [ekn]; exact lowN_lt (by omega)
      refine cv_i (show (nI (lowN v13 9) : Int32) = nI kn from (by rw [ekn])) ?_
      refine lv_istore (lv' := [(14, .int (nI kn)), (13, .int v13), (12, .int (nI tn)), (11, .ref (ad L 9)), (10, .ref (ad L 8)), (9, .ref (ad L 7)), (8, .ref (ad L 6)), (7, .ref (ad L 5)), (6, .ref (ad L 4)), (5, .ref (ad L 3)), (4, .ref (ad L 2)), (3, .ref (ad L 1)), (2, .ref (ad L 0)), (1, .ref (ad Lc 244)), (0, .ref b)]) hx hb dL_law_97 hl (by decide) rfl (fun ls hl => ?_)
      refine lv_iload hx hb dL_law_99 (lv_at hl 1 rfl) ?_
      refine lv_iconst (v := (nI 4)) hx hb dL_law_101 (by decide) ?_
      refine lv_ishr hx hb dL_law_102 ?_
      refine lv_iconst (v := (nI 2)) hx hb dL_law_103 (by decide) ?_
      refine k_S1 S hV hK h [.int (v13 >>> ((nI 4) &&& 31)), .int (nI 2)] (c_L_low l Lc L X hh σ (n := 2) (by omega) (by omega) (v13 >>> ((nI 4) &&& 31))) q_389 q_390 q_0 q_391 yd_L_low rfl ⟨⟨rfl, rfl⟩, ⟨(Nat.le_of_ble_eq_true rfl), (Nat.le_of_ble_eq_true rfl)⟩, (Nat.le_of_ble_eq_true rfl), (Nat.le_of_ble_eq_true rfl)⟩ rfl (Nat.le_of_ble_eq_true rfl) hl.1 dL_law_104 (fun H locs h => ?_)
      obtain ⟨d, ed⟩ : ∃ z, z = lowN (v13 >>> (nI 4 &&& 31)) 2 := ⟨_, rfl⟩
      have hd : d < 2 := by rw [ed]; exact lowN_lt (by omega)
      refine cv_i (show (nI (lowN (v13 >>> ((nI 4) &&& 31)) 2) : Int32) = nI d from (by rw [ed])) ?_
      refine lv_istore (lv' := [(15, .int (nI d)), (14, .int (nI kn)), (13, .int v13), (12, .int (nI tn)), (11, .ref (ad L 9)), (10, .ref (ad L 8)), (9, .ref (ad L 7)), (8, .ref (ad L 6)), (7, .ref (ad L 5)), (6, .ref (ad L 4)), (5, .ref (ad L 3)), (4, .ref (ad L 2)), (3, .ref (ad L 1)), (2, .ref (ad L 0)), (1, .ref (ad Lc 244)), (0, .ref b)]) hx hb dL_law_107 hl (by decide) rfl (fun ls hl => ?_)
      clear ed
      rcases (show d = 0 ∨ d = 1 by omega) with rfl | rfl
      · refine lv_iload hx hb dL_law_109 (lv_at hl 0 rfl) ?_
        refine b_if_ne (tgt := 118) hx hb dL_law_111 (by decide) (by decide) (fun c9 => absurd c9 (by decide)) (fun _ => ?_)
        refine lv_aload_n hx hb dL_law_114 rfl (lv_at hl 12 rfl) ?_
        refine lv_goto (tgt := 120) hx hb dL_law_115 (by decide) ?_
        refine lv_astore (lv' := [(16, .ref (ad L 1)), (15, .int (nI 0)), (14, .int (nI kn)), (13, .int v13), (12, .int (nI tn)), (11, .ref (ad L 9)), (10, .ref (ad L 8)), (9, .ref (ad L 7)), (8, .ref (ad L 6)), (7, .ref (ad L 5)), (6, .ref (ad L 4)), (5, .ref (ad L 3)), (4, .ref (ad L 2)), (3, .ref (ad L 1)), (2, .ref (ad L 0)), (1, .ref (ad Lc 244)), (0, .ref b)]) hx hb dL_law_120 hl (by decide) rfl (fun ls hl => ?_)
        refine lv_iload hx hb dL_law_122 (lv_at hl 1 rfl) ?_
        refine b_if_ne (tgt := 132) hx hb dL_law_124 (by decide) (by decide) (fun c9 => absurd c9 (by decide)) (fun _ => ?_)
        refine lv_aload hx hb dL_law_127 (lv_at hl 11 rfl) ?_
        refine lv_goto (tgt := 134) hx hb dL_law_129 (by decide) ?_
        refine lv_astore (lv' := [(17, .ref (ad L 3)), (16, .ref (ad L 1)), (15, .int (nI 0)), (14, .int (nI kn)), (13, .int v13), (12, .int (nI tn)), (11, .ref (ad L 9)), (10, .ref (ad L 8)), (9, .ref (ad L 7)), (8, .ref (ad L 6)), (7, .ref (ad L 5)), (6, .ref (ad L 4)), (5, .ref (ad L 3)), (4, .ref (ad L 2)), (3, .ref (ad L 1)), (2, .ref (ad L 0)), (1, .ref (ad Lc 244)), (0, .ref b)]) hx hb dL_law_134 hl (by decide) rfl (fun ls hl => ?_)
        refine lv_iload hx hb dL_law_136 (lv_at hl 2 rfl) ?_
        refine b_if_ne (tgt := 146) hx hb dL_law_138 (by decide) (by decide) (fun c9 => absurd c9 (by decide)) (fun _ => ?_)
        refine lv_aload hx hb dL_law_141 (lv_at hl 10 rfl) ?_
        refine lv_goto (tgt := 148) hx hb dL_law_143 (by decide) ?_
        refine lv_astore (lv' := [(18, .ref (ad L 5)), (17, .ref (ad L 3)), (16, .ref (ad L 1)), (15, .int (nI 0)), (14, .int (nI kn)), (13, .int v13), (12, .int (nI tn)), (11, .ref (ad L 9)), (10, .ref (ad L 8)), (9, .ref (ad L 7)), (8, .ref (ad L 6)), (7, .ref (ad L 5)), (6, .ref (ad L 4)), (5, .ref (ad L 3)), (4, .ref (ad L 2)), (3, .ref (ad L 1)), (2, .ref (ad L 0)), (1, .ref (ad Lc 244)), (0, .ref b)]) hx hb dL_law_148 hl (by decide) rfl (fun ls hl => ?_)
        refine lv_iload hx hb dL_law_150 (lv_at hl 3 rfl) ?_
        refine b_if_ne (tgt := 160) hx hb dL_law_152 (by decide) (by decide) (fun c9 => absurd c9 (by decide)) (fun _ => ?_)
        refine lv_aload hx hb dL_law_155 (lv_at hl 9 rfl) ?_
        refine lv_goto (tgt := 162) hx hb dL_law_157 (by decide) ?_
        refine lv_astore (lv' := [(19, .ref (ad L 7)), (18, .ref (ad L 5)), (17, .ref (ad L 3)), (16, .ref (ad L 1)), (15, .int (nI 0)), (14, .int (nI kn)), (13, .int v13), (12, .int (nI tn)), (11, .ref (ad L 9)), (10, .ref (ad L 8)), (9, .ref (ad L 7)), (8, .ref (ad L 6)), (7, .ref (ad L 5)), (6, .ref (ad L 4)), (5, .ref (ad L 3)), (4, .ref (ad L 2)), (3, .ref (ad L 1)), (2, .ref (ad L 0)), (1, .ref (ad Lc 244)), (0, .ref b)]) hx hb dL_law_162 hl (by decide) rfl (fun ls hl => ?_)
        refine lv_aload hx hb dL_law_164 (lv_at hl 10 rfl) ?_
        refine lv_iconst (v := (nI 0)) hx hb dL_law_166 (by decide) ?_
        refine g9_el (n := 4) S hK h (by decide) rfl (by omega) dL_law_167 ?_
        refine cv_i (show (σ 7 0 : Int32) = nI ((X.2.2 0).1.length) from (hI.2.1 0 (by omega)).2.2.2.1) ?_
        refine lv_aload hx hb dL_law_168 (lv_at hl 10 rfl) ?_
        refine lv_iconst (v := (nI 1)) hx hb dL_law_170 (by decide) ?_
        refine g9_el (n := 4) S hK h (by decide) rfl (by omega) dL_law_171 ?_
        refine cv_i (show (σ 7 1 : Int32) = nI ((X.2.2 0).2.1.length) from (hI.2.1 0 (by omega)).2.2.2.2.1) ?_
        refine a_iadd hx hb dL_law_172 ?_
        refine lv_bipush (v := (nI 13)) hx hb dL_law_173 (by decide) ?_
        refine b_icmp_gt (tgt := 752) hx hb dL_law_175 (by decide) (by omega) (by omega) (fun c_175 => ?_) (fun c_175 => ?_)
        · exact E _ _ _ h.2
        · refine lv_aload hx hb dL_law_178 (lv_at hl 9 rfl) ?_
          refine lv_iconst (v := (nI 0)) hx hb dL_law_180 (by decide) ?_
          refine g9_el (n := 4) S hK h (by decide) rfl (by omega) dL_law_181 ?_
          refine cv_i (show (σ 8 0 : Int32) = nI ((X.2.2 1).1.length) from (hI.2.1 1 (by omega)).2.2.2.1) ?_
          refine lv_aload hx hb dL_law_182 (lv_at hl 9 rfl) ?_
          refine lv_iconst (v := (nI 1)) hx hb dL_law_184 (by decide) ?_
          refine g9_el (n := 4) S hK h (by decide) rfl (by omega) dL_law_185 ?_
          refine cv_i (show (σ 8 1 : Int32) = nI ((X.2.2 1).2.1.length) from (hI.2.1 1 (by omega)).2.2.2.2.1) ?_
          refine a_iadd hx hb dL_law_186 ?_
          refine lv_bipush (v := (nI 13)) hx hb dL_law_187 (by decide) ?_
          refine b_icmp_gt (tgt := 752) hx hb dL_law_189 (by decide) (by omega) (by omega) (fun c_189 => ?_) (fun c_189 => ?_)
          · exact E _ _ _ h.2
          · refine lv_aload hx hb dL_law_192 (lv_at hl 10 rfl) ?_
            refine lv_iconst (v := (nI 2)) hx hb dL_law_194 (by decide) ?_
            refine g9_el (n := 4) S hK h (by decide) rfl (by omega) dL_law_195 ?_
            refine cv_i (show (σ 7 2 : Int32) = nI ((X.2.2 0).2.2.1.length) from (hI.2.1 0 (by omega)).2.2.2.2.2.1) ?_
            refine lv_aload hx hb dL_law_196 (lv_at hl 9 rfl) ?_
            refine lv_iconst (v := (nI 2)) hx hb dL_law_198 (by decide) ?_
            refine g9_el (n := 4) S hK h (by decide) rfl (by omega) dL_law_199 ?_
            refine cv_i (show (σ 8 2 : Int32) = nI ((X.2.2 1).2.2.1.length) from (hI.2.1 1 (by omega)).2.2.2.2.2.1) ?_
            refine a_iadd hx hb dL_law_200 ?_
            refine lv_bipush (v := (nI 34)) hx hb dL_law_201 (by decide) ?_
            refine b_icmp_le (tgt := 209) hx hb dL_law_203 (by decide) (by omega) (by omega) (fun c_203 => ?_) (fun c_203 => ?_)
            · exact lw_turn S hV hK h hI (BD_of c_175 c_189 c_203) (d := 0) (by omega) hkn c_175 c_189 c_203 (lv_sub hl [6, 7, 8, 9, 10, 11, 12, 13, 14, 15, 16, 17, 18, 19, 5, 4, 3, 2, 1, 0] rfl) (fun X2 hh2 σ2 H locs ls h hi hb hl => lw_tail S hV hK h hi hb hl (fun X3 hh3 σ3 H locs ls h hi hl => ih (tn + 1) X3 hh3 σ3 H locs ls (by omega) (by omega) h hi hl)) E
            · refine lv_goto (tgt := 752) hx hb dL_law_206 (by decide) ?_
              exact E _ _ _ h.2
      · refine lv_iload hx hb dL_law_109 (lv_at hl 0 rfl) ?_
        refine b_if_ne (tgt := 118) hx hb dL_law_111 (by decide) (by decide) (fun _ => ?_) (fun c9 => absurd c9 (by decide))
        refine lv_aload hx hb dL_law_118 (lv_at hl 11 rfl) ?_
        refine lv_astore (lv' := [(16, .ref (ad L 2)), (15, .int (nI 1)), (14, .int (nI kn)), (13, .int v13), (12, .int (nI tn)), (11, .ref (ad L 9)), (10, .ref (ad L 8)), (9, .ref (ad L 7)), (8, .ref (ad L 6)), (7, .ref (ad L 5)), (6, .ref (ad L 4)), (5, .ref (ad L 3)), (4, .ref (ad L 2)), (3, .ref (ad L 1)), (2, .ref (ad L 0)), (1, .ref (ad Lc 244)), (0, .ref b)]) hx hb dL_law_120 hl (by decide) rfl (fun ls hl => ?_)
        refine lv_iload hx hb dL_law_122 (lv_at hl 1 rfl) ?_
        refine b_if_ne (tgt := 132) hx hb dL_law_124 (by decide) (by decide) (fun _ => ?_) (fun c9 => absurd c9 (by decide))
        refine lv_aload hx hb dL_law_132 (lv_at hl 10 rfl) ?_
        refine lv_astore (lv' := [(17, .ref (ad L 4)), (16, .ref (ad L 2)), (15, .int (nI 1)), (14, .int (nI kn)), (13, .int v13), (12, .int (nI tn)), (11, .ref (ad L 9)), (10, .ref (ad L 8)), (9, .ref (ad L 7)), (8, .ref (ad L 6)), (7, .ref (ad L 5)), (6, .ref (ad L 4)), (5, .ref (ad L 3)), (4, .ref (ad L 2)), (3, .ref (ad L 1)), (2, .ref (ad L 0)), (1, .ref (ad Lc 244)), (0, .ref b)]) hx hb dL_law_134 hl (by decide) rfl (fun ls hl => ?_)
        refine lv_iload hx hb dL_law_136 (lv_at hl 2 rfl) ?_
        refine b_if_ne (tgt := 146) hx hb dL_law_138 (by decide) (by decide) (fun _ => ?_) (fun c9 => absurd c9 (by decide))
        refine lv_aload hx hb dL_law_146 (lv_at hl 9 rfl) ?_
        refine lv_astore (lv' := [(18, .ref (ad L 6)), (17, .ref (ad L 4)), (16, .ref (ad L 2)), (15, .int (nI 1)), (14, .int (nI kn)), (13, .int v13), (12, .int (nI tn)), (11, .ref (ad L 9)), (10, .ref (ad L 8)), (9, .ref (ad L 7)), (8, .ref (ad L 6)), (7, .ref (ad L 5)), (6, .ref (ad L 4)), (5, .ref (ad L 3)), (4, .ref (ad L 2)), (3, .ref (ad L 1)), (2, .ref (ad L 0)), (1, .ref (ad Lc 244)), (0, .ref b)]) hx hb dL_law_148 hl (by decide) rfl (fun ls hl => ?_)
        refine lv_iload hx hb dL_law_150 (lv_at hl 3 rfl) ?_
        refine b_if_ne (tgt := 160) hx hb dL_law_152 (by decide) (by decide) (fun _ => ?_) (fun c9 => absurd c9 (by decide))
        refine lv_aload hx hb dL_law_160 (lv_at hl 8 rfl) ?_
        refine lv_astore (lv' := [(19, .ref (ad L 8)), (18, .ref (ad L 6)), (17, .ref (ad L 4)), (16, .ref (ad L 2)), (15, .int (nI 1)), (14, .int (nI kn)), (13, .int v13), (12, .int (nI tn)), (11, .ref (ad L 9)), (10, .ref (ad L 8)), (9, .ref (ad L 7)), (8, .ref (ad L 6)), (7, .ref (ad L 5)), (6, .ref (ad L 4)), (5, .ref (ad L 3)), (4, .ref (ad L 2)), (3, .ref (ad L 1)), (2, .ref (ad L 0)), (1, .ref (ad Lc 244)), (0, .ref b)]) hx hb dL_law_162 hl (by decide) rfl (fun ls hl => ?_)
        refine lv_aload hx hb dL_law_164 (lv_at hl 10 rfl) ?_
        refine lv_iconst (v := (nI 0)) hx hb dL_law_166 (by decide) ?_
        refine g9_el (n := 4) S hK h (by decide) rfl (by omega) dL_law_167 ?_
        refine cv_i (show (σ 7 0 : Int32) = nI ((X.2.2 0).1.length) from (hI.2.1 0 (by omega)).2.2.2.1) ?_
        refine lv_aload hx hb dL_law_168 (lv_at hl 10 rfl) ?_
        refine lv_iconst (v := (nI 1)) hx hb dL_law_170 (by decide) ?_
        refine g9_el (n := 4) S hK h (by decide) rfl (by omega) dL_law_171 ?_
        refine cv_i (show (σ 7 1 : Int32) = nI ((X.2.2 0).2.1.length) from (hI.2.1 0 (by omega)).2.2.2.2.1) ?_
        refine a_iadd hx hb dL_law_172 ?_
        refine lv_bipush (v := (nI 13)) hx hb dL_law_173 (by decide) ?_
        refine b_icmp_gt (tgt := 752) hx hb dL_law_175 (by decide) (by omega) (by omega) (fun c_175 => ?_) (fun c_175 => ?_)
        · exact E _ _ _ h.2
        · refine lv_aload hx hb dL_law_178 (lv_at hl 9 rfl) ?_
          refine lv_iconst (v := (nI 0)) hx hb dL_law_180 (by decide) ?_
          refine g9_el (n := 4) S hK h (by decide) rfl (by omega) dL_law_181 ?_
          refine cv_i (show (σ 8 0 : Int32) = nI ((X.2.2 1).1.length) from (hI.2.1 1 (by omega)).2.2.2.1) ?_
          refine lv_aload hx hb dL_law_182 (lv_at hl 9 rfl) ?_
          refine lv_iconst (v := (nI 1)) hx hb dL_law_184 (by decide) ?_
          refine g9_el (n := 4) S hK h (by decide) rfl (by omega) dL_law_185 ?_
          refine cv_i (show (σ 8 1 : Int32) = nI ((X.2.2 1).2.1.length) from (hI.2.1 1 (by omega)).2.2.2.2.1) ?_
          refine a_iadd hx hb dL_law_186 ?_
          refine lv_bipush (v := (nI 13)) hx hb dL_law_187 (by decide) ?_
          refine b_icmp_gt (tgt := 752) hx hb dL_law_189 (by decide) (by omega) (by omega) (fun c_189 => ?_) (fun c_189 => ?_)
          · exact E _ _ _ h.2
          · refine lv_aload hx hb dL_law_192 (lv_at hl 10 rfl) ?_
            refine lv_iconst (v := (nI 2)) hx hb dL_law_194 (by decide) ?_
            refine g9_el (n := 4) S hK h (by decide) rfl (by omega) dL_law_195 ?_
            refine cv_i (show (σ 7 2 : Int32) = nI ((X.2.2 0).2.2.1.length) from (hI.2.1 0 (by omega)).2.2.2.2.2.1) ?_
            refine lv_aload hx hb dL_law_196 (lv_at hl 9 rfl) ?_
            refine lv_iconst (v := (nI 2)) hx hb dL_law_198 (by decide) ?_
            refine g9_el (n := 4) S hK h (by decide) rfl (by omega) dL_law_199 ?_
            refine cv_i (show (σ 8 2 : Int32) = nI ((X.2.2 1).2.2.1.length) from (hI.2.1 1 (by omega)).2.2.2.2.2.1) ?_
            refine a_iadd hx hb dL_law_200 ?_
            refine lv_bipush (v := (nI 34)) hx hb dL_law_201 (by decide) ?_
            refine b_icmp_le (tgt := 209) hx hb dL_law_203 (by decide) (by omega) (by omega) (fun c_203 => ?_) (fun c_203 => ?_)
            · exact lw_turn S hV hK h hI (BD_of c_175 c_189 c_203) (d := 1) (by omega) hkn c_175 c_189 c_203 (lv_sub hl [6, 7, 8, 9, 10, 11, 12, 13, 14, 15, 16, 17, 18, 19, 5, 4, 3, 2, 1, 0] rfl) (fun X2 hh2 σ2 H locs ls h hi hb hl => lw_tail S hV hK h hi hb hl (fun X3 hh3 σ3 H locs ls h hi hl => ih (tn + 1) X3 hh3 σ3 H locs ls (by omega) (by omega) h hi hl)) E
            · refine lv_goto (tgt := 752) hx hb dL_law_206 (by decide) ?_
              exact E _ _ _ h.2