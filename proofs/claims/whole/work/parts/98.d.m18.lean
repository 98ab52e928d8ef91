abbrev rX8_floatBits : Room := { frames := 0, cells := 0, slots := 0, locals := 0 }
theorem yd_X8_floatBits : ydV yX8_floatBits RX8 2 := ⟨rfl, by decide +kernel, by decide +kernel, by decide +kernel⟩
set_option maxHeartbeats 4000000 in
set_option maxRecDepth 100000 in
theorem c_X8_floatBits (l : Launch) (L : Lay) (σ : Me) {s9 w9 : Nat} (s2 : s9 < 16777216) (w1 : 1 ≤ w9) (w2 : w9 < 16777216) : Mf8 l L yX8_floatBits (Cond.code yX8_floatBits cX8_floatBits 9 (some FieldType.int) :: qA) rX8_floatBits [.int (nI s9), .int (nI w9)] σ (some (.int (flI s9 w9))) σ := by
  refine Mf8.ofW (by decide) (Nat.le_of_ble_eq_true rfl) ?_
  intro p e s m args below meth c ls post hp hI S hr hlk hK h hl
  have hx := S.1
  have hb := S.2.1
  have hl : lv_has ls 9 [(0, .int (nI s9)), (1, .int (nI w9))] := hl
  refine lv_iload_n hx hb dX8_floatBits_0 rfl (lv_at hl 0 rfl) ?_
  refine b_if_ne (tgt := 6) hx hb dX8_floatBits_1 (by decide) (by omega) (fun c_1 => ?_) (fun c_1 => ?_)
  · refine lv_iload_n hx hb dX8_floatBits_6 rfl (lv_at hl 0 rfl) ?_
    refine lv_i2l (v := (nI s9).toInt64) hx hb dX8_floatBits_7 rfl ?_
    refine cv_l (show ((nI s9).toInt64 : Int64) = nJ s9 from nJ_i2l (by omega)) ?_
    refine lv_lstore_n (lv' := [(2, .long (nJ s9)), (0, .int (nI s9)), (1, .int (nI w9))]) hx hb dX8_floatBits_8 rfl hl (by decide) rfl (fun ls hl => ?_)
    refine lv_iload_n hx hb dX8_floatBits_9 rfl (lv_at hl 2 rfl) ?_
    refine lv_i2l (v := (nI w9).toInt64) hx hb dX8_floatBits_10 rfl ?_
    refine cv_l (show ((nI w9).toInt64 : Int64) = nJ w9 from nJ_i2l (by omega)) ?_
    refine lv_lstore (lv' := [(4, .long (nJ w9)), (2, .long (nJ s9)), (0, .int (nI s9)), (1, .int (nI w9))]) hx hb dX8_floatBits_11 hl (by decide) rfl (fun ls hl => ?_)
    refine lv_bipush (v := (nI 127)) hx hb dX8_floatBits_13 (by decide) ?_
    refine lv_istore (lv' := [(6, .int (nI 127)), (4, .long (nJ w9)), (2, .long (nJ s9)), (0, .int (nI s9)), (1, .int (nI w9))]) hx hb dX8_floatBits_15 hl (by decide) rfl (fun ls hl => ?_)
    have LP_17 : ∀ (n_17 : Nat) (j : Nat) (b9 : Nat), (b9 = w9 * 2 ^ j) → (1 ≤ b9) → (b9 ≤ s9 ∨ b9 = w9) → s9 - b9 < n_17 → ∀ (H : Heap) (locs : List Loc) (ls : Array Slot), Hd8 L s.heap H σ locs → lv_has ls 9 [(6, .int (nI (127 + j))), (4, .long (nJ b9)), (2, .long (nJ s9))] → W p l e rX8_floatBits s m args below meth c H locs 0 0 (MQ below (Qg post (bs8 L) (Aw8 L)) args s 0 0 (Aw8 L)) (F0 m 17 ls []) := by
      intro n_17
      induction n_17 with
      | zero => intro j b9; intros; omega
      | succ n_17 ih_17 =>
        intro j b9 hb9 h1b h0b hm_17 H locs ls h hl
        refine lv_lload_n hx hb dX8_floatBits_17 rfl (lv_at hl 2 rfl) ?_
        refine lv_ldc2 (v := (2 : Int64)) hx hb S.2.2.2.1 (S.2.2.2.2 _ q_749) dX8_floatBits_18 ?_
        refine cv_l (show ((2 : Int64) : Int64) = nJ 2 from rfl) ?_
        refine lv_lload hx hb dX8_floatBits_21 (lv_at hl 1 rfl) ?_
        refine lv_lmul hx hb dX8_floatBits_23 ?_
        refine cv_l (show (nJ 2 * nJ b9 : Int64) = nJ (2 * b9) from nJ_mul _ _) ?_
        refine lv_lcmpv hx hb dX8_floatBits_24 ?_
        refine lc_lt (tgt := 42) hx hb dX8_floatBits_25 (by decide) (fun c_25 => ?_) (fun c_25 => ?_)
        · have c_25 := (nJ_lt (by omega) (by omega)).mp c_25
          have LP_42 : ∀ (n_42 : Nat) (i : Nat) (r9 : Nat) (x9 : Nat), (r9 = s9 * 2 ^ i) → (x9 + i = 127 + j) → (r9 < 2 * b9) → (1 ≤ r9) → b9 - r9 < n_42 → ∀ (H : Heap) (locs : List Loc) (ls : Array Slot), Hd8 L s.heap H σ locs → lv_has ls 9 [(6, .int (nI x9)), (4, .long (nJ b9)), (2, .long (nJ r9))] → W p l e rX8_floatBits s m args below meth c H locs 0 0 (MQ below (Qg post (bs8 L) (Aw8 L)) args s 0 0 (Aw8 L)) (F0 m 42 ls []) := by
            intro n_42
            induction n_42 with
            | zero => intro i r9 x9; intros; omega
            | succ n_42 ih_42 =>
              intro i r9 x9 hr9 hx9 h2b h1r hm_42 H locs ls h hl
              refine lv_lload_n hx hb dX8_floatBits_42 rfl (lv_at hl 2 rfl) ?_
              refine lv_lload hx hb dX8_floatBits_43 (lv_at hl 1 rfl) ?_
              refine lv_lcmpv hx hb dX8_floatBits_45 ?_
              refine lc_ge (tgt := 61) hx hb dX8_floatBits_46 (by decide) (fun c_46 => ?_) (fun c_46 => ?_)
              · have c_46 := (nJ_le (by omega) (by omega)).mp c_46
                obtain ⟨f1, f2, f3, f4⟩ := fl_fin (s := s9) (w := w9) (by omega) s2 w1 w2 hr9 hb9 c_46 h2b hx9
                refine lv_iconst (v := (nI 0)) hx hb dX8_floatBits_61 (by decide) ?_
                refine lv_istore (lv' := [(7, .int (nI 0)), (6, .int (nI x9)), (4, .long (nJ b9)), (2, .long (nJ r9))]) hx hb dX8_floatBits_62 hl (by decide) rfl (fun ls hl => ?_)
                refine lv_iconst (v := (nI 0)) hx hb dX8_floatBits_64 (by decide) ?_
                refine lv_istore (lv' := [(8, .int (nI 0)), (7, .int (nI 0)), (6, .int (nI x9)), (4, .long (nJ b9)), (2, .long (nJ r9))]) hx hb dX8_floatBits_65 hl (by decide) rfl (fun ls hl => ?_)
                have LP_67 : ∀ (n_67 : Nat) (k : Nat) (D9 : Nat) (R9 : Nat), (k ≤ 24) → (r9 * 2 ^ k = D9 * (2 * b9) + R9) → (R9 < 2 * b9) → (D9 < 2 ^ k) → 24 - k < n_67 → ∀ (H : Heap) (locs : List Loc) (ls : Array Slot), Hd8 L s.heap H σ locs → lv_has ls 9 [(8, .int (nI k)), (7, .int (nI D9)), (6, .int (nI x9)), (4, .long (nJ b9)), (2, .long (nJ R9))] → W p l e rX8_floatBits s m args below meth c H locs 0 0 (MQ below (Qg post (bs8 L) (Aw8 L)) args s 0 0 (Aw8 L)) (F0 m 67 ls []) := by
                  intro n_67
                  induction n_67 with
                  | zero => intro k D9 R9; intros; omega
                  | succ n_67 ih_67 =>
                    intro k D9 R9 hk hin hR hD hm_67 H locs ls h hl
                    refine lv_iload hx hb dX8_floatBits_67 (lv_at hl 0 rfl) ?_
                    refine lv_bipush (v := (nI 24)) hx hb dX8_floatBits_69 (by decide) ?_
                    refine b_icmp_ge (tgt := 119) hx hb dX8_floatBits_71 (by decide) (by omega) (by omega) (fun c_71 => ?_) (fun c_71 => ?_)
                    · have e24 : k = 24 := by omega
                      rw [e24, p_24] at hin
                      obtain ⟨n1, n2, n3⟩ := near_24 hin hR
                      have hD24 : D9 < 16777216 := by rw [e24] at hD; exact hD
                      refine lv_iload hx hb dX8_floatBits_119 (lv_at hl 1 rfl) ?_
                      refine lv_lload_n hx hb dX8_floatBits_121 rfl (lv_at hl 4 rfl) ?_
                      refine lv_lload hx hb dX8_floatBits_122 (lv_at hl 3 rfl) ?_
                      refine lv_lcmpv hx hb dX8_floatBits_124 ?_
                      refine lc_gt (tgt := 143) hx hb dX8_floatBits_125 (by decide) (fun c_125 => ?_) (fun c_125 => ?_)
                      · have c_125 := (nJ_lt (by omega) (by omega)).mp c_125
                        have hM : FP.Core.nearest (r9 * 8388608) b9 = D9 + 1 := n1 c_125
                        rw [hM] at f3 f4
                        refine lv_iconst (v := (nI 1)) hx hb dX8_floatBits_143 (by decide) ?_
                        refine lv_goto (tgt := 148) hx hb dX8_floatBits_144 (by decide) ?_
                        refine a_iadd hx hb dX8_floatBits_148 ?_
                        refine lv_istore (lv' := [(7, .int (nI (D9 + 1))), (8, .int (nI k)), (6, .int (nI x9)), (4, .long (nJ b9)), (2, .long (nJ R9))]) hx hb dX8_floatBits_149 hl (by decide) rfl (fun ls hl => ?_)
                        refine lv_iload hx hb dX8_floatBits_151 (lv_at hl 2 rfl) ?_
                        refine lv_bipush (v := (nI 23)) hx hb dX8_floatBits_153 (by decide) ?_
                        refine lv_ishl hx hb dX8_floatBits_155 ?_
                        refine cv_i (show ((nI x9) <<< ((nI 23) &&& 31) : Int32) = nI (x9 * 8388608) from (sh_23 (by omega))) ?_
                        refine lv_iload hx hb dX8_floatBits_156 (lv_at hl 0 rfl) ?_
                        refine lv_ldc (v := (8388608 : Int32)) hx hb S.2.2.2.1 (S.2.2.2.2 _ q_750) dX8_floatBits_158 ?_
                        refine cv_i (show ((8388608 : Int32) : Int32) = nI 8388608 from (by decide +kernel)) ?_
                        refine a_isub hx hb dX8_floatBits_160 f3 ?_
                        refine a_iadd hx hb dX8_floatBits_161 ?_
                        exact e_i8 S hK h hr hlk dX8_floatBits_162 (fin_p8 hp (by rw [f4]) rfl)
                      · have c_125 := (nJ_le (by omega) (by omega)).mp c_125
                        refine lv_lload_n hx hb dX8_floatBits_128 rfl (lv_at hl 4 rfl) ?_
                        refine lv_lload hx hb dX8_floatBits_129 (lv_at hl 3 rfl) ?_
                        refine lv_lcmpv hx hb dX8_floatBits_131 ?_
                        refine lc_ne (tgt := 147) hx hb dX8_floatBits_132 (by decide) (fun c_132 => ?_) (fun c_132 => ?_)
                        · have hne : R9 < b9 := by rcases Nat.lt_or_ge R9 b9 with z | z; exact z; exact absurd (congrArg nJ (show R9 = b9 by omega)) c_132
                          have hM : FP.Core.nearest (r9 * 8388608) b9 = D9 + 0 := n2 hne
                          rw [hM] at f3 f4
                          refine lv_iconst (v := (nI 0)) hx hb dX8_floatBits_147 (by decide) ?_
                          refine a_iadd hx hb dX8_floatBits_148 ?_
                          refine lv_istore (lv' := [(7, .int (nI (D9 + 0))), (8, .int (nI k)), (6, .int (nI x9)), (4, .long (nJ b9)), (2, .long (nJ R9))]) hx hb dX8_floatBits_149 hl (by decide) rfl (fun ls hl => ?_)
                          refine lv_iload hx hb dX8_floatBits_151 (lv_at hl 2 rfl) ?_
                          refine lv_bipush (v := (nI 23)) hx hb dX8_floatBits_153 (by decide) ?_
                          refine lv_ishl hx hb dX8_floatBits_155 ?_
                          refine cv_i (show ((nI x9) <<< ((nI 23) &&& 31) : Int32) = nI (x9 * 8388608) from (sh_23 (by omega))) ?_
                          refine lv_iload hx hb dX8_floatBits_156 (lv_at hl 0 rfl) ?_
                          refine lv_ldc (v := (8388608 : Int32)) hx hb S.2.2.2.1 (S.2.2.2.2 _ q_750) dX8_floatBits_158 ?_
                          refine cv_i (show ((8388608 : Int32) : Int32) = nI 8388608 from (by decide +kernel)) ?_
                          refine a_isub hx hb dX8_floatBits_160 f3 ?_
                          refine a_iadd hx hb dX8_floatBits_161 ?_
                          exact e_i8 S hK h hr hlk dX8_floatBits_162 (fin_p8 hp (by rw [f4]) rfl)
                        · have hRb := n3 ((nJ_eq (by omega) (by omega)).mp c_132)
                          refine lv_iload hx hb dX8_floatBits_135 (lv_at hl 1 rfl) ?_
                          refine lv_iconst (v := (nI 2)) hx hb dX8_floatBits_137 (by decide) ?_
                          refine lv_irem hx hb dX8_floatBits_138 (by decide) ?_
                          refine cv_i (show ((nI D9) - (nI D9) / (nI 2) * (nI 2) : Int32) = nI (D9 % 2) from (pk_rem (by omega) (by omega) (by omega))) ?_
                          refine lv_iconst (v := (nI 1)) hx hb dX8_floatBits_139 (by decide) ?_
                          refine b_icmp_ne (tgt := 147) hx hb dX8_floatBits_140 (by decide) (by omega) (by omega) (fun c_140 => ?_) (fun c_140 => ?_)
                          · have hM : FP.Core.nearest (r9 * 8388608) b9 = D9 + 0 := by rw [hRb]; omega
                            rw [hM] at f3 f4
                            refine lv_iconst (v := (nI 0)) hx hb dX8_floatBits_147 (by decide) ?_
                            refine a_iadd hx hb dX8_floatBits_148 ?_
                            refine lv_istore (lv' := [(7, .int (nI (D9 + 0))), (8, .int (nI k)), (6, .int (nI x9)), (4, .long (nJ b9)), (2, .long (nJ R9))]) hx hb dX8_floatBits_149 hl (by decide) rfl (fun ls hl => ?_)
                            refine lv_iload hx hb dX8_floatBits_151 (lv_at hl 2 rfl) ?_
                            refine lv_bipush (v := (nI 23)) hx hb dX8_floatBits_153 (by decide) ?_
                            refine lv_ishl hx hb dX8_floatBits_155 ?_
                            refine cv_i (show ((nI x9) <<< ((nI 23) &&& 31) : Int32) = nI (x9 * 8388608) from (sh_23 (by omega))) ?_
                            refine lv_iload hx hb dX8_floatBits_156 (lv_at hl 0 rfl) ?_
                            refine lv_ldc (v := (8388608 : Int32)) hx hb S.2.2.2.1 (S.2.2.2.2 _ q_750) dX8_floatBits_158 ?_
                            refine cv_i (show ((8388608 : Int32) : Int32) = nI 8388608 from (by decide +kernel)) ?_
                            refine a_isub hx hb dX8_floatBits_160 f3 ?_
                            refine a_iadd hx hb dX8_floatBits_161 ?_
                            exact e_i8 S hK h hr hlk dX8_floatBits_162 (fin_p8 hp (by rw [f4]) rfl)
                          · have hM : FP.Core.nearest (r9 * 8388608) b9 = D9 + 1 := by rw [hRb]; omega
                            rw [hM] at f3 f4
                            refine lv_iconst (v := (nI 1)) hx hb dX8_floatBits_143 (by decide) ?_
                            refine lv_goto (tgt := 148) hx hb dX8_floatBits_144 (by decide) ?_
                            refine a_iadd hx hb dX8_floatBits_148 ?_
                            refine lv_istore (lv' := [(7, .int (nI (D9 + 1))), (8, .int (nI k)), (6, .int (nI x9)), (4, .long (nJ b9)), (2, .long (nJ R9))]) hx hb dX8_floatBits_149 hl (by decide) rfl (fun ls hl => ?_)
                            refine lv_iload hx hb dX8_floatBits_151 (lv_at hl 2 rfl) ?_
                            refine lv_bipush (v := (nI 23)) hx hb dX8_floatBits_153 (by decide) ?_
                            refine lv_ishl hx hb dX8_floatBits_155 ?_
                            refine cv_i (show ((nI x9) <<< ((nI 23) &&& 31) : Int32) = nI (x9 * 8388608) from (sh_23 (by omega))) ?_
                            refine lv_iload hx hb dX8_floatBits_156 (lv_at hl 0 rfl) ?_
                            refine lv_ldc (v := (8388608 : Int32)) hx hb S.2.2.2.1 (S.2.2.2.2 _ q_750) dX8_floatBits_158 ?_
                            refine cv_i (show ((8388608 : Int32) : Int32) = nI 8388608 from (by decide +kernel)) ?_
                            refine a_isub hx hb dX8_floatBits_160 f3 ?_
                            refine a_iadd hx hb dX8_floatBits_161 ?_
                            exact e_i8 S hK h hr hlk dX8_floatBits_162 (fin_p8 hp (by rw [f4]) rfl)
                    · refine lv_iconst (v := (nI 2)) hx hb dX8_floatBits_74 (by decide) ?_
                      refine lv_iload hx hb dX8_floatBits_75 (lv_at hl 1 rfl) ?_
                      refine a_imul hx hb dX8_floatBits_77 ?_
                      refine lv_lload_n hx hb dX8_floatBits_78 rfl (lv_at hl 4 rfl) ?_
                      refine lv_lload hx hb dX8_floatBits_79 (lv_at hl 3 rfl) ?_
                      refine lv_lcmpv hx hb dX8_floatBits_81 ?_
                      refine lc_lt (tgt := 89) hx hb dX8_floatBits_82 (by decide) (fun c_82 => ?_) (fun c_82 => ?_)
                      · have c_82 := (nJ_lt (by omega) (by omega)).mp c_82
                        have hst : r9 * 2 ^ (k + 1) = (2 * D9 + 0) * (2 * b9) + 2 * R9 := by rw [Nat.pow_succ, ← Nat.mul_assoc, hin, Nat.add_zero, Nat.mul_assoc 2 D9]; omega
                        have hDD : 2 * D9 + 0 < 2 ^ (k + 1) := by rw [Nat.pow_succ]; omega
                        have hRR : 2 * R9 < 2 * b9 := by omega
                        refine lv_iconst (v := (nI 0)) hx hb dX8_floatBits_89 (by decide) ?_
                        refine a_iadd hx hb dX8_floatBits_90 ?_
                        refine lv_istore (lv' := [(7, .int (nI (2 * D9 + 0))), (8, .int (nI k)), (6, .int (nI x9)), (4, .long (nJ b9)), (2, .long (nJ R9))]) hx hb dX8_floatBits_91 hl (by decide) rfl (fun ls hl => ?_)
                        refine lv_ldc2 (v := (2 : Int64)) hx hb S.2.2.2.1 (S.2.2.2.2 _ q_749) dX8_floatBits_93 ?_
                        refine cv_l (show ((2 : Int64) : Int64) = nJ 2 from rfl) ?_
                        refine lv_lload_n hx hb dX8_floatBits_96 rfl (lv_at hl 4 rfl) ?_
                        refine lv_lload hx hb dX8_floatBits_97 (lv_at hl 3 rfl) ?_
                        refine lv_lcmpv hx hb dX8_floatBits_99 ?_
                        refine lc_lt (tgt := 110) hx hb dX8_floatBits_100 (by decide) (fun c_100 => ?_) (fun c_100 => absurd c_100 (fun z => absurd ((nJ_le (by omega) (by omega)).mp z) (by omega)))
                        refine lv_lload_n hx hb dX8_floatBits_110 rfl (lv_at hl 4 rfl) ?_
                        refine lv_lmul hx hb dX8_floatBits_111 ?_
                        refine cv_l (show (nJ 2 * nJ R9 : Int64) = nJ (2 * R9) from nJ_mul _ _) ?_
                        refine lv_lstore_n (lv' := [(2, .long (nJ (2 * R9))), (7, .int (nI (2 * D9 + 0))), (8, .int (nI k)), (6, .int (nI x9)), (4, .long (nJ b9))]) hx hb dX8_floatBits_112 rfl hl (by decide) rfl (fun ls hl => ?_)
                        refine lv_iinc (v := (nI (k + 1))) (lv' := [(8, .int (nI (k + 1))), (2, .long (nJ (2 * R9))), (7, .int (nI (2 * D9 + 0))), (6, .int (nI x9)), (4, .long (nJ b9))]) hx hb dX8_floatBits_113 hl (k := 2) rfl (iinc_1 _) (by decide) rfl (fun ls hl => ?_)
                        refine lv_goto (tgt := 67) hx hb dX8_floatBits_116 (by decide) ?_
                        exact ih_67 (k + 1) (2 * D9 + 0) (2 * R9) (by omega) hst hRR hDD (by omega) _ _ _ h (lv_sub hl [0, 2, 3, 4, 1] rfl)
                      · have c_82 := (nJ_le (by omega) (by omega)).mp c_82
                        have hst : r9 * 2 ^ (k + 1) = (2 * D9 + 1) * (2 * b9) + 2 * (R9 - b9) := by rw [Nat.pow_succ, ← Nat.mul_assoc, hin, Nat.add_mul (2 * D9) 1, Nat.mul_assoc 2 D9, Nat.one_mul]; omega
                        have hDD : 2 * D9 + 1 < 2 ^ (k + 1) := by rw [Nat.pow_succ]; omega
                        have hRR : 2 * (R9 - b9) < 2 * b9 := by omega
                        refine lv_iconst (v := (nI 1)) hx hb dX8_floatBits_85 (by decide) ?_
                        refine lv_goto (tgt := 90) hx hb dX8_floatBits_86 (by decide) ?_
                        refine a_iadd hx hb dX8_floatBits_90 ?_
                        refine lv_istore (lv' := [(7, .int (nI (2 * D9 + 1))), (8, .int (nI k)), (6, .int (nI x9)), (4, .long (nJ b9)), (2, .long (nJ R9))]) hx hb dX8_floatBits_91 hl (by decide) rfl (fun ls hl => ?_)
                        refine lv_ldc2 (v := (2 : Int64)) hx hb S.2.2.2.1 (S.2.2.2.2 _ q_749) dX8_floatBits_93 ?_
                        refine cv_l (show ((2 : Int64) : Int64) = nJ 2 from rfl) ?_
                        refine lv_lload_n hx hb dX8_floatBits_96 rfl (lv_at hl 4 rfl) ?_
                        refine lv_lload hx hb dX8_floatBits_97 (lv_at hl 3 rfl) ?_
                        refine lv_lcmpv hx hb dX8_floatBits_99 ?_
                        refine lc_lt (tgt := 110) hx hb dX8_floatBits_100 (by decide) (fun c_100 => absurd c_100 (fun z => absurd ((nJ_lt (by omega) (by omega)).mp z) (by omega))) (fun c_100 => ?_)
                        refine lv_lload_n hx hb dX8_floatBits_103 rfl (lv_at hl 4 rfl) ?_
                        refine lv_lload hx hb dX8_floatBits_104 (lv_at hl 3 rfl) ?_
                        refine lv_lsub hx hb dX8_floatBits_106 ?_
                        refine cv_l (show (nJ R9 - nJ b9 : Int64) = nJ (R9 - b9) from nJ_sub (by omega)) ?_
                        refine lv_goto (tgt := 111) hx hb dX8_floatBits_107 (by decide) ?_
                        refine lv_lmul hx hb dX8_floatBits_111 ?_
                        refine cv_l (show (nJ 2 * nJ (R9 - b9) : Int64) = nJ (2 * (R9 - b9)) from nJ_mul _ _) ?_
                        refine lv_lstore_n (lv' := [(2, .long (nJ (2 * (R9 - b9)))), (7, .int (nI (2 * D9 + 1))), (8, .int (nI k)), (6, .int (nI x9)), (4, .long (nJ b9))]) hx hb dX8_floatBits_112 rfl hl (by decide) rfl (fun ls hl => ?_)
                        refine lv_iinc (v := (nI (k + 1))) (lv' := [(8, .int (nI (k + 1))), (2, .long (nJ (2 * (R9 - b9)))), (7, .int (nI (2 * D9 + 1))), (6, .int (nI x9)), (4, .long (nJ b9))]) hx hb dX8_floatBits_113 hl (k := 2) rfl (iinc_1 _) (by decide) rfl (fun ls hl => ?_)
                        refine lv_goto (tgt := 67) hx hb dX8_floatBits_116 (by decide) ?_
                        exact ih_67 (k + 1) (2 * D9 + 1) (2 * (R9 - b9)) (by omega) hst hRR hDD (by omega) _ _ _ h (lv_sub hl [0, 2, 3, 4, 1] rfl)
                exact LP_67 _ 0 0 r9 (by omega) (by rw [Nat.pow_zero, Nat.mul_one, Nat.zero_mul, Nat.zero_add]) (by omega) (by decide) (Nat.lt_succ_self _) _ _ _ h (lv_sub hl [0, 1, 2, 3, 4] rfl)
              · have c_46 := (nJ_lt (by omega) (by omega)).mp c_46
                have hi24 := pw_24 (a := s9) (by omega) (by rw [← hr9]; omega)
                obtain ⟨y9, rfl⟩ : ∃ y9, x9 = y9 + 1 := ⟨x9 - 1, by omega⟩
                refine lv_lload_n hx hb dX8_floatBits_49 rfl (lv_at hl 2 rfl) ?_
                refine lv_ldc2 (v := (2 : Int64)) hx hb S.2.2.2.1 (S.2.2.2.2 _ q_749) dX8_floatBits_50 ?_
                refine cv_l (show ((2 : Int64) : Int64) = nJ 2 from rfl) ?_
                refine lv_lmul hx hb dX8_floatBits_53 ?_
                refine cv_l (show (nJ r9 * nJ 2 : Int64) = nJ (r9 * 2) from nJ_mul _ _) ?_
                refine lv_lstore_n (lv' := [(2, .long (nJ (r9 * 2))), (6, .int (nI (y9 + 1))), (4, .long (nJ b9))]) hx hb dX8_floatBits_54 rfl hl (by decide) rfl (fun ls hl => ?_)
                refine lv_iinc (v := (nI y9)) (lv' := [(6, .int (nI y9)), (2, .long (nJ (r9 * 2))), (4, .long (nJ b9))]) hx hb dX8_floatBits_55 hl (k := 1) rfl (iinc_m1 _) (by decide) rfl (fun ls hl => ?_)
                refine lv_goto (tgt := 42) hx hb dX8_floatBits_58 (by decide) ?_
                exact ih_42 (i + 1) (r9 * 2) y9 (by rw [hr9, Nat.pow_succ, Nat.mul_assoc]) (by omega) (by omega) (by omega) (by omega) _ _ _ h (lv_sub hl [0, 2, 1] rfl)
          exact LP_42 _ 0 s9 (127 + j) (by rw [Nat.pow_zero, Nat.mul_one]) (by omega) (by omega) (by omega) (Nat.lt_succ_self _) _ _ _ h (lv_sub hl [0, 1, 2] rfl)
        · have c_25 := (nJ_le (by omega) (by omega)).mp c_25
          refine lv_lload hx hb dX8_floatBits_28 (lv_at hl 1 rfl) ?_
          refine lv_ldc2 (v := (2 : Int64)) hx hb S.2.2.2.1 (S.2.2.2.2 _ q_749) dX8_floatBits_30 ?_
          refine cv_l (show ((2 : Int64) : Int64) = nJ 2 from rfl) ?_
          refine lv_lmul hx hb dX8_floatBits_33 ?_
          refine cv_l (show (nJ b9 * nJ 2 : Int64) = nJ (b9 * 2) from nJ_mul _ _) ?_
          refine lv_lstore (lv' := [(4, .long (nJ (b9 * 2))), (6, .int (nI (127 + j))), (2, .long (nJ s9))]) hx hb dX8_floatBits_34 hl (by decide) rfl (fun ls hl => ?_)
          refine lv_iinc (v := (nI (127 + j + 1))) (lv' := [(6, .int (nI (127 + j + 1))), (4, .long (nJ (b9 * 2))), (2, .long (nJ s9))]) hx hb dX8_floatBits_36 hl (k := 1) rfl (iinc_1 _) (by decide) rfl (fun ls hl => ?_)
          refine lv_goto (tgt := 17) hx hb dX8_floatBits_39 (by decide) ?_
          exact ih_17 (j + 1) (b9 * 2) (by rw [hb9, Nat.pow_succ, Nat.mul_assoc]) (by omega) (Or.inl (by omega)) (by omega) _ _ _ h (lv_sub hl [0, 1, 2] rfl)
    exact LP_17 _ 0 w9 (by rw [Nat.pow_zero, Nat.mul_one]) (by omega) (Or.inr rfl) (Nat.lt_succ_self _) _ _ _ h (lv_sub hl [0, 1, 2] rfl)
  · subst c_1
    refine lv_iconst (v := (nI 0)) hx hb dX8_floatBits_4 (by decide) ?_
    exact e_i8 S hK h hr hlk dX8_floatBits_5 (fin_p8 hp (by rw [flI, if_pos rfl]) rfl)
