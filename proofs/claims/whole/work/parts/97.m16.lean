abbrev rX8_quantileBy : Room := { frames := 0, cells := 0, slots := 0, locals := 0 }
theorem yd_X8_quantileBy : ydV yX8_quantileBy RX8 2 := ⟨rfl, by decide +kernel, by decide +kernel, by decide +kernel⟩
set_option maxHeartbeats 4000000 in
set_option maxRecDepth 100000 in
theorem c_X8_quantileBy (l : Launch) (L : Lay) (σ : Me) {A : List Hp} {V9 : List Int32} {n9 q9 L0 G0 : Nat} (hL : HL σ A) (hO : OV σ V9) (hQ : QF A n9 L0 G0) (hVn : V9.length = n9) (hV0 : V9.getD 0 0 = nI L0) (hVl : V9.getD (n9 - 1) 0 = nI G0) (hA4 : A.length ≤ 400) (hq : q9 ≤ 1000) : Mf8 l L yX8_quantileBy (Cond.code yX8_quantileBy cX8_quantileBy 20 (some FieldType.int) :: qA) rX8_quantileBy [.ref (ad L 0), .int (nI n9), .int (nI q9)] σ (some (.int (nI (qV A n9 L0 G0 q9)))) σ := by
  refine Mf8.ofW (by decide) (Nat.le_of_ble_eq_true rfl) ?_
  intro p e s m args below meth c ls post hp hI S hr hlk hK h hl
  have hx := S.1
  have hb := S.2.1
  have hl : lv_has ls 20 [(0, .ref (ad L 0)), (1, .int (nI n9)), (2, .int (nI q9))] := hl
  obtain ⟨qa, qb, qe1, qe2, qe3, qe4, qe5, qg, qc⟩ := id hQ
  have hA0 := hQ.l
  obtain ⟨t9, hT⟩ : ∃ t9, t9 = q9 * n9 := ⟨_, rfl⟩
  have hT2 : t9 ≤ 1000 * n9 := by rw [hT]; exact Nat.mul_le_mul_right _ hq
  obtain ⟨-, -, f1, f2, f3⟩ := HLw hL qg hA0
  obtain ⟨g1, g2⟩ := q_bd hQ (mem_getD (d := hd0) hA0)
  obtain ⟨k9, hk9⟩ : ∃ k9, A.length = k9 + 1 := ⟨A.length - 1, by omega⟩
  obtain ⟨-, -, l1, l2, l3⟩ := HLw hL qg (show k9 < A.length by omega)
  obtain ⟨g3, g4⟩ := q_bd hQ (mem_getD (d := hd0) (show k9 < A.length by omega))
  have hwl : wN (A.getD k9 hd0) ≤ n9 := by have z1 := sumN_take (show k9 < A.length by omega); rw [← hk9, List.take_length, qe3] at z1; omega
  refine lv_ldc2 (v := (2 : Int64)) hx hb S.2.2.2.1 (S.2.2.2.2 _ q_749) dX8_quantileBy_0 ?_
  refine cv_l (show ((2 : Int64) : Int64) = nJ 2 from rfl) ?_
  refine lv_iload_n hx hb dX8_quantileBy_3 rfl (lv_at hl 2 rfl) ?_
  refine lv_i2l (v := (nI q9).toInt64) hx hb dX8_quantileBy_4 rfl ?_
  refine cv_l (show ((nI q9).toInt64 : Int64) = nJ q9 from nJ_i2l (by omega)) ?_
  refine lv_lmul hx hb dX8_quantileBy_5 ?_
  refine cv_l (show (nJ 2 * nJ q9 : Int64) = nJ (2 * q9) from nJ_mul _ _) ?_
  refine lv_iload_n hx hb dX8_quantileBy_6 rfl (lv_at hl 1 rfl) ?_
  refine lv_i2l (v := (nI n9).toInt64) hx hb dX8_quantileBy_7 rfl ?_
  refine cv_l (show ((nI n9).toInt64 : Int64) = nJ n9 from nJ_i2l (by omega)) ?_
  refine lv_lmul hx hb dX8_quantileBy_8 ?_
  refine cv_l (show (nJ (2 * q9) * nJ n9 : Int64) = nJ ((2 * q9) * n9) from nJ_mul _ _) ?_
  refine cv_l (show (nJ ((2 * q9) * n9) : Int64) = nJ (2 * t9) from congrArg nJ (by rw [hT, Nat.mul_assoc])) ?_
  refine lv_lstore_n (lv' := [(3, .long (nJ (2 * t9))), (0, .ref (ad L 0)), (1, .int (nI n9)), (2, .int (nI q9))]) hx hb dX8_quantileBy_9 rfl hl (by decide) rfl (fun ls hl => ?_)
  refine lv_ldc2 (v := (1000 : Int64)) hx hb S.2.2.2.1 (S.2.2.2.2 _ q_788) dX8_quantileBy_10 ?_
  refine cv_l (show ((1000 : Int64) : Int64) = nJ 1000 from rfl) ?_
  refine lv_aload_n hx hb dX8_quantileBy_13 rfl (lv_at hl 1 rfl) ?_
  refine g8 (v := (.ref (ad L 4))) S hK h 5 (by decide) rfl rfl q_601 dX8_quantileBy_14 ?_
  refine lv_iconst (v := (nI 0)) hx hb dX8_quantileBy_17 (by decide) ?_
  refine g8_el (n := 400) S hK h (by decide) rfl (by omega) dX8_quantileBy_18 ?_
  refine cv_i (show (σ 4 0 : Int32) = nI (wN (A.getD 0 hd0)) from (HLw hL qg (by omega)).1) ?_
  refine lv_i2l (v := (nI (wN (A.getD 0 hd0))).toInt64) hx hb dX8_quantileBy_19 rfl ?_
  refine cv_l (show ((nI (wN (A.getD 0 hd0))).toInt64 : Int64) = nJ (wN (A.getD 0 hd0)) from nJ_i2l (by omega)) ?_
  refine lv_lmul hx hb dX8_quantileBy_20 ?_
  refine cv_l (show (nJ 1000 * nJ (wN (A.getD 0 hd0)) : Int64) = nJ (1000 * (wN (A.getD 0 hd0))) from nJ_mul _ _) ?_
  refine lv_lstore (lv' := [(5, .long (nJ (1000 * (wN (A.getD 0 hd0))))), (3, .long (nJ (2 * t9))), (0, .ref (ad L 0)), (1, .int (nI n9)), (2, .int (nI q9))]) hx hb dX8_quantileBy_21 hl (by decide) rfl (fun ls hl => ?_)
  refine lv_lload_n hx hb dX8_quantileBy_23 rfl (lv_at hl 1 rfl) ?_
  refine lv_lload hx hb dX8_quantileBy_24 (lv_at hl 0 rfl) ?_
  refine lv_lcmpv hx hb dX8_quantileBy_26 ?_
  refine lc_gt (tgt := 77) hx hb dX8_quantileBy_27 (by decide) (fun c_27 => ?_) (fun c_27 => ?_)
  · have c_27 := (nJ_lt (by omega) (by omega)).mp c_27
    refine lv_aload_n hx hb dX8_quantileBy_77 rfl (lv_at hl 2 rfl) ?_
    refine g8 (v := (.int (σ 0 2))) S hK h 9 (by decide) rfl rfl q_605 dX8_quantileBy_78 ?_
    refine cv_i (show (σ 0 2 : Int32) = nI A.length from hL.1) ?_
    refine lv_iconst (v := (nI 1)) hx hb dX8_quantileBy_81 (by decide) ?_
    refine a_isub hx hb dX8_quantileBy_82 (by omega) ?_
    refine cv_i (show (nI (A.length - 1) : Int32) = nI k9 from (congrArg nI (by omega))) ?_
    refine lv_istore (lv' := [(7, .int (nI k9)), (5, .long (nJ (1000 * (wN (A.getD 0 hd0))))), (3, .long (nJ (2 * t9))), (0, .ref (ad L 0)), (1, .int (nI n9)), (2, .int (nI q9))]) hx hb dX8_quantileBy_83 hl (by decide) rfl (fun ls hl => ?_)
    refine lv_ldc2 (v := (1000 : Int64)) hx hb S.2.2.2.1 (S.2.2.2.2 _ q_788) dX8_quantileBy_85 ?_
    refine cv_l (show ((1000 : Int64) : Int64) = nJ 1000 from rfl) ?_
    refine lv_iconst (v := (nI 2)) hx hb dX8_quantileBy_88 (by decide) ?_
    refine lv_iload_n hx hb dX8_quantileBy_89 rfl (lv_at hl 4 rfl) ?_
    refine a_imul hx hb dX8_quantileBy_90 ?_
    refine lv_aload_n hx hb dX8_quantileBy_91 rfl (lv_at hl 3 rfl) ?_
    refine g8 (v := (.ref (ad L 4))) S hK h 5 (by decide) rfl rfl q_601 dX8_quantileBy_92 ?_
    refine lv_iload hx hb dX8_quantileBy_95 (lv_at hl 0 rfl) ?_
    refine g8_el (n := 400) S hK h (by decide) rfl (by omega) dX8_quantileBy_97 ?_
    refine cv_i (show (σ 4 k9 : Int32) = nI (wN (A.getD k9 hd0)) from (HLw hL qg (by omega)).1) ?_
    refine a_isub hx hb dX8_quantileBy_98 (by omega) ?_
    refine lv_i2l (v := (nI ((2 * n9) - (wN (A.getD k9 hd0)))).toInt64) hx hb dX8_quantileBy_99 rfl ?_
    refine cv_l (show ((nI ((2 * n9) - (wN (A.getD k9 hd0)))).toInt64 : Int64) = nJ ((2 * n9) - (wN (A.getD k9 hd0))) from nJ_i2l (by omega)) ?_
    refine lv_lmul hx hb dX8_quantileBy_100 ?_
    refine cv_l (show (nJ 1000 * nJ ((2 * n9) - (wN (A.getD k9 hd0))) : Int64) = nJ (1000 * ((2 * n9) - (wN (A.getD k9 hd0)))) from nJ_mul _ _) ?_
    refine lv_lstore (lv' := [(8, .long (nJ (1000 * ((2 * n9) - (wN (A.getD k9 hd0)))))), (7, .int (nI k9)), (5, .long (nJ (1000 * (wN (A.getD 0 hd0))))), (3, .long (nJ (2 * t9))), (0, .ref (ad L 0)), (1, .int (nI n9)), (2, .int (nI q9))]) hx hb dX8_quantileBy_101 hl (by decide) rfl (fun ls hl => ?_)
    refine lv_lload_n hx hb dX8_quantileBy_103 rfl (lv_at hl 3 rfl) ?_
    refine lv_lload hx hb dX8_quantileBy_104 (lv_at hl 0 rfl) ?_
    refine lv_lcmpv hx hb dX8_quantileBy_106 ?_
    refine lc_lt (tgt := 181) hx hb dX8_quantileBy_107 (by decide) (fun c_107 => ?_) (fun c_107 => ?_)
    · have c_107 := (nJ_lt (by omega) (by omega)).mp c_107
      refine lv_iconst (v := (nI 0)) hx hb dX8_quantileBy_181 (by decide) ?_
      refine lv_istore (lv' := [(10, .int (nI 0)), (8, .long (nJ (1000 * ((2 * n9) - (wN (A.getD k9 hd0)))))), (7, .int (nI k9)), (5, .long (nJ (1000 * (wN (A.getD 0 hd0))))), (3, .long (nJ (2 * t9))), (0, .ref (ad L 0)), (1, .int (nI n9)), (2, .int (nI q9))]) hx hb dX8_quantileBy_182 hl (by decide) rfl (fun ls hl => ?_)
      refine lv_iconst (v := (nI 0)) hx hb dX8_quantileBy_184 (by decide) ?_
      refine lv_istore (lv' := [(11, .int (nI 0)), (10, .int (nI 0)), (8, .long (nJ (1000 * ((2 * n9) - (wN (A.getD k9 hd0)))))), (7, .int (nI k9)), (5, .long (nJ (1000 * (wN (A.getD 0 hd0))))), (3, .long (nJ (2 * t9))), (0, .ref (ad L 0)), (1, .int (nI n9)), (2, .int (nI q9))]) hx hb dX8_quantileBy_185 hl (by decide) rfl (fun ls hl => ?_)
      have LP_187 : ∀ (n_187 : Nat) (k : Nat) (a9 : Nat), (k < A.length) → (a9 = sumN (A.take k)) → (plc A k ≤ t9) → A.length - k < n_187 → ∀ (H : Heap) (locs : List Loc) (ls : Array Slot), Hd8 L s.heap H σ locs → lv_has ls 20 [(11, .int (nI a9)), (10, .int (nI k)), (8, .long (nJ (1000 * (2 * n9 - wN (A.getD k9 hd0))))), (7, .int (nI k9)), (5, .long (nJ (1000 * wN (A.getD 0 hd0)))), (3, .long (nJ (2 * t9))), (2, .int (nI q9)), (1, .int (nI n9)), (0, .ref (ad L 0))] → W p l e rX8_quantileBy s m args below meth c H locs 0 0 (MQ below (Qg post (bs8 L) (Aw8 L)) args s 0 0 (Aw8 L)) (F0 m 187 ls []) := by
        intro n_187
        induction n_187 with
        | zero => intro k a9; intros; omega
        | succ n_187 ih_187 =>
          intro k a9 hk ha hpl hm_187 H locs ls h hl
          have hk1 : k + 1 < A.length := by rcases Nat.lt_or_ge (k + 1) A.length with z | z; exact z; exact absurd hpl (by obtain rfl : k = k9 := (by omega); have z1 := sumN_take hk; rw [← hk9, List.take_length, qe3] at z1; unfold plc; omega)
          obtain ⟨-, -, d1, d2, d3⟩ := HLw hL qg hk
          obtain ⟨-, -, d4, d5, d6⟩ := HLw hL qg hk1
          have hsl : a9 ≤ 200 := by have z1 := sum_td A k; rw [qe3] at z1; omega
          have hch := Ch_at hQ c_27 hk1 hpl
          refine lv_ldc2 (v := (1000 : Int64)) hx hb S.2.2.2.1 (S.2.2.2.2 _ q_788) dX8_quantileBy_187 ?_
          refine cv_l (show ((1000 : Int64) : Int64) = nJ 1000 from rfl) ?_
          refine lv_iconst (v := (nI 2)) hx hb dX8_quantileBy_190 (by decide) ?_
          refine lv_iload hx hb dX8_quantileBy_191 (lv_at hl 0 rfl) ?_
          refine lv_aload_n hx hb dX8_quantileBy_193 rfl (lv_at hl 8 rfl) ?_
          refine g8 (v := (.ref (ad L 4))) S hK h 5 (by decide) rfl rfl q_601 dX8_quantileBy_194 ?_
          refine lv_iload hx hb dX8_quantileBy_197 (lv_at hl 1 rfl) ?_
          refine g8_el (n := 400) S hK h (by decide) rfl (by omega) dX8_quantileBy_199 ?_
          refine cv_i (show (σ 4 k : Int32) = nI (wN (A.getD k hd0)) from (HLw hL qg (by omega)).1) ?_
          refine a_iadd hx hb dX8_quantileBy_200 ?_
          refine a_imul hx hb dX8_quantileBy_201 ?_
          refine lv_aload_n hx hb dX8_quantileBy_202 rfl (lv_at hl 8 rfl) ?_
          refine g8 (v := (.ref (ad L 4))) S hK h 5 (by decide) rfl rfl q_601 dX8_quantileBy_203 ?_
          refine lv_iload hx hb dX8_quantileBy_206 (lv_at hl 1 rfl) ?_
          refine lv_iconst (v := (nI 1)) hx hb dX8_quantileBy_208 (by decide) ?_
          refine a_iadd hx hb dX8_quantileBy_209 ?_
          refine g8_el (n := 400) S hK h (by decide) rfl (by omega) dX8_quantileBy_210 ?_
          refine cv_i (show (σ 4 (k + 1) : Int32) = nI (wN (A.getD (k + 1) hd0)) from (HLw hL qg (by omega)).1) ?_
          refine a_iadd hx hb dX8_quantileBy_211 ?_
          refine lv_i2l (v := (nI (2 * (a9 + (wN (A.getD k hd0))) + (wN (A.getD (k + 1) hd0)))).toInt64) hx hb dX8_quantileBy_212 rfl ?_
          refine cv_l (show ((nI (2 * (a9 + (wN (A.getD k hd0))) + (wN (A.getD (k + 1) hd0)))).toInt64 : Int64) = nJ (2 * (a9 + (wN (A.getD k hd0))) + (wN (A.getD (k + 1) hd0))) from nJ_i2l (by omega)) ?_
          refine lv_lmul hx hb dX8_quantileBy_213 ?_
          refine cv_l (show (nJ 1000 * nJ (2 * (a9 + (wN (A.getD k hd0))) + (wN (A.getD (k + 1) hd0))) : Int64) = nJ (1000 * (2 * (a9 + (wN (A.getD k hd0))) + (wN (A.getD (k + 1) hd0)))) from nJ_mul _ _) ?_
          refine lv_lload_n hx hb dX8_quantileBy_214 rfl (lv_at hl 5 rfl) ?_
          refine lv_lcmpv hx hb dX8_quantileBy_215 ?_
          refine lc_gt (tgt := 237) hx hb dX8_quantileBy_216 (by decide) (fun c_216 => ?_) (fun c_216 => ?_)
          · have c_216 := (nJ_lt (by omega) (by omega)).mp c_216
            have b0 : sN (A.getD (k + 1) hd0) * wN (A.getD k hd0) ≤ 1999800 * 200 := Nat.mul_le_mul d6 d2
            have b1 : sN (A.getD k hd0) * wN (A.getD (k + 1) hd0) * (1000 * (wN (A.getD k hd0) + wN (A.getD (k + 1) hd0))) ≤ 1999800 * 200 * 400000 := Nat.mul_le_mul (Nat.mul_le_mul d3 d5) (by omega)
            have b2 : (sN (A.getD (k + 1) hd0) * wN (A.getD k hd0) - sN (A.getD k hd0) * wN (A.getD (k + 1) hd0)) * (2 * t9 - 1000 * (2 * a9 + wN (A.getD k hd0))) ≤ 1999800 * 200 * 400000 := Nat.mul_le_mul (by omega) (by omega)
            have b3 : wN (A.getD k hd0) * wN (A.getD (k + 1) hd0) * (1000 * (wN (A.getD k hd0) + wN (A.getD (k + 1) hd0))) ≤ 200 * 200 * 400000 := Nat.mul_le_mul (Nat.mul_le_mul d2 d5) (by omega)
            have b4 : 0 < wN (A.getD k hd0) * wN (A.getD (k + 1) hd0) * (1000 * (wN (A.getD k hd0) + wN (A.getD (k + 1) hd0))) := Nat.mul_pos (Nat.mul_pos d1 d4) (by omega)
            refine lv_ldc2 (v := (1000 : Int64)) hx hb S.2.2.2.1 (S.2.2.2.2 _ q_788) dX8_quantileBy_237 ?_
            refine cv_l (show ((1000 : Int64) : Int64) = nJ 1000 from rfl) ?_
            refine lv_iconst (v := (nI 2)) hx hb dX8_quantileBy_240 (by decide) ?_
            refine lv_iload hx hb dX8_quantileBy_241 (lv_at hl 0 rfl) ?_
            refine a_imul hx hb dX8_quantileBy_243 ?_
            refine lv_aload_n hx hb dX8_quantileBy_244 rfl (lv_at hl 8 rfl) ?_
            refine g8 (v := (.ref (ad L 4))) S hK h 5 (by decide) rfl rfl q_601 dX8_quantileBy_245 ?_
            refine lv_iload hx hb dX8_quantileBy_248 (lv_at hl 1 rfl) ?_
            refine g8_el (n := 400) S hK h (by decide) rfl (by omega) dX8_quantileBy_250 ?_
            refine cv_i (show (σ 4 k : Int32) = nI (wN (A.getD k hd0)) from (HLw hL qg (by omega)).1) ?_
            refine a_iadd hx hb dX8_quantileBy_251 ?_
            refine lv_i2l (v := (nI (2 * a9 + (wN (A.getD k hd0)))).toInt64) hx hb dX8_quantileBy_252 rfl ?_
            refine cv_l (show ((nI (2 * a9 + (wN (A.getD k hd0)))).toInt64 : Int64) = nJ (2 * a9 + (wN (A.getD k hd0))) from nJ_i2l (by omega)) ?_
            refine lv_lmul hx hb dX8_quantileBy_253 ?_
            refine cv_l (show (nJ 1000 * nJ (2 * a9 + (wN (A.getD k hd0))) : Int64) = nJ (1000 * (2 * a9 + (wN (A.getD k hd0)))) from nJ_mul _ _) ?_
            refine lv_lstore (lv' := [(12, .long (nJ (1000 * (2 * a9 + (wN (A.getD k hd0)))))), (11, .int (nI a9)), (10, .int (nI k)), (8, .long (nJ (1000 * (2 * n9 - wN (A.getD k9 hd0))))), (7, .int (nI k9)), (5, .long (nJ (1000 * wN (A.getD 0 hd0)))), (3, .long (nJ (2 * t9))), (2, .int (nI q9)), (1, .int (nI n9)), (0, .ref (ad L 0))]) hx hb dX8_quantileBy_254 hl (by decide) rfl (fun ls hl => ?_)
            refine lv_ldc2 (v := (1000 : Int64)) hx hb S.2.2.2.1 (S.2.2.2.2 _ q_788) dX8_quantileBy_256 ?_
            refine cv_l (show ((1000 : Int64) : Int64) = nJ 1000 from rfl) ?_
            refine lv_aload_n hx hb dX8_quantileBy_259 rfl (lv_at hl 9 rfl) ?_
            refine g8 (v := (.ref (ad L 4))) S hK h 5 (by decide) rfl rfl q_601 dX8_quantileBy_260 ?_
            refine lv_iload hx hb dX8_quantileBy_263 (lv_at hl 2 rfl) ?_
            refine g8_el (n := 400) S hK h (by decide) rfl (by omega) dX8_quantileBy_265 ?_
            refine cv_i (show (σ 4 k : Int32) = nI (wN (A.getD k hd0)) from (HLw hL qg (by omega)).1) ?_
            refine lv_aload_n hx hb dX8_quantileBy_266 rfl (lv_at hl 9 rfl) ?_
            refine g8 (v := (.ref (ad L 4))) S hK h 5 (by decide) rfl rfl q_601 dX8_quantileBy_267 ?_
            refine lv_iload hx hb dX8_quantileBy_270 (lv_at hl 2 rfl) ?_
            refine lv_iconst (v := (nI 1)) hx hb dX8_quantileBy_272 (by decide) ?_
            refine a_iadd hx hb dX8_quantileBy_273 ?_
            refine g8_el (n := 400) S hK h (by decide) rfl (by omega) dX8_quantileBy_274 ?_
            refine cv_i (show (σ 4 (k + 1) : Int32) = nI (wN (A.getD (k + 1) hd0)) from (HLw hL qg (by omega)).1) ?_
            refine a_iadd hx hb dX8_quantileBy_275 ?_
            refine lv_i2l (v := (nI (wN (A.getD k hd0) + (wN (A.getD (k + 1) hd0)))).toInt64) hx hb dX8_quantileBy_276 rfl ?_
            refine cv_l (show ((nI (wN (A.getD k hd0) + (wN (A.getD (k + 1) hd0)))).toInt64 : Int64) = nJ (wN (A.getD k hd0) + (wN (A.getD (k + 1) hd0))) from nJ_i2l (by omega)) ?_
            refine lv_lmul hx hb dX8_quantileBy_277 ?_
            refine cv_l (show (nJ 1000 * nJ (wN (A.getD k hd0) + (wN (A.getD (k + 1) hd0))) : Int64) = nJ (1000 * (wN (A.getD k hd0) + (wN (A.getD (k + 1) hd0)))) from nJ_mul _ _) ?_
            refine lv_lstore (lv' := [(14, .long (nJ (1000 * (wN (A.getD k hd0) + (wN (A.getD (k + 1) hd0)))))), (12, .long (nJ (1000 * (2 * a9 + (wN (A.getD k hd0)))))), (11, .int (nI a9)), (10, .int (nI k)), (8, .long (nJ (1000 * (2 * n9 - wN (A.getD k9 hd0))))), (7, .int (nI k9)), (5, .long (nJ (1000 * wN (A.getD 0 hd0)))), (3, .long (nJ (2 * t9))), (2, .int (nI q9)), (1, .int (nI n9)), (0, .ref (ad L 0))]) hx hb dX8_quantileBy_278 hl (by decide) rfl (fun ls hl => ?_)
            refine lv_aload_n hx hb dX8_quantileBy_280 rfl (lv_at hl 10 rfl) ?_
            refine g8 (v := (.ref (ad L 5))) S hK h 6 (by decide) rfl rfl q_602 dX8_quantileBy_281 ?_
            refine lv_iload hx hb dX8_quantileBy_284 (lv_at hl 3 rfl) ?_
            refine g8_el (n := 400) S hK h (by decide) rfl (by omega) dX8_quantileBy_286 ?_
            refine cv_i (show (σ 5 k : Int32) = nI (sN (A.getD k hd0)) from (HLw hL qg (by omega)).2.1) ?_
            refine lv_i2l (v := (nI (sN (A.getD k hd0))).toInt64) hx hb dX8_quantileBy_287 rfl ?_
            refine cv_l (show ((nI (sN (A.getD k hd0))).toInt64 : Int64) = nJ (sN (A.getD k hd0)) from nJ_i2l (by omega)) ?_
            refine lv_aload_n hx hb dX8_quantileBy_288 rfl (lv_at hl 10 rfl) ?_
            refine g8 (v := (.ref (ad L 4))) S hK h 5 (by decide) rfl rfl q_601 dX8_quantileBy_289 ?_
            refine lv_iload hx hb dX8_quantileBy_292 (lv_at hl 3 rfl) ?_
            refine lv_iconst (v := (nI 1)) hx hb dX8_quantileBy_294 (by decide) ?_
            refine a_iadd hx hb dX8_quantileBy_295 ?_
            refine g8_el (n := 400) S hK h (by decide) rfl (by omega) dX8_quantileBy_296 ?_
            refine cv_i (show (σ 4 (k + 1) : Int32) = nI (wN (A.getD (k + 1) hd0)) from (HLw hL qg (by omega)).1) ?_
            refine lv_i2l (v := (nI (wN (A.getD (k + 1) hd0))).toInt64) hx hb dX8_quantileBy_297 rfl ?_
            refine cv_l (show ((nI (wN (A.getD (k + 1) hd0))).toInt64 : Int64) = nJ (wN (A.getD (k + 1) hd0)) from nJ_i2l (by omega)) ?_
            refine lv_lmul hx hb dX8_quantileBy_298 ?_
            refine cv_l (show (nJ (sN (A.getD k hd0)) * nJ (wN (A.getD (k + 1) hd0)) : Int64) = nJ ((sN (A.getD k hd0)) * (wN (A.getD (k + 1) hd0))) from nJ_mul _ _) ?_
            refine lv_lstore (lv' := [(16, .long (nJ ((sN (A.getD k hd0)) * (wN (A.getD (k + 1) hd0))))), (14, .long (nJ (1000 * (wN (A.getD k hd0) + (wN (A.getD (k + 1) hd0)))))), (12, .long (nJ (1000 * (2 * a9 + (wN (A.getD k hd0)))))), (11, .int (nI a9)), (10, .int (nI k)), (8, .long (nJ (1000 * (2 * n9 - wN (A.getD k9 hd0))))), (7, .int (nI k9)), (5, .long (nJ (1000 * wN (A.getD 0 hd0)))), (3, .long (nJ (2 * t9))), (2, .int (nI q9)), (1, .int (nI n9)), (0, .ref (ad L 0))]) hx hb dX8_quantileBy_299 hl (by decide) rfl (fun ls hl => ?_)
            refine lv_aload_n hx hb dX8_quantileBy_301 rfl (lv_at hl 11 rfl) ?_
            refine g8 (v := (.ref (ad L 5))) S hK h 6 (by decide) rfl rfl q_602 dX8_quantileBy_302 ?_
            refine lv_iload hx hb dX8_quantileBy_305 (lv_at hl 4 rfl) ?_
            refine lv_iconst (v := (nI 1)) hx hb dX8_quantileBy_307 (by decide) ?_
            refine a_iadd hx hb dX8_quantileBy_308 ?_
            refine g8_el (n := 400) S hK h (by decide) rfl (by omega) dX8_quantileBy_309 ?_
            refine cv_i (show (σ 5 (k + 1) : Int32) = nI (sN (A.getD (k + 1) hd0)) from (HLw hL qg (by omega)).2.1) ?_
            refine lv_i2l (v := (nI (sN (A.getD (k + 1) hd0))).toInt64) hx hb dX8_quantileBy_310 rfl ?_
            refine cv_l (show ((nI (sN (A.getD (k + 1) hd0))).toInt64 : Int64) = nJ (sN (A.getD (k + 1) hd0)) from nJ_i2l (by omega)) ?_
            refine lv_aload_n hx hb dX8_quantileBy_311 rfl (lv_at hl 11 rfl) ?_
            refine g8 (v := (.ref (ad L 4))) S hK h 5 (by decide) rfl rfl q_601 dX8_quantileBy_312 ?_
            refine lv_iload hx hb dX8_quantileBy_315 (lv_at hl 4 rfl) ?_
            refine g8_el (n := 400) S hK h (by decide) rfl (by omega) dX8_quantileBy_317 ?_
            refine cv_i (show (σ 4 k : Int32) = nI (wN (A.getD k hd0)) from (HLw hL qg (by omega)).1) ?_
            refine lv_i2l (v := (nI (wN (A.getD k hd0))).toInt64) hx hb dX8_quantileBy_318 rfl ?_
            refine cv_l (show ((nI (wN (A.getD k hd0))).toInt64 : Int64) = nJ (wN (A.getD k hd0)) from nJ_i2l (by omega)) ?_
            refine lv_lmul hx hb dX8_quantileBy_319 ?_
            refine cv_l (show (nJ (sN (A.getD (k + 1) hd0)) * nJ (wN (A.getD k hd0)) : Int64) = nJ ((sN (A.getD (k + 1) hd0)) * (wN (A.getD k hd0))) from nJ_mul _ _) ?_
            refine lv_lstore (lv' := [(18, .long (nJ ((sN (A.getD (k + 1) hd0)) * (wN (A.getD k hd0))))), (16, .long (nJ ((sN (A.getD k hd0)) * (wN (A.getD (k + 1) hd0))))), (14, .long (nJ (1000 * (wN (A.getD k hd0) + (wN (A.getD (k + 1) hd0)))))), (12, .long (nJ (1000 * (2 * a9 + (wN (A.getD k hd0)))))), (11, .int (nI a9)), (10, .int (nI k)), (8, .long (nJ (1000 * (2 * n9 - wN (A.getD k9 hd0))))), (7, .int (nI k9)), (5, .long (nJ (1000 * wN (A.getD 0 hd0)))), (3, .long (nJ (2 * t9))), (2, .int (nI q9)), (1, .int (nI n9)), (0, .ref (ad L 0))]) hx hb dX8_quantileBy_320 hl (by decide) rfl (fun ls hl => ?_)
            refine lv_lload hx hb dX8_quantileBy_322 (lv_at hl 1 rfl) ?_
            refine lv_lload hx hb dX8_quantileBy_324 (lv_at hl 2 rfl) ?_
            refine lv_lmul hx hb dX8_quantileBy_326 ?_
            refine cv_l (show (nJ ((sN (A.getD k hd0)) * (wN (A.getD (k + 1) hd0))) * nJ (1000 * (wN (A.getD k hd0) + (wN (A.getD (k + 1) hd0)))) : Int64) = nJ (((sN (A.getD k hd0)) * (wN (A.getD (k + 1) hd0))) * (1000 * (wN (A.getD k hd0) + (wN (A.getD (k + 1) hd0))))) from nJ_mul _ _) ?_
            refine lv_lload hx hb dX8_quantileBy_327 (lv_at hl 0 rfl) ?_
            refine lv_lload hx hb dX8_quantileBy_329 (lv_at hl 1 rfl) ?_
            refine lv_lsub hx hb dX8_quantileBy_331 ?_
            refine cv_l (show (nJ ((sN (A.getD (k + 1) hd0)) * (wN (A.getD k hd0))) - nJ ((sN (A.getD k hd0)) * (wN (A.getD (k + 1) hd0))) : Int64) = nJ (((sN (A.getD (k + 1) hd0)) * (wN (A.getD k hd0))) - ((sN (A.getD k hd0)) * (wN (A.getD (k + 1) hd0)))) from nJ_sub (by omega)) ?_
            refine lv_lload_n hx hb dX8_quantileBy_332 rfl (lv_at hl 9 rfl) ?_
            refine lv_lload hx hb dX8_quantileBy_333 (lv_at hl 3 rfl) ?_
            refine lv_lsub hx hb dX8_quantileBy_335 ?_
            refine cv_l (show (nJ (2 * t9) - nJ (1000 * (2 * a9 + (wN (A.getD k hd0)))) : Int64) = nJ ((2 * t9) - (1000 * (2 * a9 + (wN (A.getD k hd0))))) from nJ_sub (by unfold plc at hpl; omega)) ?_
            refine lv_lmul hx hb dX8_quantileBy_336 ?_
            refine cv_l (show (nJ (((sN (A.getD (k + 1) hd0)) * (wN (A.getD k hd0))) - ((sN (A.getD k hd0)) * (wN (A.getD (k + 1) hd0)))) * nJ ((2 * t9) - (1000 * (2 * a9 + (wN (A.getD k hd0))))) : Int64) = nJ ((((sN (A.getD (k + 1) hd0)) * (wN (A.getD k hd0))) - ((sN (A.getD k hd0)) * (wN (A.getD (k + 1) hd0)))) * ((2 * t9) - (1000 * (2 * a9 + (wN (A.getD k hd0)))))) from nJ_mul _ _) ?_
            refine lv_ladd hx hb dX8_quantileBy_337 ?_
            refine cv_l (show (nJ (((sN (A.getD k hd0)) * (wN (A.getD (k + 1) hd0))) * (1000 * (wN (A.getD k hd0) + (wN (A.getD (k + 1) hd0))))) + nJ ((((sN (A.getD (k + 1) hd0)) * (wN (A.getD k hd0))) - ((sN (A.getD k hd0)) * (wN (A.getD (k + 1) hd0)))) * ((2 * t9) - (1000 * (2 * a9 + (wN (A.getD k hd0)))))) : Int64) = nJ ((((sN (A.getD k hd0)) * (wN (A.getD (k + 1) hd0))) * (1000 * (wN (A.getD k hd0) + (wN (A.getD (k + 1) hd0))))) + ((((sN (A.getD (k + 1) hd0)) * (wN (A.getD k hd0))) - ((sN (A.getD k hd0)) * (wN (A.getD (k + 1) hd0)))) * ((2 * t9) - (1000 * (2 * a9 + (wN (A.getD k hd0))))))) from nJ_add _ _) ?_
            refine lv_aload_n hx hb dX8_quantileBy_338 rfl (lv_at hl 12 rfl) ?_
            refine g8 (v := (.ref (ad L 4))) S hK h 5 (by decide) rfl rfl q_601 dX8_quantileBy_339 ?_
            refine lv_iload hx hb dX8_quantileBy_342 (lv_at hl 5 rfl) ?_
            refine g8_el (n := 400) S hK h (by decide) rfl (by omega) dX8_quantileBy_344 ?_
            refine cv_i (show (σ 4 k : Int32) = nI (wN (A.getD k hd0)) from (HLw hL qg (by omega)).1) ?_
            refine lv_i2l (v := (nI (wN (A.getD k hd0))).toInt64) hx hb dX8_quantileBy_345 rfl ?_
            refine cv_l (show ((nI (wN (A.getD k hd0))).toInt64 : Int64) = nJ (wN (A.getD k hd0)) from nJ_i2l (by omega)) ?_
            refine lv_aload_n hx hb dX8_quantileBy_346 rfl (lv_at hl 12 rfl) ?_
            refine g8 (v := (.ref (ad L 4))) S hK h 5 (by decide) rfl rfl q_601 dX8_quantileBy_347 ?_
            refine lv_iload hx hb dX8_quantileBy_350 (lv_at hl 5 rfl) ?_
            refine lv_iconst (v := (nI 1)) hx hb dX8_quantileBy_352 (by decide) ?_
            refine a_iadd hx hb dX8_quantileBy_353 ?_
            refine g8_el (n := 400) S hK h (by decide) rfl (by omega) dX8_quantileBy_354 ?_
            refine cv_i (show (σ 4 (k + 1) : Int32) = nI (wN (A.getD (k + 1) hd0)) from (HLw hL qg (by omega)).1) ?_
            refine lv_i2l (v := (nI (wN (A.getD (k + 1) hd0))).toInt64) hx hb dX8_quantileBy_355 rfl ?_
            refine cv_l (show ((nI (wN (A.getD (k + 1) hd0))).toInt64 : Int64) = nJ (wN (A.getD (k + 1) hd0)) from nJ_i2l (by omega)) ?_
            refine lv_lmul hx hb dX8_quantileBy_356 ?_
            refine cv_l (show (nJ (wN (A.getD k hd0)) * nJ (wN (A.getD (k + 1) hd0)) : Int64) = nJ ((wN (A.getD k hd0)) * (wN (A.getD (k + 1) hd0))) from nJ_mul _ _) ?_
            refine lv_lload hx hb dX8_quantileBy_357 (lv_at hl 2 rfl) ?_
            refine lv_lmul hx hb dX8_quantileBy_359 ?_
            refine cv_l (show (nJ ((wN (A.getD k hd0)) * (wN (A.getD (k + 1) hd0))) * nJ (1000 * (wN (A.getD k hd0) + (wN (A.getD (k + 1) hd0)))) : Int64) = nJ (((wN (A.getD k hd0)) * (wN (A.getD (k + 1) hd0))) * (1000 * (wN (A.getD k hd0) + (wN (A.getD (k + 1) hd0))))) from nJ_mul _ _) ?_
            refine lv_ldiv hx hb dX8_quantileBy_360 (fun z => absurd ((nJ_eq (by omega) (by omega)).mp (show nJ _ = nJ 0 from z)) (by omega)) ?_
            refine cv_l (show (nJ ((((sN (A.getD k hd0)) * (wN (A.getD (k + 1) hd0))) * (1000 * (wN (A.getD k hd0) + (wN (A.getD (k + 1) hd0))))) + ((((sN (A.getD (k + 1) hd0)) * (wN (A.getD k hd0))) - ((sN (A.getD k hd0)) * (wN (A.getD (k + 1) hd0)))) * ((2 * t9) - (1000 * (2 * a9 + (wN (A.getD k hd0))))))) / nJ (((wN (A.getD k hd0)) * (wN (A.getD (k + 1) hd0))) * (1000 * (wN (A.getD k hd0) + (wN (A.getD (k + 1) hd0))))) : Int64) = nJ (((((sN (A.getD k hd0)) * (wN (A.getD (k + 1) hd0))) * (1000 * (wN (A.getD k hd0) + (wN (A.getD (k + 1) hd0))))) + ((((sN (A.getD (k + 1) hd0)) * (wN (A.getD k hd0))) - ((sN (A.getD k hd0)) * (wN (A.getD (k + 1) hd0)))) * ((2 * t9) - (1000 * (2 * a9 + (wN (A.getD k hd0))))))) / (((wN (A.getD k hd0)) * (wN (A.getD (k + 1) hd0))) * (1000 * (wN (A.getD k hd0) + (wN (A.getD (k + 1) hd0)))))) from nJ_div (by omega) (by omega)) ?_
            refine lv_l2i (v := (nJ (((((sN (A.getD k hd0)) * (wN (A.getD (k + 1) hd0))) * (1000 * (wN (A.getD k hd0) + (wN (A.getD (k + 1) hd0))))) + ((((sN (A.getD (k + 1) hd0)) * (wN (A.getD k hd0))) - ((sN (A.getD k hd0)) * (wN (A.getD (k + 1) hd0)))) * ((2 * t9) - (1000 * (2 * a9 + (wN (A.getD k hd0))))))) / (((wN (A.getD k hd0)) * (wN (A.getD (k + 1) hd0))) * (1000 * (wN (A.getD k hd0) + (wN (A.getD (k + 1) hd0))))))).toInt32) hx hb dX8_quantileBy_361 rfl ?_
            refine cv_i (show ((nJ (((((sN (A.getD k hd0)) * (wN (A.getD (k + 1) hd0))) * (1000 * (wN (A.getD k hd0) + (wN (A.getD (k + 1) hd0))))) + ((((sN (A.getD (k + 1) hd0)) * (wN (A.getD k hd0))) - ((sN (A.getD k hd0)) * (wN (A.getD (k + 1) hd0)))) * ((2 * t9) - (1000 * (2 * a9 + (wN (A.getD k hd0))))))) / (((wN (A.getD k hd0)) * (wN (A.getD (k + 1) hd0))) * (1000 * (wN (A.getD k hd0) + (wN (A.getD (k + 1) hd0))))))).toInt32 : Int32) = nI (((((sN (A.getD k hd0)) * (wN (A.getD (k + 1) hd0))) * (1000 * (wN (A.getD k hd0) + (wN (A.getD (k + 1) hd0))))) + ((((sN (A.getD (k + 1) hd0)) * (wN (A.getD k hd0))) - ((sN (A.getD k hd0)) * (wN (A.getD (k + 1) hd0)))) * ((2 * t9) - (1000 * (2 * a9 + (wN (A.getD k hd0))))))) / (((wN (A.getD k hd0)) * (wN (A.getD (k + 1) hd0))) * (1000 * (wN (A.getD k hd0) + (wN (A.getD (k + 1) hd0)))))) from nJ_l2i _) ?_
            exact e_i8 S hK h hr hlk dX8_quantileBy_362 (fin_p8 hp (by rw [q_mid hQ hT c_27 hk1 hpl (by rw [← ha]; exact c_216), ← ha]) rfl)
          · have c_216 := (nJ_le (by omega) (by omega)).mp c_216
            have hpl2 : plc A (k + 1) ≤ t9 := by have z1 := sumN_take hk; unfold plc; omega
            refine lv_iload hx hb dX8_quantileBy_219 (lv_at hl 0 rfl) ?_
            refine lv_aload_n hx hb dX8_quantileBy_221 rfl (lv_at hl 8 rfl) ?_
            refine g8 (v := (.ref (ad L 4))) S hK h 5 (by decide) rfl rfl q_601 dX8_quantileBy_222 ?_
            refine lv_iload hx hb dX8_quantileBy_225 (lv_at hl 1 rfl) ?_
            refine g8_el (n := 400) S hK h (by decide) rfl (by omega) dX8_quantileBy_227 ?_
            refine cv_i (show (σ 4 k : Int32) = nI (wN (A.getD k hd0)) from (HLw hL qg (by omega)).1) ?_
            refine a_iadd hx hb dX8_quantileBy_228 ?_
            refine lv_istore (lv' := [(11, .int (nI (a9 + (wN (A.getD k hd0))))), (10, .int (nI k)), (8, .long (nJ (1000 * (2 * n9 - wN (A.getD k9 hd0))))), (7, .int (nI k9)), (5, .long (nJ (1000 * wN (A.getD 0 hd0)))), (3, .long (nJ (2 * t9))), (2, .int (nI q9)), (1, .int (nI n9)), (0, .ref (ad L 0))]) hx hb dX8_quantileBy_229 hl (by decide) rfl (fun ls hl => ?_)
            refine lv_iinc (v := (nI (k + 1))) (lv' := [(10, .int (nI (k + 1))), (11, .int (nI (a9 + (wN (A.getD k hd0))))), (8, .long (nJ (1000 * (2 * n9 - wN (A.getD k9 hd0))))), (7, .int (nI k9)), (5, .long (nJ (1000 * wN (A.getD 0 hd0)))), (3, .long (nJ (2 * t9))), (2, .int (nI q9)), (1, .int (nI n9)), (0, .ref (ad L 0))]) hx hb dX8_quantileBy_231 hl (k := 1) rfl (iinc_1 _) (by decide) rfl (fun ls hl => ?_)
            refine lv_goto (tgt := 187) hx hb dX8_quantileBy_234 (by decide) ?_
            exact ih_187 (k + 1) (a9 + (wN (A.getD k hd0))) hk1 (by rw [ha, sumN_take hk]) hpl2 (by omega) _ _ _ h (lv_sub hl [1, 0, 2, 3, 4, 5, 6, 7, 8] rfl)
      exact LP_187 _ 0 0 (by omega) rfl (by show 1000 * sumN (A.take 0) + 500 * wN (A.getD 0 hd0) ≤ t9; rw [List.take_zero]; show 1000 * 0 + _ ≤ _; omega) (Nat.lt_succ_self _) _ _ _ h (lv_sub hl [0, 1, 2, 3, 4, 5, 8, 7, 6] rfl)
    · have c_107 := (nJ_le (by omega) (by omega)).mp c_107
      have hR : 2000 * n9 - 1000 * (2 * n9 - wN (A.getD k9 hd0)) = 1000 * wN (A.getD k9 hd0) := by omega
      have b1 : sN (A.getD k9 hd0) * (2000 * n9 - 1000 * (2 * n9 - wN (A.getD k9 hd0))) ≤ 1999800 * 200000 := Nat.mul_le_mul (by omega) (by omega)
      have b0 : G0 * wN (A.getD k9 hd0) ≤ 9999 * 200 := Nat.mul_le_mul qb l2
      have b2 : (G0 * wN (A.getD k9 hd0) - sN (A.getD k9 hd0)) * (2 * t9 - 1000 * (2 * n9 - wN (A.getD k9 hd0))) ≤ 1999800 * 400000 := Nat.mul_le_mul (by omega) (by omega)
      have b3 : wN (A.getD k9 hd0) * (2000 * n9 - 1000 * (2 * n9 - wN (A.getD k9 hd0))) ≤ 200 * 200000 := Nat.mul_le_mul (by omega) (by omega)
      have b4 : 0 < wN (A.getD k9 hd0) * (2000 * n9 - 1000 * (2 * n9 - wN (A.getD k9 hd0))) := Nat.mul_pos (by omega) (by omega)
      refine lv_ldc2 (v := (2000 : Int64)) hx hb S.2.2.2.1 (S.2.2.2.2 _ q_789) dX8_quantileBy_110 ?_
      refine cv_l (show ((2000 : Int64) : Int64) = nJ 2000 from rfl) ?_
      refine lv_iload_n hx hb dX8_quantileBy_113 rfl (lv_at hl 5 rfl) ?_
      refine lv_i2l (v := (nI n9).toInt64) hx hb dX8_quantileBy_114 rfl ?_
      refine cv_l (show ((nI n9).toInt64 : Int64) = nJ n9 from nJ_i2l (by omega)) ?_
      refine lv_lmul hx hb dX8_quantileBy_115 ?_
      refine cv_l (show (nJ 2000 * nJ n9 : Int64) = nJ (2000 * n9) from nJ_mul _ _) ?_
      refine lv_lload hx hb dX8_quantileBy_116 (lv_at hl 0 rfl) ?_
      refine lv_lsub hx hb dX8_quantileBy_118 ?_
      refine cv_l (show (nJ (2000 * n9) - nJ (1000 * ((2 * n9) - (wN (A.getD k9 hd0)))) : Int64) = nJ ((2000 * n9) - (1000 * ((2 * n9) - (wN (A.getD k9 hd0))))) from nJ_sub (by omega)) ?_
      refine lv_lstore (lv' := [(10, .long (nJ ((2000 * n9) - (1000 * ((2 * n9) - (wN (A.getD k9 hd0))))))), (8, .long (nJ (1000 * ((2 * n9) - (wN (A.getD k9 hd0)))))), (7, .int (nI k9)), (5, .long (nJ (1000 * (wN (A.getD 0 hd0))))), (3, .long (nJ (2 * t9))), (0, .ref (ad L 0)), (1, .int (nI n9)), (2, .int (nI q9))]) hx hb dX8_quantileBy_119 hl (by decide) rfl (fun ls hl => ?_)
      refine lv_aload_n hx hb dX8_quantileBy_121 rfl (lv_at hl 5 rfl) ?_
      refine g8 (v := (.ref (ad L 5))) S hK h 6 (by decide) rfl rfl q_602 dX8_quantileBy_122 ?_
      refine lv_iload hx hb dX8_quantileBy_125 (lv_at hl 2 rfl) ?_
      refine g8_el (n := 400) S hK h (by decide) rfl (by omega) dX8_quantileBy_127 ?_
      refine cv_i (show (σ 5 k9 : Int32) = nI (sN (A.getD k9 hd0)) from (HLw hL qg (by omega)).2.1) ?_
      refine lv_i2l (v := (nI (sN (A.getD k9 hd0))).toInt64) hx hb dX8_quantileBy_128 rfl ?_
      refine cv_l (show ((nI (sN (A.getD k9 hd0))).toInt64 : Int64) = nJ (sN (A.getD k9 hd0)) from nJ_i2l (by omega)) ?_
      refine lv_lload hx hb dX8_quantileBy_129 (lv_at hl 0 rfl) ?_
      refine lv_lmul hx hb dX8_quantileBy_131 ?_
      refine cv_l (show (nJ (sN (A.getD k9 hd0)) * nJ ((2000 * n9) - (1000 * ((2 * n9) - (wN (A.getD k9 hd0))))) : Int64) = nJ ((sN (A.getD k9 hd0)) * ((2000 * n9) - (1000 * ((2 * n9) - (wN (A.getD k9 hd0)))))) from nJ_mul _ _) ?_
      refine lv_aload_n hx hb dX8_quantileBy_132 rfl (lv_at hl 5 rfl) ?_
      refine g8 (v := (.ref (ad L 8))) S hK h 10 (by decide) rfl rfl q_606 dX8_quantileBy_133 ?_
      refine lv_iload_n hx hb dX8_quantileBy_136 rfl (lv_at hl 6 rfl) ?_
      refine lv_iconst (v := (nI 1)) hx hb dX8_quantileBy_137 (by decide) ?_
      refine a_isub hx hb dX8_quantileBy_138 (by omega) ?_
      refine g8_el (n := 200) S hK h (by decide) rfl (by omega) dX8_quantileBy_139 ?_
      refine cv_i (show (σ 8 (n9 - 1) : Int32) = nI G0 from ((hO _ (by omega)).trans hVl)) ?_
      refine lv_aload_n hx hb dX8_quantileBy_140 rfl (lv_at hl 5 rfl) ?_
      refine g8 (v := (.ref (ad L 4))) S hK h 5 (by decide) rfl rfl q_601 dX8_quantileBy_141 ?_
      refine lv_iload hx hb dX8_quantileBy_144 (lv_at hl 2 rfl) ?_
      refine g8_el (n := 400) S hK h (by decide) rfl (by omega) dX8_quantileBy_146 ?_
      refine cv_i (show (σ 4 k9 : Int32) = nI (wN (A.getD k9 hd0)) from (HLw hL qg (by omega)).1) ?_
      refine a_imul hx hb dX8_quantileBy_147 ?_
      refine lv_aload_n hx hb dX8_quantileBy_148 rfl (lv_at hl 5 rfl) ?_
      refine g8 (v := (.ref (ad L 5))) S hK h 6 (by decide) rfl rfl q_602 dX8_quantileBy_149 ?_
      refine lv_iload hx hb dX8_quantileBy_152 (lv_at hl 2 rfl) ?_
      refine g8_el (n := 400) S hK h (by decide) rfl (by omega) dX8_quantileBy_154 ?_
      refine cv_i (show (σ 5 k9 : Int32) = nI (sN (A.getD k9 hd0)) from (HLw hL qg (by omega)).2.1) ?_
      refine a_isub hx hb dX8_quantileBy_155 (by omega) ?_
      refine lv_i2l (v := (nI ((G0 * (wN (A.getD k9 hd0))) - (sN (A.getD k9 hd0)))).toInt64) hx hb dX8_quantileBy_156 rfl ?_
      refine cv_l (show ((nI ((G0 * (wN (A.getD k9 hd0))) - (sN (A.getD k9 hd0)))).toInt64 : Int64) = nJ ((G0 * (wN (A.getD k9 hd0))) - (sN (A.getD k9 hd0))) from nJ_i2l (by omega)) ?_
      refine lv_lload_n hx hb dX8_quantileBy_157 rfl (lv_at hl 4 rfl) ?_
      refine lv_lload hx hb dX8_quantileBy_158 (lv_at hl 1 rfl) ?_
      refine lv_lsub hx hb dX8_quantileBy_160 ?_
      refine cv_l (show (nJ (2 * t9) - nJ (1000 * ((2 * n9) - (wN (A.getD k9 hd0)))) : Int64) = nJ ((2 * t9) - (1000 * ((2 * n9) - (wN (A.getD k9 hd0))))) from nJ_sub (by omega)) ?_
      refine lv_lmul hx hb dX8_quantileBy_161 ?_
      refine cv_l (show (nJ ((G0 * (wN (A.getD k9 hd0))) - (sN (A.getD k9 hd0))) * nJ ((2 * t9) - (1000 * ((2 * n9) - (wN (A.getD k9 hd0))))) : Int64) = nJ (((G0 * (wN (A.getD k9 hd0))) - (sN (A.getD k9 hd0))) * ((2 * t9) - (1000 * ((2 * n9) - (wN (A.getD k9 hd0)))))) from nJ_mul _ _) ?_
      refine lv_ladd hx hb dX8_quantileBy_162 ?_
      refine cv_l (show (nJ ((sN (A.getD k9 hd0)) * ((2000 * n9) - (1000 * ((2 * n9) - (wN (A.getD k9 hd0)))))) + nJ (((G0 * (wN (A.getD k9 hd0))) - (sN (A.getD k9 hd0))) * ((2 * t9) - (1000 * ((2 * n9) - (wN (A.getD k9 hd0)))))) : Int64) = nJ (((sN (A.getD k9 hd0)) * ((2000 * n9) - (1000 * ((2 * n9) - (wN (A.getD k9 hd0)))))) + (((G0 * (wN (A.getD k9 hd0))) - (sN (A.getD k9 hd0))) * ((2 * t9) - (1000 * ((2 * n9) - (wN (A.getD k9 hd0))))))) from nJ_add _ _) ?_
      refine lv_lstore (lv' := [(12, .long (nJ (((sN (A.getD k9 hd0)) * ((2000 * n9) - (1000 * ((2 * n9) - (wN (A.getD k9 hd0)))))) + (((G0 * (wN (A.getD k9 hd0))) - (sN (A.getD k9 hd0))) * ((2 * t9) - (1000 * ((2 * n9) - (wN (A.getD k9 hd0))))))))), (10, .long (nJ ((2000 * n9) - (1000 * ((2 * n9) - (wN (A.getD k9 hd0))))))), (8, .long (nJ (1000 * ((2 * n9) - (wN (A.getD k9 hd0)))))), (7, .int (nI k9)), (5, .long (nJ (1000 * (wN (A.getD 0 hd0))))), (3, .long (nJ (2 * t9))), (0, .ref (ad L 0)), (1, .int (nI n9)), (2, .int (nI q9))]) hx hb dX8_quantileBy_163 hl (by decide) rfl (fun ls hl => ?_)
      refine lv_lload hx hb dX8_quantileBy_165 (lv_at hl 0 rfl) ?_
      refine lv_aload_n hx hb dX8_quantileBy_167 rfl (lv_at hl 6 rfl) ?_
      refine g8 (v := (.ref (ad L 4))) S hK h 5 (by decide) rfl rfl q_601 dX8_quantileBy_168 ?_
      refine lv_iload hx hb dX8_quantileBy_171 (lv_at hl 3 rfl) ?_
      refine g8_el (n := 400) S hK h (by decide) rfl (by omega) dX8_quantileBy_173 ?_
      refine cv_i (show (σ 4 k9 : Int32) = nI (wN (A.getD k9 hd0)) from (HLw hL qg (by omega)).1) ?_
      refine lv_i2l (v := (nI (wN (A.getD k9 hd0))).toInt64) hx hb dX8_quantileBy_174 rfl ?_
      refine cv_l (show ((nI (wN (A.getD k9 hd0))).toInt64 : Int64) = nJ (wN (A.getD k9 hd0)) from nJ_i2l (by omega)) ?_
      refine lv_lload hx hb dX8_quantileBy_175 (lv_at hl 1 rfl) ?_
      refine lv_lmul hx hb dX8_quantileBy_177 ?_
      refine cv_l (show (nJ (wN (A.getD k9 hd0)) * nJ ((2000 * n9) - (1000 * ((2 * n9) - (wN (A.getD k9 hd0))))) : Int64) = nJ ((wN (A.getD k9 hd0)) * ((2000 * n9) - (1000 * ((2 * n9) - (wN (A.getD k9 hd0)))))) from nJ_mul _ _) ?_
      refine lv_ldiv hx hb dX8_quantileBy_178 (fun z => absurd ((nJ_eq (by omega) (by omega)).mp (show nJ _ = nJ 0 from z)) (by omega)) ?_
      refine cv_l (show (nJ (((sN (A.getD k9 hd0)) * ((2000 * n9) - (1000 * ((2 * n9) - (wN (A.getD k9 hd0)))))) + (((G0 * (wN (A.getD k9 hd0))) - (sN (A.getD k9 hd0))) * ((2 * t9) - (1000 * ((2 * n9) - (wN (A.getD k9 hd0))))))) / nJ ((wN (A.getD k9 hd0)) * ((2000 * n9) - (1000 * ((2 * n9) - (wN (A.getD k9 hd0)))))) : Int64) = nJ ((((sN (A.getD k9 hd0)) * ((2000 * n9) - (1000 * ((2 * n9) - (wN (A.getD k9 hd0)))))) + (((G0 * (wN (A.getD k9 hd0))) - (sN (A.getD k9 hd0))) * ((2 * t9) - (1000 * ((2 * n9) - (wN (A.getD k9 hd0))))))) / ((wN (A.getD k9 hd0)) * ((2000 * n9) - (1000 * ((2 * n9) - (wN (A.getD k9 hd0))))))) from nJ_div (by omega) (by omega)) ?_
      refine lv_l2i (v := (nJ ((((sN (A.getD k9 hd0)) * ((2000 * n9) - (1000 * ((2 * n9) - (wN (A.getD k9 hd0)))))) + (((G0 * (wN (A.getD k9 hd0))) - (sN (A.getD k9 hd0))) * ((2 * t9) - (1000 * ((2 * n9) - (wN (A.getD k9 hd0))))))) / ((wN (A.getD k9 hd0)) * ((2000 * n9) - (1000 * ((2 * n9) - (wN (A.getD k9 hd0)))))))).toInt32) hx hb dX8_quantileBy_179 rfl ?_
      refine cv_i (show ((nJ ((((sN (A.getD k9 hd0)) * ((2000 * n9) - (1000 * ((2 * n9) - (wN (A.getD k9 hd0)))))) + (((G0 * (wN (A.getD k9 hd0))) - (sN (A.getD k9 hd0))) * ((2 * t9) - (1000 * ((2 * n9) - (wN (A.getD k9 hd0))))))) / ((wN (A.getD k9 hd0)) * ((2000 * n9) - (1000 * ((2 * n9) - (wN (A.getD k9 hd0)))))))).toInt32 : Int32) = nI ((((sN (A.getD k9 hd0)) * ((2000 * n9) - (1000 * ((2 * n9) - (wN (A.getD k9 hd0)))))) + (((G0 * (wN (A.getD k9 hd0))) - (sN (A.getD k9 hd0))) * ((2 * t9) - (1000 * ((2 * n9) - (wN (A.getD k9 hd0))))))) / ((wN (A.getD k9 hd0)) * ((2000 * n9) - (1000 * ((2 * n9) - (wN (A.getD k9 hd0))))))) from nJ_l2i _) ?_
      exact e_i8 S hK h hr hlk dX8_quantileBy_180 (fin_p8 hp (by rw [q_last hQ hT c_27 hk9 c_107]) rfl)
  · have c_27 := (nJ_le (by omega) (by omega)).mp c_27
    have b1 : (sN (A.getD 0 hd0) - L0 * wN (A.getD 0 hd0)) * (2 * t9) ≤ 1999800 * 400000 := Nat.mul_le_mul (by omega) (by omega)
    have b2 : wN (A.getD 0 hd0) * (1000 * wN (A.getD 0 hd0)) ≤ 200 * 200000 := Nat.mul_le_mul (by omega) (by omega)
    have b3 : 0 < wN (A.getD 0 hd0) * (1000 * wN (A.getD 0 hd0)) := Nat.mul_pos (by omega) (by omega)
    refine lv_aload_n hx hb dX8_quantileBy_30 rfl (lv_at hl 2 rfl) ?_
    refine g8 (v := (.ref (ad L 5))) S hK h 6 (by decide) rfl rfl q_602 dX8_quantileBy_31 ?_
    refine lv_iconst (v := (nI 0)) hx hb dX8_quantileBy_34 (by decide) ?_
    refine g8_el (n := 400) S hK h (by decide) rfl (by omega) dX8_quantileBy_35 ?_
    refine cv_i (show (σ 5 0 : Int32) = nI (sN (A.getD 0 hd0)) from (HLw hL qg (by omega)).2.1) ?_
    refine lv_aload_n hx hb dX8_quantileBy_36 rfl (lv_at hl 2 rfl) ?_
    refine g8 (v := (.ref (ad L 8))) S hK h 10 (by decide) rfl rfl q_606 dX8_quantileBy_37 ?_
    refine lv_iconst (v := (nI 0)) hx hb dX8_quantileBy_40 (by decide) ?_
    refine g8_el (n := 200) S hK h (by decide) rfl (by omega) dX8_quantileBy_41 ?_
    refine cv_i (show (σ 8 0 : Int32) = nI L0 from ((hO 0 (by omega)).trans hV0)) ?_
    refine lv_aload_n hx hb dX8_quantileBy_42 rfl (lv_at hl 2 rfl) ?_
    refine g8 (v := (.ref (ad L 4))) S hK h 5 (by decide) rfl rfl q_601 dX8_quantileBy_43 ?_
    refine lv_iconst (v := (nI 0)) hx hb dX8_quantileBy_46 (by decide) ?_
    refine g8_el (n := 400) S hK h (by decide) rfl (by omega) dX8_quantileBy_47 ?_
    refine cv_i (show (σ 4 0 : Int32) = nI (wN (A.getD 0 hd0)) from (HLw hL qg (by omega)).1) ?_
    refine a_imul hx hb dX8_quantileBy_48 ?_
    refine a_isub hx hb dX8_quantileBy_49 (by omega) ?_
    refine lv_i2l (v := (nI ((sN (A.getD 0 hd0)) - (L0 * (wN (A.getD 0 hd0))))).toInt64) hx hb dX8_quantileBy_50 rfl ?_
    refine cv_l (show ((nI ((sN (A.getD 0 hd0)) - (L0 * (wN (A.getD 0 hd0))))).toInt64 : Int64) = nJ ((sN (A.getD 0 hd0)) - (L0 * (wN (A.getD 0 hd0)))) from nJ_i2l (by omega)) ?_
    refine lv_lload_n hx hb dX8_quantileBy_51 rfl (lv_at hl 1 rfl) ?_
    refine lv_lmul hx hb dX8_quantileBy_52 ?_
    refine cv_l (show (nJ ((sN (A.getD 0 hd0)) - (L0 * (wN (A.getD 0 hd0)))) * nJ (2 * t9) : Int64) = nJ (((sN (A.getD 0 hd0)) - (L0 * (wN (A.getD 0 hd0)))) * (2 * t9)) from nJ_mul _ _) ?_
    refine lv_lstore (lv' := [(7, .long (nJ (((sN (A.getD 0 hd0)) - (L0 * (wN (A.getD 0 hd0)))) * (2 * t9)))), (5, .long (nJ (1000 * (wN (A.getD 0 hd0))))), (3, .long (nJ (2 * t9))), (0, .ref (ad L 0)), (1, .int (nI n9)), (2, .int (nI q9))]) hx hb dX8_quantileBy_53 hl (by decide) rfl (fun ls hl => ?_)
    refine lv_aload_n hx hb dX8_quantileBy_55 rfl (lv_at hl 3 rfl) ?_
    refine g8 (v := (.ref (ad L 8))) S hK h 10 (by decide) rfl rfl q_606 dX8_quantileBy_56 ?_
    refine lv_iconst (v := (nI 0)) hx hb dX8_quantileBy_59 (by decide) ?_
    refine g8_el (n := 200) S hK h (by decide) rfl (by omega) dX8_quantileBy_60 ?_
    refine cv_i (show (σ 8 0 : Int32) = nI L0 from ((hO 0 (by omega)).trans hV0)) ?_
    refine lv_lload hx hb dX8_quantileBy_61 (lv_at hl 0 rfl) ?_
    refine lv_aload_n hx hb dX8_quantileBy_63 rfl (lv_at hl 3 rfl) ?_
    refine g8 (v := (.ref (ad L 4))) S hK h 5 (by decide) rfl rfl q_601 dX8_quantileBy_64 ?_
    refine lv_iconst (v := (nI 0)) hx hb dX8_quantileBy_67 (by decide) ?_
    refine g8_el (n := 400) S hK h (by decide) rfl (by omega) dX8_quantileBy_68 ?_
    refine cv_i (show (σ 4 0 : Int32) = nI (wN (A.getD 0 hd0)) from (HLw hL qg (by omega)).1) ?_
    refine lv_i2l (v := (nI (wN (A.getD 0 hd0))).toInt64) hx hb dX8_quantileBy_69 rfl ?_
    refine cv_l (show ((nI (wN (A.getD 0 hd0))).toInt64 : Int64) = nJ (wN (A.getD 0 hd0)) from nJ_i2l (by omega)) ?_
    refine lv_lload hx hb dX8_quantileBy_70 (lv_at hl 1 rfl) ?_
    refine lv_lmul hx hb dX8_quantileBy_72 ?_
    refine cv_l (show (nJ (wN (A.getD 0 hd0)) * nJ (1000 * (wN (A.getD 0 hd0))) : Int64) = nJ ((wN (A.getD 0 hd0)) * (1000 * (wN (A.getD 0 hd0)))) from nJ_mul _ _) ?_
    refine lv_ldiv hx hb dX8_quantileBy_73 (fun z => absurd ((nJ_eq (by omega) (by omega)).mp (show nJ _ = nJ 0 from z)) (by omega)) ?_
    refine cv_l (show (nJ (((sN (A.getD 0 hd0)) - (L0 * (wN (A.getD 0 hd0)))) * (2 * t9)) / nJ ((wN (A.getD 0 hd0)) * (1000 * (wN (A.getD 0 hd0)))) : Int64) = nJ ((((sN (A.getD 0 hd0)) - (L0 * (wN (A.getD 0 hd0)))) * (2 * t9)) / ((wN (A.getD 0 hd0)) * (1000 * (wN (A.getD 0 hd0))))) from nJ_div (by omega) (by omega)) ?_
    refine lv_l2i (v := (nJ ((((sN (A.getD 0 hd0)) - (L0 * (wN (A.getD 0 hd0)))) * (2 * t9)) / ((wN (A.getD 0 hd0)) * (1000 * (wN (A.getD 0 hd0)))))).toInt32) hx hb dX8_quantileBy_74 rfl ?_
    refine cv_i (show ((nJ ((((sN (A.getD 0 hd0)) - (L0 * (wN (A.getD 0 hd0)))) * (2 * t9)) / ((wN (A.getD 0 hd0)) * (1000 * (wN (A.getD 0 hd0)))))).toInt32 : Int32) = nI ((((sN (A.getD 0 hd0)) - (L0 * (wN (A.getD 0 hd0)))) * (2 * t9)) / ((wN (A.getD 0 hd0)) * (1000 * (wN (A.getD 0 hd0))))) from nJ_l2i _) ?_
    refine a_iadd hx hb dX8_quantileBy_75 ?_
    exact e_i8 S hK h hr hlk dX8_quantileBy_76 (fin_p8 hp (by rw [q_first hQ hT c_27]) rfl)
