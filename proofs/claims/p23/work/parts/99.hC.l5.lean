abbrev rL_isFloat : Room := { frames := 0, cells := 0, slots := 0, locals := 0 }
theorem yd_L_isFloat : ydV yL_isFloat RL 3 := ⟨rfl, by decide +kernel, by decide +kernel, by decide +kernel⟩
set_option maxHeartbeats 4000000 in
set_option maxRecDepth 100000 in
theorem c_L_isFloat (l : Launch) (Lc L : Lay) (X : SS) (hh : List SS) (σ : Me) {s9 w9 : Nat} (hs2 : s9 ≤ 1999800) (hw1 : 1 ≤ w9) (hw2 : w9 ≤ 200) : Mf9 l Lc L X hh yL_isFloat (Cond.code yL_isFloat cL_isFloat 8 (some FieldType.boolean) :: qA) rL_isFloat [.int (flI s9 w9), .int (nI s9), .int (nI w9)] σ (some (.int (nI 1))) σ := by
  refine Mf9.ofW (by decide) (Nat.le_of_ble_eq_true rfl) ?_
  intro p e s m args below meth c ls post hp hV S hr hlk hK h hl
  have hx := S.1
  have hb := S.2.1
  have hl : lv_has ls 8 [(0, .int (flI s9 w9)), (1, .int (nI s9)), (2, .int (nI w9))] := hl
  refine lv_iload_n hx hb dL_isFloat_0 rfl (lv_at hl 1 rfl) ?_
  refine b_if_ne (tgt := 14) hx hb dL_isFloat_1 (by decide) (by omega) (fun c_1 => ?_) (fun c_1 => ?_)
  · obtain ⟨bn, sh, dc, hF⟩ := fq_ex (show 1 ≤ s9 by omega) hs2 hw1 hw2
    obtain ⟨f1, f2, f3, f4, f5, f6, -⟩ := id hF
    have hl : lv_has ls 8 [(0, .int (nI bn)), (1, .int (nI s9)), (2, .int (nI w9))] := by rw [show (.int (flI s9 w9) : Value) = .int (nI bn) from (by rw [f1])] at hl; exact hl
    refine lv_sipush (v := (nI 150)) hx hb dL_isFloat_14 (by decide) ?_
    refine lv_iload_n hx hb dL_isFloat_17 rfl (lv_at hl 0 rfl) ?_
    refine lv_bipush (v := (nI 23)) hx hb dL_isFloat_18 (by decide) ?_
    refine lv_iushr (v := (nI (bn / 8388608))) hx hb dL_isFloat_20 (ush_23 f2) ?_
    refine cv_i (show (nI (bn / 8388608) : Int32) = nI (150 - sh) from (by rw [f3])) ?_
    refine a_isub hx hb dL_isFloat_21 (by omega) ?_
    refine cv_i (show (nI (150 - (150 - sh)) : Int32) = nI sh from (by congr 1; omega)) ?_
    refine lv_istore_n (lv' := [(3, .int (nI sh)), (0, .int (nI bn)), (1, .int (nI s9)), (2, .int (nI w9))]) hx hb dL_isFloat_22 rfl hl (by decide) rfl (fun ls hl => ?_)
    refine lv_iload_n hx hb dL_isFloat_23 rfl (lv_at hl 1 rfl) ?_
    refine lv_ldc (v := (8388607 : Int32)) hx hb S.2.2.2.1 (S.2.2.2.2 _ q_438) dL_isFloat_24 ?_
    refine lv_iand hx hb dL_isFloat_26 ?_
    refine lv_ldc (v := (8388608 : Int32)) hx hb S.2.2.2.1 (S.2.2.2.2 _ q_439) dL_isFloat_27 ?_
    refine lv_ior hx hb dL_isFloat_29 ?_
    refine cv_i (show (((nI bn) &&& (8388607 : Int32)) ||| (8388608 : Int32) : Int32) = nI dc from (dig_c f2 f4)) ?_
    refine lv_i2l (v := (nI dc).toInt64) hx hb dL_isFloat_30 rfl ?_
    refine cv_l (show ((nI dc).toInt64 : Int64) = nJ dc from nJ_i2l (by omega)) ?_
    refine lv_lstore (lv' := [(4, .long (nJ dc)), (3, .int (nI sh)), (0, .int (nI bn)), (1, .int (nI s9)), (2, .int (nI w9))]) hx hb dL_isFloat_31 hl (by decide) rfl (fun ls hl => ?_)
    refine lv_iload_n hx hb dL_isFloat_33 rfl (lv_at hl 1 rfl) ?_
    refine b_if_lt (tgt := 47) hx hb dL_isFloat_34 (by decide) (by omega) ?_
    refine lv_iload_n hx hb dL_isFloat_37 rfl (lv_at hl 1 rfl) ?_
    refine lv_bipush (v := (nI 40)) hx hb dL_isFloat_38 (by decide) ?_
    refine b_icmp_gt (tgt := 47) hx hb dL_isFloat_40 (by decide) (by omega) (by omega) (fun c_40 => absurd c_40 (by omega)) (fun c_40 => ?_)
    refine lv_iload_n hx hb dL_isFloat_43 rfl (lv_at hl 2 rfl) ?_
    refine b_if_ge (tgt := 49) hx hb dL_isFloat_44 (by decide) (by omega) ?_
    refine lv_iload_n hx hb dL_isFloat_49 rfl (lv_at hl 3 rfl) ?_
    refine lv_i2l (v := (nI s9).toInt64) hx hb dL_isFloat_50 rfl ?_
    refine cv_l (show ((nI s9).toInt64 : Int64) = nJ s9 from nJ_i2l (by omega)) ?_
    refine lv_iload_n hx hb dL_isFloat_51 rfl (lv_at hl 1 rfl) ?_
    refine lv_lshl (v := nJ (s9 * 2 ^ sh)) hx hb dL_isFloat_52 (shl_n (by omega)) ?_
    refine lv_lload hx hb dL_isFloat_53 (lv_at hl 0 rfl) ?_
    refine lv_iload_n hx hb dL_isFloat_55 rfl (lv_at hl 4 rfl) ?_
    refine lv_i2l (v := (nI w9).toInt64) hx hb dL_isFloat_56 rfl ?_
    refine cv_l (show ((nI w9).toInt64 : Int64) = nJ w9 from nJ_i2l (by omega)) ?_
    refine lv_lmul hx hb dL_isFloat_57 ?_
    refine cv_l (show (nJ dc * nJ w9 : Int64) = nJ (dc * w9) from nJ_mul _ _) ?_
    refine lv_lsub hx hb dL_isFloat_58 ?_
    refine lv_topl (fun ofs e_ofs => ?_)
    refine lv_lstore (lv' := [(6, .long ofs), (4, .long (nJ dc)), (3, .int (nI sh)), (0, .int (nI bn)), (1, .int (nI s9)), (2, .int (nI w9))]) hx hb dL_isFloat_59 hl (by decide) rfl (fun ls hl => ?_)
    refine lv_ldc2 (v := (2 : Int64)) hx hb S.2.2.2.1 (S.2.2.2.2 _ q_440) dL_isFloat_61 ?_
    refine cv_l (show ((2 : Int64) : Int64) = nJ 2 from rfl) ?_
    refine lv_lload hx hb dL_isFloat_64 (lv_at hl 0 rfl) ?_
    refine lv_lmul hx hb dL_isFloat_66 ?_
    refine lv_iload_n hx hb dL_isFloat_67 rfl (lv_at hl 5 rfl) ?_
    refine lv_i2l (v := (nI w9).toInt64) hx hb dL_isFloat_68 rfl ?_
    refine cv_l (show ((nI w9).toInt64 : Int64) = nJ w9 from nJ_i2l (by omega)) ?_
    refine lv_lcmpv hx hb dL_isFloat_69 ?_
    refine lc_ge (tgt := 85) hx hb dL_isFloat_70 (by decide) (fun c_70 => ?_) (fun c_70 => ?_)
    · have hg := fq_cmp hF hs2 hw1 hw2 e_ofs (Or.inl c_70)
      refine lv_ldc2 (v := (2 : Int64)) hx hb S.2.2.2.1 (S.2.2.2.2 _ q_440) dL_isFloat_85 ?_
      refine cv_l (show ((2 : Int64) : Int64) = nJ 2 from rfl) ?_
      refine lv_lload hx hb dL_isFloat_88 (lv_at hl 0 rfl) ?_
      refine lv_lmul hx hb dL_isFloat_90 ?_
      refine lv_iload_n hx hb dL_isFloat_91 rfl (lv_at hl 5 rfl) ?_
      refine lv_i2l (v := (nI w9).toInt64) hx hb dL_isFloat_92 rfl ?_
      refine cv_l (show ((nI w9).toInt64 : Int64) = nJ w9 from nJ_i2l (by omega)) ?_
      refine lv_lcmpv hx hb dL_isFloat_93 ?_
      refine lc_eq (tgt := 109) hx hb dL_isFloat_94 (by decide) (fun c_94 => ?_) (fun c_94 => ?_)
      · refine lv_lload hx hb dL_isFloat_109 (lv_at hl 1 rfl) ?_
        refine lv_lconst (v := 1) hx hb dL_isFloat_111 (by decide) ?_
        refine cv_l (show ((1 : Int64) : Int64) = nJ 1 from rfl) ?_
        refine lv_land hx hb dL_isFloat_112 ?_
        refine lv_lconst (v := 0) hx hb dL_isFloat_113 (by decide) ?_
        refine cv_l (show ((0 : Int64) : Int64) = nJ 0 from rfl) ?_
        refine lv_lcmpv hx hb dL_isFloat_114 ?_
        refine lc_ne (tgt := 122) hx hb dL_isFloat_115 (by decide) (fun c_115 => absurd c_115 (fun z => z (by rw [land_1, hg.1]))) (fun c_115 => ?_)
        refine lv_iconst (v := (nI 1)) hx hb dL_isFloat_118 (by decide) ?_
        refine lv_goto (tgt := 123) hx hb dL_isFloat_119 (by decide) ?_
        exact e_z9 S hK h hr hlk (Or.inr rfl) dL_isFloat_123 hp
      · refine lv_ldc2 (v := (-2 : Int64)) hx hb S.2.2.2.1 (S.2.2.2.2 _ q_441) dL_isFloat_97 ?_
        refine lv_lload hx hb dL_isFloat_100 (lv_at hl 0 rfl) ?_
        refine lv_lmul hx hb dL_isFloat_102 ?_
        refine lv_iload_n hx hb dL_isFloat_103 rfl (lv_at hl 5 rfl) ?_
        refine lv_i2l (v := (nI w9).toInt64) hx hb dL_isFloat_104 rfl ?_
        refine cv_l (show ((nI w9).toInt64 : Int64) = nJ w9 from nJ_i2l (by omega)) ?_
        refine lv_lcmpv hx hb dL_isFloat_105 ?_
        refine lc_ne (tgt := 122) hx hb dL_isFloat_106 (by decide) (fun c_106 => absurd c_106 (fun z => hg.2.elim (fun z1 => c_94 z1) (fun z1 => z z1))) (fun c_106 => ?_)
        refine lv_lload hx hb dL_isFloat_109 (lv_at hl 1 rfl) ?_
        refine lv_lconst (v := 1) hx hb dL_isFloat_111 (by decide) ?_
        refine cv_l (show ((1 : Int64) : Int64) = nJ 1 from rfl) ?_
        refine lv_land hx hb dL_isFloat_112 ?_
        refine lv_lconst (v := 0) hx hb dL_isFloat_113 (by decide) ?_
        refine cv_l (show ((0 : Int64) : Int64) = nJ 0 from rfl) ?_
        refine lv_lcmpv hx hb dL_isFloat_114 ?_
        refine lc_ne (tgt := 122) hx hb dL_isFloat_115 (by decide) (fun c_115 => absurd c_115 (fun z => z (by rw [land_1, hg.1]))) (fun c_115 => ?_)
        refine lv_iconst (v := (nI 1)) hx hb dL_isFloat_118 (by decide) ?_
        refine lv_goto (tgt := 123) hx hb dL_isFloat_119 (by decide) ?_
        exact e_z9 S hK h hr hlk (Or.inr rfl) dL_isFloat_123 hp
    · refine lv_ldc2 (v := (-2 : Int64)) hx hb S.2.2.2.1 (S.2.2.2.2 _ q_441) dL_isFloat_73 ?_
      refine lv_lload hx hb dL_isFloat_76 (lv_at hl 0 rfl) ?_
      refine lv_lmul hx hb dL_isFloat_78 ?_
      refine lv_iload_n hx hb dL_isFloat_79 rfl (lv_at hl 5 rfl) ?_
      refine lv_i2l (v := (nI w9).toInt64) hx hb dL_isFloat_80 rfl ?_
      refine cv_l (show ((nI w9).toInt64 : Int64) = nJ w9 from nJ_i2l (by omega)) ?_
      refine lv_lcmpv hx hb dL_isFloat_81 ?_
      refine lc_lt (tgt := 118) hx hb dL_isFloat_82 (by decide) (fun c_82 => ?_) (fun c_82 => ?_)
      · refine lv_iconst (v := (nI 1)) hx hb dL_isFloat_118 (by decide) ?_
        refine lv_goto (tgt := 123) hx hb dL_isFloat_119 (by decide) ?_
        exact e_z9 S hK h hr hlk (Or.inr rfl) dL_isFloat_123 hp
      · have hg := fq_cmp hF hs2 hw1 hw2 e_ofs (Or.inr c_82)
        refine lv_ldc2 (v := (2 : Int64)) hx hb S.2.2.2.1 (S.2.2.2.2 _ q_440) dL_isFloat_85 ?_
        refine cv_l (show ((2 : Int64) : Int64) = nJ 2 from rfl) ?_
        refine lv_lload hx hb dL_isFloat_88 (lv_at hl 0 rfl) ?_
        refine lv_lmul hx hb dL_isFloat_90 ?_
        refine lv_iload_n hx hb dL_isFloat_91 rfl (lv_at hl 5 rfl) ?_
        refine lv_i2l (v := (nI w9).toInt64) hx hb dL_isFloat_92 rfl ?_
        refine cv_l (show ((nI w9).toInt64 : Int64) = nJ w9 from nJ_i2l (by omega)) ?_
        refine lv_lcmpv hx hb dL_isFloat_93 ?_
        refine lc_eq (tgt := 109) hx hb dL_isFloat_94 (by decide) (fun c_94 => ?_) (fun c_94 => ?_)
        · refine lv_lload hx hb dL_isFloat_109 (lv_at hl 1 rfl) ?_
          refine lv_lconst (v := 1) hx hb dL_isFloat_111 (by decide) ?_
          refine cv_l (show ((1 : Int64) : Int64) = nJ 1 from rfl) ?_
          refine lv_land hx hb dL_isFloat_112 ?_
          refine lv_lconst (v := 0) hx hb dL_isFloat_113 (by decide) ?_
          refine cv_l (show ((0 : Int64) : Int64) = nJ 0 from rfl) ?_
          refine lv_lcmpv hx hb dL_isFloat_114 ?_
          refine lc_ne (tgt := 122) hx hb dL_isFloat_115 (by decide) (fun c_115 => absurd c_115 (fun z => z (by rw [land_1, hg.1]))) (fun c_115 => ?_)
          refine lv_iconst (v := (nI 1)) hx hb dL_isFloat_118 (by decide) ?_
          refine lv_goto (tgt := 123) hx hb dL_isFloat_119 (by decide) ?_
          exact e_z9 S hK h hr hlk (Or.inr rfl) dL_isFloat_123 hp
        · refine lv_ldc2 (v := (-2 : Int64)) hx hb S.2.2.2.1 (S.2.2.2.2 _ q_441) dL_isFloat_97 ?_
          refine lv_lload hx hb dL_isFloat_100 (lv_at hl 0 rfl) ?_
          refine lv_lmul hx hb dL_isFloat_102 ?_
          refine lv_iload_n hx hb dL_isFloat_103 rfl (lv_at hl 5 rfl) ?_
          refine lv_i2l (v := (nI w9).toInt64) hx hb dL_isFloat_104 rfl ?_
          refine cv_l (show ((nI w9).toInt64 : Int64) = nJ w9 from nJ_i2l (by omega)) ?_
          refine lv_lcmpv hx hb dL_isFloat_105 ?_
          refine lc_ne (tgt := 122) hx hb dL_isFloat_106 (by decide) (fun c_106 => absurd c_106 (fun z => hg.2.elim (fun z1 => c_94 z1) (fun z1 => z z1))) (fun c_106 => ?_)
          refine lv_lload hx hb dL_isFloat_109 (lv_at hl 1 rfl) ?_
          refine lv_lconst (v := 1) hx hb dL_isFloat_111 (by decide) ?_
          refine cv_l (show ((1 : Int64) : Int64) = nJ 1 from rfl) ?_
          refine lv_land hx hb dL_isFloat_112 ?_
          refine lv_lconst (v := 0) hx hb dL_isFloat_113 (by decide) ?_
          refine cv_l (show ((0 : Int64) : Int64) = nJ 0 from rfl) ?_
          refine lv_lcmpv hx hb dL_isFloat_114 ?_
          refine lc_ne (tgt := 122) hx hb dL_isFloat_115 (by decide) (fun c_115 => absurd c_115 (fun z => z (by rw [land_1, hg.1]))) (fun c_115 => ?_)
          refine lv_iconst (v := (nI 1)) hx hb dL_isFloat_118 (by decide) ?_
          refine lv_goto (tgt := 123) hx hb dL_isFloat_119 (by decide) ?_
          exact e_z9 S hK h hr hlk (Or.inr rfl) dL_isFloat_123 hp
  · have hl : lv_has ls 8 [(0, .int (nI 0)), (1, .int (nI s9)), (2, .int (nI w9))] := by rw [show (.int (flI s9 w9) : Value) = .int (nI 0) from (by rw [flI, if_pos c_1])] at hl; exact hl
    refine lv_iload_n hx hb dL_isFloat_4 rfl (lv_at hl 0 rfl) ?_
    refine b_if_ne (tgt := 12) hx hb dL_isFloat_5 (by decide) (by decide) (fun c9 => absurd c9 (by decide)) (fun _ => ?_)
    refine lv_iconst (v := (nI 1)) hx hb dL_isFloat_8 (by decide) ?_
    refine lv_goto (tgt := 13) hx hb dL_isFloat_9 (by decide) ?_
    exact e_z9 S hK h hr hlk (Or.inr rfl) dL_isFloat_13 hp
