abbrev rX7_floatBits : Room := { frames := 0, cells := 0, slots := 0, locals := 0 }
theorem yd_X7_floatBits : ydV yX7_floatBits RX7 1 := ⟨rfl, by decide +kernel, by decide +kernel, by decide +kernel⟩
set_option maxHeartbeats 4000000 in
set_option maxRecDepth 100000 in
theorem c_X7_floatBits (l : Launch) (L : Lay) (σ : St) {cm E : Nat} (hc : nrm cm) (h1 : 1 ≤ E) (h2 : E ≤ 254) : Mf l L yX7_floatBits (Cond.code yX7_floatBits cX7_floatBits 4 (some FieldType.int) :: qA) rX7_floatBits [.float (F32 cm E)] σ (some (.int (nI (fb cm E)))) σ := by
  refine Mf.ofW (by decide) (Nat.le_of_ble_eq_true rfl) ?_
  intro p e s m args below meth c ls post hp hI S hr hlk hK h hl
  have hx := S.1
  have hb := S.2.1
  have hok := h.ok
  have hl : lv_has ls 4 [(0, .float (F32 cm E))] := hl
  refine lv_fload_n hx hb dX7_floatBits_0 rfl (lv_at hl 0 rfl) ?_
  refine lv_fconst0 hx hb dX7_floatBits_1 ?_
  refine cv_f (show (FP.fconst0 : UInt32) = FP.fconst0 from rfl) ?_
  refine lv_fcmp hx hb dX7_floatBits_2 ?_
  refine cv_i (show (Op.cmpValue (FP.fcmp (F32 cm E) FP.fconst0) CmpOp.l : Int32) = nI 1 from (cv_0 hc h1 h2)) ?_
  refine b_if_gt (tgt := 8) hx hb dX7_floatBits_3 (by decide) (by decide) (fun _ => ?_) (fun c9 => absurd c9 (by decide))
  refine lv_fload_n hx hb dX7_floatBits_8 rfl (lv_at hl 0 rfl) ?_
  refine lv_fstore_n (lv' := [(1, .float (F32 cm E)), (0, .float (F32 cm E))]) hx hb dX7_floatBits_9 rfl hl (by decide) rfl (fun ls hl => ?_)
  refine lv_bipush (v := (nI 127)) hx hb dX7_floatBits_10 (by decide) ?_
  refine lv_istore_n (lv' := [(2, .int (nI 127)), (1, .float (F32 cm E)), (0, .float (F32 cm E))]) hx hb dX7_floatBits_12 rfl hl (by decide) rfl (fun ls hl => ?_)
  have LP_13 : ∀ (n_13 : Nat) (e1 : Nat) (ex : Nat), (ex + e1 = 127 + E) → (1 ≤ e1) → (e1 ≤ E) → (127 ≤ e1 ∨ e1 = E) → e1 < n_13 → ∀ (H : Heap) (locs : List Loc) (ls : Array Slot), Hd L s.heap H σ locs → lv_has ls 4 [(2, .int (nI ex)), (1, .float (F32 cm e1)), (0, .float (F32 cm E))] → W p l e rX7_floatBits s m args below meth c H locs 0 0 (MQ below (Qg post (bs L) (Aw L)) args s 0 0 (Aw L)) (F0 m 13 ls []) := by
    intro n_13
    induction n_13 with
    | zero => intro e1 ex; intros; omega
    | succ n_13 ih_13 =>
      intro e1 ex he g1 g2 g3 hm_13 H locs ls h hl
      have hok := h.ok
      refine lv_fload_n hx hb dX7_floatBits_13 rfl (lv_at hl 1 rfl) ?_
      refine lv_fconst2 hx hb dX7_floatBits_14 ?_
      refine cv_f (show (FP.fconst2 : UInt32) = F32 8388608 128 from (by decide +kernel)) ?_
      refine lv_fcmp hx hb dX7_floatBits_15 ?_
      refine lv_if_lt (tgt := 37) hx hb dX7_floatBits_16 (by decide) (fun c_16 => ?_) (fun c_16 => ?_)
      · have e128 : e1 < 128 := (cv_iff hc (by omega) (by omega) (by omega) (by omega)).mp c_16
        have LP_37 : ∀ (n_37 : Nat) (e2 : Nat) (ex2 : Nat), (ex2 + e2 = 127 + E) → (1 ≤ e2) → (e2 ≤ 127) → 128 - e2 < n_37 → ∀ (H : Heap) (locs : List Loc) (ls : Array Slot), Hd L s.heap H σ locs → lv_has ls 4 [(2, .int (nI ex2)), (1, .float (F32 cm e2)), (0, .float (F32 cm E))] → W p l e rX7_floatBits s m args below meth c H locs 0 0 (MQ below (Qg post (bs L) (Aw L)) args s 0 0 (Aw L)) (F0 m 37 ls []) := by
          intro n_37
          induction n_37 with
          | zero => intro e2 ex2; intros; omega
          | succ n_37 ih_37 =>
            intro e2 ex2 he2 k1 k2 hm_37 H locs ls h hl
            have hok := h.ok
            refine lv_fload_n hx hb dX7_floatBits_37 rfl (lv_at hl 1 rfl) ?_
            refine lv_fconst1 hx hb dX7_floatBits_38 ?_
            refine cv_f (show (FP.fconst1 : UInt32) = F32 8388608 127 from (by decide +kernel)) ?_
            refine lv_fcmp hx hb dX7_floatBits_39 ?_
            refine lv_if_ge (tgt := 58) hx hb dX7_floatBits_40 (by decide) (fun c_40 => ?_) (fun c_40 => ?_)
            · have e127 : ¬ e2 < 127 := fun z => absurd ((cv_iff (op := CmpOp.g) hc (by omega) (by omega) (by omega) (by omega)).mpr z) (Int32.not_lt.mpr c_40)
              refine lv_fload_n hx hb dX7_floatBits_58 rfl (lv_at hl 1 rfl) ?_
              refine lv_ldcf (v := (1258291200 : UInt32)) hx hb S.2.2.2.1 (S.2.2.2.2 _ q_433) dX7_floatBits_59 ?_
              refine cv_f (show ((1258291200 : UInt32) : UInt32) = F32 8388608 150 from (by decide +kernel)) ?_
              refine lv_fmul hx hb dX7_floatBits_61 (by rw [mul_fb hc (by omega) (by omega) (by omega) (by omega) (by omega) (by omega)]; exact F32_n hc (by omega)) ?_
              refine cv_f (show (FP.fmul (F32 cm e2) (F32 8388608 150) : UInt32) = F32 cm 150 from (by rw [mul_fb hc (by omega) (by omega) (by omega) (by omega) (by omega) (by omega), show e2 + 150 - 127 = 150 by omega])) ?_
              refine lv_f2i hx hb dX7_floatBits_62 ?_
              refine cv_i (show (FP.f2i (F32 cm 150) : Int32) = nI cm from (f2i_fb hc)) ?_
              refine lv_ldc (v := (8388608 : Int32)) hx hb S.2.2.2.1 (S.2.2.2.2 _ q_434) dX7_floatBits_63 ?_
              refine cv_i (show ((8388608 : Int32) : Int32) = nI 8388608 from (by decide +kernel)) ?_
              refine a_isub hx hb dX7_floatBits_65 hc.1 ?_
              refine lv_istore_n (lv' := [(3, .int (nI (cm - 8388608))), (2, .int (nI ex2)), (1, .float (F32 cm e2)), (0, .float (F32 cm E))]) hx hb dX7_floatBits_66 rfl hl (by decide) rfl (fun ls hl => ?_)
              refine lv_iload_n hx hb dX7_floatBits_67 rfl (lv_at hl 1 rfl) ?_
              refine lv_bipush (v := (nI 23)) hx hb dX7_floatBits_68 (by decide) ?_
              refine lv_ishl hx hb dX7_floatBits_70 ?_
              refine lv_iload_n hx hb dX7_floatBits_71 rfl (lv_at hl 0 rfl) ?_
              refine lv_ior hx hb dX7_floatBits_72 ?_
              refine cv_i (show (((nI ex2) <<< ((nI 23) &&& 31)) ||| (nI (cm - 8388608)) : Int32) = nI (fb cm E) from (by rw [or_sh (by omega) (by have := hc.2; omega), show ex2 = E by omega]; rfl)) ?_
              exact e_i S hK h hr hlk dX7_floatBits_73 hp
            · have e127 : e2 < 127 := (cv_iff (op := CmpOp.g) hc (by omega) (by omega) (by omega) (by omega)).mp (Int32.not_le.mp c_40)
              refine lv_iload_n hx hb dX7_floatBits_43 rfl (lv_at hl 0 rfl) ?_
              refine lv_iconst (v := (nI 1)) hx hb dX7_floatBits_44 (by decide) ?_
              refine b_icmp_le (tgt := 58) hx hb dX7_floatBits_45 (by decide) (by omega) (by omega) (fun c_45 => absurd c_45 (by omega)) (fun c_45 => ?_)
              obtain ⟨ex3, rfl⟩ : ∃ z, ex2 = z + 1 := ⟨ex2 - 1, by omega⟩
              refine lv_fload_n hx hb dX7_floatBits_48 rfl (lv_at hl 1 rfl) ?_
              refine lv_fconst2 hx hb dX7_floatBits_49 ?_
              refine cv_f (show (FP.fconst2 : UInt32) = F32 8388608 128 from (by decide +kernel)) ?_
              refine lv_fmul hx hb dX7_floatBits_50 (by rw [mul_fb hc (by omega) (by omega) (by omega) (by omega) (by omega) (by omega)]; exact F32_n hc (by omega)) ?_
              refine cv_f (show (FP.fmul (F32 cm e2) (F32 8388608 128) : UInt32) = F32 cm (e2 + 1) from (by rw [mul_fb hc (by omega) (by omega) (by omega) (by omega) (by omega) (by omega), show e2 + 128 - 127 = e2 + 1 by omega])) ?_
              refine lv_fstore_n (lv' := [(1, .float (F32 cm (e2 + 1))), (2, .int (nI (ex3 + 1))), (0, .float (F32 cm E))]) hx hb dX7_floatBits_51 rfl hl (by decide) rfl (fun ls hl => ?_)
              refine lv_iinc (v := (nI ex3)) (lv' := [(2, .int (nI ex3)), (1, .float (F32 cm (e2 + 1))), (0, .float (F32 cm E))]) hx hb dX7_floatBits_52 hl (k := 1) rfl (iinc_m1 _) (by decide) rfl (fun ls hl => ?_)
              refine lv_goto (tgt := 37) hx hb dX7_floatBits_55 (by decide) ?_
              exact ih_37 (e2 + 1) ex3 (by omega) (by omega) (by omega) (by omega) _ _ _ h (lv_sub hl [0, 1, 2] rfl)
        exact LP_37 _ e1 ex (by omega) (by omega) (by omega) (Nat.lt_succ_self _) _ _ _ h (lv_sub hl [0, 1, 2] rfl)
      · have e128 : ¬ e1 < 128 := fun z => c_16 ((cv_iff hc (by omega) (by omega) (by omega) (by omega)).mpr z)
        refine lv_iload_n hx hb dX7_floatBits_19 rfl (lv_at hl 0 rfl) ?_
        refine lv_sipush (v := (nI 254)) hx hb dX7_floatBits_20 (by decide) ?_
        refine b_icmp_ge (tgt := 37) hx hb dX7_floatBits_23 (by decide) (by omega) (by omega) (fun c_23 => absurd c_23 (by omega)) (fun c_23 => ?_)
        refine lv_fload_n hx hb dX7_floatBits_26 rfl (lv_at hl 1 rfl) ?_
        refine lv_ldcf (v := (1056964608 : UInt32)) hx hb S.2.2.2.1 (S.2.2.2.2 _ q_432) dX7_floatBits_27 ?_
        refine cv_f (show ((1056964608 : UInt32) : UInt32) = F32 8388608 126 from (by decide +kernel)) ?_
        refine lv_fmul hx hb dX7_floatBits_29 (by rw [mul_fb hc (by omega) (by omega) (by omega) (by omega) (by omega) (by omega)]; exact F32_n hc (by omega)) ?_
        refine cv_f (show (FP.fmul (F32 cm e1) (F32 8388608 126) : UInt32) = F32 cm (e1 - 1) from (by rw [mul_fb hc (by omega) (by omega) (by omega) (by omega) (by omega) (by omega), show e1 + 126 - 127 = e1 - 1 by omega])) ?_
        refine lv_fstore_n (lv' := [(1, .float (F32 cm (e1 - 1))), (2, .int (nI ex)), (0, .float (F32 cm E))]) hx hb dX7_floatBits_30 rfl hl (by decide) rfl (fun ls hl => ?_)
        refine lv_iinc (v := (nI (ex + 1))) (lv' := [(2, .int (nI (ex + 1))), (1, .float (F32 cm (e1 - 1))), (0, .float (F32 cm E))]) hx hb dX7_floatBits_31 hl (k := 1) rfl (iinc_1 _) (by decide) rfl (fun ls hl => ?_)
        refine lv_goto (tgt := 13) hx hb dX7_floatBits_34 (by decide) ?_
        exact ih_13 (e1 - 1) (ex + 1) (by omega) (by omega) (by omega) (by omega) (by omega) _ _ _ h (lv_sub hl [0, 1, 2] rfl)
  exact LP_13 _ E 127 (by omega) (by omega) (by omega) (by omega) (Nat.lt_succ_self _) _ _ _ h (lv_sub hl [0, 1, 2] rfl)

abbrev rX7_floatBits_z : Room := { frames := 0, cells := 0, slots := 0, locals := 0 }
set_option maxHeartbeats 4000000 in
set_option maxRecDepth 100000 in
theorem c_X7_floatBits_z (l : Launch) (L : Lay) (σ : St)  : Mf l L yX7_floatBits (Cond.code yX7_floatBits cX7_floatBits 4 (some FieldType.int) :: qA) rX7_floatBits_z [.float FP.fconst0] σ (some (.int (nI 0))) σ := by
  refine Mf.ofW (by decide) (Nat.le_of_ble_eq_true rfl) ?_
  intro p e s m args below meth c ls post hp hI S hr hlk hK h hl
  have hx := S.1
  have hb := S.2.1
  have hok := h.ok
  have hl : lv_has ls 4 [(0, .float FP.fconst0)] := hl
  refine lv_fload_n hx hb dX7_floatBits_0 rfl (lv_at hl 0 rfl) ?_
  refine lv_fconst0 hx hb dX7_floatBits_1 ?_
  refine lv_fcmp hx hb dX7_floatBits_2 ?_
  refine cv_i (show (Op.cmpValue (FP.fcmp FP.fconst0 FP.fconst0) CmpOp.l : Int32) = nI 0 from (by decide +kernel)) ?_
  refine b_if_gt (tgt := 8) hx hb dX7_floatBits_3 (by decide) (by decide) (fun c9 => absurd c9 (by decide)) (fun _ => ?_)
  refine lv_iconst (v := (nI 0)) hx hb dX7_floatBits_6 (by decide) ?_
  exact e_i S hK h hr hlk dX7_floatBits_7 hp
