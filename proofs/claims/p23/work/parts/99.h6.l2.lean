abbrev rL_packed : Room := { frames := 1, cells := 0, slots := 0, locals := 24 }
theorem yd_L_packed : ydV yL_packed RL 3 := ⟨rfl, by decide +kernel, by decide +kernel, by decide +kernel⟩
set_option maxHeartbeats 4000000 in
set_option maxRecDepth 100000 in
theorem c_L_packed (l : Launch) (Lc L : Lay) (X : SS) (hh : List SS) (σ : Me) {a : Nat} (ha : a < 10) (h64 : ln9 a = 64) {A : List Hp} (hA : HA (σ a) A) (hG : ∀ x ∈ A, GH x) (hl16 : A.length ≤ 16) (f : Int32) : Mg9 l Lc L X hh yL_packed (Cond.code yL_packed cL_packed 11 (some FieldType.int) :: qA) rL_packed [.ref (ad L a), .int (nI A.length), .int f] σ (fun r u => r = some (.int (nI (packL f A).length)) ∧ (Oa a σ u ∧ HA (u a) (packL f A))) := by
  refine Mr9_ofW (by decide) (Nat.le_of_ble_eq_true rfl) ?_
  intro p e s m args below meth c ls post hp hV S hr hlk hK h hl
  have hx := S.1
  have hb := S.2.1
  have hl : lv_has ls 11 [(0, .ref (ad L a)), (1, .int (nI A.length)), (2, .int f)] := hl
  refine lv_iconst (v := (nI 0)) hx hb dL_packed_0 (by decide) ?_
  refine lv_istore_n (lv' := [(3, .int (nI 0)), (0, .ref (ad L a)), (1, .int (nI A.length)), (2, .int f)]) hx hb dL_packed_1 rfl hl (by decide) rfl (fun ls hl => ?_)
  have LP_2 : ∀ (n_2 : Nat) (r : Nat) (σ1 : Me), (r ≤ A.length) → (HA (σ1 a) (bitr A r)) → (Oa a σ σ1) → A.length - r < n_2 → ∀ (H : Heap) (locs : List Loc) (ls : Array Slot), Hd9 Lc L X hh s.heap H σ1 locs → lv_has ls 11 [(3, .int (nI r)), (2, .int f), (1, .int (nI A.length)), (0, .ref (ad L a))] → W p l e rL_packed s m args below meth c H locs 0 0 (MQ below (Qg post (bs9 Lc L X hh) (A9 Lc L)) args s 0 0 (A9 Lc L)) (F0 m 2 ls []) := by
    intro n_2
    induction n_2 with
    | zero => intro r σ1; intros; omega
    | succ n_2 ih_2 =>
      intro r σ1 hr9 hB hO hm_2 H locs ls h hl
      refine lv_iload_n hx hb dL_packed_2 rfl (lv_at hl 0 rfl) ?_
      refine lv_iload_n hx hb dL_packed_3 rfl (lv_at hl 2 rfl) ?_
      refine b_icmp_ge (tgt := 53) hx hb dL_packed_4 (by decide) (by omega) (by omega) (fun c_4 => ?_) (fun c_4 => ?_)
      · have e4 : r = A.length := by omega
        rw [e4, bitr_order hG] at hB
        have hl2 := (order_perm (A := A)).length_eq
        have hst := pk_start (f := f) (A := A)
        generalize order A = A2 at hB hl2 hst
        refine lv_iconst (v := (nI 0)) hx hb dL_packed_53 (by decide) ?_
        refine cv_i (show (nI 0 : Int32) = isum (A2.map h_w) 0 from (by show nI 0 = 0; decide +kernel)) ?_
        refine lv_istore_n (lv' := [(3, .int (isum (A2.map h_w) 0)), (2, .int f), (1, .int (nI A.length)), (0, .ref (ad L a))]) hx hb dL_packed_54 rfl hl (by decide) rfl (fun ls hl => ?_)
        refine lv_iconst (v := (nI 0)) hx hb dL_packed_55 (by decide) ?_
        refine lv_istore (lv' := [(4, .int (nI 0)), (3, .int (isum (A2.map h_w) 0)), (2, .int f), (1, .int (nI A.length)), (0, .ref (ad L a))]) hx hb dL_packed_56 hl (by decide) rfl (fun ls hl => ?_)
        have LP_58 : ∀ (n_58 : Nat) (j : Nat), (j ≤ A.length) → A.length - j < n_58 → ∀ (H : Heap) (locs : List Loc) (ls : Array Slot), Hd9 Lc L X hh s.heap H σ1 locs → lv_has ls 11 [(4, .int (nI j)), (3, .int (isum (A2.map h_w) j)), (2, .int f), (1, .int (nI A.length)), (0, .ref (ad L a))] → W p l e rL_packed s m args below meth c H locs 0 0 (MQ below (Qg post (bs9 Lc L X hh) (A9 Lc L)) args s 0 0 (A9 Lc L)) (F0 m 58 ls []) := by
          intro n_58
          induction n_58 with
          | zero => intro j; intros; omega
          | succ n_58 ih_58 =>
            intro j hj hm_58 H locs ls h hl
            refine lv_iload hx hb dL_packed_58 (lv_at hl 0 rfl) ?_
            refine lv_iload_n hx hb dL_packed_60 rfl (lv_at hl 3 rfl) ?_
            refine b_icmp_ge (tgt := 79) hx hb dL_packed_61 (by decide) (by omega) (by omega) (fun c_61 => ?_) (fun c_61 => ?_)
            · have e5 : j = A.length := by omega
              have hl : lv_has ls 11 [(4, .int (nI j)), (3, .int (wTot A2)), (2, .int f), (1, .int (nI A.length)), (0, .ref (ad L a))] := by rw [show (.int (isum (A2.map h_w) j) : Value) = .int (wTot A2) from (by rw [e5, ← hl2]; rfl)] at hl; exact hl
              refine lv_iload_n hx hb dL_packed_79 rfl (lv_at hl 3 rfl) ?_
              refine lv_istore (lv' := [(4, .int (nI A.length)), (3, .int (wTot A2)), (2, .int f), (1, .int (nI A.length)), (0, .ref (ad L a))]) hx hb dL_packed_80 hl (by decide) rfl (fun ls hl => ?_)
              refine lv_iconst (v := (nI 0)) hx hb dL_packed_82 (by decide) ?_
              refine lv_istore (lv' := [(5, .int (nI 0)), (4, .int (nI A.length)), (3, .int (wTot A2)), (2, .int f), (1, .int (nI A.length)), (0, .ref (ad L a))]) hx hb dL_packed_83 hl (by decide) rfl (fun ls hl => ?_)
              refine lv_iconst (v := (nI 0)) hx hb dL_packed_85 (by decide) ?_
              refine lv_istore (lv' := [(6, .int (nI 0)), (5, .int (nI 0)), (4, .int (nI A.length)), (3, .int (wTot A2)), (2, .int f), (1, .int (nI A.length)), (0, .ref (ad L a))]) hx hb dL_packed_86 hl (by decide) rfl (fun ls hl => ?_)
              have LP_88 : ∀ (n_88 : Nat) (lf : Nat) (o : Nat) (ah : Int32) (C : List Hp) (σ3 : Me), (C.length = lf) → (lf ≤ 16) → (o ≤ lf) → (HA (σ3 a) C) → (Oa a σ σ3) → (A.length = 0 ∧ lf = 0 ∨ o < lf ∧ packL f A = C.take o ++ mg f (wTot A2) ah (C.getD o hd0) (C.drop (o + 1))) → lf - o < n_88 → ∀ (H : Heap) (locs : List Loc) (ls : Array Slot), Hd9 Lc L X hh s.heap H σ3 locs → lv_has ls 11 [(6, .int ah), (5, .int (nI o)), (4, .int (nI lf)), (3, .int (wTot A2)), (2, .int f), (1, .int (nI A.length)), (0, .ref (ad L a))] → W p l e rL_packed s m args below meth c H locs 0 0 (MQ below (Qg post (bs9 Lc L X hh) (A9 Lc L)) args s 0 0 (A9 Lc L)) (F0 m 88 ls []) := by
                intro n_88
                induction n_88 with
                | zero => intro lf o ah C σ3; intros; omega
                | succ n_88 ih_88 =>
                  intro lf o ah C σ3 hC hC16 ho9 hH hO3 hr9 hm_88 H locs ls h hl
                  refine lv_iload hx hb dL_packed_88 (lv_at hl 1 rfl) ?_
                  refine lv_iconst (v := (nI 1)) hx hb dL_packed_90 (by decide) ?_
                  refine a_iadd hx hb dL_packed_91 ?_
                  refine lv_iload hx hb dL_packed_92 (lv_at hl 2 rfl) ?_
                  refine b_icmp_ge (tgt := 293) hx hb dL_packed_94 (by decide) (by omega) (by omega) (fun c_94 => ?_) (fun c_94 => ?_)
                  · have e6 : packL f A = C := pk_end hC hr9 c_94
                    refine lv_iload hx hb dL_packed_293 (lv_at hl 2 rfl) ?_
                    exact e_i9 S hK h hr hlk dL_packed_295 (hp _ _ ⟨by rw [e6, hC], hO3, by rw [e6]; exact hH⟩)
                  · have hr8 := pk_mid hr9 c_94
                    obtain ⟨lf1, rfl⟩ : ∃ z, lf = z + 1 := ⟨lf - 1, by omega⟩
                    refine lv_iconst (v := (nI 4)) hx hb dL_packed_97 (by decide) ?_
                    refine lv_iload hx hb dL_packed_98 (lv_at hl 1 rfl) ?_
                    refine a_imul hx hb dL_packed_100 ?_
                    refine lv_istore (lv' := [(7, .int (nI (4 * o))), (6, .int ah), (5, .int (nI o)), (4, .int (nI (lf1 + 1))), (3, .int (wTot A2)), (2, .int f), (1, .int (nI A.length)), (0, .ref (ad L a))]) hx hb dL_packed_101 hl (by decide) rfl (fun ls hl => ?_)
                    refine lv_iload hx hb dL_packed_103 (lv_at hl 0 rfl) ?_
                    refine lv_iconst (v := (nI 4)) hx hb dL_packed_105 (by decide) ?_
                    refine a_iadd hx hb dL_packed_106 ?_
                    refine lv_istore (lv' := [(8, .int (nI (4 * o + 4))), (7, .int (nI (4 * o))), (6, .int ah), (5, .int (nI o)), (4, .int (nI (lf1 + 1))), (3, .int (wTot A2)), (2, .int f), (1, .int (nI A.length)), (0, .ref (ad L a))]) hx hb dL_packed_107 hl (by decide) rfl (fun ls hl => ?_)
                    refine lv_aload_n hx hb dL_packed_109 rfl (lv_at hl 8 rfl) ?_
                    refine lv_iload hx hb dL_packed_110 (lv_at hl 1 rfl) ?_
                    refine g9_el (n := 64) S hK h ha h64 (by omega) dL_packed_112 ?_
                    refine cv_i (show (σ3 a (4 * o) : Int32) = h_w (C.getD o hd0) from (hH.w2 (k := o) (by omega) (by omega))) ?_
                    refine lv_aload_n hx hb dL_packed_113 rfl (lv_at hl 8 rfl) ?_
                    refine lv_iload hx hb dL_packed_114 (lv_at hl 0 rfl) ?_
                    refine g9_el (n := 64) S hK h ha h64 (by omega) dL_packed_116 ?_
                    refine cv_i (show (σ3 a (4 * o + 4) : Int32) = h_w (C.getD (o + 1) hd0) from (hH.w2 (k := (o + 1)) (by omega) (by omega))) ?_
                    refine lv_iadd hx hb dL_packed_117 ?_
                    refine lv_istore (lv' := [(9, .int ((h_w (C.getD o hd0)) + (h_w (C.getD (o + 1) hd0)))), (8, .int (nI (4 * o + 4))), (7, .int (nI (4 * o))), (6, .int ah), (5, .int (nI o)), (4, .int (nI (lf1 + 1))), (3, .int (wTot A2)), (2, .int f), (1, .int (nI A.length)), (0, .ref (ad L a))]) hx hb dL_packed_118 hl (by decide) rfl (fun ls hl => ?_)
                    refine lv_iload hx hb dL_packed_120 (lv_at hl 0 rfl) ?_
                    refine lv_iload_n hx hb dL_packed_122 rfl (lv_at hl 6 rfl) ?_
                    refine lv_imul hx hb dL_packed_123 ?_
                    refine lv_iload_n hx hb dL_packed_124 rfl (lv_at hl 7 rfl) ?_
                    refine lv_imul hx hb dL_packed_125 ?_
                    refine lv_iconst (v := (nI 2)) hx hb dL_packed_126 (by decide) ?_
                    refine lv_iload hx hb dL_packed_127 (lv_at hl 3 rfl) ?_
                    refine lv_imul hx hb dL_packed_129 ?_
                    refine lv_iload hx hb dL_packed_130 (lv_at hl 0 rfl) ?_
                    refine lv_iadd hx hb dL_packed_132 ?_
                    refine lv_iconst (v := (nI 2)) hx hb dL_packed_133 (by decide) ?_
                    refine lv_iload_n hx hb dL_packed_134 rfl (lv_at hl 6 rfl) ?_
                    refine lv_imul hx hb dL_packed_135 ?_
                    refine lv_iconst (v := (nI 2)) hx hb dL_packed_136 (by decide) ?_
                    refine lv_iload hx hb dL_packed_137 (lv_at hl 3 rfl) ?_
                    refine lv_imul hx hb dL_packed_139 ?_
                    refine lv_isub hx hb dL_packed_140 ?_
                    refine lv_iload hx hb dL_packed_141 (lv_at hl 0 rfl) ?_
                    refine lv_isub hx hb dL_packed_143 ?_
                    refine lv_imul hx hb dL_packed_144 ?_
                    refine lv_icmp_le (tgt := 163) hx hb dL_packed_145 (by decide) (fun c_145 => ?_) (fun c_145 => ?_)
                    · refine lv_aload_n hx hb dL_packed_163 rfl (lv_at hl 9 rfl) ?_
                      refine lv_iload hx hb dL_packed_164 (lv_at hl 2 rfl) ?_
                      refine lv_iload hx hb dL_packed_166 (lv_at hl 0 rfl) ?_
                      refine p9_el (n := 64) S hV hK h ha h64 (by omega) dL_packed_168 (fun H locs h => ?_)
                      refine lv_aload_n hx hb dL_packed_169 rfl (lv_at hl 9 rfl) ?_
                      refine lv_iload hx hb dL_packed_170 (lv_at hl 2 rfl) ?_
                      refine lv_iconst (v := (nI 1)) hx hb dL_packed_172 (by decide) ?_
                      refine a_iadd hx hb dL_packed_173 ?_
                      refine lv_dup2_11 hx hb dL_packed_174 rfl rfl ?_
                      refine g9_el (n := 64) S hK h ha h64 (by omega) dL_packed_175 ?_
                      refine cv_i (show ((mu σ3 a (4 * o) ((h_w (C.getD o hd0)) + (h_w (C.getD (o + 1) hd0)))) a (4 * o + 1) : Int32) = h_s (C.getD o hd0) from (by rw [mu_i (by omega), hH.s2 (k := o) (by omega) (by omega)])) ?_
                      refine lv_aload_n hx hb dL_packed_176 rfl (lv_at hl 9 rfl) ?_
                      refine lv_iload hx hb dL_packed_177 (lv_at hl 1 rfl) ?_
                      refine lv_iconst (v := (nI 1)) hx hb dL_packed_179 (by decide) ?_
                      refine a_iadd hx hb dL_packed_180 ?_
                      refine g9_el (n := 64) S hK h ha h64 (by omega) dL_packed_181 ?_
                      refine cv_i (show ((mu σ3 a (4 * o) ((h_w (C.getD o hd0)) + (h_w (C.getD (o + 1) hd0)))) a (4 * o + 4 + 1) : Int32) = h_s (C.getD (o + 1) hd0) from (by rw [mu_i (by omega), hH.s2 (k := (o + 1)) (by omega) (by omega)])) ?_
                      refine lv_iadd hx hb dL_packed_182 ?_
                      refine p9_el (n := 64) S hV hK h ha h64 (by omega) dL_packed_183 (fun H locs h => ?_)
                      refine lv_aload_n hx hb dL_packed_184 rfl (lv_at hl 9 rfl) ?_
                      refine lv_iload hx hb dL_packed_185 (lv_at hl 2 rfl) ?_
                      refine lv_iconst (v := (nI 2)) hx hb dL_packed_187 (by decide) ?_
                      refine a_iadd hx hb dL_packed_188 ?_
                      refine lv_aload_n hx hb dL_packed_189 rfl (lv_at hl 9 rfl) ?_
                      refine lv_iload hx hb dL_packed_190 (lv_at hl 1 rfl) ?_
                      refine lv_iconst (v := (nI 2)) hx hb dL_packed_192 (by decide) ?_
                      refine a_iadd hx hb dL_packed_193 ?_
                      refine g9_el (n := 64) S hK h ha h64 (by omega) dL_packed_194 ?_
                      refine cv_i (show ((mu (mu σ3 a (4 * o) ((h_w (C.getD o hd0)) + (h_w (C.getD (o + 1) hd0)))) a (4 * o + 1) ((h_s (C.getD o hd0)) + (h_s (C.getD (o + 1) hd0)))) a (4 * o + 4 + 2) : Int32) = h_l (C.getD (o + 1) hd0) from (by rw [mu_i (by omega), mu_i (by omega), hH.l2 (k := (o + 1)) (by omega) (by omega)])) ?_
                      refine lv_aload_n hx hb dL_packed_195 rfl (lv_at hl 9 rfl) ?_
                      refine lv_iload hx hb dL_packed_196 (lv_at hl 2 rfl) ?_
                      refine lv_iconst (v := (nI 2)) hx hb dL_packed_198 (by decide) ?_
                      refine a_iadd hx hb dL_packed_199 ?_
                      refine g9_el (n := 64) S hK h ha h64 (by omega) dL_packed_200 ?_
                      refine cv_i (show ((mu (mu σ3 a (4 * o) ((h_w (C.getD o hd0)) + (h_w (C.getD (o + 1) hd0)))) a (4 * o + 1) ((h_s (C.getD o hd0)) + (h_s (C.getD (o + 1) hd0)))) a (4 * o + 2) : Int32) = h_l (C.getD o hd0) from (by rw [mu_i (by omega), mu_i (by omega), hH.l2 (k := o) (by omega) (by omega)])) ?_
                      have CT_219 : ∀ (mn : Int32) (H : Heap) (locs : List Loc) (ls : Array Slot), (mn = h_l (unI (C.getD o hd0) (C.getD (o + 1) hd0))) → Hd9 Lc L X hh s.heap H (mu (mu σ3 a (4 * o) ((h_w (C.getD o hd0)) + (h_w (C.getD (o + 1) hd0)))) a (4 * o + 1) ((h_s (C.getD o hd0)) + (h_s (C.getD (o + 1) hd0)))) locs → lv_has ls 11 [(6, .int ah), (5, .int (nI o)), (4, .int (nI (lf1 + 1))), (3, .int (wTot A2)), (2, .int f), (1, .int (nI A.length)), (0, .ref (ad L a)), (8, .int (nI (4 * o + 4))), (7, .int (nI (4 * o)))] → W p l e rL_packed s m args below meth c H locs 0 0 (MQ below (Qg post (bs9 Lc L X hh) (A9 Lc L)) args s 0 0 (A9 Lc L)) (F0 m 219 ls [.int mn, .int (nI (4 * o + 2)), .ref (ad L a)]) := by
                        intro mn H locs ls hmn h hl
                        refine p9_el (n := 64) S hV hK h ha h64 (by omega) dL_packed_219 (fun H locs h => ?_)
                        refine lv_aload_n hx hb dL_packed_220 rfl (lv_at hl 6 rfl) ?_
                        refine lv_iload hx hb dL_packed_221 (lv_at hl 8 rfl) ?_
                        refine lv_iconst (v := (nI 3)) hx hb dL_packed_223 (by decide) ?_
                        refine a_iadd hx hb dL_packed_224 ?_
                        refine lv_aload_n hx hb dL_packed_225 rfl (lv_at hl 6 rfl) ?_
                        refine lv_iload hx hb dL_packed_226 (lv_at hl 7 rfl) ?_
                        refine lv_iconst (v := (nI 3)) hx hb dL_packed_228 (by decide) ?_
                        refine a_iadd hx hb dL_packed_229 ?_
                        refine g9_el (n := 64) S hK h ha h64 (by omega) dL_packed_230 ?_
                        refine cv_i (show ((mu (mu (mu σ3 a (4 * o) ((h_w (C.getD o hd0)) + (h_w (C.getD (o + 1) hd0)))) a (4 * o + 1) ((h_s (C.getD o hd0)) + (h_s (C.getD (o + 1) hd0)))) a (4 * o + 2) mn) a (4 * o + 4 + 3) : Int32) = h_g (C.getD (o + 1) hd0) from (by rw [mu_i (by omega), mu_i (by omega), mu_i (by omega), hH.g2 (k := (o + 1)) (by omega) (by omega)])) ?_
                        refine lv_aload_n hx hb dL_packed_231 rfl (lv_at hl 6 rfl) ?_
                        refine lv_iload hx hb dL_packed_232 (lv_at hl 8 rfl) ?_
                        refine lv_iconst (v := (nI 3)) hx hb dL_packed_234 (by decide) ?_
                        refine a_iadd hx hb dL_packed_235 ?_
                        refine g9_el (n := 64) S hK h ha h64 (by omega) dL_packed_236 ?_
                        refine cv_i (show ((mu (mu (mu σ3 a (4 * o) ((h_w (C.getD o hd0)) + (h_w (C.getD (o + 1) hd0)))) a (4 * o + 1) ((h_s (C.getD o hd0)) + (h_s (C.getD (o + 1) hd0)))) a (4 * o + 2) mn) a (4 * o + 3) : Int32) = h_g (C.getD o hd0) from (by rw [mu_i (by omega), mu_i (by omega), mu_i (by omega), hH.g2 (k := o) (by omega) (by omega)])) ?_
                        have CT_255 : ∀ (mx : Int32) (H : Heap) (locs : List Loc) (ls : Array Slot), (mx = h_g (unI (C.getD o hd0) (C.getD (o + 1) hd0))) → Hd9 Lc L X hh s.heap H (mu (mu (mu σ3 a (4 * o) ((h_w (C.getD o hd0)) + (h_w (C.getD (o + 1) hd0)))) a (4 * o + 1) ((h_s (C.getD o hd0)) + (h_s (C.getD (o + 1) hd0)))) a (4 * o + 2) mn) locs → lv_has ls 11 [(6, .int ah), (5, .int (nI o)), (4, .int (nI (lf1 + 1))), (3, .int (wTot A2)), (2, .int f), (1, .int (nI A.length)), (0, .ref (ad L a)), (8, .int (nI (4 * o + 4))), (7, .int (nI (4 * o)))] → W p l e rL_packed s m args below meth c H locs 0 0 (MQ below (Qg post (bs9 Lc L X hh) (A9 Lc L)) args s 0 0 (A9 Lc L)) (F0 m 255 ls [.int mx, .int (nI (4 * o + 3)), .ref (ad L a)]) := by
                          intro mx H locs ls hmx h hl
                          refine p9_el (n := 64) S hV hK h ha h64 (by omega) dL_packed_255 (fun H locs h => ?_)
                          obtain ⟨σ6, e_σ6⟩ : ∃ z : Me, z = mu (mu (mu (mu σ3 a (4 * o) ((h_w (C.getD o hd0)) + (h_w (C.getD (o + 1) hd0)))) a (4 * o + 1) ((h_s (C.getD o hd0)) + (h_s (C.getD (o + 1) hd0)))) a (4 * o + 2) mn) a (4 * o + 3) mx := ⟨_, rfl⟩
                          have h := h.to e_σ6.symm
                          have hO6 : Oa a σ σ6 := by rw [e_σ6]; exact (((hO3.tr Oa.mu).tr Oa.mu).tr Oa.mu).tr Oa.mu
                          have h6 : ∀ i, i < C.length → hp9 (σ6 a) i = if i = o then unI (C.getD o hd0) (C.getD (o + 1) hd0) else C.getD i hd0 := fun i hi => by rw [e_σ6, mu_f, mu_f, mu_f, mu_f, hp9_put, hH i hi, hmn, hmx]; rfl
                          refine lv_iload hx hb dL_packed_256 (lv_at hl 7 rfl) ?_
                          refine lv_istore (lv' := [(10, .int (nI (4 * o + 4))), (6, .int ah), (5, .int (nI o)), (4, .int (nI (lf1 + 1))), (3, .int (wTot A2)), (2, .int f), (1, .int (nI A.length)), (0, .ref (ad L a)), (8, .int (nI (4 * o + 4))), (7, .int (nI (4 * o)))]) hx hb dL_packed_258 hl (by decide) rfl (fun ls hl => ?_)
                          have LP_260 : ∀ (n_260 : Nat) (k : Nat) (σ7 : Me), (4 * o + 4 ≤ k) → (k + 4 ≤ 4 * (lf1 + 1)) → (σ7 = ms σ6 a (shf (σ6 a) (4 * o + 4) k)) → 4 * (lf1 + 1) - k < n_260 → ∀ (H : Heap) (locs : List Loc) (ls : Array Slot), Hd9 Lc L X hh s.heap H σ7 locs → lv_has ls 11 [(6, .int ah), (5, .int (nI o)), (4, .int (nI (lf1 + 1))), (3, .int (wTot A2)), (2, .int f), (1, .int (nI A.length)), (0, .ref (ad L a)), (8, .int (nI (4 * o + 4))), (7, .int (nI (4 * o))), (10, .int (nI k))] → W p l e rL_packed s m args below meth c H locs 0 0 (MQ below (Qg post (bs9 Lc L X hh) (A9 Lc L)) args s 0 0 (A9 Lc L)) (F0 m 260 ls []) := by
                            intro n_260
                            induction n_260 with
                            | zero => intro k σ7; intros; omega
                            | succ n_260 ih_260 =>
                              intro k σ7 hk hk2 hs7 hm_260 H locs ls h hl
                              refine lv_iload hx hb dL_packed_260 (lv_at hl 9 rfl) ?_
                              refine lv_iconst (v := (nI 4)) hx hb dL_packed_262 (by decide) ?_
                              refine a_iadd hx hb dL_packed_263 ?_
                              refine lv_iconst (v := (nI 4)) hx hb dL_packed_264 (by decide) ?_
                              refine lv_iload hx hb dL_packed_265 (lv_at hl 2 rfl) ?_
                              refine a_imul hx hb dL_packed_267 ?_
                              refine b_icmp_ge (tgt := 287) hx hb dL_packed_268 (by decide) (by omega) (by omega) (fun c_268 => ?_) (fun c_268 => ?_)
                              · refine lv_iinc (v := (nI lf1)) (lv' := [(4, .int (nI lf1)), (6, .int ah), (5, .int (nI o)), (3, .int (wTot A2)), (2, .int f), (1, .int (nI A.length)), (0, .ref (ad L a)), (8, .int (nI (4 * o + 4))), (7, .int (nI (4 * o))), (10, .int (nI k))]) hx hb dL_packed_287 hl (k := 2) rfl (iinc_m1 _) (by decide) rfl (fun ls hl => ?_)
                                refine lv_goto (tgt := 88) hx hb dL_packed_290 (by decide) ?_
                                exact ih_88 lf1 o ah (un1 C o) σ7 (by first | exact hC | exact un1_len hC c_94) (by omega) (by omega) (by first | exact hH | (rw [hs7, ms_s]; exact HA_un1 h6 (by omega) (by omega))) (by first | exact hO3 | (rw [hs7]; exact hO6.tr Oa.ms)) (by first | exact Or.inr ⟨by omega, pl_next (by omega) hr8 c_145⟩ | exact Or.inr ⟨by omega, pl_unite (by omega) hr8 c_145⟩) (by omega) _ _ _ h (lv_sub hl [1, 2, 0, 3, 4, 5, 6] rfl)
                              · refine lv_aload_n hx hb dL_packed_271 rfl (lv_at hl 6 rfl) ?_
                                refine lv_iload hx hb dL_packed_272 (lv_at hl 9 rfl) ?_
                                refine lv_aload_n hx hb dL_packed_274 rfl (lv_at hl 6 rfl) ?_
                                refine lv_iload hx hb dL_packed_275 (lv_at hl 9 rfl) ?_
                                refine lv_iconst (v := (nI 4)) hx hb dL_packed_277 (by decide) ?_
                                refine a_iadd hx hb dL_packed_278 ?_
                                refine g9_el (n := 64) S hK h ha h64 (by omega) dL_packed_279 ?_
                                refine cv_i (show (σ7 a (k + 4) : Int32) = σ6 a (k + 4) from (by rw [hs7, ms_s]; exact if_neg (by omega))) ?_
                                refine p9_el (n := 64) S hV hK h ha h64 (by omega) dL_packed_280 (fun H locs h => ?_)
                                refine lv_iinc (v := (nI (k + 1))) (lv' := [(10, .int (nI (k + 1))), (6, .int ah), (5, .int (nI o)), (4, .int (nI (lf1 + 1))), (3, .int (wTot A2)), (2, .int f), (1, .int (nI A.length)), (0, .ref (ad L a)), (8, .int (nI (4 * o + 4))), (7, .int (nI (4 * o)))]) hx hb dL_packed_281 hl (k := 9) rfl (iinc_1 _) (by decide) rfl (fun ls hl => ?_)
                                refine lv_goto (tgt := 260) hx hb dL_packed_284 (by decide) ?_
                                exact ih_260 (k + 1) (mu σ7 a k (σ6 a (k + 4))) (by omega) (by omega) (by rw [hs7, sh_up hk]) (by omega) _ _ _ h (lv_sub hl [1, 2, 3, 4, 5, 6, 7, 8, 9, 0] rfl)
                          exact LP_260 _ (4 * o + 4) σ6 (by omega) (by omega) (by rw [shf_0]; funext q; unfold ms; by_cases z : q = a; rw [if_pos z, z]; exact (if_neg z).symm) (Nat.lt_succ_self _) _ _ _ h (lv_sub hl [1, 2, 3, 4, 5, 6, 7, 8, 9, 0] rfl)
                        refine lv_icmp_le (tgt := 249) hx hb dL_packed_237 (by decide) (fun c_237 => ?_) (fun c_237 => ?_)
                        · refine lv_aload_n hx hb dL_packed_249 rfl (lv_at hl 6 rfl) ?_
                          refine lv_iload hx hb dL_packed_250 (lv_at hl 8 rfl) ?_
                          refine lv_iconst (v := (nI 3)) hx hb dL_packed_252 (by decide) ?_
                          refine a_iadd hx hb dL_packed_253 ?_
                          refine g9_el (n := 64) S hK h ha h64 (by omega) dL_packed_254 ?_
                          refine cv_i (show ((mu (mu (mu σ3 a (4 * o) ((h_w (C.getD o hd0)) + (h_w (C.getD (o + 1) hd0)))) a (4 * o + 1) ((h_s (C.getD o hd0)) + (h_s (C.getD (o + 1) hd0)))) a (4 * o + 2) mn) a (4 * o + 3) : Int32) = h_g (C.getD o hd0) from (by rw [mu_i (by omega), mu_i (by omega), mu_i (by omega), hH.g2 (k := o) (by omega) (by omega)])) ?_
                          exact CT_255 (h_g (C.getD o hd0)) _ _ _ (by first | exact (if_neg (Int32.not_lt.mpr c_237)).symm | exact (if_pos (Int32.not_le.mp c_237)).symm) h (lv_sub hl [0, 1, 2, 3, 4, 5, 6, 7, 8] rfl)
                        · refine lv_aload_n hx hb dL_packed_240 rfl (lv_at hl 6 rfl) ?_
                          refine lv_iload hx hb dL_packed_241 (lv_at hl 7 rfl) ?_
                          refine lv_iconst (v := (nI 3)) hx hb dL_packed_243 (by decide) ?_
                          refine a_iadd hx hb dL_packed_244 ?_
                          refine g9_el (n := 64) S hK h ha h64 (by omega) dL_packed_245 ?_
                          refine cv_i (show ((mu (mu (mu σ3 a (4 * o) ((h_w (C.getD o hd0)) + (h_w (C.getD (o + 1) hd0)))) a (4 * o + 1) ((h_s (C.getD o hd0)) + (h_s (C.getD (o + 1) hd0)))) a (4 * o + 2) mn) a (4 * o + 4 + 3) : Int32) = h_g (C.getD (o + 1) hd0) from (by rw [mu_i (by omega), mu_i (by omega), mu_i (by omega), hH.g2 (k := (o + 1)) (by omega) (by omega)])) ?_
                          refine lv_goto (tgt := 255) hx hb dL_packed_246 (by decide) ?_
                          exact CT_255 (h_g (C.getD (o + 1) hd0)) _ _ _ (by first | exact (if_neg (Int32.not_lt.mpr c_237)).symm | exact (if_pos (Int32.not_le.mp c_237)).symm) h (lv_sub hl [0, 1, 2, 3, 4, 5, 6, 7, 8] rfl)
                      refine lv_icmp_ge (tgt := 213) hx hb dL_packed_201 (by decide) (fun c_201 => ?_) (fun c_201 => ?_)
                      · refine lv_aload_n hx hb dL_packed_213 rfl (lv_at hl 9 rfl) ?_
                        refine lv_iload hx hb dL_packed_214 (lv_at hl 2 rfl) ?_
                        refine lv_iconst (v := (nI 2)) hx hb dL_packed_216 (by decide) ?_
                        refine a_iadd hx hb dL_packed_217 ?_
                        refine g9_el (n := 64) S hK h ha h64 (by omega) dL_packed_218 ?_
                        refine cv_i (show ((mu (mu σ3 a (4 * o) ((h_w (C.getD o hd0)) + (h_w (C.getD (o + 1) hd0)))) a (4 * o + 1) ((h_s (C.getD o hd0)) + (h_s (C.getD (o + 1) hd0)))) a (4 * o + 2) : Int32) = h_l (C.getD o hd0) from (by rw [mu_i (by omega), mu_i (by omega), hH.l2 (k := o) (by omega) (by omega)])) ?_
                        exact CT_219 (h_l (C.getD o hd0)) _ _ _ (by first | exact (if_neg (Int32.not_lt.mpr c_201)).symm | exact (if_pos (Int32.not_le.mp c_201)).symm) h (lv_sub hl [3, 4, 5, 6, 7, 8, 9, 1, 2] rfl)
                      · refine lv_aload_n hx hb dL_packed_204 rfl (lv_at hl 9 rfl) ?_
                        refine lv_iload hx hb dL_packed_205 (lv_at hl 1 rfl) ?_
                        refine lv_iconst (v := (nI 2)) hx hb dL_packed_207 (by decide) ?_
                        refine a_iadd hx hb dL_packed_208 ?_
                        refine g9_el (n := 64) S hK h ha h64 (by omega) dL_packed_209 ?_
                        refine cv_i (show ((mu (mu σ3 a (4 * o) ((h_w (C.getD o hd0)) + (h_w (C.getD (o + 1) hd0)))) a (4 * o + 1) ((h_s (C.getD o hd0)) + (h_s (C.getD (o + 1) hd0)))) a (4 * o + 4 + 2) : Int32) = h_l (C.getD (o + 1) hd0) from (by rw [mu_i (by omega), mu_i (by omega), hH.l2 (k := (o + 1)) (by omega) (by omega)])) ?_
                        refine lv_goto (tgt := 219) hx hb dL_packed_210 (by decide) ?_
                        exact CT_219 (h_l (C.getD (o + 1) hd0)) _ _ _ (by first | exact (if_neg (Int32.not_lt.mpr c_201)).symm | exact (if_pos (Int32.not_le.mp c_201)).symm) h (lv_sub hl [3, 4, 5, 6, 7, 8, 9, 1, 2] rfl)
                    · refine lv_iload hx hb dL_packed_148 (lv_at hl 3 rfl) ?_
                      refine lv_aload_n hx hb dL_packed_150 rfl (lv_at hl 9 rfl) ?_
                      refine lv_iload hx hb dL_packed_151 (lv_at hl 2 rfl) ?_
                      refine g9_el (n := 64) S hK h ha h64 (by omega) dL_packed_153 ?_
                      refine cv_i (show (σ3 a (4 * o) : Int32) = h_w (C.getD o hd0) from (hH.w2 (k := o) (by omega) (by omega))) ?_
                      refine lv_iadd hx hb dL_packed_154 ?_
                      refine lv_istore (lv' := [(6, .int (ah + (h_w (C.getD o hd0)))), (9, .int ((h_w (C.getD o hd0)) + (h_w (C.getD (o + 1) hd0)))), (8, .int (nI (4 * o + 4))), (7, .int (nI (4 * o))), (5, .int (nI o)), (4, .int (nI (lf1 + 1))), (3, .int (wTot A2)), (2, .int f), (1, .int (nI A.length)), (0, .ref (ad L a))]) hx hb dL_packed_155 hl (by decide) rfl (fun ls hl => ?_)
                      refine lv_iinc (v := (nI (o + 1))) (lv' := [(5, .int (nI (o + 1))), (6, .int (ah + (h_w (C.getD o hd0)))), (9, .int ((h_w (C.getD o hd0)) + (h_w (C.getD (o + 1) hd0)))), (8, .int (nI (4 * o + 4))), (7, .int (nI (4 * o))), (4, .int (nI (lf1 + 1))), (3, .int (wTot A2)), (2, .int f), (1, .int (nI A.length)), (0, .ref (ad L a))]) hx hb dL_packed_157 hl (k := 4) rfl (iinc_1 _) (by decide) rfl (fun ls hl => ?_)
                      refine lv_goto (tgt := 88) hx hb dL_packed_160 (by decide) ?_
                      exact ih_88 (lf1 + 1) (o + 1) (ah + (h_w (C.getD o hd0))) C σ3 (by first | exact hC | exact un1_len hC c_94) (by omega) (by omega) (by first | exact hH | (rw [hs7, ms_s]; exact HA_un1 h6 (by omega) (by omega))) (by first | exact hO3 | (rw [hs7]; exact hO6.tr Oa.ms)) (by first | exact Or.inr ⟨by omega, pl_next (by omega) hr8 c_145⟩ | exact Or.inr ⟨by omega, pl_unite (by omega) hr8 c_145⟩) (by omega) _ _ _ h (lv_sub hl [1, 0, 5, 6, 7, 8, 9] rfl)
              exact LP_88 _ A.length 0 (nI 0) A2 σ1 hl2 (by omega) (by omega) hB hO hst (Nat.lt_succ_self _) _ _ _ h (lv_sub hl [0, 1, 2, 3, 4, 5, 6] rfl)
            · refine lv_iload_n hx hb dL_packed_64 rfl (lv_at hl 1 rfl) ?_
              refine lv_aload_n hx hb dL_packed_65 rfl (lv_at hl 4 rfl) ?_
              refine lv_iconst (v := (nI 4)) hx hb dL_packed_66 (by decide) ?_
              refine lv_iload hx hb dL_packed_67 (lv_at hl 0 rfl) ?_
              refine a_imul hx hb dL_packed_69 ?_
              refine g9_el (n := 64) S hK h ha h64 (by omega) dL_packed_70 ?_
              refine cv_i (show (σ1 a (4 * j) : Int32) = h_w (A2.getD j hd0) from (hB.w (by omega))) ?_
              refine lv_iadd hx hb dL_packed_71 ?_
              refine cv_i (show ((isum (A2.map h_w) j) + (h_w (A2.getD j hd0)) : Int32) = isum (A2.map h_w) (j + 1) from (by show _ = isum (A2.map h_w) j + (A2.map h_w).getD j (h_w hd0); rw [getD_map])) ?_
              refine lv_istore_n (lv' := [(3, .int (isum (A2.map h_w) (j + 1))), (4, .int (nI j)), (2, .int f), (1, .int (nI A.length)), (0, .ref (ad L a))]) hx hb dL_packed_72 rfl hl (by decide) rfl (fun ls hl => ?_)
              refine lv_iinc (v := (nI (j + 1))) (lv' := [(4, .int (nI (j + 1))), (3, .int (isum (A2.map h_w) (j + 1))), (2, .int f), (1, .int (nI A.length)), (0, .ref (ad L a))]) hx hb dL_packed_73 hl (k := 1) rfl (iinc_1 _) (by decide) rfl (fun ls hl => ?_)
              refine lv_goto (tgt := 58) hx hb dL_packed_76 (by decide) ?_
              exact ih_58 (j + 1) (by omega) (by omega) _ _ _ h (lv_sub hl [0, 1, 2, 3, 4] rfl)
        exact LP_58 _ 0 (by omega) (Nat.lt_succ_self _) _ _ _ h (lv_sub hl [0, 1, 2, 3, 4] rfl)
      · refine lv_iconst (v := (nI 0)) hx hb dL_packed_7 (by decide) ?_
        refine lv_istore (lv' := [(4, .int (nI 0)), (3, .int (nI r)), (2, .int f), (1, .int (nI A.length)), (0, .ref (ad L a))]) hx hb dL_packed_8 hl (by decide) rfl (fun ls hl => ?_)
        have LP_10 : ∀ (n_10 : Nat) (k : Nat) (σ2 : Me), (k + 1 ≤ A.length) → (HA (σ2 a) (bst (bitr A r) k)) → (Oa a σ σ2) → A.length - k < n_10 → ∀ (H : Heap) (locs : List Loc) (ls : Array Slot), Hd9 Lc L X hh s.heap H σ2 locs → lv_has ls 11 [(4, .int (nI k)), (3, .int (nI r)), (2, .int f), (1, .int (nI A.length)), (0, .ref (ad L a))] → W p l e rL_packed s m args below meth c H locs 0 0 (MQ below (Qg post (bs9 Lc L X hh) (A9 Lc L)) args s 0 0 (A9 Lc L)) (F0 m 10 ls []) := by
          intro n_10
          induction n_10 with
          | zero => intro k σ2; intros; omega
          | succ n_10 ih_10 =>
            intro k σ2 hk hB2 hO2 hm_10 H locs ls h hl
            have hbl := bitr_len (A := A) r
            refine lv_iload hx hb dL_packed_10 (lv_at hl 0 rfl) ?_
            refine lv_iconst (v := (nI 1)) hx hb dL_packed_12 (by decide) ?_
            refine a_iadd hx hb dL_packed_13 ?_
            refine lv_iload_n hx hb dL_packed_14 rfl (lv_at hl 3 rfl) ?_
            refine b_icmp_ge (tgt := 47) hx hb dL_packed_15 (by decide) (by omega) (by omega) (fun c_15 => ?_) (fun c_15 => ?_)
            · have e9 : k = A.length - 1 := by omega
              refine lv_iinc (v := (nI (r + 1))) (lv' := [(3, .int (nI (r + 1))), (4, .int (nI k)), (2, .int f), (1, .int (nI A.length)), (0, .ref (ad L a))]) hx hb dL_packed_47 hl (k := 1) rfl (iinc_1 _) (by decide) rfl (fun ls hl => ?_)
              refine lv_goto (tgt := 2) hx hb dL_packed_50 (by decide) ?_
              exact ih_2 (r + 1) σ2 (by omega) (by rw [bitr, ← e9]; exact hB2) hO2 (by omega) _ _ _ h (lv_sub hl [0, 2, 3, 4] rfl)
            · refine lv_aload_n hx hb dL_packed_18 rfl (lv_at hl 4 rfl) ?_
              refine lv_iload hx hb dL_packed_19 (lv_at hl 0 rfl) ?_
              refine lv_iload hx hb dL_packed_21 (lv_at hl 0 rfl) ?_
              refine lv_iconst (v := (nI 1)) hx hb dL_packed_23 (by decide) ?_
              refine a_iadd hx hb dL_packed_24 ?_
              refine k_S1 S hV hK h [.ref (ad L a), .int (nI k), .int (nI (k + 1))] (c_L_behind l Lc L X hh σ2 (a := a) ha h64 (one := k) (other := k + 1) (by omega) (by omega)) q_396 q_397 q_0 q_398 yd_L_behind rfl ⟨⟨rfl, rfl⟩, ⟨(Nat.le_of_ble_eq_true rfl), (Nat.le_of_ble_eq_true rfl)⟩, Nat.le_refl _, Nat.le_refl _⟩ rfl (Nat.le_of_ble_eq_true rfl) hl.1 dL_packed_25 (fun H locs h => ?_)
              refine z_eq (tgt := 41) hx hb dL_packed_28 (by decide) (fun c_28 => ?_) (fun c_28 => ?_)
              · refine lv_iinc (v := (nI (k + 1))) (lv' := [(4, .int (nI (k + 1))), (3, .int (nI r)), (2, .int f), (1, .int (nI A.length)), (0, .ref (ad L a))]) hx hb dL_packed_41 hl (k := 0) rfl (iinc_1 _) (by decide) rfl (fun ls hl => ?_)
                refine lv_goto (tgt := 10) hx hb dL_packed_44 (by decide) ?_
                exact ih_10 (k + 1) σ2 (by omega) (by first | exact bs_no hB2 (by omega) c_28 | (rw [ms_s]; exact bs_yes hB2 (by omega) c_28)) (by first | exact hO2 | exact hO2.tr Oa.ms) (by omega) _ _ _ h (lv_sub hl [0, 1, 2, 3, 4] rfl)
              · refine lv_aload_n hx hb dL_packed_31 rfl (lv_at hl 4 rfl) ?_
                refine lv_iload hx hb dL_packed_32 (lv_at hl 0 rfl) ?_
                refine lv_iload hx hb dL_packed_34 (lv_at hl 0 rfl) ?_
                refine lv_iconst (v := (nI 1)) hx hb dL_packed_36 (by decide) ?_
                refine a_iadd hx hb dL_packed_37 ?_
                refine k_S0 S hV hK h [.ref (ad L a), .int (nI k), .int (nI (k + 1))] (c_L_swap l Lc L X hh σ2 (a := a) ha h64 (one := k) (other := k + 1) (by omega) (by omega) (by omega)) q_399 q_400 q_0 q_401 yd_L_swap rfl ⟨⟨rfl, rfl⟩, ⟨(Nat.le_of_ble_eq_true rfl), (Nat.le_of_ble_eq_true rfl)⟩, Nat.le_refl _, Nat.le_refl _⟩ rfl (Nat.le_of_ble_eq_true rfl) hl.1 dL_packed_38 (fun H locs h => ?_)
                refine lv_iinc (v := (nI (k + 1))) (lv' := [(4, .int (nI (k + 1))), (3, .int (nI r)), (2, .int f), (1, .int (nI A.length)), (0, .ref (ad L a))]) hx hb dL_packed_41 hl (k := 0) rfl (iinc_1 _) (by decide) rfl (fun ls hl => ?_)
                refine lv_goto (tgt := 10) hx hb dL_packed_44 (by decide) ?_
                exact ih_10 (k + 1) (ms σ2 a (swf (σ2 a) k (k + 1))) (by omega) (by first | exact bs_no hB2 (by omega) c_28 | (rw [ms_s]; exact bs_yes hB2 (by omega) c_28)) (by first | exact hO2 | exact hO2.tr Oa.ms) (by omega) _ _ _ h (lv_sub hl [0, 1, 2, 3, 4] rfl)
        exact LP_10 _ 0 σ1 (by omega) hB hO (Nat.lt_succ_self _) _ _ _ h (lv_sub hl [0, 1, 2, 3, 4] rfl)
  exact LP_2 _ 0 σ (by omega) hA Oa.rf (Nat.lt_succ_self _) _ _ _ h (lv_sub hl [0, 3, 2, 1] rfl)
