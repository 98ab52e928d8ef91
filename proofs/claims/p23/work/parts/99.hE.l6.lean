abbrev rL_same : Room := { frames := 6, cells := 0, slots := 0, locals := 150 }
theorem yd_L_same : ydV yL_same RL 9 := ⟨rfl, by decide +kernel, by decide +kernel, by decide +kernel⟩
set_option maxHeartbeats 4000000 in
set_option maxRecDepth 100000 in
theorem c_L_same (l : Launch) (Lc L : Lay) (X : SS) (hh : List SS) (σ : Me) (hF : FX X) {d : Nat} (hd : d < 2) (hD : LD σ d (X.2.2 d)) (hq0 : σ 0 0 = X.1) (hl16 : (X.2.2 d).1.length + (X.2.2 d).2.1.length ≤ 16) (hV40 : (X.2.2 d).2.2.1.length ≤ 40) (x : Int32) : Mg9 l Lc L X hh yL_same (Cond.code yL_same cL_same 22 (some FieldType.boolean) :: qA) rL_same [.ref (ad Lc 244), .int (nI d), .int x, .ref (ad L (1 + d)), .ref (ad L (3 + d)), .ref (ad L (5 + d)), .ref (ad L (7 + d)), .ref (ad L 0), .ref (ad L 9)] σ (fun r u => r = some (.int (nI 1)) ∧ Oa 9 σ u) := by
  refine Mr9_ofW (by decide) (Nat.le_of_ble_eq_true rfl) ?_
  intro p e s m args below meth c ls post hp hV S hr hlk hK h hl
  have hx := S.1
  have hb := S.2.1
  have hl : lv_has ls 22 [(0, .ref (ad Lc 244)), (1, .int (nI d)), (2, .int x), (3, .ref (ad L (1 + d))), (4, .ref (ad L (3 + d))), (5, .ref (ad L (5 + d))), (6, .ref (ad L (7 + d))), (7, .ref (ad L 0)), (8, .ref (ad L 9))] := hl
  have hd3 : d < 3 := by omega
  refine lv_iconst (v := (nI 0)) hx hb dL_same_0 (by decide) ?_
  refine cv_i (show (nI 0 : Int32) = isum ((X.2.2 d).1.map h_w) 0 from (by show nI 0 = 0; decide +kernel)) ?_
  refine lv_istore (lv' := [(9, .int (isum ((X.2.2 d).1.map h_w) 0)), (0, .ref (ad Lc 244)), (1, .int (nI d)), (2, .int x), (3, .ref (ad L (1 + d))), (4, .ref (ad L (3 + d))), (5, .ref (ad L (5 + d))), (6, .ref (ad L (7 + d))), (7, .ref (ad L 0)), (8, .ref (ad L 9))]) hx hb dL_same_1 hl (by decide) rfl (fun ls hl => ?_)
  refine lv_ldc (v := (-1000004 : Int32)) hx hb S.2.2.2.1 (S.2.2.2.2 _ q_411) dL_same_3 ?_
  refine cv_i (show ((-1000004 : Int32) : Int32) = gwS (X.2.2 d).1 0 from rfl) ?_
  refine lv_istore (lv' := [(10, .int (gwS (X.2.2 d).1 0)), (9, .int (isum ((X.2.2 d).1.map h_w) 0)), (0, .ref (ad Lc 244)), (1, .int (nI d)), (2, .int x), (3, .ref (ad L (1 + d))), (4, .ref (ad L (3 + d))), (5, .ref (ad L (5 + d))), (6, .ref (ad L (7 + d))), (7, .ref (ad L 0)), (8, .ref (ad L 9))]) hx hb dL_same_5 hl (by decide) rfl (fun ls hl => ?_)
  refine lv_iconst (v := (nI 0)) hx hb dL_same_7 (by decide) ?_
  refine cv_i (show (nI 0 : Int32) = isum (X.2.2 d).2.2.1 0 from (by show nI 0 = 0; decide +kernel)) ?_
  refine lv_istore (lv' := [(11, .int (isum (X.2.2 d).2.2.1 0)), (10, .int (gwS (X.2.2 d).1 0)), (9, .int (isum ((X.2.2 d).1.map h_w) 0)), (0, .ref (ad Lc 244)), (1, .int (nI d)), (2, .int x), (3, .ref (ad L (1 + d))), (4, .ref (ad L (3 + d))), (5, .ref (ad L (5 + d))), (6, .ref (ad L (7 + d))), (7, .ref (ad L 0)), (8, .ref (ad L 9))]) hx hb dL_same_8 hl (by decide) rfl (fun ls hl => ?_)
  refine lv_iconst (v := (nI 0)) hx hb dL_same_10 (by decide) ?_
  refine lv_istore (lv' := [(12, .int (nI 0)), (11, .int (isum (X.2.2 d).2.2.1 0)), (10, .int (gwS (X.2.2 d).1 0)), (9, .int (isum ((X.2.2 d).1.map h_w) 0)), (0, .ref (ad Lc 244)), (1, .int (nI d)), (2, .int x), (3, .ref (ad L (1 + d))), (4, .ref (ad L (3 + d))), (5, .ref (ad L (5 + d))), (6, .ref (ad L (7 + d))), (7, .ref (ad L 0)), (8, .ref (ad L 9))]) hx hb dL_same_11 hl (by decide) rfl (fun ls hl => ?_)
  have LP_13 : ∀ (n_13 : Nat) (k : Nat), (k ≤ (X.2.2 d).1.length) → (X.2.2 d).1.length - k < n_13 → ∀ (H : Heap) (locs : List Loc) (ls : Array Slot), Hd9 Lc L X hh s.heap H σ locs → lv_has ls 22 [(8, .ref (ad L 9)), (7, .ref (ad L 0)), (6, .ref (ad L (7 + d))), (5, .ref (ad L (5 + d))), (4, .ref (ad L (3 + d))), (3, .ref (ad L (1 + d))), (2, .int x), (1, .int (nI d)), (0, .ref (ad Lc 244)), (12, .int (nI k)), (11, .int (isum (X.2.2 d).2.2.1 0)), (10, .int (gwS (X.2.2 d).1 k)), (9, .int (isum ((X.2.2 d).1.map h_w) k))] → W p l e rL_same s m args below meth c H locs 0 0 (MQ below (Qg post (bs9 Lc L X hh) (A9 Lc L)) args s 0 0 (A9 Lc L)) (F0 m 13 ls []) := by
    intro n_13
    induction n_13 with
    | zero => intro k; intros; omega
    | succ n_13 ih_13 =>
      intro k hk hm_13 H locs ls h hl
      refine lv_iload hx hb dL_same_13 (lv_at hl 9 rfl) ?_
      refine lv_aload hx hb dL_same_15 (lv_at hl 2 rfl) ?_
      refine lv_iconst (v := (nI 0)) hx hb dL_same_17 (by decide) ?_
      refine g9_el (n := 4) S hK h (by omega) (ln9_7 hd) (by omega) dL_same_18 ?_
      refine cv_i (show (σ (7 + d) 0 : Int32) = nI ((X.2.2 d).1.length) from hD.2.2.2.1) ?_
      refine b_icmp_ge (tgt := 161) hx hb dL_same_19 (by decide) (by omega) (by omega) (fun c_19 => ?_) (fun c_19 => ?_)
      · have e4 : k = (X.2.2 d).1.length := by omega
        have hl : lv_has ls 22 [(8, .ref (ad L 9)), (7, .ref (ad L 0)), (6, .ref (ad L (7 + d))), (5, .ref (ad L (5 + d))), (4, .ref (ad L (3 + d))), (3, .ref (ad L (1 + d))), (2, .int x), (1, .int (nI d)), (0, .ref (ad Lc 244)), (12, .int (nI k)), (11, .int (isum (X.2.2 d).2.2.1 0)), (10, .int (gwS (X.2.2 d).1 (X.2.2 d).1.length)), (9, .int (isum ((X.2.2 d).1.map h_w) k))] := by rw [show (.int (gwS (X.2.2 d).1 k) : Value) = .int (gwS (X.2.2 d).1 (X.2.2 d).1.length) from (by rw [e4])] at hl; exact hl
        refine lv_iconst (v := (nI 0)) hx hb dL_same_161 (by decide) ?_
        refine lv_istore (lv' := [(12, .int (nI 0)), (8, .ref (ad L 9)), (7, .ref (ad L 0)), (6, .ref (ad L (7 + d))), (5, .ref (ad L (5 + d))), (4, .ref (ad L (3 + d))), (3, .ref (ad L (1 + d))), (2, .int x), (1, .int (nI d)), (0, .ref (ad Lc 244)), (11, .int (isum (X.2.2 d).2.2.1 0)), (10, .int (gwS (X.2.2 d).1 (X.2.2 d).1.length)), (9, .int (isum ((X.2.2 d).1.map h_w) k))]) hx hb dL_same_162 hl (by decide) rfl (fun ls hl => ?_)
        have LP_164 : ∀ (n_164 : Nat) (j : Nat), (j ≤ (X.2.2 d).2.1.length) → (X.2.2 d).2.1.length - j < n_164 → ∀ (H : Heap) (locs : List Loc) (ls : Array Slot), Hd9 Lc L X hh s.heap H σ locs → lv_has ls 22 [(8, .ref (ad L 9)), (7, .ref (ad L 0)), (6, .ref (ad L (7 + d))), (5, .ref (ad L (5 + d))), (4, .ref (ad L (3 + d))), (3, .ref (ad L (1 + d))), (2, .int x), (1, .int (nI d)), (0, .ref (ad Lc 244)), (12, .int (nI j)), (11, .int (isum (X.2.2 d).2.2.1 0)), (10, .int (gwS (X.2.2 d).1 (X.2.2 d).1.length))] → W p l e rL_same s m args below meth c H locs 0 0 (MQ below (Qg post (bs9 Lc L X hh) (A9 Lc L)) args s 0 0 (A9 Lc L)) (F0 m 164 ls []) := by
          intro n_164
          induction n_164 with
          | zero => intro j; intros; omega
          | succ n_164 ih_164 =>
            intro j hj hm_164 H locs ls h hl
            refine lv_iload hx hb dL_same_164 (lv_at hl 9 rfl) ?_
            refine lv_aload hx hb dL_same_166 (lv_at hl 2 rfl) ?_
            refine lv_iconst (v := (nI 1)) hx hb dL_same_168 (by decide) ?_
            refine g9_el (n := 4) S hK h (by omega) (ln9_7 hd) (by omega) dL_same_169 ?_
            refine cv_i (show (σ (7 + d) 1 : Int32) = nI ((X.2.2 d).2.1.length) from hD.2.2.2.2.1) ?_
            refine b_icmp_ge (tgt := 196) hx hb dL_same_170 (by decide) (by omega) (by omega) (fun c_170 => ?_) (fun c_170 => ?_)
            · refine lv_iconst (v := (nI 0)) hx hb dL_same_196 (by decide) ?_
              refine lv_istore (lv' := [(12, .int (nI 0)), (8, .ref (ad L 9)), (7, .ref (ad L 0)), (6, .ref (ad L (7 + d))), (5, .ref (ad L (5 + d))), (4, .ref (ad L (3 + d))), (3, .ref (ad L (1 + d))), (2, .int x), (1, .int (nI d)), (0, .ref (ad Lc 244)), (11, .int (isum (X.2.2 d).2.2.1 0)), (10, .int (gwS (X.2.2 d).1 (X.2.2 d).1.length))]) hx hb dL_same_197 hl (by decide) rfl (fun ls hl => ?_)
              have LP_199 : ∀ (n_199 : Nat) (j : Nat), (j ≤ (X.2.2 d).2.2.1.length) → (X.2.2 d).2.2.1.length - j < n_199 → ∀ (H : Heap) (locs : List Loc) (ls : Array Slot), Hd9 Lc L X hh s.heap H σ locs → lv_has ls 22 [(8, .ref (ad L 9)), (7, .ref (ad L 0)), (6, .ref (ad L (7 + d))), (5, .ref (ad L (5 + d))), (4, .ref (ad L (3 + d))), (3, .ref (ad L (1 + d))), (2, .int x), (1, .int (nI d)), (0, .ref (ad Lc 244)), (12, .int (nI j)), (11, .int (isum (X.2.2 d).2.2.1 j)), (10, .int (gwS (X.2.2 d).1 (X.2.2 d).1.length))] → W p l e rL_same s m args below meth c H locs 0 0 (MQ below (Qg post (bs9 Lc L X hh) (A9 Lc L)) args s 0 0 (A9 Lc L)) (F0 m 199 ls []) := by
                intro n_199
                induction n_199 with
                | zero => intro j; intros; omega
                | succ n_199 ih_199 =>
                  intro j hj hm_199 H locs ls h hl
                  refine lv_iload hx hb dL_same_199 (lv_at hl 9 rfl) ?_
                  refine lv_aload hx hb dL_same_201 (lv_at hl 2 rfl) ?_
                  refine lv_iconst (v := (nI 2)) hx hb dL_same_203 (by decide) ?_
                  refine g9_el (n := 4) S hK h (by omega) (ln9_7 hd) (by omega) dL_same_204 ?_
                  refine cv_i (show (σ (7 + d) 2 : Int32) = nI ((X.2.2 d).2.2.1.length) from hD.2.2.2.2.2.1) ?_
                  refine b_icmp_ge (tgt := 224) hx hb dL_same_205 (by decide) (by omega) (by omega) (fun c_205 => ?_) (fun c_205 => ?_)
                  · have e5 : j = (X.2.2 d).2.2.1.length := by omega
                    have hl : lv_has ls 22 [(8, .ref (ad L 9)), (7, .ref (ad L 0)), (6, .ref (ad L (7 + d))), (5, .ref (ad L (5 + d))), (4, .ref (ad L (3 + d))), (3, .ref (ad L (1 + d))), (2, .int x), (1, .int (nI d)), (0, .ref (ad Lc 244)), (12, .int (nI j)), (11, .int (isum (X.2.2 d).2.2.1 (X.2.2 d).2.2.1.length)), (10, .int (gwS (X.2.2 d).1 (X.2.2 d).1.length))] := by rw [show (.int (isum (X.2.2 d).2.2.1 j) : Value) = .int (isum (X.2.2 d).2.2.1 (X.2.2 d).2.2.1.length) from (by rw [e5])] at hl; exact hl
                    refine lv_aload_n hx hb dL_same_224 rfl (lv_at hl 8 rfl) ?_
                    refine lv_iload_n hx hb dL_same_225 rfl (lv_at hl 7 rfl) ?_
                    refine lv_aload hx hb dL_same_226 (lv_at hl 2 rfl) ?_
                    refine lv_iconst (v := (nI 0)) hx hb dL_same_228 (by decide) ?_
                    refine g9_el (n := 4) S hK h (by omega) (ln9_7 hd) (by omega) dL_same_229 ?_
                    refine cv_i (show (σ (7 + d) 0 : Int32) = nI ((X.2.2 d).1.length) from hD.2.2.2.1) ?_
                    refine lv_iconst (v := (nI 0)) hx hb dL_same_230 (by decide) ?_
                    refine k_C (v := (-1000004 : Int32)) (X' := X) (hh' := hh) S hV hK h [.int (nI d), .int (nI ((X.2.2 d).1.length)), .int (nI 0)] (t_heapE hF hd3) q_412 q_413 q_414 q_1 q_415 yd_X7_heapOf rfl ⟨⟨rfl, rfl⟩, ⟨(Nat.le_of_ble_eq_true rfl), (Nat.le_of_ble_eq_true rfl)⟩, Nat.le_refl _, Nat.le_refl _⟩ rfl (Nat.le_of_ble_eq_true rfl) hl.1 dL_same_231 (fun H locs h => ?_)
                    refine lv_ldc (v := (-1000004 : Int32)) hx hb S.2.2.2.1 (S.2.2.2.2 _ q_411) dL_same_234 ?_
                    refine lv_icmp_ne (tgt := 329) hx hb dL_same_236 (by decide) (fun c_236 => absurd c_236 (fun z => z rfl)) (fun c_236 => ?_)
                    refine lv_aload_n hx hb dL_same_239 rfl (lv_at hl 8 rfl) ?_
                    refine lv_iload_n hx hb dL_same_240 rfl (lv_at hl 7 rfl) ?_
                    refine lv_aload hx hb dL_same_241 (lv_at hl 2 rfl) ?_
                    refine lv_iconst (v := (nI 1)) hx hb dL_same_243 (by decide) ?_
                    refine g9_el (n := 4) S hK h (by omega) (ln9_7 hd) (by omega) dL_same_244 ?_
                    refine cv_i (show (σ (7 + d) 1 : Int32) = nI ((X.2.2 d).2.1.length) from hD.2.2.2.2.1) ?_
                    refine k_C (v := (-1000004 : Int32)) (X' := X) (hh' := hh) S hV hK h [.int (nI d), .int (nI ((X.2.2 d).2.1.length))] (t_bufE hF hd3) q_442 q_443 q_444 q_1 q_445 yd_X7_bufferOf rfl ⟨⟨rfl, rfl⟩, ⟨(Nat.le_of_ble_eq_true rfl), (Nat.le_of_ble_eq_true rfl)⟩, Nat.le_refl _, Nat.le_refl _⟩ rfl (Nat.le_of_ble_eq_true rfl) hl.1 dL_same_245 (fun H locs h => ?_)
                    refine lv_ldc (v := (-1000004 : Int32)) hx hb S.2.2.2.1 (S.2.2.2.2 _ q_411) dL_same_248 ?_
                    refine lv_icmp_ne (tgt := 329) hx hb dL_same_250 (by decide) (fun c_250 => absurd c_250 (fun z => z rfl)) (fun c_250 => ?_)
                    refine lv_aload_n hx hb dL_same_253 rfl (lv_at hl 8 rfl) ?_
                    refine lv_iload_n hx hb dL_same_254 rfl (lv_at hl 7 rfl) ?_
                    refine lv_iconst (v := (nI 0)) hx hb dL_same_255 (by decide) ?_
                    refine k_C (v := (mdOf X d 0)) (X' := X) (hh' := hh) S hV hK h [.int (nI d), .int (nI 0)] (t_dig hF hd3 (w := 0) (by omega)) q_446 q_447 q_448 q_1 q_449 yd_X7_digestOf rfl ⟨⟨rfl, rfl⟩, ⟨(Nat.le_of_ble_eq_true rfl), (Nat.le_of_ble_eq_true rfl)⟩, Nat.le_refl _, Nat.le_refl _⟩ rfl (Nat.le_of_ble_eq_true rfl) hl.1 dL_same_256 (fun H locs h => ?_)
                    refine cv_i (show (mdOf X d 0 : Int32) = nI ((X.2.2 d).2.2.1.length) from rfl) ?_
                    refine lv_aload hx hb dL_same_259 (lv_at hl 2 rfl) ?_
                    refine lv_iconst (v := (nI 2)) hx hb dL_same_261 (by decide) ?_
                    refine g9_el (n := 4) S hK h (by omega) (ln9_7 hd) (by omega) dL_same_262 ?_
                    refine cv_i (show (σ (7 + d) 2 : Int32) = nI ((X.2.2 d).2.2.1.length) from hD.2.2.2.2.2.1) ?_
                    refine lv_icmp_ne (tgt := 329) hx hb dL_same_263 (by decide) (fun c_263 => absurd c_263 (fun z => z rfl)) (fun c_263 => ?_)
                    refine lv_aload_n hx hb dL_same_266 rfl (lv_at hl 8 rfl) ?_
                    refine lv_iload_n hx hb dL_same_267 rfl (lv_at hl 7 rfl) ?_
                    refine lv_iconst (v := (nI 1)) hx hb dL_same_268 (by decide) ?_
                    refine k_C (v := (mdOf X d 1)) (X' := X) (hh' := hh) S hV hK h [.int (nI d), .int (nI 1)] (t_dig hF hd3 (w := 1) (by omega)) q_446 q_447 q_448 q_1 q_449 yd_X7_digestOf rfl ⟨⟨rfl, rfl⟩, ⟨(Nat.le_of_ble_eq_true rfl), (Nat.le_of_ble_eq_true rfl)⟩, Nat.le_refl _, Nat.le_refl _⟩ rfl (Nat.le_of_ble_eq_true rfl) hl.1 dL_same_269 (fun H locs h => ?_)
                    refine cv_i (show (mdOf X d 1 : Int32) = nI ((X.2.2 d).1.length) from rfl) ?_
                    refine lv_aload hx hb dL_same_272 (lv_at hl 2 rfl) ?_
                    refine lv_iconst (v := (nI 0)) hx hb dL_same_274 (by decide) ?_
                    refine g9_el (n := 4) S hK h (by omega) (ln9_7 hd) (by omega) dL_same_275 ?_
                    refine cv_i (show (σ (7 + d) 0 : Int32) = nI ((X.2.2 d).1.length) from hD.2.2.2.1) ?_
                    refine lv_icmp_ne (tgt := 329) hx hb dL_same_276 (by decide) (fun c_276 => absurd c_276 (fun z => z rfl)) (fun c_276 => ?_)
                    refine lv_aload_n hx hb dL_same_279 rfl (lv_at hl 8 rfl) ?_
                    refine lv_iload_n hx hb dL_same_280 rfl (lv_at hl 7 rfl) ?_
                    refine lv_iconst (v := (nI 2)) hx hb dL_same_281 (by decide) ?_
                    refine k_C (v := (mdOf X d 2)) (X' := X) (hh' := hh) S hV hK h [.int (nI d), .int (nI 2)] (t_dig hF hd3 (w := 2) (by omega)) q_446 q_447 q_448 q_1 q_449 yd_X7_digestOf rfl ⟨⟨rfl, rfl⟩, ⟨(Nat.le_of_ble_eq_true rfl), (Nat.le_of_ble_eq_true rfl)⟩, Nat.le_refl _, Nat.le_refl _⟩ rfl (Nat.le_of_ble_eq_true rfl) hl.1 dL_same_282 (fun H locs h => ?_)
                    refine cv_i (show (mdOf X d 2 : Int32) = nI ((X.2.2 d).2.1.length) from rfl) ?_
                    refine lv_aload hx hb dL_same_285 (lv_at hl 2 rfl) ?_
                    refine lv_iconst (v := (nI 1)) hx hb dL_same_287 (by decide) ?_
                    refine g9_el (n := 4) S hK h (by omega) (ln9_7 hd) (by omega) dL_same_288 ?_
                    refine cv_i (show (σ (7 + d) 1 : Int32) = nI ((X.2.2 d).2.1.length) from hD.2.2.2.2.1) ?_
                    refine lv_icmp_ne (tgt := 329) hx hb dL_same_289 (by decide) (fun c_289 => absurd c_289 (fun z => z rfl)) (fun c_289 => ?_)
                    refine lv_aload_n hx hb dL_same_292 rfl (lv_at hl 8 rfl) ?_
                    refine lv_iload_n hx hb dL_same_293 rfl (lv_at hl 7 rfl) ?_
                    refine lv_iconst (v := (nI 5)) hx hb dL_same_294 (by decide) ?_
                    refine k_C (v := (mdOf X d 5)) (X' := X) (hh' := hh) S hV hK h [.int (nI d), .int (nI 5)] (t_dig hF hd3 (w := 5) (by omega)) q_446 q_447 q_448 q_1 q_449 yd_X7_digestOf rfl ⟨⟨rfl, rfl⟩, ⟨(Nat.le_of_ble_eq_true rfl), (Nat.le_of_ble_eq_true rfl)⟩, Nat.le_refl _, Nat.le_refl _⟩ rfl (Nat.le_of_ble_eq_true rfl) hl.1 dL_same_295 (fun H locs h => ?_)
                    refine cv_i (show (mdOf X d 5 : Int32) = isum (X.2.2 d).2.2.1 (X.2.2 d).2.2.1.length from rfl) ?_
                    refine lv_iload hx hb dL_same_298 (lv_at hl 10 rfl) ?_
                    refine lv_icmp_ne (tgt := 329) hx hb dL_same_300 (by decide) (fun c_300 => absurd c_300 (fun z => z rfl)) (fun c_300 => ?_)
                    refine lv_aload_n hx hb dL_same_303 rfl (lv_at hl 8 rfl) ?_
                    refine lv_iload_n hx hb dL_same_304 rfl (lv_at hl 7 rfl) ?_
                    refine lv_bipush (v := (nI 7)) hx hb dL_same_305 (by decide) ?_
                    refine k_C (v := (mdOf X d 7)) (X' := X) (hh' := hh) S hV hK h [.int (nI d), .int (nI 7)] (t_dig hF hd3 (w := 7) (by omega)) q_446 q_447 q_448 q_1 q_449 yd_X7_digestOf rfl ⟨⟨rfl, rfl⟩, ⟨(Nat.le_of_ble_eq_true rfl), (Nat.le_of_ble_eq_true rfl)⟩, Nat.le_refl _, Nat.le_refl _⟩ rfl (Nat.le_of_ble_eq_true rfl) hl.1 dL_same_307 (fun H locs h => ?_)
                    refine cv_i (show (mdOf X d 7 : Int32) = gwS (X.2.2 d).1 (X.2.2 d).1.length from rfl) ?_
                    refine lv_iload hx hb dL_same_310 (lv_at hl 11 rfl) ?_
                    refine lv_icmp_ne (tgt := 329) hx hb dL_same_312 (by decide) (fun c_312 => absurd c_312 (fun z => z rfl)) (fun c_312 => ?_)
                    refine lv_aload_n hx hb dL_same_315 rfl (lv_at hl 8 rfl) ?_
                    refine lv_iload_n hx hb dL_same_316 rfl (lv_at hl 7 rfl) ?_
                    refine lv_bipush (v := (nI 8)) hx hb dL_same_317 (by decide) ?_
                    refine k_C (v := (mdOf X d 8)) (X' := X) (hh' := hh) S hV hK h [.int (nI d), .int (nI 8)] (t_dig hF hd3 (w := 8) (by omega)) q_446 q_447 q_448 q_1 q_449 yd_X7_digestOf rfl ⟨⟨rfl, rfl⟩, ⟨(Nat.le_of_ble_eq_true rfl), (Nat.le_of_ble_eq_true rfl)⟩, Nat.le_refl _, Nat.le_refl _⟩ rfl (Nat.le_of_ble_eq_true rfl) hl.1 dL_same_319 (fun H locs h => ?_)
                    refine cv_i (show (mdOf X d 8 : Int32) = (X.2.2 d).2.2.2 from rfl) ?_
                    refine lv_aload hx hb dL_same_322 (lv_at hl 2 rfl) ?_
                    refine lv_iconst (v := (nI 3)) hx hb dL_same_324 (by decide) ?_
                    refine g9_el (n := 4) S hK h (by omega) (ln9_7 hd) (by omega) dL_same_325 ?_
                    refine cv_i (show (σ (7 + d) 3 : Int32) = (X.2.2 d).2.2.2 from hD.2.2.2.2.2.2) ?_
                    refine lv_icmp_eq (tgt := 331) hx hb dL_same_326 (by decide) (fun c_326 => ?_) (fun c_326 => absurd c_326 (fun z => z rfl))
                    refine lv_aload hx hb dL_same_331 (lv_at hl 2 rfl) ?_
                    refine lv_iconst (v := (nI 2)) hx hb dL_same_333 (by decide) ?_
                    refine g9_el (n := 4) S hK h (by omega) (ln9_7 hd) (by omega) dL_same_334 ?_
                    refine cv_i (show (σ (7 + d) 2 : Int32) = nI ((X.2.2 d).2.2.1.length) from hD.2.2.2.2.2.1) ?_
                    refine b_if_ne (tgt := 390) hx hb dL_same_335 (by decide) (by omega) (fun c_335 => ?_) (fun c_335 => ?_)
                    · have h0 : 0 < (X.2.2 d).2.2.1.length := by omega
                      obtain ⟨L0, G0, hQ, eL, eG⟩ := QF_of (hF.1.1 d hd3) (hF.2 d hd3).1 h0
                      have hVn := (hF.1.1 d hd3).2.2.2
                      obtain ⟨gT, sT⟩ := trL_GH (hF.1.1 d hd3)
                      have lT : (trL X d).length ≤ 16 := by have z := packL_len (f := X.1) (A := ((X.2.2 d).1 ++ (X.2.2 d).2.1.map hunit)); rw [List.length_append, List.length_map] at z; unfold trL; omega
                      refine lv_iconst (v := (nI 0)) hx hb dL_same_390 (by decide) ?_
                      refine lv_istore (lv' := [(12, .int (nI 0)), (8, .ref (ad L 9)), (7, .ref (ad L 0)), (6, .ref (ad L (7 + d))), (5, .ref (ad L (5 + d))), (4, .ref (ad L (3 + d))), (3, .ref (ad L (1 + d))), (2, .int x), (1, .int (nI d)), (0, .ref (ad Lc 244)), (11, .int (isum (X.2.2 d).2.2.1 (X.2.2 d).2.2.1.length)), (10, .int (gwS (X.2.2 d).1 (X.2.2 d).1.length))]) hx hb dL_same_391 hl (by decide) rfl (fun ls hl => ?_)
                      have LP_393 : ∀ (n_393 : Nat) (k : Nat) (σ1 : Me), (k ≤ 4 * (X.2.2 d).1.length) → (∀ i, i < k → σ1 9 i = σ (1 + d) i) → (Oa 9 σ σ1) → 4 * (X.2.2 d).1.length - k < n_393 → ∀ (H : Heap) (locs : List Loc) (ls : Array Slot), Hd9 Lc L X hh s.heap H σ1 locs → lv_has ls 22 [(8, .ref (ad L 9)), (7, .ref (ad L 0)), (6, .ref (ad L (7 + d))), (5, .ref (ad L (5 + d))), (4, .ref (ad L (3 + d))), (3, .ref (ad L (1 + d))), (2, .int x), (1, .int (nI d)), (0, .ref (ad Lc 244)), (12, .int (nI k))] → W p l e rL_same s m args below meth c H locs 0 0 (MQ below (Qg post (bs9 Lc L X hh) (A9 Lc L)) args s 0 0 (A9 Lc L)) (F0 m 393 ls []) := by
                        intro n_393
                        induction n_393 with
                        | zero => intro k σ1; intros; omega
                        | succ n_393 ih_393 =>
                          intro k σ1 hk hcp9 hO1 hm_393 H locs ls h hl
                          refine lv_iload hx hb dL_same_393 (lv_at hl 9 rfl) ?_
                          refine lv_iconst (v := (nI 4)) hx hb dL_same_395 (by decide) ?_
                          refine lv_aload hx hb dL_same_396 (lv_at hl 2 rfl) ?_
                          refine lv_iconst (v := (nI 0)) hx hb dL_same_398 (by decide) ?_
                          refine g9_el (n := 4) S hK h (by omega) (ln9_7 hd) (by omega) dL_same_399 ?_
                          refine cv_i (show (σ1 (7 + d) 0 : Int32) = nI ((X.2.2 d).1.length) from (by rw [hO1 _ (by omega)]; exact hD.2.2.2.1)) ?_
                          refine a_imul hx hb dL_same_400 ?_
                          refine b_icmp_ge (tgt := 419) hx hb dL_same_401 (by decide) (by omega) (by omega) (fun c_401 => ?_) (fun c_401 => ?_)
                          · have hT1 : HA (σ1 9) (X.2.2 d).1 := HA_cp hD.1 (fun i hi => hcp9 i (by omega))
                            refine lv_aload hx hb dL_same_419 (lv_at hl 2 rfl) ?_
                            refine lv_iconst (v := (nI 0)) hx hb dL_same_421 (by decide) ?_
                            refine g9_el (n := 4) S hK h (by omega) (ln9_7 hd) (by omega) dL_same_422 ?_
                            refine cv_i (show (σ1 (7 + d) 0 : Int32) = nI ((X.2.2 d).1.length) from (by rw [hO1 _ (by omega)]; exact hD.2.2.2.1)) ?_
                            refine lv_istore (lv' := [(12, .int (nI ((X.2.2 d).1.length))), (8, .ref (ad L 9)), (7, .ref (ad L 0)), (6, .ref (ad L (7 + d))), (5, .ref (ad L (5 + d))), (4, .ref (ad L (3 + d))), (3, .ref (ad L (1 + d))), (2, .int x), (1, .int (nI d)), (0, .ref (ad Lc 244))]) hx hb dL_same_423 hl (by decide) rfl (fun ls hl => ?_)
                            refine lv_iload hx hb dL_same_425 (lv_at hl 0 rfl) ?_
                            refine lv_aload hx hb dL_same_427 (lv_at hl 3 rfl) ?_
                            refine lv_iconst (v := (nI 1)) hx hb dL_same_429 (by decide) ?_
                            refine g9_el (n := 4) S hK h (by omega) (ln9_7 hd) (by omega) dL_same_430 ?_
                            refine cv_i (show (σ1 (7 + d) 1 : Int32) = nI ((X.2.2 d).2.1.length) from (by rw [hO1 _ (by omega)]; exact hD.2.2.2.2.1)) ?_
                            refine a_iadd hx hb dL_same_431 ?_
                            refine lv_bipush (v := (nI 16)) hx hb dL_same_432 (by decide) ?_
                            refine b_icmp_le (tgt := 439) hx hb dL_same_434 (by decide) (by omega) (by omega) (fun c_434 => ?_) (fun c_434 => absurd c_434 (by omega))
                            refine lv_iconst (v := (nI 0)) hx hb dL_same_439 (by decide) ?_
                            refine lv_istore (lv' := [(13, .int (nI 0)), (12, .int (nI ((X.2.2 d).1.length))), (8, .ref (ad L 9)), (7, .ref (ad L 0)), (6, .ref (ad L (7 + d))), (5, .ref (ad L (5 + d))), (4, .ref (ad L (3 + d))), (3, .ref (ad L (1 + d))), (2, .int x), (1, .int (nI d)), (0, .ref (ad Lc 244))]) hx hb dL_same_440 hl (by decide) rfl (fun ls hl => ?_)
                            have LP_442 : ∀ (n_442 : Nat) (j : Nat) (σ2 : Me), (j ≤ (X.2.2 d).2.1.length) → (HA (σ2 9) ((X.2.2 d).1 ++ ((X.2.2 d).2.1.take j).map hunit)) → (Oa 9 σ σ2) → (X.2.2 d).2.1.length - j < n_442 → ∀ (H : Heap) (locs : List Loc) (ls : Array Slot), Hd9 Lc L X hh s.heap H σ2 locs → lv_has ls 22 [(8, .ref (ad L 9)), (7, .ref (ad L 0)), (6, .ref (ad L (7 + d))), (5, .ref (ad L (5 + d))), (4, .ref (ad L (3 + d))), (3, .ref (ad L (1 + d))), (2, .int x), (1, .int (nI d)), (0, .ref (ad Lc 244)), (13, .int (nI j)), (12, .int (nI ((X.2.2 d).1.length + j)))] → W p l e rL_same s m args below meth c H locs 0 0 (MQ below (Qg post (bs9 Lc L X hh) (A9 Lc L)) args s 0 0 (A9 Lc L)) (F0 m 442 ls []) := by
                              intro n_442
                              induction n_442 with
                              | zero => intro j σ2; intros; omega
                              | succ n_442 ih_442 =>
                                intro j σ2 hj hH2 hO2 hm_442 H locs ls h hl
                                refine lv_iload hx hb dL_same_442 (lv_at hl 9 rfl) ?_
                                refine lv_aload hx hb dL_same_444 (lv_at hl 2 rfl) ?_
                                refine lv_iconst (v := (nI 1)) hx hb dL_same_446 (by decide) ?_
                                refine g9_el (n := 4) S hK h (by omega) (ln9_7 hd) (by omega) dL_same_447 ?_
                                refine cv_i (show (σ2 (7 + d) 1 : Int32) = nI ((X.2.2 d).2.1.length) from (by rw [hO2 _ (by omega)]; exact hD.2.2.2.2.1)) ?_
                                refine b_icmp_ge (tgt := 508) hx hb dL_same_448 (by decide) (by omega) (by omega) (fun c_448 => ?_) (fun c_448 => ?_)
                                · have e6 : j = (X.2.2 d).2.1.length := by omega
                                  rw [e6, List.take_length] at hH2
                                  have hl : lv_has ls 22 [(8, .ref (ad L 9)), (7, .ref (ad L 0)), (6, .ref (ad L (7 + d))), (5, .ref (ad L (5 + d))), (4, .ref (ad L (3 + d))), (3, .ref (ad L (1 + d))), (2, .int x), (1, .int (nI d)), (0, .ref (ad Lc 244)), (13, .int (nI j)), (12, .int (nI (((X.2.2 d).1 ++ (X.2.2 d).2.1.map hunit).length)))] := by rw [show (.int (nI ((X.2.2 d).1.length + j)) : Value) = .int (nI (((X.2.2 d).1 ++ (X.2.2 d).2.1.map hunit).length)) from (by rw [e6, List.length_append, List.length_map])] at hl; exact hl
                                  obtain ⟨gU, sU⟩ := GD_all (hF.1.1 d hd3)
                                  refine lv_aload hx hb dL_same_508 (lv_at hl 0 rfl) ?_
                                  refine lv_iload hx hb dL_same_510 (lv_at hl 10 rfl) ?_
                                  refine lv_aload hx hb dL_same_512 (lv_at hl 1 rfl) ?_
                                  refine lv_iconst (v := (nI 0)) hx hb dL_same_514 (by decide) ?_
                                  refine g9_el (n := 2) S hK h (by decide) rfl (by omega) dL_same_515 ?_
                                  refine cv_i (show (σ2 0 0 : Int32) = X.1 from (by rw [hO2 _ (by omega)]; exact hq0)) ?_
                                  refine k_SR S hV hK h [.ref (ad L 9), .int (nI (((X.2.2 d).1 ++ (X.2.2 d).2.1.map hunit).length)), .int X.1] (c_L_packed l Lc L X hh σ2 (a := 9) (by decide) rfl (A := ((X.2.2 d).1 ++ (X.2.2 d).2.1.map hunit)) hH2 gU (by rw [List.length_append, List.length_map]; omega) X.1) q_393 q_394 q_0 q_395 yd_L_packed rfl ⟨⟨rfl, rfl⟩, ⟨(Nat.le_of_ble_eq_true rfl), (Nat.le_of_ble_eq_true rfl)⟩, Nat.le_refl _, Nat.le_refl _⟩ rfl (Nat.le_of_ble_eq_true rfl) hl.1 dL_same_516 (fun σ8 H locs hp9 h => ?_)
                                  obtain ⟨hO8, hH8⟩ := hp9
                                  have hO9 : Oa 9 σ σ8 := hO2.tr hO8
                                  have hT8 : HA (σ8 9) (trL X d) := hH8
                                  refine cv_i (show (nI ((packL X.1 ((X.2.2 d).1 ++ (X.2.2 d).2.1.map hunit)).length) : Int32) = nI ((trL X d).length) from rfl) ?_
                                  refine lv_istore (lv' := [(12, .int (nI ((trL X d).length))), (8, .ref (ad L 9)), (7, .ref (ad L 0)), (6, .ref (ad L (7 + d))), (5, .ref (ad L (5 + d))), (4, .ref (ad L (3 + d))), (3, .ref (ad L (1 + d))), (2, .int x), (1, .int (nI d)), (0, .ref (ad Lc 244)), (13, .int (nI j))]) hx hb dL_same_519 hl (by decide) rfl (fun ls hl => ?_)
                                  refine lv_iconst (v := (nI 0)) hx hb dL_same_521 (by decide) ?_
                                  refine lv_aload hx hb dL_same_522 (lv_at hl 4 rfl) ?_
                                  refine lv_aload hx hb dL_same_524 (lv_at hl 3 rfl) ?_
                                  refine lv_iconst (v := (nI 2)) hx hb dL_same_526 (by decide) ?_
                                  refine g9_el (n := 4) S hK h (by omega) (ln9_7 hd) (by omega) dL_same_527 ?_
                                  refine cv_i (show (σ8 (7 + d) 2 : Int32) = nI ((X.2.2 d).2.2.1.length) from (by rw [hO9 _ (by omega)]; exact hD.2.2.2.2.2.1)) ?_
                                  refine k_S1 S hV hK h [.int (nI 0), .ref (ad L (5 + d)), .int (nI ((X.2.2 d).2.2.1.length))] (c_L_ordered l Lc L X hh σ8 (a := 5 + d) (by omega) (ln9_5 hd) (V := (X.2.2 d).2.2.1) (by rw [hO9 _ (by omega)]; exact hD.2.2.1) hV40 (by omega)) q_518 q_519 q_0 q_520 yd_L_ordered rfl ⟨⟨rfl, rfl⟩, ⟨(Nat.le_of_ble_eq_true rfl), (Nat.le_of_ble_eq_true rfl)⟩, Nat.le_refl _, Nat.le_refl _⟩ rfl (Nat.le_of_ble_eq_true rfl) hl.1 dL_same_528 (fun H locs h => ?_)
                                  refine cv_i (show ((srt ((X.2.2 d).2.2.1)).getD 0 0 : Int32) = nI L0 from eL) ?_
                                  refine lv_istore (lv' := [(13, .int (nI L0)), (12, .int (nI ((trL X d).length))), (8, .ref (ad L 9)), (7, .ref (ad L 0)), (6, .ref (ad L (7 + d))), (5, .ref (ad L (5 + d))), (4, .ref (ad L (3 + d))), (3, .ref (ad L (1 + d))), (2, .int x), (1, .int (nI d)), (0, .ref (ad Lc 244))]) hx hb dL_same_531 hl (by decide) rfl (fun ls hl => ?_)
                                  refine lv_aload hx hb dL_same_533 (lv_at hl 4 rfl) ?_
                                  refine lv_iconst (v := (nI 2)) hx hb dL_same_535 (by decide) ?_
                                  refine g9_el (n := 4) S hK h (by omega) (ln9_7 hd) (by omega) dL_same_536 ?_
                                  refine cv_i (show (σ8 (7 + d) 2 : Int32) = nI ((X.2.2 d).2.2.1.length) from (by rw [hO9 _ (by omega)]; exact hD.2.2.2.2.2.1)) ?_
                                  refine lv_iconst (v := (nI 1)) hx hb dL_same_537 (by decide) ?_
                                  refine a_isub hx hb dL_same_538 (by omega) ?_
                                  refine lv_aload hx hb dL_same_539 (lv_at hl 5 rfl) ?_
                                  refine lv_aload hx hb dL_same_541 (lv_at hl 4 rfl) ?_
                                  refine lv_iconst (v := (nI 2)) hx hb dL_same_543 (by decide) ?_
                                  refine g9_el (n := 4) S hK h (by omega) (ln9_7 hd) (by omega) dL_same_544 ?_
                                  refine cv_i (show (σ8 (7 + d) 2 : Int32) = nI ((X.2.2 d).2.2.1.length) from (by rw [hO9 _ (by omega)]; exact hD.2.2.2.2.2.1)) ?_
                                  refine k_S1 S hV hK h [.int (nI (((X.2.2 d).2.2.1.length) - 1)), .ref (ad L (5 + d)), .int (nI ((X.2.2 d).2.2.1.length))] (c_L_ordered l Lc L X hh σ8 (a := 5 + d) (by omega) (ln9_5 hd) (V := (X.2.2 d).2.2.1) (by rw [hO9 _ (by omega)]; exact hD.2.2.1) hV40 (by omega)) q_518 q_519 q_0 q_520 yd_L_ordered rfl ⟨⟨rfl, rfl⟩, ⟨(Nat.le_of_ble_eq_true rfl), (Nat.le_of_ble_eq_true rfl)⟩, Nat.le_refl _, Nat.le_refl _⟩ rfl (Nat.le_of_ble_eq_true rfl) hl.1 dL_same_545 (fun H locs h => ?_)
                                  refine cv_i (show ((srt ((X.2.2 d).2.2.1)).getD (((X.2.2 d).2.2.1.length) - 1) 0 : Int32) = nI G0 from eG) ?_
                                  refine lv_istore (lv' := [(14, .int (nI G0)), (13, .int (nI L0)), (12, .int (nI ((trL X d).length))), (8, .ref (ad L 9)), (7, .ref (ad L 0)), (6, .ref (ad L (7 + d))), (5, .ref (ad L (5 + d))), (4, .ref (ad L (3 + d))), (3, .ref (ad L (1 + d))), (2, .int x), (1, .int (nI d)), (0, .ref (ad Lc 244))]) hx hb dL_same_548 hl (by decide) rfl (fun ls hl => ?_)
                                  refine lv_iconst (v := (-1)) hx hb dL_same_550 (by decide) ?_
                                  refine lv_istore (lv' := [(15, .int (-1)), (14, .int (nI G0)), (13, .int (nI L0)), (12, .int (nI ((trL X d).length))), (8, .ref (ad L 9)), (7, .ref (ad L 0)), (6, .ref (ad L (7 + d))), (5, .ref (ad L (5 + d))), (4, .ref (ad L (3 + d))), (3, .ref (ad L (1 + d))), (2, .int x), (1, .int (nI d)), (0, .ref (ad Lc 244))]) hx hb dL_same_551 hl (by decide) rfl (fun ls hl => ?_)
                                  refine lv_iconst (v := (-1)) hx hb dL_same_553 (by decide) ?_
                                  refine lv_istore (lv' := [(16, .int (-1)), (15, .int (-1)), (14, .int (nI G0)), (13, .int (nI L0)), (12, .int (nI ((trL X d).length))), (8, .ref (ad L 9)), (7, .ref (ad L 0)), (6, .ref (ad L (7 + d))), (5, .ref (ad L (5 + d))), (4, .ref (ad L (3 + d))), (3, .ref (ad L (1 + d))), (2, .int x), (1, .int (nI d)), (0, .ref (ad Lc 244))]) hx hb dL_same_554 hl (by decide) rfl (fun ls hl => ?_)
                                  refine lv_iconst (v := (nI 0)) hx hb dL_same_556 (by decide) ?_
                                  refine lv_istore (lv' := [(17, .int (nI 0)), (16, .int (-1)), (15, .int (-1)), (14, .int (nI G0)), (13, .int (nI L0)), (12, .int (nI ((trL X d).length))), (8, .ref (ad L 9)), (7, .ref (ad L 0)), (6, .ref (ad L (7 + d))), (5, .ref (ad L (5 + d))), (4, .ref (ad L (3 + d))), (3, .ref (ad L (1 + d))), (2, .int x), (1, .int (nI d)), (0, .ref (ad Lc 244))]) hx hb dL_same_557 hl (by decide) rfl (fun ls hl => ?_)
                                  have LP_559 : ∀ (n_559 : Nat) (j : Nat) (wq : Int32) (wf : Int32), (j ≤ 11) → (WR (trL X d) (srt (X.2.2 d).2.2.1) j wq wf) → 11 - j < n_559 → ∀ (H : Heap) (locs : List Loc) (ls : Array Slot), Hd9 Lc L X hh s.heap H σ8 locs → lv_has ls 22 [(8, .ref (ad L 9)), (7, .ref (ad L 0)), (6, .ref (ad L (7 + d))), (5, .ref (ad L (5 + d))), (4, .ref (ad L (3 + d))), (3, .ref (ad L (1 + d))), (2, .int x), (1, .int (nI d)), (0, .ref (ad Lc 244)), (14, .int (nI G0)), (13, .int (nI L0)), (12, .int (nI ((trL X d).length))), (17, .int (nI (100 * j))), (16, .int wf), (15, .int wq)] → W p l e rL_same s m args below meth c H locs 0 0 (MQ below (Qg post (bs9 Lc L X hh) (A9 Lc L)) args s 0 0 (A9 Lc L)) (F0 m 559 ls []) := by
                                    intro n_559
                                    induction n_559 with
                                    | zero => intro j wq wf; intros; omega
                                    | succ n_559 ih_559 =>
                                      intro j wq wf hj hw9 hm_559 H locs ls h hl
                                      refine lv_iload hx hb dL_same_559 (lv_at hl 12 rfl) ?_
                                      refine lv_sipush (v := (nI 1000)) hx hb dL_same_561 (by decide) ?_
                                      refine b_icmp_gt (tgt := 701) hx hb dL_same_564 (by decide) (by omega) (by omega) (fun c_564 => ?_) (fun c_564 => ?_)
                                      · obtain ⟨ew1, ew2⟩ := WR_e hw9 (show j = 11 by omega)
                                        have ht9 := lowN_lt (v := x) (n := 1001) (by omega)
                                        obtain ⟨iy1, iy2⟩ := idx_lt (show lowN x 1001 ≤ 1000 by omega) h0
                                        have hmn : lowN x 1001 * (X.2.2 d).2.2.1.length ≤ 1000 * 40 := Nat.mul_le_mul (by omega) (by omega)
                                        have hp0 := trL_pos (hF.1.1 d hd3) h0
                                        refine lv_iload_n hx hb dL_same_701 rfl (lv_at hl 6 rfl) ?_
                                        refine lv_sipush (v := (nI 1001)) hx hb dL_same_702 (by decide) ?_
                                        refine k_S1 S hV hK h [.int x, .int (nI 1001)] (c_L_low l Lc L X hh σ8 (n := 1001) (by omega) (by omega) x) q_389 q_390 q_0 q_391 yd_L_low rfl ⟨⟨rfl, rfl⟩, ⟨(Nat.le_of_ble_eq_true rfl), (Nat.le_of_ble_eq_true rfl)⟩, Nat.le_refl _, Nat.le_refl _⟩ rfl (Nat.le_of_ble_eq_true rfl) hl.1 dL_same_705 (fun H locs h => ?_)
                                        refine lv_istore (lv' := [(17, .int (nI (lowN x 1001))), (8, .ref (ad L 9)), (7, .ref (ad L 0)), (6, .ref (ad L (7 + d))), (5, .ref (ad L (5 + d))), (4, .ref (ad L (3 + d))), (3, .ref (ad L (1 + d))), (2, .int x), (1, .int (nI d)), (0, .ref (ad Lc 244)), (14, .int (nI G0)), (13, .int (nI L0)), (12, .int (nI ((trL X d).length))), (16, .int wf), (15, .int wq)]) hx hb dL_same_708 hl (by decide) rfl (fun ls hl => ?_)
                                        refine lv_iload hx hb dL_same_710 (lv_at hl 0 rfl) ?_
                                        refine lv_aload hx hb dL_same_712 (lv_at hl 3 rfl) ?_
                                        refine lv_iconst (v := (nI 2)) hx hb dL_same_714 (by decide) ?_
                                        refine g9_el (n := 4) S hK h (by omega) (ln9_7 hd) (by omega) dL_same_715 ?_
                                        refine cv_i (show (σ8 (7 + d) 2 : Int32) = nI ((X.2.2 d).2.2.1.length) from (by rw [hO9 _ (by omega)]; exact hD.2.2.2.2.2.1)) ?_
                                        refine lv_iconst (v := (nI 1)) hx hb dL_same_716 (by decide) ?_
                                        refine a_isub hx hb dL_same_717 (by omega) ?_
                                        refine a_imul hx hb dL_same_718 ?_
                                        refine lv_sipush (v := (nI 1000)) hx hb dL_same_719 (by decide) ?_
                                        refine a_idiv hx hb dL_same_722 (by omega) (by omega) (by omega) ?_
                                        refine lv_istore (lv' := [(18, .int (nI (((lowN x 1001) * (((X.2.2 d).2.2.1.length) - 1)) / 1000))), (17, .int (nI (lowN x 1001))), (8, .ref (ad L 9)), (7, .ref (ad L 0)), (6, .ref (ad L (7 + d))), (5, .ref (ad L (5 + d))), (4, .ref (ad L (3 + d))), (3, .ref (ad L (1 + d))), (2, .int x), (1, .int (nI d)), (0, .ref (ad Lc 244)), (14, .int (nI G0)), (13, .int (nI L0)), (12, .int (nI ((trL X d).length))), (16, .int wf), (15, .int wq)]) hx hb dL_same_723 hl (by decide) rfl (fun ls hl => ?_)
                                        refine lv_iconst (v := (nI 0)) hx hb dL_same_725 (by decide) ?_
                                        refine lv_istore (lv' := [(19, .int (nI 0)), (18, .int (nI (((lowN x 1001) * (((X.2.2 d).2.2.1.length) - 1)) / 1000))), (17, .int (nI (lowN x 1001))), (8, .ref (ad L 9)), (7, .ref (ad L 0)), (6, .ref (ad L (7 + d))), (5, .ref (ad L (5 + d))), (4, .ref (ad L (3 + d))), (3, .ref (ad L (1 + d))), (2, .int x), (1, .int (nI d)), (0, .ref (ad Lc 244)), (14, .int (nI G0)), (13, .int (nI L0)), (12, .int (nI ((trL X d).length))), (16, .int wf), (15, .int wq)]) hx hb dL_same_726 hl (by decide) rfl (fun ls hl => ?_)
                                        refine lv_aload hx hb dL_same_728 (lv_at hl 3 rfl) ?_
                                        refine lv_iconst (v := (nI 0)) hx hb dL_same_730 (by decide) ?_
                                        refine g9_el (n := 64) S hK h (by decide) rfl (by omega) dL_same_731 ?_
                                        refine cv_i (show (σ8 9 0 : Int32) = nI (wN ((trL X d).getD 0 hd0)) from ((hT8.w hp0).trans (wN_GH (gT _ (mem_getD (d := hd0) hp0))).1)) ?_
                                        refine cv_i (show (nI (wN ((trL X d).getD 0 hd0)) : Int32) = nI (sumN ((trL X d).take (0 + 1))) from (by rw [sumN_take hp0]; exact congrArg nI (Nat.zero_add _).symm)) ?_
                                        refine lv_istore (lv' := [(20, .int (nI (sumN ((trL X d).take (0 + 1))))), (19, .int (nI 0)), (18, .int (nI (((lowN x 1001) * (((X.2.2 d).2.2.1.length) - 1)) / 1000))), (17, .int (nI (lowN x 1001))), (8, .ref (ad L 9)), (7, .ref (ad L 0)), (6, .ref (ad L (7 + d))), (5, .ref (ad L (5 + d))), (4, .ref (ad L (3 + d))), (3, .ref (ad L (1 + d))), (2, .int x), (1, .int (nI d)), (0, .ref (ad Lc 244)), (14, .int (nI G0)), (13, .int (nI L0)), (12, .int (nI ((trL X d).length))), (16, .int wf), (15, .int wq)]) hx hb dL_same_732 hl (by decide) rfl (fun ls hl => ?_)
                                        have LP_734 : ∀ (n_734 : Nat) (p9 : Nat), (p9 < (trL X d).length) → (wAt (nI (lowN x 1001 * ((X.2.2 d).2.2.1.length - 1) / 1000)) (nI 0) (trL X d) = wAt (nI (lowN x 1001 * ((X.2.2 d).2.2.1.length - 1) / 1000)) (nI (sumN ((trL X d).take p9))) ((trL X d).drop p9)) → (trL X d).length - p9 < n_734 → ∀ (H : Heap) (locs : List Loc) (ls : Array Slot), Hd9 Lc L X hh s.heap H σ8 locs → lv_has ls 22 [(8, .ref (ad L 9)), (7, .ref (ad L 0)), (6, .ref (ad L (7 + d))), (5, .ref (ad L (5 + d))), (4, .ref (ad L (3 + d))), (3, .ref (ad L (1 + d))), (2, .int x), (1, .int (nI d)), (0, .ref (ad Lc 244)), (14, .int (nI G0)), (13, .int (nI L0)), (12, .int (nI ((trL X d).length))), (20, .int (nI (sumN ((trL X d).take (p9 + 1))))), (19, .int (nI p9)), (18, .int (nI (lowN x 1001 * ((X.2.2 d).2.2.1.length - 1) / 1000))), (17, .int (nI (lowN x 1001))), (16, .int wf), (15, .int wq)] → W p l e rL_same s m args below meth c H locs 0 0 (MQ below (Qg post (bs9 Lc L X hh) (A9 Lc L)) args s 0 0 (A9 Lc L)) (F0 m 734 ls []) := by
                                          intro n_734
                                          induction n_734 with
                                          | zero => intro p9; intros; omega
                                          | succ n_734 ih_734 =>
                                            intro p9 hp91 hwd hm_734 H locs ls h hl
                                            have hb9 := sum_td (trL X d) (p9 + 1)
                                            refine lv_iload hx hb dL_same_734 (lv_at hl 12 rfl) ?_
                                            refine lv_iload hx hb dL_same_736 (lv_at hl 14 rfl) ?_
                                            refine b_icmp_gt (tgt := 759) hx hb dL_same_738 (by decide) (by omega) (by omega) (fun c_738 => ?_) (fun c_738 => ?_)
                                            · have hwe := hwd.trans (wd_s hp91 gT (by omega) (by omega) c_738)
                                              refine lv_iload_n hx hb dL_same_759 rfl (lv_at hl 6 rfl) ?_
                                              refine lv_iconst (v := (nI 3)) hx hb dL_same_760 (by decide) ?_
                                              refine lv_ishr hx hb dL_same_761 ?_
                                              refine lv_bipush (v := (nI 40)) hx hb dL_same_762 (by decide) ?_
                                              refine k_S1 S hV hK h [.int (x >>> ((nI 3) &&& 31)), .int (nI 40)] (c_L_low l Lc L X hh σ8 (n := 40) (by omega) (by omega) (x >>> ((nI 3) &&& 31))) q_389 q_390 q_0 q_391 yd_L_low rfl ⟨⟨rfl, rfl⟩, ⟨(Nat.le_of_ble_eq_true rfl), (Nat.le_of_ble_eq_true rfl)⟩, Nat.le_refl _, Nat.le_refl _⟩ rfl (Nat.le_of_ble_eq_true rfl) hl.1 dL_same_764 (fun H locs h => ?_)
                                              have hv9 := lowN_lt (v := x >>> (nI 3 &&& 31)) (n := 40) (by omega)
                                              obtain ⟨R9, hR1, hR2, hR3⟩ := rkM_R (v := nI (lowN (x >>> (nI 3 &&& 31)) 40)) hQ 1001 (Nat.le_refl _)
                                              refine lv_istore (lv' := [(20, .int (nI (lowN (x >>> ((nI 3) &&& 31)) 40))), (8, .ref (ad L 9)), (7, .ref (ad L 0)), (6, .ref (ad L (7 + d))), (5, .ref (ad L (5 + d))), (4, .ref (ad L (3 + d))), (3, .ref (ad L (1 + d))), (2, .int x), (1, .int (nI d)), (0, .ref (ad Lc 244)), (14, .int (nI G0)), (13, .int (nI L0)), (12, .int (nI ((trL X d).length))), (19, .int (nI p9)), (18, .int (nI (lowN x 1001 * ((X.2.2 d).2.2.1.length - 1) / 1000))), (17, .int (nI (lowN x 1001))), (16, .int wf), (15, .int wq)]) hx hb dL_same_767 hl (by decide) rfl (fun ls hl => ?_)
                                              refine lv_aload_n hx hb dL_same_769 rfl (lv_at hl 9 rfl) ?_
                                              refine lv_iload_n hx hb dL_same_770 rfl (lv_at hl 8 rfl) ?_
                                              refine lv_iload hx hb dL_same_771 (lv_at hl 0 rfl) ?_
                                              refine k_C (v := (rkM (trL X d) (nI (lowN (x >>> (nI 3 &&& 31)) 40)) 1001)) (X' := X) (hh' := hh) S hV hK h [.int (nI d), .int (nI (lowN (x >>> ((nI 3) &&& 31)) 40))] (t_ran hF hd3 h0 (by omega)) q_526 q_527 q_528 q_1 q_529 yd_X7_rank rfl ⟨⟨rfl, rfl⟩, ⟨(Nat.le_of_ble_eq_true rfl), (Nat.le_of_ble_eq_true rfl)⟩, Nat.le_refl _, Nat.le_refl _⟩ rfl (Nat.le_of_ble_eq_true rfl) hl.1 dL_same_773 (fun H locs h => ?_)
                                              refine cv_i (show (rkM (trL X d) (nI (lowN (x >>> (nI 3 &&& 31)) 40)) 1001 : Int32) = rkc R9 from hR3) ?_
                                              have CT_833 : ∀ (H : Heap) (locs : List Loc) (ls : Array Slot), Hd9 Lc L X hh s.heap H σ8 locs → lv_has ls 22 [(8, .ref (ad L 9)), (7, .ref (ad L 0)), (6, .ref (ad L (7 + d))), (5, .ref (ad L (5 + d))), (4, .ref (ad L (3 + d))), (3, .ref (ad L (1 + d))), (2, .int x), (1, .int (nI d)), (0, .ref (ad Lc 244)), (14, .int (nI G0)), (13, .int (nI L0)), (12, .int (nI ((trL X d).length))), (19, .int (nI p9)), (17, .int (nI (lowN x 1001))), (16, .int wf), (15, .int wq)] → W p l e rL_same s m args below meth c H locs 0 0 (MQ below (Qg post (bs9 Lc L X hh) (A9 Lc L)) args s 0 0 (A9 Lc L)) (F0 m 833 ls []) := by
                                                intro  H locs ls  h hl
                                                refine lv_aload_n hx hb dL_same_833 rfl (lv_at hl 8 rfl) ?_
                                                refine lv_iload_n hx hb dL_same_834 rfl (lv_at hl 7 rfl) ?_
                                                refine lv_iconst (v := (nI 3)) hx hb dL_same_835 (by decide) ?_
                                                refine k_C (v := (mdOf X d 3)) (X' := X) (hh' := hh) S hV hK h [.int (nI d), .int (nI 3)] (t_dig hF hd3 (w := 3) (by omega)) q_446 q_447 q_448 q_1 q_449 yd_X7_digestOf rfl ⟨⟨rfl, rfl⟩, ⟨(Nat.le_of_ble_eq_true rfl), (Nat.le_of_ble_eq_true rfl)⟩, Nat.le_refl _, Nat.le_refl _⟩ rfl (Nat.le_of_ble_eq_true rfl) hl.1 dL_same_836 (fun H locs h => ?_)
                                                refine cv_i (show (mdOf X d 3 : Int32) = nI L0 from ((if_neg (by omega)).trans eL)) ?_
                                                refine lv_iload hx hb dL_same_839 (lv_at hl 10 rfl) ?_
                                                refine lv_icmp_ne (tgt := 954) hx hb dL_same_841 (by decide) (fun c_841 => absurd c_841 (fun z => z rfl)) (fun c_841 => ?_)
                                                refine lv_aload_n hx hb dL_same_844 rfl (lv_at hl 8 rfl) ?_
                                                refine lv_iload_n hx hb dL_same_845 rfl (lv_at hl 7 rfl) ?_
                                                refine lv_iconst (v := (nI 4)) hx hb dL_same_846 (by decide) ?_
                                                refine k_C (v := (mdOf X d 4)) (X' := X) (hh' := hh) S hV hK h [.int (nI d), .int (nI 4)] (t_dig hF hd3 (w := 4) (by omega)) q_446 q_447 q_448 q_1 q_449 yd_X7_digestOf rfl ⟨⟨rfl, rfl⟩, ⟨(Nat.le_of_ble_eq_true rfl), (Nat.le_of_ble_eq_true rfl)⟩, Nat.le_refl _, Nat.le_refl _⟩ rfl (Nat.le_of_ble_eq_true rfl) hl.1 dL_same_847 (fun H locs h => ?_)
                                                refine cv_i (show (mdOf X d 4 : Int32) = nI G0 from ((if_neg (by omega)).trans eG)) ?_
                                                refine lv_iload hx hb dL_same_850 (lv_at hl 9 rfl) ?_
                                                refine lv_icmp_ne (tgt := 954) hx hb dL_same_852 (by decide) (fun c_852 => absurd c_852 (fun z => z rfl)) (fun c_852 => ?_)
                                                refine lv_aload_n hx hb dL_same_855 rfl (lv_at hl 8 rfl) ?_
                                                refine lv_iload_n hx hb dL_same_856 rfl (lv_at hl 7 rfl) ?_
                                                refine lv_bipush (v := (nI 6)) hx hb dL_same_857 (by decide) ?_
                                                refine k_C (v := (mdOf X d 6)) (X' := X) (hh' := hh) S hV hK h [.int (nI d), .int (nI 6)] (t_dig hF hd3 (w := 6) (by omega)) q_446 q_447 q_448 q_1 q_449 yd_X7_digestOf rfl ⟨⟨rfl, rfl⟩, ⟨(Nat.le_of_ble_eq_true rfl), (Nat.le_of_ble_eq_true rfl)⟩, Nat.le_refl _, Nat.le_refl _⟩ rfl (Nat.le_of_ble_eq_true rfl) hl.1 dL_same_859 (fun H locs h => ?_)
                                                refine cv_i (show (mdOf X d 6 : Int32) = nI ((trL X d).length) from rfl) ?_
                                                refine lv_iload hx hb dL_same_862 (lv_at hl 11 rfl) ?_
                                                refine lv_icmp_ne (tgt := 954) hx hb dL_same_864 (by decide) (fun c_864 => absurd c_864 (fun z => z rfl)) (fun c_864 => ?_)
                                                refine lv_aload_n hx hb dL_same_867 rfl (lv_at hl 8 rfl) ?_
                                                refine lv_iload_n hx hb dL_same_868 rfl (lv_at hl 7 rfl) ?_
                                                refine lv_iconst (v := (nI 0)) hx hb dL_same_869 (by decide) ?_
                                                refine k_C (v := ((wrS (trL X d) (srt (X.2.2 d).2.2.1) 11).2)) (X' := X) (hh' := hh) S hV hK h [.int (nI d), .int (nI 0)] (t_wor1 hF hd3 h0) q_511 q_512 q_513 q_1 q_514 yd_X7_worst rfl ⟨⟨rfl, rfl⟩, ⟨(Nat.le_of_ble_eq_true rfl), (Nat.le_of_ble_eq_true rfl)⟩, Nat.le_refl _, Nat.le_refl _⟩ rfl (Nat.le_of_ble_eq_true rfl) hl.1 dL_same_870 (fun H locs h => ?_)
                                                refine cv_i (show ((wrS (trL X d) (srt (X.2.2 d).2.2.1) 11).2 : Int32) = wq from ew1) ?_
                                                refine lv_iload hx hb dL_same_873 (lv_at hl 15 rfl) ?_
                                                refine lv_icmp_ne (tgt := 954) hx hb dL_same_875 (by decide) (fun c_875 => absurd c_875 (fun z => z rfl)) (fun c_875 => ?_)
                                                refine lv_aload_n hx hb dL_same_878 rfl (lv_at hl 8 rfl) ?_
                                                refine lv_iload_n hx hb dL_same_879 rfl (lv_at hl 7 rfl) ?_
                                                refine lv_iconst (v := (nI 1)) hx hb dL_same_880 (by decide) ?_
                                                refine k_C (v := ((wrS (trL X d) (srt (X.2.2 d).2.2.1) 11).1)) (X' := X) (hh' := hh) S hV hK h [.int (nI d), .int (nI 1)] (t_wor2 hF hd3 h0) q_511 q_512 q_513 q_1 q_514 yd_X7_worst rfl ⟨⟨rfl, rfl⟩, ⟨(Nat.le_of_ble_eq_true rfl), (Nat.le_of_ble_eq_true rfl)⟩, Nat.le_refl _, Nat.le_refl _⟩ rfl (Nat.le_of_ble_eq_true rfl) hl.1 dL_same_881 (fun H locs h => ?_)
                                                refine cv_i (show ((wrS (trL X d) (srt (X.2.2 d).2.2.1) 11).1 : Int32) = wf from ew2) ?_
                                                refine lv_iload hx hb dL_same_884 (lv_at hl 14 rfl) ?_
                                                refine lv_icmp_ne (tgt := 954) hx hb dL_same_886 (by decide) (fun c_886 => absurd c_886 (fun z => z rfl)) (fun c_886 => ?_)
                                                refine lv_aload_n hx hb dL_same_889 rfl (lv_at hl 8 rfl) ?_
                                                refine lv_iload_n hx hb dL_same_890 rfl (lv_at hl 7 rfl) ?_
                                                refine lv_iload hx hb dL_same_891 (lv_at hl 13 rfl) ?_
                                                refine k_C (v := (wAt (nI (lowN x 1001 * ((X.2.2 d).2.2.1.length - 1) / 1000)) (nI 0) (trL X d))) (X' := X) (hh' := hh) S hV hK h [.int (nI d), .int (nI (lowN x 1001))] (t_wid hF hd3 h0 (by omega)) q_535 q_536 q_537 q_1 q_538 yd_X7_width rfl ⟨⟨rfl, rfl⟩, ⟨(Nat.le_of_ble_eq_true rfl), (Nat.le_of_ble_eq_true rfl)⟩, Nat.le_refl _, Nat.le_refl _⟩ rfl (Nat.le_of_ble_eq_true rfl) hl.1 dL_same_893 (fun H locs h => ?_)
                                                refine cv_i (show (wAt (nI (lowN x 1001 * ((X.2.2 d).2.2.1.length - 1) / 1000)) (nI 0) (trL X d) : Int32) = h_g ((trL X d).getD p9 hd0) - h_l ((trL X d).getD p9 hd0) from hwe) ?_
                                                refine lv_aload hx hb dL_same_896 (lv_at hl 0 rfl) ?_
                                                refine lv_iconst (v := (nI 4)) hx hb dL_same_898 (by decide) ?_
                                                refine lv_iload hx hb dL_same_899 (lv_at hl 12 rfl) ?_
                                                refine a_imul hx hb dL_same_901 ?_
                                                refine lv_iconst (v := (nI 3)) hx hb dL_same_902 (by decide) ?_
                                                refine a_iadd hx hb dL_same_903 ?_
                                                refine g9_el (n := 64) S hK h (by decide) rfl (by omega) dL_same_904 ?_
                                                refine cv_i (show (σ8 9 (4 * p9 + 3) : Int32) = h_g ((trL X d).getD p9 hd0) from (hT8.g hp91)) ?_
                                                refine lv_aload hx hb dL_same_905 (lv_at hl 0 rfl) ?_
                                                refine lv_iconst (v := (nI 4)) hx hb dL_same_907 (by decide) ?_
                                                refine lv_iload hx hb dL_same_908 (lv_at hl 12 rfl) ?_
                                                refine a_imul hx hb dL_same_910 ?_
                                                refine lv_iconst (v := (nI 2)) hx hb dL_same_911 (by decide) ?_
                                                refine a_iadd hx hb dL_same_912 ?_
                                                refine g9_el (n := 64) S hK h (by decide) rfl (by omega) dL_same_913 ?_
                                                refine cv_i (show (σ8 9 (4 * p9 + 2) : Int32) = h_l ((trL X d).getD p9 hd0) from (hT8.l hp91)) ?_
                                                refine lv_isub hx hb dL_same_914 ?_
                                                refine lv_icmp_ne (tgt := 954) hx hb dL_same_915 (by decide) (fun c_915 => absurd c_915 (fun z => z rfl)) (fun c_915 => ?_)
                                                refine lv_aload_n hx hb dL_same_918 rfl (lv_at hl 8 rfl) ?_
                                                refine lv_iload_n hx hb dL_same_919 rfl (lv_at hl 7 rfl) ?_
                                                refine lv_iload hx hb dL_same_920 (lv_at hl 13 rfl) ?_
                                                refine k_C (v := (nI (qV (trL X d) (X.2.2 d).2.2.1.length L0 G0 (lowN x 1001)))) (X' := X) (hh' := hh) S hV hK h [.int (nI d), .int (nI (lowN x 1001))] (t_qua hF hd3 hQ (by omega)) q_482 q_483 q_484 q_1 q_485 yd_X7_quantile rfl ⟨⟨rfl, rfl⟩, ⟨(Nat.le_of_ble_eq_true rfl), (Nat.le_of_ble_eq_true rfl)⟩, Nat.le_refl _, Nat.le_refl _⟩ rfl (Nat.le_of_ble_eq_true rfl) hl.1 dL_same_922 (fun H locs h => ?_)
                                                refine lv_iload hx hb dL_same_925 (lv_at hl 13 rfl) ?_
                                                refine lv_aload hx hb dL_same_927 (lv_at hl 2 rfl) ?_
                                                refine lv_iconst (v := (nI 2)) hx hb dL_same_929 (by decide) ?_
                                                refine g9_el (n := 4) S hK h (by omega) (ln9_7 hd) (by omega) dL_same_930 ?_
                                                refine cv_i (show (σ8 (7 + d) 2 : Int32) = nI ((X.2.2 d).2.2.1.length) from (by rw [hO9 _ (by omega)]; exact hD.2.2.2.2.2.1)) ?_
                                                refine a_imul hx hb dL_same_931 ?_
                                                refine lv_aload hx hb dL_same_932 (lv_at hl 0 rfl) ?_
                                                refine lv_iload hx hb dL_same_934 (lv_at hl 11 rfl) ?_
                                                refine lv_iload hx hb dL_same_936 (lv_at hl 10 rfl) ?_
                                                refine lv_iload hx hb dL_same_938 (lv_at hl 9 rfl) ?_
                                                refine lv_aload hx hb dL_same_940 (lv_at hl 2 rfl) ?_
                                                refine lv_iconst (v := (nI 2)) hx hb dL_same_942 (by decide) ?_
                                                refine g9_el (n := 4) S hK h (by omega) (ln9_7 hd) (by omega) dL_same_943 ?_
                                                refine cv_i (show (σ8 (7 + d) 2 : Int32) = nI ((X.2.2 d).2.2.1.length) from (by rw [hO9 _ (by omega)]; exact hD.2.2.2.2.2.1)) ?_
                                                refine k_S1 S hV hK h [.int (nI (qV (trL X d) (X.2.2 d).2.2.1.length L0 G0 (lowN x 1001))), .int (nI ((lowN x 1001) * ((X.2.2 d).2.2.1.length))), .ref (ad L 9), .int (nI ((trL X d).length)), .int (nI L0), .int (nI G0), .int (nI ((X.2.2 d).2.2.1.length))] (c_L_quantile l Lc L X hh σ8 (q := lowN x 1001) hQ hT8 lT (by omega) (by omega) rfl rfl) q_521 q_522 q_0 q_523 yd_L_quantile rfl ⟨⟨rfl, rfl⟩, ⟨(Nat.le_of_ble_eq_true rfl), (Nat.le_of_ble_eq_true rfl)⟩, Nat.le_refl _, Nat.le_refl _⟩ rfl (Nat.le_of_ble_eq_true rfl) hl.1 dL_same_944 (fun H locs h => ?_)
                                                refine b_if_eq (tgt := 954) hx hb dL_same_947 (by decide) (by decide) (fun c9 => absurd c9 (by decide)) (fun _ => ?_)
                                                refine lv_iconst (v := (nI 1)) hx hb dL_same_950 (by decide) ?_
                                                refine lv_goto (tgt := 955) hx hb dL_same_951 (by decide) ?_
                                                exact e_z9 S hK h hr hlk (Or.inr rfl) dL_same_955 (hp _ _ ⟨rfl, hO9⟩)
                                              refine lv_istore (lv' := [(21, .int (rkc R9)), (20, .int (nI (lowN (x >>> ((nI 3) &&& 31)) 40))), (8, .ref (ad L 9)), (7, .ref (ad L 0)), (6, .ref (ad L (7 + d))), (5, .ref (ad L (5 + d))), (4, .ref (ad L (3 + d))), (3, .ref (ad L (1 + d))), (2, .int x), (1, .int (nI d)), (0, .ref (ad Lc 244)), (14, .int (nI G0)), (13, .int (nI L0)), (12, .int (nI ((trL X d).length))), (19, .int (nI p9)), (18, .int (nI (lowN x 1001 * ((X.2.2 d).2.2.1.length - 1) / 1000))), (17, .int (nI (lowN x 1001))), (16, .int wf), (15, .int wq)]) hx hb dL_same_776 hl (by decide) rfl (fun ls hl => ?_)
                                              refine lv_iload hx hb dL_same_778 (lv_at hl 0 rfl) ?_
                                              refine lv_iconst (v := (-1)) hx hb dL_same_780 (by decide) ?_
                                              refine lv_icmp_lt (tgt := 831) hx hb dL_same_781 (by decide) (fun c_781 => absurd c_781 (rkc_lo R9 hR1)) (fun c_781 => ?_)
                                              refine lv_iload hx hb dL_same_784 (lv_at hl 0 rfl) ?_
                                              refine lv_sipush (v := (nI 1000)) hx hb dL_same_786 (by decide) ?_
                                              refine lv_icmp_gt (tgt := 831) hx hb dL_same_789 (by decide) (fun c_789 => absurd c_789 (rkc_hi R9 hR1)) (fun c_789 => ?_)
                                              refine lv_iload hx hb dL_same_792 (lv_at hl 0 rfl) ?_
                                              refine lv_if_lt (tgt := 809) hx hb dL_same_794 (by decide) (fun c_794 => ?_) (fun c_794 => ?_)
                                              · have hR0 := rkc_0 hR1 c_794
                                                have hl : lv_has ls 22 [(21, .int (-1)), (20, .int (nI (lowN (x >>> ((nI 3) &&& 31)) 40))), (8, .ref (ad L 9)), (7, .ref (ad L 0)), (6, .ref (ad L (7 + d))), (5, .ref (ad L (5 + d))), (4, .ref (ad L (3 + d))), (3, .ref (ad L (1 + d))), (2, .int x), (1, .int (nI d)), (0, .ref (ad Lc 244)), (14, .int (nI G0)), (13, .int (nI L0)), (12, .int (nI ((trL X d).length))), (19, .int (nI p9)), (18, .int (nI (lowN x 1001 * ((X.2.2 d).2.2.1.length - 1) / 1000))), (17, .int (nI (lowN x 1001))), (16, .int wf), (15, .int wq)] := by rw [show (.int (rkc R9) : Value) = .int (-1) from (by rw [hR0]; rfl)] at hl; exact hl
                                                have hq1 := (rk_in (q := 0) hQ hR2 (by omega) (by omega)).2 (by omega)
                                                have hqb := (fa_b (q := 0) hQ hVn h0 (by omega)).1
                                                refine lv_iload hx hb dL_same_809 (lv_at hl 0 rfl) ?_
                                                refine lv_sipush (v := (nI 1000)) hx hb dL_same_811 (by decide) ?_
                                                refine lv_icmp_ge (tgt := 833) hx hb dL_same_814 (by decide) (fun c_814 => absurd c_814 (by decide +kernel)) (fun c_814 => ?_)
                                                refine lv_aload_n hx hb dL_same_817 rfl (lv_at hl 10 rfl) ?_
                                                refine lv_iload_n hx hb dL_same_818 rfl (lv_at hl 9 rfl) ?_
                                                refine lv_iload hx hb dL_same_819 (lv_at hl 0 rfl) ?_
                                                refine lv_iconst (v := (nI 1)) hx hb dL_same_821 (by decide) ?_
                                                refine lv_iadd hx hb dL_same_822 ?_
                                                refine cv_i (show ((-1) + (nI 1) : Int32) = nI 0 from (by decide +kernel)) ?_
                                                refine k_C (v := (nI (qV (trL X d) (X.2.2 d).2.2.1.length L0 G0 0))) (X' := X) (hh' := hh) S hV hK h [.int (nI d), .int (nI 0)] (t_qua hF hd3 hQ (by omega)) q_482 q_483 q_484 q_1 q_485 yd_X7_quantile rfl ⟨⟨rfl, rfl⟩, ⟨(Nat.le_of_ble_eq_true rfl), (Nat.le_of_ble_eq_true rfl)⟩, Nat.le_refl _, Nat.le_refl _⟩ rfl (Nat.le_of_ble_eq_true rfl) hl.1 dL_same_823 (fun H locs h => ?_)
                                                refine lv_iload hx hb dL_same_826 (lv_at hl 1 rfl) ?_
                                                refine b_icmp_gt (tgt := 833) hx hb dL_same_828 (by decide) (by omega) (by omega) (fun c_828 => ?_) (fun c_828 => absurd c_828 (by omega))
                                                exact CT_833  _ _ _  h (lv_sub hl [2, 3, 4, 5, 6, 7, 8, 9, 10, 11, 12, 13, 14, 16, 17, 18] rfl)
                                              · obtain ⟨R1, eR1⟩ := rkc_s c_794
                                                rw [eR1] at hR1 hR2
                                                have hl : lv_has ls 22 [(21, .int (nI R1)), (20, .int (nI (lowN (x >>> ((nI 3) &&& 31)) 40))), (8, .ref (ad L 9)), (7, .ref (ad L 0)), (6, .ref (ad L (7 + d))), (5, .ref (ad L (5 + d))), (4, .ref (ad L (3 + d))), (3, .ref (ad L (1 + d))), (2, .int x), (1, .int (nI d)), (0, .ref (ad Lc 244)), (14, .int (nI G0)), (13, .int (nI L0)), (12, .int (nI ((trL X d).length))), (19, .int (nI p9)), (18, .int (nI (lowN x 1001 * ((X.2.2 d).2.2.1.length - 1) / 1000))), (17, .int (nI (lowN x 1001))), (16, .int wf), (15, .int wq)] := by rw [show (.int (rkc R9) : Value) = .int (nI R1) from (by rw [eR1]; rfl)] at hl; exact hl
                                                have hq2 := (rk_in (q := R1) hQ hR2 (by omega) (by omega)).1 (by omega)
                                                refine lv_aload_n hx hb dL_same_797 rfl (lv_at hl 10 rfl) ?_
                                                refine lv_iload_n hx hb dL_same_798 rfl (lv_at hl 9 rfl) ?_
                                                refine lv_iload hx hb dL_same_799 (lv_at hl 0 rfl) ?_
                                                refine k_C (v := (nI (qV (trL X d) (X.2.2 d).2.2.1.length L0 G0 R1))) (X' := X) (hh' := hh) S hV hK h [.int (nI d), .int (nI R1)] (t_qua hF hd3 hQ (by omega)) q_482 q_483 q_484 q_1 q_485 yd_X7_quantile rfl ⟨⟨rfl, rfl⟩, ⟨(Nat.le_of_ble_eq_true rfl), (Nat.le_of_ble_eq_true rfl)⟩, Nat.le_refl _, Nat.le_refl _⟩ rfl (Nat.le_of_ble_eq_true rfl) hl.1 dL_same_801 (fun H locs h => ?_)
                                                refine lv_iload hx hb dL_same_804 (lv_at hl 1 rfl) ?_
                                                refine b_icmp_gt (tgt := 831) hx hb dL_same_806 (by decide) (by omega) (by omega) (fun c_806 => absurd c_806 (by omega)) (fun c_806 => ?_)
                                                refine lv_iload hx hb dL_same_809 (lv_at hl 0 rfl) ?_
                                                refine lv_sipush (v := (nI 1000)) hx hb dL_same_811 (by decide) ?_
                                                refine b_icmp_ge (tgt := 833) hx hb dL_same_814 (by decide) (by omega) (by omega) (fun c_814 => ?_) (fun c_814 => ?_)
                                                · exact CT_833  _ _ _  h (lv_sub hl [2, 3, 4, 5, 6, 7, 8, 9, 10, 11, 12, 13, 14, 16, 17, 18] rfl)
                                                · have hqb := (fa_b (q := R1 + 1) hQ hVn h0 (by omega)).1
                                                  have hq1 := (rk_in (q := R1 + 1) hQ hR2 (by omega) (by omega)).2 (by omega)
                                                  refine lv_aload_n hx hb dL_same_817 rfl (lv_at hl 10 rfl) ?_
                                                  refine lv_iload_n hx hb dL_same_818 rfl (lv_at hl 9 rfl) ?_
                                                  refine lv_iload hx hb dL_same_819 (lv_at hl 0 rfl) ?_
                                                  refine lv_iconst (v := (nI 1)) hx hb dL_same_821 (by decide) ?_
                                                  refine a_iadd hx hb dL_same_822 ?_
                                                  refine k_C (v := (nI (qV (trL X d) (X.2.2 d).2.2.1.length L0 G0 (R1 + 1)))) (X' := X) (hh' := hh) S hV hK h [.int (nI d), .int (nI (R1 + 1))] (t_qua hF hd3 hQ (by omega)) q_482 q_483 q_484 q_1 q_485 yd_X7_quantile rfl ⟨⟨rfl, rfl⟩, ⟨(Nat.le_of_ble_eq_true rfl), (Nat.le_of_ble_eq_true rfl)⟩, Nat.le_refl _, Nat.le_refl _⟩ rfl (Nat.le_of_ble_eq_true rfl) hl.1 dL_same_823 (fun H locs h => ?_)
                                                  refine lv_iload hx hb dL_same_826 (lv_at hl 1 rfl) ?_
                                                  refine b_icmp_gt (tgt := 833) hx hb dL_same_828 (by decide) (by omega) (by omega) (fun c_828 => ?_) (fun c_828 => absurd c_828 (by omega))
                                                  exact CT_833  _ _ _  h (lv_sub hl [2, 3, 4, 5, 6, 7, 8, 9, 10, 11, 12, 13, 14, 16, 17, 18] rfl)
                                            · have hp92 : p9 + 1 < (trL X d).length := by rcases Nat.lt_or_ge (p9 + 1) (trL X d).length with z | z; exact z; rw [List.take_of_length_le z] at c_738; omega
                                              have hx9 := gT _ (mem_getD (d := hd0) hp92)
                                              obtain ⟨w1, w2, w3⟩ := wN_GH hx9
                                              refine lv_iinc (v := (nI (p9 + 1))) (lv' := [(19, .int (nI (p9 + 1))), (8, .ref (ad L 9)), (7, .ref (ad L 0)), (6, .ref (ad L (7 + d))), (5, .ref (ad L (5 + d))), (4, .ref (ad L (3 + d))), (3, .ref (ad L (1 + d))), (2, .int x), (1, .int (nI d)), (0, .ref (ad Lc 244)), (14, .int (nI G0)), (13, .int (nI L0)), (12, .int (nI ((trL X d).length))), (20, .int (nI (sumN ((trL X d).take (p9 + 1))))), (18, .int (nI (lowN x 1001 * ((X.2.2 d).2.2.1.length - 1) / 1000))), (17, .int (nI (lowN x 1001))), (16, .int wf), (15, .int wq)]) hx hb dL_same_741 hl (k := 13) rfl (iinc_1 _) (by decide) rfl (fun ls hl => ?_)
                                              refine lv_iload hx hb dL_same_744 (lv_at hl 13 rfl) ?_
                                              refine lv_aload hx hb dL_same_746 (lv_at hl 1 rfl) ?_
                                              refine lv_iconst (v := (nI 4)) hx hb dL_same_748 (by decide) ?_
                                              refine lv_iload hx hb dL_same_749 (lv_at hl 0 rfl) ?_
                                              refine a_imul hx hb dL_same_751 ?_
                                              refine g9_el (n := 64) S hK h (by decide) rfl (by omega) dL_same_752 ?_
                                              refine cv_i (show (σ8 9 (4 * (p9 + 1)) : Int32) = nI (wN ((trL X d).getD (p9 + 1) hd0)) from ((hT8.w hp92).trans w1)) ?_
                                              refine a_iadd hx hb dL_same_753 ?_
                                              refine cv_i (show (nI (sumN ((trL X d).take (p9 + 1)) + (wN ((trL X d).getD (p9 + 1) hd0))) : Int32) = nI (sumN ((trL X d).take (p9 + 1 + 1))) from (by rw [sumN_take hp92])) ?_
                                              refine lv_istore (lv' := [(20, .int (nI (sumN ((trL X d).take (p9 + 1 + 1))))), (19, .int (nI (p9 + 1))), (8, .ref (ad L 9)), (7, .ref (ad L 0)), (6, .ref (ad L (7 + d))), (5, .ref (ad L (5 + d))), (4, .ref (ad L (3 + d))), (3, .ref (ad L (1 + d))), (2, .int x), (1, .int (nI d)), (0, .ref (ad Lc 244)), (14, .int (nI G0)), (13, .int (nI L0)), (12, .int (nI ((trL X d).length))), (18, .int (nI (lowN x 1001 * ((X.2.2 d).2.2.1.length - 1) / 1000))), (17, .int (nI (lowN x 1001))), (16, .int wf), (15, .int wq)]) hx hb dL_same_754 hl (by decide) rfl (fun ls hl => ?_)
                                              refine lv_goto (tgt := 734) hx hb dL_same_756 (by decide) ?_
                                              exact ih_734 (p9 + 1) hp92 (hwd.trans (wd_n hp91 gT (by omega) (by omega) c_738)) (by omega) _ _ _ h (lv_sub hl [2, 3, 4, 5, 6, 7, 8, 9, 10, 11, 12, 13, 0, 1, 14, 15, 16, 17] rfl)
                                        exact LP_734 _ 0 (by omega) (by rw [List.take_zero, List.drop_zero, sumN]) (Nat.lt_succ_self _) _ _ _ h (lv_sub hl [4, 5, 6, 7, 8, 9, 10, 11, 12, 13, 14, 15, 0, 1, 2, 3, 16, 17] rfl)
                                      · have hj9 : 100 * j ≤ 1000 := c_564
                                        obtain ⟨fb1, fb2, fb3⟩ := fa_b hQ hVn h0 hj9
                                        obtain ⟨ix1, ix2⟩ := idx_lt hj9 h0
                                        have em9 := (tN_eq hVn h0 hj9).1
                                        have hmm : 100 * j * (X.2.2 d).2.2.1.length ≤ 1000 * 40 := Nat.mul_le_mul (by omega) (by omega)
                                        refine lv_aload_n hx hb dL_same_567 rfl (lv_at hl 8 rfl) ?_
                                        refine lv_iload_n hx hb dL_same_568 rfl (lv_at hl 7 rfl) ?_
                                        refine lv_iload hx hb dL_same_569 (lv_at hl 12 rfl) ?_
                                        refine k_C (v := (nI (qV (trL X d) (X.2.2 d).2.2.1.length L0 G0 (100 * j)))) (X' := X) (hh' := hh) S hV hK h [.int (nI d), .int (nI (100 * j))] (t_qua hF hd3 hQ hj9) q_482 q_483 q_484 q_1 q_485 yd_X7_quantile rfl ⟨⟨rfl, rfl⟩, ⟨(Nat.le_of_ble_eq_true rfl), (Nat.le_of_ble_eq_true rfl)⟩, Nat.le_refl _, Nat.le_refl _⟩ rfl (Nat.le_of_ble_eq_true rfl) hl.1 dL_same_571 (fun H locs h => ?_)
                                        refine lv_istore (lv' := [(18, .int (nI (qV (trL X d) (X.2.2 d).2.2.1.length L0 G0 (100 * j)))), (8, .ref (ad L 9)), (7, .ref (ad L 0)), (6, .ref (ad L (7 + d))), (5, .ref (ad L (5 + d))), (4, .ref (ad L (3 + d))), (3, .ref (ad L (1 + d))), (2, .int x), (1, .int (nI d)), (0, .ref (ad Lc 244)), (14, .int (nI G0)), (13, .int (nI L0)), (12, .int (nI ((trL X d).length))), (17, .int (nI (100 * j))), (16, .int wf), (15, .int wq)]) hx hb dL_same_574 hl (by decide) rfl (fun ls hl => ?_)
                                        refine lv_iload hx hb dL_same_576 (lv_at hl 13 rfl) ?_
                                        refine lv_aload hx hb dL_same_578 (lv_at hl 3 rfl) ?_
                                        refine lv_iconst (v := (nI 2)) hx hb dL_same_580 (by decide) ?_
                                        refine g9_el (n := 4) S hK h (by omega) (ln9_7 hd) (by omega) dL_same_581 ?_
                                        refine cv_i (show (σ8 (7 + d) 2 : Int32) = nI ((X.2.2 d).2.2.1.length) from (by rw [hO9 _ (by omega)]; exact hD.2.2.2.2.2.1)) ?_
                                        refine lv_iconst (v := (nI 1)) hx hb dL_same_582 (by decide) ?_
                                        refine a_isub hx hb dL_same_583 (by omega) ?_
                                        refine a_imul hx hb dL_same_584 ?_
                                        refine lv_sipush (v := (nI 1000)) hx hb dL_same_585 (by decide) ?_
                                        refine a_idiv hx hb dL_same_588 (by omega) (by omega) (by omega) ?_
                                        refine lv_aload hx hb dL_same_589 (lv_at hl 4 rfl) ?_
                                        refine lv_aload hx hb dL_same_591 (lv_at hl 3 rfl) ?_
                                        refine lv_iconst (v := (nI 2)) hx hb dL_same_593 (by decide) ?_
                                        refine g9_el (n := 4) S hK h (by omega) (ln9_7 hd) (by omega) dL_same_594 ?_
                                        refine cv_i (show (σ8 (7 + d) 2 : Int32) = nI ((X.2.2 d).2.2.1.length) from (by rw [hO9 _ (by omega)]; exact hD.2.2.2.2.2.1)) ?_
                                        refine k_S1 S hV hK h [.int (nI (((100 * j) * (((X.2.2 d).2.2.1.length) - 1)) / 1000)), .ref (ad L (5 + d)), .int (nI ((X.2.2 d).2.2.1.length))] (c_L_ordered l Lc L X hh σ8 (a := 5 + d) (by omega) (ln9_5 hd) (V := (X.2.2 d).2.2.1) (by rw [hO9 _ (by omega)]; exact hD.2.2.1) hV40 (by omega)) q_518 q_519 q_0 q_520 yd_L_ordered rfl ⟨⟨rfl, rfl⟩, ⟨(Nat.le_of_ble_eq_true rfl), (Nat.le_of_ble_eq_true rfl)⟩, Nat.le_refl _, Nat.le_refl _⟩ rfl (Nat.le_of_ble_eq_true rfl) hl.1 dL_same_595 (fun H locs h => ?_)
                                        refine cv_i (show ((srt ((X.2.2 d).2.2.1)).getD (((100 * j) * (((X.2.2 d).2.2.1.length) - 1)) / 1000) 0 : Int32) = nI (tN (X.2.2 d).2.2.1 (100 * j)) from em9) ?_
                                        refine lv_istore (lv' := [(19, .int (nI (tN (X.2.2 d).2.2.1 (100 * j)))), (18, .int (nI (qV (trL X d) (X.2.2 d).2.2.1.length L0 G0 (100 * j)))), (8, .ref (ad L 9)), (7, .ref (ad L 0)), (6, .ref (ad L (7 + d))), (5, .ref (ad L (5 + d))), (4, .ref (ad L (3 + d))), (3, .ref (ad L (1 + d))), (2, .int x), (1, .int (nI d)), (0, .ref (ad Lc 244)), (14, .int (nI G0)), (13, .int (nI L0)), (12, .int (nI ((trL X d).length))), (17, .int (nI (100 * j))), (16, .int wf), (15, .int wq)]) hx hb dL_same_598 hl (by decide) rfl (fun ls hl => ?_)
                                        refine lv_iload hx hb dL_same_600 (lv_at hl 1 rfl) ?_
                                        refine lv_iload hx hb dL_same_602 (lv_at hl 0 rfl) ?_
                                        refine b_icmp_le (tgt := 615) hx hb dL_same_604 (by decide) (by omega) (by omega) (fun c_604 => ?_) (fun c_604 => ?_)
                                        · refine lv_iload hx hb dL_same_615 (lv_at hl 0 rfl) ?_
                                          refine lv_iload hx hb dL_same_617 (lv_at hl 1 rfl) ?_
                                          refine a_isub hx hb dL_same_619 (by omega) ?_
                                          refine cv_i (show (nI ((tN (X.2.2 d).2.2.1 (100 * j)) - (qV (trL X d) (X.2.2 d).2.2.1.length L0 G0 (100 * j))) : Int32) = nI (fa (qV (trL X d) (X.2.2 d).2.2.1.length L0 G0 (100 * j)) (tN (X.2.2 d).2.2.1 (100 * j))) from (by first | (rw [fa, if_neg (by omega)]) | rfl)) ?_
                                          refine lv_istore (lv' := [(20, .int (nI (fa (qV (trL X d) (X.2.2 d).2.2.1.length L0 G0 (100 * j)) (tN (X.2.2 d).2.2.1 (100 * j))))), (19, .int (nI (tN (X.2.2 d).2.2.1 (100 * j)))), (18, .int (nI (qV (trL X d) (X.2.2 d).2.2.1.length L0 G0 (100 * j)))), (8, .ref (ad L 9)), (7, .ref (ad L 0)), (6, .ref (ad L (7 + d))), (5, .ref (ad L (5 + d))), (4, .ref (ad L (3 + d))), (3, .ref (ad L (1 + d))), (2, .int x), (1, .int (nI d)), (0, .ref (ad Lc 244)), (14, .int (nI G0)), (13, .int (nI L0)), (12, .int (nI ((trL X d).length))), (17, .int (nI (100 * j))), (16, .int wf), (15, .int wq)]) hx hb dL_same_620 hl (by decide) rfl (fun ls hl => ?_)
                                          refine lv_iload hx hb dL_same_622 (lv_at hl 2 rfl) ?_
                                          refine lv_iload hx hb dL_same_624 (lv_at hl 15 rfl) ?_
                                          refine lv_aload hx hb dL_same_626 (lv_at hl 5 rfl) ?_
                                          refine lv_iconst (v := (nI 2)) hx hb dL_same_628 (by decide) ?_
                                          refine g9_el (n := 4) S hK h (by omega) (ln9_7 hd) (by omega) dL_same_629 ?_
                                          refine cv_i (show (σ8 (7 + d) 2 : Int32) = nI ((X.2.2 d).2.2.1.length) from (by rw [hO9 _ (by omega)]; exact hD.2.2.2.2.2.1)) ?_
                                          refine a_imul hx hb dL_same_630 ?_
                                          refine lv_aload hx hb dL_same_631 (lv_at hl 3 rfl) ?_
                                          refine lv_iload hx hb dL_same_633 (lv_at hl 14 rfl) ?_
                                          refine lv_iload hx hb dL_same_635 (lv_at hl 13 rfl) ?_
                                          refine lv_iload hx hb dL_same_637 (lv_at hl 12 rfl) ?_
                                          refine lv_aload hx hb dL_same_639 (lv_at hl 5 rfl) ?_
                                          refine lv_iconst (v := (nI 2)) hx hb dL_same_641 (by decide) ?_
                                          refine g9_el (n := 4) S hK h (by omega) (ln9_7 hd) (by omega) dL_same_642 ?_
                                          refine cv_i (show (σ8 (7 + d) 2 : Int32) = nI ((X.2.2 d).2.2.1.length) from (by rw [hO9 _ (by omega)]; exact hD.2.2.2.2.2.1)) ?_
                                          refine k_S1 S hV hK h [.int (nI (qV (trL X d) (X.2.2 d).2.2.1.length L0 G0 (100 * j))), .int (nI ((100 * j) * ((X.2.2 d).2.2.1.length))), .ref (ad L 9), .int (nI ((trL X d).length)), .int (nI L0), .int (nI G0), .int (nI ((X.2.2 d).2.2.1.length))] (c_L_quantile l Lc L X hh σ8 (q := 100 * j) hQ hT8 lT (by omega) hj9 rfl rfl) q_521 q_522 q_0 q_523 yd_L_quantile rfl ⟨⟨rfl, rfl⟩, ⟨(Nat.le_of_ble_eq_true rfl), (Nat.le_of_ble_eq_true rfl)⟩, Nat.le_refl _, Nat.le_refl _⟩ rfl (Nat.le_of_ble_eq_true rfl) hl.1 dL_same_643 (fun H locs h => ?_)
                                          refine b_if_eq (tgt := 661) hx hb dL_same_646 (by decide) (by decide) (fun c9 => absurd c9 (by decide)) (fun _ => ?_)
                                          refine lv_aload_n hx hb dL_same_649 rfl (lv_at hl 11 rfl) ?_
                                          refine lv_iload_n hx hb dL_same_650 rfl (lv_at hl 10 rfl) ?_
                                          refine lv_iload hx hb dL_same_651 (lv_at hl 15 rfl) ?_
                                          refine k_C (v := (nI (tN (X.2.2 d).2.2.1 (100 * j)))) (X' := X) (hh' := hh) S hV hK h [.int (nI d), .int (nI (100 * j))] (t_tru hF hd3 h0 hj9) q_500 q_501 q_502 q_1 q_503 yd_X7_truth rfl ⟨⟨rfl, rfl⟩, ⟨(Nat.le_of_ble_eq_true rfl), (Nat.le_of_ble_eq_true rfl)⟩, Nat.le_refl _, Nat.le_refl _⟩ rfl (Nat.le_of_ble_eq_true rfl) hl.1 dL_same_653 (fun H locs h => ?_)
                                          refine lv_iload hx hb dL_same_656 (lv_at hl 1 rfl) ?_
                                          refine lv_icmp_eq (tgt := 663) hx hb dL_same_658 (by decide) (fun c_658 => ?_) (fun c_658 => absurd c_658 (fun z => z rfl))
                                          refine lv_iload hx hb dL_same_663 (lv_at hl 0 rfl) ?_
                                          refine lv_iload hx hb dL_same_665 (lv_at hl 16 rfl) ?_
                                          refine lv_icmp_le (tgt := 675) hx hb dL_same_667 (by decide) (fun c_667 => ?_) (fun c_667 => ?_)
                                          · refine lv_iload hx hb dL_same_675 (lv_at hl 17 rfl) ?_
                                            refine lv_istore (lv' := [(15, .int wq), (20, .int (nI (fa (qV (trL X d) (X.2.2 d).2.2.1.length L0 G0 (100 * j)) (tN (X.2.2 d).2.2.1 (100 * j))))), (19, .int (nI (tN (X.2.2 d).2.2.1 (100 * j)))), (18, .int (nI (qV (trL X d) (X.2.2 d).2.2.1.length L0 G0 (100 * j)))), (8, .ref (ad L 9)), (7, .ref (ad L 0)), (6, .ref (ad L (7 + d))), (5, .ref (ad L (5 + d))), (4, .ref (ad L (3 + d))), (3, .ref (ad L (1 + d))), (2, .int x), (1, .int (nI d)), (0, .ref (ad Lc 244)), (14, .int (nI G0)), (13, .int (nI L0)), (12, .int (nI ((trL X d).length))), (17, .int (nI (100 * j))), (16, .int wf)]) hx hb dL_same_677 hl (by decide) rfl (fun ls hl => ?_)
                                            refine lv_iload hx hb dL_same_679 (lv_at hl 1 rfl) ?_
                                            refine lv_iload hx hb dL_same_681 (lv_at hl 17 rfl) ?_
                                            refine lv_icmp_le (tgt := 691) hx hb dL_same_683 (by decide) (fun c_683 => ?_) (fun c_683 => absurd c_683 (fun z => z c_667))
                                            refine lv_iload hx hb dL_same_691 (lv_at hl 17 rfl) ?_
                                            refine lv_istore (lv' := [(16, .int wf), (15, .int wq), (20, .int (nI (fa (qV (trL X d) (X.2.2 d).2.2.1.length L0 G0 (100 * j)) (tN (X.2.2 d).2.2.1 (100 * j))))), (19, .int (nI (tN (X.2.2 d).2.2.1 (100 * j)))), (18, .int (nI (qV (trL X d) (X.2.2 d).2.2.1.length L0 G0 (100 * j)))), (8, .ref (ad L 9)), (7, .ref (ad L 0)), (6, .ref (ad L (7 + d))), (5, .ref (ad L (5 + d))), (4, .ref (ad L (3 + d))), (3, .ref (ad L (1 + d))), (2, .int x), (1, .int (nI d)), (0, .ref (ad Lc 244)), (14, .int (nI G0)), (13, .int (nI L0)), (12, .int (nI ((trL X d).length))), (17, .int (nI (100 * j)))]) hx hb dL_same_693 hl (by decide) rfl (fun ls hl => ?_)
                                            refine lv_iinc (v := (nI (100 * j + 100))) (lv' := [(17, .int (nI (100 * j + 100))), (16, .int wf), (15, .int wq), (20, .int (nI (fa (qV (trL X d) (X.2.2 d).2.2.1.length L0 G0 (100 * j)) (tN (X.2.2 d).2.2.1 (100 * j))))), (19, .int (nI (tN (X.2.2 d).2.2.1 (100 * j)))), (18, .int (nI (qV (trL X d) (X.2.2 d).2.2.1.length L0 G0 (100 * j)))), (8, .ref (ad L 9)), (7, .ref (ad L 0)), (6, .ref (ad L (7 + d))), (5, .ref (ad L (5 + d))), (4, .ref (ad L (3 + d))), (3, .ref (ad L (1 + d))), (2, .int x), (1, .int (nI d)), (0, .ref (ad Lc 244)), (14, .int (nI G0)), (13, .int (nI L0)), (12, .int (nI ((trL X d).length)))]) hx hb dL_same_695 hl (k := 17) rfl (iinc_k _ 100) (by decide) rfl (fun ls hl => ?_)
                                            refine lv_goto (tgt := 559) hx hb dL_same_698 (by decide) ?_
                                            exact ih_559 (j + 1) wq wf (by omega) (by first | exact wr_up hQ hVn h0 hj9 hw9 c_667 | exact wr_no hQ hVn h0 hj9 hw9 c_667) (by omega) _ _ _ h (lv_sub hl [6, 7, 8, 9, 10, 11, 12, 13, 14, 15, 16, 17, 0, 1, 2] rfl)
                                          · refine lv_iload hx hb dL_same_670 (lv_at hl 15 rfl) ?_
                                            refine lv_goto (tgt := 677) hx hb dL_same_672 (by decide) ?_
                                            refine lv_istore (lv' := [(15, .int (nI (100 * j))), (20, .int (nI (fa (qV (trL X d) (X.2.2 d).2.2.1.length L0 G0 (100 * j)) (tN (X.2.2 d).2.2.1 (100 * j))))), (19, .int (nI (tN (X.2.2 d).2.2.1 (100 * j)))), (18, .int (nI (qV (trL X d) (X.2.2 d).2.2.1.length L0 G0 (100 * j)))), (8, .ref (ad L 9)), (7, .ref (ad L 0)), (6, .ref (ad L (7 + d))), (5, .ref (ad L (5 + d))), (4, .ref (ad L (3 + d))), (3, .ref (ad L (1 + d))), (2, .int x), (1, .int (nI d)), (0, .ref (ad Lc 244)), (14, .int (nI G0)), (13, .int (nI L0)), (12, .int (nI ((trL X d).length))), (17, .int (nI (100 * j))), (16, .int wf)]) hx hb dL_same_677 hl (by decide) rfl (fun ls hl => ?_)
                                            refine lv_iload hx hb dL_same_679 (lv_at hl 1 rfl) ?_
                                            refine lv_iload hx hb dL_same_681 (lv_at hl 17 rfl) ?_
                                            refine lv_icmp_le (tgt := 691) hx hb dL_same_683 (by decide) (fun c_683 => absurd c_683 c_667) (fun c_683 => ?_)
                                            refine lv_iload hx hb dL_same_686 (lv_at hl 1 rfl) ?_
                                            refine lv_goto (tgt := 693) hx hb dL_same_688 (by decide) ?_
                                            refine lv_istore (lv' := [(16, .int (nI (fa (qV (trL X d) (X.2.2 d).2.2.1.length L0 G0 (100 * j)) (tN (X.2.2 d).2.2.1 (100 * j))))), (15, .int (nI (100 * j))), (20, .int (nI (fa (qV (trL X d) (X.2.2 d).2.2.1.length L0 G0 (100 * j)) (tN (X.2.2 d).2.2.1 (100 * j))))), (19, .int (nI (tN (X.2.2 d).2.2.1 (100 * j)))), (18, .int (nI (qV (trL X d) (X.2.2 d).2.2.1.length L0 G0 (100 * j)))), (8, .ref (ad L 9)), (7, .ref (ad L 0)), (6, .ref (ad L (7 + d))), (5, .ref (ad L (5 + d))), (4, .ref (ad L (3 + d))), (3, .ref (ad L (1 + d))), (2, .int x), (1, .int (nI d)), (0, .ref (ad Lc 244)), (14, .int (nI G0)), (13, .int (nI L0)), (12, .int (nI ((trL X d).length))), (17, .int (nI (100 * j)))]) hx hb dL_same_693 hl (by decide) rfl (fun ls hl => ?_)
                                            refine lv_iinc (v := (nI (100 * j + 100))) (lv' := [(17, .int (nI (100 * j + 100))), (16, .int (nI (fa (qV (trL X d) (X.2.2 d).2.2.1.length L0 G0 (100 * j)) (tN (X.2.2 d).2.2.1 (100 * j))))), (15, .int (nI (100 * j))), (20, .int (nI (fa (qV (trL X d) (X.2.2 d).2.2.1.length L0 G0 (100 * j)) (tN (X.2.2 d).2.2.1 (100 * j))))), (19, .int (nI (tN (X.2.2 d).2.2.1 (100 * j)))), (18, .int (nI (qV (trL X d) (X.2.2 d).2.2.1.length L0 G0 (100 * j)))), (8, .ref (ad L 9)), (7, .ref (ad L 0)), (6, .ref (ad L (7 + d))), (5, .ref (ad L (5 + d))), (4, .ref (ad L (3 + d))), (3, .ref (ad L (1 + d))), (2, .int x), (1, .int (nI d)), (0, .ref (ad Lc 244)), (14, .int (nI G0)), (13, .int (nI L0)), (12, .int (nI ((trL X d).length)))]) hx hb dL_same_695 hl (k := 17) rfl (iinc_k _ 100) (by decide) rfl (fun ls hl => ?_)
                                            refine lv_goto (tgt := 559) hx hb dL_same_698 (by decide) ?_
                                            exact ih_559 (j + 1) (nI (100 * j)) (nI (fa (qV (trL X d) (X.2.2 d).2.2.1.length L0 G0 (100 * j)) (tN (X.2.2 d).2.2.1 (100 * j)))) (by omega) (by first | exact wr_up hQ hVn h0 hj9 hw9 c_667 | exact wr_no hQ hVn h0 hj9 hw9 c_667) (by omega) _ _ _ h (lv_sub hl [6, 7, 8, 9, 10, 11, 12, 13, 14, 15, 16, 17, 0, 1, 2] rfl)
                                        · refine lv_iload hx hb dL_same_607 (lv_at hl 1 rfl) ?_
                                          refine lv_iload hx hb dL_same_609 (lv_at hl 0 rfl) ?_
                                          refine a_isub hx hb dL_same_611 (by omega) ?_
                                          refine cv_i (show (nI ((qV (trL X d) (X.2.2 d).2.2.1.length L0 G0 (100 * j)) - (tN (X.2.2 d).2.2.1 (100 * j))) : Int32) = nI (fa (qV (trL X d) (X.2.2 d).2.2.1.length L0 G0 (100 * j)) (tN (X.2.2 d).2.2.1 (100 * j))) from (by rw [fa, if_pos (by omega)])) ?_
                                          refine lv_goto (tgt := 620) hx hb dL_same_612 (by decide) ?_
                                          refine cv_i (show (nI (fa (qV (trL X d) (X.2.2 d).2.2.1.length L0 G0 (100 * j)) (tN (X.2.2 d).2.2.1 (100 * j))) : Int32) = nI (fa (qV (trL X d) (X.2.2 d).2.2.1.length L0 G0 (100 * j)) (tN (X.2.2 d).2.2.1 (100 * j))) from (by first | (rw [fa, if_neg (by omega)]) | rfl)) ?_
                                          refine lv_istore (lv' := [(20, .int (nI (fa (qV (trL X d) (X.2.2 d).2.2.1.length L0 G0 (100 * j)) (tN (X.2.2 d).2.2.1 (100 * j))))), (19, .int (nI (tN (X.2.2 d).2.2.1 (100 * j)))), (18, .int (nI (qV (trL X d) (X.2.2 d).2.2.1.length L0 G0 (100 * j)))), (8, .ref (ad L 9)), (7, .ref (ad L 0)), (6, .ref (ad L (7 + d))), (5, .ref (ad L (5 + d))), (4, .ref (ad L (3 + d))), (3, .ref (ad L (1 + d))), (2, .int x), (1, .int (nI d)), (0, .ref (ad Lc 244)), (14, .int (nI G0)), (13, .int (nI L0)), (12, .int (nI ((trL X d).length))), (17, .int (nI (100 * j))), (16, .int wf), (15, .int wq)]) hx hb dL_same_620 hl (by decide) rfl (fun ls hl => ?_)
                                          refine lv_iload hx hb dL_same_622 (lv_at hl 2 rfl) ?_
                                          refine lv_iload hx hb dL_same_624 (lv_at hl 15 rfl) ?_
                                          refine lv_aload hx hb dL_same_626 (lv_at hl 5 rfl) ?_
                                          refine lv_iconst (v := (nI 2)) hx hb dL_same_628 (by decide) ?_
                                          refine g9_el (n := 4) S hK h (by omega) (ln9_7 hd) (by omega) dL_same_629 ?_
                                          refine cv_i (show (σ8 (7 + d) 2 : Int32) = nI ((X.2.2 d).2.2.1.length) from (by rw [hO9 _ (by omega)]; exact hD.2.2.2.2.2.1)) ?_
                                          refine a_imul hx hb dL_same_630 ?_
                                          refine lv_aload hx hb dL_same_631 (lv_at hl 3 rfl) ?_
                                          refine lv_iload hx hb dL_same_633 (lv_at hl 14 rfl) ?_
                                          refine lv_iload hx hb dL_same_635 (lv_at hl 13 rfl) ?_
                                          refine lv_iload hx hb dL_same_637 (lv_at hl 12 rfl) ?_
                                          refine lv_aload hx hb dL_same_639 (lv_at hl 5 rfl) ?_
                                          refine lv_iconst (v := (nI 2)) hx hb dL_same_641 (by decide) ?_
                                          refine g9_el (n := 4) S hK h (by omega) (ln9_7 hd) (by omega) dL_same_642 ?_
                                          refine cv_i (show (σ8 (7 + d) 2 : Int32) = nI ((X.2.2 d).2.2.1.length) from (by rw [hO9 _ (by omega)]; exact hD.2.2.2.2.2.1)) ?_
                                          refine k_S1 S hV hK h [.int (nI (qV (trL X d) (X.2.2 d).2.2.1.length L0 G0 (100 * j))), .int (nI ((100 * j) * ((X.2.2 d).2.2.1.length))), .ref (ad L 9), .int (nI ((trL X d).length)), .int (nI L0), .int (nI G0), .int (nI ((X.2.2 d).2.2.1.length))] (c_L_quantile l Lc L X hh σ8 (q := 100 * j) hQ hT8 lT (by omega) hj9 rfl rfl) q_521 q_522 q_0 q_523 yd_L_quantile rfl ⟨⟨rfl, rfl⟩, ⟨(Nat.le_of_ble_eq_true rfl), (Nat.le_of_ble_eq_true rfl)⟩, Nat.le_refl _, Nat.le_refl _⟩ rfl (Nat.le_of_ble_eq_true rfl) hl.1 dL_same_643 (fun H locs h => ?_)
                                          refine b_if_eq (tgt := 661) hx hb dL_same_646 (by decide) (by decide) (fun c9 => absurd c9 (by decide)) (fun _ => ?_)
                                          refine lv_aload_n hx hb dL_same_649 rfl (lv_at hl 11 rfl) ?_
                                          refine lv_iload_n hx hb dL_same_650 rfl (lv_at hl 10 rfl) ?_
                                          refine lv_iload hx hb dL_same_651 (lv_at hl 15 rfl) ?_
                                          refine k_C (v := (nI (tN (X.2.2 d).2.2.1 (100 * j)))) (X' := X) (hh' := hh) S hV hK h [.int (nI d), .int (nI (100 * j))] (t_tru hF hd3 h0 hj9) q_500 q_501 q_502 q_1 q_503 yd_X7_truth rfl ⟨⟨rfl, rfl⟩, ⟨(Nat.le_of_ble_eq_true rfl), (Nat.le_of_ble_eq_true rfl)⟩, Nat.le_refl _, Nat.le_refl _⟩ rfl (Nat.le_of_ble_eq_true rfl) hl.1 dL_same_653 (fun H locs h => ?_)
                                          refine lv_iload hx hb dL_same_656 (lv_at hl 1 rfl) ?_
                                          refine lv_icmp_eq (tgt := 663) hx hb dL_same_658 (by decide) (fun c_658 => ?_) (fun c_658 => absurd c_658 (fun z => z rfl))
                                          refine lv_iload hx hb dL_same_663 (lv_at hl 0 rfl) ?_
                                          refine lv_iload hx hb dL_same_665 (lv_at hl 16 rfl) ?_
                                          refine lv_icmp_le (tgt := 675) hx hb dL_same_667 (by decide) (fun c_667 => ?_) (fun c_667 => ?_)
                                          · refine lv_iload hx hb dL_same_675 (lv_at hl 17 rfl) ?_
                                            refine lv_istore (lv' := [(15, .int wq), (20, .int (nI (fa (qV (trL X d) (X.2.2 d).2.2.1.length L0 G0 (100 * j)) (tN (X.2.2 d).2.2.1 (100 * j))))), (19, .int (nI (tN (X.2.2 d).2.2.1 (100 * j)))), (18, .int (nI (qV (trL X d) (X.2.2 d).2.2.1.length L0 G0 (100 * j)))), (8, .ref (ad L 9)), (7, .ref (ad L 0)), (6, .ref (ad L (7 + d))), (5, .ref (ad L (5 + d))), (4, .ref (ad L (3 + d))), (3, .ref (ad L (1 + d))), (2, .int x), (1, .int (nI d)), (0, .ref (ad Lc 244)), (14, .int (nI G0)), (13, .int (nI L0)), (12, .int (nI ((trL X d).length))), (17, .int (nI (100 * j))), (16, .int wf)]) hx hb dL_same_677 hl (by decide) rfl (fun ls hl => ?_)
                                            refine lv_iload hx hb dL_same_679 (lv_at hl 1 rfl) ?_
                                            refine lv_iload hx hb dL_same_681 (lv_at hl 17 rfl) ?_
                                            refine lv_icmp_le (tgt := 691) hx hb dL_same_683 (by decide) (fun c_683 => ?_) (fun c_683 => absurd c_683 (fun z => z c_667))
                                            refine lv_iload hx hb dL_same_691 (lv_at hl 17 rfl) ?_
                                            refine lv_istore (lv' := [(16, .int wf), (15, .int wq), (20, .int (nI (fa (qV (trL X d) (X.2.2 d).2.2.1.length L0 G0 (100 * j)) (tN (X.2.2 d).2.2.1 (100 * j))))), (19, .int (nI (tN (X.2.2 d).2.2.1 (100 * j)))), (18, .int (nI (qV (trL X d) (X.2.2 d).2.2.1.length L0 G0 (100 * j)))), (8, .ref (ad L 9)), (7, .ref (ad L 0)), (6, .ref (ad L (7 + d))), (5, .ref (ad L (5 + d))), (4, .ref (ad L (3 + d))), (3, .ref (ad L (1 + d))), (2, .int x), (1, .int (nI d)), (0, .ref (ad Lc 244)), (14, .int (nI G0)), (13, .int (nI L0)), (12, .int (nI ((trL X d).length))), (17, .int (nI (100 * j)))]) hx hb dL_same_693 hl (by decide) rfl (fun ls hl => ?_)
                                            refine lv_iinc (v := (nI (100 * j + 100))) (lv' := [(17, .int (nI (100 * j + 100))), (16, .int wf), (15, .int wq), (20, .int (nI (fa (qV (trL X d) (X.2.2 d).2.2.1.length L0 G0 (100 * j)) (tN (X.2.2 d).2.2.1 (100 * j))))), (19, .int (nI (tN (X.2.2 d).2.2.1 (100 * j)))), (18, .int (nI (qV (trL X d) (X.2.2 d).2.2.1.length L0 G0 (100 * j)))), (8, .ref (ad L 9)), (7, .ref (ad L 0)), (6, .ref (ad L (7 + d))), (5, .ref (ad L (5 + d))), (4, .ref (ad L (3 + d))), (3, .ref (ad L (1 + d))), (2, .int x), (1, .int (nI d)), (0, .ref (ad Lc 244)), (14, .int (nI G0)), (13, .int (nI L0)), (12, .int (nI ((trL X d).length)))]) hx hb dL_same_695 hl (k := 17) rfl (iinc_k _ 100) (by decide) rfl (fun ls hl => ?_)
                                            refine lv_goto (tgt := 559) hx hb dL_same_698 (by decide) ?_
                                            exact ih_559 (j + 1) wq wf (by omega) (by first | exact wr_up hQ hVn h0 hj9 hw9 c_667 | exact wr_no hQ hVn h0 hj9 hw9 c_667) (by omega) _ _ _ h (lv_sub hl [6, 7, 8, 9, 10, 11, 12, 13, 14, 15, 16, 17, 0, 1, 2] rfl)
                                          · refine lv_iload hx hb dL_same_670 (lv_at hl 15 rfl) ?_
                                            refine lv_goto (tgt := 677) hx hb dL_same_672 (by decide) ?_
                                            refine lv_istore (lv' := [(15, .int (nI (100 * j))), (20, .int (nI (fa (qV (trL X d) (X.2.2 d).2.2.1.length L0 G0 (100 * j)) (tN (X.2.2 d).2.2.1 (100 * j))))), (19, .int (nI (tN (X.2.2 d).2.2.1 (100 * j)))), (18, .int (nI (qV (trL X d) (X.2.2 d).2.2.1.length L0 G0 (100 * j)))), (8, .ref (ad L 9)), (7, .ref (ad L 0)), (6, .ref (ad L (7 + d))), (5, .ref (ad L (5 + d))), (4, .ref (ad L (3 + d))), (3, .ref (ad L (1 + d))), (2, .int x), (1, .int (nI d)), (0, .ref (ad Lc 244)), (14, .int (nI G0)), (13, .int (nI L0)), (12, .int (nI ((trL X d).length))), (17, .int (nI (100 * j))), (16, .int wf)]) hx hb dL_same_677 hl (by decide) rfl (fun ls hl => ?_)
                                            refine lv_iload hx hb dL_same_679 (lv_at hl 1 rfl) ?_
                                            refine lv_iload hx hb dL_same_681 (lv_at hl 17 rfl) ?_
                                            refine lv_icmp_le (tgt := 691) hx hb dL_same_683 (by decide) (fun c_683 => absurd c_683 c_667) (fun c_683 => ?_)
                                            refine lv_iload hx hb dL_same_686 (lv_at hl 1 rfl) ?_
                                            refine lv_goto (tgt := 693) hx hb dL_same_688 (by decide) ?_
                                            refine lv_istore (lv' := [(16, .int (nI (fa (qV (trL X d) (X.2.2 d).2.2.1.length L0 G0 (100 * j)) (tN (X.2.2 d).2.2.1 (100 * j))))), (15, .int (nI (100 * j))), (20, .int (nI (fa (qV (trL X d) (X.2.2 d).2.2.1.length L0 G0 (100 * j)) (tN (X.2.2 d).2.2.1 (100 * j))))), (19, .int (nI (tN (X.2.2 d).2.2.1 (100 * j)))), (18, .int (nI (qV (trL X d) (X.2.2 d).2.2.1.length L0 G0 (100 * j)))), (8, .ref (ad L 9)), (7, .ref (ad L 0)), (6, .ref (ad L (7 + d))), (5, .ref (ad L (5 + d))), (4, .ref (ad L (3 + d))), (3, .ref (ad L (1 + d))), (2, .int x), (1, .int (nI d)), (0, .ref (ad Lc 244)), (14, .int (nI G0)), (13, .int (nI L0)), (12, .int (nI ((trL X d).length))), (17, .int (nI (100 * j)))]) hx hb dL_same_693 hl (by decide) rfl (fun ls hl => ?_)
                                            refine lv_iinc (v := (nI (100 * j + 100))) (lv' := [(17, .int (nI (100 * j + 100))), (16, .int (nI (fa (qV (trL X d) (X.2.2 d).2.2.1.length L0 G0 (100 * j)) (tN (X.2.2 d).2.2.1 (100 * j))))), (15, .int (nI (100 * j))), (20, .int (nI (fa (qV (trL X d) (X.2.2 d).2.2.1.length L0 G0 (100 * j)) (tN (X.2.2 d).2.2.1 (100 * j))))), (19, .int (nI (tN (X.2.2 d).2.2.1 (100 * j)))), (18, .int (nI (qV (trL X d) (X.2.2 d).2.2.1.length L0 G0 (100 * j)))), (8, .ref (ad L 9)), (7, .ref (ad L 0)), (6, .ref (ad L (7 + d))), (5, .ref (ad L (5 + d))), (4, .ref (ad L (3 + d))), (3, .ref (ad L (1 + d))), (2, .int x), (1, .int (nI d)), (0, .ref (ad Lc 244)), (14, .int (nI G0)), (13, .int (nI L0)), (12, .int (nI ((trL X d).length)))]) hx hb dL_same_695 hl (k := 17) rfl (iinc_k _ 100) (by decide) rfl (fun ls hl => ?_)
                                            refine lv_goto (tgt := 559) hx hb dL_same_698 (by decide) ?_
                                            exact ih_559 (j + 1) (nI (100 * j)) (nI (fa (qV (trL X d) (X.2.2 d).2.2.1.length L0 G0 (100 * j)) (tN (X.2.2 d).2.2.1 (100 * j)))) (by omega) (by first | exact wr_up hQ hVn h0 hj9 hw9 c_667 | exact wr_no hQ hVn h0 hj9 hw9 c_667) (by omega) _ _ _ h (lv_sub hl [6, 7, 8, 9, 10, 11, 12, 13, 14, 15, 16, 17, 0, 1, 2] rfl)
                                  exact LP_559 _ 0 (-1) (-1) (by omega) WR_0 (Nat.lt_succ_self _) _ _ _ h (lv_sub hl [6, 7, 8, 9, 10, 11, 12, 13, 14, 3, 4, 5, 0, 1, 2] rfl)
                                · refine lv_iconst (v := (nI 4)) hx hb dL_same_451 (by decide) ?_
                                  refine lv_iload hx hb dL_same_452 (lv_at hl 10 rfl) ?_
                                  refine lv_iinc (v := (nI ((X.2.2 d).1.length + j + 1))) (lv' := [(12, .int (nI ((X.2.2 d).1.length + j + 1))), (8, .ref (ad L 9)), (7, .ref (ad L 0)), (6, .ref (ad L (7 + d))), (5, .ref (ad L (5 + d))), (4, .ref (ad L (3 + d))), (3, .ref (ad L (1 + d))), (2, .int x), (1, .int (nI d)), (0, .ref (ad Lc 244)), (13, .int (nI j))]) hx hb dL_same_454 hl (k := 10) rfl (iinc_1 _) (by decide) rfl (fun ls hl => ?_)
                                  refine a_imul hx hb dL_same_457 ?_
                                  refine lv_istore (lv' := [(14, .int (nI (4 * ((X.2.2 d).1.length + j)))), (12, .int (nI ((X.2.2 d).1.length + j + 1))), (8, .ref (ad L 9)), (7, .ref (ad L 0)), (6, .ref (ad L (7 + d))), (5, .ref (ad L (5 + d))), (4, .ref (ad L (3 + d))), (3, .ref (ad L (1 + d))), (2, .int x), (1, .int (nI d)), (0, .ref (ad Lc 244)), (13, .int (nI j))]) hx hb dL_same_458 hl (by decide) rfl (fun ls hl => ?_)
                                  refine lv_aload hx hb dL_same_460 (lv_at hl 2 rfl) ?_
                                  refine lv_iload hx hb dL_same_462 (lv_at hl 0 rfl) ?_
                                  refine lv_iconst (v := (nI 1)) hx hb dL_same_464 (by decide) ?_
                                  refine p9_el (n := 64) S hV hK h (by decide) rfl (by omega) dL_same_465 (fun H locs h => ?_)
                                  refine lv_aload hx hb dL_same_466 (lv_at hl 2 rfl) ?_
                                  refine lv_iload hx hb dL_same_468 (lv_at hl 0 rfl) ?_
                                  refine lv_iconst (v := (nI 1)) hx hb dL_same_470 (by decide) ?_
                                  refine a_iadd hx hb dL_same_471 ?_
                                  refine lv_aload hx hb dL_same_472 (lv_at hl 6 rfl) ?_
                                  refine lv_iload hx hb dL_same_474 (lv_at hl 11 rfl) ?_
                                  refine g9_el (n := 20) S hK h (by omega) (ln9_3 hd) (by omega) dL_same_476 ?_
                                  refine cv_i (show ((mu σ2 9 (4 * ((X.2.2 d).1.length + j)) (nI 1)) (3 + d) j : Int32) = (X.2.2 d).2.1.getD j 0 from (by rw [mu_k (by omega), hO2 _ (by omega)]; exact hD.2.1 j c_448)) ?_
                                  refine p9_el (n := 64) S hV hK h (by decide) rfl (by omega) dL_same_477 (fun H locs h => ?_)
                                  refine lv_aload hx hb dL_same_478 (lv_at hl 2 rfl) ?_
                                  refine lv_iload hx hb dL_same_480 (lv_at hl 0 rfl) ?_
                                  refine lv_iconst (v := (nI 2)) hx hb dL_same_482 (by decide) ?_
                                  refine a_iadd hx hb dL_same_483 ?_
                                  refine lv_aload hx hb dL_same_484 (lv_at hl 6 rfl) ?_
                                  refine lv_iload hx hb dL_same_486 (lv_at hl 11 rfl) ?_
                                  refine g9_el (n := 20) S hK h (by omega) (ln9_3 hd) (by omega) dL_same_488 ?_
                                  refine cv_i (show ((mu (mu σ2 9 (4 * ((X.2.2 d).1.length + j)) (nI 1)) 9 (4 * ((X.2.2 d).1.length + j) + 1) ((X.2.2 d).2.1.getD j 0)) (3 + d) j : Int32) = (X.2.2 d).2.1.getD j 0 from (by rw [mu_k (by omega), mu_k (by omega), hO2 _ (by omega)]; exact hD.2.1 j c_448)) ?_
                                  refine p9_el (n := 64) S hV hK h (by decide) rfl (by omega) dL_same_489 (fun H locs h => ?_)
                                  refine lv_aload hx hb dL_same_490 (lv_at hl 2 rfl) ?_
                                  refine lv_iload hx hb dL_same_492 (lv_at hl 0 rfl) ?_
                                  refine lv_iconst (v := (nI 3)) hx hb dL_same_494 (by decide) ?_
                                  refine a_iadd hx hb dL_same_495 ?_
                                  refine lv_aload hx hb dL_same_496 (lv_at hl 6 rfl) ?_
                                  refine lv_iload hx hb dL_same_498 (lv_at hl 11 rfl) ?_
                                  refine g9_el (n := 20) S hK h (by omega) (ln9_3 hd) (by omega) dL_same_500 ?_
                                  refine cv_i (show ((mu (mu (mu σ2 9 (4 * ((X.2.2 d).1.length + j)) (nI 1)) 9 (4 * ((X.2.2 d).1.length + j) + 1) ((X.2.2 d).2.1.getD j 0)) 9 (4 * ((X.2.2 d).1.length + j) + 2) ((X.2.2 d).2.1.getD j 0)) (3 + d) j : Int32) = (X.2.2 d).2.1.getD j 0 from (by rw [mu_k (by omega), mu_k (by omega), mu_k (by omega), hO2 _ (by omega)]; exact hD.2.1 j c_448)) ?_
                                  refine p9_el (n := 64) S hV hK h (by decide) rfl (by omega) dL_same_501 (fun H locs h => ?_)
                                  have hl : lv_has ls 22 [(14, .int (nI (4 * ((X.2.2 d).1.length + j)))), (12, .int (nI ((X.2.2 d).1.length + (j + 1)))), (8, .ref (ad L 9)), (7, .ref (ad L 0)), (6, .ref (ad L (7 + d))), (5, .ref (ad L (5 + d))), (4, .ref (ad L (3 + d))), (3, .ref (ad L (1 + d))), (2, .int x), (1, .int (nI d)), (0, .ref (ad Lc 244)), (13, .int (nI j))] := by rw [show (.int (nI ((X.2.2 d).1.length + j + 1)) : Value) = .int (nI ((X.2.2 d).1.length + (j + 1))) from (by rw [Nat.add_assoc])] at hl; exact hl
                                  refine lv_iinc (v := (nI (j + 1))) (lv' := [(13, .int (nI (j + 1))), (14, .int (nI (4 * ((X.2.2 d).1.length + j)))), (12, .int (nI ((X.2.2 d).1.length + (j + 1)))), (8, .ref (ad L 9)), (7, .ref (ad L 0)), (6, .ref (ad L (7 + d))), (5, .ref (ad L (5 + d))), (4, .ref (ad L (3 + d))), (3, .ref (ad L (1 + d))), (2, .int x), (1, .int (nI d)), (0, .ref (ad Lc 244))]) hx hb dL_same_502 hl (k := 11) rfl (iinc_1 _) (by decide) rfl (fun ls hl => ?_)
                                  refine lv_goto (tgt := 442) hx hb dL_same_505 (by decide) ?_
                                  exact ih_442 (j + 1) (mu (mu (mu (mu σ2 9 (4 * ((X.2.2 d).1.length + j)) (nI 1)) 9 (4 * ((X.2.2 d).1.length + j) + 1) ((X.2.2 d).2.1.getD j 0)) 9 (4 * ((X.2.2 d).1.length + j) + 2) ((X.2.2 d).2.1.getD j 0)) 9 (4 * ((X.2.2 d).1.length + j) + 3) ((X.2.2 d).2.1.getD j 0)) (by omega) (by rw [mu_f, mu_f, mu_f, mu_f]; exact pk_push hH2 c_448 rfl) ((((hO2.tr Oa.mu).tr Oa.mu).tr Oa.mu).tr Oa.mu) (by omega) _ _ _ h (lv_sub hl [3, 4, 5, 6, 7, 8, 9, 10, 11, 0, 2] rfl)
                            exact LP_442 _ 0 σ1 (by omega) (by rw [List.take_zero, List.map_nil, List.append_nil]; exact hT1) hO1 (Nat.lt_succ_self _) _ _ _ h (lv_sub hl [2, 3, 4, 5, 6, 7, 8, 9, 10, 0, 1] rfl)
                          · refine lv_aload hx hb dL_same_404 (lv_at hl 0 rfl) ?_
                            refine lv_iload hx hb dL_same_406 (lv_at hl 9 rfl) ?_
                            refine lv_aload_n hx hb dL_same_408 rfl (lv_at hl 5 rfl) ?_
                            refine lv_iload hx hb dL_same_409 (lv_at hl 9 rfl) ?_
                            refine g9_el (n := 64) S hK h (by omega) (ln9_1 hd) (by omega) dL_same_411 ?_
                            refine cv_i (show (σ1 (1 + d) k : Int32) = σ (1 + d) k from (by rw [hO1 _ (by omega)])) ?_
                            refine p9_el (n := 64) S hV hK h (by decide) rfl (by omega) dL_same_412 (fun H locs h => ?_)
                            refine lv_iinc (v := (nI (k + 1))) (lv' := [(12, .int (nI (k + 1))), (8, .ref (ad L 9)), (7, .ref (ad L 0)), (6, .ref (ad L (7 + d))), (5, .ref (ad L (5 + d))), (4, .ref (ad L (3 + d))), (3, .ref (ad L (1 + d))), (2, .int x), (1, .int (nI d)), (0, .ref (ad Lc 244))]) hx hb dL_same_413 hl (k := 9) rfl (iinc_1 _) (by decide) rfl (fun ls hl => ?_)
                            refine lv_goto (tgt := 393) hx hb dL_same_416 (by decide) ?_
                            exact ih_393 (k + 1) (mu σ1 9 k (σ (1 + d) k)) (by omega) (cp_1 hcp9 rfl) (hO1.tr Oa.mu) (by omega) _ _ _ h (lv_sub hl [1, 2, 3, 4, 5, 6, 7, 8, 9, 0] rfl)
                      exact LP_393 _ 0 σ (by omega) (fun i hi => absurd hi (Nat.not_lt_zero _)) Oa.rf (Nat.lt_succ_self _) _ _ _ h (lv_sub hl [1, 2, 3, 4, 5, 6, 7, 8, 9, 0] rfl)
                    · have h0 : (X.2.2 d).2.2.1.length = 0 := by omega
                      refine lv_aload_n hx hb dL_same_338 rfl (lv_at hl 8 rfl) ?_
                      refine lv_iload_n hx hb dL_same_339 rfl (lv_at hl 7 rfl) ?_
                      refine lv_sipush (v := (nI 500)) hx hb dL_same_340 (by decide) ?_
                      refine k_C (v := (-1000002 : Int32)) (X' := X) (hh' := hh) S hV hK h [.int (nI d), .int (nI 500)] (t_qua0 hF hd3 h0 (by omega)) q_482 q_483 q_484 q_1 q_485 yd_X7_quantile rfl ⟨⟨rfl, rfl⟩, ⟨(Nat.le_of_ble_eq_true rfl), (Nat.le_of_ble_eq_true rfl)⟩, Nat.le_refl _, Nat.le_refl _⟩ rfl (Nat.le_of_ble_eq_true rfl) hl.1 dL_same_343 (fun H locs h => ?_)
                      refine lv_ldc (v := (-1000002 : Int32)) hx hb S.2.2.2.1 (S.2.2.2.2 _ q_499) dL_same_346 ?_
                      refine lv_icmp_ne (tgt := 388) hx hb dL_same_348 (by decide) (fun c_348 => absurd c_348 (fun z => z rfl)) (fun c_348 => ?_)
                      refine lv_aload_n hx hb dL_same_351 rfl (lv_at hl 8 rfl) ?_
                      refine lv_iload_n hx hb dL_same_352 rfl (lv_at hl 7 rfl) ?_
                      refine lv_iconst (v := (nI 0)) hx hb dL_same_353 (by decide) ?_
                      refine k_C (v := (-1000002 : Int32)) (X' := X) (hh' := hh) S hV hK h [.int (nI d), .int (nI 0)] (t_tru0 hF hd3 h0 (by omega)) q_500 q_501 q_502 q_1 q_503 yd_X7_truth rfl ⟨⟨rfl, rfl⟩, ⟨(Nat.le_of_ble_eq_true rfl), (Nat.le_of_ble_eq_true rfl)⟩, Nat.le_refl _, Nat.le_refl _⟩ rfl (Nat.le_of_ble_eq_true rfl) hl.1 dL_same_354 (fun H locs h => ?_)
                      refine lv_ldc (v := (-1000002 : Int32)) hx hb S.2.2.2.1 (S.2.2.2.2 _ q_499) dL_same_357 ?_
                      refine lv_icmp_ne (tgt := 388) hx hb dL_same_359 (by decide) (fun c_359 => absurd c_359 (fun z => z rfl)) (fun c_359 => ?_)
                      refine lv_aload_n hx hb dL_same_362 rfl (lv_at hl 8 rfl) ?_
                      refine lv_iload_n hx hb dL_same_363 rfl (lv_at hl 7 rfl) ?_
                      refine lv_iconst (v := (nI 0)) hx hb dL_same_364 (by decide) ?_
                      refine k_C (v := (-1000002 : Int32)) (X' := X) (hh' := hh) S hV hK h [.int (nI d), .int (nI 0)] (t_wor0 hF hd3 h0) q_511 q_512 q_513 q_1 q_514 yd_X7_worst rfl ⟨⟨rfl, rfl⟩, ⟨(Nat.le_of_ble_eq_true rfl), (Nat.le_of_ble_eq_true rfl)⟩, Nat.le_refl _, Nat.le_refl _⟩ rfl (Nat.le_of_ble_eq_true rfl) hl.1 dL_same_365 (fun H locs h => ?_)
                      refine lv_ldc (v := (-1000002 : Int32)) hx hb S.2.2.2.1 (S.2.2.2.2 _ q_499) dL_same_368 ?_
                      refine lv_icmp_ne (tgt := 388) hx hb dL_same_370 (by decide) (fun c_370 => absurd c_370 (fun z => z rfl)) (fun c_370 => ?_)
                      refine lv_aload_n hx hb dL_same_373 rfl (lv_at hl 8 rfl) ?_
                      refine lv_iload_n hx hb dL_same_374 rfl (lv_at hl 7 rfl) ?_
                      refine lv_iconst (v := (nI 3)) hx hb dL_same_375 (by decide) ?_
                      refine k_C (v := (mdOf X d 3)) (X' := X) (hh' := hh) S hV hK h [.int (nI d), .int (nI 3)] (t_dig hF hd3 (w := 3) (by omega)) q_446 q_447 q_448 q_1 q_449 yd_X7_digestOf rfl ⟨⟨rfl, rfl⟩, ⟨(Nat.le_of_ble_eq_true rfl), (Nat.le_of_ble_eq_true rfl)⟩, Nat.le_refl _, Nat.le_refl _⟩ rfl (Nat.le_of_ble_eq_true rfl) hl.1 dL_same_376 (fun H locs h => ?_)
                      refine cv_i (show (mdOf X d 3 : Int32) = (-1000004 : Int32) from (if_pos h0)) ?_
                      refine lv_ldc (v := (-1000004 : Int32)) hx hb S.2.2.2.1 (S.2.2.2.2 _ q_411) dL_same_379 ?_
                      refine lv_icmp_ne (tgt := 388) hx hb dL_same_381 (by decide) (fun c_381 => absurd c_381 (fun z => z rfl)) (fun c_381 => ?_)
                      refine lv_iconst (v := (nI 1)) hx hb dL_same_384 (by decide) ?_
                      refine lv_goto (tgt := 389) hx hb dL_same_385 (by decide) ?_
                      exact e_z9 S hK h hr hlk (Or.inr rfl) dL_same_389 (hp _ _ ⟨rfl, Oa.rf⟩)
                  · refine lv_iload hx hb dL_same_208 (lv_at hl 10 rfl) ?_
                    refine lv_aload hx hb dL_same_210 (lv_at hl 3 rfl) ?_
                    refine lv_iload hx hb dL_same_212 (lv_at hl 9 rfl) ?_
                    refine g9_el (n := 40) S hK h (by omega) (ln9_5 hd) (by omega) dL_same_214 ?_
                    refine cv_i (show (σ (5 + d) j : Int32) = (X.2.2 d).2.2.1.getD j 0 from (hD.2.2.1 j c_205)) ?_
                    refine lv_iadd hx hb dL_same_215 ?_
                    refine cv_i (show ((isum (X.2.2 d).2.2.1 j) + ((X.2.2 d).2.2.1.getD j 0) : Int32) = isum (X.2.2 d).2.2.1 (j + 1) from rfl) ?_
                    refine lv_istore (lv' := [(11, .int (isum (X.2.2 d).2.2.1 (j + 1))), (8, .ref (ad L 9)), (7, .ref (ad L 0)), (6, .ref (ad L (7 + d))), (5, .ref (ad L (5 + d))), (4, .ref (ad L (3 + d))), (3, .ref (ad L (1 + d))), (2, .int x), (1, .int (nI d)), (0, .ref (ad Lc 244)), (12, .int (nI j)), (10, .int (gwS (X.2.2 d).1 (X.2.2 d).1.length))]) hx hb dL_same_216 hl (by decide) rfl (fun ls hl => ?_)
                    refine lv_iinc (v := (nI (j + 1))) (lv' := [(12, .int (nI (j + 1))), (11, .int (isum (X.2.2 d).2.2.1 (j + 1))), (8, .ref (ad L 9)), (7, .ref (ad L 0)), (6, .ref (ad L (7 + d))), (5, .ref (ad L (5 + d))), (4, .ref (ad L (3 + d))), (3, .ref (ad L (1 + d))), (2, .int x), (1, .int (nI d)), (0, .ref (ad Lc 244)), (10, .int (gwS (X.2.2 d).1 (X.2.2 d).1.length))]) hx hb dL_same_218 hl (k := 10) rfl (iinc_1 _) (by decide) rfl (fun ls hl => ?_)
                    refine lv_goto (tgt := 199) hx hb dL_same_221 (by decide) ?_
                    exact ih_199 (j + 1) (by omega) (by omega) _ _ _ h (lv_sub hl [2, 3, 4, 5, 6, 7, 8, 9, 10, 0, 1, 11] rfl)
              exact LP_199 _ 0 (by omega) (Nat.lt_succ_self _) _ _ _ h (lv_sub hl [1, 2, 3, 4, 5, 6, 7, 8, 9, 0, 10, 11] rfl)
            · refine lv_aload_n hx hb dL_same_173 rfl (lv_at hl 8 rfl) ?_
              refine lv_iload_n hx hb dL_same_174 rfl (lv_at hl 7 rfl) ?_
              refine lv_iload hx hb dL_same_175 (lv_at hl 9 rfl) ?_
              refine k_C (v := ((X.2.2 d).2.1.getD j 0)) (X' := X) (hh' := hh) S hV hK h [.int (nI d), .int (nI j)] (t_buf hF hd3 c_170) q_442 q_443 q_444 q_1 q_445 yd_X7_bufferOf rfl ⟨⟨rfl, rfl⟩, ⟨(Nat.le_of_ble_eq_true rfl), (Nat.le_of_ble_eq_true rfl)⟩, Nat.le_refl _, Nat.le_refl _⟩ rfl (Nat.le_of_ble_eq_true rfl) hl.1 dL_same_177 (fun H locs h => ?_)
              refine lv_aload hx hb dL_same_180 (lv_at hl 4 rfl) ?_
              refine lv_iload hx hb dL_same_182 (lv_at hl 9 rfl) ?_
              refine g9_el (n := 20) S hK h (by omega) (ln9_3 hd) (by omega) dL_same_184 ?_
              refine cv_i (show (σ (3 + d) j : Int32) = (X.2.2 d).2.1.getD j 0 from (hD.2.1 j c_170)) ?_
              refine lv_icmp_eq (tgt := 190) hx hb dL_same_185 (by decide) (fun c_185 => ?_) (fun c_185 => absurd c_185 (fun z => z rfl))
              refine lv_iinc (v := (nI (j + 1))) (lv' := [(12, .int (nI (j + 1))), (8, .ref (ad L 9)), (7, .ref (ad L 0)), (6, .ref (ad L (7 + d))), (5, .ref (ad L (5 + d))), (4, .ref (ad L (3 + d))), (3, .ref (ad L (1 + d))), (2, .int x), (1, .int (nI d)), (0, .ref (ad Lc 244)), (11, .int (isum (X.2.2 d).2.2.1 0)), (10, .int (gwS (X.2.2 d).1 (X.2.2 d).1.length))]) hx hb dL_same_190 hl (k := 9) rfl (iinc_1 _) (by decide) rfl (fun ls hl => ?_)
              refine lv_goto (tgt := 164) hx hb dL_same_193 (by decide) ?_
              exact ih_164 (j + 1) (by omega) (by omega) _ _ _ h (lv_sub hl [1, 2, 3, 4, 5, 6, 7, 8, 9, 0, 10, 11] rfl)
        exact LP_164 _ 0 (by omega) (Nat.lt_succ_self _) _ _ _ h (lv_sub hl [1, 2, 3, 4, 5, 6, 7, 8, 9, 0, 10, 11] rfl)
      · have hx9 := (hF.1.1 d hd3).2.1 _ (mem_getD (d := hd0) c_19)
        obtain ⟨w1, w2, w3⟩ := wN_GH hx9
        obtain ⟨s1, s2⟩ := sN_GH hx9
        refine lv_iconst (v := (nI 4)) hx hb dL_same_22 (by decide) ?_
        refine lv_iload hx hb dL_same_23 (lv_at hl 9 rfl) ?_
        refine a_imul hx hb dL_same_25 ?_
        refine lv_istore (lv' := [(13, .int (nI (4 * k))), (8, .ref (ad L 9)), (7, .ref (ad L 0)), (6, .ref (ad L (7 + d))), (5, .ref (ad L (5 + d))), (4, .ref (ad L (3 + d))), (3, .ref (ad L (1 + d))), (2, .int x), (1, .int (nI d)), (0, .ref (ad Lc 244)), (12, .int (nI k)), (11, .int (isum (X.2.2 d).2.2.1 0)), (10, .int (gwS (X.2.2 d).1 k)), (9, .int (isum ((X.2.2 d).1.map h_w) k))]) hx hb dL_same_26 hl (by decide) rfl (fun ls hl => ?_)
        refine lv_iconst (v := (nI 0)) hx hb dL_same_28 (by decide) ?_
        refine lv_istore (lv' := [(14, .int (nI 0)), (13, .int (nI (4 * k))), (8, .ref (ad L 9)), (7, .ref (ad L 0)), (6, .ref (ad L (7 + d))), (5, .ref (ad L (5 + d))), (4, .ref (ad L (3 + d))), (3, .ref (ad L (1 + d))), (2, .int x), (1, .int (nI d)), (0, .ref (ad Lc 244)), (12, .int (nI k)), (11, .int (isum (X.2.2 d).2.2.1 0)), (10, .int (gwS (X.2.2 d).1 k)), (9, .int (isum ((X.2.2 d).1.map h_w) k))]) hx hb dL_same_29 hl (by decide) rfl (fun ls hl => ?_)
        have LP_31 : ∀ (n_31 : Nat) (m9 : Nat), (m9 ≤ 4) → 4 - m9 < n_31 → ∀ (H : Heap) (locs : List Loc) (ls : Array Slot), Hd9 Lc L X hh s.heap H σ locs → lv_has ls 22 [(8, .ref (ad L 9)), (7, .ref (ad L 0)), (6, .ref (ad L (7 + d))), (5, .ref (ad L (5 + d))), (4, .ref (ad L (3 + d))), (3, .ref (ad L (1 + d))), (2, .int x), (1, .int (nI d)), (0, .ref (ad Lc 244)), (14, .int (nI m9)), (13, .int (nI (4 * k))), (12, .int (nI k)), (11, .int (isum (X.2.2 d).2.2.1 0)), (10, .int (gwS (X.2.2 d).1 k)), (9, .int (isum ((X.2.2 d).1.map h_w) k))] → W p l e rL_same s m args below meth c H locs 0 0 (MQ below (Qg post (bs9 Lc L X hh) (A9 Lc L)) args s 0 0 (A9 Lc L)) (F0 m 31 ls []) := by
          intro n_31
          induction n_31 with
          | zero => intro m9; intros; omega
          | succ n_31 ih_31 =>
            intro m9 hm hm_31 H locs ls h hl
            refine lv_iload hx hb dL_same_31 (lv_at hl 9 rfl) ?_
            refine lv_iconst (v := (nI 4)) hx hb dL_same_33 (by decide) ?_
            refine b_icmp_ge (tgt := 64) hx hb dL_same_34 (by decide) (by omega) (by omega) (fun c_34 => ?_) (fun c_34 => ?_)
            · refine lv_aload_n hx hb dL_same_64 rfl (lv_at hl 8 rfl) ?_
              refine lv_iload_n hx hb dL_same_65 rfl (lv_at hl 7 rfl) ?_
              refine lv_iload hx hb dL_same_66 (lv_at hl 11 rfl) ?_
              refine lv_iconst (v := (nI 4)) hx hb dL_same_68 (by decide) ?_
              refine k_C (v := (hoV (X.2.2 d).1 k 4)) (X' := X) (hh' := hh) S hV hK h [.int (nI d), .int (nI k), .int (nI 4)] (t_heap hF hd3 (m := 4) c_19 (by omega)) q_412 q_413 q_414 q_1 q_415 yd_X7_heapOf rfl ⟨⟨rfl, rfl⟩, ⟨(Nat.le_of_ble_eq_true rfl), (Nat.le_of_ble_eq_true rfl)⟩, Nat.le_refl _, Nat.le_refl _⟩ rfl (Nat.le_of_ble_eq_true rfl) hl.1 dL_same_69 (fun H locs h => ?_)
              refine cv_i (show (hoV (X.2.2 d).1 k 4 : Int32) = nI (sN ((X.2.2 d).1.getD k hd0) / wN ((X.2.2 d).1.getD k hd0)) from (hoV_d hx9).symm) ?_
              refine lv_aload_n hx hb dL_same_72 rfl (lv_at hl 5 rfl) ?_
              refine lv_iload hx hb dL_same_73 (lv_at hl 10 rfl) ?_
              refine lv_iconst (v := (nI 1)) hx hb dL_same_75 (by decide) ?_
              refine a_iadd hx hb dL_same_76 ?_
              refine g9_el (n := 64) S hK h (by omega) (ln9_1 hd) (by omega) dL_same_77 ?_
              refine cv_i (show (σ (1 + d) (4 * k + 1) : Int32) = nI (sN ((X.2.2 d).1.getD k hd0)) from ((hD.1.s c_19).trans s1)) ?_
              refine lv_aload_n hx hb dL_same_78 rfl (lv_at hl 5 rfl) ?_
              refine lv_iload hx hb dL_same_79 (lv_at hl 10 rfl) ?_
              refine g9_el (n := 64) S hK h (by omega) (ln9_1 hd) (by omega) dL_same_81 ?_
              refine cv_i (show (σ (1 + d) (4 * k) : Int32) = nI (wN ((X.2.2 d).1.getD k hd0)) from ((hD.1.w c_19).trans w1)) ?_
              refine a_idiv hx hb dL_same_82 (by omega) (by omega) (by omega) ?_
              refine lv_icmp_ne (tgt := 124) hx hb dL_same_83 (by decide) (fun c_83 => absurd c_83 (fun z => z rfl)) (fun c_83 => ?_)
              refine lv_aload_n hx hb dL_same_86 rfl (lv_at hl 8 rfl) ?_
              refine lv_iload_n hx hb dL_same_87 rfl (lv_at hl 7 rfl) ?_
              refine lv_iload hx hb dL_same_88 (lv_at hl 11 rfl) ?_
              refine lv_iconst (v := (nI 5)) hx hb dL_same_90 (by decide) ?_
              refine k_C (v := (hoV (X.2.2 d).1 k 5)) (X' := X) (hh' := hh) S hV hK h [.int (nI d), .int (nI k), .int (nI 5)] (t_heap hF hd3 (m := 5) c_19 (by omega)) q_412 q_413 q_414 q_1 q_415 yd_X7_heapOf rfl ⟨⟨rfl, rfl⟩, ⟨(Nat.le_of_ble_eq_true rfl), (Nat.le_of_ble_eq_true rfl)⟩, Nat.le_refl _, Nat.le_refl _⟩ rfl (Nat.le_of_ble_eq_true rfl) hl.1 dL_same_91 (fun H locs h => ?_)
              refine cv_i (show (hoV (X.2.2 d).1 k 5 : Int32) = isum ((X.2.2 d).1.map h_w) k from rfl) ?_
              refine lv_iload hx hb dL_same_94 (lv_at hl 14 rfl) ?_
              refine lv_icmp_ne (tgt := 124) hx hb dL_same_96 (by decide) (fun c_96 => absurd c_96 (fun z => z rfl)) (fun c_96 => ?_)
              refine lv_aload_n hx hb dL_same_99 rfl (lv_at hl 8 rfl) ?_
              refine lv_iload_n hx hb dL_same_100 rfl (lv_at hl 7 rfl) ?_
              refine lv_iload hx hb dL_same_101 (lv_at hl 11 rfl) ?_
              refine lv_bipush (v := (nI 6)) hx hb dL_same_103 (by decide) ?_
              refine k_C (v := (hoV (X.2.2 d).1 k 6)) (X' := X) (hh' := hh) S hV hK h [.int (nI d), .int (nI k), .int (nI 6)] (t_heap hF hd3 (m := 6) c_19 (by omega)) q_412 q_413 q_414 q_1 q_415 yd_X7_heapOf rfl ⟨⟨rfl, rfl⟩, ⟨(Nat.le_of_ble_eq_true rfl), (Nat.le_of_ble_eq_true rfl)⟩, Nat.le_refl _, Nat.le_refl _⟩ rfl (Nat.le_of_ble_eq_true rfl) hl.1 dL_same_105 (fun H locs h => ?_)
              refine cv_i (show (hoV (X.2.2 d).1 k 6 : Int32) = flI (sN ((X.2.2 d).1.getD k hd0)) (wN ((X.2.2 d).1.getD k hd0)) from rfl) ?_
              refine lv_aload_n hx hb dL_same_108 rfl (lv_at hl 5 rfl) ?_
              refine lv_iload hx hb dL_same_109 (lv_at hl 10 rfl) ?_
              refine lv_iconst (v := (nI 1)) hx hb dL_same_111 (by decide) ?_
              refine a_iadd hx hb dL_same_112 ?_
              refine g9_el (n := 64) S hK h (by omega) (ln9_1 hd) (by omega) dL_same_113 ?_
              refine cv_i (show (σ (1 + d) (4 * k + 1) : Int32) = nI (sN ((X.2.2 d).1.getD k hd0)) from ((hD.1.s c_19).trans s1)) ?_
              refine lv_aload_n hx hb dL_same_114 rfl (lv_at hl 5 rfl) ?_
              refine lv_iload hx hb dL_same_115 (lv_at hl 10 rfl) ?_
              refine g9_el (n := 64) S hK h (by omega) (ln9_1 hd) (by omega) dL_same_117 ?_
              refine cv_i (show (σ (1 + d) (4 * k) : Int32) = nI (wN ((X.2.2 d).1.getD k hd0)) from ((hD.1.w c_19).trans w1)) ?_
              refine k_S1 S hV hK h [.int (flI (sN ((X.2.2 d).1.getD k hd0)) (wN ((X.2.2 d).1.getD k hd0))), .int (nI (sN ((X.2.2 d).1.getD k hd0))), .int (nI (wN ((X.2.2 d).1.getD k hd0)))] (c_L_isFloat l Lc L X hh σ (s9 := sN ((X.2.2 d).1.getD k hd0)) (w9 := wN ((X.2.2 d).1.getD k hd0)) s2 w2 w3) q_435 q_436 q_0 q_437 yd_L_isFloat rfl ⟨⟨rfl, rfl⟩, ⟨(Nat.le_of_ble_eq_true rfl), (Nat.le_of_ble_eq_true rfl)⟩, Nat.le_refl _, Nat.le_refl _⟩ rfl (Nat.le_of_ble_eq_true rfl) hl.1 dL_same_118 (fun H locs h => ?_)
              refine b_if_ne (tgt := 126) hx hb dL_same_121 (by decide) (by decide) (fun _ => ?_) (fun c9 => absurd c9 (by decide))
              refine lv_iload hx hb dL_same_126 (lv_at hl 14 rfl) ?_
              refine lv_aload_n hx hb dL_same_128 rfl (lv_at hl 5 rfl) ?_
              refine lv_iload hx hb dL_same_129 (lv_at hl 10 rfl) ?_
              refine g9_el (n := 64) S hK h (by omega) (ln9_1 hd) (by omega) dL_same_131 ?_
              refine cv_i (show (σ (1 + d) (4 * k) : Int32) = h_w ((X.2.2 d).1.getD k hd0) from (hD.1.w c_19)) ?_
              refine lv_iadd hx hb dL_same_132 ?_
              refine cv_i (show ((isum ((X.2.2 d).1.map h_w) k) + (h_w ((X.2.2 d).1.getD k hd0)) : Int32) = isum ((X.2.2 d).1.map h_w) (k + 1) from isum_1) ?_
              refine lv_istore (lv' := [(9, .int (isum ((X.2.2 d).1.map h_w) (k + 1))), (8, .ref (ad L 9)), (7, .ref (ad L 0)), (6, .ref (ad L (7 + d))), (5, .ref (ad L (5 + d))), (4, .ref (ad L (3 + d))), (3, .ref (ad L (1 + d))), (2, .int x), (1, .int (nI d)), (0, .ref (ad Lc 244)), (14, .int (nI m9)), (13, .int (nI (4 * k))), (12, .int (nI k)), (11, .int (isum (X.2.2 d).2.2.1 0)), (10, .int (gwS (X.2.2 d).1 k))]) hx hb dL_same_133 hl (by decide) rfl (fun ls hl => ?_)
              refine lv_aload_n hx hb dL_same_135 rfl (lv_at hl 6 rfl) ?_
              refine lv_iload hx hb dL_same_136 (lv_at hl 11 rfl) ?_
              refine g9_el (n := 64) S hK h (by omega) (ln9_1 hd) (by omega) dL_same_138 ?_
              refine cv_i (show (σ (1 + d) (4 * k) : Int32) = h_w ((X.2.2 d).1.getD k hd0) from (hD.1.w c_19)) ?_
              refine lv_iload hx hb dL_same_139 (lv_at hl 14 rfl) ?_
              refine lv_icmp_le (tgt := 151) hx hb dL_same_141 (by decide) (fun c_141 => ?_) (fun c_141 => ?_)
              · refine lv_iload hx hb dL_same_151 (lv_at hl 14 rfl) ?_
                refine cv_i (show (gwS (X.2.2 d).1 k : Int32) = gwS (X.2.2 d).1 (k + 1) from (by rw [gwS]; first | exact (if_neg (Int32.not_lt.mpr c_141)).symm | exact (if_pos (Int32.not_le.mp c_141)).symm)) ?_
                refine lv_istore (lv' := [(10, .int (gwS (X.2.2 d).1 (k + 1))), (9, .int (isum ((X.2.2 d).1.map h_w) (k + 1))), (8, .ref (ad L 9)), (7, .ref (ad L 0)), (6, .ref (ad L (7 + d))), (5, .ref (ad L (5 + d))), (4, .ref (ad L (3 + d))), (3, .ref (ad L (1 + d))), (2, .int x), (1, .int (nI d)), (0, .ref (ad Lc 244)), (14, .int (nI m9)), (13, .int (nI (4 * k))), (12, .int (nI k)), (11, .int (isum (X.2.2 d).2.2.1 0))]) hx hb dL_same_153 hl (by decide) rfl (fun ls hl => ?_)
                refine lv_iinc (v := (nI (k + 1))) (lv' := [(12, .int (nI (k + 1))), (10, .int (gwS (X.2.2 d).1 (k + 1))), (9, .int (isum ((X.2.2 d).1.map h_w) (k + 1))), (8, .ref (ad L 9)), (7, .ref (ad L 0)), (6, .ref (ad L (7 + d))), (5, .ref (ad L (5 + d))), (4, .ref (ad L (3 + d))), (3, .ref (ad L (1 + d))), (2, .int x), (1, .int (nI d)), (0, .ref (ad Lc 244)), (14, .int (nI m9)), (13, .int (nI (4 * k))), (11, .int (isum (X.2.2 d).2.2.1 0))]) hx hb dL_same_155 hl (k := 13) rfl (iinc_1 _) (by decide) rfl (fun ls hl => ?_)
                refine lv_goto (tgt := 13) hx hb dL_same_158 (by decide) ?_
                exact ih_13 (k + 1) (by omega) (by omega) _ _ _ h (lv_sub hl [3, 4, 5, 6, 7, 8, 9, 10, 11, 0, 14, 1, 2] rfl)
              · refine lv_aload_n hx hb dL_same_144 rfl (lv_at hl 6 rfl) ?_
                refine lv_iload hx hb dL_same_145 (lv_at hl 11 rfl) ?_
                refine g9_el (n := 64) S hK h (by omega) (ln9_1 hd) (by omega) dL_same_147 ?_
                refine cv_i (show (σ (1 + d) (4 * k) : Int32) = h_w ((X.2.2 d).1.getD k hd0) from (hD.1.w c_19)) ?_
                refine lv_goto (tgt := 153) hx hb dL_same_148 (by decide) ?_
                refine cv_i (show (h_w ((X.2.2 d).1.getD k hd0) : Int32) = gwS (X.2.2 d).1 (k + 1) from (by rw [gwS]; first | exact (if_neg (Int32.not_lt.mpr c_141)).symm | exact (if_pos (Int32.not_le.mp c_141)).symm)) ?_
                refine lv_istore (lv' := [(10, .int (gwS (X.2.2 d).1 (k + 1))), (9, .int (isum ((X.2.2 d).1.map h_w) (k + 1))), (8, .ref (ad L 9)), (7, .ref (ad L 0)), (6, .ref (ad L (7 + d))), (5, .ref (ad L (5 + d))), (4, .ref (ad L (3 + d))), (3, .ref (ad L (1 + d))), (2, .int x), (1, .int (nI d)), (0, .ref (ad Lc 244)), (14, .int (nI m9)), (13, .int (nI (4 * k))), (12, .int (nI k)), (11, .int (isum (X.2.2 d).2.2.1 0))]) hx hb dL_same_153 hl (by decide) rfl (fun ls hl => ?_)
                refine lv_iinc (v := (nI (k + 1))) (lv' := [(12, .int (nI (k + 1))), (10, .int (gwS (X.2.2 d).1 (k + 1))), (9, .int (isum ((X.2.2 d).1.map h_w) (k + 1))), (8, .ref (ad L 9)), (7, .ref (ad L 0)), (6, .ref (ad L (7 + d))), (5, .ref (ad L (5 + d))), (4, .ref (ad L (3 + d))), (3, .ref (ad L (1 + d))), (2, .int x), (1, .int (nI d)), (0, .ref (ad Lc 244)), (14, .int (nI m9)), (13, .int (nI (4 * k))), (11, .int (isum (X.2.2 d).2.2.1 0))]) hx hb dL_same_155 hl (k := 13) rfl (iinc_1 _) (by decide) rfl (fun ls hl => ?_)
                refine lv_goto (tgt := 13) hx hb dL_same_158 (by decide) ?_
                exact ih_13 (k + 1) (by omega) (by omega) _ _ _ h (lv_sub hl [3, 4, 5, 6, 7, 8, 9, 10, 11, 0, 14, 1, 2] rfl)
            · refine lv_aload_n hx hb dL_same_37 rfl (lv_at hl 8 rfl) ?_
              refine lv_iload_n hx hb dL_same_38 rfl (lv_at hl 7 rfl) ?_
              refine lv_iload hx hb dL_same_39 (lv_at hl 11 rfl) ?_
              refine lv_iload hx hb dL_same_41 (lv_at hl 9 rfl) ?_
              refine k_C (v := (hoV (X.2.2 d).1 k m9)) (X' := X) (hh' := hh) S hV hK h [.int (nI d), .int (nI k), .int (nI m9)] (t_heap hF hd3 c_19 (by omega)) q_412 q_413 q_414 q_1 q_415 yd_X7_heapOf rfl ⟨⟨rfl, rfl⟩, ⟨(Nat.le_of_ble_eq_true rfl), (Nat.le_of_ble_eq_true rfl)⟩, Nat.le_refl _, Nat.le_refl _⟩ rfl (Nat.le_of_ble_eq_true rfl) hl.1 dL_same_43 (fun H locs h => ?_)
              refine lv_aload_n hx hb dL_same_46 rfl (lv_at hl 5 rfl) ?_
              refine lv_iload hx hb dL_same_47 (lv_at hl 10 rfl) ?_
              refine lv_iload hx hb dL_same_49 (lv_at hl 9 rfl) ?_
              refine a_iadd hx hb dL_same_51 ?_
              refine g9_el (n := 64) S hK h (by omega) (ln9_1 hd) (by omega) dL_same_52 ?_
              refine cv_i (show (σ (1 + d) (4 * k + m9) : Int32) = hoV (X.2.2 d).1 k m9 from (hD.1.m c_19 c_34)) ?_
              refine lv_icmp_eq (tgt := 58) hx hb dL_same_53 (by decide) (fun c_53 => ?_) (fun c_53 => absurd c_53 (fun z => z rfl))
              refine lv_iinc (v := (nI (m9 + 1))) (lv' := [(14, .int (nI (m9 + 1))), (8, .ref (ad L 9)), (7, .ref (ad L 0)), (6, .ref (ad L (7 + d))), (5, .ref (ad L (5 + d))), (4, .ref (ad L (3 + d))), (3, .ref (ad L (1 + d))), (2, .int x), (1, .int (nI d)), (0, .ref (ad Lc 244)), (13, .int (nI (4 * k))), (12, .int (nI k)), (11, .int (isum (X.2.2 d).2.2.1 0)), (10, .int (gwS (X.2.2 d).1 k)), (9, .int (isum ((X.2.2 d).1.map h_w) k))]) hx hb dL_same_58 hl (k := 9) rfl (iinc_1 _) (by decide) rfl (fun ls hl => ?_)
              refine lv_goto (tgt := 31) hx hb dL_same_61 (by decide) ?_
              exact ih_31 (m9 + 1) (by omega) (by omega) _ _ _ h (lv_sub hl [1, 2, 3, 4, 5, 6, 7, 8, 9, 0, 10, 11, 12, 13, 14] rfl)
        exact LP_31 _ 0 (by omega) (Nat.lt_succ_self _) _ _ _ h (lv_sub hl [2, 3, 4, 5, 6, 7, 8, 9, 10, 0, 1, 11, 12, 13, 14] rfl)
  exact LP_13 _ 0 (by omega) (Nat.lt_succ_self _) _ _ _ h (lv_sub hl [12, 11, 10, 9, 8, 7, 6, 5, 4, 0, 1, 2, 3] rfl)
