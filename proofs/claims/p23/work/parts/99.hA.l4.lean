abbrev rL_ordered : Room := { frames := 0, cells := 0, slots := 0, locals := 0 }
theorem yd_L_ordered : ydV yL_ordered RL 3 := ⟨rfl, by decide +kernel, by decide +kernel, by decide +kernel⟩
set_option maxHeartbeats 4000000 in
set_option maxRecDepth 100000 in
theorem c_L_ordered (l : Launch) (Lc L : Lay) (X : SS) (hh : List SS) (σ : Me) {a : Nat} (ha : a < 10) (h40 : ln9 a = 40) {V : List Int32} (hR : RA (σ a) V) (hV40 : V.length ≤ 40) {k : Nat} (hk9 : k < V.length) : Mf9 l Lc L X hh yL_ordered (Cond.code yL_ordered cL_ordered 7 (some FieldType.int) :: qA) rL_ordered [.int (nI k), .ref (ad L a), .int (nI V.length)] σ (some (.int ((srt V).getD k 0))) σ := by
  refine Mf9.ofW (by decide) (Nat.le_of_ble_eq_true rfl) ?_
  intro p e s m args below meth c ls post hp hV S hr hlk hK h hl
  have hx := S.1
  have hb := S.2.1
  have hl : lv_has ls 7 [(0, .int (nI k)), (1, .ref (ad L a)), (2, .int (nI V.length))] := hl
  refine lv_iconst (v := (nI 0)) hx hb dL_ordered_0 (by decide) ?_
  refine lv_istore_n (lv' := [(3, .int (nI 0)), (0, .int (nI k)), (1, .ref (ad L a)), (2, .int (nI V.length))]) hx hb dL_ordered_1 rfl hl (by decide) rfl (fun ls hl => ?_)
  have LP_2 : ∀ (n_2 : Nat) (i : Nat), (i ≤ V.length) → (∀ j, j < i → ¬ (cl V (V.getD j 0) ≤ k ∧ k < cl V (V.getD j 0) + ce V (V.getD j 0))) → V.length - i < n_2 → ∀ (H : Heap) (locs : List Loc) (ls : Array Slot), Hd9 Lc L X hh s.heap H σ locs → lv_has ls 7 [(0, .int (nI k)), (1, .ref (ad L a)), (2, .int (nI V.length)), (3, .int (nI i))] → W p l e rL_ordered s m args below meth c H locs 0 0 (MQ below (Qg post (bs9 Lc L X hh) (A9 Lc L)) args s 0 0 (A9 Lc L)) (F0 m 2 ls []) := by
    intro n_2
    induction n_2 with
    | zero => intro i; intros; omega
    | succ n_2 ih_2 =>
      intro i hi hno hm_2 H locs ls h hl
      refine lv_iload_n hx hb dL_ordered_2 rfl (lv_at hl 3 rfl) ?_
      refine lv_iload_n hx hb dL_ordered_3 rfl (lv_at hl 2 rfl) ?_
      refine b_icmp_ge (tgt := 93) hx hb dL_ordered_4 (by decide) (by omega) (by omega) (fun c_4 => absurd c_4 (fun z => or_no hk9 (fun j hj => hno j (Nat.lt_of_lt_of_le hj z)))) (fun c_4 => ?_)
      refine lv_iconst (v := (nI 0)) hx hb dL_ordered_7 (by decide) ?_
      refine lv_istore (lv' := [(4, .int (nI 0)), (0, .int (nI k)), (1, .ref (ad L a)), (2, .int (nI V.length)), (3, .int (nI i))]) hx hb dL_ordered_8 hl (by decide) rfl (fun ls hl => ?_)
      refine lv_iconst (v := (nI 0)) hx hb dL_ordered_10 (by decide) ?_
      refine lv_istore (lv' := [(5, .int (nI 0)), (4, .int (nI 0)), (0, .int (nI k)), (1, .ref (ad L a)), (2, .int (nI V.length)), (3, .int (nI i))]) hx hb dL_ordered_11 hl (by decide) rfl (fun ls hl => ?_)
      refine lv_iconst (v := (nI 0)) hx hb dL_ordered_13 (by decide) ?_
      refine lv_istore (lv' := [(6, .int (nI 0)), (5, .int (nI 0)), (4, .int (nI 0)), (0, .int (nI k)), (1, .ref (ad L a)), (2, .int (nI V.length)), (3, .int (nI i))]) hx hb dL_ordered_14 hl (by decide) rfl (fun ls hl => ?_)
      have LP_16 : ∀ (n_16 : Nat) (j : Nat), (j ≤ V.length) → V.length - j < n_16 → ∀ (H : Heap) (locs : List Loc) (ls : Array Slot), Hd9 Lc L X hh s.heap H σ locs → lv_has ls 7 [(0, .int (nI k)), (1, .ref (ad L a)), (2, .int (nI V.length)), (3, .int (nI i)), (4, .int (nI (clt V (V.getD i 0) j))), (5, .int (nI (ceq V (V.getD i 0) j))), (6, .int (nI j))] → W p l e rL_ordered s m args below meth c H locs 0 0 (MQ below (Qg post (bs9 Lc L X hh) (A9 Lc L)) args s 0 0 (A9 Lc L)) (F0 m 16 ls []) := by
        intro n_16
        induction n_16 with
        | zero => intro j; intros; omega
        | succ n_16 ih_16 =>
          intro j hj hm_16 H locs ls h hl
          refine lv_iload hx hb dL_ordered_16 (lv_at hl 6 rfl) ?_
          refine lv_iload_n hx hb dL_ordered_18 rfl (lv_at hl 2 rfl) ?_
          refine b_icmp_ge (tgt := 68) hx hb dL_ordered_19 (by decide) (by omega) (by omega) (fun c_19 => ?_) (fun c_19 => ?_)
          · have e4 : j = V.length := by omega
            have b1 : cl V (V.getD i 0) ≤ V.length := List.countP_le_length
            have b2 : ce V (V.getD i 0) ≤ V.length := List.countP_le_length
            have hl : lv_has ls 7 [(0, .int (nI k)), (1, .ref (ad L a)), (2, .int (nI V.length)), (3, .int (nI i)), (4, .int (nI (cl V (V.getD i 0)))), (5, .int (nI (ceq V (V.getD i 0) j))), (6, .int (nI j))] := by rw [show (.int (nI (clt V (V.getD i 0) j)) : Value) = .int (nI (cl V (V.getD i 0))) from (by rw [e4, clt_len])] at hl; exact hl
            have hl : lv_has ls 7 [(0, .int (nI k)), (1, .ref (ad L a)), (2, .int (nI V.length)), (3, .int (nI i)), (4, .int (nI (cl V (V.getD i 0)))), (5, .int (nI (ce V (V.getD i 0)))), (6, .int (nI j))] := by rw [show (.int (nI (ceq V (V.getD i 0) j)) : Value) = .int (nI (ce V (V.getD i 0))) from (by rw [e4, ceq_len])] at hl; exact hl
            refine lv_iload hx hb dL_ordered_68 (lv_at hl 4 rfl) ?_
            refine lv_iload_n hx hb dL_ordered_70 rfl (lv_at hl 0 rfl) ?_
            refine b_icmp_gt (tgt := 87) hx hb dL_ordered_71 (by decide) (by omega) (by omega) (fun c_71 => ?_) (fun c_71 => ?_)
            · refine lv_iinc (v := (nI (i + 1))) (lv' := [(3, .int (nI (i + 1))), (0, .int (nI k)), (1, .ref (ad L a)), (2, .int (nI V.length)), (4, .int (nI (cl V (V.getD i 0)))), (5, .int (nI (ce V (V.getD i 0)))), (6, .int (nI j))]) hx hb dL_ordered_87 hl (k := 3) rfl (iinc_1 _) (by decide) rfl (fun ls hl => ?_)
              refine lv_goto (tgt := 2) hx hb dL_ordered_90 (by decide) ?_
              exact ih_2 (i + 1) (by omega) (fun j hj => by rcases Nat.lt_or_ge j i with q | q; exact hno j q; rw [show j = i by omega]; omega) (by omega) _ _ _ h (lv_sub hl [1, 2, 3, 0] rfl)
            · refine lv_iload_n hx hb dL_ordered_74 rfl (lv_at hl 0 rfl) ?_
              refine lv_iload hx hb dL_ordered_75 (lv_at hl 4 rfl) ?_
              refine lv_iload hx hb dL_ordered_77 (lv_at hl 5 rfl) ?_
              refine a_iadd hx hb dL_ordered_79 ?_
              refine b_icmp_ge (tgt := 87) hx hb dL_ordered_80 (by decide) (by omega) (by omega) (fun c_80 => ?_) (fun c_80 => ?_)
              · refine lv_iinc (v := (nI (i + 1))) (lv' := [(3, .int (nI (i + 1))), (0, .int (nI k)), (1, .ref (ad L a)), (2, .int (nI V.length)), (4, .int (nI (cl V (V.getD i 0)))), (5, .int (nI (ce V (V.getD i 0)))), (6, .int (nI j))]) hx hb dL_ordered_87 hl (k := 3) rfl (iinc_1 _) (by decide) rfl (fun ls hl => ?_)
                refine lv_goto (tgt := 2) hx hb dL_ordered_90 (by decide) ?_
                exact ih_2 (i + 1) (by omega) (fun j hj => by rcases Nat.lt_or_ge j i with q | q; exact hno j q; rw [show j = i by omega]; omega) (by omega) _ _ _ h (lv_sub hl [1, 2, 3, 0] rfl)
              · refine lv_aload_n hx hb dL_ordered_83 rfl (lv_at hl 1 rfl) ?_
                refine lv_iload_n hx hb dL_ordered_84 rfl (lv_at hl 3 rfl) ?_
                refine g9_el (n := 40) S hK h ha h40 (by omega) dL_ordered_85 ?_
                refine cv_i (show (σ a i : Int32) = (srt V).getD k 0 from (by rw [hR i (by omega)]; exact or_eq hk9 c_71 c_80)) ?_
                exact e_i9 S hK h hr hlk dL_ordered_86 hp
          · refine lv_iload hx hb dL_ordered_22 (lv_at hl 4 rfl) ?_
            refine lv_aload_n hx hb dL_ordered_24 rfl (lv_at hl 1 rfl) ?_
            refine lv_iload hx hb dL_ordered_25 (lv_at hl 6 rfl) ?_
            refine g9_el (n := 40) S hK h ha h40 (by omega) dL_ordered_27 ?_
            refine cv_i (show (σ a j : Int32) = V.getD j 0 from (hR j (by omega))) ?_
            refine lv_aload_n hx hb dL_ordered_28 rfl (lv_at hl 1 rfl) ?_
            refine lv_iload_n hx hb dL_ordered_29 rfl (lv_at hl 3 rfl) ?_
            refine g9_el (n := 40) S hK h ha h40 (by omega) dL_ordered_30 ?_
            refine cv_i (show (σ a i : Int32) = V.getD i 0 from (hR i (by omega))) ?_
            refine lv_icmp_ge (tgt := 38) hx hb dL_ordered_31 (by decide) (fun c_31 => ?_) (fun c_31 => ?_)
            · refine lv_iconst (v := (nI 0)) hx hb dL_ordered_38 (by decide) ?_
              refine a_iadd hx hb dL_ordered_39 ?_
              refine cv_i (show (nI (clt V (V.getD i 0) j + 0) : Int32) = nI (clt V (V.getD i 0) (j + 1)) from (by first | rw [clt, if_pos (Int32.not_le.mp c_31)] | rw [clt, if_neg (Int32.not_lt.mpr c_31)])) ?_
              refine lv_istore (lv' := [(4, .int (nI (clt V (V.getD i 0) (j + 1)))), (0, .int (nI k)), (1, .ref (ad L a)), (2, .int (nI V.length)), (3, .int (nI i)), (5, .int (nI (ceq V (V.getD i 0) j))), (6, .int (nI j))]) hx hb dL_ordered_40 hl (by decide) rfl (fun ls hl => ?_)
              refine lv_iload hx hb dL_ordered_42 (lv_at hl 5 rfl) ?_
              refine lv_aload_n hx hb dL_ordered_44 rfl (lv_at hl 2 rfl) ?_
              refine lv_iload hx hb dL_ordered_45 (lv_at hl 6 rfl) ?_
              refine g9_el (n := 40) S hK h ha h40 (by omega) dL_ordered_47 ?_
              refine cv_i (show (σ a j : Int32) = V.getD j 0 from (hR j (by omega))) ?_
              refine lv_aload_n hx hb dL_ordered_48 rfl (lv_at hl 2 rfl) ?_
              refine lv_iload_n hx hb dL_ordered_49 rfl (lv_at hl 4 rfl) ?_
              refine g9_el (n := 40) S hK h ha h40 (by omega) dL_ordered_50 ?_
              refine cv_i (show (σ a i : Int32) = V.getD i 0 from (hR i (by omega))) ?_
              refine lv_icmp_ne (tgt := 58) hx hb dL_ordered_51 (by decide) (fun c_51 => ?_) (fun c_51 => ?_)
              · refine lv_iconst (v := (nI 0)) hx hb dL_ordered_58 (by decide) ?_
                refine a_iadd hx hb dL_ordered_59 ?_
                refine cv_i (show (nI (ceq V (V.getD i 0) j + 0) : Int32) = nI (ceq V (V.getD i 0) (j + 1)) from (by first | rw [ceq, if_pos c_51] | rw [ceq, if_neg c_51])) ?_
                refine lv_istore (lv' := [(5, .int (nI (ceq V (V.getD i 0) (j + 1)))), (4, .int (nI (clt V (V.getD i 0) (j + 1)))), (0, .int (nI k)), (1, .ref (ad L a)), (2, .int (nI V.length)), (3, .int (nI i)), (6, .int (nI j))]) hx hb dL_ordered_60 hl (by decide) rfl (fun ls hl => ?_)
                refine lv_iinc (v := (nI (j + 1))) (lv' := [(6, .int (nI (j + 1))), (5, .int (nI (ceq V (V.getD i 0) (j + 1)))), (4, .int (nI (clt V (V.getD i 0) (j + 1)))), (0, .int (nI k)), (1, .ref (ad L a)), (2, .int (nI V.length)), (3, .int (nI i))]) hx hb dL_ordered_62 hl (k := 6) rfl (iinc_1 _) (by decide) rfl (fun ls hl => ?_)
                refine lv_goto (tgt := 16) hx hb dL_ordered_65 (by decide) ?_
                exact ih_16 (j + 1) (by omega) (by omega) _ _ _ h (lv_sub hl [3, 4, 5, 6, 2, 1, 0] rfl)
              · refine lv_iconst (v := (nI 1)) hx hb dL_ordered_54 (by decide) ?_
                refine lv_goto (tgt := 59) hx hb dL_ordered_55 (by decide) ?_
                refine a_iadd hx hb dL_ordered_59 ?_
                refine cv_i (show (nI (ceq V (V.getD i 0) j + 1) : Int32) = nI (ceq V (V.getD i 0) (j + 1)) from (by first | rw [ceq, if_pos c_51] | rw [ceq, if_neg c_51])) ?_
                refine lv_istore (lv' := [(5, .int (nI (ceq V (V.getD i 0) (j + 1)))), (4, .int (nI (clt V (V.getD i 0) (j + 1)))), (0, .int (nI k)), (1, .ref (ad L a)), (2, .int (nI V.length)), (3, .int (nI i)), (6, .int (nI j))]) hx hb dL_ordered_60 hl (by decide) rfl (fun ls hl => ?_)
                refine lv_iinc (v := (nI (j + 1))) (lv' := [(6, .int (nI (j + 1))), (5, .int (nI (ceq V (V.getD i 0) (j + 1)))), (4, .int (nI (clt V (V.getD i 0) (j + 1)))), (0, .int (nI k)), (1, .ref (ad L a)), (2, .int (nI V.length)), (3, .int (nI i))]) hx hb dL_ordered_62 hl (k := 6) rfl (iinc_1 _) (by decide) rfl (fun ls hl => ?_)
                refine lv_goto (tgt := 16) hx hb dL_ordered_65 (by decide) ?_
                exact ih_16 (j + 1) (by omega) (by omega) _ _ _ h (lv_sub hl [3, 4, 5, 6, 2, 1, 0] rfl)
            · refine lv_iconst (v := (nI 1)) hx hb dL_ordered_34 (by decide) ?_
              refine lv_goto (tgt := 39) hx hb dL_ordered_35 (by decide) ?_
              refine a_iadd hx hb dL_ordered_39 ?_
              refine cv_i (show (nI (clt V (V.getD i 0) j + 1) : Int32) = nI (clt V (V.getD i 0) (j + 1)) from (by first | rw [clt, if_pos (Int32.not_le.mp c_31)] | rw [clt, if_neg (Int32.not_lt.mpr c_31)])) ?_
              refine lv_istore (lv' := [(4, .int (nI (clt V (V.getD i 0) (j + 1)))), (0, .int (nI k)), (1, .ref (ad L a)), (2, .int (nI V.length)), (3, .int (nI i)), (5, .int (nI (ceq V (V.getD i 0) j))), (6, .int (nI j))]) hx hb dL_ordered_40 hl (by decide) rfl (fun ls hl => ?_)
              refine lv_iload hx hb dL_ordered_42 (lv_at hl 5 rfl) ?_
              refine lv_aload_n hx hb dL_ordered_44 rfl (lv_at hl 2 rfl) ?_
              refine lv_iload hx hb dL_ordered_45 (lv_at hl 6 rfl) ?_
              refine g9_el (n := 40) S hK h ha h40 (by omega) dL_ordered_47 ?_
              refine cv_i (show (σ a j : Int32) = V.getD j 0 from (hR j (by omega))) ?_
              refine lv_aload_n hx hb dL_ordered_48 rfl (lv_at hl 2 rfl) ?_
              refine lv_iload_n hx hb dL_ordered_49 rfl (lv_at hl 4 rfl) ?_
              refine g9_el (n := 40) S hK h ha h40 (by omega) dL_ordered_50 ?_
              refine cv_i (show (σ a i : Int32) = V.getD i 0 from (hR i (by omega))) ?_
              refine lv_icmp_ne (tgt := 58) hx hb dL_ordered_51 (by decide) (fun c_51 => ?_) (fun c_51 => ?_)
              · refine lv_iconst (v := (nI 0)) hx hb dL_ordered_58 (by decide) ?_
                refine a_iadd hx hb dL_ordered_59 ?_
                refine cv_i (show (nI (ceq V (V.getD i 0) j + 0) : Int32) = nI (ceq V (V.getD i 0) (j + 1)) from (by first | rw [ceq, if_pos c_51] | rw [ceq, if_neg c_51])) ?_
                refine lv_istore (lv' := [(5, .int (nI (ceq V (V.getD i 0) (j + 1)))), (4, .int (nI (clt V (V.getD i 0) (j + 1)))), (0, .int (nI k)), (1, .ref (ad L a)), (2, .int (nI V.length)), (3, .int (nI i)), (6, .int (nI j))]) hx hb dL_ordered_60 hl (by decide) rfl (fun ls hl => ?_)
                refine lv_iinc (v := (nI (j + 1))) (lv' := [(6, .int (nI (j + 1))), (5, .int (nI (ceq V (V.getD i 0) (j + 1)))), (4, .int (nI (clt V (V.getD i 0) (j + 1)))), (0, .int (nI k)), (1, .ref (ad L a)), (2, .int (nI V.length)), (3, .int (nI i))]) hx hb dL_ordered_62 hl (k := 6) rfl (iinc_1 _) (by decide) rfl (fun ls hl => ?_)
                refine lv_goto (tgt := 16) hx hb dL_ordered_65 (by decide) ?_
                exact ih_16 (j + 1) (by omega) (by omega) _ _ _ h (lv_sub hl [3, 4, 5, 6, 2, 1, 0] rfl)
              · refine lv_iconst (v := (nI 1)) hx hb dL_ordered_54 (by decide) ?_
                refine lv_goto (tgt := 59) hx hb dL_ordered_55 (by decide) ?_
                refine a_iadd hx hb dL_ordered_59 ?_
                refine cv_i (show (nI (ceq V (V.getD i 0) j + 1) : Int32) = nI (ceq V (V.getD i 0) (j + 1)) from (by first | rw [ceq, if_pos c_51] | rw [ceq, if_neg c_51])) ?_
                refine lv_istore (lv' := [(5, .int (nI (ceq V (V.getD i 0) (j + 1)))), (4, .int (nI (clt V (V.getD i 0) (j + 1)))), (0, .int (nI k)), (1, .ref (ad L a)), (2, .int (nI V.length)), (3, .int (nI i)), (6, .int (nI j))]) hx hb dL_ordered_60 hl (by decide) rfl (fun ls hl => ?_)
                refine lv_iinc (v := (nI (j + 1))) (lv' := [(6, .int (nI (j + 1))), (5, .int (nI (ceq V (V.getD i 0) (j + 1)))), (4, .int (nI (clt V (V.getD i 0) (j + 1)))), (0, .int (nI k)), (1, .ref (ad L a)), (2, .int (nI V.length)), (3, .int (nI i))]) hx hb dL_ordered_62 hl (k := 6) rfl (iinc_1 _) (by decide) rfl (fun ls hl => ?_)
                refine lv_goto (tgt := 16) hx hb dL_ordered_65 (by decide) ?_
                exact ih_16 (j + 1) (by omega) (by omega) _ _ _ h (lv_sub hl [3, 4, 5, 6, 2, 1, 0] rfl)
      exact LP_16 _ 0 (by omega) (Nat.lt_succ_self _) _ _ _ h (lv_sub hl [3, 4, 5, 6, 2, 1, 0] rfl)
  exact LP_2 _ 0 (by omega) (fun j hj => absurd hj (Nat.not_lt_zero _)) (Nat.lt_succ_self _) _ _ _ h (lv_sub hl [1, 2, 3, 0] rfl)

abbrev rL_quantile : Room := { frames := 0, cells := 0, slots := 0, locals := 0 }
theorem yd_L_quantile : ydV yL_quantile RL 7 := ⟨rfl, by decide +kernel, by decide +kernel, by decide +kernel⟩
set_option maxHeartbeats 4000000 in
set_option maxRecDepth 100000 in
theorem c_L_quantile (l : Launch) (Lc L : Lay) (X : SS) (hh : List SS) (σ : Me) {A : List Hp} {n L0 G0 q T tq : Nat} (hQ : QF A n L0 G0) (hA : HA (σ 9) A) (hl16 : A.length ≤ 16) (hn40 : n ≤ 40) (hq : q ≤ 1000) (hT : T = q * n) (ht9 : tq = qV A n L0 G0 q) : Mf9 l Lc L X hh yL_quantile (Cond.code yL_quantile cL_quantile 30 (some FieldType.boolean) :: qA) rL_quantile [.int (nI tq), .int (nI T), .ref (ad L 9), .int (nI A.length), .int (nI L0), .int (nI G0), .int (nI n)] σ (some (.int (nI 1))) σ := by
  refine Mf9.ofW (by decide) (Nat.le_of_ble_eq_true rfl) ?_
  intro p e s m args below meth c ls post hp hV S hr hlk hK h hl
  have hx := S.1
  have hb := S.2.1
  have hl : lv_has ls 30 [(0, .int (nI tq)), (1, .int (nI T)), (2, .ref (ad L 9)), (3, .int (nI A.length)), (4, .int (nI L0)), (5, .int (nI G0)), (6, .int (nI n))] := hl
  have hqb : tq ≤ G0 := by rw [ht9]; exact qV_le hQ hq
  have hLb : L0 ≤ 9999 := hQ.1
  have hGb : G0 ≤ 9999 := hQ.2.1
  have hn0 : 0 < n := hQ.2.2.2.2.2.1
  have hTb : T ≤ 1000 * n := by rw [hT]; exact Nat.mul_le_mul_right _ hq
  have hqv0 : tq = qN G0 n T 0 0 L0 1 (A.map pr) := by rw [ht9, qV, hT]
  have hps := psum_pr A
  have hsm := hQ.s
  have hch := hQ.c
  refine lv_ldc2 (v := (2 : Int64)) hx hb S.2.2.2.1 (S.2.2.2.2 _ q_440) dL_quantile_0 ?_
  refine cv_l (show ((2 : Int64) : Int64) = nJ 2 from rfl) ?_
  refine lv_iload_n hx hb dL_quantile_3 rfl (lv_at hl 1 rfl) ?_
  refine lv_i2l (v := (nI T).toInt64) hx hb dL_quantile_4 rfl ?_
  refine cv_l (show ((nI T).toInt64 : Int64) = nJ T from nJ_i2l (by omega)) ?_
  refine lv_lmul hx hb dL_quantile_5 ?_
  refine cv_l (show (nJ 2 * nJ T : Int64) = nJ (2 * T) from nJ_mul _ _) ?_
  refine lv_lstore (lv' := [(7, .long (nJ (2 * T))), (0, .int (nI tq)), (1, .int (nI T)), (2, .ref (ad L 9)), (3, .int (nI A.length)), (4, .int (nI L0)), (5, .int (nI G0)), (6, .int (nI n))]) hx hb dL_quantile_6 hl (by decide) rfl (fun ls hl => ?_)
  refine lv_lconst (v := 0) hx hb dL_quantile_8 (by decide) ?_
  refine cv_l (show ((0 : Int64) : Int64) = nJ 0 from rfl) ?_
  refine lv_lstore (lv' := [(9, .long (nJ 0)), (7, .long (nJ (2 * T))), (0, .int (nI tq)), (1, .int (nI T)), (2, .ref (ad L 9)), (3, .int (nI A.length)), (4, .int (nI L0)), (5, .int (nI G0)), (6, .int (nI n))]) hx hb dL_quantile_9 hl (by decide) rfl (fun ls hl => ?_)
  refine lv_iload hx hb dL_quantile_11 (lv_at hl 6 rfl) ?_
  refine lv_i2l (v := (nI L0).toInt64) hx hb dL_quantile_13 rfl ?_
  refine cv_l (show ((nI L0).toInt64 : Int64) = nJ L0 from nJ_i2l (by omega)) ?_
  refine lv_lstore (lv' := [(11, .long (nJ L0)), (9, .long (nJ 0)), (7, .long (nJ (2 * T))), (0, .int (nI tq)), (1, .int (nI T)), (2, .ref (ad L 9)), (3, .int (nI A.length)), (4, .int (nI L0)), (5, .int (nI G0)), (6, .int (nI n))]) hx hb dL_quantile_14 hl (by decide) rfl (fun ls hl => ?_)
  refine lv_lconst (v := 1) hx hb dL_quantile_16 (by decide) ?_
  refine cv_l (show ((1 : Int64) : Int64) = nJ 1 from rfl) ?_
  refine lv_lstore (lv' := [(13, .long (nJ 1)), (11, .long (nJ L0)), (9, .long (nJ 0)), (7, .long (nJ (2 * T))), (0, .int (nI tq)), (1, .int (nI T)), (2, .ref (ad L 9)), (3, .int (nI A.length)), (4, .int (nI L0)), (5, .int (nI G0)), (6, .int (nI n))]) hx hb dL_quantile_17 hl (by decide) rfl (fun ls hl => ?_)
  refine lv_iconst (v := (nI 0)) hx hb dL_quantile_19 (by decide) ?_
  refine lv_istore (lv' := [(15, .int (nI 0)), (13, .long (nJ 1)), (11, .long (nJ L0)), (9, .long (nJ 0)), (7, .long (nJ (2 * T))), (0, .int (nI tq)), (1, .int (nI T)), (2, .ref (ad L 9)), (3, .int (nI A.length)), (4, .int (nI L0)), (5, .int (nI G0)), (6, .int (nI n))]) hx hb dL_quantile_20 hl (by decide) rfl (fun ls hl => ?_)
  refine lv_iconst (v := (nI 0)) hx hb dL_quantile_22 (by decide) ?_
  refine lv_istore (lv' := [(16, .int (nI 0)), (15, .int (nI 0)), (13, .long (nJ 1)), (11, .long (nJ L0)), (9, .long (nJ 0)), (7, .long (nJ (2 * T))), (0, .int (nI tq)), (1, .int (nI T)), (2, .ref (ad L 9)), (3, .int (nI A.length)), (4, .int (nI L0)), (5, .int (nI G0)), (6, .int (nI n))]) hx hb dL_quantile_23 hl (by decide) rfl (fun ls hl => ?_)
  have LP_25 : ∀ (n_25 : Nat) (k : Nat) (p9 : Nat) (s9 : Nat) (w9 : Nat) (a9 : Nat), (k ≤ A.length) → (Ch G0 s9 w9 ((A.drop k).map pr)) → (0 < w9) → (w9 ≤ 200) → (s9 ≤ 2000000) → (p9 ≤ 1000 * a9) → (p9 < 1000 * n) → (a9 + psum ((A.drop k).map pr) = n) → (p9 ≤ T) → (tq = qN G0 n T a9 p9 s9 w9 ((A.drop k).map pr)) → A.length + 1 - k < n_25 → ∀ (H : Heap) (locs : List Loc) (ls : Array Slot), Hd9 Lc L X hh s.heap H σ locs → lv_has ls 30 [(16, .int (nI k)), (15, .int (nI a9)), (13, .long (nJ w9)), (11, .long (nJ s9)), (9, .long (nJ (2 * p9))), (7, .long (nJ (2 * T))), (6, .int (nI n)), (5, .int (nI G0)), (4, .int (nI L0)), (3, .int (nI A.length)), (2, .ref (ad L 9)), (1, .int (nI T)), (0, .int (nI tq))] → W p l e rL_quantile s m args below meth c H locs 0 0 (MQ below (Qg post (bs9 Lc L X hh) (A9 Lc L)) args s 0 0 (A9 Lc L)) (F0 m 25 ls []) := by
    intro n_25
    induction n_25 with
    | zero => intro k p9 s9 w9 a9; intros; omega
    | succ n_25 ih_25 =>
      intro k p9 s9 w9 a9 hk hc hw hw2 hs2 hp1 hp2 hsum hpt hqv hm_25 H locs ls h hl
      refine lv_iload hx hb dL_quantile_25 (lv_at hl 0 rfl) ?_
      refine lv_iload_n hx hb dL_quantile_27 rfl (lv_at hl 9 rfl) ?_
      refine b_icmp_gt (tgt := 253) hx hb dL_quantile_28 (by decide) (by omega) (by omega) (fun c_28 => absurd c_28 (by omega)) (fun c_28 => ?_)
      refine lv_iload hx hb dL_quantile_31 (lv_at hl 0 rfl) ?_
      refine lv_iload_n hx hb dL_quantile_33 rfl (lv_at hl 9 rfl) ?_
      refine b_icmp_ne (tgt := 47) hx hb dL_quantile_34 (by decide) (by omega) (by omega) (fun c_34 => ?_) (fun c_34 => ?_)
      · have hkl : k < A.length := by omega
        have hx9 := hQ.g _ (mem_getD (d := hd0) hkl)
        obtain ⟨w1, w2, w3⟩ := wN_GH hx9
        obtain ⟨s1, s2⟩ := sN_GH hx9
        have ew := (hA.w hkl).trans w1
        have es := (hA.s hkl).trans s1
        rw [drop_pr hkl] at hc hqv hsum
        have hc1 : s9 * wN (A.getD k hd0) ≤ sN (A.getD k hd0) * w9 := hc.1
        have hsw : a9 + (wN (A.getD k hd0) + psum ((A.drop (k + 1)).map pr)) = n := hsum
        refine lv_ldc2 (v := (1000 : Int64)) hx hb S.2.2.2.1 (S.2.2.2.2 _ q_525) dL_quantile_47 ?_
        refine cv_l (show ((1000 : Int64) : Int64) = nJ 1000 from rfl) ?_
        refine lv_iconst (v := (nI 2)) hx hb dL_quantile_50 (by decide) ?_
        refine lv_iload hx hb dL_quantile_51 (lv_at hl 1 rfl) ?_
        refine a_imul hx hb dL_quantile_53 ?_
        refine lv_aload_n hx hb dL_quantile_54 rfl (lv_at hl 10 rfl) ?_
        refine lv_iconst (v := (nI 4)) hx hb dL_quantile_55 (by decide) ?_
        refine lv_iload hx hb dL_quantile_56 (lv_at hl 0 rfl) ?_
        refine a_imul hx hb dL_quantile_58 ?_
        refine g9_el (n := 64) S hK h (by decide) rfl (by omega) dL_quantile_59 ?_
        refine cv_i (show (σ 9 (4 * k) : Int32) = nI (wN (A.getD k hd0)) from ew) ?_
        refine a_iadd hx hb dL_quantile_60 ?_
        refine lv_i2l (v := (nI (2 * a9 + (wN (A.getD k hd0)))).toInt64) hx hb dL_quantile_61 rfl ?_
        refine cv_l (show ((nI (2 * a9 + (wN (A.getD k hd0)))).toInt64 : Int64) = nJ (2 * a9 + (wN (A.getD k hd0))) from nJ_i2l (by omega)) ?_
        refine lv_lmul hx hb dL_quantile_62 ?_
        refine cv_l (show (nJ 1000 * nJ (2 * a9 + (wN (A.getD k hd0))) : Int64) = nJ (1000 * (2 * a9 + (wN (A.getD k hd0)))) from nJ_mul _ _) ?_
        refine cv_l (show (nJ (1000 * (2 * a9 + (wN (A.getD k hd0)))) : Int64) = nJ (2 * (1000 * a9 + 500 * wN (A.getD k hd0))) from (by congr 1; omega)) ?_
        refine lv_lstore (lv' := [(17, .long (nJ (2 * (1000 * a9 + 500 * wN (A.getD k hd0))))), (16, .int (nI k)), (15, .int (nI a9)), (13, .long (nJ w9)), (11, .long (nJ s9)), (9, .long (nJ (2 * p9))), (7, .long (nJ (2 * T))), (6, .int (nI n)), (5, .int (nI G0)), (4, .int (nI L0)), (3, .int (nI A.length)), (2, .ref (ad L 9)), (1, .int (nI T)), (0, .int (nI tq))]) hx hb dL_quantile_63 hl (by decide) rfl (fun ls hl => ?_)
        refine lv_iload hx hb dL_quantile_65 (lv_at hl 1 rfl) ?_
        refine lv_iload_n hx hb dL_quantile_67 rfl (lv_at hl 10 rfl) ?_
        refine b_icmp_ne (tgt := 77) hx hb dL_quantile_68 (by decide) (by omega) (by omega) (fun c_68 => ?_) (fun c_68 => absurd c_68 (by omega))
        refine lv_aload_n hx hb dL_quantile_77 rfl (lv_at hl 11 rfl) ?_
        refine lv_iconst (v := (nI 4)) hx hb dL_quantile_78 (by decide) ?_
        refine lv_iload hx hb dL_quantile_79 (lv_at hl 1 rfl) ?_
        refine a_imul hx hb dL_quantile_81 ?_
        refine lv_iconst (v := (nI 1)) hx hb dL_quantile_82 (by decide) ?_
        refine a_iadd hx hb dL_quantile_83 ?_
        refine g9_el (n := 64) S hK h (by decide) rfl (by omega) dL_quantile_84 ?_
        refine cv_i (show (σ 9 (4 * k + 1) : Int32) = nI (sN (A.getD k hd0)) from es) ?_
        refine lv_i2l (v := (nI (sN (A.getD k hd0))).toInt64) hx hb dL_quantile_85 rfl ?_
        refine cv_l (show ((nI (sN (A.getD k hd0))).toInt64 : Int64) = nJ (sN (A.getD k hd0)) from nJ_i2l (by omega)) ?_
        refine lv_lstore (lv' := [(19, .long (nJ (sN (A.getD k hd0)))), (17, .long (nJ (2 * (1000 * a9 + 500 * wN (A.getD k hd0))))), (16, .int (nI k)), (15, .int (nI a9)), (13, .long (nJ w9)), (11, .long (nJ s9)), (9, .long (nJ (2 * p9))), (7, .long (nJ (2 * T))), (6, .int (nI n)), (5, .int (nI G0)), (4, .int (nI L0)), (3, .int (nI A.length)), (2, .ref (ad L 9)), (1, .int (nI T)), (0, .int (nI tq))]) hx hb dL_quantile_86 hl (by decide) rfl (fun ls hl => ?_)
        refine lv_iload hx hb dL_quantile_88 (lv_at hl 2 rfl) ?_
        refine lv_iload_n hx hb dL_quantile_90 rfl (lv_at hl 11 rfl) ?_
        refine b_icmp_ne (tgt := 98) hx hb dL_quantile_91 (by decide) (by omega) (by omega) (fun c_91 => ?_) (fun c_91 => absurd c_91 (by omega))
        refine lv_aload_n hx hb dL_quantile_98 rfl (lv_at hl 12 rfl) ?_
        refine lv_iconst (v := (nI 4)) hx hb dL_quantile_99 (by decide) ?_
        refine lv_iload hx hb dL_quantile_100 (lv_at hl 2 rfl) ?_
        refine a_imul hx hb dL_quantile_102 ?_
        refine g9_el (n := 64) S hK h (by decide) rfl (by omega) dL_quantile_103 ?_
        refine cv_i (show (σ 9 (4 * k) : Int32) = nI (wN (A.getD k hd0)) from ew) ?_
        refine lv_i2l (v := (nI (wN (A.getD k hd0))).toInt64) hx hb dL_quantile_104 rfl ?_
        refine cv_l (show ((nI (wN (A.getD k hd0))).toInt64 : Int64) = nJ (wN (A.getD k hd0)) from nJ_i2l (by omega)) ?_
        refine lv_lstore (lv' := [(21, .long (nJ (wN (A.getD k hd0)))), (19, .long (nJ (sN (A.getD k hd0)))), (17, .long (nJ (2 * (1000 * a9 + 500 * wN (A.getD k hd0))))), (16, .int (nI k)), (15, .int (nI a9)), (13, .long (nJ w9)), (11, .long (nJ s9)), (9, .long (nJ (2 * p9))), (7, .long (nJ (2 * T))), (6, .int (nI n)), (5, .int (nI G0)), (4, .int (nI L0)), (3, .int (nI A.length)), (2, .ref (ad L 9)), (1, .int (nI T)), (0, .int (nI tq))]) hx hb dL_quantile_105 hl (by decide) rfl (fun ls hl => ?_)
        refine lv_iload hx hb dL_quantile_107 (lv_at hl 3 rfl) ?_
        refine lv_iload_n hx hb dL_quantile_109 rfl (lv_at hl 12 rfl) ?_
        refine b_icmp_eq (tgt := 137) hx hb dL_quantile_110 (by decide) (by omega) (by omega) (fun c_110 => absurd c_110 (by omega)) (fun c_110 => ?_)
        refine lv_iload hx hb dL_quantile_113 (lv_at hl 3 rfl) ?_
        refine b_if_ne (tgt := 129) hx hb dL_quantile_115 (by decide) (by omega) (fun c_115 => ?_) (fun c_115 => ?_)
        · refine lv_lload hx hb dL_quantile_129 (lv_at hl 8 rfl) ?_
          refine lv_lload hx hb dL_quantile_131 (lv_at hl 2 rfl) ?_
          refine lv_lcmpv hx hb dL_quantile_133 ?_
          refine lc_ge (tgt := 141) hx hb dL_quantile_134 (by decide) (fun c_134 => ?_) (fun c_134 => ?_)
          · have hpl : 1000 * a9 + 500 * wN (A.getD k hd0) ≤ T := by have z := (nJ_le (by omega) (by omega)).mp c_134; omega
            refine lv_iconst (v := (nI 0)) hx hb dL_quantile_141 (by decide) ?_
            refine lv_istore (lv' := [(23, .int (nI 0)), (21, .long (nJ (wN (A.getD k hd0)))), (19, .long (nJ (sN (A.getD k hd0)))), (17, .long (nJ (2 * (1000 * a9 + 500 * wN (A.getD k hd0))))), (16, .int (nI k)), (15, .int (nI a9)), (13, .long (nJ w9)), (11, .long (nJ s9)), (9, .long (nJ (2 * p9))), (7, .long (nJ (2 * T))), (6, .int (nI n)), (5, .int (nI G0)), (4, .int (nI L0)), (3, .int (nI A.length)), (2, .ref (ad L 9)), (1, .int (nI T)), (0, .int (nI tq))]) hx hb dL_quantile_142 hl (by decide) rfl (fun ls hl => ?_)
            refine lv_iload hx hb dL_quantile_144 (lv_at hl 0 rfl) ?_
            refine b_if_eq (tgt := 224) hx hb dL_quantile_146 (by decide) (by decide) (fun _ => ?_) (fun c9 => absurd c9 (by decide))
            refine lv_lload hx hb dL_quantile_224 (lv_at hl 3 rfl) ?_
            refine lv_lstore (lv' := [(9, .long (nJ (2 * (1000 * a9 + 500 * wN (A.getD k hd0))))), (23, .int (nI 0)), (21, .long (nJ (wN (A.getD k hd0)))), (19, .long (nJ (sN (A.getD k hd0)))), (17, .long (nJ (2 * (1000 * a9 + 500 * wN (A.getD k hd0))))), (16, .int (nI k)), (15, .int (nI a9)), (13, .long (nJ w9)), (11, .long (nJ s9)), (7, .long (nJ (2 * T))), (6, .int (nI n)), (5, .int (nI G0)), (4, .int (nI L0)), (3, .int (nI A.length)), (2, .ref (ad L 9)), (1, .int (nI T)), (0, .int (nI tq))]) hx hb dL_quantile_226 hl (by decide) rfl (fun ls hl => ?_)
            refine lv_lload hx hb dL_quantile_228 (lv_at hl 3 rfl) ?_
            refine lv_lstore (lv' := [(11, .long (nJ (sN (A.getD k hd0)))), (9, .long (nJ (2 * (1000 * a9 + 500 * wN (A.getD k hd0))))), (23, .int (nI 0)), (21, .long (nJ (wN (A.getD k hd0)))), (19, .long (nJ (sN (A.getD k hd0)))), (17, .long (nJ (2 * (1000 * a9 + 500 * wN (A.getD k hd0))))), (16, .int (nI k)), (15, .int (nI a9)), (13, .long (nJ w9)), (7, .long (nJ (2 * T))), (6, .int (nI n)), (5, .int (nI G0)), (4, .int (nI L0)), (3, .int (nI A.length)), (2, .ref (ad L 9)), (1, .int (nI T)), (0, .int (nI tq))]) hx hb dL_quantile_230 hl (by decide) rfl (fun ls hl => ?_)
            refine lv_lload hx hb dL_quantile_232 (lv_at hl 3 rfl) ?_
            refine lv_lstore (lv' := [(13, .long (nJ (wN (A.getD k hd0)))), (11, .long (nJ (sN (A.getD k hd0)))), (9, .long (nJ (2 * (1000 * a9 + 500 * wN (A.getD k hd0))))), (23, .int (nI 0)), (21, .long (nJ (wN (A.getD k hd0)))), (19, .long (nJ (sN (A.getD k hd0)))), (17, .long (nJ (2 * (1000 * a9 + 500 * wN (A.getD k hd0))))), (16, .int (nI k)), (15, .int (nI a9)), (7, .long (nJ (2 * T))), (6, .int (nI n)), (5, .int (nI G0)), (4, .int (nI L0)), (3, .int (nI A.length)), (2, .ref (ad L 9)), (1, .int (nI T)), (0, .int (nI tq))]) hx hb dL_quantile_234 hl (by decide) rfl (fun ls hl => ?_)
            refine lv_iload hx hb dL_quantile_236 (lv_at hl 8 rfl) ?_
            refine lv_aload_n hx hb dL_quantile_238 rfl (lv_at hl 14 rfl) ?_
            refine lv_iconst (v := (nI 4)) hx hb dL_quantile_239 (by decide) ?_
            refine lv_iload hx hb dL_quantile_240 (lv_at hl 7 rfl) ?_
            refine a_imul hx hb dL_quantile_242 ?_
            refine g9_el (n := 64) S hK h (by decide) rfl (by omega) dL_quantile_243 ?_
            refine cv_i (show (σ 9 (4 * k) : Int32) = nI (wN (A.getD k hd0)) from ew) ?_
            refine a_iadd hx hb dL_quantile_244 ?_
            refine lv_istore (lv' := [(15, .int (nI (a9 + (wN (A.getD k hd0))))), (13, .long (nJ (wN (A.getD k hd0)))), (11, .long (nJ (sN (A.getD k hd0)))), (9, .long (nJ (2 * (1000 * a9 + 500 * wN (A.getD k hd0))))), (23, .int (nI 0)), (21, .long (nJ (wN (A.getD k hd0)))), (19, .long (nJ (sN (A.getD k hd0)))), (17, .long (nJ (2 * (1000 * a9 + 500 * wN (A.getD k hd0))))), (16, .int (nI k)), (7, .long (nJ (2 * T))), (6, .int (nI n)), (5, .int (nI G0)), (4, .int (nI L0)), (3, .int (nI A.length)), (2, .ref (ad L 9)), (1, .int (nI T)), (0, .int (nI tq))]) hx hb dL_quantile_245 hl (by decide) rfl (fun ls hl => ?_)
            refine lv_iinc (v := (nI (k + 1))) (lv' := [(16, .int (nI (k + 1))), (15, .int (nI (a9 + (wN (A.getD k hd0))))), (13, .long (nJ (wN (A.getD k hd0)))), (11, .long (nJ (sN (A.getD k hd0)))), (9, .long (nJ (2 * (1000 * a9 + 500 * wN (A.getD k hd0))))), (23, .int (nI 0)), (21, .long (nJ (wN (A.getD k hd0)))), (19, .long (nJ (sN (A.getD k hd0)))), (17, .long (nJ (2 * (1000 * a9 + 500 * wN (A.getD k hd0))))), (7, .long (nJ (2 * T))), (6, .int (nI n)), (5, .int (nI G0)), (4, .int (nI L0)), (3, .int (nI A.length)), (2, .ref (ad L 9)), (1, .int (nI T)), (0, .int (nI tq))]) hx hb dL_quantile_247 hl (k := 8) rfl (iinc_1 _) (by decide) rfl (fun ls hl => ?_)
            refine lv_goto (tgt := 25) hx hb dL_quantile_250 (by decide) ?_
            exact ih_25 (k + 1) (1000 * a9 + 500 * wN (A.getD k hd0)) (sN (A.getD k hd0)) (wN (A.getD k hd0)) (a9 + (wN (A.getD k hd0))) (by omega) hc.2.2 hc.2.1 w3 (by omega) (by omega) (by have z : a9 + (wN (A.getD k hd0) + psum ((A.drop (k + 1)).map pr)) = n := hsum; omega) (by have z : a9 + (wN (A.getD k hd0) + psum ((A.drop (k + 1)).map pr)) = n := hsum; omega) hpl (hqv.trans (qN_step hc hw hp1 hsum hpl)) (by omega) _ _ _ h (lv_sub hl [0, 1, 2, 3, 4, 9, 10, 11, 12, 13, 14, 15, 16] rfl)
          · have hsg : tq = seg s9 w9 p9 (sN (A.getD k hd0)) (wN (A.getD k hd0)) (1000 * a9 + 500 * wN (A.getD k hd0)) T := by rw [hqv, qN, if_pos (by have z := (nJ_lt (by omega) (by omega)).mp c_134; show T ≤ 1000 * a9 + 500 * wN (A.getD k hd0); omega)]
            refine lv_iconst (v := (nI 1)) hx hb dL_quantile_137 (by decide) ?_
            refine lv_goto (tgt := 142) hx hb dL_quantile_138 (by decide) ?_
            refine lv_istore (lv' := [(23, .int (nI 1)), (21, .long (nJ (wN (A.getD k hd0)))), (19, .long (nJ (sN (A.getD k hd0)))), (17, .long (nJ (2 * (1000 * a9 + 500 * wN (A.getD k hd0))))), (16, .int (nI k)), (15, .int (nI a9)), (13, .long (nJ w9)), (11, .long (nJ s9)), (9, .long (nJ (2 * p9))), (7, .long (nJ (2 * T))), (6, .int (nI n)), (5, .int (nI G0)), (4, .int (nI L0)), (3, .int (nI A.length)), (2, .ref (ad L 9)), (1, .int (nI T)), (0, .int (nI tq))]) hx hb dL_quantile_142 hl (by decide) rfl (fun ls hl => ?_)
            refine lv_iload hx hb dL_quantile_144 (lv_at hl 0 rfl) ?_
            refine b_if_eq (tgt := 224) hx hb dL_quantile_146 (by decide) (by decide) (fun c9 => absurd c9 (by decide)) (fun _ => ?_)
            refine lv_lload hx hb dL_quantile_149 (lv_at hl 3 rfl) ?_
            refine lv_lload hx hb dL_quantile_151 (lv_at hl 8 rfl) ?_
            refine lv_lsub hx hb dL_quantile_153 ?_
            refine cv_l (show (nJ (2 * (1000 * a9 + 500 * wN (A.getD k hd0))) - nJ (2 * p9) : Int64) = nJ ((2 * (1000 * a9 + 500 * wN (A.getD k hd0))) - (2 * p9)) from nJ_sub (by omega)) ?_
            refine lv_lstore (lv' := [(24, .long (nJ ((2 * (1000 * a9 + 500 * wN (A.getD k hd0))) - (2 * p9)))), (23, .int (nI 1)), (21, .long (nJ (wN (A.getD k hd0)))), (19, .long (nJ (sN (A.getD k hd0)))), (17, .long (nJ (2 * (1000 * a9 + 500 * wN (A.getD k hd0))))), (16, .int (nI k)), (15, .int (nI a9)), (13, .long (nJ w9)), (11, .long (nJ s9)), (9, .long (nJ (2 * p9))), (7, .long (nJ (2 * T))), (6, .int (nI n)), (5, .int (nI G0)), (4, .int (nI L0)), (3, .int (nI A.length)), (2, .ref (ad L 9)), (1, .int (nI T)), (0, .int (nI tq))]) hx hb dL_quantile_154 hl (by decide) rfl (fun ls hl => ?_)
            refine lv_lload hx hb dL_quantile_156 (lv_at hl 8 rfl) ?_
            refine lv_lload hx hb dL_quantile_158 (lv_at hl 2 rfl) ?_
            refine lv_lmul hx hb dL_quantile_160 ?_
            refine cv_l (show (nJ s9 * nJ (wN (A.getD k hd0)) : Int64) = nJ (s9 * (wN (A.getD k hd0))) from nJ_mul _ _) ?_
            refine lv_lload hx hb dL_quantile_161 (lv_at hl 0 rfl) ?_
            refine lv_lmul hx hb dL_quantile_163 ?_
            refine cv_l (show (nJ (s9 * (wN (A.getD k hd0))) * nJ ((2 * (1000 * a9 + 500 * wN (A.getD k hd0))) - (2 * p9)) : Int64) = nJ ((s9 * (wN (A.getD k hd0))) * ((2 * (1000 * a9 + 500 * wN (A.getD k hd0))) - (2 * p9))) from nJ_mul _ _) ?_
            refine lv_lload hx hb dL_quantile_164 (lv_at hl 3 rfl) ?_
            refine lv_lload hx hb dL_quantile_166 (lv_at hl 7 rfl) ?_
            refine lv_lmul hx hb dL_quantile_168 ?_
            refine cv_l (show (nJ (sN (A.getD k hd0)) * nJ w9 : Int64) = nJ ((sN (A.getD k hd0)) * w9) from nJ_mul _ _) ?_
            refine lv_lload hx hb dL_quantile_169 (lv_at hl 8 rfl) ?_
            refine lv_lload hx hb dL_quantile_171 (lv_at hl 2 rfl) ?_
            refine lv_lmul hx hb dL_quantile_173 ?_
            refine cv_l (show (nJ s9 * nJ (wN (A.getD k hd0)) : Int64) = nJ (s9 * (wN (A.getD k hd0))) from nJ_mul _ _) ?_
            refine lv_lsub hx hb dL_quantile_174 ?_
            refine cv_l (show (nJ ((sN (A.getD k hd0)) * w9) - nJ (s9 * (wN (A.getD k hd0))) : Int64) = nJ (((sN (A.getD k hd0)) * w9) - (s9 * (wN (A.getD k hd0)))) from nJ_sub hc1) ?_
            refine lv_lload hx hb dL_quantile_175 (lv_at hl 10 rfl) ?_
            refine lv_lload hx hb dL_quantile_177 (lv_at hl 9 rfl) ?_
            refine lv_lsub hx hb dL_quantile_179 ?_
            refine cv_l (show (nJ (2 * T) - nJ (2 * p9) : Int64) = nJ ((2 * T) - (2 * p9)) from nJ_sub (by omega)) ?_
            refine lv_lmul hx hb dL_quantile_180 ?_
            refine cv_l (show (nJ (((sN (A.getD k hd0)) * w9) - (s9 * (wN (A.getD k hd0)))) * nJ ((2 * T) - (2 * p9)) : Int64) = nJ ((((sN (A.getD k hd0)) * w9) - (s9 * (wN (A.getD k hd0)))) * ((2 * T) - (2 * p9))) from nJ_mul _ _) ?_
            refine lv_ladd hx hb dL_quantile_181 ?_
            refine cv_l (show (nJ ((s9 * (wN (A.getD k hd0))) * ((2 * (1000 * a9 + 500 * wN (A.getD k hd0))) - (2 * p9))) + nJ ((((sN (A.getD k hd0)) * w9) - (s9 * (wN (A.getD k hd0)))) * ((2 * T) - (2 * p9))) : Int64) = nJ (((s9 * (wN (A.getD k hd0))) * ((2 * (1000 * a9 + 500 * wN (A.getD k hd0))) - (2 * p9))) + ((((sN (A.getD k hd0)) * w9) - (s9 * (wN (A.getD k hd0)))) * ((2 * T) - (2 * p9)))) from nJ_add _ _) ?_
            refine lv_lstore (lv' := [(26, .long (nJ (((s9 * (wN (A.getD k hd0))) * ((2 * (1000 * a9 + 500 * wN (A.getD k hd0))) - (2 * p9))) + ((((sN (A.getD k hd0)) * w9) - (s9 * (wN (A.getD k hd0)))) * ((2 * T) - (2 * p9)))))), (24, .long (nJ ((2 * (1000 * a9 + 500 * wN (A.getD k hd0))) - (2 * p9)))), (23, .int (nI 1)), (21, .long (nJ (wN (A.getD k hd0)))), (19, .long (nJ (sN (A.getD k hd0)))), (17, .long (nJ (2 * (1000 * a9 + 500 * wN (A.getD k hd0))))), (16, .int (nI k)), (15, .int (nI a9)), (13, .long (nJ w9)), (11, .long (nJ s9)), (9, .long (nJ (2 * p9))), (7, .long (nJ (2 * T))), (6, .int (nI n)), (5, .int (nI G0)), (4, .int (nI L0)), (3, .int (nI A.length)), (2, .ref (ad L 9)), (1, .int (nI T)), (0, .int (nI tq))]) hx hb dL_quantile_182 hl (by decide) rfl (fun ls hl => ?_)
            refine lv_lload hx hb dL_quantile_184 (lv_at hl 8 rfl) ?_
            refine lv_lload hx hb dL_quantile_186 (lv_at hl 3 rfl) ?_
            refine lv_lmul hx hb dL_quantile_188 ?_
            refine cv_l (show (nJ w9 * nJ (wN (A.getD k hd0)) : Int64) = nJ (w9 * (wN (A.getD k hd0))) from nJ_mul _ _) ?_
            refine lv_lload hx hb dL_quantile_189 (lv_at hl 1 rfl) ?_
            refine lv_lmul hx hb dL_quantile_191 ?_
            refine cv_l (show (nJ (w9 * (wN (A.getD k hd0))) * nJ ((2 * (1000 * a9 + 500 * wN (A.getD k hd0))) - (2 * p9)) : Int64) = nJ ((w9 * (wN (A.getD k hd0))) * ((2 * (1000 * a9 + 500 * wN (A.getD k hd0))) - (2 * p9))) from nJ_mul _ _) ?_
            refine lv_lstore (lv' := [(28, .long (nJ ((w9 * (wN (A.getD k hd0))) * ((2 * (1000 * a9 + 500 * wN (A.getD k hd0))) - (2 * p9))))), (26, .long (nJ (((s9 * (wN (A.getD k hd0))) * ((2 * (1000 * a9 + 500 * wN (A.getD k hd0))) - (2 * p9))) + ((((sN (A.getD k hd0)) * w9) - (s9 * (wN (A.getD k hd0)))) * ((2 * T) - (2 * p9)))))), (24, .long (nJ ((2 * (1000 * a9 + 500 * wN (A.getD k hd0))) - (2 * p9)))), (23, .int (nI 1)), (21, .long (nJ (wN (A.getD k hd0)))), (19, .long (nJ (sN (A.getD k hd0)))), (17, .long (nJ (2 * (1000 * a9 + 500 * wN (A.getD k hd0))))), (16, .int (nI k)), (15, .int (nI a9)), (13, .long (nJ w9)), (11, .long (nJ s9)), (9, .long (nJ (2 * p9))), (7, .long (nJ (2 * T))), (6, .int (nI n)), (5, .int (nI G0)), (4, .int (nI L0)), (3, .int (nI A.length)), (2, .ref (ad L 9)), (1, .int (nI T)), (0, .int (nI tq))]) hx hb dL_quantile_192 hl (by decide) rfl (fun ls hl => ?_)
            refine lv_iload_n hx hb dL_quantile_194 rfl (lv_at hl 19 rfl) ?_
            refine lv_i2l (v := (nI tq).toInt64) hx hb dL_quantile_195 rfl ?_
            refine cv_l (show ((nI tq).toInt64 : Int64) = nJ tq from nJ_i2l (by omega)) ?_
            refine lv_lload hx hb dL_quantile_196 (lv_at hl 0 rfl) ?_
            refine lv_lmul hx hb dL_quantile_198 ?_
            refine cv_l (show (nJ tq * nJ ((w9 * (wN (A.getD k hd0))) * ((2 * (1000 * a9 + 500 * wN (A.getD k hd0))) - (2 * p9))) : Int64) = nJ (tq * ((w9 * (wN (A.getD k hd0))) * ((2 * (1000 * a9 + 500 * wN (A.getD k hd0))) - (2 * p9)))) from nJ_mul _ _) ?_
            refine lv_lload hx hb dL_quantile_199 (lv_at hl 1 rfl) ?_
            refine lv_lcmpv hx hb dL_quantile_201 ?_
            refine lc_gt (tgt := 222) hx hb dL_quantile_202 (by decide) (fun c_202 => absurd c_202 (q_fin hsg hw w2 (by omega) (by omega) hw2 w3 (by omega) (by omega) (by omega) (by omega)).1) (fun c_202 => ?_)
            refine lv_iload_n hx hb dL_quantile_205 rfl (lv_at hl 19 rfl) ?_
            refine lv_i2l (v := (nI tq).toInt64) hx hb dL_quantile_206 rfl ?_
            refine cv_l (show ((nI tq).toInt64 : Int64) = nJ tq from nJ_i2l (by omega)) ?_
            refine lv_lconst (v := 1) hx hb dL_quantile_207 (by decide) ?_
            refine cv_l (show ((1 : Int64) : Int64) = nJ 1 from rfl) ?_
            refine lv_ladd hx hb dL_quantile_208 ?_
            refine cv_l (show (nJ tq + nJ 1 : Int64) = nJ (tq + 1) from nJ_add _ _) ?_
            refine lv_lload hx hb dL_quantile_209 (lv_at hl 0 rfl) ?_
            refine lv_lmul hx hb dL_quantile_211 ?_
            refine cv_l (show (nJ (tq + 1) * nJ ((w9 * (wN (A.getD k hd0))) * ((2 * (1000 * a9 + 500 * wN (A.getD k hd0))) - (2 * p9))) : Int64) = nJ ((tq + 1) * ((w9 * (wN (A.getD k hd0))) * ((2 * (1000 * a9 + 500 * wN (A.getD k hd0))) - (2 * p9)))) from nJ_mul _ _) ?_
            refine lv_lload hx hb dL_quantile_212 (lv_at hl 1 rfl) ?_
            refine lv_lcmpv hx hb dL_quantile_214 ?_
            refine lc_le (tgt := 222) hx hb dL_quantile_215 (by decide) (fun c_215 => absurd c_215 (q_fin hsg hw w2 (by omega) (by omega) hw2 w3 (by omega) (by omega) (by omega) (by omega)).2) (fun c_215 => ?_)
            refine lv_iconst (v := (nI 1)) hx hb dL_quantile_218 (by decide) ?_
            refine lv_goto (tgt := 223) hx hb dL_quantile_219 (by decide) ?_
            exact e_z9 S hK h hr hlk (Or.inr rfl) dL_quantile_223 hp
        · refine lv_lload hx hb dL_quantile_118 (lv_at hl 8 rfl) ?_
          refine lv_lload hx hb dL_quantile_120 (lv_at hl 2 rfl) ?_
          refine lv_lcmpv hx hb dL_quantile_122 ?_
          refine lc_gt (tgt := 141) hx hb dL_quantile_123 (by decide) (fun c_123 => ?_) (fun c_123 => ?_)
          · have hpl : 1000 * a9 + 500 * wN (A.getD k hd0) ≤ T := by have z := (nJ_lt (by omega) (by omega)).mp c_123; omega
            refine lv_iconst (v := (nI 0)) hx hb dL_quantile_141 (by decide) ?_
            refine lv_istore (lv' := [(23, .int (nI 0)), (21, .long (nJ (wN (A.getD k hd0)))), (19, .long (nJ (sN (A.getD k hd0)))), (17, .long (nJ (2 * (1000 * a9 + 500 * wN (A.getD k hd0))))), (16, .int (nI k)), (15, .int (nI a9)), (13, .long (nJ w9)), (11, .long (nJ s9)), (9, .long (nJ (2 * p9))), (7, .long (nJ (2 * T))), (6, .int (nI n)), (5, .int (nI G0)), (4, .int (nI L0)), (3, .int (nI A.length)), (2, .ref (ad L 9)), (1, .int (nI T)), (0, .int (nI tq))]) hx hb dL_quantile_142 hl (by decide) rfl (fun ls hl => ?_)
            refine lv_iload hx hb dL_quantile_144 (lv_at hl 0 rfl) ?_
            refine b_if_eq (tgt := 224) hx hb dL_quantile_146 (by decide) (by decide) (fun _ => ?_) (fun c9 => absurd c9 (by decide))
            refine lv_lload hx hb dL_quantile_224 (lv_at hl 3 rfl) ?_
            refine lv_lstore (lv' := [(9, .long (nJ (2 * (1000 * a9 + 500 * wN (A.getD k hd0))))), (23, .int (nI 0)), (21, .long (nJ (wN (A.getD k hd0)))), (19, .long (nJ (sN (A.getD k hd0)))), (17, .long (nJ (2 * (1000 * a9 + 500 * wN (A.getD k hd0))))), (16, .int (nI k)), (15, .int (nI a9)), (13, .long (nJ w9)), (11, .long (nJ s9)), (7, .long (nJ (2 * T))), (6, .int (nI n)), (5, .int (nI G0)), (4, .int (nI L0)), (3, .int (nI A.length)), (2, .ref (ad L 9)), (1, .int (nI T)), (0, .int (nI tq))]) hx hb dL_quantile_226 hl (by decide) rfl (fun ls hl => ?_)
            refine lv_lload hx hb dL_quantile_228 (lv_at hl 3 rfl) ?_
            refine lv_lstore (lv' := [(11, .long (nJ (sN (A.getD k hd0)))), (9, .long (nJ (2 * (1000 * a9 + 500 * wN (A.getD k hd0))))), (23, .int (nI 0)), (21, .long (nJ (wN (A.getD k hd0)))), (19, .long (nJ (sN (A.getD k hd0)))), (17, .long (nJ (2 * (1000 * a9 + 500 * wN (A.getD k hd0))))), (16, .int (nI k)), (15, .int (nI a9)), (13, .long (nJ w9)), (7, .long (nJ (2 * T))), (6, .int (nI n)), (5, .int (nI G0)), (4, .int (nI L0)), (3, .int (nI A.length)), (2, .ref (ad L 9)), (1, .int (nI T)), (0, .int (nI tq))]) hx hb dL_quantile_230 hl (by decide) rfl (fun ls hl => ?_)
            refine lv_lload hx hb dL_quantile_232 (lv_at hl 3 rfl) ?_
            refine lv_lstore (lv' := [(13, .long (nJ (wN (A.getD k hd0)))), (11, .long (nJ (sN (A.getD k hd0)))), (9, .long (nJ (2 * (1000 * a9 + 500 * wN (A.getD k hd0))))), (23, .int (nI 0)), (21, .long (nJ (wN (A.getD k hd0)))), (19, .long (nJ (sN (A.getD k hd0)))), (17, .long (nJ (2 * (1000 * a9 + 500 * wN (A.getD k hd0))))), (16, .int (nI k)), (15, .int (nI a9)), (7, .long (nJ (2 * T))), (6, .int (nI n)), (5, .int (nI G0)), (4, .int (nI L0)), (3, .int (nI A.length)), (2, .ref (ad L 9)), (1, .int (nI T)), (0, .int (nI tq))]) hx hb dL_quantile_234 hl (by decide) rfl (fun ls hl => ?_)
            refine lv_iload hx hb dL_quantile_236 (lv_at hl 8 rfl) ?_
            refine lv_aload_n hx hb dL_quantile_238 rfl (lv_at hl 14 rfl) ?_
            refine lv_iconst (v := (nI 4)) hx hb dL_quantile_239 (by decide) ?_
            refine lv_iload hx hb dL_quantile_240 (lv_at hl 7 rfl) ?_
            refine a_imul hx hb dL_quantile_242 ?_
            refine g9_el (n := 64) S hK h (by decide) rfl (by omega) dL_quantile_243 ?_
            refine cv_i (show (σ 9 (4 * k) : Int32) = nI (wN (A.getD k hd0)) from ew) ?_
            refine a_iadd hx hb dL_quantile_244 ?_
            refine lv_istore (lv' := [(15, .int (nI (a9 + (wN (A.getD k hd0))))), (13, .long (nJ (wN (A.getD k hd0)))), (11, .long (nJ (sN (A.getD k hd0)))), (9, .long (nJ (2 * (1000 * a9 + 500 * wN (A.getD k hd0))))), (23, .int (nI 0)), (21, .long (nJ (wN (A.getD k hd0)))), (19, .long (nJ (sN (A.getD k hd0)))), (17, .long (nJ (2 * (1000 * a9 + 500 * wN (A.getD k hd0))))), (16, .int (nI k)), (7, .long (nJ (2 * T))), (6, .int (nI n)), (5, .int (nI G0)), (4, .int (nI L0)), (3, .int (nI A.length)), (2, .ref (ad L 9)), (1, .int (nI T)), (0, .int (nI tq))]) hx hb dL_quantile_245 hl (by decide) rfl (fun ls hl => ?_)
            refine lv_iinc (v := (nI (k + 1))) (lv' := [(16, .int (nI (k + 1))), (15, .int (nI (a9 + (wN (A.getD k hd0))))), (13, .long (nJ (wN (A.getD k hd0)))), (11, .long (nJ (sN (A.getD k hd0)))), (9, .long (nJ (2 * (1000 * a9 + 500 * wN (A.getD k hd0))))), (23, .int (nI 0)), (21, .long (nJ (wN (A.getD k hd0)))), (19, .long (nJ (sN (A.getD k hd0)))), (17, .long (nJ (2 * (1000 * a9 + 500 * wN (A.getD k hd0))))), (7, .long (nJ (2 * T))), (6, .int (nI n)), (5, .int (nI G0)), (4, .int (nI L0)), (3, .int (nI A.length)), (2, .ref (ad L 9)), (1, .int (nI T)), (0, .int (nI tq))]) hx hb dL_quantile_247 hl (k := 8) rfl (iinc_1 _) (by decide) rfl (fun ls hl => ?_)
            refine lv_goto (tgt := 25) hx hb dL_quantile_250 (by decide) ?_
            exact ih_25 (k + 1) (1000 * a9 + 500 * wN (A.getD k hd0)) (sN (A.getD k hd0)) (wN (A.getD k hd0)) (a9 + (wN (A.getD k hd0))) (by omega) hc.2.2 hc.2.1 w3 (by omega) (by omega) (by have z : a9 + (wN (A.getD k hd0) + psum ((A.drop (k + 1)).map pr)) = n := hsum; omega) (by have z : a9 + (wN (A.getD k hd0) + psum ((A.drop (k + 1)).map pr)) = n := hsum; omega) hpl (hqv.trans (qN_step hc hw hp1 hsum hpl)) (by omega) _ _ _ h (lv_sub hl [0, 1, 2, 3, 4, 9, 10, 11, 12, 13, 14, 15, 16] rfl)
          · have hsg : tq = seg s9 w9 p9 (sN (A.getD k hd0)) (wN (A.getD k hd0)) (1000 * a9 + 500 * wN (A.getD k hd0)) T := by rw [hqv, qN, if_pos (by have z := (nJ_le (by omega) (by omega)).mp c_123; show T ≤ 1000 * a9 + 500 * wN (A.getD k hd0); omega)]
            refine lv_goto (tgt := 137) hx hb dL_quantile_126 (by decide) ?_
            refine lv_iconst (v := (nI 1)) hx hb dL_quantile_137 (by decide) ?_
            refine lv_goto (tgt := 142) hx hb dL_quantile_138 (by decide) ?_
            refine lv_istore (lv' := [(23, .int (nI 1)), (21, .long (nJ (wN (A.getD k hd0)))), (19, .long (nJ (sN (A.getD k hd0)))), (17, .long (nJ (2 * (1000 * a9 + 500 * wN (A.getD k hd0))))), (16, .int (nI k)), (15, .int (nI a9)), (13, .long (nJ w9)), (11, .long (nJ s9)), (9, .long (nJ (2 * p9))), (7, .long (nJ (2 * T))), (6, .int (nI n)), (5, .int (nI G0)), (4, .int (nI L0)), (3, .int (nI A.length)), (2, .ref (ad L 9)), (1, .int (nI T)), (0, .int (nI tq))]) hx hb dL_quantile_142 hl (by decide) rfl (fun ls hl => ?_)
            refine lv_iload hx hb dL_quantile_144 (lv_at hl 0 rfl) ?_
            refine b_if_eq (tgt := 224) hx hb dL_quantile_146 (by decide) (by decide) (fun c9 => absurd c9 (by decide)) (fun _ => ?_)
            refine lv_lload hx hb dL_quantile_149 (lv_at hl 3 rfl) ?_
            refine lv_lload hx hb dL_quantile_151 (lv_at hl 8 rfl) ?_
            refine lv_lsub hx hb dL_quantile_153 ?_
            refine cv_l (show (nJ (2 * (1000 * a9 + 500 * wN (A.getD k hd0))) - nJ (2 * p9) : Int64) = nJ ((2 * (1000 * a9 + 500 * wN (A.getD k hd0))) - (2 * p9)) from nJ_sub (by omega)) ?_
            refine lv_lstore (lv' := [(24, .long (nJ ((2 * (1000 * a9 + 500 * wN (A.getD k hd0))) - (2 * p9)))), (23, .int (nI 1)), (21, .long (nJ (wN (A.getD k hd0)))), (19, .long (nJ (sN (A.getD k hd0)))), (17, .long (nJ (2 * (1000 * a9 + 500 * wN (A.getD k hd0))))), (16, .int (nI k)), (15, .int (nI a9)), (13, .long (nJ w9)), (11, .long (nJ s9)), (9, .long (nJ (2 * p9))), (7, .long (nJ (2 * T))), (6, .int (nI n)), (5, .int (nI G0)), (4, .int (nI L0)), (3, .int (nI A.length)), (2, .ref (ad L 9)), (1, .int (nI T)), (0, .int (nI tq))]) hx hb dL_quantile_154 hl (by decide) rfl (fun ls hl => ?_)
            refine lv_lload hx hb dL_quantile_156 (lv_at hl 8 rfl) ?_
            refine lv_lload hx hb dL_quantile_158 (lv_at hl 2 rfl) ?_
            refine lv_lmul hx hb dL_quantile_160 ?_
            refine cv_l (show (nJ s9 * nJ (wN (A.getD k hd0)) : Int64) = nJ (s9 * (wN (A.getD k hd0))) from nJ_mul _ _) ?_
            refine lv_lload hx hb dL_quantile_161 (lv_at hl 0 rfl) ?_
            refine lv_lmul hx hb dL_quantile_163 ?_
            refine cv_l (show (nJ (s9 * (wN (A.getD k hd0))) * nJ ((2 * (1000 * a9 + 500 * wN (A.getD k hd0))) - (2 * p9)) : Int64) = nJ ((s9 * (wN (A.getD k hd0))) * ((2 * (1000 * a9 + 500 * wN (A.getD k hd0))) - (2 * p9))) from nJ_mul _ _) ?_
            refine lv_lload hx hb dL_quantile_164 (lv_at hl 3 rfl) ?_
            refine lv_lload hx hb dL_quantile_166 (lv_at hl 7 rfl) ?_
            refine lv_lmul hx hb dL_quantile_168 ?_
            refine cv_l (show (nJ (sN (A.getD k hd0)) * nJ w9 : Int64) = nJ ((sN (A.getD k hd0)) * w9) from nJ_mul _ _) ?_
            refine lv_lload hx hb dL_quantile_169 (lv_at hl 8 rfl) ?_
            refine lv_lload hx hb dL_quantile_171 (lv_at hl 2 rfl) ?_
            refine lv_lmul hx hb dL_quantile_173 ?_
            refine cv_l (show (nJ s9 * nJ (wN (A.getD k hd0)) : Int64) = nJ (s9 * (wN (A.getD k hd0))) from nJ_mul _ _) ?_
            refine lv_lsub hx hb dL_quantile_174 ?_
            refine cv_l (show (nJ ((sN (A.getD k hd0)) * w9) - nJ (s9 * (wN (A.getD k hd0))) : Int64) = nJ (((sN (A.getD k hd0)) * w9) - (s9 * (wN (A.getD k hd0)))) from nJ_sub hc1) ?_
            refine lv_lload hx hb dL_quantile_175 (lv_at hl 10 rfl) ?_
            refine lv_lload hx hb dL_quantile_177 (lv_at hl 9 rfl) ?_
            refine lv_lsub hx hb dL_quantile_179 ?_
            refine cv_l (show (nJ (2 * T) - nJ (2 * p9) : Int64) = nJ ((2 * T) - (2 * p9)) from nJ_sub (by omega)) ?_
            refine lv_lmul hx hb dL_quantile_180 ?_
            refine cv_l (show (nJ (((sN (A.getD k hd0)) * w9) - (s9 * (wN (A.getD k hd0)))) * nJ ((2 * T) - (2 * p9)) : Int64) = nJ ((((sN (A.getD k hd0)) * w9) - (s9 * (wN (A.getD k hd0)))) * ((2 * T) - (2 * p9))) from nJ_mul _ _) ?_
            refine lv_ladd hx hb dL_quantile_181 ?_
            refine cv_l (show (nJ ((s9 * (wN (A.getD k hd0))) * ((2 * (1000 * a9 + 500 * wN (A.getD k hd0))) - (2 * p9))) + nJ ((((sN (A.getD k hd0)) * w9) - (s9 * (wN (A.getD k hd0)))) * ((2 * T) - (2 * p9))) : Int64) = nJ (((s9 * (wN (A.getD k hd0))) * ((2 * (1000 * a9 + 500 * wN (A.getD k hd0))) - (2 * p9))) + ((((sN (A.getD k hd0)) * w9) - (s9 * (wN (A.getD k hd0)))) * ((2 * T) - (2 * p9)))) from nJ_add _ _) ?_
            refine lv_lstore (lv' := [(26, .long (nJ (((s9 * (wN (A.getD k hd0))) * ((2 * (1000 * a9 + 500 * wN (A.getD k hd0))) - (2 * p9))) + ((((sN (A.getD k hd0)) * w9) - (s9 * (wN (A.getD k hd0)))) * ((2 * T) - (2 * p9)))))), (24, .long (nJ ((2 * (1000 * a9 + 500 * wN (A.getD k hd0))) - (2 * p9)))), (23, .int (nI 1)), (21, .long (nJ (wN (A.getD k hd0)))), (19, .long (nJ (sN (A.getD k hd0)))), (17, .long (nJ (2 * (1000 * a9 + 500 * wN (A.getD k hd0))))), (16, .int (nI k)), (15, .int (nI a9)), (13, .long (nJ w9)), (11, .long (nJ s9)), (9, .long (nJ (2 * p9))), (7, .long (nJ (2 * T))), (6, .int (nI n)), (5, .int (nI G0)), (4, .int (nI L0)), (3, .int (nI A.length)), (2, .ref (ad L 9)), (1, .int (nI T)), (0, .int (nI tq))]) hx hb dL_quantile_182 hl (by decide) rfl (fun ls hl => ?_)
            refine lv_lload hx hb dL_quantile_184 (lv_at hl 8 rfl) ?_
            refine lv_lload hx hb dL_quantile_186 (lv_at hl 3 rfl) ?_
            refine lv_lmul hx hb dL_quantile_188 ?_
            refine cv_l (show (nJ w9 * nJ (wN (A.getD k hd0)) : Int64) = nJ (w9 * (wN (A.getD k hd0))) from nJ_mul _ _) ?_
            refine lv_lload hx hb dL_quantile_189 (lv_at hl 1 rfl) ?_
            refine lv_lmul hx hb dL_quantile_191 ?_
            refine cv_l (show (nJ (w9 * (wN (A.getD k hd0))) * nJ ((2 * (1000 * a9 + 500 * wN (A.getD k hd0))) - (2 * p9)) : Int64) = nJ ((w9 * (wN (A.getD k hd0))) * ((2 * (1000 * a9 + 500 * wN (A.getD k hd0))) - (2 * p9))) from nJ_mul _ _) ?_
            refine lv_lstore (lv' := [(28, .long (nJ ((w9 * (wN (A.getD k hd0))) * ((2 * (1000 * a9 + 500 * wN (A.getD k hd0))) - (2 * p9))))), (26, .long (nJ (((s9 * (wN (A.getD k hd0))) * ((2 * (1000 * a9 + 500 * wN (A.getD k hd0))) - (2 * p9))) + ((((sN (A.getD k hd0)) * w9) - (s9 * (wN (A.getD k hd0)))) * ((2 * T) - (2 * p9)))))), (24, .long (nJ ((2 * (1000 * a9 + 500 * wN (A.getD k hd0))) - (2 * p9)))), (23, .int (nI 1)), (21, .long (nJ (wN (A.getD k hd0)))), (19, .long (nJ (sN (A.getD k hd0)))), (17, .long (nJ (2 * (1000 * a9 + 500 * wN (A.getD k hd0))))), (16, .int (nI k)), (15, .int (nI a9)), (13, .long (nJ w9)), (11, .long (nJ s9)), (9, .long (nJ (2 * p9))), (7, .long (nJ (2 * T))), (6, .int (nI n)), (5, .int (nI G0)), (4, .int (nI L0)), (3, .int (nI A.length)), (2, .ref (ad L 9)), (1, .int (nI T)), (0, .int (nI tq))]) hx hb dL_quantile_192 hl (by decide) rfl (fun ls hl => ?_)
            refine lv_iload_n hx hb dL_quantile_194 rfl (lv_at hl 19 rfl) ?_
            refine lv_i2l (v := (nI tq).toInt64) hx hb dL_quantile_195 rfl ?_
            refine cv_l (show ((nI tq).toInt64 : Int64) = nJ tq from nJ_i2l (by omega)) ?_
            refine lv_lload hx hb dL_quantile_196 (lv_at hl 0 rfl) ?_
            refine lv_lmul hx hb dL_quantile_198 ?_
            refine cv_l (show (nJ tq * nJ ((w9 * (wN (A.getD k hd0))) * ((2 * (1000 * a9 + 500 * wN (A.getD k hd0))) - (2 * p9))) : Int64) = nJ (tq * ((w9 * (wN (A.getD k hd0))) * ((2 * (1000 * a9 + 500 * wN (A.getD k hd0))) - (2 * p9)))) from nJ_mul _ _) ?_
            refine lv_lload hx hb dL_quantile_199 (lv_at hl 1 rfl) ?_
            refine lv_lcmpv hx hb dL_quantile_201 ?_
            refine lc_gt (tgt := 222) hx hb dL_quantile_202 (by decide) (fun c_202 => absurd c_202 (q_fin hsg hw w2 (by omega) (by omega) hw2 w3 (by omega) (by omega) (by omega) (by omega)).1) (fun c_202 => ?_)
            refine lv_iload_n hx hb dL_quantile_205 rfl (lv_at hl 19 rfl) ?_
            refine lv_i2l (v := (nI tq).toInt64) hx hb dL_quantile_206 rfl ?_
            refine cv_l (show ((nI tq).toInt64 : Int64) = nJ tq from nJ_i2l (by omega)) ?_
            refine lv_lconst (v := 1) hx hb dL_quantile_207 (by decide) ?_
            refine cv_l (show ((1 : Int64) : Int64) = nJ 1 from rfl) ?_
            refine lv_ladd hx hb dL_quantile_208 ?_
            refine cv_l (show (nJ tq + nJ 1 : Int64) = nJ (tq + 1) from nJ_add _ _) ?_
            refine lv_lload hx hb dL_quantile_209 (lv_at hl 0 rfl) ?_
            refine lv_lmul hx hb dL_quantile_211 ?_
            refine cv_l (show (nJ (tq + 1) * nJ ((w9 * (wN (A.getD k hd0))) * ((2 * (1000 * a9 + 500 * wN (A.getD k hd0))) - (2 * p9))) : Int64) = nJ ((tq + 1) * ((w9 * (wN (A.getD k hd0))) * ((2 * (1000 * a9 + 500 * wN (A.getD k hd0))) - (2 * p9)))) from nJ_mul _ _) ?_
            refine lv_lload hx hb dL_quantile_212 (lv_at hl 1 rfl) ?_
            refine lv_lcmpv hx hb dL_quantile_214 ?_
            refine lc_le (tgt := 222) hx hb dL_quantile_215 (by decide) (fun c_215 => absurd c_215 (q_fin hsg hw w2 (by omega) (by omega) hw2 w3 (by omega) (by omega) (by omega) (by omega)).2) (fun c_215 => ?_)
            refine lv_iconst (v := (nI 1)) hx hb dL_quantile_218 (by decide) ?_
            refine lv_goto (tgt := 223) hx hb dL_quantile_219 (by decide) ?_
            exact e_z9 S hK h hr hlk (Or.inr rfl) dL_quantile_223 hp
      · have ed : A.drop k = [] := List.drop_of_length_le (by omega)
        rw [ed] at hc hqv hsum
        have hc1 : s9 * 1 ≤ G0 * w9 := by rw [List.map_nil, Ch] at hc; rw [Nat.mul_one]; exact hc
        have hsg : tq = seg s9 w9 p9 G0 1 (1000 * n) T := by rw [hqv, List.map_nil, qN]
        refine lv_ldc2 (v := (2000 : Int64)) hx hb S.2.2.2.1 (S.2.2.2.2 _ q_524) dL_quantile_37 ?_
        refine cv_l (show ((2000 : Int64) : Int64) = nJ 2000 from rfl) ?_
        refine lv_iload hx hb dL_quantile_40 (lv_at hl 6 rfl) ?_
        refine lv_i2l (v := (nI n).toInt64) hx hb dL_quantile_42 rfl ?_
        refine cv_l (show ((nI n).toInt64 : Int64) = nJ n from nJ_i2l (by omega)) ?_
        refine lv_lmul hx hb dL_quantile_43 ?_
        refine cv_l (show (nJ 2000 * nJ n : Int64) = nJ (2000 * n) from nJ_mul _ _) ?_
        refine lv_goto (tgt := 63) hx hb dL_quantile_44 (by decide) ?_
        refine cv_l (show (nJ (2000 * n) : Int64) = nJ (2 * (1000 * n)) from (by congr 1; omega)) ?_
        refine lv_lstore (lv' := [(17, .long (nJ (2 * (1000 * n)))), (16, .int (nI k)), (15, .int (nI a9)), (13, .long (nJ w9)), (11, .long (nJ s9)), (9, .long (nJ (2 * p9))), (7, .long (nJ (2 * T))), (6, .int (nI n)), (5, .int (nI G0)), (4, .int (nI L0)), (3, .int (nI A.length)), (2, .ref (ad L 9)), (1, .int (nI T)), (0, .int (nI tq))]) hx hb dL_quantile_63 hl (by decide) rfl (fun ls hl => ?_)
        refine lv_iload hx hb dL_quantile_65 (lv_at hl 1 rfl) ?_
        refine lv_iload_n hx hb dL_quantile_67 rfl (lv_at hl 10 rfl) ?_
        refine b_icmp_ne (tgt := 77) hx hb dL_quantile_68 (by decide) (by omega) (by omega) (fun c_68 => absurd c_68 (by omega)) (fun c_68 => ?_)
        refine lv_iload hx hb dL_quantile_71 (lv_at hl 8 rfl) ?_
        refine lv_i2l (v := (nI G0).toInt64) hx hb dL_quantile_73 rfl ?_
        refine cv_l (show ((nI G0).toInt64 : Int64) = nJ G0 from nJ_i2l (by omega)) ?_
        refine lv_goto (tgt := 86) hx hb dL_quantile_74 (by decide) ?_
        refine lv_lstore (lv' := [(19, .long (nJ G0)), (17, .long (nJ (2 * (1000 * n)))), (16, .int (nI k)), (15, .int (nI a9)), (13, .long (nJ w9)), (11, .long (nJ s9)), (9, .long (nJ (2 * p9))), (7, .long (nJ (2 * T))), (6, .int (nI n)), (5, .int (nI G0)), (4, .int (nI L0)), (3, .int (nI A.length)), (2, .ref (ad L 9)), (1, .int (nI T)), (0, .int (nI tq))]) hx hb dL_quantile_86 hl (by decide) rfl (fun ls hl => ?_)
        refine lv_iload hx hb dL_quantile_88 (lv_at hl 2 rfl) ?_
        refine lv_iload_n hx hb dL_quantile_90 rfl (lv_at hl 11 rfl) ?_
        refine b_icmp_ne (tgt := 98) hx hb dL_quantile_91 (by decide) (by omega) (by omega) (fun c_91 => absurd c_91 (by omega)) (fun c_91 => ?_)
        refine lv_lconst (v := 1) hx hb dL_quantile_94 (by decide) ?_
        refine cv_l (show ((1 : Int64) : Int64) = nJ 1 from rfl) ?_
        refine lv_goto (tgt := 105) hx hb dL_quantile_95 (by decide) ?_
        refine lv_lstore (lv' := [(21, .long (nJ 1)), (19, .long (nJ G0)), (17, .long (nJ (2 * (1000 * n)))), (16, .int (nI k)), (15, .int (nI a9)), (13, .long (nJ w9)), (11, .long (nJ s9)), (9, .long (nJ (2 * p9))), (7, .long (nJ (2 * T))), (6, .int (nI n)), (5, .int (nI G0)), (4, .int (nI L0)), (3, .int (nI A.length)), (2, .ref (ad L 9)), (1, .int (nI T)), (0, .int (nI tq))]) hx hb dL_quantile_105 hl (by decide) rfl (fun ls hl => ?_)
        refine lv_iload hx hb dL_quantile_107 (lv_at hl 3 rfl) ?_
        refine lv_iload_n hx hb dL_quantile_109 rfl (lv_at hl 12 rfl) ?_
        refine b_icmp_eq (tgt := 137) hx hb dL_quantile_110 (by decide) (by omega) (by omega) (fun c_110 => ?_) (fun c_110 => absurd c_110 (by omega))
        refine lv_iconst (v := (nI 1)) hx hb dL_quantile_137 (by decide) ?_
        refine lv_goto (tgt := 142) hx hb dL_quantile_138 (by decide) ?_
        refine lv_istore (lv' := [(23, .int (nI 1)), (21, .long (nJ 1)), (19, .long (nJ G0)), (17, .long (nJ (2 * (1000 * n)))), (16, .int (nI k)), (15, .int (nI a9)), (13, .long (nJ w9)), (11, .long (nJ s9)), (9, .long (nJ (2 * p9))), (7, .long (nJ (2 * T))), (6, .int (nI n)), (5, .int (nI G0)), (4, .int (nI L0)), (3, .int (nI A.length)), (2, .ref (ad L 9)), (1, .int (nI T)), (0, .int (nI tq))]) hx hb dL_quantile_142 hl (by decide) rfl (fun ls hl => ?_)
        refine lv_iload hx hb dL_quantile_144 (lv_at hl 0 rfl) ?_
        refine b_if_eq (tgt := 224) hx hb dL_quantile_146 (by decide) (by decide) (fun c9 => absurd c9 (by decide)) (fun _ => ?_)
        refine lv_lload hx hb dL_quantile_149 (lv_at hl 3 rfl) ?_
        refine lv_lload hx hb dL_quantile_151 (lv_at hl 8 rfl) ?_
        refine lv_lsub hx hb dL_quantile_153 ?_
        refine cv_l (show (nJ (2 * (1000 * n)) - nJ (2 * p9) : Int64) = nJ ((2 * (1000 * n)) - (2 * p9)) from nJ_sub (by omega)) ?_
        refine lv_lstore (lv' := [(24, .long (nJ ((2 * (1000 * n)) - (2 * p9)))), (23, .int (nI 1)), (21, .long (nJ 1)), (19, .long (nJ G0)), (17, .long (nJ (2 * (1000 * n)))), (16, .int (nI k)), (15, .int (nI a9)), (13, .long (nJ w9)), (11, .long (nJ s9)), (9, .long (nJ (2 * p9))), (7, .long (nJ (2 * T))), (6, .int (nI n)), (5, .int (nI G0)), (4, .int (nI L0)), (3, .int (nI A.length)), (2, .ref (ad L 9)), (1, .int (nI T)), (0, .int (nI tq))]) hx hb dL_quantile_154 hl (by decide) rfl (fun ls hl => ?_)
        refine lv_lload hx hb dL_quantile_156 (lv_at hl 8 rfl) ?_
        refine lv_lload hx hb dL_quantile_158 (lv_at hl 2 rfl) ?_
        refine lv_lmul hx hb dL_quantile_160 ?_
        refine cv_l (show (nJ s9 * nJ 1 : Int64) = nJ (s9 * 1) from nJ_mul _ _) ?_
        refine lv_lload hx hb dL_quantile_161 (lv_at hl 0 rfl) ?_
        refine lv_lmul hx hb dL_quantile_163 ?_
        refine cv_l (show (nJ (s9 * 1) * nJ ((2 * (1000 * n)) - (2 * p9)) : Int64) = nJ ((s9 * 1) * ((2 * (1000 * n)) - (2 * p9))) from nJ_mul _ _) ?_
        refine lv_lload hx hb dL_quantile_164 (lv_at hl 3 rfl) ?_
        refine lv_lload hx hb dL_quantile_166 (lv_at hl 7 rfl) ?_
        refine lv_lmul hx hb dL_quantile_168 ?_
        refine cv_l (show (nJ G0 * nJ w9 : Int64) = nJ (G0 * w9) from nJ_mul _ _) ?_
        refine lv_lload hx hb dL_quantile_169 (lv_at hl 8 rfl) ?_
        refine lv_lload hx hb dL_quantile_171 (lv_at hl 2 rfl) ?_
        refine lv_lmul hx hb dL_quantile_173 ?_
        refine cv_l (show (nJ s9 * nJ 1 : Int64) = nJ (s9 * 1) from nJ_mul _ _) ?_
        refine lv_lsub hx hb dL_quantile_174 ?_
        refine cv_l (show (nJ (G0 * w9) - nJ (s9 * 1) : Int64) = nJ ((G0 * w9) - (s9 * 1)) from nJ_sub hc1) ?_
        refine lv_lload hx hb dL_quantile_175 (lv_at hl 10 rfl) ?_
        refine lv_lload hx hb dL_quantile_177 (lv_at hl 9 rfl) ?_
        refine lv_lsub hx hb dL_quantile_179 ?_
        refine cv_l (show (nJ (2 * T) - nJ (2 * p9) : Int64) = nJ ((2 * T) - (2 * p9)) from nJ_sub (by omega)) ?_
        refine lv_lmul hx hb dL_quantile_180 ?_
        refine cv_l (show (nJ ((G0 * w9) - (s9 * 1)) * nJ ((2 * T) - (2 * p9)) : Int64) = nJ (((G0 * w9) - (s9 * 1)) * ((2 * T) - (2 * p9))) from nJ_mul _ _) ?_
        refine lv_ladd hx hb dL_quantile_181 ?_
        refine cv_l (show (nJ ((s9 * 1) * ((2 * (1000 * n)) - (2 * p9))) + nJ (((G0 * w9) - (s9 * 1)) * ((2 * T) - (2 * p9))) : Int64) = nJ (((s9 * 1) * ((2 * (1000 * n)) - (2 * p9))) + (((G0 * w9) - (s9 * 1)) * ((2 * T) - (2 * p9)))) from nJ_add _ _) ?_
        refine lv_lstore (lv' := [(26, .long (nJ (((s9 * 1) * ((2 * (1000 * n)) - (2 * p9))) + (((G0 * w9) - (s9 * 1)) * ((2 * T) - (2 * p9)))))), (24, .long (nJ ((2 * (1000 * n)) - (2 * p9)))), (23, .int (nI 1)), (21, .long (nJ 1)), (19, .long (nJ G0)), (17, .long (nJ (2 * (1000 * n)))), (16, .int (nI k)), (15, .int (nI a9)), (13, .long (nJ w9)), (11, .long (nJ s9)), (9, .long (nJ (2 * p9))), (7, .long (nJ (2 * T))), (6, .int (nI n)), (5, .int (nI G0)), (4, .int (nI L0)), (3, .int (nI A.length)), (2, .ref (ad L 9)), (1, .int (nI T)), (0, .int (nI tq))]) hx hb dL_quantile_182 hl (by decide) rfl (fun ls hl => ?_)
        refine lv_lload hx hb dL_quantile_184 (lv_at hl 8 rfl) ?_
        refine lv_lload hx hb dL_quantile_186 (lv_at hl 3 rfl) ?_
        refine lv_lmul hx hb dL_quantile_188 ?_
        refine cv_l (show (nJ w9 * nJ 1 : Int64) = nJ (w9 * 1) from nJ_mul _ _) ?_
        refine lv_lload hx hb dL_quantile_189 (lv_at hl 1 rfl) ?_
        refine lv_lmul hx hb dL_quantile_191 ?_
        refine cv_l (show (nJ (w9 * 1) * nJ ((2 * (1000 * n)) - (2 * p9)) : Int64) = nJ ((w9 * 1) * ((2 * (1000 * n)) - (2 * p9))) from nJ_mul _ _) ?_
        refine lv_lstore (lv' := [(28, .long (nJ ((w9 * 1) * ((2 * (1000 * n)) - (2 * p9))))), (26, .long (nJ (((s9 * 1) * ((2 * (1000 * n)) - (2 * p9))) + (((G0 * w9) - (s9 * 1)) * ((2 * T) - (2 * p9)))))), (24, .long (nJ ((2 * (1000 * n)) - (2 * p9)))), (23, .int (nI 1)), (21, .long (nJ 1)), (19, .long (nJ G0)), (17, .long (nJ (2 * (1000 * n)))), (16, .int (nI k)), (15, .int (nI a9)), (13, .long (nJ w9)), (11, .long (nJ s9)), (9, .long (nJ (2 * p9))), (7, .long (nJ (2 * T))), (6, .int (nI n)), (5, .int (nI G0)), (4, .int (nI L0)), (3, .int (nI A.length)), (2, .ref (ad L 9)), (1, .int (nI T)), (0, .int (nI tq))]) hx hb dL_quantile_192 hl (by decide) rfl (fun ls hl => ?_)
        refine lv_iload_n hx hb dL_quantile_194 rfl (lv_at hl 19 rfl) ?_
        refine lv_i2l (v := (nI tq).toInt64) hx hb dL_quantile_195 rfl ?_
        refine cv_l (show ((nI tq).toInt64 : Int64) = nJ tq from nJ_i2l (by omega)) ?_
        refine lv_lload hx hb dL_quantile_196 (lv_at hl 0 rfl) ?_
        refine lv_lmul hx hb dL_quantile_198 ?_
        refine cv_l (show (nJ tq * nJ ((w9 * 1) * ((2 * (1000 * n)) - (2 * p9))) : Int64) = nJ (tq * ((w9 * 1) * ((2 * (1000 * n)) - (2 * p9)))) from nJ_mul _ _) ?_
        refine lv_lload hx hb dL_quantile_199 (lv_at hl 1 rfl) ?_
        refine lv_lcmpv hx hb dL_quantile_201 ?_
        refine lc_gt (tgt := 222) hx hb dL_quantile_202 (by decide) (fun c_202 => absurd c_202 (q_fin hsg hw (by omega) hp2 (by omega) hw2 (by omega) (by omega) (by omega) (by omega) (by omega)).1) (fun c_202 => ?_)
        refine lv_iload_n hx hb dL_quantile_205 rfl (lv_at hl 19 rfl) ?_
        refine lv_i2l (v := (nI tq).toInt64) hx hb dL_quantile_206 rfl ?_
        refine cv_l (show ((nI tq).toInt64 : Int64) = nJ tq from nJ_i2l (by omega)) ?_
        refine lv_lconst (v := 1) hx hb dL_quantile_207 (by decide) ?_
        refine cv_l (show ((1 : Int64) : Int64) = nJ 1 from rfl) ?_
        refine lv_ladd hx hb dL_quantile_208 ?_
        refine cv_l (show (nJ tq + nJ 1 : Int64) = nJ (tq + 1) from nJ_add _ _) ?_
        refine lv_lload hx hb dL_quantile_209 (lv_at hl 0 rfl) ?_
        refine lv_lmul hx hb dL_quantile_211 ?_
        refine cv_l (show (nJ (tq + 1) * nJ ((w9 * 1) * ((2 * (1000 * n)) - (2 * p9))) : Int64) = nJ ((tq + 1) * ((w9 * 1) * ((2 * (1000 * n)) - (2 * p9)))) from nJ_mul _ _) ?_
        refine lv_lload hx hb dL_quantile_212 (lv_at hl 1 rfl) ?_
        refine lv_lcmpv hx hb dL_quantile_214 ?_
        refine lc_le (tgt := 222) hx hb dL_quantile_215 (by decide) (fun c_215 => absurd c_215 (q_fin hsg hw (by omega) hp2 (by omega) hw2 (by omega) (by omega) (by omega) (by omega) (by omega)).2) (fun c_215 => ?_)
        refine lv_iconst (v := (nI 1)) hx hb dL_quantile_218 (by decide) ?_
        refine lv_goto (tgt := 223) hx hb dL_quantile_219 (by decide) ?_
        exact e_z9 S hK h hr hlk (Or.inr rfl) dL_quantile_223 hp
  exact LP_25 _ 0 0 L0 1 0 (by omega) (by rw [List.drop_zero]; exact hch) (by omega) (by omega) (by omega) (by omega) (by omega) (by rw [List.drop_zero, hps]; omega) (by omega) (by rw [List.drop_zero]; exact hqv0) (Nat.lt_succ_self _) _ _ _ h (lv_sub hl [0, 1, 2, 3, 4, 5, 12, 11, 10, 9, 8, 7, 6] rfl)
