abbrev rL_pack : Room := { frames := 2, cells := 0, slots := 0, locals := 54 }
theorem yd_L_pack : ydV yL_pack RL 4 := ⟨rfl, by decide +kernel, by decide +kernel, by decide +kernel⟩
set_option maxHeartbeats 4000000 in
set_option maxRecDepth 100000 in
theorem c_L_pack (l : Launch) (Lc L : Lay) (X : SS) (hh : List SS) (σ : Me) {d : Nat} {D : Dg} (hd : d < 2) (hD : LD σ d D) (hG : GD D) (hl9 : D.1.length + D.2.1.length ≤ 16) : Mg9 l Lc L X hh yL_pack (Cond.code yL_pack cL_pack 6 none :: qA) rL_pack [.ref (ad L (1 + d)), .ref (ad L (3 + d)), .ref (ad L (7 + d)), .ref (ad L 0)] σ (fun r u => r = none ∧ (LD u d (pkD (σ 0 0) D) ∧ ∀ k, k ≠ 1 + d → k ≠ 7 + d → u k = σ k)) := by
  refine Mr9_ofW (by decide) (Nat.le_of_ble_eq_true rfl) ?_
  intro p e s m args below meth c ls post hp hV S hr hlk hK h hl
  have hx := S.1
  have hb := S.2.1
  have hl : lv_has ls 6 [(0, .ref (ad L (1 + d))), (1, .ref (ad L (3 + d))), (2, .ref (ad L (7 + d))), (3, .ref (ad L 0))] := hl
  have hb20 : D.2.1.length ≤ 20 := by omega
  obtain ⟨gA, gS⟩ := GD_all hG
  refine lv_iconst (v := (nI 0)) hx hb dL_pack_0 (by decide) ?_
  refine lv_istore (lv' := [(4, .int (nI 0)), (0, .ref (ad L (1 + d))), (1, .ref (ad L (3 + d))), (2, .ref (ad L (7 + d))), (3, .ref (ad L 0))]) hx hb dL_pack_1 hl (by decide) rfl (fun ls hl => ?_)
  have LP_3 : ∀ (n_3 : Nat) (k : Nat) (σ1 : Me), (k ≤ D.2.1.length) → (HA (σ1 (1 + d)) (D.1 ++ (D.2.1.take k).map hunit)) → (σ1 (7 + d) 0 = nI (D.1.length + k)) → (∀ q, q ≠ 1 + d → q ≠ 7 + d → σ1 q = σ q) → (∀ i, i ≠ 0 → σ1 (7 + d) i = σ (7 + d) i) → D.2.1.length - k < n_3 → ∀ (H : Heap) (locs : List Loc) (ls : Array Slot), Hd9 Lc L X hh s.heap H σ1 locs → lv_has ls 6 [(4, .int (nI k)), (3, .ref (ad L 0)), (2, .ref (ad L (7 + d))), (1, .ref (ad L (3 + d))), (0, .ref (ad L (1 + d)))] → W p l e rL_pack s m args below meth c H locs 0 0 (MQ below (Qg post (bs9 Lc L X hh) (A9 Lc L)) args s 0 0 (A9 Lc L)) (F0 m 3 ls []) := by
    intro n_3
    induction n_3 with
    | zero => intro k σ1; intros; omega
    | succ n_3 ih_3 =>
      intro k σ1 hk hH hn0 ho hn hm_3 H locs ls h hl
      refine lv_iload hx hb dL_pack_3 (lv_at hl 0 rfl) ?_
      refine lv_aload_n hx hb dL_pack_5 rfl (lv_at hl 2 rfl) ?_
      refine lv_iconst (v := (nI 1)) hx hb dL_pack_6 (by decide) ?_
      refine g9_el (n := 4) S hK h (by omega) (ln9_7 hd) (by omega) dL_pack_7 ?_
      refine cv_i (show (σ1 (7 + d) 1 : Int32) = nI D.2.1.length from (by rw [hn 1 (by omega)]; exact hD.2.2.2.2.1)) ?_
      refine b_icmp_ge (tgt := 64) hx hb dL_pack_8 (by decide) (by omega) (by omega) (fun c_8 => ?_) (fun c_8 => ?_)
      · have e4 : k = D.2.1.length := by omega
        refine lv_aload_n hx hb dL_pack_64 rfl (lv_at hl 2 rfl) ?_
        rw [e4, List.take_length] at hH
        refine lv_iconst (v := (nI 0)) hx hb dL_pack_65 (by decide) ?_
        refine lv_aload_n hx hb dL_pack_66 rfl (lv_at hl 4 rfl) ?_
        refine lv_aload_n hx hb dL_pack_67 rfl (lv_at hl 2 rfl) ?_
        refine lv_iconst (v := (nI 0)) hx hb dL_pack_68 (by decide) ?_
        refine g9_el (n := 4) S hK h (by omega) (ln9_7 hd) (by omega) dL_pack_69 ?_
        refine cv_i (show (σ1 (7 + d) 0 : Int32) = nI ((D.1 ++ D.2.1.map hunit).length) from (by rw [hn0, e4, List.length_append, List.length_map])) ?_
        refine lv_aload_n hx hb dL_pack_70 rfl (lv_at hl 1 rfl) ?_
        refine lv_iconst (v := (nI 0)) hx hb dL_pack_71 (by decide) ?_
        refine g9_el (n := 2) S hK h (by decide) rfl (by omega) dL_pack_72 ?_
        refine cv_i (show (σ1 0 0 : Int32) = σ 0 0 from (by rw [ho 0 (by omega) (by omega)])) ?_
        refine k_SR S hV hK h [.ref (ad L (1 + d)), .int (nI ((D.1 ++ D.2.1.map hunit).length)), .int (σ 0 0)] (c_L_packed l Lc L X hh σ1 (a := 1 + d) (by omega) (ln9_1 hd) (A := (D.1 ++ D.2.1.map hunit)) hH gA (by rw [List.length_append, List.length_map]; omega) (σ 0 0)) q_393 q_394 q_0 q_395 yd_L_packed rfl ⟨⟨rfl, rfl⟩, ⟨(Nat.le_of_ble_eq_true rfl), (Nat.le_of_ble_eq_true rfl)⟩, Nat.le_refl _, Nat.le_refl _⟩ rfl (Nat.le_of_ble_eq_true rfl) hl.1 dL_pack_73 (fun σ8 H locs hp9 h => ?_)
        obtain ⟨hO8, hH8⟩ := hp9
        refine p9_el (n := 4) S hV hK h (by omega) (ln9_7 hd) (by omega) dL_pack_76 (fun H locs h => ?_)
        refine lv_aload_n hx hb dL_pack_77 rfl (lv_at hl 2 rfl) ?_
        refine lv_iconst (v := (nI 1)) hx hb dL_pack_78 (by decide) ?_
        refine lv_iconst (v := (nI 0)) hx hb dL_pack_79 (by decide) ?_
        refine p9_el (n := 4) S hV hK h (by omega) (ln9_7 hd) (by omega) dL_pack_80 (fun H locs h => ?_)
        refine lv_aload_n hx hb dL_pack_81 rfl (lv_at hl 2 rfl) ?_
        refine lv_iconst (v := (nI 3)) hx hb dL_pack_82 (by decide) ?_
        refine lv_dup2_11 hx hb dL_pack_83 rfl rfl ?_
        refine g9_el (n := 4) S hK h (by omega) (ln9_7 hd) (by omega) dL_pack_84 ?_
        refine cv_i (show ((mu (mu σ8 (7 + d) 0 (nI ((packL (σ 0 0) (D.1 ++ D.2.1.map hunit)).length))) (7 + d) 1 (nI 0)) (7 + d) 3 : Int32) = D.2.2.2 from (by rw [mu_i (by omega), mu_i (by omega), hO8 _ (by omega), hn 3 (by omega)]; exact hD.2.2.2.2.2.2)) ?_
        refine lv_iconst (v := (nI 1)) hx hb dL_pack_85 (by decide) ?_
        refine lv_iadd hx hb dL_pack_86 ?_
        refine p9_el (n := 4) S hV hK h (by omega) (ln9_7 hd) (by omega) dL_pack_87 (fun H locs h => ?_)
        exact e_v9 S hK h hr hlk dL_pack_88 (hp _ _ ⟨rfl, LD_pk hD hd ho hn hO8 hH8⟩)
      · refine lv_iconst (v := (nI 4)) hx hb dL_pack_11 (by decide) ?_
        refine lv_aload_n hx hb dL_pack_12 rfl (lv_at hl 2 rfl) ?_
        refine lv_iconst (v := (nI 0)) hx hb dL_pack_13 (by decide) ?_
        refine lv_dup2_11 hx hb dL_pack_14 rfl rfl ?_
        refine g9_el (n := 4) S hK h (by omega) (ln9_7 hd) (by omega) dL_pack_15 ?_
        refine cv_i (show (σ1 (7 + d) 0 : Int32) = nI (D.1.length + k) from hn0) ?_
        refine lv_dup_x2 hx hb dL_pack_16 rfl rfl rfl ?_
        refine lv_iconst (v := (nI 1)) hx hb dL_pack_17 (by decide) ?_
        refine a_iadd hx hb dL_pack_18 ?_
        refine p9_el (n := 4) S hV hK h (by omega) (ln9_7 hd) (by omega) dL_pack_19 (fun H locs h => ?_)
        refine a_imul hx hb dL_pack_20 ?_
        refine lv_istore (lv' := [(5, .int (nI (4 * (D.1.length + k)))), (4, .int (nI k)), (3, .ref (ad L 0)), (2, .ref (ad L (7 + d))), (1, .ref (ad L (3 + d))), (0, .ref (ad L (1 + d)))]) hx hb dL_pack_21 hl (by decide) rfl (fun ls hl => ?_)
        refine lv_aload_n hx hb dL_pack_23 rfl (lv_at hl 5 rfl) ?_
        refine lv_iload hx hb dL_pack_24 (lv_at hl 0 rfl) ?_
        refine lv_iconst (v := (nI 1)) hx hb dL_pack_26 (by decide) ?_
        refine p9_el (n := 64) S hV hK h (by omega) (ln9_1 hd) (by omega) dL_pack_27 (fun H locs h => ?_)
        refine lv_aload_n hx hb dL_pack_28 rfl (lv_at hl 5 rfl) ?_
        refine lv_iload hx hb dL_pack_29 (lv_at hl 0 rfl) ?_
        refine lv_iconst (v := (nI 1)) hx hb dL_pack_31 (by decide) ?_
        refine a_iadd hx hb dL_pack_32 ?_
        refine lv_aload_n hx hb dL_pack_33 rfl (lv_at hl 4 rfl) ?_
        refine lv_iload hx hb dL_pack_34 (lv_at hl 1 rfl) ?_
        refine g9_el (n := 20) S hK h (by omega) (ln9_3 hd) (by omega) dL_pack_36 ?_
        refine cv_i (show ((mu (mu σ1 (7 + d) 0 (nI (D.1.length + k + 1))) (1 + d) (4 * (D.1.length + k)) (nI 1)) (3 + d) k : Int32) = D.2.1.getD k 0 from (by rw [mu_k (by omega), mu_k (by omega), ho _ (by omega) (by omega)]; exact hD.2.1 k c_8)) ?_
        refine p9_el (n := 64) S hV hK h (by omega) (ln9_1 hd) (by omega) dL_pack_37 (fun H locs h => ?_)
        refine lv_aload_n hx hb dL_pack_38 rfl (lv_at hl 5 rfl) ?_
        refine lv_iload hx hb dL_pack_39 (lv_at hl 0 rfl) ?_
        refine lv_iconst (v := (nI 2)) hx hb dL_pack_41 (by decide) ?_
        refine a_iadd hx hb dL_pack_42 ?_
        refine lv_aload_n hx hb dL_pack_43 rfl (lv_at hl 4 rfl) ?_
        refine lv_iload hx hb dL_pack_44 (lv_at hl 1 rfl) ?_
        refine g9_el (n := 20) S hK h (by omega) (ln9_3 hd) (by omega) dL_pack_46 ?_
        refine cv_i (show ((mu (mu (mu σ1 (7 + d) 0 (nI (D.1.length + k + 1))) (1 + d) (4 * (D.1.length + k)) (nI 1)) (1 + d) (4 * (D.1.length + k) + 1) (D.2.1.getD k 0)) (3 + d) k : Int32) = D.2.1.getD k 0 from (by rw [mu_k (by omega), mu_k (by omega), mu_k (by omega), ho _ (by omega) (by omega)]; exact hD.2.1 k c_8)) ?_
        refine p9_el (n := 64) S hV hK h (by omega) (ln9_1 hd) (by omega) dL_pack_47 (fun H locs h => ?_)
        refine lv_aload_n hx hb dL_pack_48 rfl (lv_at hl 5 rfl) ?_
        refine lv_iload hx hb dL_pack_49 (lv_at hl 0 rfl) ?_
        refine lv_iconst (v := (nI 3)) hx hb dL_pack_51 (by decide) ?_
        refine a_iadd hx hb dL_pack_52 ?_
        refine lv_aload_n hx hb dL_pack_53 rfl (lv_at hl 4 rfl) ?_
        refine lv_iload hx hb dL_pack_54 (lv_at hl 1 rfl) ?_
        refine g9_el (n := 20) S hK h (by omega) (ln9_3 hd) (by omega) dL_pack_56 ?_
        refine cv_i (show ((mu (mu (mu (mu σ1 (7 + d) 0 (nI (D.1.length + k + 1))) (1 + d) (4 * (D.1.length + k)) (nI 1)) (1 + d) (4 * (D.1.length + k) + 1) (D.2.1.getD k 0)) (1 + d) (4 * (D.1.length + k) + 2) (D.2.1.getD k 0)) (3 + d) k : Int32) = D.2.1.getD k 0 from (by rw [mu_k (by omega), mu_k (by omega), mu_k (by omega), mu_k (by omega), ho _ (by omega) (by omega)]; exact hD.2.1 k c_8)) ?_
        refine p9_el (n := 64) S hV hK h (by omega) (ln9_1 hd) (by omega) dL_pack_57 (fun H locs h => ?_)
        refine lv_iinc (v := (nI (k + 1))) (lv' := [(4, .int (nI (k + 1))), (5, .int (nI (4 * (D.1.length + k)))), (3, .ref (ad L 0)), (2, .ref (ad L (7 + d))), (1, .ref (ad L (3 + d))), (0, .ref (ad L (1 + d)))]) hx hb dL_pack_58 hl (k := 1) rfl (iinc_1 _) (by decide) rfl (fun ls hl => ?_)
        refine lv_goto (tgt := 3) hx hb dL_pack_61 (by decide) ?_
        exact ih_3 (k + 1) (mu (mu (mu (mu (mu σ1 (7 + d) 0 (nI (D.1.length + k + 1))) (1 + d) (4 * (D.1.length + k)) (nI 1)) (1 + d) (4 * (D.1.length + k) + 1) (D.2.1.getD k 0)) (1 + d) (4 * (D.1.length + k) + 2) (D.2.1.getD k 0)) (1 + d) (4 * (D.1.length + k) + 3) (D.2.1.getD k 0)) (by omega) (by rw [mu_f, mu_f, mu_f, mu_f, mu_r (by omega)]; exact pk_push hH c_8 rfl) (by rw [mu_k (by omega), mu_k (by omega), mu_k (by omega), mu_k (by omega), mu_s, Nat.add_assoc]) (fun q q1 q7 => by rw [mu_r q1, mu_r q1, mu_r q1, mu_r q1, mu_r q7]; exact ho q q1 q7) (fun i q => by rw [mu_k (by omega), mu_k (by omega), mu_k (by omega), mu_k (by omega), mu_i q]; exact hn i q) (by omega) _ _ _ h (lv_sub hl [0, 2, 3, 4, 5] rfl)
  exact LP_3 _ 0 σ (by omega) (by rw [List.take_zero, List.map_nil, List.append_nil]; exact hD.1) hD.2.2.2.1 (fun _ _ _ => rfl) (fun _ _ => rfl) (Nat.lt_succ_self _) _ _ _ h (lv_sub hl [0, 4, 3, 2, 1] rfl)

abbrev rL_comes : Room := { frames := 3, cells := 0, slots := 0, locals := 79 }
theorem yd_L_comes : ydV yL_comes RL 6 := ⟨rfl, by decide +kernel, by decide +kernel, by decide +kernel⟩
set_option maxHeartbeats 4000000 in
set_option maxRecDepth 100000 in
theorem c_L_comes (l : Launch) (Lc L : Lay) (X : SS) (hh : List SS) (σ : Me) {d : Nat} {D : Dg} (hd : d < 2) (hD : LD σ d D) (hG : GD D) (hl9 : D.1.length + D.2.1.length ≤ 16) (hV9 : D.2.2.1.length < 40) (h20 : σ 0 1 ≤ 20) (v : Int32) : Mg9 l Lc L X hh yL_comes (Cond.code yL_comes cL_comes 6 none :: qA) rL_comes [.int v, .ref (ad L (1 + d)), .ref (ad L (3 + d)), .ref (ad L (5 + d)), .ref (ad L (7 + d)), .ref (ad L 0)] σ (fun r u => r = none ∧ (LD u d (rcvM (σ 0 0) (σ 0 1) D v) ∧ ∀ k, k ≠ 1 + d → k ≠ 3 + d → k ≠ 5 + d → k ≠ 7 + d → u k = σ k)) := by
  refine Mr9_ofW (by decide) (Nat.le_of_ble_eq_true rfl) ?_
  intro p e s m args below meth c ls post hp hV S hr hlk hK h hl
  have hx := S.1
  have hb := S.2.1
  have hl : lv_has ls 6 [(0, .int v), (1, .ref (ad L (1 + d))), (2, .ref (ad L (3 + d))), (3, .ref (ad L (5 + d))), (4, .ref (ad L (7 + d))), (5, .ref (ad L 0))] := hl
  have hb20 : D.2.1.length ≤ 20 := by omega
  refine lv_aload hx hb dL_comes_0 (lv_at hl 4 rfl) ?_
  refine lv_iconst (v := (nI 1)) hx hb dL_comes_2 (by decide) ?_
  refine g9_el (n := 4) S hK h (by omega) (ln9_7 hd) (by omega) dL_comes_3 ?_
  refine cv_i (show (σ (7 + d) 1 : Int32) = nI D.2.1.length from hD.2.2.2.2.1) ?_
  refine lv_aload hx hb dL_comes_4 (lv_at hl 5 rfl) ?_
  refine lv_iconst (v := (nI 1)) hx hb dL_comes_6 (by decide) ?_
  refine g9_el (n := 2) S hK h (by decide) rfl (by omega) dL_comes_7 ?_
  have CT_20 : ∀ (σ2 : Me) (E : Dg) (H : Heap) (locs : List Loc) (ls : Array Slot), (E = (if σ 0 1 ≤ nI D.2.1.length then pkD (σ 0 0) D else D)) → (LD σ2 d E) → (E.2.1.length < 20) → (E.2.2.1.length < 40) → (∀ k, k ≠ 1 + d → k ≠ 7 + d → σ2 k = σ k) → Hd9 Lc L X hh s.heap H σ2 locs → lv_has ls 6 [(5, .ref (ad L 0)), (4, .ref (ad L (7 + d))), (3, .ref (ad L (5 + d))), (2, .ref (ad L (3 + d))), (1, .ref (ad L (1 + d))), (0, .int v)] → W p l e rL_comes s m args below meth c H locs 0 0 (MQ below (Qg post (bs9 Lc L X hh) (A9 Lc L)) args s 0 0 (A9 Lc L)) (F0 m 20 ls []) := by
    intro σ2 E H locs ls hE hE2 hEB hEV ho h hl
    refine lv_aload_n hx hb dL_comes_20 rfl (lv_at hl 3 rfl) ?_
    refine lv_aload hx hb dL_comes_21 (lv_at hl 1 rfl) ?_
    refine lv_iconst (v := (nI 1)) hx hb dL_comes_23 (by decide) ?_
    refine lv_dup2_11 hx hb dL_comes_24 rfl rfl ?_
    refine g9_el (n := 4) S hK h (by omega) (ln9_7 hd) (by omega) dL_comes_25 ?_
    refine cv_i (show (σ2 (7 + d) 1 : Int32) = nI E.2.1.length from hE2.2.2.2.2.1) ?_
    refine lv_dup_x2 hx hb dL_comes_26 rfl rfl rfl ?_
    refine lv_iconst (v := (nI 1)) hx hb dL_comes_27 (by decide) ?_
    refine a_iadd hx hb dL_comes_28 ?_
    refine p9_el (n := 4) S hV hK h (by omega) (ln9_7 hd) (by omega) dL_comes_29 (fun H locs h => ?_)
    refine lv_iload_n hx hb dL_comes_30 rfl (lv_at hl 5 rfl) ?_
    refine p9_el (n := 20) S hV hK h (by omega) (ln9_3 hd) (by omega) dL_comes_31 (fun H locs h => ?_)
    refine lv_aload_n hx hb dL_comes_32 rfl (lv_at hl 2 rfl) ?_
    refine lv_aload hx hb dL_comes_33 (lv_at hl 1 rfl) ?_
    refine lv_iconst (v := (nI 2)) hx hb dL_comes_35 (by decide) ?_
    refine lv_dup2_11 hx hb dL_comes_36 rfl rfl ?_
    refine g9_el (n := 4) S hK h (by omega) (ln9_7 hd) (by omega) dL_comes_37 ?_
    refine cv_i (show ((mu (mu σ2 (7 + d) 1 (nI (E.2.1.length + 1))) (3 + d) E.2.1.length v) (7 + d) 2 : Int32) = nI E.2.2.1.length from (by rw [mu_k (by omega), mu_i (by omega)]; exact hE2.2.2.2.2.2.1)) ?_
    refine lv_dup_x2 hx hb dL_comes_38 rfl rfl rfl ?_
    refine lv_iconst (v := (nI 1)) hx hb dL_comes_39 (by decide) ?_
    refine a_iadd hx hb dL_comes_40 ?_
    refine p9_el (n := 4) S hV hK h (by omega) (ln9_7 hd) (by omega) dL_comes_41 (fun H locs h => ?_)
    refine lv_iload_n hx hb dL_comes_42 rfl (lv_at hl 5 rfl) ?_
    refine p9_el (n := 40) S hV hK h (by omega) (ln9_5 hd) (by omega) dL_comes_43 (fun H locs h => ?_)
    exact e_v9 S hK h hr hlk dL_comes_44 (hp _ _ ⟨rfl, by unfold rcvM; rw [← hE]; exact LD_cm hE2 hd ho⟩)
  refine lv_icmp_lt (tgt := 20) hx hb dL_comes_8 (by decide) (fun c_8 => ?_) (fun c_8 => ?_)
  · exact CT_20 σ D _ _ _ (by first | exact (if_neg (Int32.not_le.mpr c_8)).symm | exact (if_pos (Int32.not_lt.mp c_8)).symm) (by first | exact hD | exact hD8) (by first | exact (nI_ltI (by omega) (by omega)).mp (Int32.lt_of_lt_of_le c_8 h20) | exact (show 0 < 20 by omega)) hV9 (by first | exact ho8 | exact fun _ _ _ => rfl) h (lv_sub hl [5, 4, 3, 2, 1, 0] rfl)
  · refine lv_aload_n hx hb dL_comes_11 rfl (lv_at hl 1 rfl) ?_
    refine lv_aload_n hx hb dL_comes_12 rfl (lv_at hl 2 rfl) ?_
    refine lv_aload hx hb dL_comes_13 (lv_at hl 4 rfl) ?_
    refine lv_aload hx hb dL_comes_15 (lv_at hl 5 rfl) ?_
    refine k_SR S hV hK h [.ref (ad L (1 + d)), .ref (ad L (3 + d)), .ref (ad L (7 + d)), .ref (ad L 0)] (c_L_pack l Lc L X hh σ hd hD hG hl9) q_402 q_403 q_0 q_404 yd_L_pack rfl ⟨⟨rfl, rfl⟩, ⟨(Nat.le_of_ble_eq_true rfl), (Nat.le_of_ble_eq_true rfl)⟩, Nat.le_refl _, Nat.le_refl _⟩ rfl (Nat.le_of_ble_eq_true rfl) hl.1 dL_comes_17 (fun σ8 H locs hp9 h => ?_)
    obtain ⟨hD8, ho8⟩ := hp9
    exact CT_20 σ8 (pkD (σ 0 0) D) _ _ _ (by first | exact (if_neg (Int32.not_le.mpr c_8)).symm | exact (if_pos (Int32.not_lt.mp c_8)).symm) (by first | exact hD | exact hD8) (by first | exact (nI_ltI (by omega) (by omega)).mp (Int32.lt_of_lt_of_le c_8 h20) | exact (show 0 < 20 by omega)) hV9 (by first | exact ho8 | exact fun _ _ _ => rfl) h (lv_sub hl [5, 4, 3, 2, 1, 0] rfl)
