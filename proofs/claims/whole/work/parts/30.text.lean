abbrev rX3_digitAt : Room := { frames := 1, cells := 0, slots := 0, locals := 21 }
theorem yd_X3_digitAt : ydV yX3_digitAt RX3 2 := ⟨rfl, by decide +kernel, by decide +kernel, by decide +kernel⟩
set_option maxHeartbeats 4000000 in
set_option maxRecDepth 100000 in
theorem c_X3_digitAt (l : Launch) (L : Lay) (σ : St) {kt j : Nat} (hkt : kd kt = 4) (hj : j < 2 ^ 31) : Mf l L yX3_digitAt (Cond.code yX3_digitAt cX3_digitAt 3 (some FieldType.int) :: qA) rX3_digitAt [.ref (ad L kt), .int (nI j)] σ (some (.int (dgAt (σ kt) j))) σ := by
  refine Mf.ofW (by decide) (Nat.le_of_ble_eq_true rfl) ?_
  intro p e s m args below meth c ls post hp hI S hr hlk hK h hl
  have hx := S.1
  have hb := S.2.1
  have hok := h.ok
  have hl : lv_has ls 3 [(0, .ref (ad L kt)), (1, .int (nI j))] := hl
  refine lv_aload_n hx hb dX3_digitAt_0 rfl (lv_at hl 0 rfl) ?_
  refine lv_iload_n hx hb dX3_digitAt_1 rfl (lv_at hl 1 rfl) ?_
  refine q_V1 (ci := 4) S hI hK h [.int (nI j)] (c_X4_at l L σ hkt (by omega)) hkt rfl (by decide) q_576 q_224 q_225 q_3 q_226 yd_X4_at rfl ⟨⟨rfl, rfl⟩, ⟨(Nat.le_of_ble_eq_true rfl), (Nat.le_of_ble_eq_true rfl)⟩, Nat.le_refl _, Nat.le_refl _⟩ rfl (Nat.le_of_ble_eq_true rfl) hl.1 dX3_digitAt_2 (fun H locs h => ?_)
  refine lv_istore_n (lv' := [(2, .int ((σ kt).getD j 0)), (0, .ref (ad L kt)), (1, .int (nI j))]) hx hb dX3_digitAt_5 rfl hl (by decide) rfl (fun ls hl => ?_)
  refine lv_iload_n hx hb dX3_digitAt_6 rfl (lv_at hl 0 rfl) ?_
  refine lv_bipush (v := (nI 48)) hx hb dX3_digitAt_7 (by decide) ?_
  refine lv_icmp_lt (tgt := 25) hx hb dX3_digitAt_9 (by decide) (fun c_9 => ?_) (fun c_9 => ?_)
  · rw [dgAt, if_neg (fun q => Int32.not_le.mpr c_9 q.1)] at hp
    refine lv_iconst (v := (-1)) hx hb dX3_digitAt_25 (by decide) ?_
    exact e_i S hK h hr hlk dX3_digitAt_26 hp
  · refine lv_iload_n hx hb dX3_digitAt_12 rfl (lv_at hl 0 rfl) ?_
    refine lv_bipush (v := (nI 57)) hx hb dX3_digitAt_13 (by decide) ?_
    refine lv_icmp_gt (tgt := 25) hx hb dX3_digitAt_15 (by decide) (fun c_15 => ?_) (fun c_15 => ?_)
    · rw [dgAt, if_neg (fun q => Int32.not_le.mpr c_15 q.2)] at hp
      refine lv_iconst (v := (-1)) hx hb dX3_digitAt_25 (by decide) ?_
      exact e_i S hK h hr hlk dX3_digitAt_26 hp
    · rw [dgAt, if_pos ⟨Int32.not_lt.mp c_9, Int32.not_lt.mp c_15⟩] at hp
      refine lv_iload_n hx hb dX3_digitAt_18 rfl (lv_at hl 0 rfl) ?_
      refine lv_bipush (v := (nI 48)) hx hb dX3_digitAt_19 (by decide) ?_
      refine lv_isub hx hb dX3_digitAt_21 ?_
      refine lv_goto (tgt := 26) hx hb dX3_digitAt_22 (by decide) ?_
      exact e_i S hK h hr hlk dX3_digitAt_26 hp

abbrev rX3_readValue : Room := { frames := 2, cells := 0, slots := 0, locals := 43 }
theorem yd_X3_readValue : ydV yX3_readValue RX3 1 := ⟨rfl, by decide +kernel, by decide +kernel, by decide +kernel⟩
set_option maxHeartbeats 4000000 in
set_option maxRecDepth 100000 in
theorem c_X3_readValue (l : Launch) (L : Lay) (σ : St) {t vs : List Int32} {dg : Int32} {e0 : Nat} (ht : σ 227 = t) (hp3 : σ 229 = [dg, nI e0]) (he : e0 ≤ 1000) (hvs : σ 230 = vs) (hc : vs.length < 60) : Mf l L yX3_readValue (Cond.code yX3_readValue cX3_readValue 4 (some FieldType.boolean) :: qA) rX3_readValue [.ref (ad L 229), .ref (ad L 227)] σ (some (.int (if (rv t 4 (nI 0) 0 e0).2.1 ≠ 0 then 1 else 0))) (tx σ [dg, nI (rv t 4 (nI 0) 0 e0).2.2] (if (rv t 4 (nI 0) 0 e0).2.1 ≠ 0 then vs ++ [(rv t 4 (nI 0) 0 e0).1] else vs)) := by
  refine Mf.ofW (by decide) (Nat.le_of_ble_eq_true rfl) ?_
  intro p e s m args below meth c ls post hp hI S hr hlk hK h hl
  have hx := S.1
  have hb := S.2.1
  have hok := h.ok
  have hl : lv_has ls 4 [(0, .ref (ad L 229)), (1, .ref (ad L 227))] := hl
  refine lv_iconst (v := (nI 0)) hx hb dX3_readValue_0 (by decide) ?_
  refine lv_istore_n (lv' := [(2, .int (nI 0)), (0, .ref (ad L 229)), (1, .ref (ad L 227))]) hx hb dX3_readValue_1 rfl hl (by decide) rfl (fun ls hl => ?_)
  refine lv_iconst (v := (nI 0)) hx hb dX3_readValue_2 (by decide) ?_
  refine lv_istore_n (lv' := [(3, .int (nI 0)), (2, .int (nI 0)), (0, .ref (ad L 229)), (1, .ref (ad L 227))]) hx hb dX3_readValue_3 rfl hl (by decide) rfl (fun ls hl => ?_)
  have LP_4 : ∀ (n_4 : Nat) (g : Nat) (n : Nat) (v : Int32) (e1 : Nat) (σ1 : St), (g + n = 4) → (e1 ≤ e0 + g) → (σ1 = up σ 229 [dg, nI e1]) → (rv t 4 (nI 0) 0 e0 = rv t n v g e1) → n < n_4 → ∀ (H : Heap) (locs : List Loc) (ls : Array Slot), Hd L s.heap H σ1 locs → lv_has ls 4 [(3, .int (nI g)), (2, .int v), (0, .ref (ad L 229)), (1, .ref (ad L 227))] → W p l e rX3_readValue s m args below meth c H locs 0 0 (MQ below (Qg post (bs L) (Aw L)) args s 0 0 (Aw L)) (F0 m 4 ls []) := by
    intro n_4
    induction n_4 with
    | zero => intro g n v e1 σ1; intros; omega
    | succ n_4 ih_4 =>
      intro g n v e1 σ1 hg he1 hσ hr9 hm_4 H locs ls h hl
      have hok := h.ok
      have t1 : σ1 227 = t := by rw [hσ, up_n (by omega)]; exact ht
      have p1 : σ1 229 = [dg, nI e1] := by rw [hσ, up_s]
      have v1 : σ1 230 = vs := by rw [hσ, up_n (by omega)]; exact hvs
      refine lv_iload_n hx hb dX3_readValue_4 rfl (lv_at hl 0 rfl) ?_
      refine lv_iconst (v := (nI 4)) hx hb dX3_readValue_5 (by decide) ?_
      refine b_icmp_ge (tgt := 50) hx hb dX3_readValue_6 (by decide) (by omega) (by omega) (fun c_6 => ?_) (fun c_6 => ?_)
      · have hn0 : n = 0 := by omega
        have hf9 : rv t 4 (nI 0) 0 e0 = (v, g, e1) := by rw [hr9, hn0]; rfl
        refine lv_iload_n hx hb dX3_readValue_50 rfl (lv_at hl 0 rfl) ?_
        refine b_if_ne (tgt := 56) hx hb dX3_readValue_51 (by decide) (by omega) (fun c_51 => ?_) (fun c_51 => ?_)
        · rw [hf9, if_pos (show g ≠ 0 from by omega), if_pos (show g ≠ 0 from by omega)] at hp
          refine lv_aload_n hx hb dX3_readValue_56 rfl (lv_at hl 2 rfl) ?_
          refine g_pvals S hK h (by decide) q_142 dX3_readValue_57 ?_
          refine lv_iload_n hx hb dX3_readValue_60 rfl (lv_at hl 1 rfl) ?_
          refine q_V0 (ci := 4) S hI hK h [.int v] (c_X4_append l L σ1 (by decide) (by rw [v1]; exact hc) v) (by decide) rfl (by decide) q_581 q_99 q_100 q_3 q_101 yd_X4_append rfl ⟨⟨rfl, rfl⟩, ⟨(Nat.le_of_ble_eq_true rfl), (Nat.le_of_ble_eq_true rfl)⟩, Nat.le_refl _, Nat.le_refl _⟩ rfl (Nat.le_of_ble_eq_true rfl) hl.1 dX3_readValue_61 (fun H locs h => ?_)
          refine lv_iconst (v := (nI 1)) hx hb dX3_readValue_64 (by decide) ?_
          exact e_z S hK h hr hlk (Or.inr rfl) dX3_readValue_65 (fin_p hp rfl (tx_of (by rw [up_n (by omega)]; exact p1) (by rw [up_s, v1]) (fun k a b => by rw [up_n b, hσ, up_n a])))
        · rw [hf9, if_neg (show ¬ g ≠ 0 from by omega), if_neg (show ¬ g ≠ 0 from by omega)] at hp
          refine lv_iconst (v := (nI 0)) hx hb dX3_readValue_54 (by decide) ?_
          exact e_z S hK h hr hlk (Or.inl rfl) dX3_readValue_55 (fin_p hp rfl (tx_of p1 v1 (fun k a b => by rw [hσ, up_n a])))
      · obtain ⟨n1, rfl⟩ : ∃ n1, n = n1 + 1 := ⟨n - 1, by omega⟩
        refine lv_aload_n hx hb dX3_readValue_9 rfl (lv_at hl 3 rfl) ?_
        refine lv_aload_n hx hb dX3_readValue_10 rfl (lv_at hl 2 rfl) ?_
        refine g_end S hK h (by decide) q_148 dX3_readValue_11 ?_
        refine cv_i (show ((σ1 229).getD 1 0 : Int32) = nI e1 from (by rw [p1]; rfl)) ?_
        refine q_S1 S hI hK h [.ref (ad L 227), .int (nI e1)] (c_X3_digitAt l L σ1 (by decide) (by omega)) q_573 q_574 q_8 q_575 yd_X3_digitAt rfl ⟨⟨rfl, rfl⟩, ⟨(Nat.le_of_ble_eq_true rfl), (Nat.le_of_ble_eq_true rfl)⟩, Nat.le_refl _, Nat.le_refl _⟩ rfl (Nat.le_of_ble_eq_true rfl) hl.1 dX3_readValue_14 (fun H locs h => ?_)
        refine cv_i (show (dgAt (σ1 227) e1 : Int32) = dgAt t e1 from (by rw [t1])) ?_
        refine lv_if_lt (tgt := 50) hx hb dX3_readValue_17 (by decide) (fun c_17 => ?_) (fun c_17 => ?_)
        · have hf9 : rv t 4 (nI 0) 0 e0 = (v, g, e1) := by rw [hr9, rv, if_neg (Int32.not_le.mpr c_17)]
          refine lv_iload_n hx hb dX3_readValue_50 rfl (lv_at hl 0 rfl) ?_
          refine b_if_ne (tgt := 56) hx hb dX3_readValue_51 (by decide) (by omega) (fun c_51 => ?_) (fun c_51 => ?_)
          · rw [hf9, if_pos (show g ≠ 0 from by omega), if_pos (show g ≠ 0 from by omega)] at hp
            refine lv_aload_n hx hb dX3_readValue_56 rfl (lv_at hl 2 rfl) ?_
            refine g_pvals S hK h (by decide) q_142 dX3_readValue_57 ?_
            refine lv_iload_n hx hb dX3_readValue_60 rfl (lv_at hl 1 rfl) ?_
            refine q_V0 (ci := 4) S hI hK h [.int v] (c_X4_append l L σ1 (by decide) (by rw [v1]; exact hc) v) (by decide) rfl (by decide) q_581 q_99 q_100 q_3 q_101 yd_X4_append rfl ⟨⟨rfl, rfl⟩, ⟨(Nat.le_of_ble_eq_true rfl), (Nat.le_of_ble_eq_true rfl)⟩, Nat.le_refl _, Nat.le_refl _⟩ rfl (Nat.le_of_ble_eq_true rfl) hl.1 dX3_readValue_61 (fun H locs h => ?_)
            refine lv_iconst (v := (nI 1)) hx hb dX3_readValue_64 (by decide) ?_
            exact e_z S hK h hr hlk (Or.inr rfl) dX3_readValue_65 (fin_p hp rfl (tx_of (by rw [up_n (by omega)]; exact p1) (by rw [up_s, v1]) (fun k a b => by rw [up_n b, hσ, up_n a])))
          · rw [hf9, if_neg (show ¬ g ≠ 0 from by omega), if_neg (show ¬ g ≠ 0 from by omega)] at hp
            refine lv_iconst (v := (nI 0)) hx hb dX3_readValue_54 (by decide) ?_
            exact e_z S hK h hr hlk (Or.inl rfl) dX3_readValue_55 (fin_p hp rfl (tx_of p1 v1 (fun k a b => by rw [hσ, up_n a])))
        · have hd0 : 0 ≤ dgAt t e1 := Int32.not_lt.mp c_17
          refine lv_iload_n hx hb dX3_readValue_20 rfl (lv_at hl 1 rfl) ?_
          refine lv_bipush (v := (nI 10)) hx hb dX3_readValue_21 (by decide) ?_
          refine lv_imul hx hb dX3_readValue_23 ?_
          refine lv_aload_n hx hb dX3_readValue_24 rfl (lv_at hl 3 rfl) ?_
          refine lv_aload_n hx hb dX3_readValue_25 rfl (lv_at hl 2 rfl) ?_
          refine g_end S hK h (by decide) q_148 dX3_readValue_26 ?_
          refine cv_i (show ((σ1 229).getD 1 0 : Int32) = nI e1 from (by rw [p1]; rfl)) ?_
          refine q_S1 S hI hK h [.ref (ad L 227), .int (nI e1)] (c_X3_digitAt l L σ1 (by decide) (by omega)) q_573 q_574 q_8 q_575 yd_X3_digitAt rfl ⟨⟨rfl, rfl⟩, ⟨(Nat.le_of_ble_eq_true rfl), (Nat.le_of_ble_eq_true rfl)⟩, Nat.le_refl _, Nat.le_refl _⟩ rfl (Nat.le_of_ble_eq_true rfl) hl.1 dX3_readValue_29 (fun H locs h => ?_)
          refine cv_i (show (dgAt (σ1 227) e1 : Int32) = dgAt t e1 from (by rw [t1])) ?_
          refine lv_iadd hx hb dX3_readValue_32 ?_
          refine lv_istore_n (lv' := [(2, .int ((v * (nI 10)) + (dgAt t e1))), (3, .int (nI g)), (0, .ref (ad L 229)), (1, .ref (ad L 227))]) hx hb dX3_readValue_33 rfl hl (by decide) rfl (fun ls hl => ?_)
          refine lv_aload_n hx hb dX3_readValue_34 rfl (lv_at hl 2 rfl) ?_
          refine lv_dup hx hb dX3_readValue_35 rfl ?_
          refine g_end S hK h (by decide) q_148 dX3_readValue_36 ?_
          refine cv_i (show ((σ1 229).getD 1 0 : Int32) = nI e1 from (by rw [p1]; rfl)) ?_
          refine lv_iconst (v := (nI 1)) hx hb dX3_readValue_39 (by decide) ?_
          refine a_iadd hx hb dX3_readValue_40 ?_
          refine p_end S hI hK h (by decide) q_148 dX3_readValue_41 (fun H locs h => ?_)
          refine lv_iinc (v := (nI (g + 1))) (lv' := [(3, .int (nI (g + 1))), (2, .int ((v * (nI 10)) + (dgAt t e1))), (0, .ref (ad L 229)), (1, .ref (ad L 227))]) hx hb dX3_readValue_44 hl (k := 1) rfl (iinc_1 _) (by decide) rfl (fun ls hl => ?_)
          refine lv_goto (tgt := 4) hx hb dX3_readValue_47 (by decide) ?_
          exact ih_4 (g + 1) n1 ((v * (nI 10)) + (dgAt t e1)) (e1 + 1) (up σ1 229 [(σ1 229).getD 0 0, nI (e1 + 1)]) (by omega) (by omega) (by rw [hσ, up_up, up_s]; rfl) (by rw [hr9, rv, if_pos hd0]) (by omega) _ _ _ h (lv_sub hl [0, 1, 2, 3] rfl)
  exact LP_4 _ 0 4 (nI 0) e0 σ (by omega) (by omega) (up_id hp3).symm rfl (Nat.lt_succ_self _) _ _ _ h (lv_sub hl [0, 1, 2, 3] rfl)

abbrev rX3_readFrom : Room := { frames := 3, cells := 0, slots := 0, locals := 66 }
theorem yd_X3_readFrom : ydV yX3_readFrom RX3 2 := ⟨rfl, by decide +kernel, by decide +kernel, by decide +kernel⟩
set_option maxHeartbeats 4000000 in
set_option maxRecDepth 100000 in
theorem c_X3_readFrom (l : Launch) (L : Lay) (σ : St) {t : List Int32} {s0 : Nat} (ht : σ 227 = t) (hs0 : s0 ≤ 600) : Mf l L yX3_readFrom (Cond.code yX3_readFrom cX3_readFrom 5 (some FieldType.boolean) :: qA) rX3_readFrom [.ref (ad L 229), .ref (ad L 227), .int (nI s0)] σ (some (.int (if (rF t s0).1 = true then 1 else 0))) (tx σ [(rF t s0).2.1, nI (rF t s0).2.2.2] (rF t s0).2.2.1) := by
  refine Mf.ofW (by decide) (Nat.le_of_ble_eq_true rfl) ?_
  intro p e s m args below meth c ls post hp hI S hr hlk hK h hl
  have hx := S.1
  have hb := S.2.1
  have hok := h.ok
  have hl : lv_has ls 5 [(0, .ref (ad L 229)), (1, .ref (ad L 227)), (2, .int (nI s0))] := hl
  have hc60 : cp 230 = 60 := by decide
  refine lv_aload_n hx hb dX3_readFrom_0 rfl (lv_at hl 0 rfl) ?_
  refine g_pvals S hK h (by decide) q_142 dX3_readFrom_1 ?_
  refine q_V0 (ci := 4) S hI hK h [] (c_X4_empty l L σ (by decide)) (by decide) rfl (by decide) q_572 q_285 q_286 q_3 q_287 yd_X4_empty rfl ⟨⟨rfl, rfl⟩, ⟨(Nat.le_of_ble_eq_true rfl), (Nat.le_of_ble_eq_true rfl)⟩, Nat.le_refl _, Nat.le_refl _⟩ rfl (Nat.le_of_ble_eq_true rfl) hl.1 dX3_readFrom_4 (fun H locs h => ?_)
  refine lv_aload_n hx hb dX3_readFrom_7 rfl (lv_at hl 0 rfl) ?_
  refine lv_iload_n hx hb dX3_readFrom_8 rfl (lv_at hl 2 rfl) ?_
  refine p_end S hI hK h (by decide) q_148 dX3_readFrom_9 (fun H locs h => ?_)
  have h := h.to (show up (up σ 230 ([])) 229 [((up σ 230 ([])) 229).getD 0 0, nI s0] = tx σ [(σ 229).getD 0 0, nI s0] [] from (tx_of (by rw [up_s, up_n (by omega)]) (by rw [up_n (by omega), up_s]) (fun k a b => by rw [up_n a, up_n b])))
  refine lv_aload_n hx hb dX3_readFrom_12 rfl (lv_at hl 0 rfl) ?_
  refine lv_aload_n hx hb dX3_readFrom_13 rfl (lv_at hl 1 rfl) ?_
  refine lv_aload_n hx hb dX3_readFrom_14 rfl (lv_at hl 0 rfl) ?_
  refine g_end S hK h (by decide) q_148 dX3_readFrom_15 ?_
  refine cv_i (show (((tx σ [(σ 229).getD 0 0, nI s0] []) 229).getD 1 0 : Int32) = nI s0 from (by rw [tx_229]; rfl)) ?_
  refine q_S1 S hI hK h [.ref (ad L 227), .int (nI s0)] (c_X3_digitAt l L (tx σ [(σ 229).getD 0 0, nI s0] []) (by decide) (by omega)) q_573 q_574 q_8 q_575 yd_X3_digitAt rfl ⟨⟨rfl, rfl⟩, ⟨(Nat.le_of_ble_eq_true rfl), (Nat.le_of_ble_eq_true rfl)⟩, Nat.le_refl _, Nat.le_refl _⟩ rfl (Nat.le_of_ble_eq_true rfl) hl.1 dX3_readFrom_18 (fun H locs h => ?_)
  refine cv_i (show (dgAt ((tx σ [(σ 229).getD 0 0, nI s0] []) 227) s0 : Int32) = dgAt t s0 from (by rw [tx_n (by omega) (by omega), ht])) ?_
  refine p_digest S hI hK h (by decide) q_145 dX3_readFrom_21 (fun H locs h => ?_)
  have h := h.to (show up (tx σ [(σ 229).getD 0 0, nI s0] []) 229 [dgAt t s0, ((tx σ [(σ 229).getD 0 0, nI s0] []) 229).getD 1 0] = tx σ [dgAt t s0, nI s0] [] from (by rw [tx_229]; exact tx_u9))
  refine lv_aload_n hx hb dX3_readFrom_24 rfl (lv_at hl 0 rfl) ?_
  refine g_digest S hK h (by decide) q_145 dX3_readFrom_25 ?_
  refine cv_i (show (((tx σ [dgAt t s0, nI s0] []) 229).getD 0 0 : Int32) = dgAt t s0 from (by rw [tx_229]; rfl)) ?_
  refine lv_if_ge (tgt := 33) hx hb dX3_readFrom_28 (by decide) (fun c_28 => ?_) (fun c_28 => ?_)
  · rw [rF, if_neg (Int32.not_lt.mpr c_28)] at hp
    refine lv_aload_n hx hb dX3_readFrom_33 rfl (lv_at hl 0 rfl) ?_
    refine lv_dup hx hb dX3_readFrom_34 rfl ?_
    refine g_end S hK h (by decide) q_148 dX3_readFrom_35 ?_
    refine cv_i (show (((tx σ [dgAt t s0, nI s0] []) 229).getD 1 0 : Int32) = nI s0 from (by rw [tx_229]; rfl)) ?_
    refine lv_iconst (v := (nI 1)) hx hb dX3_readFrom_38 (by decide) ?_
    refine a_iadd hx hb dX3_readFrom_39 ?_
    refine p_end S hI hK h (by decide) q_148 dX3_readFrom_40 (fun H locs h => ?_)
    have h := h.to (show up (tx σ [dgAt t s0, nI s0] []) 229 [((tx σ [dgAt t s0, nI s0] []) 229).getD 0 0, nI (s0 + 1)] = tx σ [dgAt t s0, nI (s0 + 1)] [] from (by rw [tx_229]; exact tx_u9))
    refine lv_aload_n hx hb dX3_readFrom_43 rfl (lv_at hl 1 rfl) ?_
    refine lv_aload_n hx hb dX3_readFrom_44 rfl (lv_at hl 0 rfl) ?_
    refine g_end S hK h (by decide) q_148 dX3_readFrom_45 ?_
    refine cv_i (show (((tx σ [dgAt t s0, nI (s0 + 1)] []) 229).getD 1 0 : Int32) = nI (s0 + 1) from (by rw [tx_229]; rfl)) ?_
    refine q_V1 (ci := 4) S hI hK h [.int (nI (s0 + 1))] (c_X4_at l L (tx σ [dgAt t s0, nI (s0 + 1)] []) (by decide) (by omega)) (by decide) rfl (by decide) q_576 q_224 q_225 q_3 q_226 yd_X4_at rfl ⟨⟨rfl, rfl⟩, ⟨(Nat.le_of_ble_eq_true rfl), (Nat.le_of_ble_eq_true rfl)⟩, Nat.le_refl _, Nat.le_refl _⟩ rfl (Nat.le_of_ble_eq_true rfl) hl.1 dX3_readFrom_48 (fun H locs h => ?_)
    refine cv_i (show (((tx σ [dgAt t s0, nI (s0 + 1)] []) 227).getD (s0 + 1) 0 : Int32) = t.getD (s0 + 1) 0 from (by rw [tx_n (by omega) (by omega), ht])) ?_
    refine lv_bipush (v := (nI 58)) hx hb dX3_readFrom_51 (by decide) ?_
    have CT_61 : ∀ (mo : Bool) (H : Heap) (locs : List Loc) (ls : Array Slot), (decide (t.getD (s0 + 1) 0 = nI 58) = mo) → Hd L s.heap H (tx σ [dgAt t s0, nI (s0 + 1)] []) locs → lv_has ls 5 [(0, .ref (ad L 229)), (1, .ref (ad L 227)), (2, .int (nI s0))] → W p l e rX3_readFrom s m args below meth c H locs 0 0 (MQ below (Qg post (bs L) (Aw L)) args s 0 0 (Aw L)) (F0 m 61 ls [.int (if mo = true then 1 else 0)]) := by
      intro mo H locs ls hmo h hl
      have hok := h.ok
      rw [hmo] at hp
      refine lv_istore_n (lv' := [(3, .int (if mo = true then 1 else 0)), (0, .ref (ad L 229)), (1, .ref (ad L 227)), (2, .int (nI s0))]) hx hb dX3_readFrom_61 rfl hl (by decide) rfl (fun ls hl => ?_)
      refine lv_iconst (v := (nI 0)) hx hb dX3_readFrom_62 (by decide) ?_
      refine lv_istore (lv' := [(4, .int (nI 0)), (3, .int (if mo = true then 1 else 0)), (0, .ref (ad L 229)), (1, .ref (ad L 227)), (2, .int (nI s0))]) hx hb dX3_readFrom_63 hl (by decide) rfl (fun ls hl => ?_)
      have LP_65 : ∀ (n_65 : Nat) (r : Nat) (n : Nat) (more : Bool) (vs : List Int32) (e1 : Nat) (σ1 : St), (r + n = 60) → (vs.length = r) → (e1 ≤ s0 + 1 + 5 * r) → (σ1 = tx σ [dgAt t s0, nI e1] vs) → (rL t 60 mo [] (s0 + 1) = rL t n more vs e1) → n < n_65 → ∀ (H : Heap) (locs : List Loc) (ls : Array Slot), Hd L s.heap H σ1 locs → lv_has ls 5 [(4, .int (nI r)), (3, .int (if more = true then 1 else 0)), (0, .ref (ad L 229)), (1, .ref (ad L 227)), (2, .int (nI s0))] → W p l e rX3_readFrom s m args below meth c H locs 0 0 (MQ below (Qg post (bs L) (Aw L)) args s 0 0 (Aw L)) (F0 m 65 ls []) := by
        intro n_65
        induction n_65 with
        | zero => intro r n more vs e1 σ1; intros; omega
        | succ n_65 ih_65 =>
          intro r n more vs e1 σ1 hg hvl he1 hσ hr9 hm_65 H locs ls h hl
          have hok := h.ok
          have t1 : σ1 227 = t := by rw [hσ, tx_n (by omega) (by omega)]; exact ht
          have p1 : σ1 229 = [dgAt t s0, nI e1] := by rw [hσ, tx_229]
          have v1 : σ1 230 = vs := by rw [hσ, tx_230]
          refine lv_iload_n hx hb dX3_readFrom_65 rfl (lv_at hl 1 rfl) ?_
          refine z_eq (tgt := 121) hx hb dX3_readFrom_66 (by decide) (fun c_66 => ?_) (fun c_66 => ?_)
          · have hf9 : rL t 60 mo [] (s0 + 1) = (true, vs, e1) := by rw [hr9]; rcases n with _ | n; rfl; exact if_neg c_66
            refine lv_aload_n hx hb dX3_readFrom_121 rfl (lv_at hl 2 rfl) ?_
            refine g_pvals S hK h (by decide) q_142 dX3_readFrom_122 ?_
            refine q_V1 (ci := 4) S hI hK h [] (c_X4_length l L σ1 (by decide)) (by decide) rfl (by decide) q_582 q_228 q_229 q_3 q_230 yd_X4_length rfl ⟨⟨rfl, rfl⟩, ⟨(Nat.le_of_ble_eq_true rfl), (Nat.le_of_ble_eq_true rfl)⟩, Nat.le_refl _, Nat.le_refl _⟩ rfl (Nat.le_of_ble_eq_true rfl) hl.1 dX3_readFrom_125 (fun H locs h => ?_)
            refine cv_i (show (nI ((σ1 230).length) : Int32) = nI vs.length from (by rw [v1])) ?_
            refine b_if_eq (tgt := 144) hx hb dX3_readFrom_128 (by decide) (by omega) (fun c_128 => ?_) (fun c_128 => ?_)
            · rw [hf9, rF2_no (Or.inl c_128)] at hp
              refine lv_iconst (v := (nI 0)) hx hb dX3_readFrom_144 (by decide) ?_
              exact e_z S hK h hr hlk (Or.inl rfl) dX3_readFrom_145 (fin_p hp rfl hσ)
            · refine lv_aload_n hx hb dX3_readFrom_131 rfl (lv_at hl 3 rfl) ?_
              refine lv_aload_n hx hb dX3_readFrom_132 rfl (lv_at hl 2 rfl) ?_
              refine g_end S hK h (by decide) q_148 dX3_readFrom_133 ?_
              refine cv_i (show ((σ1 229).getD 1 0 : Int32) = nI e1 from (by rw [p1]; rfl)) ?_
              refine q_V1 (ci := 4) S hI hK h [.int (nI e1)] (c_X4_at l L σ1 (by decide) (by omega)) (by decide) rfl (by decide) q_576 q_224 q_225 q_3 q_226 yd_X4_at rfl ⟨⟨rfl, rfl⟩, ⟨(Nat.le_of_ble_eq_true rfl), (Nat.le_of_ble_eq_true rfl)⟩, Nat.le_refl _, Nat.le_refl _⟩ rfl (Nat.le_of_ble_eq_true rfl) hl.1 dX3_readFrom_136 (fun H locs h => ?_)
              refine cv_i (show ((σ1 227).getD e1 0 : Int32) = t.getD e1 0 from (by rw [t1])) ?_
              refine lv_bipush (v := (nI 59)) hx hb dX3_readFrom_139 (by decide) ?_
              refine lv_icmp_eq (tgt := 146) hx hb dX3_readFrom_141 (by decide) (fun c_141 => ?_) (fun c_141 => ?_)
              · rw [hf9, rF2_yes c_128 c_141] at hp
                refine lv_aload_n hx hb dX3_readFrom_146 rfl (lv_at hl 2 rfl) ?_
                refine lv_dup hx hb dX3_readFrom_147 rfl ?_
                refine g_end S hK h (by decide) q_148 dX3_readFrom_148 ?_
                refine cv_i (show ((σ1 229).getD 1 0 : Int32) = nI e1 from (by rw [p1]; rfl)) ?_
                refine lv_iconst (v := (nI 1)) hx hb dX3_readFrom_151 (by decide) ?_
                refine a_iadd hx hb dX3_readFrom_152 ?_
                refine p_end S hI hK h (by decide) q_148 dX3_readFrom_153 (fun H locs h => ?_)
                refine lv_iconst (v := (nI 1)) hx hb dX3_readFrom_156 (by decide) ?_
                exact e_z S hK h hr hlk (Or.inr rfl) dX3_readFrom_157 (fin_p hp rfl (by rw [p1, hσ]; exact tx_u9))
              · rw [hf9, rF2_no (Or.inr c_141)] at hp
                refine lv_iconst (v := (nI 0)) hx hb dX3_readFrom_144 (by decide) ?_
                exact e_z S hK h hr hlk (Or.inl rfl) dX3_readFrom_145 (fin_p hp rfl hσ)
          · refine lv_iload hx hb dX3_readFrom_69 (lv_at hl 0 rfl) ?_
            refine lv_bipush (v := (nI 60)) hx hb dX3_readFrom_71 (by decide) ?_
            refine b_icmp_ge (tgt := 121) hx hb dX3_readFrom_73 (by decide) (by omega) (by omega) (fun c_73 => ?_) (fun c_73 => ?_)
            · have hf9 : rL t 60 mo [] (s0 + 1) = (true, vs, e1) := by rw [hr9, show n = 0 by omega]; rfl
              refine lv_aload_n hx hb dX3_readFrom_121 rfl (lv_at hl 2 rfl) ?_
              refine g_pvals S hK h (by decide) q_142 dX3_readFrom_122 ?_
              refine q_V1 (ci := 4) S hI hK h [] (c_X4_length l L σ1 (by decide)) (by decide) rfl (by decide) q_582 q_228 q_229 q_3 q_230 yd_X4_length rfl ⟨⟨rfl, rfl⟩, ⟨(Nat.le_of_ble_eq_true rfl), (Nat.le_of_ble_eq_true rfl)⟩, Nat.le_refl _, Nat.le_refl _⟩ rfl (Nat.le_of_ble_eq_true rfl) hl.1 dX3_readFrom_125 (fun H locs h => ?_)
              refine cv_i (show (nI ((σ1 230).length) : Int32) = nI vs.length from (by rw [v1])) ?_
              refine b_if_eq (tgt := 144) hx hb dX3_readFrom_128 (by decide) (by omega) (fun c_128 => ?_) (fun c_128 => ?_)
              · rw [hf9, rF2_no (Or.inl c_128)] at hp
                refine lv_iconst (v := (nI 0)) hx hb dX3_readFrom_144 (by decide) ?_
                exact e_z S hK h hr hlk (Or.inl rfl) dX3_readFrom_145 (fin_p hp rfl hσ)
              · refine lv_aload_n hx hb dX3_readFrom_131 rfl (lv_at hl 3 rfl) ?_
                refine lv_aload_n hx hb dX3_readFrom_132 rfl (lv_at hl 2 rfl) ?_
                refine g_end S hK h (by decide) q_148 dX3_readFrom_133 ?_
                refine cv_i (show ((σ1 229).getD 1 0 : Int32) = nI e1 from (by rw [p1]; rfl)) ?_
                refine q_V1 (ci := 4) S hI hK h [.int (nI e1)] (c_X4_at l L σ1 (by decide) (by omega)) (by decide) rfl (by decide) q_576 q_224 q_225 q_3 q_226 yd_X4_at rfl ⟨⟨rfl, rfl⟩, ⟨(Nat.le_of_ble_eq_true rfl), (Nat.le_of_ble_eq_true rfl)⟩, Nat.le_refl _, Nat.le_refl _⟩ rfl (Nat.le_of_ble_eq_true rfl) hl.1 dX3_readFrom_136 (fun H locs h => ?_)
                refine cv_i (show ((σ1 227).getD e1 0 : Int32) = t.getD e1 0 from (by rw [t1])) ?_
                refine lv_bipush (v := (nI 59)) hx hb dX3_readFrom_139 (by decide) ?_
                refine lv_icmp_eq (tgt := 146) hx hb dX3_readFrom_141 (by decide) (fun c_141 => ?_) (fun c_141 => ?_)
                · rw [hf9, rF2_yes c_128 c_141] at hp
                  refine lv_aload_n hx hb dX3_readFrom_146 rfl (lv_at hl 2 rfl) ?_
                  refine lv_dup hx hb dX3_readFrom_147 rfl ?_
                  refine g_end S hK h (by decide) q_148 dX3_readFrom_148 ?_
                  refine cv_i (show ((σ1 229).getD 1 0 : Int32) = nI e1 from (by rw [p1]; rfl)) ?_
                  refine lv_iconst (v := (nI 1)) hx hb dX3_readFrom_151 (by decide) ?_
                  refine a_iadd hx hb dX3_readFrom_152 ?_
                  refine p_end S hI hK h (by decide) q_148 dX3_readFrom_153 (fun H locs h => ?_)
                  refine lv_iconst (v := (nI 1)) hx hb dX3_readFrom_156 (by decide) ?_
                  exact e_z S hK h hr hlk (Or.inr rfl) dX3_readFrom_157 (fin_p hp rfl (by rw [p1, hσ]; exact tx_u9))
                · rw [hf9, rF2_no (Or.inr c_141)] at hp
                  refine lv_iconst (v := (nI 0)) hx hb dX3_readFrom_144 (by decide) ?_
                  exact e_z S hK h hr hlk (Or.inl rfl) dX3_readFrom_145 (fin_p hp rfl hσ)
            · obtain ⟨n1, rfl⟩ : ∃ n1, n = n1 + 1 := ⟨n - 1, by omega⟩
              refine lv_aload_n hx hb dX3_readFrom_76 rfl (lv_at hl 2 rfl) ?_
              refine lv_dup hx hb dX3_readFrom_77 rfl ?_
              refine g_end S hK h (by decide) q_148 dX3_readFrom_78 ?_
              refine cv_i (show ((σ1 229).getD 1 0 : Int32) = nI e1 from (by rw [p1]; rfl)) ?_
              refine lv_iconst (v := (nI 1)) hx hb dX3_readFrom_81 (by decide) ?_
              refine a_iadd hx hb dX3_readFrom_82 ?_
              refine p_end S hI hK h (by decide) q_148 dX3_readFrom_83 (fun H locs h => ?_)
              have h := h.to (show up σ1 229 [(σ1 229).getD 0 0, nI (e1 + 1)] = tx σ [dgAt t s0, nI (e1 + 1)] vs from (by rw [p1, hσ]; exact tx_u9))
              have hre := rv_e (t := t) 4 (nI 0) 0 (e1 + 1)
              refine lv_aload_n hx hb dX3_readFrom_86 rfl (lv_at hl 2 rfl) ?_
              refine lv_aload_n hx hb dX3_readFrom_87 rfl (lv_at hl 3 rfl) ?_
              refine q_V1 (ci := 3) S hI hK h [.ref (ad L 227)] (c_X3_readValue l L (tx σ [dgAt t s0, nI (e1 + 1)] vs) ((tx_n (by omega) (by omega)).trans ht) tx_229 (by omega) tx_230 (by omega)) (by decide) rfl (by decide) q_577 q_579 qs_11 q_8 q_580 yd_X3_readValue rfl ⟨⟨rfl, rfl⟩, ⟨(Nat.le_of_ble_eq_true rfl), (Nat.le_of_ble_eq_true rfl)⟩, Nat.le_refl _, Nat.le_refl _⟩ rfl (Nat.le_of_ble_eq_true rfl) hl.1 dX3_readFrom_88 (fun H locs h => ?_)
              refine z_ne (tgt := 96) hx hb dX3_readFrom_91 (by decide) (fun c_91 => ?_) (fun c_91 => ?_)
              · have h := h.to (show tx (tx σ [dgAt t s0, nI (e1 + 1)] vs) [dgAt t s0, nI (rv t 4 (nI 0) 0 (e1 + 1)).2.2] (if (rv t 4 (nI 0) 0 (e1 + 1)).2.1 ≠ 0 then vs ++ [(rv t 4 (nI 0) 0 (e1 + 1)).1] else vs) = tx σ [dgAt t s0, nI (rv t 4 (nI 0) 0 (e1 + 1)).2.2] (vs ++ [(rv t 4 (nI 0) 0 (e1 + 1)).1]) from (by rw [if_pos c_91]; exact tx_tx))
                refine lv_aload_n hx hb dX3_readFrom_96 rfl (lv_at hl 3 rfl) ?_
                refine lv_aload_n hx hb dX3_readFrom_97 rfl (lv_at hl 2 rfl) ?_
                refine g_end S hK h (by decide) q_148 dX3_readFrom_98 ?_
                refine cv_i (show (((tx σ [dgAt t s0, nI (rv t 4 (nI 0) 0 (e1 + 1)).2.2] (vs ++ [(rv t 4 (nI 0) 0 (e1 + 1)).1])) 229).getD 1 0 : Int32) = nI ((rv t 4 (nI 0) 0 (e1 + 1)).2.2) from (by rw [tx_229]; rfl)) ?_
                refine q_V1 (ci := 4) S hI hK h [.int (nI ((rv t 4 (nI 0) 0 (e1 + 1)).2.2))] (c_X4_at l L (tx σ [dgAt t s0, nI (rv t 4 (nI 0) 0 (e1 + 1)).2.2] (vs ++ [(rv t 4 (nI 0) 0 (e1 + 1)).1])) (by decide) (by omega)) (by decide) rfl (by decide) q_576 q_224 q_225 q_3 q_226 yd_X4_at rfl ⟨⟨rfl, rfl⟩, ⟨(Nat.le_of_ble_eq_true rfl), (Nat.le_of_ble_eq_true rfl)⟩, Nat.le_refl _, Nat.le_refl _⟩ rfl (Nat.le_of_ble_eq_true rfl) hl.1 dX3_readFrom_101 (fun H locs h => ?_)
                refine cv_i (show (((tx σ [dgAt t s0, nI (rv t 4 (nI 0) 0 (e1 + 1)).2.2] (vs ++ [(rv t 4 (nI 0) 0 (e1 + 1)).1])) 227).getD ((rv t 4 (nI 0) 0 (e1 + 1)).2.2) 0 : Int32) = t.getD (rv t 4 (nI 0) 0 (e1 + 1)).2.2 0 from (by rw [tx_n (by omega) (by omega), ht])) ?_
                refine lv_bipush (v := (nI 44)) hx hb dX3_readFrom_104 (by decide) ?_
                refine lv_icmp_ne (tgt := 113) hx hb dX3_readFrom_106 (by decide) (fun c_106 => ?_) (fun c_106 => ?_)
                · refine lv_iconst (v := (nI 0)) hx hb dX3_readFrom_113 (by decide) ?_
                  refine lv_istore_n (lv' := [(3, .int (nI 0)), (4, .int (nI r)), (0, .ref (ad L 229)), (1, .ref (ad L 227)), (2, .int (nI s0))]) hx hb dX3_readFrom_114 rfl hl (by decide) rfl (fun ls hl => ?_)
                  refine lv_iinc (v := (nI (r + 1))) (lv' := [(4, .int (nI (r + 1))), (3, .int (nI 0)), (0, .ref (ad L 229)), (1, .ref (ad L 227)), (2, .int (nI s0))]) hx hb dX3_readFrom_115 hl (k := 1) rfl (iinc_1 _) (by decide) rfl (fun ls hl => ?_)
                  refine lv_goto (tgt := 65) hx hb dX3_readFrom_118 (by decide) ?_
                  exact ih_65 (r + 1) n1 false (vs ++ [(rv t 4 (nI 0) 0 (e1 + 1)).1]) ((rv t 4 (nI 0) 0 (e1 + 1)).2.2) (tx σ [dgAt t s0, nI (rv t 4 (nI 0) 0 (e1 + 1)).2.2] (vs ++ [(rv t 4 (nI 0) 0 (e1 + 1)).1])) (by omega) (by rw [List.length_append, List.length_singleton, hvl]) (by omega) rfl (by rw [hr9, rL, if_pos c_66, if_neg c_91, show decide (t.getD (rv t 4 (nI 0) 0 (e1 + 1)).2.2 0 = nI 44) = false from decide_eq_false c_106]) (by omega) _ _ _ h (lv_sub hl [0, 1, 2, 3, 4] rfl)
                · refine lv_iconst (v := (nI 1)) hx hb dX3_readFrom_109 (by decide) ?_
                  refine lv_goto (tgt := 114) hx hb dX3_readFrom_110 (by decide) ?_
                  refine lv_istore_n (lv' := [(3, .int (nI 1)), (4, .int (nI r)), (0, .ref (ad L 229)), (1, .ref (ad L 227)), (2, .int (nI s0))]) hx hb dX3_readFrom_114 rfl hl (by decide) rfl (fun ls hl => ?_)
                  refine lv_iinc (v := (nI (r + 1))) (lv' := [(4, .int (nI (r + 1))), (3, .int (nI 1)), (0, .ref (ad L 229)), (1, .ref (ad L 227)), (2, .int (nI s0))]) hx hb dX3_readFrom_115 hl (k := 1) rfl (iinc_1 _) (by decide) rfl (fun ls hl => ?_)
                  refine lv_goto (tgt := 65) hx hb dX3_readFrom_118 (by decide) ?_
                  exact ih_65 (r + 1) n1 true (vs ++ [(rv t 4 (nI 0) 0 (e1 + 1)).1]) ((rv t 4 (nI 0) 0 (e1 + 1)).2.2) (tx σ [dgAt t s0, nI (rv t 4 (nI 0) 0 (e1 + 1)).2.2] (vs ++ [(rv t 4 (nI 0) 0 (e1 + 1)).1])) (by omega) (by rw [List.length_append, List.length_singleton, hvl]) (by omega) rfl (by rw [hr9, rL, if_pos c_66, if_neg c_91, show decide (t.getD (rv t 4 (nI 0) 0 (e1 + 1)).2.2 0 = nI 44) = true from decide_eq_true c_106]) (by omega) _ _ _ h (lv_sub hl [0, 1, 2, 3, 4] rfl)
              · have hz9 : (rv t 4 (nI 0) 0 (e1 + 1)).2.1 = 0 := Classical.byContradiction fun q => c_91 q
                have hf9 : rL t 60 mo [] (s0 + 1) = (false, vs, (rv t 4 (nI 0) 0 (e1 + 1)).2.2) := by rw [hr9, rL, if_pos c_66, if_pos hz9]
                refine lv_iconst (v := (nI 0)) hx hb dX3_readFrom_94 (by decide) ?_
                exact e_z S hK h hr hlk (Or.inl rfl) dX3_readFrom_95 (fin_p (by rw [hf9, rF2_f] at hp; exact hp) rfl (by rw [if_neg c_91]; exact tx_tx))
      exact LP_65 _ 0 60 mo ([]) (s0 + 1) (tx σ [dgAt t s0, nI (s0 + 1)] []) (by omega) rfl (by omega) rfl rfl (Nat.lt_succ_self _) _ _ _ h (lv_sub hl [0, 1, 2, 3, 4] rfl)
    refine lv_icmp_ne (tgt := 60) hx hb dX3_readFrom_53 (by decide) (fun c_53 => ?_) (fun c_53 => ?_)
    · refine lv_iconst (v := (nI 0)) hx hb dX3_readFrom_60 (by decide) ?_
      exact CT_61 false _ _ _ (by first | exact decide_eq_true c_53 | exact decide_eq_false c_53) h (lv_sub hl [0, 1, 2] rfl)
    · refine lv_iconst (v := (nI 1)) hx hb dX3_readFrom_56 (by decide) ?_
      refine lv_goto (tgt := 61) hx hb dX3_readFrom_57 (by decide) ?_
      exact CT_61 true _ _ _ (by first | exact decide_eq_true c_53 | exact decide_eq_false c_53) h (lv_sub hl [0, 1, 2] rfl)
  · rw [rF, if_pos (Int32.not_le.mp c_28)] at hp
    refine lv_iconst (v := (nI 0)) hx hb dX3_readFrom_31 (by decide) ?_
    exact e_z S hK h hr hlk (Or.inl rfl) dX3_readFrom_32 hp

abbrev rX6_reasonOf : Room := { frames := 4, cells := 0, slots := 0, locals := 90 }
theorem yd_X6_reasonOf : ydV yX6_reasonOf RX6 3 := ⟨rfl, by decide +kernel, by decide +kernel, by decide +kernel⟩
set_option maxHeartbeats 4000000 in
set_option maxRecDepth 100000 in
theorem c_X6_reasonOf (l : Launch) (L : Lay) (σ : St) {t W : List Int32} {s0 : Nat} (ht : σ 227 = t) (hs0 : s0 ≤ 600) (hW : σ 233 = W) : Mf l L yX6_reasonOf (Cond.code yX6_reasonOf cX6_reasonOf 5 (some FieldType.int) :: qA) rX6_reasonOf [.ref (ad L 232), .ref (ad L 227), .int (nI s0), .ref (ad L 229)] σ (some (.int (nI (rO W (rF t s0))))) (up (tx σ [(rF t s0).2.1, nI (rF t s0).2.2.2] (rF t s0).2.2.1) 233 (rW W (rF t s0))) := by
  refine Mf.ofW (by decide) (Nat.le_of_ble_eq_true rfl) ?_
  intro p e s m args below meth c ls post hp hI S hr hlk hK h hl
  have hx := S.1
  have hb := S.2.1
  have hok := h.ok
  have hl : lv_has ls 5 [(0, .ref (ad L 232)), (1, .ref (ad L 227)), (2, .int (nI s0)), (3, .ref (ad L 229))] := hl
  have hW2 : (tx σ [(rF t s0).2.1, nI (rF t s0).2.2.2] (rF t s0).2.2.1) 233 = W := (tx_n (by omega) (by omega)).trans hW
  have hrl := (rF_e (t := t) (s := s0)).2
  refine lv_aload_n hx hb dX6_reasonOf_0 rfl (lv_at hl 3 rfl) ?_
  refine lv_aload_n hx hb dX6_reasonOf_1 rfl (lv_at hl 1 rfl) ?_
  refine lv_iload_n hx hb dX6_reasonOf_2 rfl (lv_at hl 2 rfl) ?_
  refine q_V1 (ci := 3) S hI hK h [.ref (ad L 227), .int (nI s0)] (c_X3_readFrom l L σ ht hs0) (by decide) rfl (by decide) q_568 q_569 q_570 q_8 q_571 yd_X3_readFrom rfl ⟨⟨rfl, rfl⟩, ⟨(Nat.le_of_ble_eq_true rfl), (Nat.le_of_ble_eq_true rfl)⟩, Nat.le_refl _, Nat.le_refl _⟩ rfl (Nat.le_of_ble_eq_true rfl) hl.1 dX6_reasonOf_3 (fun H locs h => ?_)
  refine z_ne (tgt := 11) hx hb dX6_reasonOf_6 (by decide) (fun c_6 => ?_) (fun c_6 => ?_)
  · obtain ⟨dn, hdn, hde⟩ := rF_d c_6
    refine lv_aload_n hx hb dX6_reasonOf_11 rfl (lv_at hl 3 rfl) ?_
    refine g_digest S hK h (by decide) q_146 dX6_reasonOf_12 ?_
    refine cv_i (show (((tx σ [(rF t s0).2.1, nI (rF t s0).2.2.2] (rF t s0).2.2.1) 229).getD 0 0 : Int32) = nI dn from (by rw [tx_229]; exact hde)) ?_
    refine lv_iconst (v := (nI 3)) hx hb dX6_reasonOf_15 (by decide) ?_
    refine b_icmp_lt (tgt := 21) hx hb dX6_reasonOf_16 (by decide) (by omega) (by omega) (fun c_16 => ?_) (fun c_16 => ?_)
    · refine lv_aload_n hx hb dX6_reasonOf_21 rfl (lv_at hl 0 rfl) ?_
      refine g_tweights S hK h (by decide) q_166 dX6_reasonOf_22 ?_
      refine lv_aload_n hx hb dX6_reasonOf_25 rfl (lv_at hl 3 rfl) ?_
      refine g_digest S hK h (by decide) q_146 dX6_reasonOf_26 ?_
      refine cv_i (show (((tx σ [(rF t s0).2.1, nI (rF t s0).2.2.2] (rF t s0).2.2.1) 229).getD 0 0 : Int32) = nI dn from (by rw [tx_229]; exact hde)) ?_
      refine q_V1 (ci := 4) S hI hK h [.int (nI dn)] (c_X4_at l L (tx σ [(rF t s0).2.1, nI (rF t s0).2.2.2] (rF t s0).2.2.1) (by decide) (by omega)) (by decide) rfl (by decide) q_583 q_224 q_225 q_3 q_226 yd_X4_at rfl ⟨⟨rfl, rfl⟩, ⟨(Nat.le_of_ble_eq_true rfl), (Nat.le_of_ble_eq_true rfl)⟩, Nat.le_refl _, Nat.le_refl _⟩ rfl (Nat.le_of_ble_eq_true rfl) hl.1 dX6_reasonOf_29 (fun H locs h => ?_)
      refine cv_i (show (((tx σ [(rF t s0).2.1, nI (rF t s0).2.2.2] (rF t s0).2.2.1) 233).getD dn 0 : Int32) = W.getD dn 0 from (by rw [hW2])) ?_
      refine lv_aload_n hx hb dX6_reasonOf_32 rfl (lv_at hl 3 rfl) ?_
      refine g_pvals S hK h (by decide) q_143 dX6_reasonOf_33 ?_
      refine q_V1 (ci := 4) S hI hK h [] (c_X4_length l L (tx σ [(rF t s0).2.1, nI (rF t s0).2.2.2] (rF t s0).2.2.1) (by decide)) (by decide) rfl (by decide) q_563 q_228 q_229 q_3 q_230 yd_X4_length rfl ⟨⟨rfl, rfl⟩, ⟨(Nat.le_of_ble_eq_true rfl), (Nat.le_of_ble_eq_true rfl)⟩, Nat.le_refl _, Nat.le_refl _⟩ rfl (Nat.le_of_ble_eq_true rfl) hl.1 dX6_reasonOf_36 (fun H locs h => ?_)
      refine cv_i (show (nI (((tx σ [(rF t s0).2.1, nI (rF t s0).2.2.2] (rF t s0).2.2.1) 230).length) : Int32) = nI ((rF t s0).2.2.1.length) from (by rw [tx_230])) ?_
      refine lv_iadd hx hb dX6_reasonOf_39 ?_
      refine lv_istore (lv' := [(4, .int ((W.getD dn 0) + (nI ((rF t s0).2.2.1.length)))), (0, .ref (ad L 232)), (1, .ref (ad L 227)), (2, .int (nI s0)), (3, .ref (ad L 229))]) hx hb dX6_reasonOf_40 hl (by decide) rfl (fun ls hl => ?_)
      refine lv_iload hx hb dX6_reasonOf_42 (lv_at hl 0 rfl) ?_
      refine lv_sipush (v := (nI 200)) hx hb dX6_reasonOf_44 (by decide) ?_
      refine lv_icmp_le (tgt := 52) hx hb dX6_reasonOf_47 (by decide) (fun c_47 => ?_) (fun c_47 => ?_)
      · have hro : rO W (rF t s0) = 0 := by rw [rO, if_neg (by rw [c_6]; decide), hde, if_neg (fun q => absurd ((nI_leI (by omega) (by omega)).mp q) (by omega)), nI_clamp (by omega), if_neg (Int32.not_lt.mpr c_47)]
        rw [rW, if_pos hro, hro] at hp
        refine lv_aload_n hx hb dX6_reasonOf_52 rfl (lv_at hl 1 rfl) ?_
        refine g_tweights S hK h (by decide) q_166 dX6_reasonOf_53 ?_
        refine lv_aload_n hx hb dX6_reasonOf_56 rfl (lv_at hl 4 rfl) ?_
        refine g_digest S hK h (by decide) q_146 dX6_reasonOf_57 ?_
        refine cv_i (show (((tx σ [(rF t s0).2.1, nI (rF t s0).2.2.2] (rF t s0).2.2.1) 229).getD 0 0 : Int32) = nI dn from (by rw [tx_229]; exact hde)) ?_
        refine lv_iload hx hb dX6_reasonOf_60 (lv_at hl 0 rfl) ?_
        refine q_V0 (ci := 4) S hI hK h [.int (nI dn), .int ((W.getD dn 0) + (nI ((rF t s0).2.2.1.length)))] (c_X4_put l L (tx σ [(rF t s0).2.1, nI (rF t s0).2.2.2] (rF t s0).2.2.1) (by decide) (by omega) ((W.getD dn 0) + (nI ((rF t s0).2.2.1.length)))) (by decide) rfl (by decide) q_584 q_325 q_326 q_3 q_327 yd_X4_put rfl ⟨⟨rfl, rfl⟩, ⟨(Nat.le_of_ble_eq_true rfl), (Nat.le_of_ble_eq_true rfl)⟩, Nat.le_refl _, Nat.le_refl _⟩ rfl (Nat.le_of_ble_eq_true rfl) hl.1 dX6_reasonOf_62 (fun H locs h => ?_)
        refine lv_iconst (v := (nI 0)) hx hb dX6_reasonOf_65 (by decide) ?_
        exact e_i S hK h hr hlk dX6_reasonOf_66 (fin_p hp rfl (by rw [show (232 + 1 : Nat) = 233 from rfl, hW2, hde, nI_clamp (by omega)]))
      · have hro : rO W (rF t s0) = 3 := by rw [rO, if_neg (by rw [c_6]; decide), hde, if_neg (fun q => absurd ((nI_leI (by omega) (by omega)).mp q) (by omega)), nI_clamp (by omega), if_pos (Int32.not_le.mp c_47)]
        rw [rW, hro, if_neg (by omega)] at hp
        refine lv_iconst (v := (nI 3)) hx hb dX6_reasonOf_50 (by decide) ?_
        exact e_i S hK h hr hlk dX6_reasonOf_51 (fin_p hp rfl (up_id hW2).symm)
    · have hro : rO W (rF t s0) = 2 := by rw [rO, if_neg (by rw [c_6]; decide), hde, if_pos ((nI_leI (by omega) (by omega)).mpr c_16)]
      rw [rW, hro, if_neg (by omega)] at hp
      refine lv_iconst (v := (nI 2)) hx hb dX6_reasonOf_19 (by decide) ?_
      exact e_i S hK h hr hlk dX6_reasonOf_20 (fin_p hp rfl (up_id hW2).symm)
  · have hro : rO W (rF t s0) = 1 := by rw [rO, if_pos (Bool.eq_false_iff.mpr c_6)]
    rw [rW, hro, if_neg (by omega)] at hp
    refine lv_iconst (v := (nI 1)) hx hb dX6_reasonOf_9 (by decide) ?_
    exact e_i S hK h hr hlk dX6_reasonOf_10 (fin_p hp rfl (up_id hW2).symm)

abbrev rX6_startWeights : Room := { frames := 3, cells := 0, slots := 0, locals := 63 }
theorem yd_X6_startWeights : ydV yX6_startWeights RX6 1 := ⟨rfl, by decide +kernel, by decide +kernel, by decide +kernel⟩
set_option maxHeartbeats 4000000 in
set_option maxRecDepth 100000 in
theorem c_X6_startWeights (l : Launch) (L : Lay) (σ : St) {X : SS} (hv : SV σ 0 X) : Mf l L yX6_startWeights (Cond.code yX6_startWeights cX6_startWeights 4 none :: qA) rX6_startWeights [.ref (ad L 232), .ref (ad L 0)] σ none (up σ 233 (Wof X)) := by
  refine Mf.ofW (by decide) (Nat.le_of_ble_eq_true rfl) ?_
  intro p e s m args below meth c ls post hp hI S hr hlk hK h hl
  have hx := S.1
  have hb := S.2.1
  have hok := h.ok
  have hl : lv_has ls 4 [(0, .ref (ad L 232)), (1, .ref (ad L 0))] := hl
  have hc3 : cp 233 = 3 := by decide
  have hvu : ∀ l, SV (up σ 233 l) 0 X := fun l => hv.congr (fun j h1 h2 => up_n (by omega))
  refine lv_aload_n hx hb dX6_startWeights_0 rfl (lv_at hl 0 rfl) ?_
  refine g_tweights S hK h (by decide) q_166 dX6_startWeights_1 ?_
  refine q_V0 (ci := 4) S hI hK h [] (c_X4_empty l L σ (by decide)) (by decide) rfl (by decide) q_559 q_285 q_286 q_3 q_287 yd_X4_empty rfl ⟨⟨rfl, rfl⟩, ⟨(Nat.le_of_ble_eq_true rfl), (Nat.le_of_ble_eq_true rfl)⟩, Nat.le_refl _, Nat.le_refl _⟩ rfl (Nat.le_of_ble_eq_true rfl) hl.1 dX6_startWeights_4 (fun H locs h => ?_)
  refine lv_iconst (v := (nI 0)) hx hb dX6_startWeights_7 (by decide) ?_
  refine lv_istore_n (lv' := [(2, .int (nI 0)), (0, .ref (ad L 232)), (1, .ref (ad L 0))]) hx hb dX6_startWeights_8 rfl hl (by decide) rfl (fun ls hl => ?_)
  refine lv_iload_n hx hb dX6_startWeights_9 rfl (lv_at hl 0 rfl) ?_
  refine lv_iconst (v := (nI 3)) hx hb dX6_startWeights_10 (by decide) ?_
  refine b_icmp_ge (tgt := 45) hx hb dX6_startWeights_11 (by decide) (by decide) (by decide) (fun c9 => absurd c9 (by decide)) (fun _ => ?_)
  refine lv_aload_n hx hb dX6_startWeights_14 rfl (lv_at hl 2 rfl) ?_
  refine lv_iload_n hx hb dX6_startWeights_15 rfl (lv_at hl 0 rfl) ?_
  refine q_V1 (ci := 5) S hI hK h [.int (nI 0)] (c_X5_digestAt l L (up σ 233 ([])) (by decide) (by omega)) (by decide) rfl (by decide) q_560 q_208 q_209 q_2 q_210 yd_X5_digestAt rfl ⟨⟨rfl, rfl⟩, ⟨(Nat.le_of_ble_eq_true rfl), (Nat.le_of_ble_eq_true rfl)⟩, Nat.le_refl _, Nat.le_refl _⟩ rfl (Nat.le_of_ble_eq_true rfl) hl.1 dX6_startWeights_16 (fun H locs h => ?_)
  refine lv_astore_n (lv' := [(3, .ref (ad L (3 + 14 * 0))), (2, .int (nI 0)), (0, .ref (ad L 232)), (1, .ref (ad L 0))]) hx hb dX6_startWeights_19 rfl hl (by decide) rfl (fun ls hl => ?_)
  refine lv_aload_n hx hb dX6_startWeights_20 rfl (lv_at hl 2 rfl) ?_
  refine g_tweights S hK h (by decide) q_166 dX6_startWeights_21 ?_
  refine lv_aload_n hx hb dX6_startWeights_24 rfl (lv_at hl 0 rfl) ?_
  refine lv_ifnonnull (tgt := 32) hx hb dX6_startWeights_25 (by decide) ?_
  refine lv_aload_n hx hb dX6_startWeights_32 rfl (lv_at hl 0 rfl) ?_
  refine q_V1 (ci := 0) S hI hK h [] (c_X0_weight l L (up σ 233 ([])) (kd314 (by omega)) ((hvu _).2 0 (by omega))) (kd314 (by omega)) rfl (by decide) q_561 q_216 q_217 q_5 q_218 yd_X0_weight rfl ⟨⟨rfl, rfl⟩, ⟨(Nat.le_of_ble_eq_true rfl), (Nat.le_of_ble_eq_true rfl)⟩, Nat.le_refl _, Nat.le_refl _⟩ rfl (Nat.le_of_ble_eq_true rfl) hl.1 dX6_startWeights_33 (fun H locs h => ?_)
  refine q_V0 (ci := 4) S hI hK h [.int (dW ((X.2.2 0).1) ((X.2.2 0).2.1))] (c_X4_append l L (up σ 233 ([])) (by decide) (by rw [up_s]; exact (show 0 < 3 from by omega)) (dW ((X.2.2 0).1) ((X.2.2 0).2.1))) (by decide) rfl (by decide) q_562 q_99 q_100 q_3 q_101 yd_X4_append rfl ⟨⟨rfl, rfl⟩, ⟨(Nat.le_of_ble_eq_true rfl), (Nat.le_of_ble_eq_true rfl)⟩, Nat.le_refl _, Nat.le_refl _⟩ rfl (Nat.le_of_ble_eq_true rfl) hl.1 dX6_startWeights_36 (fun H locs h => ?_)
  have h := h.to (show up (up σ 233 ([])) 233 (((up σ 233 ([])) 233) ++ [dW ((X.2.2 0).1) ((X.2.2 0).2.1)]) = up σ 233 [dW (X.2.2 0).1 (X.2.2 0).2.1] from by rw [up_up, up_s]; rfl)
  refine lv_iinc (v := (nI 1)) (lv' := [(2, .int (nI 1)), (3, .ref (ad L (3 + 14 * 0))), (0, .ref (ad L 232)), (1, .ref (ad L 0))]) hx hb dX6_startWeights_39 hl (k := 1) rfl (iinc_k 0 1) (by decide) rfl (fun ls hl => ?_)
  refine lv_goto (tgt := 9) hx hb dX6_startWeights_42 (by decide) ?_
  refine lv_iload_n hx hb dX6_startWeights_9 rfl (lv_at hl 0 rfl) ?_
  refine lv_iconst (v := (nI 3)) hx hb dX6_startWeights_10 (by decide) ?_
  refine b_icmp_ge (tgt := 45) hx hb dX6_startWeights_11 (by decide) (by decide) (by decide) (fun c9 => absurd c9 (by decide)) (fun _ => ?_)
  refine lv_aload_n hx hb dX6_startWeights_14 rfl (lv_at hl 3 rfl) ?_
  refine lv_iload_n hx hb dX6_startWeights_15 rfl (lv_at hl 0 rfl) ?_
  refine q_V1 (ci := 5) S hI hK h [.int (nI 1)] (c_X5_digestAt l L (up σ 233 [dW (X.2.2 0).1 (X.2.2 0).2.1]) (by decide) (by omega)) (by decide) rfl (by decide) q_560 q_208 q_209 q_2 q_210 yd_X5_digestAt rfl ⟨⟨rfl, rfl⟩, ⟨(Nat.le_of_ble_eq_true rfl), (Nat.le_of_ble_eq_true rfl)⟩, Nat.le_refl _, Nat.le_refl _⟩ rfl (Nat.le_of_ble_eq_true rfl) hl.1 dX6_startWeights_16 (fun H locs h => ?_)
  refine lv_astore_n (lv' := [(3, .ref (ad L (3 + 14 * 1))), (2, .int (nI 1)), (0, .ref (ad L 232)), (1, .ref (ad L 0))]) hx hb dX6_startWeights_19 rfl hl (by decide) rfl (fun ls hl => ?_)
  refine lv_aload_n hx hb dX6_startWeights_20 rfl (lv_at hl 2 rfl) ?_
  refine g_tweights S hK h (by decide) q_166 dX6_startWeights_21 ?_
  refine lv_aload_n hx hb dX6_startWeights_24 rfl (lv_at hl 0 rfl) ?_
  refine lv_ifnonnull (tgt := 32) hx hb dX6_startWeights_25 (by decide) ?_
  refine lv_aload_n hx hb dX6_startWeights_32 rfl (lv_at hl 0 rfl) ?_
  refine q_V1 (ci := 0) S hI hK h [] (c_X0_weight l L (up σ 233 [dW (X.2.2 0).1 (X.2.2 0).2.1]) (kd314 (by omega)) ((hvu _).2 1 (by omega))) (kd314 (by omega)) rfl (by decide) q_561 q_216 q_217 q_5 q_218 yd_X0_weight rfl ⟨⟨rfl, rfl⟩, ⟨(Nat.le_of_ble_eq_true rfl), (Nat.le_of_ble_eq_true rfl)⟩, Nat.le_refl _, Nat.le_refl _⟩ rfl (Nat.le_of_ble_eq_true rfl) hl.1 dX6_startWeights_33 (fun H locs h => ?_)
  refine q_V0 (ci := 4) S hI hK h [.int (dW ((X.2.2 1).1) ((X.2.2 1).2.1))] (c_X4_append l L (up σ 233 [dW (X.2.2 0).1 (X.2.2 0).2.1]) (by decide) (by rw [up_s]; exact (show 1 < 3 from by omega)) (dW ((X.2.2 1).1) ((X.2.2 1).2.1))) (by decide) rfl (by decide) q_562 q_99 q_100 q_3 q_101 yd_X4_append rfl ⟨⟨rfl, rfl⟩, ⟨(Nat.le_of_ble_eq_true rfl), (Nat.le_of_ble_eq_true rfl)⟩, Nat.le_refl _, Nat.le_refl _⟩ rfl (Nat.le_of_ble_eq_true rfl) hl.1 dX6_startWeights_36 (fun H locs h => ?_)
  have h := h.to (show up (up σ 233 [dW (X.2.2 0).1 (X.2.2 0).2.1]) 233 (((up σ 233 [dW (X.2.2 0).1 (X.2.2 0).2.1]) 233) ++ [dW ((X.2.2 1).1) ((X.2.2 1).2.1)]) = up σ 233 [dW (X.2.2 0).1 (X.2.2 0).2.1, dW (X.2.2 1).1 (X.2.2 1).2.1] from by rw [up_up, up_s]; rfl)
  refine lv_iinc (v := (nI 2)) (lv' := [(2, .int (nI 2)), (3, .ref (ad L (3 + 14 * 1))), (0, .ref (ad L 232)), (1, .ref (ad L 0))]) hx hb dX6_startWeights_39 hl (k := 1) rfl (iinc_k 1 1) (by decide) rfl (fun ls hl => ?_)
  refine lv_goto (tgt := 9) hx hb dX6_startWeights_42 (by decide) ?_
  refine lv_iload_n hx hb dX6_startWeights_9 rfl (lv_at hl 0 rfl) ?_
  refine lv_iconst (v := (nI 3)) hx hb dX6_startWeights_10 (by decide) ?_
  refine b_icmp_ge (tgt := 45) hx hb dX6_startWeights_11 (by decide) (by decide) (by decide) (fun c9 => absurd c9 (by decide)) (fun _ => ?_)
  refine lv_aload_n hx hb dX6_startWeights_14 rfl (lv_at hl 3 rfl) ?_
  refine lv_iload_n hx hb dX6_startWeights_15 rfl (lv_at hl 0 rfl) ?_
  refine q_V1 (ci := 5) S hI hK h [.int (nI 2)] (c_X5_digestAt l L (up σ 233 [dW (X.2.2 0).1 (X.2.2 0).2.1, dW (X.2.2 1).1 (X.2.2 1).2.1]) (by decide) (by omega)) (by decide) rfl (by decide) q_560 q_208 q_209 q_2 q_210 yd_X5_digestAt rfl ⟨⟨rfl, rfl⟩, ⟨(Nat.le_of_ble_eq_true rfl), (Nat.le_of_ble_eq_true rfl)⟩, Nat.le_refl _, Nat.le_refl _⟩ rfl (Nat.le_of_ble_eq_true rfl) hl.1 dX6_startWeights_16 (fun H locs h => ?_)
  refine lv_astore_n (lv' := [(3, .ref (ad L (3 + 14 * 2))), (2, .int (nI 2)), (0, .ref (ad L 232)), (1, .ref (ad L 0))]) hx hb dX6_startWeights_19 rfl hl (by decide) rfl (fun ls hl => ?_)
  refine lv_aload_n hx hb dX6_startWeights_20 rfl (lv_at hl 2 rfl) ?_
  refine g_tweights S hK h (by decide) q_166 dX6_startWeights_21 ?_
  refine lv_aload_n hx hb dX6_startWeights_24 rfl (lv_at hl 0 rfl) ?_
  refine lv_ifnonnull (tgt := 32) hx hb dX6_startWeights_25 (by decide) ?_
  refine lv_aload_n hx hb dX6_startWeights_32 rfl (lv_at hl 0 rfl) ?_
  refine q_V1 (ci := 0) S hI hK h [] (c_X0_weight l L (up σ 233 [dW (X.2.2 0).1 (X.2.2 0).2.1, dW (X.2.2 1).1 (X.2.2 1).2.1]) (kd314 (by omega)) ((hvu _).2 2 (by omega))) (kd314 (by omega)) rfl (by decide) q_561 q_216 q_217 q_5 q_218 yd_X0_weight rfl ⟨⟨rfl, rfl⟩, ⟨(Nat.le_of_ble_eq_true rfl), (Nat.le_of_ble_eq_true rfl)⟩, Nat.le_refl _, Nat.le_refl _⟩ rfl (Nat.le_of_ble_eq_true rfl) hl.1 dX6_startWeights_33 (fun H locs h => ?_)
  refine q_V0 (ci := 4) S hI hK h [.int (dW ((X.2.2 2).1) ((X.2.2 2).2.1))] (c_X4_append l L (up σ 233 [dW (X.2.2 0).1 (X.2.2 0).2.1, dW (X.2.2 1).1 (X.2.2 1).2.1]) (by decide) (by rw [up_s]; exact (show 2 < 3 from by omega)) (dW ((X.2.2 2).1) ((X.2.2 2).2.1))) (by decide) rfl (by decide) q_562 q_99 q_100 q_3 q_101 yd_X4_append rfl ⟨⟨rfl, rfl⟩, ⟨(Nat.le_of_ble_eq_true rfl), (Nat.le_of_ble_eq_true rfl)⟩, Nat.le_refl _, Nat.le_refl _⟩ rfl (Nat.le_of_ble_eq_true rfl) hl.1 dX6_startWeights_36 (fun H locs h => ?_)
  have h := h.to (show up (up σ 233 [dW (X.2.2 0).1 (X.2.2 0).2.1, dW (X.2.2 1).1 (X.2.2 1).2.1]) 233 (((up σ 233 [dW (X.2.2 0).1 (X.2.2 0).2.1, dW (X.2.2 1).1 (X.2.2 1).2.1]) 233) ++ [dW ((X.2.2 2).1) ((X.2.2 2).2.1)]) = up σ 233 [dW (X.2.2 0).1 (X.2.2 0).2.1, dW (X.2.2 1).1 (X.2.2 1).2.1, dW (X.2.2 2).1 (X.2.2 2).2.1] from by rw [up_up, up_s]; rfl)
  refine lv_iinc (v := (nI 3)) (lv' := [(2, .int (nI 3)), (3, .ref (ad L (3 + 14 * 2))), (0, .ref (ad L 232)), (1, .ref (ad L 0))]) hx hb dX6_startWeights_39 hl (k := 1) rfl (iinc_k 2 1) (by decide) rfl (fun ls hl => ?_)
  refine lv_goto (tgt := 9) hx hb dX6_startWeights_42 (by decide) ?_
  refine lv_iload_n hx hb dX6_startWeights_9 rfl (lv_at hl 0 rfl) ?_
  refine lv_iconst (v := (nI 3)) hx hb dX6_startWeights_10 (by decide) ?_
  refine b_icmp_ge (tgt := 45) hx hb dX6_startWeights_11 (by decide) (by decide) (by decide) (fun _ => ?_) (fun c9 => absurd c9 (by decide))
  exact e_v S hK h hr hlk dX6_startWeights_45 hp
