abbrev rX6_find : Room := { frames := 5, cells := 0, slots := 0, locals := 114 }
theorem yd_X6_find : ydV yX6_find RX6 3 := ⟨rfl, by decide +kernel, by decide +kernel, by decide +kernel⟩
set_option maxHeartbeats 4000000 in
set_option maxRecDepth 100000 in
theorem c_X6_find (l : Launch) (L : Lay) (σ : St) {X : SS} {t : List Int32} (ht : σ 227 = t) (hv : SV σ 0 X) : Mg l L yX6_find (Cond.code yX6_find cX6_find 6 none :: qA) rX6_find [.ref (ad L 232), .ref (ad L 227), .ref (ad L 0), .ref (ad L 229)] σ (fun r u => r = none ∧ (∀ k, k ≠ 229 → k ≠ 230 → k ≠ 232 → k ≠ 233 → u k = σ k) ∧ FR u (faultOf t X)) := by
  refine Mr_ofW (by decide) (Nat.le_of_ble_eq_true rfl) ?_
  intro p e s m args below meth c ls post hp hI S hr hlk hK h hl
  have hx := S.1
  have hb := S.2.1
  have hok := h.ok
  have hl : lv_has ls 6 [(0, .ref (ad L 232)), (1, .ref (ad L 227)), (2, .ref (ad L 0)), (3, .ref (ad L 229))] := hl
  have ht60 : t.length ≤ 60 := by rw [← ht]; exact hok 227 (by decide)
  refine lv_aload_n hx hb dX6_find_0 rfl (lv_at hl 0 rfl) ?_
  refine lv_aload_n hx hb dX6_find_1 rfl (lv_at hl 2 rfl) ?_
  refine q_V0 (ci := 6) S hI hK h [.ref (ad L 0)] (c_X6_startWeights l L σ hv) (by decide) rfl (by decide) q_555 q_557 qs_9 q_9 q_558 yd_X6_startWeights rfl ⟨⟨rfl, rfl⟩, ⟨(Nat.le_of_ble_eq_true rfl), (Nat.le_of_ble_eq_true rfl)⟩, Nat.le_refl _, Nat.le_refl _⟩ rfl (Nat.le_of_ble_eq_true rfl) hl.1 dX6_find_2 (fun H locs h => ?_)
  refine lv_aload_n hx hb dX6_find_5 rfl (lv_at hl 0 rfl) ?_
  refine lv_iconst (v := (nI 0)) hx hb dX6_find_6 (by decide) ?_
  refine p_reason S hI hK h (by decide) q_169 dX6_find_7 (fun H locs h => ?_)
  refine lv_iconst (v := (nI 0)) hx hb dX6_find_10 (by decide) ?_
  refine lv_istore (lv' := [(4, .int (nI 0)), (0, .ref (ad L 232)), (1, .ref (ad L 227)), (2, .ref (ad L 0)), (3, .ref (ad L 229))]) hx hb dX6_find_11 hl (by decide) rfl (fun ls hl => ?_)
  refine lv_iconst (v := (nI 0)) hx hb dX6_find_13 (by decide) ?_
  refine lv_istore (lv' := [(5, .int (nI 0)), (4, .int (nI 0)), (0, .ref (ad L 232)), (1, .ref (ad L 227)), (2, .ref (ad L 0)), (3, .ref (ad L 229))]) hx hb dX6_find_14 hl (by decide) rfl (fun ls hl => ?_)
  have LP_16 : ∀ (n_16 : Nat) (pr : Nat) (n : Nat) (s9 : Nat) (W9 : List Int32) (σ1 : St), (pr + n = 60) → (s9 ≤ 370) → (σ1 233 = W9) → ((σ1 232).getD 1 0 = nI 0) → (∀ k, k ≠ 229 → k ≠ 230 → k ≠ 232 → k ≠ 233 → σ1 k = σ k) → (faultOf t X = ff t n s9 W9) → n < n_16 → ∀ (H : Heap) (locs : List Loc) (ls : Array Slot), Hd L s.heap H σ1 locs → lv_has ls 6 [(5, .int (nI pr)), (4, .int (nI s9)), (0, .ref (ad L 232)), (1, .ref (ad L 227)), (2, .ref (ad L 0)), (3, .ref (ad L 229))] → W p l e rX6_find s m args below meth c H locs 0 0 (MQ below (Qg post (bs L) (Aw L)) args s 0 0 (Aw L)) (F0 m 16 ls []) := by
    intro n_16
    induction n_16 with
    | zero => intro pr n s9 W9 σ1; intros; omega
    | succ n_16 ih_16 =>
      intro pr n s9 W9 σ1 hg hs hW hz ho hr9 hm_16 H locs ls h hl
      have hok := h.ok
      have t1 : σ1 227 = t := by rw [ho 227 (by omega) (by omega) (by omega) (by omega)]; exact ht
      refine lv_iload hx hb dX6_find_16 (lv_at hl 0 rfl) ?_
      refine lv_bipush (v := (nI 60)) hx hb dX6_find_18 (by decide) ?_
      refine b_icmp_ge (tgt := 81) hx hb dX6_find_20 (by decide) (by omega) (by omega) (fun c_20 => ?_) (fun c_20 => ?_)
      · have hf9 : faultOf t X = none := by rw [hr9, show n = 0 by omega]; rfl
        exact e_v S hK h hr hlk dX6_find_81 (hp _ _ ⟨rfl, ho, by rw [hf9]; exact hz⟩)
      · obtain ⟨n1, rfl⟩ : ∃ n1, n = n1 + 1 := ⟨n - 1, by omega⟩
        refine lv_iload hx hb dX6_find_23 (lv_at hl 1 rfl) ?_
        refine lv_aload_n hx hb dX6_find_25 rfl (lv_at hl 3 rfl) ?_
        refine q_V1 (ci := 4) S hI hK h [] (c_X4_length l L σ1 (by decide)) (by decide) rfl (by decide) q_563 q_228 q_229 q_3 q_230 yd_X4_length rfl ⟨⟨rfl, rfl⟩, ⟨(Nat.le_of_ble_eq_true rfl), (Nat.le_of_ble_eq_true rfl)⟩, Nat.le_refl _, Nat.le_refl _⟩ rfl (Nat.le_of_ble_eq_true rfl) hl.1 dX6_find_26 (fun H locs h => ?_)
        refine cv_i (show (nI ((σ1 227).length) : Int32) = nI t.length from (by rw [t1])) ?_
        refine b_icmp_ge (tgt := 81) hx hb dX6_find_29 (by decide) (by omega) (by omega) (fun c_29 => ?_) (fun c_29 => ?_)
        · have hf9 : faultOf t X = none := by rw [hr9, ff, if_neg (by omega)]
          exact e_v S hK h hr hlk dX6_find_81 (hp _ _ ⟨rfl, ho, by rw [hf9]; exact hz⟩)
        · have hre := (rF_e (t := t) (s := s9)).1
          refine lv_aload_n hx hb dX6_find_32 rfl (lv_at hl 2 rfl) ?_
          refine lv_aload_n hx hb dX6_find_33 rfl (lv_at hl 2 rfl) ?_
          refine lv_aload_n hx hb dX6_find_34 rfl (lv_at hl 3 rfl) ?_
          refine lv_iload hx hb dX6_find_35 (lv_at hl 1 rfl) ?_
          refine lv_aload_n hx hb dX6_find_37 rfl (lv_at hl 5 rfl) ?_
          refine q_V1 (ci := 6) S hI hK h [.ref (ad L 227), .int (nI s9), .ref (ad L 229)] (c_X6_reasonOf l L σ1 t1 (by omega) hW) (by decide) rfl (by decide) q_564 q_566 qs_10 q_9 q_567 yd_X6_reasonOf rfl ⟨⟨rfl, rfl⟩, ⟨(Nat.le_of_ble_eq_true rfl), (Nat.le_of_ble_eq_true rfl)⟩, Nat.le_refl _, Nat.le_refl _⟩ rfl (Nat.le_of_ble_eq_true rfl) hl.1 dX6_find_38 (fun H locs h => ?_)
          refine p_reason S hI hK h (by decide) q_169 dX6_find_41 (fun H locs h => ?_)
          obtain ⟨σ3, e_σ3⟩ : ∃ z : St, z = up (up (tx σ1 [(rF t s9).2.1, nI (rF t s9).2.2.2] (rF t s9).2.2.1) 233 (rW W9 (rF t s9))) 232 [((up (tx σ1 [(rF t s9).2.1, nI (rF t s9).2.2.2] (rF t s9).2.2.1) 233 (rW W9 (rF t s9))) 232).getD 0 0, nI (rO W9 (rF t s9)), ((up (tx σ1 [(rF t s9).2.1, nI (rF t s9).2.2.2] (rF t s9).2.2.1) 233 (rW W9 (rF t s9))) 232).getD 2 0] := ⟨_, rfl⟩
          have h := h.to e_σ3.symm
          have p3 : (σ3 232).getD 1 0 = nI (rO W9 (rF t s9)) := by rw [e_σ3, up_s]; rfl
          have hro3 : rO W9 (rF t s9) ≤ 3 := by unfold rO; split; omega; split; omega; split <;> omega
          have q3 : (σ3 229).getD 1 0 = nI (rF t s9).2.2.2 := by rw [e_σ3, up_n (by omega), up_n (by omega), tx_229]; rfl
          refine lv_aload_n hx hb dX6_find_44 rfl (lv_at hl 2 rfl) ?_
          refine g_reason S hK h (by decide) q_169 dX6_find_45 ?_
          refine cv_i (show ((σ3 232).getD 1 0 : Int32) = nI (rO W9 (rF t s9)) from p3) ?_
          refine b_if_eq (tgt := 69) hx hb dX6_find_48 (by decide) (by omega) (fun c_48 => ?_) (fun c_48 => ?_)
          · refine lv_aload_n hx hb dX6_find_69 rfl (lv_at hl 5 rfl) ?_
            refine g_end S hK h (by decide) q_149 dX6_find_70 ?_
            refine cv_i (show ((σ3 229).getD 1 0 : Int32) = nI ((rF t s9).2.2.2) from q3) ?_
            refine lv_istore (lv' := [(4, .int (nI ((rF t s9).2.2.2))), (5, .int (nI pr)), (0, .ref (ad L 232)), (1, .ref (ad L 227)), (2, .ref (ad L 0)), (3, .ref (ad L 229))]) hx hb dX6_find_73 hl (by decide) rfl (fun ls hl => ?_)
            refine lv_iinc (v := (nI (pr + 1))) (lv' := [(5, .int (nI (pr + 1))), (4, .int (nI ((rF t s9).2.2.2))), (0, .ref (ad L 232)), (1, .ref (ad L 227)), (2, .ref (ad L 0)), (3, .ref (ad L 229))]) hx hb dX6_find_75 hl (k := 1) rfl (iinc_1 _) (by decide) rfl (fun ls hl => ?_)
            refine lv_goto (tgt := 16) hx hb dX6_find_78 (by decide) ?_
            exact ih_16 (pr + 1) n1 ((rF t s9).2.2.2) (rW W9 (rF t s9)) σ3 (by omega) (by omega) (by rw [e_σ3, up_n (by omega), up_s]) (by rw [e_σ3, up_s]; show nI _ = nI 0; rw [c_48]) (fun k a b c1 d1 => by rw [e_σ3, up_n c1, up_n d1, tx_n a b]; exact ho k a b c1 d1) (by rw [hr9, ff, if_pos c_29, if_pos c_48]) (by omega) _ _ _ h (lv_sub hl [0, 1, 2, 3, 4, 5] rfl)
          · have hf9 : faultOf t X = some (s9, rO W9 (rF t s9), nI (rF t s9).2.2.2 - nI s9) := by rw [hr9, ff, if_pos c_29, if_neg (by omega)]
            refine lv_aload_n hx hb dX6_find_51 rfl (lv_at hl 2 rfl) ?_
            refine lv_iload hx hb dX6_find_52 (lv_at hl 1 rfl) ?_
            refine p_position S hI hK h (by decide) q_167 dX6_find_54 (fun H locs h => ?_)
            refine lv_aload_n hx hb dX6_find_57 rfl (lv_at hl 2 rfl) ?_
            refine lv_aload_n hx hb dX6_find_58 rfl (lv_at hl 5 rfl) ?_
            refine g_end S hK h (by decide) q_149 dX6_find_59 ?_
            refine cv_i (show (((up σ3 232 [nI s9, (σ3 232).getD 1 0, (σ3 232).getD 2 0]) 229).getD 1 0 : Int32) = nI ((rF t s9).2.2.2) from (by rw [up_n (by omega)]; exact q3)) ?_
            refine lv_iload hx hb dX6_find_62 (lv_at hl 1 rfl) ?_
            refine lv_isub hx hb dX6_find_64 ?_
            refine p_cause S hI hK h (by decide) q_171 dX6_find_65 (fun H locs h => ?_)
            exact e_v S hK h hr hlk dX6_find_68 (hp _ _ ⟨rfl, fun k a b c1 d1 => by rw [up_n c1, up_n c1, e_σ3, up_n c1, up_n d1, tx_n a b]; exact ho k a b c1 d1, by rw [hf9]; show _ = _; rw [up_s, up_s, p3]; rfl⟩)
  exact LP_16 _ 0 60 0 (Wof X) (up (up σ 233 (Wof X)) 232 [((up σ 233 (Wof X)) 232).getD 0 0, nI 0, ((up σ 233 (Wof X)) 232).getD 2 0]) (by omega) (by omega) (by rw [up_n (by omega), up_s]) (by rw [up_s]; rfl) (fun k a b c1 d1 => by rw [up_n c1, up_n d1]) rfl (Nat.lt_succ_self _) _ _ _ h (lv_sub hl [0, 1, 2, 3, 4, 5] rfl)

abbrev rX7_isWithin : Room := { frames := 0, cells := 0, slots := 0, locals := 0 }
theorem yd_X7_isWithin : ydV yX7_isWithin RX7 3 := ⟨rfl, by decide +kernel, by decide +kernel, by decide +kernel⟩
set_option maxHeartbeats 4000000 in
set_option maxRecDepth 100000 in
theorem c_X7_isWithin (l : Launch) (L : Lay) (σ : St) (x lo hi : Int32) : Mf l L yX7_isWithin (Cond.code yX7_isWithin cX7_isWithin 3 (some FieldType.boolean) :: qA) rX7_isWithin [.int x, .int lo, .int hi] σ (some (.int (if lo ≤ x ∧ x ≤ hi then 1 else 0))) σ := by
  refine Mf.ofW (by decide) (Nat.le_of_ble_eq_true rfl) ?_
  intro p e s m args below meth c ls post hp hI S hr hlk hK h hl
  have hx := S.1
  have hb := S.2.1
  have hok := h.ok
  have hl : lv_has ls 3 [(0, .int x), (1, .int lo), (2, .int hi)] := hl
  refine lv_iload_n hx hb dX7_isWithin_0 rfl (lv_at hl 0 rfl) ?_
  refine lv_iload_n hx hb dX7_isWithin_1 rfl (lv_at hl 1 rfl) ?_
  refine lv_icmp_lt (tgt := 14) hx hb dX7_isWithin_2 (by decide) (fun c_2 => ?_) (fun c_2 => ?_)
  · rw [if_neg (fun q => Int32.not_le.mpr c_2 q.1)] at hp
    refine lv_iconst (v := (nI 0)) hx hb dX7_isWithin_14 (by decide) ?_
    exact e_z S hK h hr hlk (Or.inl rfl) dX7_isWithin_15 hp
  · refine lv_iload_n hx hb dX7_isWithin_5 rfl (lv_at hl 0 rfl) ?_
    refine lv_iload_n hx hb dX7_isWithin_6 rfl (lv_at hl 2 rfl) ?_
    refine lv_icmp_gt (tgt := 14) hx hb dX7_isWithin_7 (by decide) (fun c_7 => ?_) (fun c_7 => ?_)
    · rw [if_neg (fun q => Int32.not_le.mpr c_7 q.2)] at hp
      refine lv_iconst (v := (nI 0)) hx hb dX7_isWithin_14 (by decide) ?_
      exact e_z S hK h hr hlk (Or.inl rfl) dX7_isWithin_15 hp
    · rw [if_pos ⟨Int32.not_lt.mp c_2, Int32.not_lt.mp c_7⟩] at hp
      refine lv_iconst (v := (nI 1)) hx hb dX7_isWithin_10 (by decide) ?_
      refine lv_goto (tgt := 15) hx hb dX7_isWithin_11 (by decide) ?_
      exact e_z S hK h hr hlk (Or.inr rfl) dX7_isWithin_15 hp

abbrev rX7_highestSetting : Room := { frames := 0, cells := 0, slots := 0, locals := 0 }
theorem yd_X7_highestSetting : ydV yX7_highestSetting RX7 1 := ⟨rfl, by decide +kernel, by decide +kernel, by decide +kernel⟩
set_option maxHeartbeats 4000000 in
set_option maxRecDepth 100000 in
theorem c_X7_highestSetting (l : Launch) (L : Lay) (σ : St) (w : Int32) : Mf l L yX7_highestSetting (Cond.code yX7_highestSetting cX7_highestSetting 1 (some FieldType.int) :: qA) rX7_highestSetting [.int w] σ (some (.int (if w = 0 then nI 60 else nI 20))) σ := by
  refine Mf.ofW (by decide) (Nat.le_of_ble_eq_true rfl) ?_
  intro p e s m args below meth c ls post hp hI S hr hlk hK h hl
  have hx := S.1
  have hb := S.2.1
  have hok := h.ok
  have hl : lv_has ls 1 [(0, .int w)] := hl
  refine lv_iload_n hx hb dX7_highestSetting_0 rfl (lv_at hl 0 rfl) ?_
  refine lv_if_ne (tgt := 9) hx hb dX7_highestSetting_1 (by decide) (fun c_1 => ?_) (fun c_1 => ?_)
  · rw [if_neg c_1] at hp
    refine lv_bipush (v := (nI 20)) hx hb dX7_highestSetting_9 (by decide) ?_
    exact e_i S hK h hr hlk dX7_highestSetting_11 hp
  · rw [if_pos c_1] at hp
    refine lv_bipush (v := (nI 60)) hx hb dX7_highestSetting_4 (by decide) ?_
    refine lv_goto (tgt := 11) hx hb dX7_highestSetting_6 (by decide) ?_
    exact e_i S hK h hr hlk dX7_highestSetting_11 hp

abbrev rX7_packOnTrial : Room := { frames := 4, cells := 0, slots := 0, locals := 102 }
theorem yd_X7_packOnTrial : ydV yX7_packOnTrial RX7 1 := ⟨rfl, by decide +kernel, by decide +kernel, by decide +kernel⟩
set_option maxHeartbeats 4000000 in
set_option maxRecDepth 100000 in
theorem c_X7_packOnTrial (l : Launch) (L : Lay) (σ : St) {X : SS} {i : Nat} (hi : i < 3) (hst : σ 1 = [X.1, X.2.1]) (hD : DX σ (3 + 14 * i) (X.2.2 i)) (hlen : (X.2.2 i).1.length + (X.2.2 i).2.1.length ≤ 200) : Mf l L yX7_packOnTrial (Cond.code yX7_packOnTrial cX7_packOnTrial 2 none :: qA) rX7_packOnTrial [.ref (ad L 244), .ref (ad L (3 + 14 * i))] σ none (hset σ 235 (trL X i)) := by
  refine Mf.ofW (by decide) (Nat.le_of_ble_eq_true rfl) ?_
  intro p e s m args below meth c ls post hp hI S hr hlk hK h hl
  have hx := S.1
  have hb := S.2.1
  have hok := h.ok
  have hl : lv_has ls 2 [(0, .ref (ad L 244)), (1, .ref (ad L (3 + 14 * i)))] := hl
  have hap : (3 + 14 * i) + 14 ≤ 235 := by omega
  refine lv_aload_n hx hb dX7_packOnTrial_0 rfl (lv_at hl 0 rfl) ?_
  refine g_main S hK h (by decide) 5 235 (by decide) rfl rfl q_189 dX7_packOnTrial_1 ?_
  refine lv_aload_n hx hb dX7_packOnTrial_4 rfl (lv_at hl 1 rfl) ?_
  refine g_heaps S hK h (kd314 hi) q_81 dX7_packOnTrial_5 ?_
  refine q_V0 (ci := 1) S hI hK h [.ref (ad L (3 + 14 * i + 1))] (c_X1_copyFrom l L σ (by decide) (kd0_heaps (kd314 hi)) (by omega) hD.1) (by decide) rfl (by decide) q_449 q_263 q_264 q_6 q_265 yd_X1_copyFrom rfl ⟨⟨rfl, rfl⟩, ⟨(Nat.le_of_ble_eq_true rfl), (Nat.le_of_ble_eq_true rfl)⟩, Nat.le_refl _, Nat.le_refl _⟩ rfl (Nat.le_of_ble_eq_true rfl) hl.1 dX7_packOnTrial_8 (fun H locs h => ?_)
  obtain ⟨σ1, e_σ1⟩ : ∃ z : St, z = hset σ 235 (X.2.2 i).1 := ⟨_, rfl⟩
  have h := h.to e_σ1.symm
  have hb1 : σ1 (3 + 14 * i + 10) = (X.2.2 i).2.1 := by rw [e_σ1, hset_n (by omega) (by omega) (by omega) (by omega)]; exact hD.2.1
  have hv1 : HV σ1 235 (X.2.2 i).1 := by rw [e_σ1]; exact HV.hset
  refine lv_aload_n hx hb dX7_packOnTrial_11 rfl (lv_at hl 0 rfl) ?_
  refine g_main S hK h (by decide) 5 235 (by decide) rfl rfl q_189 dX7_packOnTrial_12 ?_
  refine lv_aload_n hx hb dX7_packOnTrial_15 rfl (lv_at hl 1 rfl) ?_
  refine g_buffer S hK h (kd314 hi) q_84 dX7_packOnTrial_16 ?_
  refine q_V0 (ci := 1) S hI hK h [.ref (ad L (3 + 14 * i + 10))] (c_X1_appendEach l L σ1 (by decide) (kd0_buf (kd314 hi)) (by omega) (by omega) (by omega) (by omega) hv1 (by rw [hb1]; exact hlen)) (by decide) rfl (by decide) q_450 q_278 q_279 q_6 q_280 yd_X1_appendEach rfl ⟨⟨rfl, rfl⟩, ⟨(Nat.le_of_ble_eq_true rfl), (Nat.le_of_ble_eq_true rfl)⟩, Nat.le_refl _, Nat.le_refl _⟩ rfl (Nat.le_of_ble_eq_true rfl) hl.1 dX7_packOnTrial_19 (fun H locs h => ?_)
  have h := h.to (show hset σ1 235 (((X.2.2 i).1) ++ (σ1 (3 + 14 * i + 10)).map hunit) = hset σ 235 ((X.2.2 i).1 ++ (X.2.2 i).2.1.map hunit) from (by rw [hb1, e_σ1, hset_hset]))
  refine lv_aload_n hx hb dX7_packOnTrial_22 rfl (lv_at hl 0 rfl) ?_
  refine g_main S hK h (by decide) 5 235 (by decide) rfl rfl q_189 dX7_packOnTrial_23 ?_
  refine lv_aload_n hx hb dX7_packOnTrial_26 rfl (lv_at hl 0 rfl) ?_
  refine g_main S hK h (by decide) 0 0 (by decide) rfl rfl q_184 dX7_packOnTrial_27 ?_
  refine g_settings S hK h (by decide) q_103 dX7_packOnTrial_30 ?_
  refine lv_iconst (v := (nI 0)) hx hb dX7_packOnTrial_33 (by decide) ?_
  refine q_V1 (ci := 4) S hI hK h [.int (nI 0)] (c_X4_at l L (hset σ 235 ((X.2.2 i).1 ++ (X.2.2 i).2.1.map hunit)) (by decide) (by omega)) (by decide) rfl (by decide) q_349 q_224 q_225 q_3 q_226 yd_X4_at rfl ⟨⟨rfl, rfl⟩, ⟨(Nat.le_of_ble_eq_true rfl), (Nat.le_of_ble_eq_true rfl)⟩, Nat.le_refl _, Nat.le_refl _⟩ rfl (Nat.le_of_ble_eq_true rfl) hl.1 dX7_packOnTrial_34 (fun H locs h => ?_)
  refine cv_i (show (((hset σ 235 ((X.2.2 i).1 ++ (X.2.2 i).2.1.map hunit)) 1).getD 0 0 : Int32) = X.1 from (by rw [hset_n (by omega) (by omega) (by omega) (by omega), hst]; rfl)) ?_
  refine q_V0 (ci := 1) S hI hK h [.int X.1] (c_X1_packBy l L (hset σ 235 ((X.2.2 i).1 ++ (X.2.2 i).2.1.map hunit)) (by decide) HV.hset  X.1) (by decide) rfl (by decide) q_451 q_289 q_290 q_6 q_291 yd_X1_packBy rfl ⟨⟨rfl, rfl⟩, ⟨(Nat.le_of_ble_eq_true rfl), (Nat.le_of_ble_eq_true rfl)⟩, Nat.le_refl _, Nat.le_refl _⟩ rfl (Nat.le_of_ble_eq_true rfl) hl.1 dX7_packOnTrial_37 (fun H locs h => ?_)
  exact e_v S hK h hr hlk dX7_packOnTrial_40 (fin_p hp rfl hset_hset)
