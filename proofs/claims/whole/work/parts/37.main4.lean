abbrev rX7_play : Room := { frames := 6, cells := 0, slots := 0, locals := 166 }
set_option maxHeartbeats 4000000 in
set_option maxRecDepth 100000 in
theorem c_X7_play (l : Launch) (L : Lay) (σ : St) {X : SS} {hh : List SS} {t : List Int32} (hc : CR σ X hh t) (hX : XI X) (hf : faultOf t X = none) : Mg l L yX7_play (Cond.code yX7_play cX7_play 5 (some FieldType.int) :: qA) rX7_play [.ref (ad L 244)] σ (fun r u => r = some (.int (cPly X t)) ∧ CR u (plS t 60 0 X) (recH hh X) t) := by
  refine Mr_ofW (by decide) (Nat.le_of_ble_eq_true rfl) ?_
  intro p e s m args below meth c ls post hp hI S hr hlk hK h hl
  have hx := S.1
  have hb := S.2.1
  have hok := h.ok
  have hl : lv_has ls 5 [(0, .ref (ad L 244))] := hl
  have hst : σ 1 = [X.1, X.2.1] := hc.1.1
  have hok0 := hok
  refine lv_aload_n hx hb dX7_play_0 rfl (lv_at hl 0 rfl) ?_
  refine g_main S hK h (by decide) 4 232 (by decide) rfl rfl q_188 dX7_play_1 ?_
  refine lv_aload_n hx hb dX7_play_4 rfl (lv_at hl 0 rfl) ?_
  refine g_main S hK h (by decide) 2 227 (by decide) rfl rfl q_186 dX7_play_5 ?_
  refine lv_aload_n hx hb dX7_play_8 rfl (lv_at hl 0 rfl) ?_
  refine g_main S hK h (by decide) 0 0 (by decide) rfl rfl q_184 dX7_play_9 ?_
  refine lv_aload_n hx hb dX7_play_12 rfl (lv_at hl 0 rfl) ?_
  refine g_main S hK h (by decide) 3 229 (by decide) rfl rfl q_187 dX7_play_13 ?_
  refine q_VR0 (ci := 6) S hI hK h [.ref (ad L 227), .ref (ad L 0), .ref (ad L 229)] (c_X6_find l L σ hc.2.2 hc.1) (by decide) rfl (by decide) q_551 q_552 q_553 q_9 q_554 yd_X6_find rfl ⟨⟨rfl, rfl⟩, ⟨(Nat.le_of_ble_eq_true rfl), (Nat.le_of_ble_eq_true rfl)⟩, Nat.le_refl _, Nat.le_refl _⟩ rfl (Nat.le_of_ble_eq_true rfl) hl.1 dX7_play_16 (fun σ1 H locs hp9 h => ?_)
  obtain ⟨ho1, hF⟩ := hp9
  have hc1 : CR σ1 X hh t := hc.congr (fun j hj => ho1 j (by omega) (by omega) (by omega) (by omega))
  obtain ⟨rs, hrs3, hre, hpp⟩ := FR_get hF
  refine lv_aload_n hx hb dX7_play_19 rfl (lv_at hl 0 rfl) ?_
  refine g_main S hK h (by decide) 4 232 (by decide) rfl rfl q_188 dX7_play_20 ?_
  refine g_reason S hK h (by decide) q_170 dX7_play_23 ?_
  refine cv_i (show ((σ1 232).getD 1 0 : Int32) = nI rs from hre) ?_
  refine b_if_eq (tgt := 32) hx hb dX7_play_26 (by decide) (by omega) (fun c_26 => ?_) (fun c_26 => ?_)
  · refine lv_aload_n hx hb dX7_play_32 rfl (lv_at hl 0 rfl) ?_
    refine g_main S hK h (by decide) 1 225 (by decide) rfl rfl q_185 dX7_play_33 ?_
    refine lv_aload_n hx hb dX7_play_36 rfl (lv_at hl 0 rfl) ?_
    refine g_main S hK h (by decide) 0 0 (by decide) rfl rfl q_184 dX7_play_37 ?_
    refine q_VR0 (ci := 2) S hI hK h [.ref (ad L 0)] (c_X2_record l L σ1 hc1) (by decide) rfl (by decide) q_232 q_233 q_234 q_7 q_235 yd_X2_record rfl ⟨⟨rfl, rfl⟩, ⟨(Nat.le_of_ble_eq_true rfl), (Nat.le_of_ble_eq_true rfl)⟩, Nat.le_refl _, Nat.le_refl _⟩ rfl (Nat.le_of_ble_eq_true rfl) hl.1 dX7_play_40 (fun σ2 H locs hp9 h => ?_)
    obtain ⟨hc2, ho2⟩ := hp9
    refine lv_iconst (v := (nI 0)) hx hb dX7_play_43 (by decide) ?_
    refine lv_istore_n (lv' := [(1, .int (nI 0)), (0, .ref (ad L 244))]) hx hb dX7_play_44 rfl hl (by decide) rfl (fun ls hl => ?_)
    refine lv_iconst (v := (nI 0)) hx hb dX7_play_45 (by decide) ?_
    refine lv_istore_n (lv' := [(2, .int (nI 0)), (1, .int (nI 0)), (0, .ref (ad L 244))]) hx hb dX7_play_46 rfl hl (by decide) rfl (fun ls hl => ?_)
    have LP_47 : ∀ (n_47 : Nat) (pr : Nat) (n : Nat) (s9 : Nat) (Y : SS) (σ3 : St), (pr + n = 60) → (s9 ≤ 370) → (CR σ3 Y (recH hh X) t) → (XI Y) → (ff t n s9 (Wof Y) = none) → (plS t 60 0 X = plS t n s9 Y) → n < n_47 → ∀ (H : Heap) (locs : List Loc) (ls : Array Slot), Hd L s.heap H σ3 locs → lv_has ls 5 [(2, .int (nI pr)), (1, .int (nI s9)), (0, .ref (ad L 244))] → W p l e rX7_play s m args below meth c H locs 0 0 (MQ below (Qg post (bs L) (Aw L)) args s 0 0 (Aw L)) (F0 m 47 ls []) := by
      intro n_47
      induction n_47 with
      | zero => intro pr n s9 Y σ3; intros; omega
      | succ n_47 ih_47 =>
        intro pr n s9 Y σ3 hg hs hcr hY hff hr9 hm_47 H locs ls h hl
        have hok := h.ok
        have t1 : σ3 227 = t := hcr.2.2
        have ht60 : t.length ≤ 60 := by rw [← t1]; exact hok 227 (by decide)
        have hs1 : σ3 1 = [Y.1, Y.2.1] := hcr.1.1
        refine lv_iload_n hx hb dX7_play_47 rfl (lv_at hl 0 rfl) ?_
        refine lv_bipush (v := (nI 60)) hx hb dX7_play_48 (by decide) ?_
        refine b_icmp_ge (tgt := 157) hx hb dX7_play_50 (by decide) (by omega) (by omega) (fun c_50 => ?_) (fun c_50 => ?_)
        · have hf9 : plS t 60 0 X = Y := by rw [hr9, show n = 0 by omega]; rfl
          refine lv_aload_n hx hb dX7_play_157 rfl (lv_at hl 2 rfl) ?_
          refine g_main S hK h (by decide) 0 0 (by decide) rfl rfl q_184 dX7_play_158 ?_
          refine q_V1 (ci := 5) S hI hK h [] (c_X5_weight l L σ3 (by decide) hcr.1) (by decide) rfl (by decide) q_515 q_516 q_517 q_2 q_518 yd_X5_weight rfl ⟨⟨rfl, rfl⟩, ⟨(Nat.le_of_ble_eq_true rfl), (Nat.le_of_ble_eq_true rfl)⟩, Nat.le_refl _, Nat.le_refl _⟩ rfl (Nat.le_of_ble_eq_true rfl) hl.1 dX7_play_161 (fun H locs h => ?_)
          exact e_i S hK h hr hlk dX7_play_164 (hp _ _ ⟨by rw [cPly, hf9], by rw [hf9]; exact hcr⟩)
        · obtain ⟨n1, rfl⟩ : ∃ n1, n = n1 + 1 := ⟨n - 1, by omega⟩
          refine lv_iload_n hx hb dX7_play_53 rfl (lv_at hl 1 rfl) ?_
          refine lv_aload_n hx hb dX7_play_54 rfl (lv_at hl 2 rfl) ?_
          refine g_main S hK h (by decide) 2 227 (by decide) rfl rfl q_186 dX7_play_55 ?_
          refine q_V1 (ci := 4) S hI hK h [] (c_X4_length l L σ3 (by decide)) (by decide) rfl (by decide) q_416 q_228 q_229 q_3 q_230 yd_X4_length rfl ⟨⟨rfl, rfl⟩, ⟨(Nat.le_of_ble_eq_true rfl), (Nat.le_of_ble_eq_true rfl)⟩, Nat.le_refl _, Nat.le_refl _⟩ rfl (Nat.le_of_ble_eq_true rfl) hl.1 dX7_play_58 (fun H locs h => ?_)
          refine cv_i (show (nI ((σ3 227).length) : Int32) = nI t.length from (by rw [t1])) ?_
          refine b_icmp_ge (tgt := 157) hx hb dX7_play_61 (by decide) (by omega) (by omega) (fun c_61 => ?_) (fun c_61 => ?_)
          · have hf9 : plS t 60 0 X = Y := by rw [hr9, plS, if_neg (by omega)]
            refine lv_aload_n hx hb dX7_play_157 rfl (lv_at hl 2 rfl) ?_
            refine g_main S hK h (by decide) 0 0 (by decide) rfl rfl q_184 dX7_play_158 ?_
            refine q_V1 (ci := 5) S hI hK h [] (c_X5_weight l L σ3 (by decide) hcr.1) (by decide) rfl (by decide) q_515 q_516 q_517 q_2 q_518 yd_X5_weight rfl ⟨⟨rfl, rfl⟩, ⟨(Nat.le_of_ble_eq_true rfl), (Nat.le_of_ble_eq_true rfl)⟩, Nat.le_refl _, Nat.le_refl _⟩ rfl (Nat.le_of_ble_eq_true rfl) hl.1 dX7_play_161 (fun H locs h => ?_)
            exact e_i S hK h hr hlk dX7_play_164 (hp _ _ ⟨by rw [cPly, hf9], by rw [hf9]; exact hcr⟩)
          · have hre2 := (rF_e (t := t) (s := s9)).1
            have hf1 := ff_1 c_61 hff
            obtain ⟨i, hi, hie, hil⟩ := rO_0 hY hf1.1
            have hY2 := rW_0 hY hf1.1 hi hie hil
            refine lv_aload_n hx hb dX7_play_64 rfl (lv_at hl 2 rfl) ?_
            refine g_main S hK h (by decide) 3 229 (by decide) rfl rfl q_187 dX7_play_65 ?_
            refine lv_aload_n hx hb dX7_play_68 rfl (lv_at hl 2 rfl) ?_
            refine g_main S hK h (by decide) 2 227 (by decide) rfl rfl q_186 dX7_play_69 ?_
            refine lv_iload_n hx hb dX7_play_72 rfl (lv_at hl 1 rfl) ?_
            refine q_V1 (ci := 3) S hI hK h [.ref (ad L 227), .int (nI s9)] (c_X3_readFrom l L σ3 t1 (by omega)) (by decide) rfl (by decide) q_589 q_569 q_570 q_8 q_571 yd_X3_readFrom rfl ⟨⟨rfl, rfl⟩, ⟨(Nat.le_of_ble_eq_true rfl), (Nat.le_of_ble_eq_true rfl)⟩, Nat.le_refl _, Nat.le_refl _⟩ rfl (Nat.le_of_ble_eq_true rfl) hl.1 dX7_play_73 (fun H locs h => ?_)
            obtain ⟨σ4, e_σ4⟩ : ∃ z : St, z = tx σ3 [(rF t s9).2.1, nI (rF t s9).2.2.2] (rF t s9).2.2.1 := ⟨_, rfl⟩
            have h := h.to e_σ4.symm
            have p4 : σ4 229 = [(rF t s9).2.1, nI (rF t s9).2.2.2] := by rw [e_σ4, tx_229]
            have v4 : σ4 230 = (rF t s9).2.2.1 := by rw [e_σ4, tx_230]
            have hc4 : CR σ4 Y (recH hh X) t := hcr.congr (fun j hj => by rw [e_σ4, tx_n (by omega) (by omega)])
            refine lv_pop hx hb dX7_play_76 rfl ?_
            refine lv_aload_n hx hb dX7_play_77 rfl (lv_at hl 2 rfl) ?_
            refine g_main S hK h (by decide) 0 0 (by decide) rfl rfl q_184 dX7_play_78 ?_
            refine lv_aload_n hx hb dX7_play_81 rfl (lv_at hl 2 rfl) ?_
            refine g_main S hK h (by decide) 3 229 (by decide) rfl rfl q_187 dX7_play_82 ?_
            refine g_digest S hK h (by decide) q_147 dX7_play_85 ?_
            refine cv_i (show ((σ4 229).getD 0 0 : Int32) = nI i from (by rw [p4]; exact hie)) ?_
            refine q_V1 (ci := 5) S hI hK h [.int (nI i)] (c_X5_digestAt l L σ4 (by decide) hi) (by decide) rfl (by decide) q_207 q_208 q_209 q_2 q_210 yd_X5_digestAt rfl ⟨⟨rfl, rfl⟩, ⟨(Nat.le_of_ble_eq_true rfl), (Nat.le_of_ble_eq_true rfl)⟩, Nat.le_refl _, Nat.le_refl _⟩ rfl (Nat.le_of_ble_eq_true rfl) hl.1 dX7_play_88 (fun H locs h => ?_)
            refine lv_astore_n (lv' := [(3, .ref (ad L (3 + 14 * i))), (2, .int (nI pr)), (1, .int (nI s9)), (0, .ref (ad L 244))]) hx hb dX7_play_91 rfl hl (by decide) rfl (fun ls hl => ?_)
            refine lv_iconst (v := (nI 0)) hx hb dX7_play_92 (by decide) ?_
            refine lv_istore (lv' := [(4, .int (nI 0)), (3, .ref (ad L (3 + 14 * i))), (2, .int (nI pr)), (1, .int (nI s9)), (0, .ref (ad L 244))]) hx hb dX7_play_93 hl (by decide) rfl (fun ls hl => ?_)
            have LP_95 : ∀ (n_95 : Nat) (j : Nat) (σ5 : St), (j ≤ (rF t s9).2.2.1.length) → (CR σ5 (setD Y i (rcvL Y.1 Y.2.1 (Y.2.2 i) ((rF t s9).2.2.1.take j))) (recH hh X) t) → (σ5 229 = [(rF t s9).2.1, nI (rF t s9).2.2.2]) → (σ5 230 = (rF t s9).2.2.1) → (rF t s9).2.2.1.length - j < n_95 → ∀ (H : Heap) (locs : List Loc) (ls : Array Slot), Hd L s.heap H σ5 locs → lv_has ls 5 [(4, .int (nI j)), (3, .ref (ad L (3 + 14 * i))), (2, .int (nI pr)), (1, .int (nI s9)), (0, .ref (ad L 244))] → W p l e rX7_play s m args below meth c H locs 0 0 (MQ below (Qg post (bs L) (Aw L)) args s 0 0 (Aw L)) (F0 m 95 ls []) := by
              intro n_95
              induction n_95 with
              | zero => intro j σ5; intros; omega
              | succ n_95 ih_95 =>
                intro j σ5 hj hc5 p5 v5 hm_95 H locs ls h hl
                have hok := h.ok
                have hD5 := CR_D hc5 hi
                rw [setD_i] at hD5
                have hs5 : σ5 1 = [Y.1, Y.2.1] := hc5.1.1
                have hl60 := (rF_e (t := t) (s := s9)).2
                have htl : ((rF t s9).2.2.1.take j).length = j := by rw [List.length_take]; omega
                obtain ⟨L5, n5⟩ := LI_rcvL (s0 := Y.1) (vs := (rF t s9).2.2.1.take j) hY.2 (hY.1 i hi) (by omega)
                obtain ⟨la5, lb5, lc5, ld5⟩ := L5
                refine lv_aload_n hx hb dX7_play_95 rfl (lv_at hl 1 rfl) ?_
                refine lv_ifnull hx hb dX7_play_96 ?_
                refine lv_iload hx hb dX7_play_99 (lv_at hl 0 rfl) ?_
                refine lv_aload_n hx hb dX7_play_101 rfl (lv_at hl 4 rfl) ?_
                refine g_main S hK h (by decide) 3 229 (by decide) rfl rfl q_187 dX7_play_102 ?_
                refine g_pvals S hK h (by decide) q_144 dX7_play_105 ?_
                refine q_V1 (ci := 4) S hI hK h [] (c_X4_length l L σ5 (by decide)) (by decide) rfl (by decide) q_416 q_228 q_229 q_3 q_230 yd_X4_length rfl ⟨⟨rfl, rfl⟩, ⟨(Nat.le_of_ble_eq_true rfl), (Nat.le_of_ble_eq_true rfl)⟩, Nat.le_refl _, Nat.le_refl _⟩ rfl (Nat.le_of_ble_eq_true rfl) hl.1 dX7_play_108 (fun H locs h => ?_)
                refine cv_i (show (nI ((σ5 230).length) : Int32) = nI ((rF t s9).2.2.1.length) from (by rw [v5])) ?_
                refine b_icmp_ge (tgt := 143) hx hb dX7_play_111 (by decide) (by omega) (by omega) (fun c_111 => ?_) (fun c_111 => ?_)
                · have hcj := hc5
                  rw [List.take_of_length_le c_111] at hcj
                  refine lv_aload_n hx hb dX7_play_143 rfl (lv_at hl 4 rfl) ?_
                  refine g_main S hK h (by decide) 3 229 (by decide) rfl rfl q_187 dX7_play_144 ?_
                  refine g_end S hK h (by decide) q_150 dX7_play_147 ?_
                  refine cv_i (show ((σ5 229).getD 1 0 : Int32) = nI ((rF t s9).2.2.2) from (by rw [p5]; rfl)) ?_
                  refine lv_istore_n (lv' := [(1, .int (nI ((rF t s9).2.2.2))), (4, .int (nI j)), (3, .ref (ad L (3 + 14 * i))), (2, .int (nI pr)), (0, .ref (ad L 244))]) hx hb dX7_play_150 rfl hl (by decide) rfl (fun ls hl => ?_)
                  refine lv_iinc (v := (nI (pr + 1))) (lv' := [(2, .int (nI (pr + 1))), (1, .int (nI ((rF t s9).2.2.2))), (4, .int (nI j)), (3, .ref (ad L (3 + 14 * i))), (0, .ref (ad L 244))]) hx hb dX7_play_151 hl (k := 3) rfl (iinc_1 _) (by decide) rfl (fun ls hl => ?_)
                  refine lv_goto (tgt := 47) hx hb dX7_play_154 (by decide) ?_
                  exact ih_47 (pr + 1) n1 ((rF t s9).2.2.2) (setD Y i (rcvL Y.1 Y.2.1 (Y.2.2 i) (rF t s9).2.2.1)) σ5 (by omega) (by omega) hcj hY2.1 (by rw [← hY2.2]; exact hf1.2) (by rw [hr9]; exact plS_1 c_61 hi hie) (by omega) _ _ _ h (lv_sub hl [0, 1, 4] rfl)
                · refine lv_aload_n hx hb dX7_play_114 rfl (lv_at hl 1 rfl) ?_
                  refine lv_aload_n hx hb dX7_play_115 rfl (lv_at hl 4 rfl) ?_
                  refine g_main S hK h (by decide) 3 229 (by decide) rfl rfl q_187 dX7_play_116 ?_
                  refine g_pvals S hK h (by decide) q_144 dX7_play_119 ?_
                  refine lv_iload hx hb dX7_play_122 (lv_at hl 0 rfl) ?_
                  refine q_V1 (ci := 4) S hI hK h [.int (nI j)] (c_X4_at l L σ5 (by decide) (by omega)) (by decide) rfl (by decide) q_349 q_224 q_225 q_3 q_226 yd_X4_at rfl ⟨⟨rfl, rfl⟩, ⟨(Nat.le_of_ble_eq_true rfl), (Nat.le_of_ble_eq_true rfl)⟩, Nat.le_refl _, Nat.le_refl _⟩ rfl (Nat.le_of_ble_eq_true rfl) hl.1 dX7_play_124 (fun H locs h => ?_)
                  refine cv_i (show ((σ5 230).getD j 0 : Int32) = (rF t s9).2.2.1.getD j 0 from (by rw [v5])) ?_
                  refine lv_aload_n hx hb dX7_play_127 rfl (lv_at hl 4 rfl) ?_
                  refine g_main S hK h (by decide) 0 0 (by decide) rfl rfl q_184 dX7_play_128 ?_
                  refine g_settings S hK h (by decide) q_103 dX7_play_131 ?_
                  refine q_V0 (ci := 0) S hI hK h [.int ((rF t s9).2.2.1.getD j 0), .ref (ad L 1)] (c_X0_receive l L σ5 (kd314 hi) (by decide) (by omega) hD5 hs5 hY.2 (by omega) (by omega) ((rF t s9).2.2.1.getD j 0)) (kd314 hi) rfl (by decide) q_268 q_269 q_270 q_5 q_271 yd_X0_receive rfl ⟨⟨rfl, rfl⟩, ⟨(Nat.le_of_ble_eq_true rfl), (Nat.le_of_ble_eq_true rfl)⟩, Nat.le_refl _, Nat.le_refl _⟩ rfl (Nat.le_of_ble_eq_true rfl) hl.1 dX7_play_134 (fun H locs h => ?_)
                  refine lv_iinc (v := (nI (j + 1))) (lv' := [(4, .int (nI (j + 1))), (3, .ref (ad L (3 + 14 * i))), (2, .int (nI pr)), (1, .int (nI s9)), (0, .ref (ad L 244))]) hx hb dX7_play_137 hl (k := 0) rfl (iinc_1 _) (by decide) rfl (fun ls hl => ?_)
                  refine lv_goto (tgt := 95) hx hb dX7_play_140 (by decide) ?_
                  exact ih_95 (j + 1) (dx σ5 (3 + 14 * i) (rcvD Y.1 Y.2.1 (rcvL Y.1 Y.2.1 (Y.2.2 i) ((rF t s9).2.2.1.take j)) ((rF t s9).2.2.1.getD j 0))) (by omega) (by have q9 := CR_dx (D := rcvD Y.1 Y.2.1 (rcvL Y.1 Y.2.1 (Y.2.2 i) ((rF t s9).2.2.1.take j)) ((rF t s9).2.2.1.getD j 0)) hc5 hi; rw [setD_setD] at q9; rw [rcvL_take c_111]; exact q9) (by rw [dx_n (by omega)]; exact p5) (by rw [dx_n (by omega)]; exact v5) (by omega) _ _ _ h (lv_sub hl [0, 1, 2, 3, 4] rfl)
            exact LP_95 _ 0 σ4 (by omega) (by rw [List.take_zero]; show CR _ (setD Y i (Y.2.2 i)) _ _; rw [setD_id]; exact hc4) p4 v4 (Nat.lt_succ_self _) _ _ _ h (lv_sub hl [0, 1, 2, 3, 4] rfl)
    exact LP_47 _ 0 60 0 X σ2 (by omega) (by omega) hc2 hX hf rfl (Nat.lt_succ_self _) _ _ _ h (lv_sub hl [0, 1, 2] rfl)
  · exact (by obtain ⟨p9, c9, hf9, -⟩ := hpp.2 c_26; rw [hf] at hf9; cases hf9)
