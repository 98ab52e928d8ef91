abbrev rX8_record : Room := { frames := 1, cells := 0, slots := 0, locals := 24 }
theorem yd_X8_record : ydV yX8_record RX8 0 := ⟨rfl, by decide +kernel, by decide +kernel, by decide +kernel⟩
set_option maxHeartbeats 4000000 in
set_option maxRecDepth 100000 in
theorem c_X8_record (l : Launch) (L : Lay) (σ : Me) {X : SS} {hh : List SS} {t : List Int32} (hc : MC σ X hh t) (hX : LX X) (hH : ∀ Y ∈ hh, LX Y) : Mg8 l L yX8_record (Cond.code yX8_record cX8_record 2 none :: qA) rX8_record [.ref (ad L 0)] σ (fun r u => r = none ∧ MC u X (recH hh X) t ∧ ∀ k, k ≠ 0 → k ≠ 2 → u k = σ k) := by
  refine Mr8_ofW (by decide) (Nat.le_of_ble_eq_true rfl) ?_
  intro p e s m args below meth c ls post hp hI S hr hlk hK h hl
  have hx := S.1
  have hb := S.2.1
  have hl : lv_has ls 2 [(0, .ref (ad L 0))] := hl
  have h4 := hc.2.1.2.1
  refine lv_aload_n hx hb dX8_record_0 rfl (lv_at hl 0 rfl) ?_
  refine g8 (v := (.int (σ 0 0))) S hK h 2 (by decide) rfl rfl q_598 dX8_record_1 ?_
  refine cv_i (show (σ 0 0 : Int32) = nI hh.length from hc.2.1.1) ?_
  refine lv_iconst (v := (nI 4)) hx hb dX8_record_4 (by decide) ?_
  have CT_49 : ∀ (g9 : List SS) (σ1 : Me) (H : Heap) (locs : List Loc) (ls : Array Slot), (MC σ1 X g9 t) → (g9.length ≤ 3) → (∀ Y ∈ g9, LX Y) → (recH hh X = g9 ++ [X]) → (∀ k, k ≠ 0 → k ≠ 2 → σ1 k = σ k) → Hd8 L s.heap H σ1 locs → lv_has ls 2 [(0, .ref (ad L 0))] → W p l e rX8_record s m args below meth c H locs 0 0 (MQ below (Qg post (bs8 L) (Aw8 L)) args s 0 0 (Aw8 L)) (F0 m 49 ls []) := by
    intro g9 σ1 H locs ls hc1 hg3 hgH hr9 ho9 h hl
    refine lv_aload_n hx hb dX8_record_49 rfl (lv_at hl 0 rfl) ?_
    refine g8 (v := (.ref (ad L 1))) S hK h 0 (by decide) rfl rfl q_596 dX8_record_50 ?_
    refine lv_iconst (v := (nI 0)) hx hb dX8_record_53 (by decide) ?_
    refine lv_aload_n hx hb dX8_record_54 rfl (lv_at hl 0 rfl) ?_
    refine g8 (v := (.ref (ad L 2))) S hK h 1 (by decide) rfl rfl q_597 dX8_record_55 ?_
    refine lv_aload_n hx hb dX8_record_58 rfl (lv_at hl 0 rfl) ?_
    refine g8 (v := (.int (σ1 0 0))) S hK h 2 (by decide) rfl rfl q_598 dX8_record_59 ?_
    refine cv_i (show (σ1 0 0 : Int32) = nI g9.length from hc1.2.1.1) ?_
    refine lv_sipush (v := (nI 3074)) hx hb dX8_record_62 (by decide) ?_
    refine a_imul hx hb dX8_record_65 ?_
    refine q_S08 S hI hK h [.ref (ad L 1), .int (nI 0), .ref (ad L 2), .int (nI (g9.length * 3074))] (c_X8_moves l L σ1 (a9 := 1) (f9 := 0) (b9 := 2) (t9 := g9.length * 3074) (n1 := 3074) (n2 := 12296) (by decide) rfl (by decide) rfl (by omega) (by omega) (by omega)) q_666 q_667 q_10 q_668 yd_X8_moves rfl ⟨⟨rfl, rfl⟩, ⟨(Nat.le_of_ble_eq_true rfl), (Nat.le_of_ble_eq_true rfl)⟩, Nat.le_refl _, Nat.le_refl _⟩ rfl (Nat.le_of_ble_eq_true rfl) hl.1 dX8_record_66 (fun H locs h => ?_)
    refine lv_aload_n hx hb dX8_record_69 rfl (lv_at hl 0 rfl) ?_
    refine lv_dup hx hb dX8_record_70 rfl ?_
    refine g8 (v := (.int ((cp8 σ1 1 0 2 (g9.length * 3074) 3074) 0 0))) S hK h 2 (by decide) rfl rfl q_598 dX8_record_71 ?_
    refine cv_i (show ((cp8 σ1 1 0 2 (g9.length * 3074) 3074) 0 0 : Int32) = nI g9.length from (by rw [show cp8 σ1 1 0 2 (g9.length * 3074) 3074 0 0 = σ1 0 0 from if_neg (by omega)]; exact hc1.2.1.1)) ?_
    refine lv_iconst (v := (nI 1)) hx hb dX8_record_74 (by decide) ?_
    refine a_iadd hx hb dX8_record_75 ?_
    refine p8 0 2 S hI hK h (by decide) rfl (fun _ => rfl) q_598 dX8_record_76 (fun H locs h => ?_)
    exact e_v8 S hK h hr hlk dX8_record_79 (hp _ _ ⟨rfl, by rw [hr9]; exact MC_push hc1 hX hgH hg3, fun k h1 h2 => by rw [mu_r h1, show cp8 σ1 1 0 2 (g9.length * 3074) 3074 k = σ1 k from funext fun i9 => if_neg (fun q => h2 q.1)]; exact ho9 k h1 h2⟩)
  refine b_icmp_ne (tgt := 49) hx hb dX8_record_5 (by decide) (by omega) (by omega) (fun c_5 => ?_) (fun c_5 => ?_)
  · exact CT_49 hh σ _ _ _ (by first | exact hc | exact MC_shift hc hH c_5) (by first | omega | (rw [List.length_tail]; omega)) (by first | exact hH | exact (fun Y hY => hH Y (List.mem_of_mem_tail hY))) (by unfold recH; first | rw [if_pos (show hh.length < 4 by omega)] | rw [if_neg (show ¬ hh.length < 4 by omega)]) (by first | exact (fun k _ _ => rfl) | exact (fun k h1 h2 => by rw [mu_r h1]; funext i9; exact if_neg (fun q => h2 q.1))) h (lv_sub hl [0] rfl)
  · refine lv_iconst (v := (nI 0)) hx hb dX8_record_8 (by decide) ?_
    refine lv_istore_n (lv' := [(1, .int (nI 0)), (0, .ref (ad L 0))]) hx hb dX8_record_9 rfl hl (by decide) rfl (fun ls hl => ?_)
    have LP_10 : ∀ (n_10 : Nat) (k9 : Nat) (σ2 : Me), (k9 ≤ 9222) → (σ2 = sh8 σ k9) → 9222 - k9 < n_10 → ∀ (H : Heap) (locs : List Loc) (ls : Array Slot), Hd8 L s.heap H σ2 locs → lv_has ls 2 [(1, .int (nI k9)), (0, .ref (ad L 0))] → W p l e rX8_record s m args below meth c H locs 0 0 (MQ below (Qg post (bs8 L) (Aw8 L)) args s 0 0 (Aw8 L)) (F0 m 10 ls []) := by
      intro n_10
      induction n_10 with
      | zero => intro k9 σ2; intros; omega
      | succ n_10 ih_10 =>
        intro k9 σ2 hk9 hσ hm_10 H locs ls h hl
        refine lv_iload_n hx hb dX8_record_10 rfl (lv_at hl 0 rfl) ?_
        refine lv_sipush (v := (nI 9222)) hx hb dX8_record_11 (by decide) ?_
        refine b_icmp_ge (tgt := 39) hx hb dX8_record_14 (by decide) (by omega) (by omega) (fun c_14 => ?_) (fun c_14 => ?_)
        · have h := h.to (show σ2 = sh8 σ 9222 from (by rw [hσ, show k9 = 9222 by omega]))
          refine lv_aload_n hx hb dX8_record_39 rfl (lv_at hl 1 rfl) ?_
          refine lv_dup hx hb dX8_record_40 rfl ?_
          refine g8 (v := (.int ((sh8 σ 9222) 0 0))) S hK h 2 (by decide) rfl rfl q_598 dX8_record_41 ?_
          refine cv_i (show ((sh8 σ 9222) 0 0 : Int32) = nI 4 from (by rw [show sh8 σ 9222 0 0 = σ 0 0 from if_neg (by omega), hc.2.1.1, c_5])) ?_
          refine lv_iconst (v := (nI 1)) hx hb dX8_record_44 (by decide) ?_
          refine a_isub hx hb dX8_record_45 (by omega) ?_
          refine p8 0 2 S hI hK h (by decide) rfl (fun _ => rfl) q_598 dX8_record_46 (fun H locs h => ?_)
          exact CT_49 (hh.tail) (mu (sh8 σ 9222) 0 0 (nI 3)) _ _ _ (by first | exact hc | exact MC_shift hc hH c_5) (by first | omega | (rw [List.length_tail]; omega)) (by first | exact hH | exact (fun Y hY => hH Y (List.mem_of_mem_tail hY))) (by unfold recH; first | rw [if_pos (show hh.length < 4 by omega)] | rw [if_neg (show ¬ hh.length < 4 by omega)]) (by first | exact (fun k _ _ => rfl) | exact (fun k h1 h2 => by rw [mu_r h1]; funext i9; exact if_neg (fun q => h2 q.1))) h (lv_sub hl [1] rfl)
        · refine lv_aload_n hx hb dX8_record_17 rfl (lv_at hl 1 rfl) ?_
          refine g8 (v := (.ref (ad L 2))) S hK h 1 (by decide) rfl rfl q_597 dX8_record_18 ?_
          refine lv_iload_n hx hb dX8_record_21 rfl (lv_at hl 0 rfl) ?_
          refine lv_aload_n hx hb dX8_record_22 rfl (lv_at hl 1 rfl) ?_
          refine g8 (v := (.ref (ad L 2))) S hK h 1 (by decide) rfl rfl q_597 dX8_record_23 ?_
          refine lv_iload_n hx hb dX8_record_26 rfl (lv_at hl 0 rfl) ?_
          refine lv_sipush (v := (nI 3074)) hx hb dX8_record_27 (by decide) ?_
          refine a_iadd hx hb dX8_record_30 ?_
          refine g8_el (n := 12296) S hK h (by decide) rfl (by omega) dX8_record_31 ?_
          refine p8_el (n := 12296) S hI hK h (by decide) rfl (by omega) dX8_record_32 (fun H locs h => ?_)
          refine lv_iinc (v := (nI (k9 + 1))) (lv' := [(1, .int (nI (k9 + 1))), (0, .ref (ad L 0))]) hx hb dX8_record_33 hl (k := 0) rfl (iinc_1 _) (by decide) rfl (fun ls hl => ?_)
          refine lv_goto (tgt := 10) hx hb dX8_record_36 (by decide) ?_
          exact ih_10 (k9 + 1) (mu σ2 2 k9 (σ2 2 (k9 + 3074))) (by omega) (by rw [hσ]; exact sh8_1) (by omega) _ _ _ h (lv_sub hl [0, 1] rfl)
    exact LP_10 _ 0 σ (by omega) sh8_0.symm (Nat.lt_succ_self _) _ _ _ h (lv_sub hl [0, 1] rfl)
