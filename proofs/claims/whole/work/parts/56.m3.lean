abbrev rX8_putTogether : Room := { frames := 1, cells := 0, slots := 0, locals := 22 }
theorem yd_X8_putTogether : ydV yX8_putTogether RX8 1 := ⟨rfl, by decide +kernel, by decide +kernel, by decide +kernel⟩
set_option maxHeartbeats 4000000 in
set_option maxRecDepth 100000 in
theorem c_X8_putTogether (l : Launch) (L : Lay) (σ : Me) {A : List Hp} (hA : HL σ A) (l2 : A.length ≤ 399) (f : Int32) : Mg8 l L yX8_putTogether (Cond.code yX8_putTogether cX8_putTogether 7 none :: qA) rX8_putTogether [.ref (ad L 0), .int f] σ (fun r u => r = none ∧ HL u (ptog f A) ∧ Ot σ u) := by
  refine Mr8_ofW (by decide) (Nat.le_of_ble_eq_true rfl) ?_
  intro p e s m args below meth c ls post hp hI S hr hlk hK h hl
  have hx := S.1
  have hb := S.2.1
  have hl : lv_has ls 7 [(0, .ref (ad L 0)), (1, .int f)] := hl
  have hm0 : σ 0 2 = nI A.length := hA.1
  refine lv_iconst (v := (nI 0)) hx hb dX8_putTogether_0 (by decide) ?_
  refine cv_i (show (nI 0 : Int32) = isum (A.map h_w) 0 from (by show nI 0 = 0; decide +kernel)) ?_
  refine lv_istore_n (lv' := [(2, .int (isum (A.map h_w) 0)), (0, .ref (ad L 0)), (1, .int f)]) hx hb dX8_putTogether_1 rfl hl (by decide) rfl (fun ls hl => ?_)
  refine lv_iconst (v := (nI 0)) hx hb dX8_putTogether_2 (by decide) ?_
  refine lv_istore_n (lv' := [(3, .int (nI 0)), (2, .int (isum (A.map h_w) 0)), (0, .ref (ad L 0)), (1, .int f)]) hx hb dX8_putTogether_3 rfl hl (by decide) rfl (fun ls hl => ?_)
  have LP_4 : ∀ (n_4 : Nat) (j : Nat), (j ≤ A.length) → A.length - j < n_4 → ∀ (H : Heap) (locs : List Loc) (ls : Array Slot), Hd8 L s.heap H σ locs → lv_has ls 7 [(3, .int (nI j)), (2, .int (isum (A.map h_w) j)), (1, .int f), (0, .ref (ad L 0))] → W p l e rX8_putTogether s m args below meth c H locs 0 0 (MQ below (Qg post (bs8 L) (Aw8 L)) args s 0 0 (Aw8 L)) (F0 m 4 ls []) := by
    intro n_4
    induction n_4 with
    | zero => intro j; intros; omega
    | succ n_4 ih_4 =>
      intro j hj hm_4 H locs ls h hl
      refine lv_iload_n hx hb dX8_putTogether_4 rfl (lv_at hl 0 rfl) ?_
      refine lv_aload_n hx hb dX8_putTogether_5 rfl (lv_at hl 3 rfl) ?_
      refine g8 (v := (.int (σ 0 2))) S hK h 9 (by decide) rfl rfl q_605 dX8_putTogether_6 ?_
      refine cv_i (show (σ 0 2 : Int32) = nI A.length from hm0) ?_
      refine b_icmp_ge (tgt := 27) hx hb dX8_putTogether_9 (by decide) (by omega) (by omega) (fun c_9 => ?_) (fun c_9 => ?_)
      · have e4 : j = A.length := by omega
        have hl : lv_has ls 7 [(3, .int (nI j)), (2, .int (wTot A)), (1, .int f), (0, .ref (ad L 0))] := by rw [show (.int (isum (A.map h_w) j) : Value) = .int (wTot A) from (by rw [e4]; rfl)] at hl; exact hl
        refine lv_iconst (v := (nI 0)) hx hb dX8_putTogether_27 (by decide) ?_
        refine lv_istore_n (lv' := [(3, .int (nI 0)), (2, .int (wTot A)), (1, .int f), (0, .ref (ad L 0))]) hx hb dX8_putTogether_28 rfl hl (by decide) rfl (fun ls hl => ?_)
        refine lv_iconst (v := (nI 0)) hx hb dX8_putTogether_29 (by decide) ?_
        refine lv_istore (lv' := [(4, .int (nI 0)), (3, .int (nI 0)), (2, .int (wTot A)), (1, .int f), (0, .ref (ad L 0))]) hx hb dX8_putTogether_30 hl (by decide) rfl (fun ls hl => ?_)
        refine lv_iconst (v := (nI 1)) hx hb dX8_putTogether_32 (by decide) ?_
        refine lv_istore (lv' := [(5, .int (nI 1)), (4, .int (nI 0)), (3, .int (nI 0)), (2, .int (wTot A)), (1, .int f), (0, .ref (ad L 0))]) hx hb dX8_putTogether_33 hl (by decide) rfl (fun ls hl => ?_)
        have LP_35 : ∀ (n_35 : Nat) (k9 : Nat) (n9 : Nat) (P9 : List Hp) (ah : Int32) (σ1 : Me), (n9 < k9) → (k9 ≤ A.length ∨ k9 = 1) → (P9.length = n9) → (∀ i, i < n9 → hp8 σ1 i = P9.getD i hd0) → (∀ i, k9 ≤ i → i < A.length → hp8 σ1 i = A.getD i hd0) → (σ1 0 2 = nI A.length) → (Ot σ σ1) → (A.length = 0 ∨ ptog f A = P9 ++ mg f (wTot A) ah (hp8 σ1 n9) (A.drop k9)) → A.length - k9 < n_35 → ∀ (H : Heap) (locs : List Loc) (ls : Array Slot), Hd8 L s.heap H σ1 locs → lv_has ls 7 [(5, .int (nI k9)), (4, .int ah), (3, .int (nI n9)), (2, .int (wTot A)), (1, .int f), (0, .ref (ad L 0))] → W p l e rX8_putTogether s m args below meth c H locs 0 0 (MQ below (Qg post (bs8 L) (Aw8 L)) args s 0 0 (Aw8 L)) (F0 m 35 ls []) := by
          intro n_35
          induction n_35 with
          | zero => intro k9 n9 P9 ah σ1; intros; omega
          | succ n_35 ih_35 =>
            intro k9 n9 P9 ah σ1 hkn hk9 hl9 hP hA1 hm1 hO hr9 hm_35 H locs ls h hl
            refine lv_iload hx hb dX8_putTogether_35 (lv_at hl 0 rfl) ?_
            refine lv_aload_n hx hb dX8_putTogether_37 rfl (lv_at hl 5 rfl) ?_
            refine g8 (v := (.int (σ1 0 2))) S hK h 9 (by decide) rfl rfl q_605 dX8_putTogether_38 ?_
            refine cv_i (show (σ1 0 2 : Int32) = nI A.length from hm1) ?_
            refine b_icmp_ge (tgt := 218) hx hb dX8_putTogether_41 (by decide) (by omega) (by omega) (fun c_41 => ?_) (fun c_41 => ?_)
            · refine lv_aload_n hx hb dX8_putTogether_218 rfl (lv_at hl 5 rfl) ?_
              refine lv_aload_n hx hb dX8_putTogether_219 rfl (lv_at hl 5 rfl) ?_
              refine g8 (v := (.int (σ1 0 2))) S hK h 9 (by decide) rfl rfl q_605 dX8_putTogether_220 ?_
              refine cv_i (show (σ1 0 2 : Int32) = nI A.length from hm1) ?_
              refine b_if_ne (tgt := 230) hx hb dX8_putTogether_223 (by decide) (by omega) (fun c_223 => ?_) (fun c_223 => ?_)
              · refine lv_iload_n hx hb dX8_putTogether_230 rfl (lv_at hl 2 rfl) ?_
                refine lv_iconst (v := (nI 1)) hx hb dX8_putTogether_231 (by decide) ?_
                refine a_iadd hx hb dX8_putTogether_232 ?_
                refine p8 2 9 S hI hK h (by decide) rfl (fun _ => rfl) q_605 dX8_putTogether_233 (fun H locs h => ?_)
                exact e_v8 S hK h hr hlk dX8_putTogether_236 (by first | exact hp _ _ ⟨rfl, pt_end0 c_223, hO.tr Ot.many⟩ | exact hp _ _ ⟨rfl, pt_end hl9 hP hr9 c_41 c_223, hO.tr Ot.many⟩)
              · refine lv_iconst (v := (nI 0)) hx hb dX8_putTogether_226 (by decide) ?_
                refine lv_goto (tgt := 233) hx hb dX8_putTogether_227 (by decide) ?_
                refine p8 2 9 S hI hK h (by decide) rfl (fun _ => rfl) q_605 dX8_putTogether_233 (fun H locs h => ?_)
                exact e_v8 S hK h hr hlk dX8_putTogether_236 (by first | exact hp _ _ ⟨rfl, pt_end0 c_223, hO.tr Ot.many⟩ | exact hp _ _ ⟨rfl, pt_end hl9 hP hr9 c_41 c_223, hO.tr Ot.many⟩)
            · have hxk : hp8 σ1 k9 = A.getD k9 hd0 := hA1 k9 (Nat.le_refl _) c_41
              refine lv_aload_n hx hb dX8_putTogether_44 rfl (lv_at hl 5 rfl) ?_
              refine g8 (v := (.ref (ad L 4))) S hK h 5 (by decide) rfl rfl q_601 dX8_putTogether_45 ?_
              refine lv_iload_n hx hb dX8_putTogether_48 rfl (lv_at hl 2 rfl) ?_
              refine g8_el (n := 400) S hK h (by decide) rfl (by omega) dX8_putTogether_49 ?_
              refine lv_aload_n hx hb dX8_putTogether_50 rfl (lv_at hl 5 rfl) ?_
              refine g8 (v := (.ref (ad L 4))) S hK h 5 (by decide) rfl rfl q_601 dX8_putTogether_51 ?_
              refine lv_iload hx hb dX8_putTogether_54 (lv_at hl 0 rfl) ?_
              refine g8_el (n := 400) S hK h (by decide) rfl (by omega) dX8_putTogether_56 ?_
              refine lv_iadd hx hb dX8_putTogether_57 ?_
              refine lv_istore (lv' := [(6, .int ((σ1 4 n9) + (σ1 4 k9))), (5, .int (nI k9)), (4, .int ah), (3, .int (nI n9)), (2, .int (wTot A)), (1, .int f), (0, .ref (ad L 0))]) hx hb dX8_putTogether_58 hl (by decide) rfl (fun ls hl => ?_)
              refine lv_iload hx hb dX8_putTogether_60 (lv_at hl 0 rfl) ?_
              refine lv_iload_n hx hb dX8_putTogether_62 rfl (lv_at hl 4 rfl) ?_
              refine lv_imul hx hb dX8_putTogether_63 ?_
              refine lv_iload_n hx hb dX8_putTogether_64 rfl (lv_at hl 5 rfl) ?_
              refine lv_imul hx hb dX8_putTogether_65 ?_
              refine lv_iconst (v := (nI 2)) hx hb dX8_putTogether_66 (by decide) ?_
              refine lv_iload hx hb dX8_putTogether_67 (lv_at hl 2 rfl) ?_
              refine lv_imul hx hb dX8_putTogether_69 ?_
              refine lv_iload hx hb dX8_putTogether_70 (lv_at hl 0 rfl) ?_
              refine lv_iadd hx hb dX8_putTogether_72 ?_
              refine lv_iconst (v := (nI 2)) hx hb dX8_putTogether_73 (by decide) ?_
              refine lv_iload_n hx hb dX8_putTogether_74 rfl (lv_at hl 4 rfl) ?_
              refine lv_imul hx hb dX8_putTogether_75 ?_
              refine lv_iconst (v := (nI 2)) hx hb dX8_putTogether_76 (by decide) ?_
              refine lv_iload hx hb dX8_putTogether_77 (lv_at hl 2 rfl) ?_
              refine lv_imul hx hb dX8_putTogether_79 ?_
              refine lv_isub hx hb dX8_putTogether_80 ?_
              refine lv_iload hx hb dX8_putTogether_81 (lv_at hl 0 rfl) ?_
              refine lv_isub hx hb dX8_putTogether_83 ?_
              refine lv_imul hx hb dX8_putTogether_84 ?_
              refine lv_icmp_gt (tgt := 191) hx hb dX8_putTogether_85 (by decide) (fun c_85 => ?_) (fun c_85 => ?_)
              · refine lv_iload hx hb dX8_putTogether_191 (lv_at hl 2 rfl) ?_
                refine lv_aload_n hx hb dX8_putTogether_193 rfl (lv_at hl 6 rfl) ?_
                refine g8 (v := (.ref (ad L 4))) S hK h 5 (by decide) rfl rfl q_601 dX8_putTogether_194 ?_
                refine lv_iload_n hx hb dX8_putTogether_197 rfl (lv_at hl 3 rfl) ?_
                refine g8_el (n := 400) S hK h (by decide) rfl (by omega) dX8_putTogether_198 ?_
                refine lv_iadd hx hb dX8_putTogether_199 ?_
                refine lv_istore (lv' := [(4, .int (ah + (σ1 4 n9))), (6, .int ((σ1 4 n9) + (σ1 4 k9))), (5, .int (nI k9)), (3, .int (nI n9)), (2, .int (wTot A)), (1, .int f), (0, .ref (ad L 0))]) hx hb dX8_putTogether_200 hl (by decide) rfl (fun ls hl => ?_)
                refine lv_iinc (v := (nI (n9 + 1))) (lv' := [(3, .int (nI (n9 + 1))), (4, .int (ah + (σ1 4 n9))), (6, .int ((σ1 4 n9) + (σ1 4 k9))), (5, .int (nI k9)), (2, .int (wTot A)), (1, .int f), (0, .ref (ad L 0))]) hx hb dX8_putTogether_202 hl (k := 3) rfl (iinc_1 _) (by decide) rfl (fun ls hl => ?_)
                refine lv_aload_n hx hb dX8_putTogether_205 rfl (lv_at hl 6 rfl) ?_
                refine lv_iload hx hb dX8_putTogether_206 (lv_at hl 3 rfl) ?_
                refine lv_iload_n hx hb dX8_putTogether_208 rfl (lv_at hl 0 rfl) ?_
                refine q_V08 S hI hK h [.int (nI k9), .int (nI (n9 + 1))] (c_X8_copyHeap l L σ1 (i := k9) (j := n9 + 1) (by omega) (by omega)) q_701 q_703 qs_23 q_10 q_704 yd_X8_copyHeap rfl ⟨⟨rfl, rfl⟩, ⟨(Nat.le_of_ble_eq_true rfl), (Nat.le_of_ble_eq_true rfl)⟩, Nat.le_refl _, Nat.le_refl _⟩ rfl (Nat.le_of_ble_eq_true rfl) hl.1 dX8_putTogether_209 (fun H locs h => ?_)
                refine lv_iinc (v := (nI (k9 + 1))) (lv' := [(5, .int (nI (k9 + 1))), (3, .int (nI (n9 + 1))), (4, .int (ah + (σ1 4 n9))), (6, .int ((σ1 4 n9) + (σ1 4 k9))), (2, .int (wTot A)), (1, .int f), (0, .ref (ad L 0))]) hx hb dX8_putTogether_212 hl (k := 3) rfl (iinc_1 _) (by decide) rfl (fun ls hl => ?_)
                refine lv_goto (tgt := 35) hx hb dX8_putTogether_215 (by decide) ?_
                exact ih_35 (k9 + 1) (n9 + 1) (P9 ++ [hp8 σ1 n9]) (ah + (σ1 4 n9)) (put8 σ1 (n9 + 1) (hp8 σ1 k9)) (by omega) (by omega) (by first | exact hl9 | (rw [List.length_append, List.length_singleton, hl9])) (by first | exact (fun i hi => by rw [hp8_n (by omega)]; exact hP i hi) | exact (fun i hi => by rw [hp8_n (by omega)]; by_cases q9 : i = n9; rw [q9, ← hl9, getD_snoc_l]; rw [getD_snoc (by omega)]; exact hP i (by omega))) (fun i h1 h2 => by rw [hp8_n (by omega)]; exact hA1 i (by omega) h2) (by rw [put8_o (by omega) (by omega) (by omega) (by omega)]; exact hm1) (hO.tr Ot.put) (by first | exact pt_unite c_41 hxk hr9 (Int32.not_lt.mp c_85) | exact pt_next c_41 hxk hr9 (Int32.not_le.mpr c_85)) (by omega) _ _ _ h (lv_sub hl [0, 2, 1, 4, 5, 6] rfl)
              · refine lv_aload_n hx hb dX8_putTogether_88 rfl (lv_at hl 6 rfl) ?_
                refine g8 (v := (.ref (ad L 4))) S hK h 5 (by decide) rfl rfl q_601 dX8_putTogether_89 ?_
                refine lv_iload_n hx hb dX8_putTogether_92 rfl (lv_at hl 3 rfl) ?_
                refine lv_iload hx hb dX8_putTogether_93 (lv_at hl 0 rfl) ?_
                refine p8_el (n := 400) S hI hK h (by decide) rfl (by omega) dX8_putTogether_95 (fun H locs h => ?_)
                refine lv_aload_n hx hb dX8_putTogether_96 rfl (lv_at hl 6 rfl) ?_
                refine g8 (v := (.ref (ad L 5))) S hK h 6 (by decide) rfl rfl q_602 dX8_putTogether_97 ?_
                refine lv_iload_n hx hb dX8_putTogether_100 rfl (lv_at hl 3 rfl) ?_
                refine lv_dup2_11 hx hb dX8_putTogether_101 rfl rfl ?_
                refine g8_el (n := 400) S hK h (by decide) rfl (by omega) dX8_putTogether_102 ?_
                refine cv_i (show ((mu σ1 4 n9 ((σ1 4 n9) + (σ1 4 k9))) 5 n9 : Int32) = σ1 5 n9 from (by simp [mu])) ?_
                refine lv_aload_n hx hb dX8_putTogether_103 rfl (lv_at hl 6 rfl) ?_
                refine g8 (v := (.ref (ad L 5))) S hK h 6 (by decide) rfl rfl q_602 dX8_putTogether_104 ?_
                refine lv_iload hx hb dX8_putTogether_107 (lv_at hl 1 rfl) ?_
                refine g8_el (n := 400) S hK h (by decide) rfl (by omega) dX8_putTogether_109 ?_
                refine cv_i (show ((mu σ1 4 n9 ((σ1 4 n9) + (σ1 4 k9))) 5 k9 : Int32) = σ1 5 k9 from (by simp [mu])) ?_
                refine lv_iadd hx hb dX8_putTogether_110 ?_
                refine p8_el (n := 400) S hI hK h (by decide) rfl (by omega) dX8_putTogether_111 (fun H locs h => ?_)
                refine lv_aload_n hx hb dX8_putTogether_112 rfl (lv_at hl 6 rfl) ?_
                refine g8 (v := (.ref (ad L 6))) S hK h 7 (by decide) rfl rfl q_603 dX8_putTogether_113 ?_
                refine lv_iload_n hx hb dX8_putTogether_116 rfl (lv_at hl 3 rfl) ?_
                refine lv_aload_n hx hb dX8_putTogether_117 rfl (lv_at hl 6 rfl) ?_
                refine g8 (v := (.ref (ad L 6))) S hK h 7 (by decide) rfl rfl q_603 dX8_putTogether_118 ?_
                refine lv_iload hx hb dX8_putTogether_121 (lv_at hl 1 rfl) ?_
                refine g8_el (n := 400) S hK h (by decide) rfl (by omega) dX8_putTogether_123 ?_
                refine cv_i (show ((mu (mu σ1 4 n9 ((σ1 4 n9) + (σ1 4 k9))) 5 n9 ((σ1 5 n9) + (σ1 5 k9))) 6 k9 : Int32) = σ1 6 k9 from (by simp [mu])) ?_
                refine lv_aload_n hx hb dX8_putTogether_124 rfl (lv_at hl 6 rfl) ?_
                refine g8 (v := (.ref (ad L 6))) S hK h 7 (by decide) rfl rfl q_603 dX8_putTogether_125 ?_
                refine lv_iload_n hx hb dX8_putTogether_128 rfl (lv_at hl 3 rfl) ?_
                refine g8_el (n := 400) S hK h (by decide) rfl (by omega) dX8_putTogether_129 ?_
                refine cv_i (show ((mu (mu σ1 4 n9 ((σ1 4 n9) + (σ1 4 k9))) 5 n9 ((σ1 5 n9) + (σ1 5 k9))) 6 n9 : Int32) = σ1 6 n9 from (by simp [mu])) ?_
                refine lv_icmp_ge (tgt := 143) hx hb dX8_putTogether_130 (by decide) (fun c_130 => ?_) (fun c_130 => ?_)
                · refine lv_aload_n hx hb dX8_putTogether_143 rfl (lv_at hl 6 rfl) ?_
                  refine g8 (v := (.ref (ad L 6))) S hK h 7 (by decide) rfl rfl q_603 dX8_putTogether_144 ?_
                  refine lv_iload_n hx hb dX8_putTogether_147 rfl (lv_at hl 3 rfl) ?_
                  refine g8_el (n := 400) S hK h (by decide) rfl (by omega) dX8_putTogether_148 ?_
                  refine cv_i (show ((mu (mu σ1 4 n9 ((σ1 4 n9) + (σ1 4 k9))) 5 n9 ((σ1 5 n9) + (σ1 5 k9))) 6 n9 : Int32) = h_l (unI (hp8 σ1 n9) (hp8 σ1 k9)) from (by show _ = (if σ1 6 k9 < σ1 6 n9 then σ1 6 k9 else σ1 6 n9); first | (rw [if_pos (Int32.not_le.mp c_130)]; simp [mu]) | (rw [if_neg (Int32.not_lt.mpr c_130)]; simp [mu]))) ?_
                  refine p8_el (n := 400) S hI hK h (by decide) rfl (by omega) dX8_putTogether_149 (fun H locs h => ?_)
                  refine lv_aload_n hx hb dX8_putTogether_150 rfl (lv_at hl 6 rfl) ?_
                  refine g8 (v := (.ref (ad L 7))) S hK h 8 (by decide) rfl rfl q_604 dX8_putTogether_151 ?_
                  refine lv_iload_n hx hb dX8_putTogether_154 rfl (lv_at hl 3 rfl) ?_
                  refine lv_aload_n hx hb dX8_putTogether_155 rfl (lv_at hl 6 rfl) ?_
                  refine g8 (v := (.ref (ad L 7))) S hK h 8 (by decide) rfl rfl q_604 dX8_putTogether_156 ?_
                  refine lv_iload hx hb dX8_putTogether_159 (lv_at hl 1 rfl) ?_
                  refine g8_el (n := 400) S hK h (by decide) rfl (by omega) dX8_putTogether_161 ?_
                  refine cv_i (show ((mu (mu (mu σ1 4 n9 ((σ1 4 n9) + (σ1 4 k9))) 5 n9 ((σ1 5 n9) + (σ1 5 k9))) 6 n9 (h_l (unI (hp8 σ1 n9) (hp8 σ1 k9)))) 7 k9 : Int32) = σ1 7 k9 from (by simp [mu])) ?_
                  refine lv_aload_n hx hb dX8_putTogether_162 rfl (lv_at hl 6 rfl) ?_
                  refine g8 (v := (.ref (ad L 7))) S hK h 8 (by decide) rfl rfl q_604 dX8_putTogether_163 ?_
                  refine lv_iload_n hx hb dX8_putTogether_166 rfl (lv_at hl 3 rfl) ?_
                  refine g8_el (n := 400) S hK h (by decide) rfl (by omega) dX8_putTogether_167 ?_
                  refine cv_i (show ((mu (mu (mu σ1 4 n9 ((σ1 4 n9) + (σ1 4 k9))) 5 n9 ((σ1 5 n9) + (σ1 5 k9))) 6 n9 (h_l (unI (hp8 σ1 n9) (hp8 σ1 k9)))) 7 n9 : Int32) = σ1 7 n9 from (by simp [mu])) ?_
                  refine lv_icmp_le (tgt := 181) hx hb dX8_putTogether_168 (by decide) (fun c_168 => ?_) (fun c_168 => ?_)
                  · refine lv_aload_n hx hb dX8_putTogether_181 rfl (lv_at hl 6 rfl) ?_
                    refine g8 (v := (.ref (ad L 7))) S hK h 8 (by decide) rfl rfl q_604 dX8_putTogether_182 ?_
                    refine lv_iload_n hx hb dX8_putTogether_185 rfl (lv_at hl 3 rfl) ?_
                    refine g8_el (n := 400) S hK h (by decide) rfl (by omega) dX8_putTogether_186 ?_
                    refine cv_i (show ((mu (mu (mu σ1 4 n9 ((σ1 4 n9) + (σ1 4 k9))) 5 n9 ((σ1 5 n9) + (σ1 5 k9))) 6 n9 (h_l (unI (hp8 σ1 n9) (hp8 σ1 k9)))) 7 n9 : Int32) = h_g (unI (hp8 σ1 n9) (hp8 σ1 k9)) from (by show _ = (if σ1 7 n9 < σ1 7 k9 then σ1 7 k9 else σ1 7 n9); first | (rw [if_pos (Int32.not_le.mp c_168)]; simp [mu]) | (rw [if_neg (Int32.not_lt.mpr c_168)]; simp [mu]))) ?_
                    refine p8_el (n := 400) S hI hK h (by decide) rfl (by omega) dX8_putTogether_187 (fun H locs h => ?_)
                    have h := h.to (show mu (mu (mu (mu σ1 4 n9 ((σ1 4 n9) + (σ1 4 k9))) 5 n9 ((σ1 5 n9) + (σ1 5 k9))) 6 n9 (h_l (unI (hp8 σ1 n9) (hp8 σ1 k9)))) 7 n9 (h_g (unI (hp8 σ1 n9) (hp8 σ1 k9))) = put8 σ1 n9 (unI (hp8 σ1 n9) (hp8 σ1 k9)) from rfl)
                    refine lv_goto (tgt := 212) hx hb dX8_putTogether_188 (by decide) ?_
                    refine lv_iinc (v := (nI (k9 + 1))) (lv' := [(5, .int (nI (k9 + 1))), (6, .int ((σ1 4 n9) + (σ1 4 k9))), (4, .int ah), (3, .int (nI n9)), (2, .int (wTot A)), (1, .int f), (0, .ref (ad L 0))]) hx hb dX8_putTogether_212 hl (k := 1) rfl (iinc_1 _) (by decide) rfl (fun ls hl => ?_)
                    refine lv_goto (tgt := 35) hx hb dX8_putTogether_215 (by decide) ?_
                    exact ih_35 (k9 + 1) n9 P9 ah (put8 σ1 n9 (unI (hp8 σ1 n9) (hp8 σ1 k9))) (by omega) (by omega) (by first | exact hl9 | (rw [List.length_append, List.length_singleton, hl9])) (by first | exact (fun i hi => by rw [hp8_n (by omega)]; exact hP i hi) | exact (fun i hi => by rw [hp8_n (by omega)]; by_cases q9 : i = n9; rw [q9, ← hl9, getD_snoc_l]; rw [getD_snoc (by omega)]; exact hP i (by omega))) (fun i h1 h2 => by rw [hp8_n (by omega)]; exact hA1 i (by omega) h2) (by rw [put8_o (by omega) (by omega) (by omega) (by omega)]; exact hm1) (hO.tr Ot.put) (by first | exact pt_unite c_41 hxk hr9 (Int32.not_lt.mp c_85) | exact pt_next c_41 hxk hr9 (Int32.not_le.mpr c_85)) (by omega) _ _ _ h (lv_sub hl [0, 2, 3, 4, 5, 6] rfl)
                  · refine lv_aload_n hx hb dX8_putTogether_171 rfl (lv_at hl 6 rfl) ?_
                    refine g8 (v := (.ref (ad L 7))) S hK h 8 (by decide) rfl rfl q_604 dX8_putTogether_172 ?_
                    refine lv_iload hx hb dX8_putTogether_175 (lv_at hl 1 rfl) ?_
                    refine g8_el (n := 400) S hK h (by decide) rfl (by omega) dX8_putTogether_177 ?_
                    refine lv_goto (tgt := 187) hx hb dX8_putTogether_178 (by decide) ?_
                    refine cv_i (show ((mu (mu (mu σ1 4 n9 ((σ1 4 n9) + (σ1 4 k9))) 5 n9 ((σ1 5 n9) + (σ1 5 k9))) 6 n9 (h_l (unI (hp8 σ1 n9) (hp8 σ1 k9)))) 7 k9 : Int32) = h_g (unI (hp8 σ1 n9) (hp8 σ1 k9)) from (by show _ = (if σ1 7 n9 < σ1 7 k9 then σ1 7 k9 else σ1 7 n9); first | (rw [if_pos (Int32.not_le.mp c_168)]; simp [mu]) | (rw [if_neg (Int32.not_lt.mpr c_168)]; simp [mu]))) ?_
                    refine p8_el (n := 400) S hI hK h (by decide) rfl (by omega) dX8_putTogether_187 (fun H locs h => ?_)
                    have h := h.to (show mu (mu (mu (mu σ1 4 n9 ((σ1 4 n9) + (σ1 4 k9))) 5 n9 ((σ1 5 n9) + (σ1 5 k9))) 6 n9 (h_l (unI (hp8 σ1 n9) (hp8 σ1 k9)))) 7 n9 (h_g (unI (hp8 σ1 n9) (hp8 σ1 k9))) = put8 σ1 n9 (unI (hp8 σ1 n9) (hp8 σ1 k9)) from rfl)
                    refine lv_goto (tgt := 212) hx hb dX8_putTogether_188 (by decide) ?_
                    refine lv_iinc (v := (nI (k9 + 1))) (lv' := [(5, .int (nI (k9 + 1))), (6, .int ((σ1 4 n9) + (σ1 4 k9))), (4, .int ah), (3, .int (nI n9)), (2, .int (wTot A)), (1, .int f), (0, .ref (ad L 0))]) hx hb dX8_putTogether_212 hl (k := 1) rfl (iinc_1 _) (by decide) rfl (fun ls hl => ?_)
                    refine lv_goto (tgt := 35) hx hb dX8_putTogether_215 (by decide) ?_
                    exact ih_35 (k9 + 1) n9 P9 ah (put8 σ1 n9 (unI (hp8 σ1 n9) (hp8 σ1 k9))) (by omega) (by omega) (by first | exact hl9 | (rw [List.length_append, List.length_singleton, hl9])) (by first | exact (fun i hi => by rw [hp8_n (by omega)]; exact hP i hi) | exact (fun i hi => by rw [hp8_n (by omega)]; by_cases q9 : i = n9; rw [q9, ← hl9, getD_snoc_l]; rw [getD_snoc (by omega)]; exact hP i (by omega))) (fun i h1 h2 => by rw [hp8_n (by omega)]; exact hA1 i (by omega) h2) (by rw [put8_o (by omega) (by omega) (by omega) (by omega)]; exact hm1) (hO.tr Ot.put) (by first | exact pt_unite c_41 hxk hr9 (Int32.not_lt.mp c_85) | exact pt_next c_41 hxk hr9 (Int32.not_le.mpr c_85)) (by omega) _ _ _ h (lv_sub hl [0, 2, 3, 4, 5, 6] rfl)
                · refine lv_aload_n hx hb dX8_putTogether_133 rfl (lv_at hl 6 rfl) ?_
                  refine g8 (v := (.ref (ad L 6))) S hK h 7 (by decide) rfl rfl q_603 dX8_putTogether_134 ?_
                  refine lv_iload hx hb dX8_putTogether_137 (lv_at hl 1 rfl) ?_
                  refine g8_el (n := 400) S hK h (by decide) rfl (by omega) dX8_putTogether_139 ?_
                  refine lv_goto (tgt := 149) hx hb dX8_putTogether_140 (by decide) ?_
                  refine cv_i (show ((mu (mu σ1 4 n9 ((σ1 4 n9) + (σ1 4 k9))) 5 n9 ((σ1 5 n9) + (σ1 5 k9))) 6 k9 : Int32) = h_l (unI (hp8 σ1 n9) (hp8 σ1 k9)) from (by show _ = (if σ1 6 k9 < σ1 6 n9 then σ1 6 k9 else σ1 6 n9); first | (rw [if_pos (Int32.not_le.mp c_130)]; simp [mu]) | (rw [if_neg (Int32.not_lt.mpr c_130)]; simp [mu]))) ?_
                  refine p8_el (n := 400) S hI hK h (by decide) rfl (by omega) dX8_putTogether_149 (fun H locs h => ?_)
                  refine lv_aload_n hx hb dX8_putTogether_150 rfl (lv_at hl 6 rfl) ?_
                  refine g8 (v := (.ref (ad L 7))) S hK h 8 (by decide) rfl rfl q_604 dX8_putTogether_151 ?_
                  refine lv_iload_n hx hb dX8_putTogether_154 rfl (lv_at hl 3 rfl) ?_
                  refine lv_aload_n hx hb dX8_putTogether_155 rfl (lv_at hl 6 rfl) ?_
                  refine g8 (v := (.ref (ad L 7))) S hK h 8 (by decide) rfl rfl q_604 dX8_putTogether_156 ?_
                  refine lv_iload hx hb dX8_putTogether_159 (lv_at hl 1 rfl) ?_
                  refine g8_el (n := 400) S hK h (by decide) rfl (by omega) dX8_putTogether_161 ?_
                  refine cv_i (show ((mu (mu (mu σ1 4 n9 ((σ1 4 n9) + (σ1 4 k9))) 5 n9 ((σ1 5 n9) + (σ1 5 k9))) 6 n9 (h_l (unI (hp8 σ1 n9) (hp8 σ1 k9)))) 7 k9 : Int32) = σ1 7 k9 from (by simp [mu])) ?_
                  refine lv_aload_n hx hb dX8_putTogether_162 rfl (lv_at hl 6 rfl) ?_
                  refine g8 (v := (.ref (ad L 7))) S hK h 8 (by decide) rfl rfl q_604 dX8_putTogether_163 ?_
                  refine lv_iload_n hx hb dX8_putTogether_166 rfl (lv_at hl 3 rfl) ?_
                  refine g8_el (n := 400) S hK h (by decide) rfl (by omega) dX8_putTogether_167 ?_
                  refine cv_i (show ((mu (mu (mu σ1 4 n9 ((σ1 4 n9) + (σ1 4 k9))) 5 n9 ((σ1 5 n9) + (σ1 5 k9))) 6 n9 (h_l (unI (hp8 σ1 n9) (hp8 σ1 k9)))) 7 n9 : Int32) = σ1 7 n9 from (by simp [mu])) ?_
                  refine lv_icmp_le (tgt := 181) hx hb dX8_putTogether_168 (by decide) (fun c_168 => ?_) (fun c_168 => ?_)
                  · refine lv_aload_n hx hb dX8_putTogether_181 rfl (lv_at hl 6 rfl) ?_
                    refine g8 (v := (.ref (ad L 7))) S hK h 8 (by decide) rfl rfl q_604 dX8_putTogether_182 ?_
                    refine lv_iload_n hx hb dX8_putTogether_185 rfl (lv_at hl 3 rfl) ?_
                    refine g8_el (n := 400) S hK h (by decide) rfl (by omega) dX8_putTogether_186 ?_
                    refine cv_i (show ((mu (mu (mu σ1 4 n9 ((σ1 4 n9) + (σ1 4 k9))) 5 n9 ((σ1 5 n9) + (σ1 5 k9))) 6 n9 (h_l (unI (hp8 σ1 n9) (hp8 σ1 k9)))) 7 n9 : Int32) = h_g (unI (hp8 σ1 n9) (hp8 σ1 k9)) from (by show _ = (if σ1 7 n9 < σ1 7 k9 then σ1 7 k9 else σ1 7 n9); first | (rw [if_pos (Int32.not_le.mp c_168)]; simp [mu]) | (rw [if_neg (Int32.not_lt.mpr c_168)]; simp [mu]))) ?_
                    refine p8_el (n := 400) S hI hK h (by decide) rfl (by omega) dX8_putTogether_187 (fun H locs h => ?_)
                    have h := h.to (show mu (mu (mu (mu σ1 4 n9 ((σ1 4 n9) + (σ1 4 k9))) 5 n9 ((σ1 5 n9) + (σ1 5 k9))) 6 n9 (h_l (unI (hp8 σ1 n9) (hp8 σ1 k9)))) 7 n9 (h_g (unI (hp8 σ1 n9) (hp8 σ1 k9))) = put8 σ1 n9 (unI (hp8 σ1 n9) (hp8 σ1 k9)) from rfl)
                    refine lv_goto (tgt := 212) hx hb dX8_putTogether_188 (by decide) ?_
                    refine lv_iinc (v := (nI (k9 + 1))) (lv' := [(5, .int (nI (k9 + 1))), (6, .int ((σ1 4 n9) + (σ1 4 k9))), (4, .int ah), (3, .int (nI n9)), (2, .int (wTot A)), (1, .int f), (0, .ref (ad L 0))]) hx hb dX8_putTogether_212 hl (k := 1) rfl (iinc_1 _) (by decide) rfl (fun ls hl => ?_)
                    refine lv_goto (tgt := 35) hx hb dX8_putTogether_215 (by decide) ?_
                    exact ih_35 (k9 + 1) n9 P9 ah (put8 σ1 n9 (unI (hp8 σ1 n9) (hp8 σ1 k9))) (by omega) (by omega) (by first | exact hl9 | (rw [List.length_append, List.length_singleton, hl9])) (by first | exact (fun i hi => by rw [hp8_n (by omega)]; exact hP i hi) | exact (fun i hi => by rw [hp8_n (by omega)]; by_cases q9 : i = n9; rw [q9, ← hl9, getD_snoc_l]; rw [getD_snoc (by omega)]; exact hP i (by omega))) (fun i h1 h2 => by rw [hp8_n (by omega)]; exact hA1 i (by omega) h2) (by rw [put8_o (by omega) (by omega) (by omega) (by omega)]; exact hm1) (hO.tr Ot.put) (by first | exact pt_unite c_41 hxk hr9 (Int32.not_lt.mp c_85) | exact pt_next c_41 hxk hr9 (Int32.not_le.mpr c_85)) (by omega) _ _ _ h (lv_sub hl [0, 2, 3, 4, 5, 6] rfl)
                  · refine lv_aload_n hx hb dX8_putTogether_171 rfl (lv_at hl 6 rfl) ?_
                    refine g8 (v := (.ref (ad L 7))) S hK h 8 (by decide) rfl rfl q_604 dX8_putTogether_172 ?_
                    refine lv_iload hx hb dX8_putTogether_175 (lv_at hl 1 rfl) ?_
                    refine g8_el (n := 400) S hK h (by decide) rfl (by omega) dX8_putTogether_177 ?_
                    refine lv_goto (tgt := 187) hx hb dX8_putTogether_178 (by decide) ?_
                    refine cv_i (show ((mu (mu (mu σ1 4 n9 ((σ1 4 n9) + (σ1 4 k9))) 5 n9 ((σ1 5 n9) + (σ1 5 k9))) 6 n9 (h_l (unI (hp8 σ1 n9) (hp8 σ1 k9)))) 7 k9 : Int32) = h_g (unI (hp8 σ1 n9) (hp8 σ1 k9)) from (by show _ = (if σ1 7 n9 < σ1 7 k9 then σ1 7 k9 else σ1 7 n9); first | (rw [if_pos (Int32.not_le.mp c_168)]; simp [mu]) | (rw [if_neg (Int32.not_lt.mpr c_168)]; simp [mu]))) ?_
                    refine p8_el (n := 400) S hI hK h (by decide) rfl (by omega) dX8_putTogether_187 (fun H locs h => ?_)
                    have h := h.to (show mu (mu (mu (mu σ1 4 n9 ((σ1 4 n9) + (σ1 4 k9))) 5 n9 ((σ1 5 n9) + (σ1 5 k9))) 6 n9 (h_l (unI (hp8 σ1 n9) (hp8 σ1 k9)))) 7 n9 (h_g (unI (hp8 σ1 n9) (hp8 σ1 k9))) = put8 σ1 n9 (unI (hp8 σ1 n9) (hp8 σ1 k9)) from rfl)
                    refine lv_goto (tgt := 212) hx hb dX8_putTogether_188 (by decide) ?_
                    refine lv_iinc (v := (nI (k9 + 1))) (lv' := [(5, .int (nI (k9 + 1))), (6, .int ((σ1 4 n9) + (σ1 4 k9))), (4, .int ah), (3, .int (nI n9)), (2, .int (wTot A)), (1, .int f), (0, .ref (ad L 0))]) hx hb dX8_putTogether_212 hl (k := 1) rfl (iinc_1 _) (by decide) rfl (fun ls hl => ?_)
                    refine lv_goto (tgt := 35) hx hb dX8_putTogether_215 (by decide) ?_
                    exact ih_35 (k9 + 1) n9 P9 ah (put8 σ1 n9 (unI (hp8 σ1 n9) (hp8 σ1 k9))) (by omega) (by omega) (by first | exact hl9 | (rw [List.length_append, List.length_singleton, hl9])) (by first | exact (fun i hi => by rw [hp8_n (by omega)]; exact hP i hi) | exact (fun i hi => by rw [hp8_n (by omega)]; by_cases q9 : i = n9; rw [q9, ← hl9, getD_snoc_l]; rw [getD_snoc (by omega)]; exact hP i (by omega))) (fun i h1 h2 => by rw [hp8_n (by omega)]; exact hA1 i (by omega) h2) (by rw [put8_o (by omega) (by omega) (by omega) (by omega)]; exact hm1) (hO.tr Ot.put) (by first | exact pt_unite c_41 hxk hr9 (Int32.not_lt.mp c_85) | exact pt_next c_41 hxk hr9 (Int32.not_le.mpr c_85)) (by omega) _ _ _ h (lv_sub hl [0, 2, 3, 4, 5, 6] rfl)
        exact LP_35 _ 1 0 ([]) (nI 0) σ (by omega) (by omega) rfl (fun i hi => absurd hi (Nat.not_lt_zero _)) (fun i _ hi => hA.2 i hi) hm0 Ot.rf (by rcases Nat.eq_zero_or_pos A.length with z | z; exact Or.inl z; exact Or.inr (by rw [mg_start (by omega), hA.2 0 z, nI_0, List.take_zero])) (Nat.lt_succ_self _) _ _ _ h (lv_sub hl [0, 1, 2, 3, 4, 5] rfl)
      · refine lv_iload_n hx hb dX8_putTogether_12 rfl (lv_at hl 1 rfl) ?_
        refine lv_aload_n hx hb dX8_putTogether_13 rfl (lv_at hl 3 rfl) ?_
        refine g8 (v := (.ref (ad L 4))) S hK h 5 (by decide) rfl rfl q_601 dX8_putTogether_14 ?_
        refine lv_iload_n hx hb dX8_putTogether_17 rfl (lv_at hl 0 rfl) ?_
        refine g8_el (n := 400) S hK h (by decide) rfl (by omega) dX8_putTogether_18 ?_
        refine cv_i (show (σ 4 j : Int32) = h_w (A.getD j hd0) from (congrArg h_w (hA.2 j (by omega)))) ?_
        refine lv_iadd hx hb dX8_putTogether_19 ?_
        refine cv_i (show ((isum (A.map h_w) j) + (h_w (A.getD j hd0)) : Int32) = isum (A.map h_w) (j + 1) from (by show _ = isum (A.map h_w) j + (A.map h_w).getD j (h_w hd0); rw [getD_map])) ?_
        refine lv_istore_n (lv' := [(2, .int (isum (A.map h_w) (j + 1))), (3, .int (nI j)), (1, .int f), (0, .ref (ad L 0))]) hx hb dX8_putTogether_20 rfl hl (by decide) rfl (fun ls hl => ?_)
        refine lv_iinc (v := (nI (j + 1))) (lv' := [(3, .int (nI (j + 1))), (2, .int (isum (A.map h_w) (j + 1))), (1, .int f), (0, .ref (ad L 0))]) hx hb dX8_putTogether_21 hl (k := 1) rfl (iinc_1 _) (by decide) rfl (fun ls hl => ?_)
        refine lv_goto (tgt := 4) hx hb dX8_putTogether_24 (by decide) ?_
        exact ih_4 (j + 1) (by omega) (by omega) _ _ _ h (lv_sub hl [0, 1, 2, 3] rfl)
  exact LP_4 _ 0 (by omega) (Nat.lt_succ_self _) _ _ _ h (lv_sub hl [0, 1, 3, 2] rfl)
