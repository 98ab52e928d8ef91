abbrev rX8_readsPart : Room := { frames := 2, cells := 0, slots := 0, locals := 45 }
theorem yd_X8_readsPart : ydV yX8_readsPart RX8 1 := ⟨rfl, by decide +kernel, by decide +kernel, by decide +kernel⟩
set_option maxHeartbeats 4000000 in
set_option maxRecDepth 100000 in
theorem c_X8_readsPart (l : Launch) (L : Lay) (σ : Me) {t : List Int32} (hT : TX σ t) {s9 : Nat} (ha : σ 0 3 = nI s9) (he : s9 ≤ 60) : Mf8 l L yX8_readsPart (Cond.code yX8_readsPart cX8_readsPart 6 (some FieldType.int) :: qA) rX8_readsPart [.ref (ad L 0), .int (nI 0)] σ (some (.int (rdA t s9))) (mu (wd8 σ (rF t s9).2.1.toNatClampNeg (rF t s9).2.2.1.length) 0 3 (nI (rF t s9).2.2.2)) := by
  refine Mf8.ofW (by decide) (Nat.le_of_ble_eq_true rfl) ?_
  intro p e s m args below meth c ls post hp hI S hr hlk hK h hl
  have hx := S.1
  have hb := S.2.1
  have hl : lv_has ls 6 [(0, .ref (ad L 0)), (1, .int (nI 0))] := hl
  obtain ⟨d1, d2⟩ := rv_d1 (t := t) (s := s9)
  rw [rF_21] at hp
  unfold rdA at hp
  refine lv_aload_n hx hb dX8_readsPart_0 rfl (lv_at hl 0 rfl) ?_
  refine lv_iconst (v := (nI 1)) hx hb dX8_readsPart_1 (by decide) ?_
  refine q_V18 S hI hK h [.int (nI 1)] (c_X8_takeNumber l L σ (d9 := 1) hT ha (by omega) (by omega)) q_850 q_852 qs_40 q_10 q_853 yd_X8_takeNumber rfl ⟨⟨rfl, rfl⟩, ⟨(Nat.le_of_ble_eq_true rfl), (Nat.le_of_ble_eq_true rfl)⟩, Nat.le_refl _, Nat.le_refl _⟩ rfl (Nat.le_of_ble_eq_true rfl) hl.1 dX8_readsPart_2 (fun H locs h => ?_)
  refine cv_i (show (nv8 (rv t 1 (nI 0) 0 s9).1 (rv t 1 (nI 0) 0 s9).2.1 : Int32) = dgAt t s9 from d1) ?_
  refine lv_istore_n (lv' := [(2, .int (dgAt t s9)), (0, .ref (ad L 0)), (1, .int (nI 0))]) hx hb dX8_readsPart_5 rfl hl (by decide) rfl (fun ls hl => ?_)
  refine lv_iload_n hx hb dX8_readsPart_6 rfl (lv_at hl 0 rfl) ?_
  refine lv_if_lt (tgt := 23) hx hb dX8_readsPart_7 (by decide) (fun c_7 => ?_) (fun c_7 => ?_)
  · have h := h.to (show mu σ 0 3 (nI (rv t 1 (nI 0) 0 s9).2.2) = mu (wd8 σ (dgAt t s9).toNatClampNeg 0) 0 3 (nI (s9 + 0)) from (by rw [d2, if_pos c_7, wd8_0]; rfl))
    have i0 : (0 : Nat) = 0 → rF t s9 = (false, dgAt t s9, [], s9) := fun _ => rF_n c_7
    have i2 : (0 : Nat) = 1 → rF t s9 = rF2 t s9 (rL t 60 true [] s9) := fun z => absurd z (by decide)
    have i9 : (0 : Nat) = 1 → ¬ dgAt t s9 < 0 ∧ s9 < 60 := fun z => absurd z (by decide)
    have i4 : s9 + 60 + 1 ≥ 61 := by omega
    refine lv_iconst (v := (nI 0)) hx hb dX8_readsPart_23 (by decide) ?_
    refine lv_istore_n (lv' := [(3, .int (nI 0)), (2, .int (dgAt t s9)), (0, .ref (ad L 0)), (1, .int (nI 0))]) hx hb dX8_readsPart_24 rfl hl (by decide) rfl (fun ls hl => ?_)
    refine lv_iload_n hx hb dX8_readsPart_25 rfl (lv_at hl 0 rfl) ?_
    refine lv_istore (lv' := [(4, .int (nI 0)), (3, .int (nI 0)), (2, .int (dgAt t s9)), (0, .ref (ad L 0)), (1, .int (nI 0))]) hx hb dX8_readsPart_26 hl (by decide) rfl (fun ls hl => ?_)
    have LP_28 : ∀ (n_28 : Nat) (ib : Nat) (mb : Nat) (n : Nat) (vs : List Int32) (e1 : Nat) (σ1 : Me), (ib = 0 → rF t s9 = (false, dgAt t s9, vs, e1)) → (ib = 1 → mb = 0 → rF t s9 = rF2 t s9 (true, vs, e1) ∧ 0 < vs.length) → (mb = 1 → rF t s9 = rF2 t s9 (rL t n true vs e1)) → (mb = 1 → ¬ dgAt t s9 < 0 ∧ e1 < 60) → (ib ≤ 1) → (mb ≤ ib) → (e1 + n + 1 ≥ 61) → (e1 ≤ 65) → (σ1 = mu (wd8 σ (dgAt t s9).toNatClampNeg vs.length) 0 3 (nI (e1 + mb))) → n + mb < n_28 → ∀ (H : Heap) (locs : List Loc) (ls : Array Slot), Hd8 L s.heap H σ1 locs → lv_has ls 6 [(4, .int (nI mb)), (3, .int (nI ib)), (2, .int (dgAt t s9)), (1, .int (nI 0)), (0, .ref (ad L 0))] → W p l e rX8_readsPart s m args below meth c H locs 0 0 (MQ below (Qg post (bs8 L) (Aw8 L)) args s 0 0 (Aw8 L)) (F0 m 28 ls []) := by
      intro n_28
      induction n_28 with
      | zero => intro ib mb n vs e1 σ1; intros; omega
      | succ n_28 ih_28 =>
        intro ib mb n vs e1 σ1 h0 h1 h2 h9 hi hm h4 h5 hσ hm_28 H locs ls h hl
        have hT1 : TX σ1 t := by rw [hσ]; exact TX_wd hT
        have a1 : σ1 0 3 = nI (e1 + mb) := by rw [hσ, mu_s]
        refine lv_iload hx hb dX8_readsPart_28 (lv_at hl 0 rfl) ?_
        refine b_if_eq (tgt := 110) hx hb dX8_readsPart_30 (by decide) (by omega) (fun c_30 => ?_) (fun c_30 => ?_)
        · refine lv_iload_n hx hb dX8_readsPart_110 rfl (lv_at hl 1 rfl) ?_
          refine b_if_eq (tgt := 127) hx hb dX8_readsPart_111 (by decide) (by omega) (fun c_111 => ?_) (fun c_111 => ?_)
          · have hf9 := h0 c_111
            have hs9 : σ1 = mu (wd8 σ (dgAt t s9).toNatClampNeg vs.length) 0 3 (nI (e1)) := by rw [hσ, c_30]; rfl
            refine lv_iconst (v := (-1)) hx hb dX8_readsPart_127 (by decide) ?_
            exact e_i8 S hK h hr hlk dX8_readsPart_128 (fin_p8 hp (by rw [hf9]; first | done | rfl) (by rw [hf9]; first | done | exact hs9))
          · obtain ⟨f1, f2⟩ := h1 (by omega) c_30
            refine lv_aload_n hx hb dX8_readsPart_114 rfl (lv_at hl 4 rfl) ?_
            refine lv_bipush (v := (nI 59)) hx hb dX8_readsPart_115 (by decide) ?_
            refine q_V18 S hI hK h [.int (nI 59)] (c_X8_takes l L σ1 (e9 := e1) hT1 (by subst c_30; exact a1) (by omega) (nI 59)) q_858 q_860 qs_42 q_10 q_861 yd_X8_takes rfl ⟨⟨rfl, rfl⟩, ⟨(Nat.le_of_ble_eq_true rfl), (Nat.le_of_ble_eq_true rfl)⟩, Nat.le_refl _, Nat.le_refl _⟩ rfl (Nat.le_of_ble_eq_true rfl) hl.1 dX8_readsPart_117 (fun H locs h => ?_)
            refine z_eq (tgt := 127) hx hb dX8_readsPart_120 (by decide) (fun c_120 => ?_) (fun c_120 => ?_)
            · have h := h.to (show mu σ1 0 3 (nI (if ch8 t e1 = (nI 59) then e1 + 1 else e1)) = mu (wd8 σ (dgAt t s9).toNatClampNeg vs.length) 0 3 (nI (e1)) from (by rw [hσ, mu_mu, if_neg c_120]))
              have hf9 : rF t s9 = (false, dgAt t s9, vs, e1) := by rw [f1, rF2_no (Or.inr (fun z => c_120 ((ch8_is (by omega) (by omega)).mpr z)))]
              have hs9 : mu (wd8 σ (dgAt t s9).toNatClampNeg vs.length) 0 3 (nI (e1)) = mu (wd8 σ (dgAt t s9).toNatClampNeg vs.length) 0 3 (nI (e1)) := rfl
              refine lv_iconst (v := (-1)) hx hb dX8_readsPart_127 (by decide) ?_
              exact e_i8 S hK h hr hlk dX8_readsPart_128 (fin_p8 hp (by rw [hf9]; first | done | rfl) (by rw [hf9]; first | done | exact hs9))
            · have h := h.to (show mu σ1 0 3 (nI (if ch8 t e1 = (nI 59) then e1 + 1 else e1)) = mu (wd8 σ (dgAt t s9).toNatClampNeg vs.length) 0 3 (nI (e1 + 1)) from (by rw [hσ, mu_mu, if_pos c_120]))
              have hf9 : rF t s9 = (true, dgAt t s9, vs, e1 + 1) := by rw [f1, rF2_yes f2 ((ch8_is (by omega) (by omega)).mp c_120)]
              have hs9 : mu (wd8 σ (dgAt t s9).toNatClampNeg vs.length) 0 3 (nI (e1 + 1)) = mu (wd8 σ (dgAt t s9).toNatClampNeg vs.length) 0 3 (nI (e1 + 1)) := rfl
              refine lv_iload_n hx hb dX8_readsPart_123 rfl (lv_at hl 2 rfl) ?_
              refine lv_goto (tgt := 128) hx hb dX8_readsPart_124 (by decide) ?_
              exact e_i8 S hK h hr hlk dX8_readsPart_128 (fin_p8 hp (by rw [hf9]; first | done | rfl) (by rw [hf9]; first | done | exact hs9))
        · obtain rfl : mb = 1 := by omega
          obtain rfl : ib = 1 := by omega
          obtain ⟨g1, g2⟩ := h9 rfl
          obtain ⟨i, hi0, hid⟩ := dgAt_n g1
          have hcl : (dgAt t s9).toNatClampNeg = i := by rw [hid, nI_clamp (by omega)]
          obtain ⟨n1, rfl⟩ : ∃ n1, n = n1 + 1 := ⟨n - 1, by omega⟩
          obtain ⟨v0, v1⟩ := rv_4 (t := t) (e := e1 + 1)
          obtain ⟨r1, r2⟩ := rv_le (t := t) (e := e1 + 1)
          refine lv_aload_n hx hb dX8_readsPart_33 rfl (lv_at hl 4 rfl) ?_
          refine lv_iconst (v := (nI 4)) hx hb dX8_readsPart_34 (by decide) ?_
          refine q_V18 S hI hK h [.int (nI 4)] (c_X8_takeNumber l L σ1 (d9 := 4) hT1 a1 (by omega) (by omega)) q_850 q_852 qs_40 q_10 q_853 yd_X8_takeNumber rfl ⟨⟨rfl, rfl⟩, ⟨(Nat.le_of_ble_eq_true rfl), (Nat.le_of_ble_eq_true rfl)⟩, Nat.le_refl _, Nat.le_refl _⟩ rfl (Nat.le_of_ble_eq_true rfl) hl.1 dX8_readsPart_35 (fun H locs h => ?_)
          have h := h.to (show mu σ1 0 3 (nI (rv t 4 (nI 0) 0 (e1 + 1)).2.2) = mu (wd8 σ (dgAt t s9).toNatClampNeg vs.length) 0 3 (nI ((rv t 4 (nI 0) 0 (e1 + 1)).2.2)) from (by rw [hσ, mu_mu]))
          refine lv_istore (lv' := [(5, .int (nv8 (rv t 4 (nI 0) 0 (e1 + 1)).1 (rv t 4 (nI 0) 0 (e1 + 1)).2.1)), (4, .int (nI 1)), (3, .int (nI 1)), (2, .int (dgAt t s9)), (1, .int (nI 0)), (0, .ref (ad L 0))]) hx hb dX8_readsPart_38 hl (by decide) rfl (fun ls hl => ?_)
          refine lv_iload hx hb dX8_readsPart_40 (lv_at hl 0 rfl) ?_
          refine lv_if_lt (tgt := 49) hx hb dX8_readsPart_42 (by decide) (fun c_42 => ?_) (fun c_42 => ?_)
          · have z9 : (rv t 4 (nI 0) 0 (e1 + 1)).2.1 = 0 := by rcases Nat.eq_zero_or_pos (rv t 4 (nI 0) 0 (e1 + 1)).2.1 with z | z; exact z; exact absurd c_42 (by rw [(v1 (by omega)).1]; obtain ⟨q9, z1, z2⟩ := (v1 (by omega)).2.1; rw [z2]; exact nI_pos (by omega))
            have h := h.to (show mu (wd8 σ (dgAt t s9).toNatClampNeg vs.length) 0 3 (nI ((rv t 4 (nI 0) 0 (e1 + 1)).2.2)) = mu (wd8 σ (dgAt t s9).toNatClampNeg vs.length) 0 3 (nI ((rv t 4 (nI 0) 0 (e1 + 1)).2.2 + 0)) from rfl)
            have k0 : (0 : Nat) = 0 → rF t s9 = (false, dgAt t s9, vs, (rv t 4 (nI 0) 0 (e1 + 1)).2.2) := fun _ => by rw [h2 rfl, rL_bad z9, rF2_f]
            have k1 : (0 : Nat) = 1 → (0 : Nat) = 0 → rF t s9 = rF2 t s9 (true, vs, (rv t 4 (nI 0) 0 (e1 + 1)).2.2) ∧ 0 < vs.length := fun z => absurd z (by decide)
            have k2 : (0 : Nat) = 1 → rF t s9 = rF2 t s9 (rL t n1 true vs (rv t 4 (nI 0) 0 (e1 + 1)).2.2) := fun z => absurd z (by decide)
            have k9 : (0 : Nat) = 1 → ¬ dgAt t s9 < 0 ∧ (rv t 4 (nI 0) 0 (e1 + 1)).2.2 < 60 := fun z => absurd z (by decide)
            refine lv_iconst (v := (nI 0)) hx hb dX8_readsPart_49 (by decide) ?_
            refine lv_istore_n (lv' := [(3, .int (nI 0)), (5, .int (nv8 (rv t 4 (nI 0) 0 (e1 + 1)).1 (rv t 4 (nI 0) 0 (e1 + 1)).2.1)), (4, .int (nI 1)), (2, .int (dgAt t s9)), (1, .int (nI 0)), (0, .ref (ad L 0))]) hx hb dX8_readsPart_50 rfl hl (by decide) rfl (fun ls hl => ?_)
            refine lv_iload_n hx hb dX8_readsPart_51 rfl (lv_at hl 0 rfl) ?_
            refine b_if_eq (tgt := 72) hx hb dX8_readsPart_52 (by decide) (by decide) (fun _ => ?_) (fun c9 => absurd c9 (by decide))
            refine lv_iload_n hx hb dX8_readsPart_72 rfl (lv_at hl 0 rfl) ?_
            refine b_if_eq (tgt := 87) hx hb dX8_readsPart_73 (by decide) (by decide) (fun _ => ?_) (fun c9 => absurd c9 (by decide))
            refine lv_iload_n hx hb dX8_readsPart_87 rfl (lv_at hl 0 rfl) ?_
            refine b_if_eq (tgt := 104) hx hb dX8_readsPart_88 (by decide) (by decide) (fun _ => ?_) (fun c9 => absurd c9 (by decide))
            refine lv_iconst (v := (nI 0)) hx hb dX8_readsPart_104 (by decide) ?_
            refine lv_istore (lv' := [(4, .int (nI 0)), (3, .int (nI 0)), (5, .int (nv8 (rv t 4 (nI 0) 0 (e1 + 1)).1 (rv t 4 (nI 0) 0 (e1 + 1)).2.1)), (2, .int (dgAt t s9)), (1, .int (nI 0)), (0, .ref (ad L 0))]) hx hb dX8_readsPart_105 hl (by decide) rfl (fun ls hl => ?_)
            refine lv_goto (tgt := 28) hx hb dX8_readsPart_107 (by decide) ?_
            exact ih_28 0 0 n1 vs ((rv t 4 (nI 0) 0 (e1 + 1)).2.2) (mu (wd8 σ (dgAt t s9).toNatClampNeg vs.length) 0 3 (nI ((rv t 4 (nI 0) 0 (e1 + 1)).2.2 + 0))) k0 k1 k2 k9 (by decide) (by decide) (by omega) (by omega) rfl (by omega) _ _ _ h (lv_sub hl [0, 1, 3, 4, 5] rfl)
          · have z9 : (rv t 4 (nI 0) 0 (e1 + 1)).2.1 ≠ 0 := fun z => c_42 (v0 z)
            obtain ⟨v2, v3, v4⟩ := v1 z9
            refine lv_iconst (v := (nI 1)) hx hb dX8_readsPart_45 (by decide) ?_
            refine lv_goto (tgt := 50) hx hb dX8_readsPart_46 (by decide) ?_
            refine lv_istore_n (lv' := [(3, .int (nI 1)), (5, .int (nv8 (rv t 4 (nI 0) 0 (e1 + 1)).1 (rv t 4 (nI 0) 0 (e1 + 1)).2.1)), (4, .int (nI 1)), (2, .int (dgAt t s9)), (1, .int (nI 0)), (0, .ref (ad L 0))]) hx hb dX8_readsPart_50 rfl hl (by decide) rfl (fun ls hl => ?_)
            refine lv_iload_n hx hb dX8_readsPart_51 rfl (lv_at hl 0 rfl) ?_
            refine b_if_eq (tgt := 72) hx hb dX8_readsPart_52 (by decide) (by decide) (fun c9 => absurd c9 (by decide)) (fun _ => ?_)
            refine lv_iload_n hx hb dX8_readsPart_55 rfl (lv_at hl 3 rfl) ?_
            refine q_S18 S hI hK h [.int (dgAt t s9)] (c_X8_isDigest l L (mu (wd8 σ (dgAt t s9).toNatClampNeg vs.length) 0 3 (nI ((rv t 4 (nI 0) 0 (e1 + 1)).2.2))) (dgAt t s9)) q_646 q_647 q_10 q_648 yd_X8_isDigest rfl ⟨⟨rfl, rfl⟩, ⟨(Nat.le_of_ble_eq_true rfl), (Nat.le_of_ble_eq_true rfl)⟩, Nat.le_refl _, Nat.le_refl _⟩ rfl (Nat.le_of_ble_eq_true rfl) hl.1 dX8_readsPart_56 (fun H locs h => ?_)
            refine z_eq (tgt := 72) hx hb dX8_readsPart_59 (by decide) (fun c_59 => ?_) (fun c_59 => ?_)
            · have h3 : ¬ i < 3 := fun z => c_59 (by rw [hid]; exact ⟨(nI_leI (by omega) (by omega)).mpr (by omega), (nI_leI (by omega) (by omega)).mpr (by omega)⟩)
              have h := h.to (show mu (wd8 σ (dgAt t s9).toNatClampNeg vs.length) 0 3 (nI ((rv t 4 (nI 0) 0 (e1 + 1)).2.2)) = mu (wd8 σ (dgAt t s9).toNatClampNeg (vs.length + 1)) 0 3 (nI ((rv t 4 (nI 0) 0 (e1 + 1)).2.2)) from (by rw [hcl, wd8_n h3, wd8_n h3]))
              have hl : lv_has ls 6 [(3, .int (nI 1)), (5, .int (nv8 (rv t 4 (nI 0) 0 (e1 + 1)).1 (rv t 4 (nI 0) 0 (e1 + 1)).2.1)), (4, .int (nI 1)), (2, .int (dgAt t s9)), (1, .int (nI 0)), (0, .ref (ad L 0))] := by rw [show (.int (dgAt t s9) : Value) = .int (dgAt t s9) from (by rw [hid])] at hl; exact hl
              have h := h.to (show mu (wd8 σ (dgAt t s9).toNatClampNeg (vs.length + 1)) 0 3 (nI ((rv t 4 (nI 0) 0 (e1 + 1)).2.2)) = mu (wd8 σ (dgAt t s9).toNatClampNeg (vs.length + 1)) 0 3 (nI ((rv t 4 (nI 0) 0 (e1 + 1)).2.2)) from (by first | rfl | (rw [hcl]; exact wd8_1 h3)))
              refine lv_iload_n hx hb dX8_readsPart_72 rfl (lv_at hl 0 rfl) ?_
              refine b_if_eq (tgt := 87) hx hb dX8_readsPart_73 (by decide) (by decide) (fun c9 => absurd c9 (by decide)) (fun _ => ?_)
              refine lv_iload_n hx hb dX8_readsPart_76 rfl (lv_at hl 4 rfl) ?_
              refine b_if_eq (tgt := 87) hx hb dX8_readsPart_77 (by decide) (by decide) (fun _ => ?_) (fun c9 => absurd c9 (by decide))
              refine lv_iload_n hx hb dX8_readsPart_87 rfl (lv_at hl 0 rfl) ?_
              refine b_if_eq (tgt := 104) hx hb dX8_readsPart_88 (by decide) (by decide) (fun c9 => absurd c9 (by decide)) (fun _ => ?_)
              refine lv_aload_n hx hb dX8_readsPart_91 rfl (lv_at hl 5 rfl) ?_
              refine lv_bipush (v := (nI 44)) hx hb dX8_readsPart_92 (by decide) ?_
              refine q_V18 S hI hK h [.int (nI 44)] (c_X8_takes l L (mu (wd8 σ (dgAt t s9).toNatClampNeg (vs.length + 1)) 0 3 (nI ((rv t 4 (nI 0) 0 (e1 + 1)).2.2))) (TX_wd hT) mu_s (by omega) (nI 44)) q_858 q_860 qs_42 q_10 q_861 yd_X8_takes rfl ⟨⟨rfl, rfl⟩, ⟨(Nat.le_of_ble_eq_true rfl), (Nat.le_of_ble_eq_true rfl)⟩, Nat.le_refl _, Nat.le_refl _⟩ rfl (Nat.le_of_ble_eq_true rfl) hl.1 dX8_readsPart_94 (fun H locs h => ?_)
              refine z_eq (tgt := 104) hx hb dX8_readsPart_97 (by decide) (fun c_97 => ?_) (fun c_97 => ?_)
              · have h := h.to (show mu (mu (wd8 σ (dgAt t s9).toNatClampNeg (vs.length + 1)) 0 3 (nI ((rv t 4 (nI 0) 0 (e1 + 1)).2.2))) 0 3 (nI (if ch8 t ((rv t 4 (nI 0) 0 (e1 + 1)).2.2) = (nI 44) then ((rv t 4 (nI 0) 0 (e1 + 1)).2.2) + 1 else ((rv t 4 (nI 0) 0 (e1 + 1)).2.2))) = mu (wd8 σ (dgAt t s9).toNatClampNeg (vs ++ [(rv t 4 (nI 0) 0 (e1 + 1)).1]).length) 0 3 (nI ((rv t 4 (nI 0) 0 (e1 + 1)).2.2 + 0)) from (by rw [mu_mu, if_neg c_97, List.length_append, List.length_singleton]; first | done | rfl))
                have k0 : (1 : Nat) = 0 → rF t s9 = (false, dgAt t s9, vs ++ [(rv t 4 (nI 0) 0 (e1 + 1)).1], (rv t 4 (nI 0) 0 (e1 + 1)).2.2) := fun z => absurd z (by decide)
                have k1 : (1 : Nat) = 1 → (0 : Nat) = 0 → rF t s9 = rF2 t s9 (true, vs ++ [(rv t 4 (nI 0) 0 (e1 + 1)).1], (rv t 4 (nI 0) 0 (e1 + 1)).2.2) ∧ 0 < (vs ++ [(rv t 4 (nI 0) 0 (e1 + 1)).1]).length := fun _ _ => ⟨by rw [h2 rfl, rL_go z9, decide_eq_false (fun z => c_97 ((ch8_is (by omega) (by omega)).mpr z)), rL_no], by rw [List.length_append, List.length_singleton]; omega⟩
                have k2 : (0 : Nat) = 1 → rF t s9 = rF2 t s9 (rL t n1 true (vs ++ [(rv t 4 (nI 0) 0 (e1 + 1)).1]) (rv t 4 (nI 0) 0 (e1 + 1)).2.2) := fun z => absurd z (by decide)
                have k9 : (0 : Nat) = 1 → ¬ dgAt t s9 < 0 ∧ (rv t 4 (nI 0) 0 (e1 + 1)).2.2 < 60 := fun z => absurd z (by decide)
                refine lv_iconst (v := (nI 0)) hx hb dX8_readsPart_104 (by decide) ?_
                refine lv_istore (lv' := [(4, .int (nI 0)), (3, .int (nI 1)), (5, .int (nv8 (rv t 4 (nI 0) 0 (e1 + 1)).1 (rv t 4 (nI 0) 0 (e1 + 1)).2.1)), (2, .int (dgAt t s9)), (1, .int (nI 0)), (0, .ref (ad L 0))]) hx hb dX8_readsPart_105 hl (by decide) rfl (fun ls hl => ?_)
                refine lv_goto (tgt := 28) hx hb dX8_readsPart_107 (by decide) ?_
                exact ih_28 1 0 n1 (vs ++ [(rv t 4 (nI 0) 0 (e1 + 1)).1]) ((rv t 4 (nI 0) 0 (e1 + 1)).2.2) (mu (wd8 σ (dgAt t s9).toNatClampNeg (vs ++ [(rv t 4 (nI 0) 0 (e1 + 1)).1]).length) 0 3 (nI ((rv t 4 (nI 0) 0 (e1 + 1)).2.2 + 0))) k0 k1 k2 k9 (by decide) (by decide) (by omega) (by omega) rfl (by omega) _ _ _ h (lv_sub hl [0, 1, 3, 4, 5] rfl)
              · have h := h.to (show mu (mu (wd8 σ (dgAt t s9).toNatClampNeg (vs.length + 1)) 0 3 (nI ((rv t 4 (nI 0) 0 (e1 + 1)).2.2))) 0 3 (nI (if ch8 t ((rv t 4 (nI 0) 0 (e1 + 1)).2.2) = (nI 44) then ((rv t 4 (nI 0) 0 (e1 + 1)).2.2) + 1 else ((rv t 4 (nI 0) 0 (e1 + 1)).2.2))) = mu (wd8 σ (dgAt t s9).toNatClampNeg (vs ++ [(rv t 4 (nI 0) 0 (e1 + 1)).1]).length) 0 3 (nI ((rv t 4 (nI 0) 0 (e1 + 1)).2.2 + 1)) from (by rw [mu_mu, if_pos c_97, List.length_append, List.length_singleton]))
                have k0 : (1 : Nat) = 0 → rF t s9 = (false, dgAt t s9, vs ++ [(rv t 4 (nI 0) 0 (e1 + 1)).1], (rv t 4 (nI 0) 0 (e1 + 1)).2.2) := fun z => absurd z (by decide)
                have k1 : (1 : Nat) = 1 → (1 : Nat) = 0 → rF t s9 = rF2 t s9 (true, vs ++ [(rv t 4 (nI 0) 0 (e1 + 1)).1], (rv t 4 (nI 0) 0 (e1 + 1)).2.2) ∧ 0 < (vs ++ [(rv t 4 (nI 0) 0 (e1 + 1)).1]).length := fun _ z => absurd z (by decide)
                have k2 : (1 : Nat) = 1 → rF t s9 = rF2 t s9 (rL t n1 true (vs ++ [(rv t 4 (nI 0) 0 (e1 + 1)).1]) (rv t 4 (nI 0) 0 (e1 + 1)).2.2) := fun _ => by rw [h2 rfl, rL_go z9, decide_eq_true ((ch8_is (by omega) (by omega)).mp c_97)]
                have k9 : (1 : Nat) = 1 → ¬ dgAt t s9 < 0 ∧ (rv t 4 (nI 0) 0 (e1 + 1)).2.2 < 60 := fun _ => ⟨g1, by have q9 := ch8_lt (by omega) c_97; have := hT.2.1; omega⟩
                refine lv_iconst (v := (nI 1)) hx hb dX8_readsPart_100 (by decide) ?_
                refine lv_goto (tgt := 105) hx hb dX8_readsPart_101 (by decide) ?_
                refine lv_istore (lv' := [(4, .int (nI 1)), (3, .int (nI 1)), (5, .int (nv8 (rv t 4 (nI 0) 0 (e1 + 1)).1 (rv t 4 (nI 0) 0 (e1 + 1)).2.1)), (2, .int (dgAt t s9)), (1, .int (nI 0)), (0, .ref (ad L 0))]) hx hb dX8_readsPart_105 hl (by decide) rfl (fun ls hl => ?_)
                refine lv_goto (tgt := 28) hx hb dX8_readsPart_107 (by decide) ?_
                exact ih_28 1 1 n1 (vs ++ [(rv t 4 (nI 0) 0 (e1 + 1)).1]) ((rv t 4 (nI 0) 0 (e1 + 1)).2.2) (mu (wd8 σ (dgAt t s9).toNatClampNeg (vs ++ [(rv t 4 (nI 0) 0 (e1 + 1)).1]).length) 0 3 (nI ((rv t 4 (nI 0) 0 (e1 + 1)).2.2 + 1))) k0 k1 k2 k9 (by decide) (by decide) (by omega) (by omega) rfl (by omega) _ _ _ h (lv_sub hl [0, 1, 3, 4, 5] rfl)
            · have h3 : i < 3 := by have q9 := c_59.2; rw [hid] at q9; have := (nI_leI (by omega) (by omega)).mp q9; omega
              refine lv_aload_n hx hb dX8_readsPart_62 rfl (lv_at hl 5 rfl) ?_
              refine g8 (v := (.ref (ad L 9))) S hK h 14 (by decide) rfl rfl q_610 dX8_readsPart_63 ?_
              have hl : lv_has ls 6 [(3, .int (nI 1)), (5, .int (nv8 (rv t 4 (nI 0) 0 (e1 + 1)).1 (rv t 4 (nI 0) 0 (e1 + 1)).2.1)), (4, .int (nI 1)), (2, .int (nI i)), (1, .int (nI 0)), (0, .ref (ad L 0))] := by rw [show (.int (dgAt t s9) : Value) = .int (nI i) from (by rw [hid])] at hl; exact hl
              refine lv_iload_n hx hb dX8_readsPart_66 rfl (lv_at hl 3 rfl) ?_
              refine lv_dup2_11 hx hb dX8_readsPart_67 rfl rfl ?_
              refine g8_el (n := 3) S hK h (by decide) rfl (by omega) dX8_readsPart_68 ?_
              refine lv_iconst (v := (nI 1)) hx hb dX8_readsPart_69 (by decide) ?_
              refine lv_iadd hx hb dX8_readsPart_70 ?_
              refine p8_el (n := 3) S hI hK h (by decide) rfl (by omega) dX8_readsPart_71 (fun H locs h => ?_)
              have hl : lv_has ls 6 [(3, .int (nI 1)), (5, .int (nv8 (rv t 4 (nI 0) 0 (e1 + 1)).1 (rv t 4 (nI 0) 0 (e1 + 1)).2.1)), (4, .int (nI 1)), (2, .int (dgAt t s9)), (1, .int (nI 0)), (0, .ref (ad L 0))] := by rw [show (.int (nI i) : Value) = .int (dgAt t s9) from (by rw [hid])] at hl; exact hl
              have h := h.to (show mu (mu (wd8 σ (dgAt t s9).toNatClampNeg vs.length) 0 3 (nI ((rv t 4 (nI 0) 0 (e1 + 1)).2.2))) 9 i (((mu (wd8 σ (dgAt t s9).toNatClampNeg vs.length) 0 3 (nI ((rv t 4 (nI 0) 0 (e1 + 1)).2.2))) 9 i) + (nI 1)) = mu (wd8 σ (dgAt t s9).toNatClampNeg (vs.length + 1)) 0 3 (nI ((rv t 4 (nI 0) 0 (e1 + 1)).2.2)) from (by first | rfl | (rw [hcl]; exact wd8_1 h3)))
              refine lv_iload_n hx hb dX8_readsPart_72 rfl (lv_at hl 0 rfl) ?_
              refine b_if_eq (tgt := 87) hx hb dX8_readsPart_73 (by decide) (by decide) (fun c9 => absurd c9 (by decide)) (fun _ => ?_)
              refine lv_iload_n hx hb dX8_readsPart_76 rfl (lv_at hl 4 rfl) ?_
              refine b_if_eq (tgt := 87) hx hb dX8_readsPart_77 (by decide) (by decide) (fun _ => ?_) (fun c9 => absurd c9 (by decide))
              refine lv_iload_n hx hb dX8_readsPart_87 rfl (lv_at hl 0 rfl) ?_
              refine b_if_eq (tgt := 104) hx hb dX8_readsPart_88 (by decide) (by decide) (fun c9 => absurd c9 (by decide)) (fun _ => ?_)
              refine lv_aload_n hx hb dX8_readsPart_91 rfl (lv_at hl 5 rfl) ?_
              refine lv_bipush (v := (nI 44)) hx hb dX8_readsPart_92 (by decide) ?_
              refine q_V18 S hI hK h [.int (nI 44)] (c_X8_takes l L (mu (wd8 σ (dgAt t s9).toNatClampNeg (vs.length + 1)) 0 3 (nI ((rv t 4 (nI 0) 0 (e1 + 1)).2.2))) (TX_wd hT) mu_s (by omega) (nI 44)) q_858 q_860 qs_42 q_10 q_861 yd_X8_takes rfl ⟨⟨rfl, rfl⟩, ⟨(Nat.le_of_ble_eq_true rfl), (Nat.le_of_ble_eq_true rfl)⟩, Nat.le_refl _, Nat.le_refl _⟩ rfl (Nat.le_of_ble_eq_true rfl) hl.1 dX8_readsPart_94 (fun H locs h => ?_)
              refine z_eq (tgt := 104) hx hb dX8_readsPart_97 (by decide) (fun c_97 => ?_) (fun c_97 => ?_)
              · have h := h.to (show mu (mu (wd8 σ (dgAt t s9).toNatClampNeg (vs.length + 1)) 0 3 (nI ((rv t 4 (nI 0) 0 (e1 + 1)).2.2))) 0 3 (nI (if ch8 t ((rv t 4 (nI 0) 0 (e1 + 1)).2.2) = (nI 44) then ((rv t 4 (nI 0) 0 (e1 + 1)).2.2) + 1 else ((rv t 4 (nI 0) 0 (e1 + 1)).2.2))) = mu (wd8 σ (dgAt t s9).toNatClampNeg (vs ++ [(rv t 4 (nI 0) 0 (e1 + 1)).1]).length) 0 3 (nI ((rv t 4 (nI 0) 0 (e1 + 1)).2.2 + 0)) from (by rw [mu_mu, if_neg c_97, List.length_append, List.length_singleton]; first | done | rfl))
                have k0 : (1 : Nat) = 0 → rF t s9 = (false, dgAt t s9, vs ++ [(rv t 4 (nI 0) 0 (e1 + 1)).1], (rv t 4 (nI 0) 0 (e1 + 1)).2.2) := fun z => absurd z (by decide)
                have k1 : (1 : Nat) = 1 → (0 : Nat) = 0 → rF t s9 = rF2 t s9 (true, vs ++ [(rv t 4 (nI 0) 0 (e1 + 1)).1], (rv t 4 (nI 0) 0 (e1 + 1)).2.2) ∧ 0 < (vs ++ [(rv t 4 (nI 0) 0 (e1 + 1)).1]).length := fun _ _ => ⟨by rw [h2 rfl, rL_go z9, decide_eq_false (fun z => c_97 ((ch8_is (by omega) (by omega)).mpr z)), rL_no], by rw [List.length_append, List.length_singleton]; omega⟩
                have k2 : (0 : Nat) = 1 → rF t s9 = rF2 t s9 (rL t n1 true (vs ++ [(rv t 4 (nI 0) 0 (e1 + 1)).1]) (rv t 4 (nI 0) 0 (e1 + 1)).2.2) := fun z => absurd z (by decide)
                have k9 : (0 : Nat) = 1 → ¬ dgAt t s9 < 0 ∧ (rv t 4 (nI 0) 0 (e1 + 1)).2.2 < 60 := fun z => absurd z (by decide)
                refine lv_iconst (v := (nI 0)) hx hb dX8_readsPart_104 (by decide) ?_
                refine lv_istore (lv' := [(4, .int (nI 0)), (3, .int (nI 1)), (5, .int (nv8 (rv t 4 (nI 0) 0 (e1 + 1)).1 (rv t 4 (nI 0) 0 (e1 + 1)).2.1)), (2, .int (dgAt t s9)), (1, .int (nI 0)), (0, .ref (ad L 0))]) hx hb dX8_readsPart_105 hl (by decide) rfl (fun ls hl => ?_)
                refine lv_goto (tgt := 28) hx hb dX8_readsPart_107 (by decide) ?_
                exact ih_28 1 0 n1 (vs ++ [(rv t 4 (nI 0) 0 (e1 + 1)).1]) ((rv t 4 (nI 0) 0 (e1 + 1)).2.2) (mu (wd8 σ (dgAt t s9).toNatClampNeg (vs ++ [(rv t 4 (nI 0) 0 (e1 + 1)).1]).length) 0 3 (nI ((rv t 4 (nI 0) 0 (e1 + 1)).2.2 + 0))) k0 k1 k2 k9 (by decide) (by decide) (by omega) (by omega) rfl (by omega) _ _ _ h (lv_sub hl [0, 1, 3, 4, 5] rfl)
              · have h := h.to (show mu (mu (wd8 σ (dgAt t s9).toNatClampNeg (vs.length + 1)) 0 3 (nI ((rv t 4 (nI 0) 0 (e1 + 1)).2.2))) 0 3 (nI (if ch8 t ((rv t 4 (nI 0) 0 (e1 + 1)).2.2) = (nI 44) then ((rv t 4 (nI 0) 0 (e1 + 1)).2.2) + 1 else ((rv t 4 (nI 0) 0 (e1 + 1)).2.2))) = mu (wd8 σ (dgAt t s9).toNatClampNeg (vs ++ [(rv t 4 (nI 0) 0 (e1 + 1)).1]).length) 0 3 (nI ((rv t 4 (nI 0) 0 (e1 + 1)).2.2 + 1)) from (by rw [mu_mu, if_pos c_97, List.length_append, List.length_singleton]))
                have k0 : (1 : Nat) = 0 → rF t s9 = (false, dgAt t s9, vs ++ [(rv t 4 (nI 0) 0 (e1 + 1)).1], (rv t 4 (nI 0) 0 (e1 + 1)).2.2) := fun z => absurd z (by decide)
                have k1 : (1 : Nat) = 1 → (1 : Nat) = 0 → rF t s9 = rF2 t s9 (true, vs ++ [(rv t 4 (nI 0) 0 (e1 + 1)).1], (rv t 4 (nI 0) 0 (e1 + 1)).2.2) ∧ 0 < (vs ++ [(rv t 4 (nI 0) 0 (e1 + 1)).1]).length := fun _ z => absurd z (by decide)
                have k2 : (1 : Nat) = 1 → rF t s9 = rF2 t s9 (rL t n1 true (vs ++ [(rv t 4 (nI 0) 0 (e1 + 1)).1]) (rv t 4 (nI 0) 0 (e1 + 1)).2.2) := fun _ => by rw [h2 rfl, rL_go z9, decide_eq_true ((ch8_is (by omega) (by omega)).mp c_97)]
                have k9 : (1 : Nat) = 1 → ¬ dgAt t s9 < 0 ∧ (rv t 4 (nI 0) 0 (e1 + 1)).2.2 < 60 := fun _ => ⟨g1, by have q9 := ch8_lt (by omega) c_97; have := hT.2.1; omega⟩
                refine lv_iconst (v := (nI 1)) hx hb dX8_readsPart_100 (by decide) ?_
                refine lv_goto (tgt := 105) hx hb dX8_readsPart_101 (by decide) ?_
                refine lv_istore (lv' := [(4, .int (nI 1)), (3, .int (nI 1)), (5, .int (nv8 (rv t 4 (nI 0) 0 (e1 + 1)).1 (rv t 4 (nI 0) 0 (e1 + 1)).2.1)), (2, .int (dgAt t s9)), (1, .int (nI 0)), (0, .ref (ad L 0))]) hx hb dX8_readsPart_105 hl (by decide) rfl (fun ls hl => ?_)
                refine lv_goto (tgt := 28) hx hb dX8_readsPart_107 (by decide) ?_
                exact ih_28 1 1 n1 (vs ++ [(rv t 4 (nI 0) 0 (e1 + 1)).1]) ((rv t 4 (nI 0) 0 (e1 + 1)).2.2) (mu (wd8 σ (dgAt t s9).toNatClampNeg (vs ++ [(rv t 4 (nI 0) 0 (e1 + 1)).1]).length) 0 3 (nI ((rv t 4 (nI 0) 0 (e1 + 1)).2.2 + 1))) k0 k1 k2 k9 (by decide) (by decide) (by omega) (by omega) rfl (by omega) _ _ _ h (lv_sub hl [0, 1, 3, 4, 5] rfl)
    exact LP_28 _ 0 0 60 ([]) s9 (mu (wd8 σ (dgAt t s9).toNatClampNeg 0) 0 3 (nI (s9 + 0))) i0 (fun z z2 => by first | exact absurd z (by decide) | exact absurd z2 (by decide)) i2 i9 (by decide) (by decide) i4 (by omega) rfl (Nat.lt_succ_self _) _ _ _ h (lv_sub hl [0, 1, 2, 4, 3] rfl)
  · have h := h.to (show mu σ 0 3 (nI (rv t 1 (nI 0) 0 s9).2.2) = mu (wd8 σ (dgAt t s9).toNatClampNeg 0) 0 3 (nI (s9 + 1)) from (by rw [d2, if_neg c_7, wd8_0]))
    refine lv_aload_n hx hb dX8_readsPart_10 rfl (lv_at hl 1 rfl) ?_
    refine lv_bipush (v := (nI 58)) hx hb dX8_readsPart_11 (by decide) ?_
    refine q_V18 S hI hK h [.int (nI 58)] (c_X8_takes l L (mu (wd8 σ (dgAt t s9).toNatClampNeg 0) 0 3 (nI (s9 + 1))) (TX_wd hT) mu_s (by omega) (nI 58)) q_858 q_860 qs_42 q_10 q_861 yd_X8_takes rfl ⟨⟨rfl, rfl⟩, ⟨(Nat.le_of_ble_eq_true rfl), (Nat.le_of_ble_eq_true rfl)⟩, Nat.le_refl _, Nat.le_refl _⟩ rfl (Nat.le_of_ble_eq_true rfl) hl.1 dX8_readsPart_13 (fun H locs h => ?_)
    refine z_eq (tgt := 23) hx hb dX8_readsPart_16 (by decide) (fun c_16 => ?_) (fun c_16 => ?_)
    · have h := h.to (show mu (mu (wd8 σ (dgAt t s9).toNatClampNeg 0) 0 3 (nI (s9 + 1))) 0 3 (nI (if ch8 t (s9 + 1) = (nI 58) then (s9 + 1) + 1 else (s9 + 1))) = mu (wd8 σ (dgAt t s9).toNatClampNeg 0) 0 3 (nI (s9 + 1 + 0)) from (by rw [mu_mu, if_neg c_16]))
      have i0 : (0 : Nat) = 0 → rF t s9 = (false, dgAt t s9, [], s9 + 1) := fun _ => by rw [rF_y c_7, decide_eq_false (fun z => c_16 ((ch8_is (by omega) (by omega)).mpr z)), rL_no, rF2_no (Or.inl rfl)]
      have i2 : (0 : Nat) = 1 → rF t s9 = rF2 t s9 (rL t 60 true [] (s9 + 1)) := fun z => absurd z (by decide)
      have i9 : (0 : Nat) = 1 → ¬ dgAt t s9 < 0 ∧ s9 + 1 < 60 := fun z => absurd z (by decide)
      have i4 : s9 + 1 + 60 + 1 ≥ 61 := by omega
      refine lv_iconst (v := (nI 0)) hx hb dX8_readsPart_23 (by decide) ?_
      refine lv_istore_n (lv' := [(3, .int (nI 0)), (2, .int (dgAt t s9)), (0, .ref (ad L 0)), (1, .int (nI 0))]) hx hb dX8_readsPart_24 rfl hl (by decide) rfl (fun ls hl => ?_)
      refine lv_iload_n hx hb dX8_readsPart_25 rfl (lv_at hl 0 rfl) ?_
      refine lv_istore (lv' := [(4, .int (nI 0)), (3, .int (nI 0)), (2, .int (dgAt t s9)), (0, .ref (ad L 0)), (1, .int (nI 0))]) hx hb dX8_readsPart_26 hl (by decide) rfl (fun ls hl => ?_)
      have LP_28 : ∀ (n_28 : Nat) (ib : Nat) (mb : Nat) (n : Nat) (vs : List Int32) (e1 : Nat) (σ1 : Me), (ib = 0 → rF t s9 = (false, dgAt t s9, vs, e1)) → (ib = 1 → mb = 0 → rF t s9 = rF2 t s9 (true, vs, e1) ∧ 0 < vs.length) → (mb = 1 → rF t s9 = rF2 t s9 (rL t n true vs e1)) → (mb = 1 → ¬ dgAt t s9 < 0 ∧ e1 < 60) → (ib ≤ 1) → (mb ≤ ib) → (e1 + n + 1 ≥ 61) → (e1 ≤ 65) → (σ1 = mu (wd8 σ (dgAt t s9).toNatClampNeg vs.length) 0 3 (nI (e1 + mb))) → n + mb < n_28 → ∀ (H : Heap) (locs : List Loc) (ls : Array Slot), Hd8 L s.heap H σ1 locs → lv_has ls 6 [(4, .int (nI mb)), (3, .int (nI ib)), (2, .int (dgAt t s9)), (1, .int (nI 0)), (0, .ref (ad L 0))] → W p l e rX8_readsPart s m args below meth c H locs 0 0 (MQ below (Qg post (bs8 L) (Aw8 L)) args s 0 0 (Aw8 L)) (F0 m 28 ls []) := by
        intro n_28
        induction n_28 with
        | zero => intro ib mb n vs e1 σ1; intros; omega
        | succ n_28 ih_28 =>
          intro ib mb n vs e1 σ1 h0 h1 h2 h9 hi hm h4 h5 hσ hm_28 H locs ls h hl
          have hT1 : TX σ1 t := by rw [hσ]; exact TX_wd hT
          have a1 : σ1 0 3 = nI (e1 + mb) := by rw [hσ, mu_s]
          refine lv_iload hx hb dX8_readsPart_28 (lv_at hl 0 rfl) ?_
          refine b_if_eq (tgt := 110) hx hb dX8_readsPart_30 (by decide) (by omega) (fun c_30 => ?_) (fun c_30 => ?_)
          · refine lv_iload_n hx hb dX8_readsPart_110 rfl (lv_at hl 1 rfl) ?_
            refine b_if_eq (tgt := 127) hx hb dX8_readsPart_111 (by decide) (by omega) (fun c_111 => ?_) (fun c_111 => ?_)
            · have hf9 := h0 c_111
              have hs9 : σ1 = mu (wd8 σ (dgAt t s9).toNatClampNeg vs.length) 0 3 (nI (e1)) := by rw [hσ, c_30]; rfl
              refine lv_iconst (v := (-1)) hx hb dX8_readsPart_127 (by decide) ?_
              exact e_i8 S hK h hr hlk dX8_readsPart_128 (fin_p8 hp (by rw [hf9]; first | done | rfl) (by rw [hf9]; first | done | exact hs9))
            · obtain ⟨f1, f2⟩ := h1 (by omega) c_30
              refine lv_aload_n hx hb dX8_readsPart_114 rfl (lv_at hl 4 rfl) ?_
              refine lv_bipush (v := (nI 59)) hx hb dX8_readsPart_115 (by decide) ?_
              refine q_V18 S hI hK h [.int (nI 59)] (c_X8_takes l L σ1 (e9 := e1) hT1 (by subst c_30; exact a1) (by omega) (nI 59)) q_858 q_860 qs_42 q_10 q_861 yd_X8_takes rfl ⟨⟨rfl, rfl⟩, ⟨(Nat.le_of_ble_eq_true rfl), (Nat.le_of_ble_eq_true rfl)⟩, Nat.le_refl _, Nat.le_refl _⟩ rfl (Nat.le_of_ble_eq_true rfl) hl.1 dX8_readsPart_117 (fun H locs h => ?_)
              refine z_eq (tgt := 127) hx hb dX8_readsPart_120 (by decide) (fun c_120 => ?_) (fun c_120 => ?_)
              · have h := h.to (show mu σ1 0 3 (nI (if ch8 t e1 = (nI 59) then e1 + 1 else e1)) = mu (wd8 σ (dgAt t s9).toNatClampNeg vs.length) 0 3 (nI (e1)) from (by rw [hσ, mu_mu, if_neg c_120]))
                have hf9 : rF t s9 = (false, dgAt t s9, vs, e1) := by rw [f1, rF2_no (Or.inr (fun z => c_120 ((ch8_is (by omega) (by omega)).mpr z)))]
                have hs9 : mu (wd8 σ (dgAt t s9).toNatClampNeg vs.length) 0 3 (nI (e1)) = mu (wd8 σ (dgAt t s9).toNatClampNeg vs.length) 0 3 (nI (e1)) := rfl
                refine lv_iconst (v := (-1)) hx hb dX8_readsPart_127 (by decide) ?_
                exact e_i8 S hK h hr hlk dX8_readsPart_128 (fin_p8 hp (by rw [hf9]; first | done | rfl) (by rw [hf9]; first | done | exact hs9))
              · have h := h.to (show mu σ1 0 3 (nI (if ch8 t e1 = (nI 59) then e1 + 1 else e1)) = mu (wd8 σ (dgAt t s9).toNatClampNeg vs.length) 0 3 (nI (e1 + 1)) from (by rw [hσ, mu_mu, if_pos c_120]))
                have hf9 : rF t s9 = (true, dgAt t s9, vs, e1 + 1) := by rw [f1, rF2_yes f2 ((ch8_is (by omega) (by omega)).mp c_120)]
                have hs9 : mu (wd8 σ (dgAt t s9).toNatClampNeg vs.length) 0 3 (nI (e1 + 1)) = mu (wd8 σ (dgAt t s9).toNatClampNeg vs.length) 0 3 (nI (e1 + 1)) := rfl
                refine lv_iload_n hx hb dX8_readsPart_123 rfl (lv_at hl 2 rfl) ?_
                refine lv_goto (tgt := 128) hx hb dX8_readsPart_124 (by decide) ?_
                exact e_i8 S hK h hr hlk dX8_readsPart_128 (fin_p8 hp (by rw [hf9]; first | done | rfl) (by rw [hf9]; first | done | exact hs9))
          · obtain rfl : mb = 1 := by omega
            obtain rfl : ib = 1 := by omega
            obtain ⟨g1, g2⟩ := h9 rfl
            obtain ⟨i, hi0, hid⟩ := dgAt_n g1
            have hcl : (dgAt t s9).toNatClampNeg = i := by rw [hid, nI_clamp (by omega)]
            obtain ⟨n1, rfl⟩ : ∃ n1, n = n1 + 1 := ⟨n - 1, by omega⟩
            obtain ⟨v0, v1⟩ := rv_4 (t := t) (e := e1 + 1)
            obtain ⟨r1, r2⟩ := rv_le (t := t) (e := e1 + 1)
            refine lv_aload_n hx hb dX8_readsPart_33 rfl (lv_at hl 4 rfl) ?_
            refine lv_iconst (v := (nI 4)) hx hb dX8_readsPart_34 (by decide) ?_
            refine q_V18 S hI hK h [.int (nI 4)] (c_X8_takeNumber l L σ1 (d9 := 4) hT1 a1 (by omega) (by omega)) q_850 q_852 qs_40 q_10 q_853 yd_X8_takeNumber rfl ⟨⟨rfl, rfl⟩, ⟨(Nat.le_of_ble_eq_true rfl), (Nat.le_of_ble_eq_true rfl)⟩, Nat.le_refl _, Nat.le_refl _⟩ rfl (Nat.le_of_ble_eq_true rfl) hl.1 dX8_readsPart_35 (fun H locs h => ?_)
            have h := h.to (show mu σ1 0 3 (nI (rv t 4 (nI 0) 0 (e1 + 1)).2.2) = mu (wd8 σ (dgAt t s9).toNatClampNeg vs.length) 0 3 (nI ((rv t 4 (nI 0) 0 (e1 + 1)).2.2)) from (by rw [hσ, mu_mu]))
            refine lv_istore (lv' := [(5, .int (nv8 (rv t 4 (nI 0) 0 (e1 + 1)).1 (rv t 4 (nI 0) 0 (e1 + 1)).2.1)), (4, .int (nI 1)), (3, .int (nI 1)), (2, .int (dgAt t s9)), (1, .int (nI 0)), (0, .ref (ad L 0))]) hx hb dX8_readsPart_38 hl (by decide) rfl (fun ls hl => ?_)
            refine lv_iload hx hb dX8_readsPart_40 (lv_at hl 0 rfl) ?_
            refine lv_if_lt (tgt := 49) hx hb dX8_readsPart_42 (by decide) (fun c_42 => ?_) (fun c_42 => ?_)
            · have z9 : (rv t 4 (nI 0) 0 (e1 + 1)).2.1 = 0 := by rcases Nat.eq_zero_or_pos (rv t 4 (nI 0) 0 (e1 + 1)).2.1 with z | z; exact z; exact absurd c_42 (by rw [(v1 (by omega)).1]; obtain ⟨q9, z1, z2⟩ := (v1 (by omega)).2.1; rw [z2]; exact nI_pos (by omega))
              have h := h.to (show mu (wd8 σ (dgAt t s9).toNatClampNeg vs.length) 0 3 (nI ((rv t 4 (nI 0) 0 (e1 + 1)).2.2)) = mu (wd8 σ (dgAt t s9).toNatClampNeg vs.length) 0 3 (nI ((rv t 4 (nI 0) 0 (e1 + 1)).2.2 + 0)) from rfl)
              have k0 : (0 : Nat) = 0 → rF t s9 = (false, dgAt t s9, vs, (rv t 4 (nI 0) 0 (e1 + 1)).2.2) := fun _ => by rw [h2 rfl, rL_bad z9, rF2_f]
              have k1 : (0 : Nat) = 1 → (0 : Nat) = 0 → rF t s9 = rF2 t s9 (true, vs, (rv t 4 (nI 0) 0 (e1 + 1)).2.2) ∧ 0 < vs.length := fun z => absurd z (by decide)
              have k2 : (0 : Nat) = 1 → rF t s9 = rF2 t s9 (rL t n1 true vs (rv t 4 (nI 0) 0 (e1 + 1)).2.2) := fun z => absurd z (by decide)
              have k9 : (0 : Nat) = 1 → ¬ dgAt t s9 < 0 ∧ (rv t 4 (nI 0) 0 (e1 + 1)).2.2 < 60 := fun z => absurd z (by decide)
              refine lv_iconst (v := (nI 0)) hx hb dX8_readsPart_49 (by decide) ?_
              refine lv_istore_n (lv' := [(3, .int (nI 0)), (5, .int (nv8 (rv t 4 (nI 0) 0 (e1 + 1)).1 (rv t 4 (nI 0) 0 (e1 + 1)).2.1)), (4, .int (nI 1)), (2, .int (dgAt t s9)), (1, .int (nI 0)), (0, .ref (ad L 0))]) hx hb dX8_readsPart_50 rfl hl (by decide) rfl (fun ls hl => ?_)
              refine lv_iload_n hx hb dX8_readsPart_51 rfl (lv_at hl 0 rfl) ?_
              refine b_if_eq (tgt := 72) hx hb dX8_readsPart_52 (by decide) (by decide) (fun _ => ?_) (fun c9 => absurd c9 (by decide))
              refine lv_iload_n hx hb dX8_readsPart_72 rfl (lv_at hl 0 rfl) ?_
              refine b_if_eq (tgt := 87) hx hb dX8_readsPart_73 (by decide) (by decide) (fun _ => ?_) (fun c9 => absurd c9 (by decide))
              refine lv_iload_n hx hb dX8_readsPart_87 rfl (lv_at hl 0 rfl) ?_
              refine b_if_eq (tgt := 104) hx hb dX8_readsPart_88 (by decide) (by decide) (fun _ => ?_) (fun c9 => absurd c9 (by decide))
              refine lv_iconst (v := (nI 0)) hx hb dX8_readsPart_104 (by decide) ?_
              refine lv_istore (lv' := [(4, .int (nI 0)), (3, .int (nI 0)), (5, .int (nv8 (rv t 4 (nI 0) 0 (e1 + 1)).1 (rv t 4 (nI 0) 0 (e1 + 1)).2.1)), (2, .int (dgAt t s9)), (1, .int (nI 0)), (0, .ref (ad L 0))]) hx hb dX8_readsPart_105 hl (by decide) rfl (fun ls hl => ?_)
              refine lv_goto (tgt := 28) hx hb dX8_readsPart_107 (by decide) ?_
              exact ih_28 0 0 n1 vs ((rv t 4 (nI 0) 0 (e1 + 1)).2.2) (mu (wd8 σ (dgAt t s9).toNatClampNeg vs.length) 0 3 (nI ((rv t 4 (nI 0) 0 (e1 + 1)).2.2 + 0))) k0 k1 k2 k9 (by decide) (by decide) (by omega) (by omega) rfl (by omega) _ _ _ h (lv_sub hl [0, 1, 3, 4, 5] rfl)
            · have z9 : (rv t 4 (nI 0) 0 (e1 + 1)).2.1 ≠ 0 := fun z => c_42 (v0 z)
              obtain ⟨v2, v3, v4⟩ := v1 z9
              refine lv_iconst (v := (nI 1)) hx hb dX8_readsPart_45 (by decide) ?_
              refine lv_goto (tgt := 50) hx hb dX8_readsPart_46 (by decide) ?_
              refine lv_istore_n (lv' := [(3, .int (nI 1)), (5, .int (nv8 (rv t 4 (nI 0) 0 (e1 + 1)).1 (rv t 4 (nI 0) 0 (e1 + 1)).2.1)), (4, .int (nI 1)), (2, .int (dgAt t s9)), (1, .int (nI 0)), (0, .ref (ad L 0))]) hx hb dX8_readsPart_50 rfl hl (by decide) rfl (fun ls hl => ?_)
              refine lv_iload_n hx hb dX8_readsPart_51 rfl (lv_at hl 0 rfl) ?_
              refine b_if_eq (tgt := 72) hx hb dX8_readsPart_52 (by decide) (by decide) (fun c9 => absurd c9 (by decide)) (fun _ => ?_)
              refine lv_iload_n hx hb dX8_readsPart_55 rfl (lv_at hl 3 rfl) ?_
              refine q_S18 S hI hK h [.int (dgAt t s9)] (c_X8_isDigest l L (mu (wd8 σ (dgAt t s9).toNatClampNeg vs.length) 0 3 (nI ((rv t 4 (nI 0) 0 (e1 + 1)).2.2))) (dgAt t s9)) q_646 q_647 q_10 q_648 yd_X8_isDigest rfl ⟨⟨rfl, rfl⟩, ⟨(Nat.le_of_ble_eq_true rfl), (Nat.le_of_ble_eq_true rfl)⟩, Nat.le_refl _, Nat.le_refl _⟩ rfl (Nat.le_of_ble_eq_true rfl) hl.1 dX8_readsPart_56 (fun H locs h => ?_)
              refine z_eq (tgt := 72) hx hb dX8_readsPart_59 (by decide) (fun c_59 => ?_) (fun c_59 => ?_)
              · have h3 : ¬ i < 3 := fun z => c_59 (by rw [hid]; exact ⟨(nI_leI (by omega) (by omega)).mpr (by omega), (nI_leI (by omega) (by omega)).mpr (by omega)⟩)
                have h := h.to (show mu (wd8 σ (dgAt t s9).toNatClampNeg vs.length) 0 3 (nI ((rv t 4 (nI 0) 0 (e1 + 1)).2.2)) = mu (wd8 σ (dgAt t s9).toNatClampNeg (vs.length + 1)) 0 3 (nI ((rv t 4 (nI 0) 0 (e1 + 1)).2.2)) from (by rw [hcl, wd8_n h3, wd8_n h3]))
                have hl : lv_has ls 6 [(3, .int (nI 1)), (5, .int (nv8 (rv t 4 (nI 0) 0 (e1 + 1)).1 (rv t 4 (nI 0) 0 (e1 + 1)).2.1)), (4, .int (nI 1)), (2, .int (dgAt t s9)), (1, .int (nI 0)), (0, .ref (ad L 0))] := by rw [show (.int (dgAt t s9) : Value) = .int (dgAt t s9) from (by rw [hid])] at hl; exact hl
                have h := h.to (show mu (wd8 σ (dgAt t s9).toNatClampNeg (vs.length + 1)) 0 3 (nI ((rv t 4 (nI 0) 0 (e1 + 1)).2.2)) = mu (wd8 σ (dgAt t s9).toNatClampNeg (vs.length + 1)) 0 3 (nI ((rv t 4 (nI 0) 0 (e1 + 1)).2.2)) from (by first | rfl | (rw [hcl]; exact wd8_1 h3)))
                refine lv_iload_n hx hb dX8_readsPart_72 rfl (lv_at hl 0 rfl) ?_
                refine b_if_eq (tgt := 87) hx hb dX8_readsPart_73 (by decide) (by decide) (fun c9 => absurd c9 (by decide)) (fun _ => ?_)
                refine lv_iload_n hx hb dX8_readsPart_76 rfl (lv_at hl 4 rfl) ?_
                refine b_if_eq (tgt := 87) hx hb dX8_readsPart_77 (by decide) (by decide) (fun _ => ?_) (fun c9 => absurd c9 (by decide))
                refine lv_iload_n hx hb dX8_readsPart_87 rfl (lv_at hl 0 rfl) ?_
                refine b_if_eq (tgt := 104) hx hb dX8_readsPart_88 (by decide) (by decide) (fun c9 => absurd c9 (by decide)) (fun _ => ?_)
                refine lv_aload_n hx hb dX8_readsPart_91 rfl (lv_at hl 5 rfl) ?_
                refine lv_bipush (v := (nI 44)) hx hb dX8_readsPart_92 (by decide) ?_
                refine q_V18 S hI hK h [.int (nI 44)] (c_X8_takes l L (mu (wd8 σ (dgAt t s9).toNatClampNeg (vs.length + 1)) 0 3 (nI ((rv t 4 (nI 0) 0 (e1 + 1)).2.2))) (TX_wd hT) mu_s (by omega) (nI 44)) q_858 q_860 qs_42 q_10 q_861 yd_X8_takes rfl ⟨⟨rfl, rfl⟩, ⟨(Nat.le_of_ble_eq_true rfl), (Nat.le_of_ble_eq_true rfl)⟩, Nat.le_refl _, Nat.le_refl _⟩ rfl (Nat.le_of_ble_eq_true rfl) hl.1 dX8_readsPart_94 (fun H locs h => ?_)
                refine z_eq (tgt := 104) hx hb dX8_readsPart_97 (by decide) (fun c_97 => ?_) (fun c_97 => ?_)
                · have h := h.to (show mu (mu (wd8 σ (dgAt t s9).toNatClampNeg (vs.length + 1)) 0 3 (nI ((rv t 4 (nI 0) 0 (e1 + 1)).2.2))) 0 3 (nI (if ch8 t ((rv t 4 (nI 0) 0 (e1 + 1)).2.2) = (nI 44) then ((rv t 4 (nI 0) 0 (e1 + 1)).2.2) + 1 else ((rv t 4 (nI 0) 0 (e1 + 1)).2.2))) = mu (wd8 σ (dgAt t s9).toNatClampNeg (vs ++ [(rv t 4 (nI 0) 0 (e1 + 1)).1]).length) 0 3 (nI ((rv t 4 (nI 0) 0 (e1 + 1)).2.2 + 0)) from (by rw [mu_mu, if_neg c_97, List.length_append, List.length_singleton]; first | done | rfl))
                  have k0 : (1 : Nat) = 0 → rF t s9 = (false, dgAt t s9, vs ++ [(rv t 4 (nI 0) 0 (e1 + 1)).1], (rv t 4 (nI 0) 0 (e1 + 1)).2.2) := fun z => absurd z (by decide)
                  have k1 : (1 : Nat) = 1 → (0 : Nat) = 0 → rF t s9 = rF2 t s9 (true, vs ++ [(rv t 4 (nI 0) 0 (e1 + 1)).1], (rv t 4 (nI 0) 0 (e1 + 1)).2.2) ∧ 0 < (vs ++ [(rv t 4 (nI 0) 0 (e1 + 1)).1]).length := fun _ _ => ⟨by rw [h2 rfl, rL_go z9, decide_eq_false (fun z => c_97 ((ch8_is (by omega) (by omega)).mpr z)), rL_no], by rw [List.length_append, List.length_singleton]; omega⟩
                  have k2 : (0 : Nat) = 1 → rF t s9 = rF2 t s9 (rL t n1 true (vs ++ [(rv t 4 (nI 0) 0 (e1 + 1)).1]) (rv t 4 (nI 0) 0 (e1 + 1)).2.2) := fun z => absurd z (by decide)
                  have k9 : (0 : Nat) = 1 → ¬ dgAt t s9 < 0 ∧ (rv t 4 (nI 0) 0 (e1 + 1)).2.2 < 60 := fun z => absurd z (by decide)
                  refine lv_iconst (v := (nI 0)) hx hb dX8_readsPart_104 (by decide) ?_
                  refine lv_istore (lv' := [(4, .int (nI 0)), (3, .int (nI 1)), (5, .int (nv8 (rv t 4 (nI 0) 0 (e1 + 1)).1 (rv t 4 (nI 0) 0 (e1 + 1)).2.1)), (2, .int (dgAt t s9)), (1, .int (nI 0)), (0, .ref (ad L 0))]) hx hb dX8_readsPart_105 hl (by decide) rfl (fun ls hl => ?_)
                  refine lv_goto (tgt := 28) hx hb dX8_readsPart_107 (by decide) ?_
                  exact ih_28 1 0 n1 (vs ++ [(rv t 4 (nI 0) 0 (e1 + 1)).1]) ((rv t 4 (nI 0) 0 (e1 + 1)).2.2) (mu (wd8 σ (dgAt t s9).toNatClampNeg (vs ++ [(rv t 4 (nI 0) 0 (e1 + 1)).1]).length) 0 3 (nI ((rv t 4 (nI 0) 0 (e1 + 1)).2.2 + 0))) k0 k1 k2 k9 (by decide) (by decide) (by omega) (by omega) rfl (by omega) _ _ _ h (lv_sub hl [0, 1, 3, 4, 5] rfl)
                · have h := h.to (show mu (mu (wd8 σ (dgAt t s9).toNatClampNeg (vs.length + 1)) 0 3 (nI ((rv t 4 (nI 0) 0 (e1 + 1)).2.2))) 0 3 (nI (if ch8 t ((rv t 4 (nI 0) 0 (e1 + 1)).2.2) = (nI 44) then ((rv t 4 (nI 0) 0 (e1 + 1)).2.2) + 1 else ((rv t 4 (nI 0) 0 (e1 + 1)).2.2))) = mu (wd8 σ (dgAt t s9).toNatClampNeg (vs ++ [(rv t 4 (nI 0) 0 (e1 + 1)).1]).length) 0 3 (nI ((rv t 4 (nI 0) 0 (e1 + 1)).2.2 + 1)) from (by rw [mu_mu, if_pos c_97, List.length_append, List.length_singleton]))
                  have k0 : (1 : Nat) = 0 → rF t s9 = (false, dgAt t s9, vs ++ [(rv t 4 (nI 0) 0 (e1 + 1)).1], (rv t 4 (nI 0) 0 (e1 + 1)).2.2) := fun z => absurd z (by decide)
                  have k1 : (1 : Nat) = 1 → (1 : Nat) = 0 → rF t s9 = rF2 t s9 (true, vs ++ [(rv t 4 (nI 0) 0 (e1 + 1)).1], (rv t 4 (nI 0) 0 (e1 + 1)).2.2) ∧ 0 < (vs ++ [(rv t 4 (nI 0) 0 (e1 + 1)).1]).length := fun _ z => absurd z (by decide)
                  have k2 : (1 : Nat) = 1 → rF t s9 = rF2 t s9 (rL t n1 true (vs ++ [(rv t 4 (nI 0) 0 (e1 + 1)).1]) (rv t 4 (nI 0) 0 (e1 + 1)).2.2) := fun _ => by rw [h2 rfl, rL_go z9, decide_eq_true ((ch8_is (by omega) (by omega)).mp c_97)]
                  have k9 : (1 : Nat) = 1 → ¬ dgAt t s9 < 0 ∧ (rv t 4 (nI 0) 0 (e1 + 1)).2.2 < 60 := fun _ => ⟨g1, by have q9 := ch8_lt (by omega) c_97; have := hT.2.1; omega⟩
                  refine lv_iconst (v := (nI 1)) hx hb dX8_readsPart_100 (by decide) ?_
                  refine lv_goto (tgt := 105) hx hb dX8_readsPart_101 (by decide) ?_
                  refine lv_istore (lv' := [(4, .int (nI 1)), (3, .int (nI 1)), (5, .int (nv8 (rv t 4 (nI 0) 0 (e1 + 1)).1 (rv t 4 (nI 0) 0 (e1 + 1)).2.1)), (2, .int (dgAt t s9)), (1, .int (nI 0)), (0, .ref (ad L 0))]) hx hb dX8_readsPart_105 hl (by decide) rfl (fun ls hl => ?_)
                  refine lv_goto (tgt := 28) hx hb dX8_readsPart_107 (by decide) ?_
                  exact ih_28 1 1 n1 (vs ++ [(rv t 4 (nI 0) 0 (e1 + 1)).1]) ((rv t 4 (nI 0) 0 (e1 + 1)).2.2) (mu (wd8 σ (dgAt t s9).toNatClampNeg (vs ++ [(rv t 4 (nI 0) 0 (e1 + 1)).1]).length) 0 3 (nI ((rv t 4 (nI 0) 0 (e1 + 1)).2.2 + 1))) k0 k1 k2 k9 (by decide) (by decide) (by omega) (by omega) rfl (by omega) _ _ _ h (lv_sub hl [0, 1, 3, 4, 5] rfl)
              · have h3 : i < 3 := by have q9 := c_59.2; rw [hid] at q9; have := (nI_leI (by omega) (by omega)).mp q9; omega
                refine lv_aload_n hx hb dX8_readsPart_62 rfl (lv_at hl 5 rfl) ?_
                refine g8 (v := (.ref (ad L 9))) S hK h 14 (by decide) rfl rfl q_610 dX8_readsPart_63 ?_
                have hl : lv_has ls 6 [(3, .int (nI 1)), (5, .int (nv8 (rv t 4 (nI 0) 0 (e1 + 1)).1 (rv t 4 (nI 0) 0 (e1 + 1)).2.1)), (4, .int (nI 1)), (2, .int (nI i)), (1, .int (nI 0)), (0, .ref (ad L 0))] := by rw [show (.int (dgAt t s9) : Value) = .int (nI i) from (by rw [hid])] at hl; exact hl
                refine lv_iload_n hx hb dX8_readsPart_66 rfl (lv_at hl 3 rfl) ?_
                refine lv_dup2_11 hx hb dX8_readsPart_67 rfl rfl ?_
                refine g8_el (n := 3) S hK h (by decide) rfl (by omega) dX8_readsPart_68 ?_
                refine lv_iconst (v := (nI 1)) hx hb dX8_readsPart_69 (by decide) ?_
                refine lv_iadd hx hb dX8_readsPart_70 ?_
                refine p8_el (n := 3) S hI hK h (by decide) rfl (by omega) dX8_readsPart_71 (fun H locs h => ?_)
                have hl : lv_has ls 6 [(3, .int (nI 1)), (5, .int (nv8 (rv t 4 (nI 0) 0 (e1 + 1)).1 (rv t 4 (nI 0) 0 (e1 + 1)).2.1)), (4, .int (nI 1)), (2, .int (dgAt t s9)), (1, .int (nI 0)), (0, .ref (ad L 0))] := by rw [show (.int (nI i) : Value) = .int (dgAt t s9) from (by rw [hid])] at hl; exact hl
                have h := h.to (show mu (mu (wd8 σ (dgAt t s9).toNatClampNeg vs.length) 0 3 (nI ((rv t 4 (nI 0) 0 (e1 + 1)).2.2))) 9 i (((mu (wd8 σ (dgAt t s9).toNatClampNeg vs.length) 0 3 (nI ((rv t 4 (nI 0) 0 (e1 + 1)).2.2))) 9 i) + (nI 1)) = mu (wd8 σ (dgAt t s9).toNatClampNeg (vs.length + 1)) 0 3 (nI ((rv t 4 (nI 0) 0 (e1 + 1)).2.2)) from (by first | rfl | (rw [hcl]; exact wd8_1 h3)))
                refine lv_iload_n hx hb dX8_readsPart_72 rfl (lv_at hl 0 rfl) ?_
                refine b_if_eq (tgt := 87) hx hb dX8_readsPart_73 (by decide) (by decide) (fun c9 => absurd c9 (by decide)) (fun _ => ?_)
                refine lv_iload_n hx hb dX8_readsPart_76 rfl (lv_at hl 4 rfl) ?_
                refine b_if_eq (tgt := 87) hx hb dX8_readsPart_77 (by decide) (by decide) (fun _ => ?_) (fun c9 => absurd c9 (by decide))
                refine lv_iload_n hx hb dX8_readsPart_87 rfl (lv_at hl 0 rfl) ?_
                refine b_if_eq (tgt := 104) hx hb dX8_readsPart_88 (by decide) (by decide) (fun c9 => absurd c9 (by decide)) (fun _ => ?_)
                refine lv_aload_n hx hb dX8_readsPart_91 rfl (lv_at hl 5 rfl) ?_
                refine lv_bipush (v := (nI 44)) hx hb dX8_readsPart_92 (by decide) ?_
                refine q_V18 S hI hK h [.int (nI 44)] (c_X8_takes l L (mu (wd8 σ (dgAt t s9).toNatClampNeg (vs.length + 1)) 0 3 (nI ((rv t 4 (nI 0) 0 (e1 + 1)).2.2))) (TX_wd hT) mu_s (by omega) (nI 44)) q_858 q_860 qs_42 q_10 q_861 yd_X8_takes rfl ⟨⟨rfl, rfl⟩, ⟨(Nat.le_of_ble_eq_true rfl), (Nat.le_of_ble_eq_true rfl)⟩, Nat.le_refl _, Nat.le_refl _⟩ rfl (Nat.le_of_ble_eq_true rfl) hl.1 dX8_readsPart_94 (fun H locs h => ?_)
                refine z_eq (tgt := 104) hx hb dX8_readsPart_97 (by decide) (fun c_97 => ?_) (fun c_97 => ?_)
                · have h := h.to (show mu (mu (wd8 σ (dgAt t s9).toNatClampNeg (vs.length + 1)) 0 3 (nI ((rv t 4 (nI 0) 0 (e1 + 1)).2.2))) 0 3 (nI (if ch8 t ((rv t 4 (nI 0) 0 (e1 + 1)).2.2) = (nI 44) then ((rv t 4 (nI 0) 0 (e1 + 1)).2.2) + 1 else ((rv t 4 (nI 0) 0 (e1 + 1)).2.2))) = mu (wd8 σ (dgAt t s9).toNatClampNeg (vs ++ [(rv t 4 (nI 0) 0 (e1 + 1)).1]).length) 0 3 (nI ((rv t 4 (nI 0) 0 (e1 + 1)).2.2 + 0)) from (by rw [mu_mu, if_neg c_97, List.length_append, List.length_singleton]; first | done | rfl))
                  have k0 : (1 : Nat) = 0 → rF t s9 = (false, dgAt t s9, vs ++ [(rv t 4 (nI 0) 0 (e1 + 1)).1], (rv t 4 (nI 0) 0 (e1 + 1)).2.2) := fun z => absurd z (by decide)
                  have k1 : (1 : Nat) = 1 → (0 : Nat) = 0 → rF t s9 = rF2 t s9 (true, vs ++ [(rv t 4 (nI 0) 0 (e1 + 1)).1], (rv t 4 (nI 0) 0 (e1 + 1)).2.2) ∧ 0 < (vs ++ [(rv t 4 (nI 0) 0 (e1 + 1)).1]).length := fun _ _ => ⟨by rw [h2 rfl, rL_go z9, decide_eq_false (fun z => c_97 ((ch8_is (by omega) (by omega)).mpr z)), rL_no], by rw [List.length_append, List.length_singleton]; omega⟩
                  have k2 : (0 : Nat) = 1 → rF t s9 = rF2 t s9 (rL t n1 true (vs ++ [(rv t 4 (nI 0) 0 (e1 + 1)).1]) (rv t 4 (nI 0) 0 (e1 + 1)).2.2) := fun z => absurd z (by decide)
                  have k9 : (0 : Nat) = 1 → ¬ dgAt t s9 < 0 ∧ (rv t 4 (nI 0) 0 (e1 + 1)).2.2 < 60 := fun z => absurd z (by decide)
                  refine lv_iconst (v := (nI 0)) hx hb dX8_readsPart_104 (by decide) ?_
                  refine lv_istore (lv' := [(4, .int (nI 0)), (3, .int (nI 1)), (5, .int (nv8 (rv t 4 (nI 0) 0 (e1 + 1)).1 (rv t 4 (nI 0) 0 (e1 + 1)).2.1)), (2, .int (dgAt t s9)), (1, .int (nI 0)), (0, .ref (ad L 0))]) hx hb dX8_readsPart_105 hl (by decide) rfl (fun ls hl => ?_)
                  refine lv_goto (tgt := 28) hx hb dX8_readsPart_107 (by decide) ?_
                  exact ih_28 1 0 n1 (vs ++ [(rv t 4 (nI 0) 0 (e1 + 1)).1]) ((rv t 4 (nI 0) 0 (e1 + 1)).2.2) (mu (wd8 σ (dgAt t s9).toNatClampNeg (vs ++ [(rv t 4 (nI 0) 0 (e1 + 1)).1]).length) 0 3 (nI ((rv t 4 (nI 0) 0 (e1 + 1)).2.2 + 0))) k0 k1 k2 k9 (by decide) (by decide) (by omega) (by omega) rfl (by omega) _ _ _ h (lv_sub hl [0, 1, 3, 4, 5] rfl)
                · have h := h.to (show mu (mu (wd8 σ (dgAt t s9).toNatClampNeg (vs.length + 1)) 0 3 (nI ((rv t 4 (nI 0) 0 (e1 + 1)).2.2))) 0 3 (nI (if ch8 t ((rv t 4 (nI 0) 0 (e1 + 1)).2.2) = (nI 44) then ((rv t 4 (nI 0) 0 (e1 + 1)).2.2) + 1 else ((rv t 4 (nI 0) 0 (e1 + 1)).2.2))) = mu (wd8 σ (dgAt t s9).toNatClampNeg (vs ++ [(rv t 4 (nI 0) 0 (e1 + 1)).1]).length) 0 3 (nI ((rv t 4 (nI 0) 0 (e1 + 1)).2.2 + 1)) from (by rw [mu_mu, if_pos c_97, List.length_append, List.length_singleton]))
                  have k0 : (1 : Nat) = 0 → rF t s9 = (false, dgAt t s9, vs ++ [(rv t 4 (nI 0) 0 (e1 + 1)).1], (rv t 4 (nI 0) 0 (e1 + 1)).2.2) := fun z => absurd z (by decide)
                  have k1 : (1 : Nat) = 1 → (1 : Nat) = 0 → rF t s9 = rF2 t s9 (true, vs ++ [(rv t 4 (nI 0) 0 (e1 + 1)).1], (rv t 4 (nI 0) 0 (e1 + 1)).2.2) ∧ 0 < (vs ++ [(rv t 4 (nI 0) 0 (e1 + 1)).1]).length := fun _ z => absurd z (by decide)
                  have k2 : (1 : Nat) = 1 → rF t s9 = rF2 t s9 (rL t n1 true (vs ++ [(rv t 4 (nI 0) 0 (e1 + 1)).1]) (rv t 4 (nI 0) 0 (e1 + 1)).2.2) := fun _ => by rw [h2 rfl, rL_go z9, decide_eq_true ((ch8_is (by omega) (by omega)).mp c_97)]
                  have k9 : (1 : Nat) = 1 → ¬ dgAt t s9 < 0 ∧ (rv t 4 (nI 0) 0 (e1 + 1)).2.2 < 60 := fun _ => ⟨g1, by have q9 := ch8_lt (by omega) c_97; have := hT.2.1; omega⟩
                  refine lv_iconst (v := (nI 1)) hx hb dX8_readsPart_100 (by decide) ?_
                  refine lv_goto (tgt := 105) hx hb dX8_readsPart_101 (by decide) ?_
                  refine lv_istore (lv' := [(4, .int (nI 1)), (3, .int (nI 1)), (5, .int (nv8 (rv t 4 (nI 0) 0 (e1 + 1)).1 (rv t 4 (nI 0) 0 (e1 + 1)).2.1)), (2, .int (dgAt t s9)), (1, .int (nI 0)), (0, .ref (ad L 0))]) hx hb dX8_readsPart_105 hl (by decide) rfl (fun ls hl => ?_)
                  refine lv_goto (tgt := 28) hx hb dX8_readsPart_107 (by decide) ?_
                  exact ih_28 1 1 n1 (vs ++ [(rv t 4 (nI 0) 0 (e1 + 1)).1]) ((rv t 4 (nI 0) 0 (e1 + 1)).2.2) (mu (wd8 σ (dgAt t s9).toNatClampNeg (vs ++ [(rv t 4 (nI 0) 0 (e1 + 1)).1]).length) 0 3 (nI ((rv t 4 (nI 0) 0 (e1 + 1)).2.2 + 1))) k0 k1 k2 k9 (by decide) (by decide) (by omega) (by omega) rfl (by omega) _ _ _ h (lv_sub hl [0, 1, 3, 4, 5] rfl)
      exact LP_28 _ 0 0 60 ([]) (s9 + 1) (mu (wd8 σ (dgAt t s9).toNatClampNeg 0) 0 3 (nI (s9 + 1 + 0))) i0 (fun z z2 => by first | exact absurd z (by decide) | exact absurd z2 (by decide)) i2 i9 (by decide) (by decide) i4 (by omega) rfl (Nat.lt_succ_self _) _ _ _ h (lv_sub hl [0, 1, 2, 4, 3] rfl)
    · have h := h.to (show mu (mu (wd8 σ (dgAt t s9).toNatClampNeg 0) 0 3 (nI (s9 + 1))) 0 3 (nI (if ch8 t (s9 + 1) = (nI 58) then (s9 + 1) + 1 else (s9 + 1))) = mu (wd8 σ (dgAt t s9).toNatClampNeg 0) 0 3 (nI (s9 + 1 + 1)) from (by rw [mu_mu, if_pos c_16]))
      have i0 : (1 : Nat) = 0 → rF t s9 = (false, dgAt t s9, [], s9 + 1) := fun z => absurd z (by decide)
      have i2 : (1 : Nat) = 1 → rF t s9 = rF2 t s9 (rL t 60 true [] (s9 + 1)) := fun _ => by rw [rF_y c_7, decide_eq_true ((ch8_is (by omega) (by omega)).mp c_16)]
      have i9 : (1 : Nat) = 1 → ¬ dgAt t s9 < 0 ∧ s9 + 1 < 60 := fun _ => ⟨c_7, by have q9 := ch8_lt (by omega) c_16; have := hT.2.1; omega⟩
      have i4 : s9 + 1 + 60 + 1 ≥ 61 := by omega
      refine lv_iconst (v := (nI 1)) hx hb dX8_readsPart_19 (by decide) ?_
      refine lv_goto (tgt := 24) hx hb dX8_readsPart_20 (by decide) ?_
      refine lv_istore_n (lv' := [(3, .int (nI 1)), (2, .int (dgAt t s9)), (0, .ref (ad L 0)), (1, .int (nI 0))]) hx hb dX8_readsPart_24 rfl hl (by decide) rfl (fun ls hl => ?_)
      refine lv_iload_n hx hb dX8_readsPart_25 rfl (lv_at hl 0 rfl) ?_
      refine lv_istore (lv' := [(4, .int (nI 1)), (3, .int (nI 1)), (2, .int (dgAt t s9)), (0, .ref (ad L 0)), (1, .int (nI 0))]) hx hb dX8_readsPart_26 hl (by decide) rfl (fun ls hl => ?_)
      have LP_28 : ∀ (n_28 : Nat) (ib : Nat) (mb : Nat) (n : Nat) (vs : List Int32) (e1 : Nat) (σ1 : Me), (ib = 0 → rF t s9 = (false, dgAt t s9, vs, e1)) → (ib = 1 → mb = 0 → rF t s9 = rF2 t s9 (true, vs, e1) ∧ 0 < vs.length) → (mb = 1 → rF t s9 = rF2 t s9 (rL t n true vs e1)) → (mb = 1 → ¬ dgAt t s9 < 0 ∧ e1 < 60) → (ib ≤ 1) → (mb ≤ ib) → (e1 + n + 1 ≥ 61) → (e1 ≤ 65) → (σ1 = mu (wd8 σ (dgAt t s9).toNatClampNeg vs.length) 0 3 (nI (e1 + mb))) → n + mb < n_28 → ∀ (H : Heap) (locs : List Loc) (ls : Array Slot), Hd8 L s.heap H σ1 locs → lv_has ls 6 [(4, .int (nI mb)), (3, .int (nI ib)), (2, .int (dgAt t s9)), (1, .int (nI 0)), (0, .ref (ad L 0))] → W p l e rX8_readsPart s m args below meth c H locs 0 0 (MQ below (Qg post (bs8 L) (Aw8 L)) args s 0 0 (Aw8 L)) (F0 m 28 ls []) := by
        intro n_28
        induction n_28 with
        | zero => intro ib mb n vs e1 σ1; intros; omega
        | succ n_28 ih_28 =>
          intro ib mb n vs e1 σ1 h0 h1 h2 h9 hi hm h4 h5 hσ hm_28 H locs ls h hl
          have hT1 : TX σ1 t := by rw [hσ]; exact TX_wd hT
          have a1 : σ1 0 3 = nI (e1 + mb) := by rw [hσ, mu_s]
          refine lv_iload hx hb dX8_readsPart_28 (lv_at hl 0 rfl) ?_
          refine b_if_eq (tgt := 110) hx hb dX8_readsPart_30 (by decide) (by omega) (fun c_30 => ?_) (fun c_30 => ?_)
          · refine lv_iload_n hx hb dX8_readsPart_110 rfl (lv_at hl 1 rfl) ?_
            refine b_if_eq (tgt := 127) hx hb dX8_readsPart_111 (by decide) (by omega) (fun c_111 => ?_) (fun c_111 => ?_)
            · have hf9 := h0 c_111
              have hs9 : σ1 = mu (wd8 σ (dgAt t s9).toNatClampNeg vs.length) 0 3 (nI (e1)) := by rw [hσ, c_30]; rfl
              refine lv_iconst (v := (-1)) hx hb dX8_readsPart_127 (by decide) ?_
              exact e_i8 S hK h hr hlk dX8_readsPart_128 (fin_p8 hp (by rw [hf9]; first | done | rfl) (by rw [hf9]; first | done | exact hs9))
            · obtain ⟨f1, f2⟩ := h1 (by omega) c_30
              refine lv_aload_n hx hb dX8_readsPart_114 rfl (lv_at hl 4 rfl) ?_
              refine lv_bipush (v := (nI 59)) hx hb dX8_readsPart_115 (by decide) ?_
              refine q_V18 S hI hK h [.int (nI 59)] (c_X8_takes l L σ1 (e9 := e1) hT1 (by subst c_30; exact a1) (by omega) (nI 59)) q_858 q_860 qs_42 q_10 q_861 yd_X8_takes rfl ⟨⟨rfl, rfl⟩, ⟨(Nat.le_of_ble_eq_true rfl), (Nat.le_of_ble_eq_true rfl)⟩, Nat.le_refl _, Nat.le_refl _⟩ rfl (Nat.le_of_ble_eq_true rfl) hl.1 dX8_readsPart_117 (fun H locs h => ?_)
              refine z_eq (tgt := 127) hx hb dX8_readsPart_120 (by decide) (fun c_120 => ?_) (fun c_120 => ?_)
              · have h := h.to (show mu σ1 0 3 (nI (if ch8 t e1 = (nI 59) then e1 + 1 else e1)) = mu (wd8 σ (dgAt t s9).toNatClampNeg vs.length) 0 3 (nI (e1)) from (by rw [hσ, mu_mu, if_neg c_120]))
                have hf9 : rF t s9 = (false, dgAt t s9, vs, e1) := by rw [f1, rF2_no (Or.inr (fun z => c_120 ((ch8_is (by omega) (by omega)).mpr z)))]
                have hs9 : mu (wd8 σ (dgAt t s9).toNatClampNeg vs.length) 0 3 (nI (e1)) = mu (wd8 σ (dgAt t s9).toNatClampNeg vs.length) 0 3 (nI (e1)) := rfl
                refine lv_iconst (v := (-1)) hx hb dX8_readsPart_127 (by decide) ?_
                exact e_i8 S hK h hr hlk dX8_readsPart_128 (fin_p8 hp (by rw [hf9]; first | done | rfl) (by rw [hf9]; first | done | exact hs9))
              · have h := h.to (show mu σ1 0 3 (nI (if ch8 t e1 = (nI 59) then e1 + 1 else e1)) = mu (wd8 σ (dgAt t s9).toNatClampNeg vs.length) 0 3 (nI (e1 + 1)) from (by rw [hσ, mu_mu, if_pos c_120]))
                have hf9 : rF t s9 = (true, dgAt t s9, vs, e1 + 1) := by rw [f1, rF2_yes f2 ((ch8_is (by omega) (by omega)).mp c_120)]
                have hs9 : mu (wd8 σ (dgAt t s9).toNatClampNeg vs.length) 0 3 (nI (e1 + 1)) = mu (wd8 σ (dgAt t s9).toNatClampNeg vs.length) 0 3 (nI (e1 + 1)) := rfl
                refine lv_iload_n hx hb dX8_readsPart_123 rfl (lv_at hl 2 rfl) ?_
                refine lv_goto (tgt := 128) hx hb dX8_readsPart_124 (by decide) ?_
                exact e_i8 S hK h hr hlk dX8_readsPart_128 (fin_p8 hp (by rw [hf9]; first | done | rfl) (by rw [hf9]; first | done | exact hs9))
          · obtain rfl : mb = 1 := by omega
            obtain rfl : ib = 1 := by omega
            obtain ⟨g1, g2⟩ := h9 rfl
            obtain ⟨i, hi0, hid⟩ := dgAt_n g1
            have hcl : (dgAt t s9).toNatClampNeg = i := by rw [hid, nI_clamp (by omega)]
            obtain ⟨n1, rfl⟩ : ∃ n1, n = n1 + 1 := ⟨n - 1, by omega⟩
            obtain ⟨v0, v1⟩ := rv_4 (t := t) (e := e1 + 1)
            obtain ⟨r1, r2⟩ := rv_le (t := t) (e := e1 + 1)
            refine lv_aload_n hx hb dX8_readsPart_33 rfl (lv_at hl 4 rfl) ?_
            refine lv_iconst (v := (nI 4)) hx hb dX8_readsPart_34 (by decide) ?_
            refine q_V18 S hI hK h [.int (nI 4)] (c_X8_takeNumber l L σ1 (d9 := 4) hT1 a1 (by omega) (by omega)) q_850 q_852 qs_40 q_10 q_853 yd_X8_takeNumber rfl ⟨⟨rfl, rfl⟩, ⟨(Nat.le_of_ble_eq_true rfl), (Nat.le_of_ble_eq_true rfl)⟩, Nat.le_refl _, Nat.le_refl _⟩ rfl (Nat.le_of_ble_eq_true rfl) hl.1 dX8_readsPart_35 (fun H locs h => ?_)
            have h := h.to (show mu σ1 0 3 (nI (rv t 4 (nI 0) 0 (e1 + 1)).2.2) = mu (wd8 σ (dgAt t s9).toNatClampNeg vs.length) 0 3 (nI ((rv t 4 (nI 0) 0 (e1 + 1)).2.2)) from (by rw [hσ, mu_mu]))
            refine lv_istore (lv' := [(5, .int (nv8 (rv t 4 (nI 0) 0 (e1 + 1)).1 (rv t 4 (nI 0) 0 (e1 + 1)).2.1)), (4, .int (nI 1)), (3, .int (nI 1)), (2, .int (dgAt t s9)), (1, .int (nI 0)), (0, .ref (ad L 0))]) hx hb dX8_readsPart_38 hl (by decide) rfl (fun ls hl => ?_)
            refine lv_iload hx hb dX8_readsPart_40 (lv_at hl 0 rfl) ?_
            refine lv_if_lt (tgt := 49) hx hb dX8_readsPart_42 (by decide) (fun c_42 => ?_) (fun c_42 => ?_)
            · have z9 : (rv t 4 (nI 0) 0 (e1 + 1)).2.1 = 0 := by rcases Nat.eq_zero_or_pos (rv t 4 (nI 0) 0 (e1 + 1)).2.1 with z | z; exact z; exact absurd c_42 (by rw [(v1 (by omega)).1]; obtain ⟨q9, z1, z2⟩ := (v1 (by omega)).2.1; rw [z2]; exact nI_pos (by omega))
              have h := h.to (show mu (wd8 σ (dgAt t s9).toNatClampNeg vs.length) 0 3 (nI ((rv t 4 (nI 0) 0 (e1 + 1)).2.2)) = mu (wd8 σ (dgAt t s9).toNatClampNeg vs.length) 0 3 (nI ((rv t 4 (nI 0) 0 (e1 + 1)).2.2 + 0)) from rfl)
              have k0 : (0 : Nat) = 0 → rF t s9 = (false, dgAt t s9, vs, (rv t 4 (nI 0) 0 (e1 + 1)).2.2) := fun _ => by rw [h2 rfl, rL_bad z9, rF2_f]
              have k1 : (0 : Nat) = 1 → (0 : Nat) = 0 → rF t s9 = rF2 t s9 (true, vs, (rv t 4 (nI 0) 0 (e1 + 1)).2.2) ∧ 0 < vs.length := fun z => absurd z (by decide)
              have k2 : (0 : Nat) = 1 → rF t s9 = rF2 t s9 (rL t n1 true vs (rv t 4 (nI 0) 0 (e1 + 1)).2.2) := fun z => absurd z (by decide)
              have k9 : (0 : Nat) = 1 → ¬ dgAt t s9 < 0 ∧ (rv t 4 (nI 0) 0 (e1 + 1)).2.2 < 60 := fun z => absurd z (by decide)
              refine lv_iconst (v := (nI 0)) hx hb dX8_readsPart_49 (by decide) ?_
              refine lv_istore_n (lv' := [(3, .int (nI 0)), (5, .int (nv8 (rv t 4 (nI 0) 0 (e1 + 1)).1 (rv t 4 (nI 0) 0 (e1 + 1)).2.1)), (4, .int (nI 1)), (2, .int (dgAt t s9)), (1, .int (nI 0)), (0, .ref (ad L 0))]) hx hb dX8_readsPart_50 rfl hl (by decide) rfl (fun ls hl => ?_)
              refine lv_iload_n hx hb dX8_readsPart_51 rfl (lv_at hl 0 rfl) ?_
              refine b_if_eq (tgt := 72) hx hb dX8_readsPart_52 (by decide) (by decide) (fun _ => ?_) (fun c9 => absurd c9 (by decide))
              refine lv_iload_n hx hb dX8_readsPart_72 rfl (lv_at hl 0 rfl) ?_
              refine b_if_eq (tgt := 87) hx hb dX8_readsPart_73 (by decide) (by decide) (fun _ => ?_) (fun c9 => absurd c9 (by decide))
              refine lv_iload_n hx hb dX8_readsPart_87 rfl (lv_at hl 0 rfl) ?_
              refine b_if_eq (tgt := 104) hx hb dX8_readsPart_88 (by decide) (by decide) (fun _ => ?_) (fun c9 => absurd c9 (by decide))
              refine lv_iconst (v := (nI 0)) hx hb dX8_readsPart_104 (by decide) ?_
              refine lv_istore (lv' := [(4, .int (nI 0)), (3, .int (nI 0)), (5, .int (nv8 (rv t 4 (nI 0) 0 (e1 + 1)).1 (rv t 4 (nI 0) 0 (e1 + 1)).2.1)), (2, .int (dgAt t s9)), (1, .int (nI 0)), (0, .ref (ad L 0))]) hx hb dX8_readsPart_105 hl (by decide) rfl (fun ls hl => ?_)
              refine lv_goto (tgt := 28) hx hb dX8_readsPart_107 (by decide) ?_
              exact ih_28 0 0 n1 vs ((rv t 4 (nI 0) 0 (e1 + 1)).2.2) (mu (wd8 σ (dgAt t s9).toNatClampNeg vs.length) 0 3 (nI ((rv t 4 (nI 0) 0 (e1 + 1)).2.2 + 0))) k0 k1 k2 k9 (by decide) (by decide) (by omega) (by omega) rfl (by omega) _ _ _ h (lv_sub hl [0, 1, 3, 4, 5] rfl)
            · have z9 : (rv t 4 (nI 0) 0 (e1 + 1)).2.1 ≠ 0 := fun z => c_42 (v0 z)
              obtain ⟨v2, v3, v4⟩ := v1 z9
              refine lv_iconst (v := (nI 1)) hx hb dX8_readsPart_45 (by decide) ?_
              refine lv_goto (tgt := 50) hx hb dX8_readsPart_46 (by decide) ?_
              refine lv_istore_n (lv' := [(3, .int (nI 1)), (5, .int (nv8 (rv t 4 (nI 0) 0 (e1 + 1)).1 (rv t 4 (nI 0) 0 (e1 + 1)).2.1)), (4, .int (nI 1)), (2, .int (dgAt t s9)), (1, .int (nI 0)), (0, .ref (ad L 0))]) hx hb dX8_readsPart_50 rfl hl (by decide) rfl (fun ls hl => ?_)
              refine lv_iload_n hx hb dX8_readsPart_51 rfl (lv_at hl 0 rfl) ?_
              refine b_if_eq (tgt := 72) hx hb dX8_readsPart_52 (by decide) (by decide) (fun c9 => absurd c9 (by decide)) (fun _ => ?_)
              refine lv_iload_n hx hb dX8_readsPart_55 rfl (lv_at hl 3 rfl) ?_
              refine q_S18 S hI hK h [.int (dgAt t s9)] (c_X8_isDigest l L (mu (wd8 σ (dgAt t s9).toNatClampNeg vs.length) 0 3 (nI ((rv t 4 (nI 0) 0 (e1 + 1)).2.2))) (dgAt t s9)) q_646 q_647 q_10 q_648 yd_X8_isDigest rfl ⟨⟨rfl, rfl⟩, ⟨(Nat.le_of_ble_eq_true rfl), (Nat.le_of_ble_eq_true rfl)⟩, Nat.le_refl _, Nat.le_refl _⟩ rfl (Nat.le_of_ble_eq_true rfl) hl.1 dX8_readsPart_56 (fun H locs h => ?_)
              refine z_eq (tgt := 72) hx hb dX8_readsPart_59 (by decide) (fun c_59 => ?_) (fun c_59 => ?_)
              · have h3 : ¬ i < 3 := fun z => c_59 (by rw [hid]; exact ⟨(nI_leI (by omega) (by omega)).mpr (by omega), (nI_leI (by omega) (by omega)).mpr (by omega)⟩)
                have h := h.to (show mu (wd8 σ (dgAt t s9).toNatClampNeg vs.length) 0 3 (nI ((rv t 4 (nI 0) 0 (e1 + 1)).2.2)) = mu (wd8 σ (dgAt t s9).toNatClampNeg (vs.length + 1)) 0 3 (nI ((rv t 4 (nI 0) 0 (e1 + 1)).2.2)) from (by rw [hcl, wd8_n h3, wd8_n h3]))
                have hl : lv_has ls 6 [(3, .int (nI 1)), (5, .int (nv8 (rv t 4 (nI 0) 0 (e1 + 1)).1 (rv t 4 (nI 0) 0 (e1 + 1)).2.1)), (4, .int (nI 1)), (2, .int (dgAt t s9)), (1, .int (nI 0)), (0, .ref (ad L 0))] := by rw [show (.int (dgAt t s9) : Value) = .int (dgAt t s9) from (by rw [hid])] at hl; exact hl
                have h := h.to (show mu (wd8 σ (dgAt t s9).toNatClampNeg (vs.length + 1)) 0 3 (nI ((rv t 4 (nI 0) 0 (e1 + 1)).2.2)) = mu (wd8 σ (dgAt t s9).toNatClampNeg (vs.length + 1)) 0 3 (nI ((rv t 4 (nI 0) 0 (e1 + 1)).2.2)) from (by first | rfl | (rw [hcl]; exact wd8_1 h3)))
                refine lv_iload_n hx hb dX8_readsPart_72 rfl (lv_at hl 0 rfl) ?_
                refine b_if_eq (tgt := 87) hx hb dX8_readsPart_73 (by decide) (by decide) (fun c9 => absurd c9 (by decide)) (fun _ => ?_)
                refine lv_iload_n hx hb dX8_readsPart_76 rfl (lv_at hl 4 rfl) ?_
                refine b_if_eq (tgt := 87) hx hb dX8_readsPart_77 (by decide) (by decide) (fun _ => ?_) (fun c9 => absurd c9 (by decide))
                refine lv_iload_n hx hb dX8_readsPart_87 rfl (lv_at hl 0 rfl) ?_
                refine b_if_eq (tgt := 104) hx hb dX8_readsPart_88 (by decide) (by decide) (fun c9 => absurd c9 (by decide)) (fun _ => ?_)
                refine lv_aload_n hx hb dX8_readsPart_91 rfl (lv_at hl 5 rfl) ?_
                refine lv_bipush (v := (nI 44)) hx hb dX8_readsPart_92 (by decide) ?_
                refine q_V18 S hI hK h [.int (nI 44)] (c_X8_takes l L (mu (wd8 σ (dgAt t s9).toNatClampNeg (vs.length + 1)) 0 3 (nI ((rv t 4 (nI 0) 0 (e1 + 1)).2.2))) (TX_wd hT) mu_s (by omega) (nI 44)) q_858 q_860 qs_42 q_10 q_861 yd_X8_takes rfl ⟨⟨rfl, rfl⟩, ⟨(Nat.le_of_ble_eq_true rfl), (Nat.le_of_ble_eq_true rfl)⟩, Nat.le_refl _, Nat.le_refl _⟩ rfl (Nat.le_of_ble_eq_true rfl) hl.1 dX8_readsPart_94 (fun H locs h => ?_)
                refine z_eq (tgt := 104) hx hb dX8_readsPart_97 (by decide) (fun c_97 => ?_) (fun c_97 => ?_)
                · have h := h.to (show mu (mu (wd8 σ (dgAt t s9).toNatClampNeg (vs.length + 1)) 0 3 (nI ((rv t 4 (nI 0) 0 (e1 + 1)).2.2))) 0 3 (nI (if ch8 t ((rv t 4 (nI 0) 0 (e1 + 1)).2.2) = (nI 44) then ((rv t 4 (nI 0) 0 (e1 + 1)).2.2) + 1 else ((rv t 4 (nI 0) 0 (e1 + 1)).2.2))) = mu (wd8 σ (dgAt t s9).toNatClampNeg (vs ++ [(rv t 4 (nI 0) 0 (e1 + 1)).1]).length) 0 3 (nI ((rv t 4 (nI 0) 0 (e1 + 1)).2.2 + 0)) from (by rw [mu_mu, if_neg c_97, List.length_append, List.length_singleton]; first | done | rfl))
                  have k0 : (1 : Nat) = 0 → rF t s9 = (false, dgAt t s9, vs ++ [(rv t 4 (nI 0) 0 (e1 + 1)).1], (rv t 4 (nI 0) 0 (e1 + 1)).2.2) := fun z => absurd z (by decide)
                  have k1 : (1 : Nat) = 1 → (0 : Nat) = 0 → rF t s9 = rF2 t s9 (true, vs ++ [(rv t 4 (nI 0) 0 (e1 + 1)).1], (rv t 4 (nI 0) 0 (e1 + 1)).2.2) ∧ 0 < (vs ++ [(rv t 4 (nI 0) 0 (e1 + 1)).1]).length := fun _ _ => ⟨by rw [h2 rfl, rL_go z9, decide_eq_false (fun z => c_97 ((ch8_is (by omega) (by omega)).mpr z)), rL_no], by rw [List.length_append, List.length_singleton]; omega⟩
                  have k2 : (0 : Nat) = 1 → rF t s9 = rF2 t s9 (rL t n1 true (vs ++ [(rv t 4 (nI 0) 0 (e1 + 1)).1]) (rv t 4 (nI 0) 0 (e1 + 1)).2.2) := fun z => absurd z (by decide)
                  have k9 : (0 : Nat) = 1 → ¬ dgAt t s9 < 0 ∧ (rv t 4 (nI 0) 0 (e1 + 1)).2.2 < 60 := fun z => absurd z (by decide)
                  refine lv_iconst (v := (nI 0)) hx hb dX8_readsPart_104 (by decide) ?_
                  refine lv_istore (lv' := [(4, .int (nI 0)), (3, .int (nI 1)), (5, .int (nv8 (rv t 4 (nI 0) 0 (e1 + 1)).1 (rv t 4 (nI 0) 0 (e1 + 1)).2.1)), (2, .int (dgAt t s9)), (1, .int (nI 0)), (0, .ref (ad L 0))]) hx hb dX8_readsPart_105 hl (by decide) rfl (fun ls hl => ?_)
                  refine lv_goto (tgt := 28) hx hb dX8_readsPart_107 (by decide) ?_
                  exact ih_28 1 0 n1 (vs ++ [(rv t 4 (nI 0) 0 (e1 + 1)).1]) ((rv t 4 (nI 0) 0 (e1 + 1)).2.2) (mu (wd8 σ (dgAt t s9).toNatClampNeg (vs ++ [(rv t 4 (nI 0) 0 (e1 + 1)).1]).length) 0 3 (nI ((rv t 4 (nI 0) 0 (e1 + 1)).2.2 + 0))) k0 k1 k2 k9 (by decide) (by decide) (by omega) (by omega) rfl (by omega) _ _ _ h (lv_sub hl [0, 1, 3, 4, 5] rfl)
                · have h := h.to (show mu (mu (wd8 σ (dgAt t s9).toNatClampNeg (vs.length + 1)) 0 3 (nI ((rv t 4 (nI 0) 0 (e1 + 1)).2.2))) 0 3 (nI (if ch8 t ((rv t 4 (nI 0) 0 (e1 + 1)).2.2) = (nI 44) then ((rv t 4 (nI 0) 0 (e1 + 1)).2.2) + 1 else ((rv t 4 (nI 0) 0 (e1 + 1)).2.2))) = mu (wd8 σ (dgAt t s9).toNatClampNeg (vs ++ [(rv t 4 (nI 0) 0 (e1 + 1)).1]).length) 0 3 (nI ((rv t 4 (nI 0) 0 (e1 + 1)).2.2 + 1)) from (by rw [mu_mu, if_pos c_97, List.length_append, List.length_singleton]))
                  have k0 : (1 : Nat) = 0 → rF t s9 = (false, dgAt t s9, vs ++ [(rv t 4 (nI 0) 0 (e1 + 1)).1], (rv t 4 (nI 0) 0 (e1 + 1)).2.2) := fun z => absurd z (by decide)
                  have k1 : (1 : Nat) = 1 → (1 : Nat) = 0 → rF t s9 = rF2 t s9 (true, vs ++ [(rv t 4 (nI 0) 0 (e1 + 1)).1], (rv t 4 (nI 0) 0 (e1 + 1)).2.2) ∧ 0 < (vs ++ [(rv t 4 (nI 0) 0 (e1 + 1)).1]).length := fun _ z => absurd z (by decide)
                  have k2 : (1 : Nat) = 1 → rF t s9 = rF2 t s9 (rL t n1 true (vs ++ [(rv t 4 (nI 0) 0 (e1 + 1)).1]) (rv t 4 (nI 0) 0 (e1 + 1)).2.2) := fun _ => by rw [h2 rfl, rL_go z9, decide_eq_true ((ch8_is (by omega) (by omega)).mp c_97)]
                  have k9 : (1 : Nat) = 1 → ¬ dgAt t s9 < 0 ∧ (rv t 4 (nI 0) 0 (e1 + 1)).2.2 < 60 := fun _ => ⟨g1, by have q9 := ch8_lt (by omega) c_97; have := hT.2.1; omega⟩
                  refine lv_iconst (v := (nI 1)) hx hb dX8_readsPart_100 (by decide) ?_
                  refine lv_goto (tgt := 105) hx hb dX8_readsPart_101 (by decide) ?_
                  refine lv_istore (lv' := [(4, .int (nI 1)), (3, .int (nI 1)), (5, .int (nv8 (rv t 4 (nI 0) 0 (e1 + 1)).1 (rv t 4 (nI 0) 0 (e1 + 1)).2.1)), (2, .int (dgAt t s9)), (1, .int (nI 0)), (0, .ref (ad L 0))]) hx hb dX8_readsPart_105 hl (by decide) rfl (fun ls hl => ?_)
                  refine lv_goto (tgt := 28) hx hb dX8_readsPart_107 (by decide) ?_
                  exact ih_28 1 1 n1 (vs ++ [(rv t 4 (nI 0) 0 (e1 + 1)).1]) ((rv t 4 (nI 0) 0 (e1 + 1)).2.2) (mu (wd8 σ (dgAt t s9).toNatClampNeg (vs ++ [(rv t 4 (nI 0) 0 (e1 + 1)).1]).length) 0 3 (nI ((rv t 4 (nI 0) 0 (e1 + 1)).2.2 + 1))) k0 k1 k2 k9 (by decide) (by decide) (by omega) (by omega) rfl (by omega) _ _ _ h (lv_sub hl [0, 1, 3, 4, 5] rfl)
              · have h3 : i < 3 := by have q9 := c_59.2; rw [hid] at q9; have := (nI_leI (by omega) (by omega)).mp q9; omega
                refine lv_aload_n hx hb dX8_readsPart_62 rfl (lv_at hl 5 rfl) ?_
                refine g8 (v := (.ref (ad L 9))) S hK h 14 (by decide) rfl rfl q_610 dX8_readsPart_63 ?_
                have hl : lv_has ls 6 [(3, .int (nI 1)), (5, .int (nv8 (rv t 4 (nI 0) 0 (e1 + 1)).1 (rv t 4 (nI 0) 0 (e1 + 1)).2.1)), (4, .int (nI 1)), (2, .int (nI i)), (1, .int (nI 0)), (0, .ref (ad L 0))] := by rw [show (.int (dgAt t s9) : Value) = .int (nI i) from (by rw [hid])] at hl; exact hl
                refine lv_iload_n hx hb dX8_readsPart_66 rfl (lv_at hl 3 rfl) ?_
                refine lv_dup2_11 hx hb dX8_readsPart_67 rfl rfl ?_
                refine g8_el (n := 3) S hK h (by decide) rfl (by omega) dX8_readsPart_68 ?_
                refine lv_iconst (v := (nI 1)) hx hb dX8_readsPart_69 (by decide) ?_
                refine lv_iadd hx hb dX8_readsPart_70 ?_
                refine p8_el (n := 3) S hI hK h (by decide) rfl (by omega) dX8_readsPart_71 (fun H locs h => ?_)
                have hl : lv_has ls 6 [(3, .int (nI 1)), (5, .int (nv8 (rv t 4 (nI 0) 0 (e1 + 1)).1 (rv t 4 (nI 0) 0 (e1 + 1)).2.1)), (4, .int (nI 1)), (2, .int (dgAt t s9)), (1, .int (nI 0)), (0, .ref (ad L 0))] := by rw [show (.int (nI i) : Value) = .int (dgAt t s9) from (by rw [hid])] at hl; exact hl
                have h := h.to (show mu (mu (wd8 σ (dgAt t s9).toNatClampNeg vs.length) 0 3 (nI ((rv t 4 (nI 0) 0 (e1 + 1)).2.2))) 9 i (((mu (wd8 σ (dgAt t s9).toNatClampNeg vs.length) 0 3 (nI ((rv t 4 (nI 0) 0 (e1 + 1)).2.2))) 9 i) + (nI 1)) = mu (wd8 σ (dgAt t s9).toNatClampNeg (vs.length + 1)) 0 3 (nI ((rv t 4 (nI 0) 0 (e1 + 1)).2.2)) from (by first | rfl | (rw [hcl]; exact wd8_1 h3)))
                refine lv_iload_n hx hb dX8_readsPart_72 rfl (lv_at hl 0 rfl) ?_
                refine b_if_eq (tgt := 87) hx hb dX8_readsPart_73 (by decide) (by decide) (fun c9 => absurd c9 (by decide)) (fun _ => ?_)
                refine lv_iload_n hx hb dX8_readsPart_76 rfl (lv_at hl 4 rfl) ?_
                refine b_if_eq (tgt := 87) hx hb dX8_readsPart_77 (by decide) (by decide) (fun _ => ?_) (fun c9 => absurd c9 (by decide))
                refine lv_iload_n hx hb dX8_readsPart_87 rfl (lv_at hl 0 rfl) ?_
                refine b_if_eq (tgt := 104) hx hb dX8_readsPart_88 (by decide) (by decide) (fun c9 => absurd c9 (by decide)) (fun _ => ?_)
                refine lv_aload_n hx hb dX8_readsPart_91 rfl (lv_at hl 5 rfl) ?_
                refine lv_bipush (v := (nI 44)) hx hb dX8_readsPart_92 (by decide) ?_
                refine q_V18 S hI hK h [.int (nI 44)] (c_X8_takes l L (mu (wd8 σ (dgAt t s9).toNatClampNeg (vs.length + 1)) 0 3 (nI ((rv t 4 (nI 0) 0 (e1 + 1)).2.2))) (TX_wd hT) mu_s (by omega) (nI 44)) q_858 q_860 qs_42 q_10 q_861 yd_X8_takes rfl ⟨⟨rfl, rfl⟩, ⟨(Nat.le_of_ble_eq_true rfl), (Nat.le_of_ble_eq_true rfl)⟩, Nat.le_refl _, Nat.le_refl _⟩ rfl (Nat.le_of_ble_eq_true rfl) hl.1 dX8_readsPart_94 (fun H locs h => ?_)
                refine z_eq (tgt := 104) hx hb dX8_readsPart_97 (by decide) (fun c_97 => ?_) (fun c_97 => ?_)
                · have h := h.to (show mu (mu (wd8 σ (dgAt t s9).toNatClampNeg (vs.length + 1)) 0 3 (nI ((rv t 4 (nI 0) 0 (e1 + 1)).2.2))) 0 3 (nI (if ch8 t ((rv t 4 (nI 0) 0 (e1 + 1)).2.2) = (nI 44) then ((rv t 4 (nI 0) 0 (e1 + 1)).2.2) + 1 else ((rv t 4 (nI 0) 0 (e1 + 1)).2.2))) = mu (wd8 σ (dgAt t s9).toNatClampNeg (vs ++ [(rv t 4 (nI 0) 0 (e1 + 1)).1]).length) 0 3 (nI ((rv t 4 (nI 0) 0 (e1 + 1)).2.2 + 0)) from (by rw [mu_mu, if_neg c_97, List.length_append, List.length_singleton]; first | done | rfl))
                  have k0 : (1 : Nat) = 0 → rF t s9 = (false, dgAt t s9, vs ++ [(rv t 4 (nI 0) 0 (e1 + 1)).1], (rv t 4 (nI 0) 0 (e1 + 1)).2.2) := fun z => absurd z (by decide)
                  have k1 : (1 : Nat) = 1 → (0 : Nat) = 0 → rF t s9 = rF2 t s9 (true, vs ++ [(rv t 4 (nI 0) 0 (e1 + 1)).1], (rv t 4 (nI 0) 0 (e1 + 1)).2.2) ∧ 0 < (vs ++ [(rv t 4 (nI 0) 0 (e1 + 1)).1]).length := fun _ _ => ⟨by rw [h2 rfl, rL_go z9, decide_eq_false (fun z => c_97 ((ch8_is (by omega) (by omega)).mpr z)), rL_no], by rw [List.length_append, List.length_singleton]; omega⟩
                  have k2 : (0 : Nat) = 1 → rF t s9 = rF2 t s9 (rL t n1 true (vs ++ [(rv t 4 (nI 0) 0 (e1 + 1)).1]) (rv t 4 (nI 0) 0 (e1 + 1)).2.2) := fun z => absurd z (by decide)
                  have k9 : (0 : Nat) = 1 → ¬ dgAt t s9 < 0 ∧ (rv t 4 (nI 0) 0 (e1 + 1)).2.2 < 60 := fun z => absurd z (by decide)
                  refine lv_iconst (v := (nI 0)) hx hb dX8_readsPart_104 (by decide) ?_
                  refine lv_istore (lv' := [(4, .int (nI 0)), (3, .int (nI 1)), (5, .int (nv8 (rv t 4 (nI 0) 0 (e1 + 1)).1 (rv t 4 (nI 0) 0 (e1 + 1)).2.1)), (2, .int (dgAt t s9)), (1, .int (nI 0)), (0, .ref (ad L 0))]) hx hb dX8_readsPart_105 hl (by decide) rfl (fun ls hl => ?_)
                  refine lv_goto (tgt := 28) hx hb dX8_readsPart_107 (by decide) ?_
                  exact ih_28 1 0 n1 (vs ++ [(rv t 4 (nI 0) 0 (e1 + 1)).1]) ((rv t 4 (nI 0) 0 (e1 + 1)).2.2) (mu (wd8 σ (dgAt t s9).toNatClampNeg (vs ++ [(rv t 4 (nI 0) 0 (e1 + 1)).1]).length) 0 3 (nI ((rv t 4 (nI 0) 0 (e1 + 1)).2.2 + 0))) k0 k1 k2 k9 (by decide) (by decide) (by omega) (by omega) rfl (by omega) _ _ _ h (lv_sub hl [0, 1, 3, 4, 5] rfl)
                · have h := h.to (show mu (mu (wd8 σ (dgAt t s9).toNatClampNeg (vs.length + 1)) 0 3 (nI ((rv t 4 (nI 0) 0 (e1 + 1)).2.2))) 0 3 (nI (if ch8 t ((rv t 4 (nI 0) 0 (e1 + 1)).2.2) = (nI 44) then ((rv t 4 (nI 0) 0 (e1 + 1)).2.2) + 1 else ((rv t 4 (nI 0) 0 (e1 + 1)).2.2))) = mu (wd8 σ (dgAt t s9).toNatClampNeg (vs ++ [(rv t 4 (nI 0) 0 (e1 + 1)).1]).length) 0 3 (nI ((rv t 4 (nI 0) 0 (e1 + 1)).2.2 + 1)) from (by rw [mu_mu, if_pos c_97, List.length_append, List.length_singleton]))
                  have k0 : (1 : Nat) = 0 → rF t s9 = (false, dgAt t s9, vs ++ [(rv t 4 (nI 0) 0 (e1 + 1)).1], (rv t 4 (nI 0) 0 (e1 + 1)).2.2) := fun z => absurd z (by decide)
                  have k1 : (1 : Nat) = 1 → (1 : Nat) = 0 → rF t s9 = rF2 t s9 (true, vs ++ [(rv t 4 (nI 0) 0 (e1 + 1)).1], (rv t 4 (nI 0) 0 (e1 + 1)).2.2) ∧ 0 < (vs ++ [(rv t 4 (nI 0) 0 (e1 + 1)).1]).length := fun _ z => absurd z (by decide)
                  have k2 : (1 : Nat) = 1 → rF t s9 = rF2 t s9 (rL t n1 true (vs ++ [(rv t 4 (nI 0) 0 (e1 + 1)).1]) (rv t 4 (nI 0) 0 (e1 + 1)).2.2) := fun _ => by rw [h2 rfl, rL_go z9, decide_eq_true ((ch8_is (by omega) (by omega)).mp c_97)]
                  have k9 : (1 : Nat) = 1 → ¬ dgAt t s9 < 0 ∧ (rv t 4 (nI 0) 0 (e1 + 1)).2.2 < 60 := fun _ => ⟨g1, by have q9 := ch8_lt (by omega) c_97; have := hT.2.1; omega⟩
                  refine lv_iconst (v := (nI 1)) hx hb dX8_readsPart_100 (by decide) ?_
                  refine lv_goto (tgt := 105) hx hb dX8_readsPart_101 (by decide) ?_
                  refine lv_istore (lv' := [(4, .int (nI 1)), (3, .int (nI 1)), (5, .int (nv8 (rv t 4 (nI 0) 0 (e1 + 1)).1 (rv t 4 (nI 0) 0 (e1 + 1)).2.1)), (2, .int (dgAt t s9)), (1, .int (nI 0)), (0, .ref (ad L 0))]) hx hb dX8_readsPart_105 hl (by decide) rfl (fun ls hl => ?_)
                  refine lv_goto (tgt := 28) hx hb dX8_readsPart_107 (by decide) ?_
                  exact ih_28 1 1 n1 (vs ++ [(rv t 4 (nI 0) 0 (e1 + 1)).1]) ((rv t 4 (nI 0) 0 (e1 + 1)).2.2) (mu (wd8 σ (dgAt t s9).toNatClampNeg (vs ++ [(rv t 4 (nI 0) 0 (e1 + 1)).1]).length) 0 3 (nI ((rv t 4 (nI 0) 0 (e1 + 1)).2.2 + 1))) k0 k1 k2 k9 (by decide) (by decide) (by omega) (by omega) rfl (by omega) _ _ _ h (lv_sub hl [0, 1, 3, 4, 5] rfl)
      exact LP_28 _ 1 1 60 ([]) (s9 + 1) (mu (wd8 σ (dgAt t s9).toNatClampNeg 0) 0 3 (nI (s9 + 1 + 1))) i0 (fun z z2 => by first | exact absurd z (by decide) | exact absurd z2 (by decide)) i2 i9 (by decide) (by decide) i4 (by omega) rfl (Nat.lt_succ_self _) _ _ _ h (lv_sub hl [0, 1, 2, 4, 3] rfl)
