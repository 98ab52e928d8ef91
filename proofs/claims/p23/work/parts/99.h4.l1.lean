/-! the law's smallest methods -/
def lowM (v : Int32) : Nat := (v &&& 2147483647).toNatClampNeg
def lowN (v : Int32) (n : Nat) : Nat := lowM v % n
theorem low_b (v : Int32) : ∃ w, w < 2 ^ 31 ∧ v &&& 2147483647 = nI w := by
  refine ⟨(v &&& 2147483647).toBitVec.toNat, ?_, ?_⟩
  · rw [Int32.toBitVec_and, BitVec.toNat_and]
    have h : (2147483647 : Int32).toBitVec.toNat = 2 ^ 31 - 1 := by decide +kernel
    rw [h, Nat.and_two_pow_sub_one_eq_mod]
    exact Nat.mod_lt _ (by omega)
  · apply Int32.toBitVec_inj.mp
    apply BitVec.eq_of_toNat_eq
    show _ = (BitVec.ofNat 32 _).toNat
    rw [BitVec.toNat_ofNat, Nat.mod_eq_of_lt (v &&& 2147483647).toBitVec.isLt]
theorem lowM_lt (v : Int32) : lowM v < 2 ^ 31 := by
  obtain ⟨w, h1, h2⟩ := low_b v
  rw [lowM, h2, nI_clamp h1]
  exact h1
theorem lowM_n (v : Int32) : v &&& 2147483647 = nI (lowM v) := by
  obtain ⟨w, h1, h2⟩ := low_b v
  rw [lowM, h2, nI_clamp h1]
theorem lowN_lt {v : Int32} {n : Nat} (h : 0 < n) : lowN v n < n := Nat.mod_lt _ h
theorem nI_subn {a b : Nat} (h : b ≤ a) : nI a - nI b = nI (a - b) := by
  have e : nI (a - b) + nI b = nI a := by rw [nI_add]; congr 1; omega
  rw [← e, Int32.add_sub_cancel]
theorem lowN_n {v : Int32} {n : Nat} (h0 : 0 < n) (h : n < 2 ^ 31) : nI (lowM v) - nI (lowM v) / nI n * nI n = nI (lowN v n) := by
  have hm := lowM_lt v
  rw [pk_div hm h0 h, pk_mul, nI_subn (Nat.div_mul_le_self _ _), lowN]
  congr 1
  have := Nat.div_add_mod (lowM v) n
  rw [Nat.mul_comm] at this
  omega
theorem sw_up {σ : Me} {a one other k : Nat} (hk : k < 4) (hne : one ≠ other) : mu (mu (ms σ a (swn (σ a) one other k)) a (4 * one + k) (σ a (4 * other + k))) a (4 * other + k) (σ a (4 * one + k)) = ms σ a (swn (σ a) one other (k + 1)) := by
  rw [← sw_step hk hne, mu_ms, mu_ms, ms_s, ms_s]
  funext q
  unfold ms
  by_cases z : q = a
  · rw [if_pos z, if_pos z]
  · rw [if_neg z, if_neg z, if_neg z, if_neg z]
abbrev rL_low : Room := { frames := 0, cells := 0, slots := 0, locals := 0 }
theorem yd_L_low : ydV yL_low RL 2 := ⟨rfl, by decide +kernel, by decide +kernel, by decide +kernel⟩
set_option maxHeartbeats 4000000 in
set_option maxRecDepth 100000 in
theorem c_L_low (l : Launch) (Lc L : Lay) (X : SS) (hh : List SS) (σ : Me) {n : Nat} (hn0 : 0 < n) (hn : n < 2 ^ 31) (v : Int32) : Mf9 l Lc L X hh yL_low (Cond.code yL_low cL_low 2 (some FieldType.int) :: qA) rL_low [.int v, .int (nI n)] σ (some (.int (nI (lowN v n)))) σ := by
  refine Mf9.ofW (by decide) (Nat.le_of_ble_eq_true rfl) ?_
  intro p e s m args below meth c ls post hp hV S hr hlk hK h hl
  have hx := S.1
  have hb := S.2.1
  have hl : lv_has ls 2 [(0, .int v), (1, .int (nI n))] := hl
  refine lv_iload_n hx hb dL_low_0 rfl (lv_at hl 0 rfl) ?_
  refine lv_ldc (v := (2147483647 : Int32)) hx hb S.2.2.2.1 (S.2.2.2.2 _ q_392) dL_low_1 ?_
  refine lv_iand hx hb dL_low_3 ?_
  refine cv_i (show (v &&& (2147483647 : Int32) : Int32) = nI (lowM v) from lowM_n v) ?_
  refine lv_iload_n hx hb dL_low_4 rfl (lv_at hl 1 rfl) ?_
  refine lv_irem hx hb dL_low_5 (nI_ne0 hn0 hn) ?_
  refine cv_i (show ((nI (lowM v)) - (nI (lowM v)) / (nI n) * (nI n) : Int32) = nI (lowN v n) from lowN_n hn0 hn) ?_
  exact e_i9 S hK h hr hlk dL_low_6 hp

abbrev rL_behind : Room := { frames := 0, cells := 0, slots := 0, locals := 0 }
theorem yd_L_behind : ydV yL_behind RL 3 := ⟨rfl, by decide +kernel, by decide +kernel, by decide +kernel⟩
set_option maxHeartbeats 4000000 in
set_option maxRecDepth 100000 in
theorem c_L_behind (l : Launch) (Lc L : Lay) (X : SS) (hh : List SS) (σ : Me) {a : Nat} (ha : a < 10) (h64 : ln9 a = 64) {one other : Nat} (h1 : one < 16) (h2 : other < 16) : Mf9 l Lc L X hh yL_behind (Cond.code yL_behind cL_behind 3 (some FieldType.boolean) :: qA) rL_behind [.ref (ad L a), .int (nI one), .int (nI other)] σ (some (.int (if gtH (hp9 (σ a) one) (hp9 (σ a) other) = true then 1 else 0))) σ := by
  refine Mf9.ofW (by decide) (Nat.le_of_ble_eq_true rfl) ?_
  intro p e s m args below meth c ls post hp hV S hr hlk hK h hl
  have hx := S.1
  have hb := S.2.1
  have hl : lv_has ls 3 [(0, .ref (ad L a)), (1, .int (nI one)), (2, .int (nI other))] := hl
  refine lv_aload_n hx hb dL_behind_0 rfl (lv_at hl 0 rfl) ?_
  refine lv_iconst (v := (nI 4)) hx hb dL_behind_1 (by decide) ?_
  refine lv_iload_n hx hb dL_behind_2 rfl (lv_at hl 1 rfl) ?_
  refine a_imul hx hb dL_behind_3 ?_
  refine lv_iconst (v := (nI 1)) hx hb dL_behind_4 (by decide) ?_
  refine a_iadd hx hb dL_behind_5 ?_
  refine g9_el (n := 64) S hK h ha h64 (by omega) dL_behind_6 ?_
  refine lv_i2l (v := (σ a (4 * one + 1)).toInt64) hx hb dL_behind_7 rfl ?_
  refine lv_aload_n hx hb dL_behind_8 rfl (lv_at hl 0 rfl) ?_
  refine lv_iconst (v := (nI 4)) hx hb dL_behind_9 (by decide) ?_
  refine lv_iload_n hx hb dL_behind_10 rfl (lv_at hl 2 rfl) ?_
  refine a_imul hx hb dL_behind_11 ?_
  refine g9_el (n := 64) S hK h ha h64 (by omega) dL_behind_12 ?_
  refine lv_i2l (v := (σ a (4 * other)).toInt64) hx hb dL_behind_13 rfl ?_
  refine lv_lmul hx hb dL_behind_14 ?_
  refine lv_topl (fun x1 e_x1 => ?_)
  refine lv_aload_n hx hb dL_behind_15 rfl (lv_at hl 0 rfl) ?_
  refine lv_iconst (v := (nI 4)) hx hb dL_behind_16 (by decide) ?_
  refine lv_iload_n hx hb dL_behind_17 rfl (lv_at hl 2 rfl) ?_
  refine a_imul hx hb dL_behind_18 ?_
  refine lv_iconst (v := (nI 1)) hx hb dL_behind_19 (by decide) ?_
  refine a_iadd hx hb dL_behind_20 ?_
  refine g9_el (n := 64) S hK h ha h64 (by omega) dL_behind_21 ?_
  refine lv_i2l (v := (σ a (4 * other + 1)).toInt64) hx hb dL_behind_22 rfl ?_
  refine lv_aload_n hx hb dL_behind_23 rfl (lv_at hl 0 rfl) ?_
  refine lv_iconst (v := (nI 4)) hx hb dL_behind_24 (by decide) ?_
  refine lv_iload_n hx hb dL_behind_25 rfl (lv_at hl 1 rfl) ?_
  refine a_imul hx hb dL_behind_26 ?_
  refine g9_el (n := 64) S hK h ha h64 (by omega) dL_behind_27 ?_
  refine lv_i2l (v := (σ a (4 * one)).toInt64) hx hb dL_behind_28 rfl ?_
  refine lv_lmul hx hb dL_behind_29 ?_
  refine lv_topl (fun x2 e_x2 => ?_)
  refine lv_lcmpv hx hb dL_behind_30 ?_
  refine lc_le (tgt := 38) hx hb dL_behind_31 (by decide) (fun c_31 => ?_) (fun c_31 => ?_)
  · rw [if_neg (fun z => gtH_no (a := hp9 (σ a) one) (b := hp9 (σ a) other) e_x1 e_x2 c_31 z)] at hp
    refine lv_iconst (v := (nI 0)) hx hb dL_behind_38 (by decide) ?_
    exact e_z9 S hK h hr hlk (Or.inl rfl) dL_behind_39 hp
  · rw [if_pos (gtH_yes (a := hp9 (σ a) one) (b := hp9 (σ a) other) e_x1 e_x2 c_31)] at hp
    refine lv_iconst (v := (nI 1)) hx hb dL_behind_34 (by decide) ?_
    refine lv_goto (tgt := 39) hx hb dL_behind_35 (by decide) ?_
    exact e_z9 S hK h hr hlk (Or.inr rfl) dL_behind_39 hp

abbrev rL_swap : Room := { frames := 0, cells := 0, slots := 0, locals := 0 }
theorem yd_L_swap : ydV yL_swap RL 3 := ⟨rfl, by decide +kernel, by decide +kernel, by decide +kernel⟩
set_option maxHeartbeats 4000000 in
set_option maxRecDepth 100000 in
theorem c_L_swap (l : Launch) (Lc L : Lay) (X : SS) (hh : List SS) (σ : Me) {a : Nat} (ha : a < 10) (h64 : ln9 a = 64) {one other : Nat} (h1 : one < 16) (h2 : other < 16) (hne : one ≠ other) : Mf9 l Lc L X hh yL_swap (Cond.code yL_swap cL_swap 5 none :: qA) rL_swap [.ref (ad L a), .int (nI one), .int (nI other)] σ none (ms σ a (swf (σ a) one other)) := by
  refine Mf9.ofW (by decide) (Nat.le_of_ble_eq_true rfl) ?_
  intro p e s m args below meth c ls post hp hV S hr hlk hK h hl
  have hx := S.1
  have hb := S.2.1
  have hl : lv_has ls 5 [(0, .ref (ad L a)), (1, .int (nI one)), (2, .int (nI other))] := hl
  refine lv_iconst (v := (nI 0)) hx hb dL_swap_0 (by decide) ?_
  refine lv_istore_n (lv' := [(3, .int (nI 0)), (0, .ref (ad L a)), (1, .int (nI one)), (2, .int (nI other))]) hx hb dL_swap_1 rfl hl (by decide) rfl (fun ls hl => ?_)
  have LP_2 : ∀ (n_2 : Nat) (k : Nat) (σ1 : Me), (k ≤ 4) → (σ1 = ms σ a (swn (σ a) one other k)) → 4 - k < n_2 → ∀ (H : Heap) (locs : List Loc) (ls : Array Slot), Hd9 Lc L X hh s.heap H σ1 locs → lv_has ls 5 [(3, .int (nI k)), (2, .int (nI other)), (1, .int (nI one)), (0, .ref (ad L a))] → W p l e rL_swap s m args below meth c H locs 0 0 (MQ below (Qg post (bs9 Lc L X hh) (A9 Lc L)) args s 0 0 (A9 Lc L)) (F0 m 2 ls []) := by
    intro n_2
    induction n_2 with
    | zero => intro k σ1; intros; omega
    | succ n_2 ih_2 =>
      intro k σ1 hk hs1 hm_2 H locs ls h hl
      refine lv_iload_n hx hb dL_swap_2 rfl (lv_at hl 0 rfl) ?_
      refine lv_iconst (v := (nI 4)) hx hb dL_swap_3 (by decide) ?_
      refine b_icmp_ge (tgt := 45) hx hb dL_swap_4 (by decide) (by omega) (by omega) (fun c_4 => ?_) (fun c_4 => ?_)
      · exact e_v9 S hK h hr hlk dL_swap_45 (fin_p9 hp rfl (by rw [hs1, show k = 4 by omega, swn_4]))
      · refine lv_aload_n hx hb dL_swap_7 rfl (lv_at hl 3 rfl) ?_
        refine lv_iconst (v := (nI 4)) hx hb dL_swap_8 (by decide) ?_
        refine lv_iload_n hx hb dL_swap_9 rfl (lv_at hl 2 rfl) ?_
        refine a_imul hx hb dL_swap_10 ?_
        refine lv_iload_n hx hb dL_swap_11 rfl (lv_at hl 0 rfl) ?_
        refine a_iadd hx hb dL_swap_12 ?_
        refine g9_el (n := 64) S hK h ha h64 (by omega) dL_swap_13 ?_
        refine cv_i (show (σ1 a (4 * one + k) : Int32) = σ a (4 * one + k) from (by rw [hs1, ms_s]; exact swn_k c_4)) ?_
        refine lv_istore (lv' := [(4, .int (σ a (4 * one + k))), (3, .int (nI k)), (2, .int (nI other)), (1, .int (nI one)), (0, .ref (ad L a))]) hx hb dL_swap_14 hl (by decide) rfl (fun ls hl => ?_)
        refine lv_aload_n hx hb dL_swap_16 rfl (lv_at hl 4 rfl) ?_
        refine lv_iconst (v := (nI 4)) hx hb dL_swap_17 (by decide) ?_
        refine lv_iload_n hx hb dL_swap_18 rfl (lv_at hl 3 rfl) ?_
        refine a_imul hx hb dL_swap_19 ?_
        refine lv_iload_n hx hb dL_swap_20 rfl (lv_at hl 1 rfl) ?_
        refine a_iadd hx hb dL_swap_21 ?_
        refine lv_aload_n hx hb dL_swap_22 rfl (lv_at hl 4 rfl) ?_
        refine lv_iconst (v := (nI 4)) hx hb dL_swap_23 (by decide) ?_
        refine lv_iload_n hx hb dL_swap_24 rfl (lv_at hl 2 rfl) ?_
        refine a_imul hx hb dL_swap_25 ?_
        refine lv_iload_n hx hb dL_swap_26 rfl (lv_at hl 1 rfl) ?_
        refine a_iadd hx hb dL_swap_27 ?_
        refine g9_el (n := 64) S hK h ha h64 (by omega) dL_swap_28 ?_
        refine cv_i (show (σ1 a (4 * other + k) : Int32) = σ a (4 * other + k) from (by rw [hs1, ms_s]; exact swn_k c_4)) ?_
        refine p9_el (n := 64) S hV hK h ha h64 (by omega) dL_swap_29 (fun H locs h => ?_)
        refine lv_aload_n hx hb dL_swap_30 rfl (lv_at hl 4 rfl) ?_
        refine lv_iconst (v := (nI 4)) hx hb dL_swap_31 (by decide) ?_
        refine lv_iload_n hx hb dL_swap_32 rfl (lv_at hl 2 rfl) ?_
        refine a_imul hx hb dL_swap_33 ?_
        refine lv_iload_n hx hb dL_swap_34 rfl (lv_at hl 1 rfl) ?_
        refine a_iadd hx hb dL_swap_35 ?_
        refine lv_iload hx hb dL_swap_36 (lv_at hl 0 rfl) ?_
        refine p9_el (n := 64) S hV hK h ha h64 (by omega) dL_swap_38 (fun H locs h => ?_)
        refine lv_iinc (v := (nI (k + 1))) (lv' := [(3, .int (nI (k + 1))), (4, .int (σ a (4 * one + k))), (2, .int (nI other)), (1, .int (nI one)), (0, .ref (ad L a))]) hx hb dL_swap_39 hl (k := 1) rfl (iinc_1 _) (by decide) rfl (fun ls hl => ?_)
        refine lv_goto (tgt := 2) hx hb dL_swap_42 (by decide) ?_
        exact ih_2 (k + 1) (mu (mu σ1 a (4 * one + k) (σ a (4 * other + k))) a (4 * other + k) (σ a (4 * one + k))) (by omega) (by rw [hs1, sw_up c_4 hne]) (by omega) _ _ _ h (lv_sub hl [0, 2, 3, 4] rfl)
  exact LP_2 _ 0 σ (by omega) (by rw [swn_0]; funext q; unfold ms; by_cases z : q = a; rw [if_pos z, z]; exact (if_neg z).symm) (Nat.lt_succ_self _) _ _ _ h (lv_sub hl [0, 3, 2, 1] rfl)
