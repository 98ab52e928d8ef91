theorem vin {i n : Nat} (h : i < n) (h2 : i < 2 ^ 31) : vp_in (nI i) n := by
  rintro (z | z)
  · exact nI_pos h2 z
  · rw [nI_clamp h2] at z
    omega
set_option maxHeartbeats 4000000 in
set_option maxRecDepth 100000 in
theorem lc_add {p : Program} {l : Launch} {e : Env} {s U : State} {m : MethodId} {below : List Frame} {meth : Method} {c : Code} {b Ls : Nat} {xs : Nat → Int32} {Lc Lm : Lay} {ls : Array Slot} {k : Nat} {X : SS} {hh : List SS} {t : List Int32} {σ : St} {τ : Me} {H : Heap} {locs : List Loc} (S : CallFix p m c cL_law 4 U #[Value.ref b] qA RL) (V : LV Lc Lm U) (hL : Ls ≤ 2048) (hX : va_X b Ls xs U U.heap) (hbl : b < U.heap.size) (hk4 : k + 4 ≤ Ls) (hl : lv_has ls 4 [(3, .int (nI k)), (2, .ref (ad Lm 0)), (1, .ref (ad Lc 244)), (0, .ref b)]) (hF : FX X) (hH : ∀ Y ∈ hh, FX Y) (hc : CR σ (clX X) (hh.map clX) t) (hm : MC τ X hh t) (h : PC Lc Lm U H locs σ τ) (B : ∀ (X : SS) (hh : List SS) (t : List Int32) (σ : St) (τ : Me) (H : Heap) (locs : List Loc), PC Lc Lm U H locs σ τ → CR σ (clX X) (hh.map clX) t → MC τ X hh t → FX X → (∀ Y ∈ hh, FX Y) → W p l e room_1 U m #[Value.ref b] below meth c H locs 600000 7302250 (lw_Z below #[Value.ref b] s) (F0 m 698 ls [])) : W p l e room_1 U m #[Value.ref b] below meth c H locs 600000 7302250 (lw_Z below #[Value.ref b] s) (F0 m 128 ls []) := by
  have hx := S.1
  have hb := S.2.1
  have hbA : ¬ (fun q : Nat => U.heap.size ≤ q) b := Nat.not_le.mpr hbl
  obtain ⟨a1, ha1⟩ : ∃ z, z = xs (k + 1) := ⟨_, rfl⟩
  obtain ⟨a2, ha2⟩ : ∃ z, z = xs (k + 2) := ⟨_, rfl⟩
  obtain ⟨a3, ha3⟩ : ∃ z, z = xs (k + 3) := ⟨_, rfl⟩
  refine lv_aload_n hx hb dL_law_128 rfl (lv_at hl 2 rfl) ?_
  refine lv_aload_n hx hb dL_law_129 rfl (lv_at hl 3 rfl) ?_
  refine lv_iload_n hx hb dL_law_130 rfl (lv_at hl 0 rfl) ?_
  refine lv_iconst (v := nI 1) hx hb dL_law_131 (by decide) ?_
  refine a_iadd hx hb dL_law_132 ?_
  refine va_sld hx hb hX hbl hbA h.2.2 (vin (show k + 1 < Ls by omega) (by omega)) dL_law_133 ?_
  refine cv_i (show (xs (nI (k + 1)).toNatClampNeg : Int32) = a1 from by rw [nI_clamp (by omega), ← ha1]) ?_
  refine lv_aload_n hx hb dL_law_134 rfl (lv_at hl 3 rfl) ?_
  refine lv_iload_n hx hb dL_law_135 rfl (lv_at hl 0 rfl) ?_
  refine lv_iconst (v := nI 2) hx hb dL_law_136 (by decide) ?_
  refine a_iadd hx hb dL_law_137 ?_
  refine va_sld hx hb hX hbl hbA h.2.2 (vin (show k + 2 < Ls by omega) (by omega)) dL_law_138 ?_
  refine cv_i (show (xs (nI (k + 2)).toNatClampNeg : Int32) = a2 from by rw [nI_clamp (by omega), ← ha2]) ?_
  refine lv_aload_n hx hb dL_law_139 rfl (lv_at hl 3 rfl) ?_
  refine lv_iload_n hx hb dL_law_140 rfl (lv_at hl 0 rfl) ?_
  refine lv_iconst (v := nI 3) hx hb dL_law_141 (by decide) ?_
  refine a_iadd hx hb dL_law_142 ?_
  refine va_sld hx hb hX hbl hbA h.2.2 (vin (show k + 3 < Ls by omega) (by omega)) dL_law_143 ?_
  refine cv_i (show (xs (nI (k + 3)).toNatClampNeg : Int32) = a3 from by rw [nI_clamp (by omega), ← ha3]) ?_
  have K : ∀ (σ1 : St) (H : Heap) (locs : List Loc), PC Lc Lm U H locs σ1 τ → CR σ1 (clX (mAdd X hh a1 a2 a3).2.1) ((mAdd X hh a1 a2 a3).2.2.map clX) t → W p l e room_1 U m #[Value.ref b] below meth c H locs 600000 7302250 (lw_Z below #[Value.ref b] s) (F0 m 147 ls [.int (mAdd X hh a1 a2 a3).1]) := by
    intro σ1 H locs h hc1
    refine lv_aload_n hx hb dL_law_147 rfl (lv_at hl 1 rfl) ?_
    refine lv_aload_n hx hb dL_law_148 rfl (lv_at hl 3 rfl) ?_
    refine lv_iload_n hx hb dL_law_149 rfl (lv_at hl 0 rfl) ?_
    refine lv_iconst (v := nI 1) hx hb dL_law_150 (by decide) ?_
    refine a_iadd hx hb dL_law_151 ?_
    refine va_sld hx hb hX hbl hbA h.2.2 (vin (show k + 1 < Ls by omega) (by omega)) dL_law_152 ?_
    refine cv_i (show (xs (nI (k + 1)).toNatClampNeg : Int32) = a1 from by rw [nI_clamp (by omega), ← ha1]) ?_
    refine lv_aload_n hx hb dL_law_153 rfl (lv_at hl 3 rfl) ?_
    refine lv_iload_n hx hb dL_law_154 rfl (lv_at hl 0 rfl) ?_
    refine lv_iconst (v := nI 2) hx hb dL_law_155 (by decide) ?_
    refine a_iadd hx hb dL_law_156 ?_
    refine va_sld hx hb hX hbl hbA h.2.2 (vin (show k + 2 < Ls by omega) (by omega)) dL_law_157 ?_
    refine cv_i (show (xs (nI (k + 2)).toNatClampNeg : Int32) = a2 from by rw [nI_clamp (by omega), ← ha2]) ?_
    refine lv_aload_n hx hb dL_law_158 rfl (lv_at hl 3 rfl) ?_
    refine lv_iload_n hx hb dL_law_159 rfl (lv_at hl 0 rfl) ?_
    refine lv_iconst (v := nI 3) hx hb dL_law_160 (by decide) ?_
    refine a_iadd hx hb dL_law_161 ?_
    refine va_sld hx hb hX hbl hbA h.2.2 (vin (show k + 3 < Ls by omega) (by omega)) dL_law_162 ?_
    refine cv_i (show (xs (nI (k + 3)).toNatClampNeg : Int32) = a3 from by rw [nI_clamp (by omega), ← ha3]) ?_
    refine lw_M S V h (As := [.int a1, .int a2, .int a3]) (c_X8_add l Lm τ hm hF.1 (fun Y hY => (hH Y hY).1) a1 a2 a3) q_642 q_643 q_644 q_10 q_645 yd_X8_add rfl ⟨⟨rfl, rfl⟩, ⟨(Nat.le_of_ble_eq_true rfl), (Nat.le_of_ble_eq_true rfl)⟩, (Nat.le_of_ble_eq_true rfl), (Nat.le_of_ble_eq_true rfl)⟩ rfl (Nat.le_of_ble_eq_true rfl) hl.1 dL_law_163 (fun r τ1 H locs hp h => ?_)
    obtain ⟨rfl, hm1⟩ := hp
    refine lv_icmp_eq (tgt := 698) hx hb dL_law_166 (by decide) (fun _ => ?_) (fun z => absurd rfl z)
    exact B ((mAdd X hh a1 a2 a3).2.1) ((mAdd X hh a1 a2 a3).2.2) t _ τ1 _ _ h hc1 hm1 (KX_add hF hH).1 (KX_add hF hH).2
  rcases rngx a1 with ⟨i1, hi1, rfl⟩ | e1
  · exact lw_C S V h (As := [.int (nI i1), .int a2, .int a3]) (c_X7_add l Lc σ hc (XI_cl hF.1) hi1 a2 a3) q_203 q_204 q_205 q_1 q_206 yd_X7_add rfl ⟨⟨rfl, rfl⟩, ⟨(Nat.le_of_ble_eq_true rfl), (Nat.le_of_ble_eq_true rfl)⟩, (Nat.le_of_ble_eq_true rfl), (Nat.le_of_ble_eq_true rfl)⟩ rfl (Nat.le_of_ble_eq_true rfl) hl.1 dL_law_144 (fun r σ1 H locs hp h => by rw [i_add hF hi1] at hp; obtain ⟨rfl, hc1⟩ := hp; exact K σ1 H locs h hc1)
  · rw [o_add e1] at K
    exact lw_C S V h (As := [.int a1, .int a2, .int a3]) (c_X7_add_n l Lc σ hc (XI_cl hF.1) e1 a2 a3) q_203 q_204 q_205 q_1 q_206 yd_X7_add rfl ⟨⟨rfl, rfl⟩, ⟨(Nat.le_of_ble_eq_true rfl), (Nat.le_of_ble_eq_true rfl)⟩, (Nat.le_of_ble_eq_true rfl), (Nat.le_of_ble_eq_true rfl)⟩ rfl (Nat.le_of_ble_eq_true rfl) hl.1 dL_law_144 (fun r σ1 H locs hp h => by obtain ⟨rfl, hc1⟩ := hp; exact K σ1 H locs h hc1)
set_option maxHeartbeats 4000000 in
set_option maxRecDepth 100000 in
theorem lc_pack {p : Program} {l : Launch} {e : Env} {s U : State} {m : MethodId} {below : List Frame} {meth : Method} {c : Code} {b Ls : Nat} {xs : Nat → Int32} {Lc Lm : Lay} {ls : Array Slot} {k : Nat} {X : SS} {hh : List SS} {t : List Int32} {σ : St} {τ : Me} {H : Heap} {locs : List Loc} (S : CallFix p m c cL_law 4 U #[Value.ref b] qA RL) (V : LV Lc Lm U) (hL : Ls ≤ 2048) (hX : va_X b Ls xs U U.heap) (hbl : b < U.heap.size) (hk4 : k + 4 ≤ Ls) (hl : lv_has ls 4 [(3, .int (nI k)), (2, .ref (ad Lm 0)), (1, .ref (ad Lc 244)), (0, .ref b)]) (hF : FX X) (hH : ∀ Y ∈ hh, FX Y) (hc : CR σ (clX X) (hh.map clX) t) (hm : MC τ X hh t) (h : PC Lc Lm U H locs σ τ) (B : ∀ (X : SS) (hh : List SS) (t : List Int32) (σ : St) (τ : Me) (H : Heap) (locs : List Loc), PC Lc Lm U H locs σ τ → CR σ (clX X) (hh.map clX) t → MC τ X hh t → FX X → (∀ Y ∈ hh, FX Y) → W p l e room_1 U m #[Value.ref b] below meth c H locs 600000 7302250 (lw_Z below #[Value.ref b] s) (F0 m 698 ls [])) : W p l e room_1 U m #[Value.ref b] below meth c H locs 600000 7302250 (lw_Z below #[Value.ref b] s) (F0 m 171 ls []) := by
  have hx := S.1
  have hb := S.2.1
  have hbA : ¬ (fun q : Nat => U.heap.size ≤ q) b := Nat.not_le.mpr hbl
  obtain ⟨a1, ha1⟩ : ∃ z, z = xs (k + 1) := ⟨_, rfl⟩
  refine lv_aload_n hx hb dL_law_171 rfl (lv_at hl 2 rfl) ?_
  refine lv_aload_n hx hb dL_law_172 rfl (lv_at hl 3 rfl) ?_
  refine lv_iload_n hx hb dL_law_173 rfl (lv_at hl 0 rfl) ?_
  refine lv_iconst (v := nI 1) hx hb dL_law_174 (by decide) ?_
  refine a_iadd hx hb dL_law_175 ?_
  refine va_sld hx hb hX hbl hbA h.2.2 (vin (show k + 1 < Ls by omega) (by omega)) dL_law_176 ?_
  refine cv_i (show (xs (nI (k + 1)).toNatClampNeg : Int32) = a1 from by rw [nI_clamp (by omega), ← ha1]) ?_
  have K : ∀ (σ1 : St) (H : Heap) (locs : List Loc), PC Lc Lm U H locs σ1 τ → CR σ1 (clX (mPack X hh a1).2.1) ((mPack X hh a1).2.2.map clX) t → W p l e room_1 U m #[Value.ref b] below meth c H locs 600000 7302250 (lw_Z below #[Value.ref b] s) (F0 m 180 ls [.int (mPack X hh a1).1]) := by
    intro σ1 H locs h hc1
    refine lv_aload_n hx hb dL_law_180 rfl (lv_at hl 1 rfl) ?_
    refine lv_aload_n hx hb dL_law_181 rfl (lv_at hl 3 rfl) ?_
    refine lv_iload_n hx hb dL_law_182 rfl (lv_at hl 0 rfl) ?_
    refine lv_iconst (v := nI 1) hx hb dL_law_183 (by decide) ?_
    refine a_iadd hx hb dL_law_184 ?_
    refine va_sld hx hb hX hbl hbA h.2.2 (vin (show k + 1 < Ls by omega) (by omega)) dL_law_185 ?_
    refine cv_i (show (xs (nI (k + 1)).toNatClampNeg : Int32) = a1 from by rw [nI_clamp (by omega), ← ha1]) ?_
    refine lw_M S V h (As := [.int a1]) (c_X8_pack l Lm τ hm hF.1 (fun Y hY => (hH Y hY).1) a1) q_721 q_722 q_723 q_10 q_724 yd_X8_pack rfl ⟨⟨rfl, rfl⟩, ⟨(Nat.le_of_ble_eq_true rfl), (Nat.le_of_ble_eq_true rfl)⟩, (Nat.le_of_ble_eq_true rfl), (Nat.le_of_ble_eq_true rfl)⟩ rfl (Nat.le_of_ble_eq_true rfl) hl.1 dL_law_186 (fun r τ1 H locs hp h => ?_)
    obtain ⟨rfl, hm1⟩ := hp
    refine lv_icmp_eq (tgt := 698) hx hb dL_law_189 (by decide) (fun _ => ?_) (fun z => absurd rfl z)
    exact B ((mPack X hh a1).2.1) ((mPack X hh a1).2.2) t _ τ1 _ _ h hc1 hm1 (KX_pack hF hH).1 (KX_pack hF hH).2
  rcases rngx a1 with ⟨i1, hi1, rfl⟩ | e1
  · exact lw_C S V h (As := [.int (nI i1)]) (c_X7_pack l Lc σ hc (XI_cl hF.1) hi1 ) q_345 q_346 q_347 q_1 q_348 yd_X7_pack rfl ⟨⟨rfl, rfl⟩, ⟨(Nat.le_of_ble_eq_true rfl), (Nat.le_of_ble_eq_true rfl)⟩, (Nat.le_of_ble_eq_true rfl), (Nat.le_of_ble_eq_true rfl)⟩ rfl (Nat.le_of_ble_eq_true rfl) hl.1 dL_law_177 (fun r σ1 H locs hp h => by rw [i_pack hi1] at hp; obtain ⟨rfl, hc1⟩ := hp; exact K σ1 H locs h hc1)
  · rw [o_pack e1] at K
    exact lw_C S V h (As := [.int a1]) (c_X7_pack_n l Lc σ hc (XI_cl hF.1) e1 ) q_345 q_346 q_347 q_1 q_348 yd_X7_pack rfl ⟨⟨rfl, rfl⟩, ⟨(Nat.le_of_ble_eq_true rfl), (Nat.le_of_ble_eq_true rfl)⟩, (Nat.le_of_ble_eq_true rfl), (Nat.le_of_ble_eq_true rfl)⟩ rfl (Nat.le_of_ble_eq_true rfl) hl.1 dL_law_177 (fun r σ1 H locs hp h => by obtain ⟨rfl, hc1⟩ := hp; exact K σ1 H locs h hc1)
set_option maxHeartbeats 4000000 in
set_option maxRecDepth 100000 in
theorem lc_join {p : Program} {l : Launch} {e : Env} {s U : State} {m : MethodId} {below : List Frame} {meth : Method} {c : Code} {b Ls : Nat} {xs : Nat → Int32} {Lc Lm : Lay} {ls : Array Slot} {k : Nat} {X : SS} {hh : List SS} {t : List Int32} {σ : St} {τ : Me} {H : Heap} {locs : List Loc} (S : CallFix p m c cL_law 4 U #[Value.ref b] qA RL) (V : LV Lc Lm U) (hL : Ls ≤ 2048) (hX : va_X b Ls xs U U.heap) (hbl : b < U.heap.size) (hk4 : k + 4 ≤ Ls) (hl : lv_has ls 4 [(3, .int (nI k)), (2, .ref (ad Lm 0)), (1, .ref (ad Lc 244)), (0, .ref b)]) (hF : FX X) (hH : ∀ Y ∈ hh, FX Y) (hc : CR σ (clX X) (hh.map clX) t) (hm : MC τ X hh t) (h : PC Lc Lm U H locs σ τ) (B : ∀ (X : SS) (hh : List SS) (t : List Int32) (σ : St) (τ : Me) (H : Heap) (locs : List Loc), PC Lc Lm U H locs σ τ → CR σ (clX X) (hh.map clX) t → MC τ X hh t → FX X → (∀ Y ∈ hh, FX Y) → W p l e room_1 U m #[Value.ref b] below meth c H locs 600000 7302250 (lw_Z below #[Value.ref b] s) (F0 m 698 ls [])) : W p l e room_1 U m #[Value.ref b] below meth c H locs 600000 7302250 (lw_Z below #[Value.ref b] s) (F0 m 194 ls []) := by
  have hx := S.1
  have hb := S.2.1
  have hbA : ¬ (fun q : Nat => U.heap.size ≤ q) b := Nat.not_le.mpr hbl
  obtain ⟨a1, ha1⟩ : ∃ z, z = xs (k + 1) := ⟨_, rfl⟩
  obtain ⟨a2, ha2⟩ : ∃ z, z = xs (k + 2) := ⟨_, rfl⟩
  refine lv_aload_n hx hb dL_law_194 rfl (lv_at hl 2 rfl) ?_
  refine lv_aload_n hx hb dL_law_195 rfl (lv_at hl 3 rfl) ?_
  refine lv_iload_n hx hb dL_law_196 rfl (lv_at hl 0 rfl) ?_
  refine lv_iconst (v := nI 1) hx hb dL_law_197 (by decide) ?_
  refine a_iadd hx hb dL_law_198 ?_
  refine va_sld hx hb hX hbl hbA h.2.2 (vin (show k + 1 < Ls by omega) (by omega)) dL_law_199 ?_
  refine cv_i (show (xs (nI (k + 1)).toNatClampNeg : Int32) = a1 from by rw [nI_clamp (by omega), ← ha1]) ?_
  refine lv_aload_n hx hb dL_law_200 rfl (lv_at hl 3 rfl) ?_
  refine lv_iload_n hx hb dL_law_201 rfl (lv_at hl 0 rfl) ?_
  refine lv_iconst (v := nI 2) hx hb dL_law_202 (by decide) ?_
  refine a_iadd hx hb dL_law_203 ?_
  refine va_sld hx hb hX hbl hbA h.2.2 (vin (show k + 2 < Ls by omega) (by omega)) dL_law_204 ?_
  refine cv_i (show (xs (nI (k + 2)).toNatClampNeg : Int32) = a2 from by rw [nI_clamp (by omega), ← ha2]) ?_
  have K : ∀ (σ1 : St) (H : Heap) (locs : List Loc), PC Lc Lm U H locs σ1 τ → CR σ1 (clX (mJoin X hh a1 a2).2.1) ((mJoin X hh a1 a2).2.2.map clX) t → W p l e room_1 U m #[Value.ref b] below meth c H locs 600000 7302250 (lw_Z below #[Value.ref b] s) (F0 m 208 ls [.int (mJoin X hh a1 a2).1]) := by
    intro σ1 H locs h hc1
    refine lv_aload_n hx hb dL_law_208 rfl (lv_at hl 1 rfl) ?_
    refine lv_aload_n hx hb dL_law_209 rfl (lv_at hl 3 rfl) ?_
    refine lv_iload_n hx hb dL_law_210 rfl (lv_at hl 0 rfl) ?_
    refine lv_iconst (v := nI 1) hx hb dL_law_211 (by decide) ?_
    refine a_iadd hx hb dL_law_212 ?_
    refine va_sld hx hb hX hbl hbA h.2.2 (vin (show k + 1 < Ls by omega) (by omega)) dL_law_213 ?_
    refine cv_i (show (xs (nI (k + 1)).toNatClampNeg : Int32) = a1 from by rw [nI_clamp (by omega), ← ha1]) ?_
    refine lv_aload_n hx hb dL_law_214 rfl (lv_at hl 3 rfl) ?_
    refine lv_iload_n hx hb dL_law_215 rfl (lv_at hl 0 rfl) ?_
    refine lv_iconst (v := nI 2) hx hb dL_law_216 (by decide) ?_
    refine a_iadd hx hb dL_law_217 ?_
    refine va_sld hx hb hX hbl hbA h.2.2 (vin (show k + 2 < Ls by omega) (by omega)) dL_law_218 ?_
    refine cv_i (show (xs (nI (k + 2)).toNatClampNeg : Int32) = a2 from by rw [nI_clamp (by omega), ← ha2]) ?_
    refine lw_M S V h (As := [.int a1, .int a2]) (c_X8_join l Lm τ hm hF.1 (fun Y hY => (hH Y hY).1) a1 a2) q_725 q_726 q_727 q_10 q_728 yd_X8_join rfl ⟨⟨rfl, rfl⟩, ⟨(Nat.le_of_ble_eq_true rfl), (Nat.le_of_ble_eq_true rfl)⟩, (Nat.le_of_ble_eq_true rfl), (Nat.le_of_ble_eq_true rfl)⟩ rfl (Nat.le_of_ble_eq_true rfl) hl.1 dL_law_219 (fun r τ1 H locs hp h => ?_)
    obtain ⟨rfl, hm1⟩ := hp
    refine lv_icmp_eq (tgt := 698) hx hb dL_law_222 (by decide) (fun _ => ?_) (fun z => absurd rfl z)
    exact B ((mJoin X hh a1 a2).2.1) ((mJoin X hh a1 a2).2.2) t _ τ1 _ _ h hc1 hm1 (KX_join hF hH).1 (KX_join hF hH).2
  rcases rngx a1 with ⟨i1, hi1, rfl⟩ | e1 <;> rcases rngx a2 with ⟨i2, hi2, rfl⟩ | e2
  · exact lw_C S V h (As := [.int (nI i1), .int (nI i2)]) (c_X7_join l Lc σ hc (XI_cl hF.1) hi1 hi2) q_352 q_353 q_354 q_1 q_355 yd_X7_join rfl ⟨⟨rfl, rfl⟩, ⟨(Nat.le_of_ble_eq_true rfl), (Nat.le_of_ble_eq_true rfl)⟩, (Nat.le_of_ble_eq_true rfl), (Nat.le_of_ble_eq_true rfl)⟩ rfl (Nat.le_of_ble_eq_true rfl) hl.1 dL_law_205 (fun r σ1 H locs hp h => by rw [i_join hF hi1 hi2] at hp; obtain ⟨rfl, hc1⟩ := hp; exact K σ1 H locs h hc1)
  · rw [o_join2 hi1 e2] at K
    exact lw_C S V h (As := [.int (nI i1), .int a2]) (c_X7_join_n2 l Lc σ hc (XI_cl hF.1) hi1 e2) q_352 q_353 q_354 q_1 q_355 yd_X7_join rfl ⟨⟨rfl, rfl⟩, ⟨(Nat.le_of_ble_eq_true rfl), (Nat.le_of_ble_eq_true rfl)⟩, (Nat.le_of_ble_eq_true rfl), (Nat.le_of_ble_eq_true rfl)⟩ rfl (Nat.le_of_ble_eq_true rfl) hl.1 dL_law_205 (fun r σ1 H locs hp h => by obtain ⟨rfl, hc1⟩ := hp; exact K σ1 H locs h hc1)
  · rw [o_join1 e1] at K
    exact lw_C S V h (As := [.int a1, .int (nI i2)]) (c_X7_join_n1 l Lc σ hc (XI_cl hF.1) e1 hi2) q_352 q_353 q_354 q_1 q_355 yd_X7_join rfl ⟨⟨rfl, rfl⟩, ⟨(Nat.le_of_ble_eq_true rfl), (Nat.le_of_ble_eq_true rfl)⟩, (Nat.le_of_ble_eq_true rfl), (Nat.le_of_ble_eq_true rfl)⟩ rfl (Nat.le_of_ble_eq_true rfl) hl.1 dL_law_205 (fun r σ1 H locs hp h => by obtain ⟨rfl, hc1⟩ := hp; exact K σ1 H locs h hc1)
  · rw [o_join1 e1] at K
    exact lw_C S V h (As := [.int a1, .int a2]) (c_X7_join_n3 l Lc σ hc (XI_cl hF.1) e1 e2) q_352 q_353 q_354 q_1 q_355 yd_X7_join rfl ⟨⟨rfl, rfl⟩, ⟨(Nat.le_of_ble_eq_true rfl), (Nat.le_of_ble_eq_true rfl)⟩, (Nat.le_of_ble_eq_true rfl), (Nat.le_of_ble_eq_true rfl)⟩ rfl (Nat.le_of_ble_eq_true rfl) hl.1 dL_law_205 (fun r σ1 H locs hp h => by obtain ⟨rfl, hc1⟩ := hp; exact K σ1 H locs h hc1)
set_option maxHeartbeats 4000000 in
set_option maxRecDepth 100000 in
theorem lc_clear {p : Program} {l : Launch} {e : Env} {s U : State} {m : MethodId} {below : List Frame} {meth : Method} {c : Code} {b Ls : Nat} {xs : Nat → Int32} {Lc Lm : Lay} {ls : Array Slot} {k : Nat} {X : SS} {hh : List SS} {t : List Int32} {σ : St} {τ : Me} {H : Heap} {locs : List Loc} (S : CallFix p m c cL_law 4 U #[Value.ref b] qA RL) (V : LV Lc Lm U) (hL : Ls ≤ 2048) (hX : va_X b Ls xs U U.heap) (hbl : b < U.heap.size) (hk4 : k + 4 ≤ Ls) (hl : lv_has ls 4 [(3, .int (nI k)), (2, .ref (ad Lm 0)), (1, .ref (ad Lc 244)), (0, .ref b)]) (hF : FX X) (hH : ∀ Y ∈ hh, FX Y) (hc : CR σ (clX X) (hh.map clX) t) (hm : MC τ X hh t) (h : PC Lc Lm U H locs σ τ) (B : ∀ (X : SS) (hh : List SS) (t : List Int32) (σ : St) (τ : Me) (H : Heap) (locs : List Loc), PC Lc Lm U H locs σ τ → CR σ (clX X) (hh.map clX) t → MC τ X hh t → FX X → (∀ Y ∈ hh, FX Y) → W p l e room_1 U m #[Value.ref b] below meth c H locs 600000 7302250 (lw_Z below #[Value.ref b] s) (F0 m 698 ls [])) : W p l e room_1 U m #[Value.ref b] below meth c H locs 600000 7302250 (lw_Z below #[Value.ref b] s) (F0 m 227 ls []) := by
  have hx := S.1
  have hb := S.2.1
  have hbA : ¬ (fun q : Nat => U.heap.size ≤ q) b := Nat.not_le.mpr hbl
  obtain ⟨a1, ha1⟩ : ∃ z, z = xs (k + 1) := ⟨_, rfl⟩
  refine lv_aload_n hx hb dL_law_227 rfl (lv_at hl 2 rfl) ?_
  refine lv_aload_n hx hb dL_law_228 rfl (lv_at hl 3 rfl) ?_
  refine lv_iload_n hx hb dL_law_229 rfl (lv_at hl 0 rfl) ?_
  refine lv_iconst (v := nI 1) hx hb dL_law_230 (by decide) ?_
  refine a_iadd hx hb dL_law_231 ?_
  refine va_sld hx hb hX hbl hbA h.2.2 (vin (show k + 1 < Ls by omega) (by omega)) dL_law_232 ?_
  refine cv_i (show (xs (nI (k + 1)).toNatClampNeg : Int32) = a1 from by rw [nI_clamp (by omega), ← ha1]) ?_
  have K : ∀ (σ1 : St) (H : Heap) (locs : List Loc), PC Lc Lm U H locs σ1 τ → CR σ1 (clX (mClear X hh a1).2.1) ((mClear X hh a1).2.2.map clX) t → W p l e room_1 U m #[Value.ref b] below meth c H locs 600000 7302250 (lw_Z below #[Value.ref b] s) (F0 m 236 ls [.int (mClear X hh a1).1]) := by
    intro σ1 H locs h hc1
    refine lv_aload_n hx hb dL_law_236 rfl (lv_at hl 1 rfl) ?_
    refine lv_aload_n hx hb dL_law_237 rfl (lv_at hl 3 rfl) ?_
    refine lv_iload_n hx hb dL_law_238 rfl (lv_at hl 0 rfl) ?_
    refine lv_iconst (v := nI 1) hx hb dL_law_239 (by decide) ?_
    refine a_iadd hx hb dL_law_240 ?_
    refine va_sld hx hb hX hbl hbA h.2.2 (vin (show k + 1 < Ls by omega) (by omega)) dL_law_241 ?_
    refine cv_i (show (xs (nI (k + 1)).toNatClampNeg : Int32) = a1 from by rw [nI_clamp (by omega), ← ha1]) ?_
    refine lw_M S V h (As := [.int a1]) (c_X8_clear l Lm τ hm hF.1 (fun Y hY => (hH Y hY).1) a1) q_729 q_730 q_731 q_10 q_732 yd_X8_clear rfl ⟨⟨rfl, rfl⟩, ⟨(Nat.le_of_ble_eq_true rfl), (Nat.le_of_ble_eq_true rfl)⟩, (Nat.le_of_ble_eq_true rfl), (Nat.le_of_ble_eq_true rfl)⟩ rfl (Nat.le_of_ble_eq_true rfl) hl.1 dL_law_242 (fun r τ1 H locs hp h => ?_)
    obtain ⟨rfl, hm1⟩ := hp
    refine lv_icmp_eq (tgt := 698) hx hb dL_law_245 (by decide) (fun _ => ?_) (fun z => absurd rfl z)
    exact B ((mClear X hh a1).2.1) ((mClear X hh a1).2.2) t _ τ1 _ _ h hc1 hm1 (KX_clear hF hH).1 (KX_clear hF hH).2
  rcases rngx a1 with ⟨i1, hi1, rfl⟩ | e1
  · exact lw_C S V h (As := [.int (nI i1)]) (c_X7_clear l Lc σ hc (XI_cl hF.1) hi1 ) q_368 q_369 q_370 q_1 q_371 yd_X7_clear rfl ⟨⟨rfl, rfl⟩, ⟨(Nat.le_of_ble_eq_true rfl), (Nat.le_of_ble_eq_true rfl)⟩, (Nat.le_of_ble_eq_true rfl), (Nat.le_of_ble_eq_true rfl)⟩ rfl (Nat.le_of_ble_eq_true rfl) hl.1 dL_law_233 (fun r σ1 H locs hp h => by rw [i_clear hi1] at hp; obtain ⟨rfl, hc1⟩ := hp; exact K σ1 H locs h hc1)
  · rw [o_clear e1] at K
    exact lw_C S V h (As := [.int a1]) (c_X7_clear_n l Lc σ hc (XI_cl hF.1) e1 ) q_368 q_369 q_370 q_1 q_371 yd_X7_clear rfl ⟨⟨rfl, rfl⟩, ⟨(Nat.le_of_ble_eq_true rfl), (Nat.le_of_ble_eq_true rfl)⟩, (Nat.le_of_ble_eq_true rfl), (Nat.le_of_ble_eq_true rfl)⟩ rfl (Nat.le_of_ble_eq_true rfl) hl.1 dL_law_233 (fun r σ1 H locs hp h => by obtain ⟨rfl, hc1⟩ := hp; exact K σ1 H locs h hc1)
set_option maxHeartbeats 4000000 in
set_option maxRecDepth 100000 in
theorem lc_set {p : Program} {l : Launch} {e : Env} {s U : State} {m : MethodId} {below : List Frame} {meth : Method} {c : Code} {b Ls : Nat} {xs : Nat → Int32} {Lc Lm : Lay} {ls : Array Slot} {k : Nat} {X : SS} {hh : List SS} {t : List Int32} {σ : St} {τ : Me} {H : Heap} {locs : List Loc} (S : CallFix p m c cL_law 4 U #[Value.ref b] qA RL) (V : LV Lc Lm U) (hL : Ls ≤ 2048) (hX : va_X b Ls xs U U.heap) (hbl : b < U.heap.size) (hk4 : k + 4 ≤ Ls) (hl : lv_has ls 4 [(3, .int (nI k)), (2, .ref (ad Lm 0)), (1, .ref (ad Lc 244)), (0, .ref b)]) (hF : FX X) (hH : ∀ Y ∈ hh, FX Y) (hc : CR σ (clX X) (hh.map clX) t) (hm : MC τ X hh t) (h : PC Lc Lm U H locs σ τ) (B : ∀ (X : SS) (hh : List SS) (t : List Int32) (σ : St) (τ : Me) (H : Heap) (locs : List Loc), PC Lc Lm U H locs σ τ → CR σ (clX X) (hh.map clX) t → MC τ X hh t → FX X → (∀ Y ∈ hh, FX Y) → W p l e room_1 U m #[Value.ref b] below meth c H locs 600000 7302250 (lw_Z below #[Value.ref b] s) (F0 m 698 ls [])) : W p l e room_1 U m #[Value.ref b] below meth c H locs 600000 7302250 (lw_Z below #[Value.ref b] s) (F0 m 250 ls []) := by
  have hx := S.1
  have hb := S.2.1
  have hbA : ¬ (fun q : Nat => U.heap.size ≤ q) b := Nat.not_le.mpr hbl
  obtain ⟨a1, ha1⟩ : ∃ z, z = xs (k + 1) := ⟨_, rfl⟩
  obtain ⟨a2, ha2⟩ : ∃ z, z = xs (k + 2) := ⟨_, rfl⟩
  refine lv_aload_n hx hb dL_law_250 rfl (lv_at hl 2 rfl) ?_
  refine lv_aload_n hx hb dL_law_251 rfl (lv_at hl 3 rfl) ?_
  refine lv_iload_n hx hb dL_law_252 rfl (lv_at hl 0 rfl) ?_
  refine lv_iconst (v := nI 1) hx hb dL_law_253 (by decide) ?_
  refine a_iadd hx hb dL_law_254 ?_
  refine va_sld hx hb hX hbl hbA h.2.2 (vin (show k + 1 < Ls by omega) (by omega)) dL_law_255 ?_
  refine cv_i (show (xs (nI (k + 1)).toNatClampNeg : Int32) = a1 from by rw [nI_clamp (by omega), ← ha1]) ?_
  refine lv_aload_n hx hb dL_law_256 rfl (lv_at hl 3 rfl) ?_
  refine lv_iload_n hx hb dL_law_257 rfl (lv_at hl 0 rfl) ?_
  refine lv_iconst (v := nI 2) hx hb dL_law_258 (by decide) ?_
  refine a_iadd hx hb dL_law_259 ?_
  refine va_sld hx hb hX hbl hbA h.2.2 (vin (show k + 2 < Ls by omega) (by omega)) dL_law_260 ?_
  refine cv_i (show (xs (nI (k + 2)).toNatClampNeg : Int32) = a2 from by rw [nI_clamp (by omega), ← ha2]) ?_
  have K : ∀ (σ1 : St) (H : Heap) (locs : List Loc), PC Lc Lm U H locs σ1 τ → CR σ1 (clX (cSet X hh a1 a2).2.1) ((cSet X hh a1 a2).2.2.map clX) t → W p l e room_1 U m #[Value.ref b] below meth c H locs 600000 7302250 (lw_Z below #[Value.ref b] s) (F0 m 264 ls [.int (cSet X hh a1 a2).1]) := by
    intro σ1 H locs h hc1
    refine lv_aload_n hx hb dL_law_264 rfl (lv_at hl 1 rfl) ?_
    refine lv_aload_n hx hb dL_law_265 rfl (lv_at hl 3 rfl) ?_
    refine lv_iload_n hx hb dL_law_266 rfl (lv_at hl 0 rfl) ?_
    refine lv_iconst (v := nI 1) hx hb dL_law_267 (by decide) ?_
    refine a_iadd hx hb dL_law_268 ?_
    refine va_sld hx hb hX hbl hbA h.2.2 (vin (show k + 1 < Ls by omega) (by omega)) dL_law_269 ?_
    refine cv_i (show (xs (nI (k + 1)).toNatClampNeg : Int32) = a1 from by rw [nI_clamp (by omega), ← ha1]) ?_
    refine lv_aload_n hx hb dL_law_270 rfl (lv_at hl 3 rfl) ?_
    refine lv_iload_n hx hb dL_law_271 rfl (lv_at hl 0 rfl) ?_
    refine lv_iconst (v := nI 2) hx hb dL_law_272 (by decide) ?_
    refine a_iadd hx hb dL_law_273 ?_
    refine va_sld hx hb hX hbl hbA h.2.2 (vin (show k + 2 < Ls by omega) (by omega)) dL_law_274 ?_
    refine cv_i (show (xs (nI (k + 2)).toNatClampNeg : Int32) = a2 from by rw [nI_clamp (by omega), ← ha2]) ?_
    refine lw_M S V h (As := [.int a1, .int a2]) (c_X8_set l Lm τ hm hF.1 (fun Y hY => (hH Y hY).1) a1 a2) q_733 q_734 q_735 q_10 q_736 yd_X8_set rfl ⟨⟨rfl, rfl⟩, ⟨(Nat.le_of_ble_eq_true rfl), (Nat.le_of_ble_eq_true rfl)⟩, (Nat.le_of_ble_eq_true rfl), (Nat.le_of_ble_eq_true rfl)⟩ rfl (Nat.le_of_ble_eq_true rfl) hl.1 dL_law_275 (fun r τ1 H locs hp h => ?_)
    obtain ⟨rfl, hm1⟩ := hp
    refine lv_icmp_eq (tgt := 698) hx hb dL_law_278 (by decide) (fun _ => ?_) (fun z => absurd rfl z)
    exact B ((cSet X hh a1 a2).2.1) ((cSet X hh a1 a2).2.2) t _ τ1 _ _ h hc1 hm1 (KX_set hF hH).1 (KX_set hF hH).2
  exact lw_C S V h (As := [.int a1, .int a2]) (c_X7_set l Lc σ hc (XI_cl hF.1) a1 a2) q_381 q_382 q_383 q_1 q_384 yd_X7_set rfl ⟨⟨rfl, rfl⟩, ⟨(Nat.le_of_ble_eq_true rfl), (Nat.le_of_ble_eq_true rfl)⟩, (Nat.le_of_ble_eq_true rfl), (Nat.le_of_ble_eq_true rfl)⟩ rfl (Nat.le_of_ble_eq_true rfl) hl.1 dL_law_261 (fun r σ1 H locs hp h => by rw [eq_set] at hp; obtain ⟨rfl, hc1⟩ := hp; exact K σ1 H locs h hc1)
set_option maxHeartbeats 4000000 in
set_option maxRecDepth 100000 in
theorem lc_heapOf {p : Program} {l : Launch} {e : Env} {s U : State} {m : MethodId} {below : List Frame} {meth : Method} {c : Code} {b Ls : Nat} {xs : Nat → Int32} {Lc Lm : Lay} {ls : Array Slot} {k : Nat} {X : SS} {hh : List SS} {t : List Int32} {σ : St} {τ : Me} {H : Heap} {locs : List Loc} (S : CallFix p m c cL_law 4 U #[Value.ref b] qA RL) (V : LV Lc Lm U) (hL : Ls ≤ 2048) (hX : va_X b Ls xs U U.heap) (hbl : b < U.heap.size) (hk4 : k + 4 ≤ Ls) (hl : lv_has ls 4 [(3, .int (nI k)), (2, .ref (ad Lm 0)), (1, .ref (ad Lc 244)), (0, .ref b)]) (hF : FX X) (hH : ∀ Y ∈ hh, FX Y) (hc : CR σ (clX X) (hh.map clX) t) (hm : MC τ X hh t) (h : PC Lc Lm U H locs σ τ) (B : ∀ (X : SS) (hh : List SS) (t : List Int32) (σ : St) (τ : Me) (H : Heap) (locs : List Loc), PC Lc Lm U H locs σ τ → CR σ (clX X) (hh.map clX) t → MC τ X hh t → FX X → (∀ Y ∈ hh, FX Y) → W p l e room_1 U m #[Value.ref b] below meth c H locs 600000 7302250 (lw_Z below #[Value.ref b] s) (F0 m 698 ls [])) : W p l e room_1 U m #[Value.ref b] below meth c H locs 600000 7302250 (lw_Z below #[Value.ref b] s) (F0 m 283 ls []) := by
  have hx := S.1
  have hb := S.2.1
  have hbA : ¬ (fun q : Nat => U.heap.size ≤ q) b := Nat.not_le.mpr hbl
  obtain ⟨a1, ha1⟩ : ∃ z, z = xs (k + 1) := ⟨_, rfl⟩
  obtain ⟨a2, ha2⟩ : ∃ z, z = xs (k + 2) := ⟨_, rfl⟩
  obtain ⟨a3, ha3⟩ : ∃ z, z = xs (k + 3) := ⟨_, rfl⟩
  refine lv_aload_n hx hb dL_law_283 rfl (lv_at hl 2 rfl) ?_
  refine lv_aload_n hx hb dL_law_284 rfl (lv_at hl 3 rfl) ?_
  refine lv_iload_n hx hb dL_law_285 rfl (lv_at hl 0 rfl) ?_
  refine lv_iconst (v := nI 1) hx hb dL_law_286 (by decide) ?_
  refine a_iadd hx hb dL_law_287 ?_
  refine va_sld hx hb hX hbl hbA h.2.2 (vin (show k + 1 < Ls by omega) (by omega)) dL_law_288 ?_
  refine cv_i (show (xs (nI (k + 1)).toNatClampNeg : Int32) = a1 from by rw [nI_clamp (by omega), ← ha1]) ?_
  refine lv_aload_n hx hb dL_law_289 rfl (lv_at hl 3 rfl) ?_
  refine lv_iload_n hx hb dL_law_290 rfl (lv_at hl 0 rfl) ?_
  refine lv_iconst (v := nI 2) hx hb dL_law_291 (by decide) ?_
  refine a_iadd hx hb dL_law_292 ?_
  refine va_sld hx hb hX hbl hbA h.2.2 (vin (show k + 2 < Ls by omega) (by omega)) dL_law_293 ?_
  refine cv_i (show (xs (nI (k + 2)).toNatClampNeg : Int32) = a2 from by rw [nI_clamp (by omega), ← ha2]) ?_
  refine lv_aload_n hx hb dL_law_294 rfl (lv_at hl 3 rfl) ?_
  refine lv_iload_n hx hb dL_law_295 rfl (lv_at hl 0 rfl) ?_
  refine lv_iconst (v := nI 3) hx hb dL_law_296 (by decide) ?_
  refine a_iadd hx hb dL_law_297 ?_
  refine va_sld hx hb hX hbl hbA h.2.2 (vin (show k + 3 < Ls by omega) (by omega)) dL_law_298 ?_
  refine cv_i (show (xs (nI (k + 3)).toNatClampNeg : Int32) = a3 from by rw [nI_clamp (by omega), ← ha3]) ?_
  have K : ∀ (σ1 : St) (H : Heap) (locs : List Loc), PC Lc Lm U H locs σ1 τ → CR σ1 (clX X) (hh.map clX) t → W p l e room_1 U m #[Value.ref b] below meth c H locs 600000 7302250 (lw_Z below #[Value.ref b] s) (F0 m 302 ls [.int (mHo X a1 a2 a3)]) := by
    intro σ1 H locs h hc1
    refine lv_aload_n hx hb dL_law_302 rfl (lv_at hl 1 rfl) ?_
    refine lv_aload_n hx hb dL_law_303 rfl (lv_at hl 3 rfl) ?_
    refine lv_iload_n hx hb dL_law_304 rfl (lv_at hl 0 rfl) ?_
    refine lv_iconst (v := nI 1) hx hb dL_law_305 (by decide) ?_
    refine a_iadd hx hb dL_law_306 ?_
    refine va_sld hx hb hX hbl hbA h.2.2 (vin (show k + 1 < Ls by omega) (by omega)) dL_law_307 ?_
    refine cv_i (show (xs (nI (k + 1)).toNatClampNeg : Int32) = a1 from by rw [nI_clamp (by omega), ← ha1]) ?_
    refine lv_aload_n hx hb dL_law_308 rfl (lv_at hl 3 rfl) ?_
    refine lv_iload_n hx hb dL_law_309 rfl (lv_at hl 0 rfl) ?_
    refine lv_iconst (v := nI 2) hx hb dL_law_310 (by decide) ?_
    refine a_iadd hx hb dL_law_311 ?_
    refine va_sld hx hb hX hbl hbA h.2.2 (vin (show k + 2 < Ls by omega) (by omega)) dL_law_312 ?_
    refine cv_i (show (xs (nI (k + 2)).toNatClampNeg : Int32) = a2 from by rw [nI_clamp (by omega), ← ha2]) ?_
    refine lv_aload_n hx hb dL_law_313 rfl (lv_at hl 3 rfl) ?_
    refine lv_iload_n hx hb dL_law_314 rfl (lv_at hl 0 rfl) ?_
    refine lv_iconst (v := nI 3) hx hb dL_law_315 (by decide) ?_
    refine a_iadd hx hb dL_law_316 ?_
    refine va_sld hx hb hX hbl hbA h.2.2 (vin (show k + 3 < Ls by omega) (by omega)) dL_law_317 ?_
    refine cv_i (show (xs (nI (k + 3)).toNatClampNeg : Int32) = a3 from by rw [nI_clamp (by omega), ← ha3]) ?_
    refine lw_M S V h (As := [.int a1, .int a2, .int a3]) (c_X8_heapOf l Lm τ hm hF.1 (fun Y hY => (hH Y hY).1) a1 a2 a3) q_737 q_738 q_739 q_10 q_740 yd_X8_heapOf rfl ⟨⟨rfl, rfl⟩, ⟨(Nat.le_of_ble_eq_true rfl), (Nat.le_of_ble_eq_true rfl)⟩, (Nat.le_of_ble_eq_true rfl), (Nat.le_of_ble_eq_true rfl)⟩ rfl (Nat.le_of_ble_eq_true rfl) hl.1 dL_law_318 (fun r τ1 H locs hp h => ?_)
    obtain ⟨rfl, hm1⟩ := hp
    refine lv_icmp_eq (tgt := 698) hx hb dL_law_321 (by decide) (fun _ => ?_) (fun z => absurd rfl z)
    exact B X hh t _ τ1 _ _ h hc1 hm1 hF hH
  rcases rngx a1 with ⟨i1, hi1, rfl⟩ | e1
  · exact lw_C S V h (As := [.int (nI i1), .int a2, .int a3]) (c_X7_heapOf l Lc σ hc (XI_cl hF.1) hi1 (fun x hx9 => (hF.1.1 i1 hi1).2.1 x hx9) a2 a3) q_389 q_390 q_391 q_1 q_392 yd_X7_heapOf rfl ⟨⟨rfl, rfl⟩, ⟨(Nat.le_of_ble_eq_true rfl), (Nat.le_of_ble_eq_true rfl)⟩, (Nat.le_of_ble_eq_true rfl), (Nat.le_of_ble_eq_true rfl)⟩ rfl (Nat.le_of_ble_eq_true rfl) hl.1 dL_law_299 (fun r σ1 H locs hp h => by rw [i_heapOf hi1] at hp; obtain ⟨rfl, hc1⟩ := hp; exact K σ1 H locs h hc1)
  · rw [o_heapOf e1] at K
    exact lw_C S V h (As := [.int a1, .int a2, .int a3]) (c_X7_heapOf_n l Lc σ hc (XI_cl hF.1) e1 a2 a3) q_389 q_390 q_391 q_1 q_392 yd_X7_heapOf rfl ⟨⟨rfl, rfl⟩, ⟨(Nat.le_of_ble_eq_true rfl), (Nat.le_of_ble_eq_true rfl)⟩, (Nat.le_of_ble_eq_true rfl), (Nat.le_of_ble_eq_true rfl)⟩ rfl (Nat.le_of_ble_eq_true rfl) hl.1 dL_law_299 (fun r σ1 H locs hp h => by obtain ⟨rfl, hc1⟩ := hp; exact K σ1 H locs h hc1)
set_option maxHeartbeats 4000000 in
set_option maxRecDepth 100000 in
theorem lc_bufferOf {p : Program} {l : Launch} {e : Env} {s U : State} {m : MethodId} {below : List Frame} {meth : Method} {c : Code} {b Ls : Nat} {xs : Nat → Int32} {Lc Lm : Lay} {ls : Array Slot} {k : Nat} {X : SS} {hh : List SS} {t : List Int32} {σ : St} {τ : Me} {H : Heap} {locs : List Loc} (S : CallFix p m c cL_law 4 U #[Value.ref b] qA RL) (V : LV Lc Lm U) (hL : Ls ≤ 2048) (hX : va_X b Ls xs U U.heap) (hbl : b < U.heap.size) (hk4 : k + 4 ≤ Ls) (hl : lv_has ls 4 [(3, .int (nI k)), (2, .ref (ad Lm 0)), (1, .ref (ad Lc 244)), (0, .ref b)]) (hF : FX X) (hH : ∀ Y ∈ hh, FX Y) (hc : CR σ (clX X) (hh.map clX) t) (hm : MC τ X hh t) (h : PC Lc Lm U H locs σ τ) (B : ∀ (X : SS) (hh : List SS) (t : List Int32) (σ : St) (τ : Me) (H : Heap) (locs : List Loc), PC Lc Lm U H locs σ τ → CR σ (clX X) (hh.map clX) t → MC τ X hh t → FX X → (∀ Y ∈ hh, FX Y) → W p l e room_1 U m #[Value.ref b] below meth c H locs 600000 7302250 (lw_Z below #[Value.ref b] s) (F0 m 698 ls [])) : W p l e room_1 U m #[Value.ref b] below meth c H locs 600000 7302250 (lw_Z below #[Value.ref b] s) (F0 m 326 ls []) := by
  have hx := S.1
  have hb := S.2.1
  have hbA : ¬ (fun q : Nat => U.heap.size ≤ q) b := Nat.not_le.mpr hbl
  obtain ⟨a1, ha1⟩ : ∃ z, z = xs (k + 1) := ⟨_, rfl⟩
  obtain ⟨a2, ha2⟩ : ∃ z, z = xs (k + 2) := ⟨_, rfl⟩
  refine lv_aload_n hx hb dL_law_326 rfl (lv_at hl 2 rfl) ?_
  refine lv_aload_n hx hb dL_law_327 rfl (lv_at hl 3 rfl) ?_
  refine lv_iload_n hx hb dL_law_328 rfl (lv_at hl 0 rfl) ?_
  refine lv_iconst (v := nI 1) hx hb dL_law_329 (by decide) ?_
  refine a_iadd hx hb dL_law_330 ?_
  refine va_sld hx hb hX hbl hbA h.2.2 (vin (show k + 1 < Ls by omega) (by omega)) dL_law_331 ?_
  refine cv_i (show (xs (nI (k + 1)).toNatClampNeg : Int32) = a1 from by rw [nI_clamp (by omega), ← ha1]) ?_
  refine lv_aload_n hx hb dL_law_332 rfl (lv_at hl 3 rfl) ?_
  refine lv_iload_n hx hb dL_law_333 rfl (lv_at hl 0 rfl) ?_
  refine lv_iconst (v := nI 2) hx hb dL_law_334 (by decide) ?_
  refine a_iadd hx hb dL_law_335 ?_
  refine va_sld hx hb hX hbl hbA h.2.2 (vin (show k + 2 < Ls by omega) (by omega)) dL_law_336 ?_
  refine cv_i (show (xs (nI (k + 2)).toNatClampNeg : Int32) = a2 from by rw [nI_clamp (by omega), ← ha2]) ?_
  have K : ∀ (σ1 : St) (H : Heap) (locs : List Loc), PC Lc Lm U H locs σ1 τ → CR σ1 (clX X) (hh.map clX) t → W p l e room_1 U m #[Value.ref b] below meth c H locs 600000 7302250 (lw_Z below #[Value.ref b] s) (F0 m 340 ls [.int (mBuf X a1 a2)]) := by
    intro σ1 H locs h hc1
    refine lv_aload_n hx hb dL_law_340 rfl (lv_at hl 1 rfl) ?_
    refine lv_aload_n hx hb dL_law_341 rfl (lv_at hl 3 rfl) ?_
    refine lv_iload_n hx hb dL_law_342 rfl (lv_at hl 0 rfl) ?_
    refine lv_iconst (v := nI 1) hx hb dL_law_343 (by decide) ?_
    refine a_iadd hx hb dL_law_344 ?_
    refine va_sld hx hb hX hbl hbA h.2.2 (vin (show k + 1 < Ls by omega) (by omega)) dL_law_345 ?_
    refine cv_i (show (xs (nI (k + 1)).toNatClampNeg : Int32) = a1 from by rw [nI_clamp (by omega), ← ha1]) ?_
    refine lv_aload_n hx hb dL_law_346 rfl (lv_at hl 3 rfl) ?_
    refine lv_iload_n hx hb dL_law_347 rfl (lv_at hl 0 rfl) ?_
    refine lv_iconst (v := nI 2) hx hb dL_law_348 (by decide) ?_
    refine a_iadd hx hb dL_law_349 ?_
    refine va_sld hx hb hX hbl hbA h.2.2 (vin (show k + 2 < Ls by omega) (by omega)) dL_law_350 ?_
    refine cv_i (show (xs (nI (k + 2)).toNatClampNeg : Int32) = a2 from by rw [nI_clamp (by omega), ← ha2]) ?_
    refine lw_M S V h (As := [.int a1, .int a2]) (c_X8_bufferOf l Lm τ hm hF.1 (fun Y hY => (hH Y hY).1) a1 a2) q_751 q_752 q_753 q_10 q_754 yd_X8_bufferOf rfl ⟨⟨rfl, rfl⟩, ⟨(Nat.le_of_ble_eq_true rfl), (Nat.le_of_ble_eq_true rfl)⟩, (Nat.le_of_ble_eq_true rfl), (Nat.le_of_ble_eq_true rfl)⟩ rfl (Nat.le_of_ble_eq_true rfl) hl.1 dL_law_351 (fun r τ1 H locs hp h => ?_)
    obtain ⟨rfl, hm1⟩ := hp
    refine lv_icmp_eq (tgt := 698) hx hb dL_law_354 (by decide) (fun _ => ?_) (fun z => absurd rfl z)
    exact B X hh t _ τ1 _ _ h hc1 hm1 hF hH
  rcases rngx a1 with ⟨i1, hi1, rfl⟩ | e1
  · exact lw_C S V h (As := [.int (nI i1), .int a2]) (c_X7_bufferOf l Lc σ hc (XI_cl hF.1) hi1 a2) q_412 q_413 q_414 q_1 q_415 yd_X7_bufferOf rfl ⟨⟨rfl, rfl⟩, ⟨(Nat.le_of_ble_eq_true rfl), (Nat.le_of_ble_eq_true rfl)⟩, (Nat.le_of_ble_eq_true rfl), (Nat.le_of_ble_eq_true rfl)⟩ rfl (Nat.le_of_ble_eq_true rfl) hl.1 dL_law_337 (fun r σ1 H locs hp h => by rw [i_bufferOf hi1] at hp; obtain ⟨rfl, hc1⟩ := hp; exact K σ1 H locs h hc1)
  · rw [o_bufferOf e1] at K
    exact lw_C S V h (As := [.int a1, .int a2]) (c_X7_bufferOf_n l Lc σ hc (XI_cl hF.1) e1 a2) q_412 q_413 q_414 q_1 q_415 yd_X7_bufferOf rfl ⟨⟨rfl, rfl⟩, ⟨(Nat.le_of_ble_eq_true rfl), (Nat.le_of_ble_eq_true rfl)⟩, (Nat.le_of_ble_eq_true rfl), (Nat.le_of_ble_eq_true rfl)⟩ rfl (Nat.le_of_ble_eq_true rfl) hl.1 dL_law_337 (fun r σ1 H locs hp h => by obtain ⟨rfl, hc1⟩ := hp; exact K σ1 H locs h hc1)
set_option maxHeartbeats 4000000 in
set_option maxRecDepth 100000 in
theorem lc_digestOf {p : Program} {l : Launch} {e : Env} {s U : State} {m : MethodId} {below : List Frame} {meth : Method} {c : Code} {b Ls : Nat} {xs : Nat → Int32} {Lc Lm : Lay} {ls : Array Slot} {k : Nat} {X : SS} {hh : List SS} {t : List Int32} {σ : St} {τ : Me} {H : Heap} {locs : List Loc} (S : CallFix p m c cL_law 4 U #[Value.ref b] qA RL) (V : LV Lc Lm U) (hL : Ls ≤ 2048) (hX : va_X b Ls xs U U.heap) (hbl : b < U.heap.size) (hk4 : k + 4 ≤ Ls) (hl : lv_has ls 4 [(3, .int (nI k)), (2, .ref (ad Lm 0)), (1, .ref (ad Lc 244)), (0, .ref b)]) (hF : FX X) (hH : ∀ Y ∈ hh, FX Y) (hc : CR σ (clX X) (hh.map clX) t) (hm : MC τ X hh t) (h : PC Lc Lm U H locs σ τ) (B : ∀ (X : SS) (hh : List SS) (t : List Int32) (σ : St) (τ : Me) (H : Heap) (locs : List Loc), PC Lc Lm U H locs σ τ → CR σ (clX X) (hh.map clX) t → MC τ X hh t → FX X → (∀ Y ∈ hh, FX Y) → W p l e room_1 U m #[Value.ref b] below meth c H locs 600000 7302250 (lw_Z below #[Value.ref b] s) (F0 m 698 ls [])) : W p l e room_1 U m #[Value.ref b] below meth c H locs 600000 7302250 (lw_Z below #[Value.ref b] s) (F0 m 359 ls []) := by
  have hx := S.1
  have hb := S.2.1
  have hbA : ¬ (fun q : Nat => U.heap.size ≤ q) b := Nat.not_le.mpr hbl
  obtain ⟨a1, ha1⟩ : ∃ z, z = xs (k + 1) := ⟨_, rfl⟩
  obtain ⟨a2, ha2⟩ : ∃ z, z = xs (k + 2) := ⟨_, rfl⟩
  refine lv_aload_n hx hb dL_law_359 rfl (lv_at hl 2 rfl) ?_
  refine lv_aload_n hx hb dL_law_360 rfl (lv_at hl 3 rfl) ?_
  refine lv_iload_n hx hb dL_law_361 rfl (lv_at hl 0 rfl) ?_
  refine lv_iconst (v := nI 1) hx hb dL_law_362 (by decide) ?_
  refine a_iadd hx hb dL_law_363 ?_
  refine va_sld hx hb hX hbl hbA h.2.2 (vin (show k + 1 < Ls by omega) (by omega)) dL_law_364 ?_
  refine cv_i (show (xs (nI (k + 1)).toNatClampNeg : Int32) = a1 from by rw [nI_clamp (by omega), ← ha1]) ?_
  refine lv_aload_n hx hb dL_law_365 rfl (lv_at hl 3 rfl) ?_
  refine lv_iload_n hx hb dL_law_366 rfl (lv_at hl 0 rfl) ?_
  refine lv_iconst (v := nI 2) hx hb dL_law_367 (by decide) ?_
  refine a_iadd hx hb dL_law_368 ?_
  refine va_sld hx hb hX hbl hbA h.2.2 (vin (show k + 2 < Ls by omega) (by omega)) dL_law_369 ?_
  refine cv_i (show (xs (nI (k + 2)).toNatClampNeg : Int32) = a2 from by rw [nI_clamp (by omega), ← ha2]) ?_
  have K : ∀ (σ1 : St) (H : Heap) (locs : List Loc), PC Lc Lm U H locs σ1 τ → CR σ1 (clX X) (hh.map clX) t → W p l e room_1 U m #[Value.ref b] below meth c H locs 600000 7302250 (lw_Z below #[Value.ref b] s) (F0 m 373 ls [.int (mDig X a1 a2)]) := by
    intro σ1 H locs h hc1
    refine lv_aload_n hx hb dL_law_373 rfl (lv_at hl 1 rfl) ?_
    refine lv_aload_n hx hb dL_law_374 rfl (lv_at hl 3 rfl) ?_
    refine lv_iload_n hx hb dL_law_375 rfl (lv_at hl 0 rfl) ?_
    refine lv_iconst (v := nI 1) hx hb dL_law_376 (by decide) ?_
    refine a_iadd hx hb dL_law_377 ?_
    refine va_sld hx hb hX hbl hbA h.2.2 (vin (show k + 1 < Ls by omega) (by omega)) dL_law_378 ?_
    refine cv_i (show (xs (nI (k + 1)).toNatClampNeg : Int32) = a1 from by rw [nI_clamp (by omega), ← ha1]) ?_
    refine lv_aload_n hx hb dL_law_379 rfl (lv_at hl 3 rfl) ?_
    refine lv_iload_n hx hb dL_law_380 rfl (lv_at hl 0 rfl) ?_
    refine lv_iconst (v := nI 2) hx hb dL_law_381 (by decide) ?_
    refine a_iadd hx hb dL_law_382 ?_
    refine va_sld hx hb hX hbl hbA h.2.2 (vin (show k + 2 < Ls by omega) (by omega)) dL_law_383 ?_
    refine cv_i (show (xs (nI (k + 2)).toNatClampNeg : Int32) = a2 from by rw [nI_clamp (by omega), ← ha2]) ?_
    refine lw_M S V h (As := [.int a1, .int a2]) (c_X8_digestOf l Lm τ hm hF.1 (fun Y hY => (hH Y hY).1) a1 a2) q_755 q_756 q_757 q_10 q_758 yd_X8_digestOf rfl ⟨⟨rfl, rfl⟩, ⟨(Nat.le_of_ble_eq_true rfl), (Nat.le_of_ble_eq_true rfl)⟩, (Nat.le_of_ble_eq_true rfl), (Nat.le_of_ble_eq_true rfl)⟩ rfl (Nat.le_of_ble_eq_true rfl) hl.1 dL_law_384 (fun r τ1 H locs hp h => ?_)
    obtain ⟨rfl, hm1⟩ := hp
    refine lv_icmp_eq (tgt := 698) hx hb dL_law_387 (by decide) (fun _ => ?_) (fun z => absurd rfl z)
    exact B X hh t _ τ1 _ _ h hc1 hm1 hF hH
  rcases rngx a1 with ⟨i1, hi1, rfl⟩ | e1
  · exact lw_C S V h (As := [.int (nI i1), .int a2]) (c_X7_digestOf l Lc σ hc (XI_cl hF.1) hi1 a2) q_417 q_418 q_419 q_1 q_420 yd_X7_digestOf rfl ⟨⟨rfl, rfl⟩, ⟨(Nat.le_of_ble_eq_true rfl), (Nat.le_of_ble_eq_true rfl)⟩, (Nat.le_of_ble_eq_true rfl), (Nat.le_of_ble_eq_true rfl)⟩ rfl (Nat.le_of_ble_eq_true rfl) hl.1 dL_law_370 (fun r σ1 H locs hp h => by rw [i_digestOf hF hi1] at hp; obtain ⟨rfl, hc1⟩ := hp; exact K σ1 H locs h hc1)
  · rw [o_digestOf e1] at K
    exact lw_C S V h (As := [.int a1, .int a2]) (c_X7_digestOf_n l Lc σ hc (XI_cl hF.1) e1 a2) q_417 q_418 q_419 q_1 q_420 yd_X7_digestOf rfl ⟨⟨rfl, rfl⟩, ⟨(Nat.le_of_ble_eq_true rfl), (Nat.le_of_ble_eq_true rfl)⟩, (Nat.le_of_ble_eq_true rfl), (Nat.le_of_ble_eq_true rfl)⟩ rfl (Nat.le_of_ble_eq_true rfl) hl.1 dL_law_370 (fun r σ1 H locs hp h => by obtain ⟨rfl, hc1⟩ := hp; exact K σ1 H locs h hc1)
set_option maxHeartbeats 4000000 in
set_option maxRecDepth 100000 in
theorem lc_quantile {p : Program} {l : Launch} {e : Env} {s U : State} {m : MethodId} {below : List Frame} {meth : Method} {c : Code} {b Ls : Nat} {xs : Nat → Int32} {Lc Lm : Lay} {ls : Array Slot} {k : Nat} {X : SS} {hh : List SS} {t : List Int32} {σ : St} {τ : Me} {H : Heap} {locs : List Loc} (S : CallFix p m c cL_law 4 U #[Value.ref b] qA RL) (V : LV Lc Lm U) (hL : Ls ≤ 2048) (hX : va_X b Ls xs U U.heap) (hbl : b < U.heap.size) (hk4 : k + 4 ≤ Ls) (hl : lv_has ls 4 [(3, .int (nI k)), (2, .ref (ad Lm 0)), (1, .ref (ad Lc 244)), (0, .ref b)]) (hF : FX X) (hH : ∀ Y ∈ hh, FX Y) (hc : CR σ (clX X) (hh.map clX) t) (hm : MC τ X hh t) (h : PC Lc Lm U H locs σ τ) (B : ∀ (X : SS) (hh : List SS) (t : List Int32) (σ : St) (τ : Me) (H : Heap) (locs : List Loc), PC Lc Lm U H locs σ τ → CR σ (clX X) (hh.map clX) t → MC τ X hh t → FX X → (∀ Y ∈ hh, FX Y) → W p l e room_1 U m #[Value.ref b] below meth c H locs 600000 7302250 (lw_Z below #[Value.ref b] s) (F0 m 698 ls [])) : W p l e room_1 U m #[Value.ref b] below meth c H locs 600000 7302250 (lw_Z below #[Value.ref b] s) (F0 m 392 ls []) := by
  have hx := S.1
  have hb := S.2.1
  have hbA : ¬ (fun q : Nat => U.heap.size ≤ q) b := Nat.not_le.mpr hbl
  obtain ⟨a1, ha1⟩ : ∃ z, z = xs (k + 1) := ⟨_, rfl⟩
  obtain ⟨a2, ha2⟩ : ∃ z, z = xs (k + 2) := ⟨_, rfl⟩
  refine lv_aload_n hx hb dL_law_392 rfl (lv_at hl 2 rfl) ?_
  refine lv_aload_n hx hb dL_law_393 rfl (lv_at hl 3 rfl) ?_
  refine lv_iload_n hx hb dL_law_394 rfl (lv_at hl 0 rfl) ?_
  refine lv_iconst (v := nI 1) hx hb dL_law_395 (by decide) ?_
  refine a_iadd hx hb dL_law_396 ?_
  refine va_sld hx hb hX hbl hbA h.2.2 (vin (show k + 1 < Ls by omega) (by omega)) dL_law_397 ?_
  refine cv_i (show (xs (nI (k + 1)).toNatClampNeg : Int32) = a1 from by rw [nI_clamp (by omega), ← ha1]) ?_
  refine lv_aload_n hx hb dL_law_398 rfl (lv_at hl 3 rfl) ?_
  refine lv_iload_n hx hb dL_law_399 rfl (lv_at hl 0 rfl) ?_
  refine lv_iconst (v := nI 2) hx hb dL_law_400 (by decide) ?_
  refine a_iadd hx hb dL_law_401 ?_
  refine va_sld hx hb hX hbl hbA h.2.2 (vin (show k + 2 < Ls by omega) (by omega)) dL_law_402 ?_
  refine cv_i (show (xs (nI (k + 2)).toNatClampNeg : Int32) = a2 from by rw [nI_clamp (by omega), ← ha2]) ?_
  have K : ∀ (σ1 : St) (H : Heap) (locs : List Loc), PC Lc Lm U H locs σ1 τ → CR σ1 (clX X) (hh.map clX) t → W p l e room_1 U m #[Value.ref b] below meth c H locs 600000 7302250 (lw_Z below #[Value.ref b] s) (F0 m 406 ls [.int (mQua X a1 a2)]) := by
    intro σ1 H locs h hc1
    refine lv_aload_n hx hb dL_law_406 rfl (lv_at hl 1 rfl) ?_
    refine lv_aload_n hx hb dL_law_407 rfl (lv_at hl 3 rfl) ?_
    refine lv_iload_n hx hb dL_law_408 rfl (lv_at hl 0 rfl) ?_
    refine lv_iconst (v := nI 1) hx hb dL_law_409 (by decide) ?_
    refine a_iadd hx hb dL_law_410 ?_
    refine va_sld hx hb hX hbl hbA h.2.2 (vin (show k + 1 < Ls by omega) (by omega)) dL_law_411 ?_
    refine cv_i (show (xs (nI (k + 1)).toNatClampNeg : Int32) = a1 from by rw [nI_clamp (by omega), ← ha1]) ?_
    refine lv_aload_n hx hb dL_law_412 rfl (lv_at hl 3 rfl) ?_
    refine lv_iload_n hx hb dL_law_413 rfl (lv_at hl 0 rfl) ?_
    refine lv_iconst (v := nI 2) hx hb dL_law_414 (by decide) ?_
    refine a_iadd hx hb dL_law_415 ?_
    refine va_sld hx hb hX hbl hbA h.2.2 (vin (show k + 2 < Ls by omega) (by omega)) dL_law_416 ?_
    refine cv_i (show (xs (nI (k + 2)).toNatClampNeg : Int32) = a2 from by rw [nI_clamp (by omega), ← ha2]) ?_
    refine lw_M S V h (As := [.int a1, .int a2]) (c_X8_quantile l Lm τ hm hF.1 (fun Y hY => (hH Y hY).1) (fun i hi => (hF.2 i hi).1) a1 a2) q_771 q_772 q_773 q_10 q_774 yd_X8_quantile rfl ⟨⟨rfl, rfl⟩, ⟨(Nat.le_of_ble_eq_true rfl), (Nat.le_of_ble_eq_true rfl)⟩, (Nat.le_of_ble_eq_true rfl), (Nat.le_of_ble_eq_true rfl)⟩ rfl (Nat.le_of_ble_eq_true rfl) hl.1 dL_law_417 (fun r τ1 H locs hp h => ?_)
    obtain ⟨rfl, hm1⟩ := hp
    refine lv_icmp_eq (tgt := 698) hx hb dL_law_420 (by decide) (fun _ => ?_) (fun z => absurd rfl z)
    exact B X hh t _ τ1 _ _ h hc1 hm1 hF hH
  rcases rngx a1 with ⟨i1, hi1, rfl⟩ | e1
  · exact lw_C S V h (As := [.int (nI i1), .int a2]) (c_X7_quantile l Lc σ hc (XI_cl hF.1) hi1 a2) q_453 q_454 q_455 q_1 q_456 yd_X7_quantile rfl ⟨⟨rfl, rfl⟩, ⟨(Nat.le_of_ble_eq_true rfl), (Nat.le_of_ble_eq_true rfl)⟩, (Nat.le_of_ble_eq_true rfl), (Nat.le_of_ble_eq_true rfl)⟩ rfl (Nat.le_of_ble_eq_true rfl) hl.1 dL_law_403 (fun r σ1 H locs hp h => by rw [i_quantile hi1] at hp; obtain ⟨rfl, hc1⟩ := hp; exact K σ1 H locs h hc1)
  · rw [o_quantile e1] at K
    exact lw_C S V h (As := [.int a1, .int a2]) (c_X7_quantile_n l Lc σ hc (XI_cl hF.1) e1 a2) q_453 q_454 q_455 q_1 q_456 yd_X7_quantile rfl ⟨⟨rfl, rfl⟩, ⟨(Nat.le_of_ble_eq_true rfl), (Nat.le_of_ble_eq_true rfl)⟩, (Nat.le_of_ble_eq_true rfl), (Nat.le_of_ble_eq_true rfl)⟩ rfl (Nat.le_of_ble_eq_true rfl) hl.1 dL_law_403 (fun r σ1 H locs hp h => by obtain ⟨rfl, hc1⟩ := hp; exact K σ1 H locs h hc1)
set_option maxHeartbeats 4000000 in
set_option maxRecDepth 100000 in
theorem lc_truth {p : Program} {l : Launch} {e : Env} {s U : State} {m : MethodId} {below : List Frame} {meth : Method} {c : Code} {b Ls : Nat} {xs : Nat → Int32} {Lc Lm : Lay} {ls : Array Slot} {k : Nat} {X : SS} {hh : List SS} {t : List Int32} {σ : St} {τ : Me} {H : Heap} {locs : List Loc} (S : CallFix p m c cL_law 4 U #[Value.ref b] qA RL) (V : LV Lc Lm U) (hL : Ls ≤ 2048) (hX : va_X b Ls xs U U.heap) (hbl : b < U.heap.size) (hk4 : k + 4 ≤ Ls) (hl : lv_has ls 4 [(3, .int (nI k)), (2, .ref (ad Lm 0)), (1, .ref (ad Lc 244)), (0, .ref b)]) (hF : FX X) (hH : ∀ Y ∈ hh, FX Y) (hc : CR σ (clX X) (hh.map clX) t) (hm : MC τ X hh t) (h : PC Lc Lm U H locs σ τ) (B : ∀ (X : SS) (hh : List SS) (t : List Int32) (σ : St) (τ : Me) (H : Heap) (locs : List Loc), PC Lc Lm U H locs σ τ → CR σ (clX X) (hh.map clX) t → MC τ X hh t → FX X → (∀ Y ∈ hh, FX Y) → W p l e room_1 U m #[Value.ref b] below meth c H locs 600000 7302250 (lw_Z below #[Value.ref b] s) (F0 m 698 ls [])) : W p l e room_1 U m #[Value.ref b] below meth c H locs 600000 7302250 (lw_Z below #[Value.ref b] s) (F0 m 425 ls []) := by
  have hx := S.1
  have hb := S.2.1
  have hbA : ¬ (fun q : Nat => U.heap.size ≤ q) b := Nat.not_le.mpr hbl
  obtain ⟨a1, ha1⟩ : ∃ z, z = xs (k + 1) := ⟨_, rfl⟩
  obtain ⟨a2, ha2⟩ : ∃ z, z = xs (k + 2) := ⟨_, rfl⟩
  refine lv_aload_n hx hb dL_law_425 rfl (lv_at hl 2 rfl) ?_
  refine lv_aload_n hx hb dL_law_426 rfl (lv_at hl 3 rfl) ?_
  refine lv_iload_n hx hb dL_law_427 rfl (lv_at hl 0 rfl) ?_
  refine lv_iconst (v := nI 1) hx hb dL_law_428 (by decide) ?_
  refine a_iadd hx hb dL_law_429 ?_
  refine va_sld hx hb hX hbl hbA h.2.2 (vin (show k + 1 < Ls by omega) (by omega)) dL_law_430 ?_
  refine cv_i (show (xs (nI (k + 1)).toNatClampNeg : Int32) = a1 from by rw [nI_clamp (by omega), ← ha1]) ?_
  refine lv_aload_n hx hb dL_law_431 rfl (lv_at hl 3 rfl) ?_
  refine lv_iload_n hx hb dL_law_432 rfl (lv_at hl 0 rfl) ?_
  refine lv_iconst (v := nI 2) hx hb dL_law_433 (by decide) ?_
  refine a_iadd hx hb dL_law_434 ?_
  refine va_sld hx hb hX hbl hbA h.2.2 (vin (show k + 2 < Ls by omega) (by omega)) dL_law_435 ?_
  refine cv_i (show (xs (nI (k + 2)).toNatClampNeg : Int32) = a2 from by rw [nI_clamp (by omega), ← ha2]) ?_
  have K : ∀ (σ1 : St) (H : Heap) (locs : List Loc), PC Lc Lm U H locs σ1 τ → CR σ1 (clX X) (hh.map clX) t → W p l e room_1 U m #[Value.ref b] below meth c H locs 600000 7302250 (lw_Z below #[Value.ref b] s) (F0 m 439 ls [.int (mTru X a1 a2)]) := by
    intro σ1 H locs h hc1
    refine lv_aload_n hx hb dL_law_439 rfl (lv_at hl 1 rfl) ?_
    refine lv_aload_n hx hb dL_law_440 rfl (lv_at hl 3 rfl) ?_
    refine lv_iload_n hx hb dL_law_441 rfl (lv_at hl 0 rfl) ?_
    refine lv_iconst (v := nI 1) hx hb dL_law_442 (by decide) ?_
    refine a_iadd hx hb dL_law_443 ?_
    refine va_sld hx hb hX hbl hbA h.2.2 (vin (show k + 1 < Ls by omega) (by omega)) dL_law_444 ?_
    refine cv_i (show (xs (nI (k + 1)).toNatClampNeg : Int32) = a1 from by rw [nI_clamp (by omega), ← ha1]) ?_
    refine lv_aload_n hx hb dL_law_445 rfl (lv_at hl 3 rfl) ?_
    refine lv_iload_n hx hb dL_law_446 rfl (lv_at hl 0 rfl) ?_
    refine lv_iconst (v := nI 2) hx hb dL_law_447 (by decide) ?_
    refine a_iadd hx hb dL_law_448 ?_
    refine va_sld hx hb hX hbl hbA h.2.2 (vin (show k + 2 < Ls by omega) (by omega)) dL_law_449 ?_
    refine cv_i (show (xs (nI (k + 2)).toNatClampNeg : Int32) = a2 from by rw [nI_clamp (by omega), ← ha2]) ?_
    refine lw_M S V h (As := [.int a1, .int a2]) (c_X8_truth l Lm τ hm hF.1 (fun Y hY => (hH Y hY).1) a1 a2) q_790 q_791 q_792 q_10 q_793 yd_X8_truth rfl ⟨⟨rfl, rfl⟩, ⟨(Nat.le_of_ble_eq_true rfl), (Nat.le_of_ble_eq_true rfl)⟩, (Nat.le_of_ble_eq_true rfl), (Nat.le_of_ble_eq_true rfl)⟩ rfl (Nat.le_of_ble_eq_true rfl) hl.1 dL_law_450 (fun r τ1 H locs hp h => ?_)
    obtain ⟨rfl, hm1⟩ := hp
    refine lv_icmp_eq (tgt := 698) hx hb dL_law_453 (by decide) (fun _ => ?_) (fun z => absurd rfl z)
    exact B X hh t _ τ1 _ _ h hc1 hm1 hF hH
  rcases rngx a1 with ⟨i1, hi1, rfl⟩ | e1
  · exact lw_C S V h (As := [.int (nI i1), .int a2]) (c_X7_truth l Lc σ hc (XI_cl hF.1) hi1 a2) q_470 q_471 q_472 q_1 q_473 yd_X7_truth rfl ⟨⟨rfl, rfl⟩, ⟨(Nat.le_of_ble_eq_true rfl), (Nat.le_of_ble_eq_true rfl)⟩, (Nat.le_of_ble_eq_true rfl), (Nat.le_of_ble_eq_true rfl)⟩ rfl (Nat.le_of_ble_eq_true rfl) hl.1 dL_law_436 (fun r σ1 H locs hp h => by rw [i_truth hi1] at hp; obtain ⟨rfl, hc1⟩ := hp; exact K σ1 H locs h hc1)
  · rw [o_truth e1] at K
    exact lw_C S V h (As := [.int a1, .int a2]) (c_X7_truth_n l Lc σ hc (XI_cl hF.1) e1 a2) q_470 q_471 q_472 q_1 q_473 yd_X7_truth rfl ⟨⟨rfl, rfl⟩, ⟨(Nat.le_of_ble_eq_true rfl), (Nat.le_of_ble_eq_true rfl)⟩, (Nat.le_of_ble_eq_true rfl), (Nat.le_of_ble_eq_true rfl)⟩ rfl (Nat.le_of_ble_eq_true rfl) hl.1 dL_law_436 (fun r σ1 H locs hp h => by obtain ⟨rfl, hc1⟩ := hp; exact K σ1 H locs h hc1)
set_option maxHeartbeats 4000000 in
set_option maxRecDepth 100000 in
theorem lc_worst {p : Program} {l : Launch} {e : Env} {s U : State} {m : MethodId} {below : List Frame} {meth : Method} {c : Code} {b Ls : Nat} {xs : Nat → Int32} {Lc Lm : Lay} {ls : Array Slot} {k : Nat} {X : SS} {hh : List SS} {t : List Int32} {σ : St} {τ : Me} {H : Heap} {locs : List Loc} (S : CallFix p m c cL_law 4 U #[Value.ref b] qA RL) (V : LV Lc Lm U) (hL : Ls ≤ 2048) (hX : va_X b Ls xs U U.heap) (hbl : b < U.heap.size) (hk4 : k + 4 ≤ Ls) (hl : lv_has ls 4 [(3, .int (nI k)), (2, .ref (ad Lm 0)), (1, .ref (ad Lc 244)), (0, .ref b)]) (hF : FX X) (hH : ∀ Y ∈ hh, FX Y) (hc : CR σ (clX X) (hh.map clX) t) (hm : MC τ X hh t) (h : PC Lc Lm U H locs σ τ) (B : ∀ (X : SS) (hh : List SS) (t : List Int32) (σ : St) (τ : Me) (H : Heap) (locs : List Loc), PC Lc Lm U H locs σ τ → CR σ (clX X) (hh.map clX) t → MC τ X hh t → FX X → (∀ Y ∈ hh, FX Y) → W p l e room_1 U m #[Value.ref b] below meth c H locs 600000 7302250 (lw_Z below #[Value.ref b] s) (F0 m 698 ls [])) : W p l e room_1 U m #[Value.ref b] below meth c H locs 600000 7302250 (lw_Z below #[Value.ref b] s) (F0 m 458 ls []) := by
  have hx := S.1
  have hb := S.2.1
  have hbA : ¬ (fun q : Nat => U.heap.size ≤ q) b := Nat.not_le.mpr hbl
  obtain ⟨a1, ha1⟩ : ∃ z, z = xs (k + 1) := ⟨_, rfl⟩
  obtain ⟨a2, ha2⟩ : ∃ z, z = xs (k + 2) := ⟨_, rfl⟩
  refine lv_aload_n hx hb dL_law_458 rfl (lv_at hl 2 rfl) ?_
  refine lv_aload_n hx hb dL_law_459 rfl (lv_at hl 3 rfl) ?_
  refine lv_iload_n hx hb dL_law_460 rfl (lv_at hl 0 rfl) ?_
  refine lv_iconst (v := nI 1) hx hb dL_law_461 (by decide) ?_
  refine a_iadd hx hb dL_law_462 ?_
  refine va_sld hx hb hX hbl hbA h.2.2 (vin (show k + 1 < Ls by omega) (by omega)) dL_law_463 ?_
  refine cv_i (show (xs (nI (k + 1)).toNatClampNeg : Int32) = a1 from by rw [nI_clamp (by omega), ← ha1]) ?_
  refine lv_aload_n hx hb dL_law_464 rfl (lv_at hl 3 rfl) ?_
  refine lv_iload_n hx hb dL_law_465 rfl (lv_at hl 0 rfl) ?_
  refine lv_iconst (v := nI 2) hx hb dL_law_466 (by decide) ?_
  refine a_iadd hx hb dL_law_467 ?_
  refine va_sld hx hb hX hbl hbA h.2.2 (vin (show k + 2 < Ls by omega) (by omega)) dL_law_468 ?_
  refine cv_i (show (xs (nI (k + 2)).toNatClampNeg : Int32) = a2 from by rw [nI_clamp (by omega), ← ha2]) ?_
  have K : ∀ (σ1 : St) (H : Heap) (locs : List Loc), PC Lc Lm U H locs σ1 τ → CR σ1 (clX X) (hh.map clX) t → W p l e room_1 U m #[Value.ref b] below meth c H locs 600000 7302250 (lw_Z below #[Value.ref b] s) (F0 m 472 ls [.int (mWor X a1 a2)]) := by
    intro σ1 H locs h hc1
    refine lv_aload_n hx hb dL_law_472 rfl (lv_at hl 1 rfl) ?_
    refine lv_aload_n hx hb dL_law_473 rfl (lv_at hl 3 rfl) ?_
    refine lv_iload_n hx hb dL_law_474 rfl (lv_at hl 0 rfl) ?_
    refine lv_iconst (v := nI 1) hx hb dL_law_475 (by decide) ?_
    refine a_iadd hx hb dL_law_476 ?_
    refine va_sld hx hb hX hbl hbA h.2.2 (vin (show k + 1 < Ls by omega) (by omega)) dL_law_477 ?_
    refine cv_i (show (xs (nI (k + 1)).toNatClampNeg : Int32) = a1 from by rw [nI_clamp (by omega), ← ha1]) ?_
    refine lv_aload_n hx hb dL_law_478 rfl (lv_at hl 3 rfl) ?_
    refine lv_iload_n hx hb dL_law_479 rfl (lv_at hl 0 rfl) ?_
    refine lv_iconst (v := nI 2) hx hb dL_law_480 (by decide) ?_
    refine a_iadd hx hb dL_law_481 ?_
    refine va_sld hx hb hX hbl hbA h.2.2 (vin (show k + 2 < Ls by omega) (by omega)) dL_law_482 ?_
    refine cv_i (show (xs (nI (k + 2)).toNatClampNeg : Int32) = a2 from by rw [nI_clamp (by omega), ← ha2]) ?_
    refine lw_M S V h (As := [.int a1, .int a2]) (c_X8_worst l Lm τ hm hF.1 (fun Y hY => (hH Y hY).1) (fun i hi => (hF.2 i hi).1) a1 a2) q_798 q_799 q_800 q_10 q_801 yd_X8_worst rfl ⟨⟨rfl, rfl⟩, ⟨(Nat.le_of_ble_eq_true rfl), (Nat.le_of_ble_eq_true rfl)⟩, (Nat.le_of_ble_eq_true rfl), (Nat.le_of_ble_eq_true rfl)⟩ rfl (Nat.le_of_ble_eq_true rfl) hl.1 dL_law_483 (fun r τ1 H locs hp h => ?_)
    obtain ⟨rfl, hm1⟩ := hp
    refine lv_icmp_eq (tgt := 698) hx hb dL_law_486 (by decide) (fun _ => ?_) (fun z => absurd rfl z)
    exact B X hh t _ τ1 _ _ h hc1 hm1 hF hH
  rcases rngx a1 with ⟨i1, hi1, rfl⟩ | e1
  · exact lw_C S V h (As := [.int (nI i1), .int a2]) (c_X7_worst l Lc σ hc (XI_cl hF.1) hi1 a2) q_481 q_482 q_483 q_1 q_484 yd_X7_worst rfl ⟨⟨rfl, rfl⟩, ⟨(Nat.le_of_ble_eq_true rfl), (Nat.le_of_ble_eq_true rfl)⟩, (Nat.le_of_ble_eq_true rfl), (Nat.le_of_ble_eq_true rfl)⟩ rfl (Nat.le_of_ble_eq_true rfl) hl.1 dL_law_469 (fun r σ1 H locs hp h => by rw [i_worst hi1] at hp; obtain ⟨rfl, hc1⟩ := hp; exact K σ1 H locs h hc1)
  · rw [o_worst e1] at K
    exact lw_C S V h (As := [.int a1, .int a2]) (c_X7_worst_n l Lc σ hc (XI_cl hF.1) e1 a2) q_481 q_482 q_483 q_1 q_484 yd_X7_worst rfl ⟨⟨rfl, rfl⟩, ⟨(Nat.le_of_ble_eq_true rfl), (Nat.le_of_ble_eq_true rfl)⟩, (Nat.le_of_ble_eq_true rfl), (Nat.le_of_ble_eq_true rfl)⟩ rfl (Nat.le_of_ble_eq_true rfl) hl.1 dL_law_469 (fun r σ1 H locs hp h => by obtain ⟨rfl, hc1⟩ := hp; exact K σ1 H locs h hc1)
set_option maxHeartbeats 4000000 in
set_option maxRecDepth 100000 in
theorem lc_rank {p : Program} {l : Launch} {e : Env} {s U : State} {m : MethodId} {below : List Frame} {meth : Method} {c : Code} {b Ls : Nat} {xs : Nat → Int32} {Lc Lm : Lay} {ls : Array Slot} {k : Nat} {X : SS} {hh : List SS} {t : List Int32} {σ : St} {τ : Me} {H : Heap} {locs : List Loc} (S : CallFix p m c cL_law 4 U #[Value.ref b] qA RL) (V : LV Lc Lm U) (hL : Ls ≤ 2048) (hX : va_X b Ls xs U U.heap) (hbl : b < U.heap.size) (hk4 : k + 4 ≤ Ls) (hl : lv_has ls 4 [(3, .int (nI k)), (2, .ref (ad Lm 0)), (1, .ref (ad Lc 244)), (0, .ref b)]) (hF : FX X) (hH : ∀ Y ∈ hh, FX Y) (hc : CR σ (clX X) (hh.map clX) t) (hm : MC τ X hh t) (h : PC Lc Lm U H locs σ τ) (B : ∀ (X : SS) (hh : List SS) (t : List Int32) (σ : St) (τ : Me) (H : Heap) (locs : List Loc), PC Lc Lm U H locs σ τ → CR σ (clX X) (hh.map clX) t → MC τ X hh t → FX X → (∀ Y ∈ hh, FX Y) → W p l e room_1 U m #[Value.ref b] below meth c H locs 600000 7302250 (lw_Z below #[Value.ref b] s) (F0 m 698 ls [])) : W p l e room_1 U m #[Value.ref b] below meth c H locs 600000 7302250 (lw_Z below #[Value.ref b] s) (F0 m 491 ls []) := by
  have hx := S.1
  have hb := S.2.1
  have hbA : ¬ (fun q : Nat => U.heap.size ≤ q) b := Nat.not_le.mpr hbl
  obtain ⟨a1, ha1⟩ : ∃ z, z = xs (k + 1) := ⟨_, rfl⟩
  obtain ⟨a2, ha2⟩ : ∃ z, z = xs (k + 2) := ⟨_, rfl⟩
  refine lv_aload_n hx hb dL_law_491 rfl (lv_at hl 2 rfl) ?_
  refine lv_aload_n hx hb dL_law_492 rfl (lv_at hl 3 rfl) ?_
  refine lv_iload_n hx hb dL_law_493 rfl (lv_at hl 0 rfl) ?_
  refine lv_iconst (v := nI 1) hx hb dL_law_494 (by decide) ?_
  refine a_iadd hx hb dL_law_495 ?_
  refine va_sld hx hb hX hbl hbA h.2.2 (vin (show k + 1 < Ls by omega) (by omega)) dL_law_496 ?_
  refine cv_i (show (xs (nI (k + 1)).toNatClampNeg : Int32) = a1 from by rw [nI_clamp (by omega), ← ha1]) ?_
  refine lv_aload_n hx hb dL_law_497 rfl (lv_at hl 3 rfl) ?_
  refine lv_iload_n hx hb dL_law_498 rfl (lv_at hl 0 rfl) ?_
  refine lv_iconst (v := nI 2) hx hb dL_law_499 (by decide) ?_
  refine a_iadd hx hb dL_law_500 ?_
  refine va_sld hx hb hX hbl hbA h.2.2 (vin (show k + 2 < Ls by omega) (by omega)) dL_law_501 ?_
  refine cv_i (show (xs (nI (k + 2)).toNatClampNeg : Int32) = a2 from by rw [nI_clamp (by omega), ← ha2]) ?_
  have K : ∀ (σ1 : St) (H : Heap) (locs : List Loc), PC Lc Lm U H locs σ1 τ → CR σ1 (clX X) (hh.map clX) t → W p l e room_1 U m #[Value.ref b] below meth c H locs 600000 7302250 (lw_Z below #[Value.ref b] s) (F0 m 505 ls [.int (mRan X a1 a2)]) := by
    intro σ1 H locs h hc1
    refine lv_aload_n hx hb dL_law_505 rfl (lv_at hl 1 rfl) ?_
    refine lv_aload_n hx hb dL_law_506 rfl (lv_at hl 3 rfl) ?_
    refine lv_iload_n hx hb dL_law_507 rfl (lv_at hl 0 rfl) ?_
    refine lv_iconst (v := nI 1) hx hb dL_law_508 (by decide) ?_
    refine a_iadd hx hb dL_law_509 ?_
    refine va_sld hx hb hX hbl hbA h.2.2 (vin (show k + 1 < Ls by omega) (by omega)) dL_law_510 ?_
    refine cv_i (show (xs (nI (k + 1)).toNatClampNeg : Int32) = a1 from by rw [nI_clamp (by omega), ← ha1]) ?_
    refine lv_aload_n hx hb dL_law_511 rfl (lv_at hl 3 rfl) ?_
    refine lv_iload_n hx hb dL_law_512 rfl (lv_at hl 0 rfl) ?_
    refine lv_iconst (v := nI 2) hx hb dL_law_513 (by decide) ?_
    refine a_iadd hx hb dL_law_514 ?_
    refine va_sld hx hb hX hbl hbA h.2.2 (vin (show k + 2 < Ls by omega) (by omega)) dL_law_515 ?_
    refine cv_i (show (xs (nI (k + 2)).toNatClampNeg : Int32) = a2 from by rw [nI_clamp (by omega), ← ha2]) ?_
    refine lw_M S V h (As := [.int a1, .int a2]) (c_X8_rank l Lm τ hm hF.1 (fun Y hY => (hH Y hY).1) (fun i hi => (hF.2 i hi).1) a1 a2) q_802 q_803 q_804 q_10 q_805 yd_X8_rank rfl ⟨⟨rfl, rfl⟩, ⟨(Nat.le_of_ble_eq_true rfl), (Nat.le_of_ble_eq_true rfl)⟩, (Nat.le_of_ble_eq_true rfl), (Nat.le_of_ble_eq_true rfl)⟩ rfl (Nat.le_of_ble_eq_true rfl) hl.1 dL_law_516 (fun r τ1 H locs hp h => ?_)
    obtain ⟨rfl, hm1⟩ := hp
    refine lv_icmp_eq (tgt := 698) hx hb dL_law_519 (by decide) (fun _ => ?_) (fun z => absurd rfl z)
    exact B X hh t _ τ1 _ _ h hc1 hm1 hF hH
  rcases rngx a1 with ⟨i1, hi1, rfl⟩ | e1
  · exact lw_C S V h (As := [.int (nI i1), .int a2]) (c_X7_rank l Lc σ hc (XI_cl hF.1) hi1 a2) q_488 q_489 q_490 q_1 q_491 yd_X7_rank rfl ⟨⟨rfl, rfl⟩, ⟨(Nat.le_of_ble_eq_true rfl), (Nat.le_of_ble_eq_true rfl)⟩, (Nat.le_of_ble_eq_true rfl), (Nat.le_of_ble_eq_true rfl)⟩ rfl (Nat.le_of_ble_eq_true rfl) hl.1 dL_law_502 (fun r σ1 H locs hp h => by rw [i_rank hF hi1] at hp; obtain ⟨rfl, hc1⟩ := hp; exact K σ1 H locs h hc1)
  · rw [o_rank e1] at K
    exact lw_C S V h (As := [.int a1, .int a2]) (c_X7_rank_n l Lc σ hc (XI_cl hF.1) e1 a2) q_488 q_489 q_490 q_1 q_491 yd_X7_rank rfl ⟨⟨rfl, rfl⟩, ⟨(Nat.le_of_ble_eq_true rfl), (Nat.le_of_ble_eq_true rfl)⟩, (Nat.le_of_ble_eq_true rfl), (Nat.le_of_ble_eq_true rfl)⟩ rfl (Nat.le_of_ble_eq_true rfl) hl.1 dL_law_502 (fun r σ1 H locs hp h => by obtain ⟨rfl, hc1⟩ := hp; exact K σ1 H locs h hc1)
set_option maxHeartbeats 4000000 in
set_option maxRecDepth 100000 in
theorem lc_width {p : Program} {l : Launch} {e : Env} {s U : State} {m : MethodId} {below : List Frame} {meth : Method} {c : Code} {b Ls : Nat} {xs : Nat → Int32} {Lc Lm : Lay} {ls : Array Slot} {k : Nat} {X : SS} {hh : List SS} {t : List Int32} {σ : St} {τ : Me} {H : Heap} {locs : List Loc} (S : CallFix p m c cL_law 4 U #[Value.ref b] qA RL) (V : LV Lc Lm U) (hL : Ls ≤ 2048) (hX : va_X b Ls xs U U.heap) (hbl : b < U.heap.size) (hk4 : k + 4 ≤ Ls) (hl : lv_has ls 4 [(3, .int (nI k)), (2, .ref (ad Lm 0)), (1, .ref (ad Lc 244)), (0, .ref b)]) (hF : FX X) (hH : ∀ Y ∈ hh, FX Y) (hc : CR σ (clX X) (hh.map clX) t) (hm : MC τ X hh t) (h : PC Lc Lm U H locs σ τ) (B : ∀ (X : SS) (hh : List SS) (t : List Int32) (σ : St) (τ : Me) (H : Heap) (locs : List Loc), PC Lc Lm U H locs σ τ → CR σ (clX X) (hh.map clX) t → MC τ X hh t → FX X → (∀ Y ∈ hh, FX Y) → W p l e room_1 U m #[Value.ref b] below meth c H locs 600000 7302250 (lw_Z below #[Value.ref b] s) (F0 m 698 ls [])) : W p l e room_1 U m #[Value.ref b] below meth c H locs 600000 7302250 (lw_Z below #[Value.ref b] s) (F0 m 524 ls []) := by
  have hx := S.1
  have hb := S.2.1
  have hbA : ¬ (fun q : Nat => U.heap.size ≤ q) b := Nat.not_le.mpr hbl
  obtain ⟨a1, ha1⟩ : ∃ z, z = xs (k + 1) := ⟨_, rfl⟩
  obtain ⟨a2, ha2⟩ : ∃ z, z = xs (k + 2) := ⟨_, rfl⟩
  refine lv_aload_n hx hb dL_law_524 rfl (lv_at hl 2 rfl) ?_
  refine lv_aload_n hx hb dL_law_525 rfl (lv_at hl 3 rfl) ?_
  refine lv_iload_n hx hb dL_law_526 rfl (lv_at hl 0 rfl) ?_
  refine lv_iconst (v := nI 1) hx hb dL_law_527 (by decide) ?_
  refine a_iadd hx hb dL_law_528 ?_
  refine va_sld hx hb hX hbl hbA h.2.2 (vin (show k + 1 < Ls by omega) (by omega)) dL_law_529 ?_
  refine cv_i (show (xs (nI (k + 1)).toNatClampNeg : Int32) = a1 from by rw [nI_clamp (by omega), ← ha1]) ?_
  refine lv_aload_n hx hb dL_law_530 rfl (lv_at hl 3 rfl) ?_
  refine lv_iload_n hx hb dL_law_531 rfl (lv_at hl 0 rfl) ?_
  refine lv_iconst (v := nI 2) hx hb dL_law_532 (by decide) ?_
  refine a_iadd hx hb dL_law_533 ?_
  refine va_sld hx hb hX hbl hbA h.2.2 (vin (show k + 2 < Ls by omega) (by omega)) dL_law_534 ?_
  refine cv_i (show (xs (nI (k + 2)).toNatClampNeg : Int32) = a2 from by rw [nI_clamp (by omega), ← ha2]) ?_
  have K : ∀ (σ1 : St) (H : Heap) (locs : List Loc), PC Lc Lm U H locs σ1 τ → CR σ1 (clX X) (hh.map clX) t → W p l e room_1 U m #[Value.ref b] below meth c H locs 600000 7302250 (lw_Z below #[Value.ref b] s) (F0 m 538 ls [.int (mWid X a1 a2)]) := by
    intro σ1 H locs h hc1
    refine lv_aload_n hx hb dL_law_538 rfl (lv_at hl 1 rfl) ?_
    refine lv_aload_n hx hb dL_law_539 rfl (lv_at hl 3 rfl) ?_
    refine lv_iload_n hx hb dL_law_540 rfl (lv_at hl 0 rfl) ?_
    refine lv_iconst (v := nI 1) hx hb dL_law_541 (by decide) ?_
    refine a_iadd hx hb dL_law_542 ?_
    refine va_sld hx hb hX hbl hbA h.2.2 (vin (show k + 1 < Ls by omega) (by omega)) dL_law_543 ?_
    refine cv_i (show (xs (nI (k + 1)).toNatClampNeg : Int32) = a1 from by rw [nI_clamp (by omega), ← ha1]) ?_
    refine lv_aload_n hx hb dL_law_544 rfl (lv_at hl 3 rfl) ?_
    refine lv_iload_n hx hb dL_law_545 rfl (lv_at hl 0 rfl) ?_
    refine lv_iconst (v := nI 2) hx hb dL_law_546 (by decide) ?_
    refine a_iadd hx hb dL_law_547 ?_
    refine va_sld hx hb hX hbl hbA h.2.2 (vin (show k + 2 < Ls by omega) (by omega)) dL_law_548 ?_
    refine cv_i (show (xs (nI (k + 2)).toNatClampNeg : Int32) = a2 from by rw [nI_clamp (by omega), ← ha2]) ?_
    refine lw_M S V h (As := [.int a1, .int a2]) (c_X8_width l Lm τ hm hF.1 (fun Y hY => (hH Y hY).1) a1 a2) q_806 q_807 q_808 q_10 q_809 yd_X8_width rfl ⟨⟨rfl, rfl⟩, ⟨(Nat.le_of_ble_eq_true rfl), (Nat.le_of_ble_eq_true rfl)⟩, (Nat.le_of_ble_eq_true rfl), (Nat.le_of_ble_eq_true rfl)⟩ rfl (Nat.le_of_ble_eq_true rfl) hl.1 dL_law_549 (fun r τ1 H locs hp h => ?_)
    obtain ⟨rfl, hm1⟩ := hp
    refine lv_icmp_eq (tgt := 698) hx hb dL_law_552 (by decide) (fun _ => ?_) (fun z => absurd rfl z)
    exact B X hh t _ τ1 _ _ h hc1 hm1 hF hH
  rcases rngx a1 with ⟨i1, hi1, rfl⟩ | e1
  · exact lw_C S V h (As := [.int (nI i1), .int a2]) (c_X7_width l Lc σ hc (XI_cl hF.1) hi1 a2) q_497 q_498 q_499 q_1 q_500 yd_X7_width rfl ⟨⟨rfl, rfl⟩, ⟨(Nat.le_of_ble_eq_true rfl), (Nat.le_of_ble_eq_true rfl)⟩, (Nat.le_of_ble_eq_true rfl), (Nat.le_of_ble_eq_true rfl)⟩ rfl (Nat.le_of_ble_eq_true rfl) hl.1 dL_law_535 (fun r σ1 H locs hp h => by rw [i_width hi1] at hp; obtain ⟨rfl, hc1⟩ := hp; exact K σ1 H locs h hc1)
  · rw [o_width e1] at K
    exact lw_C S V h (As := [.int a1, .int a2]) (c_X7_width_n l Lc σ hc (XI_cl hF.1) e1 a2) q_497 q_498 q_499 q_1 q_500 yd_X7_width rfl ⟨⟨rfl, rfl⟩, ⟨(Nat.le_of_ble_eq_true rfl), (Nat.le_of_ble_eq_true rfl)⟩, (Nat.le_of_ble_eq_true rfl), (Nat.le_of_ble_eq_true rfl)⟩ rfl (Nat.le_of_ble_eq_true rfl) hl.1 dL_law_535 (fun r σ1 H locs hp h => by obtain ⟨rfl, hc1⟩ := hp; exact K σ1 H locs h hc1)
set_option maxHeartbeats 4000000 in
set_option maxRecDepth 100000 in
theorem lc_settingFor {p : Program} {l : Launch} {e : Env} {s U : State} {m : MethodId} {below : List Frame} {meth : Method} {c : Code} {b Ls : Nat} {xs : Nat → Int32} {Lc Lm : Lay} {ls : Array Slot} {k : Nat} {X : SS} {hh : List SS} {t : List Int32} {σ : St} {τ : Me} {H : Heap} {locs : List Loc} (S : CallFix p m c cL_law 4 U #[Value.ref b] qA RL) (V : LV Lc Lm U) (hL : Ls ≤ 2048) (hX : va_X b Ls xs U U.heap) (hbl : b < U.heap.size) (hk4 : k + 4 ≤ Ls) (hl : lv_has ls 4 [(3, .int (nI k)), (2, .ref (ad Lm 0)), (1, .ref (ad Lc 244)), (0, .ref b)]) (hF : FX X) (hH : ∀ Y ∈ hh, FX Y) (hc : CR σ (clX X) (hh.map clX) t) (hm : MC τ X hh t) (h : PC Lc Lm U H locs σ τ) (B : ∀ (X : SS) (hh : List SS) (t : List Int32) (σ : St) (τ : Me) (H : Heap) (locs : List Loc), PC Lc Lm U H locs σ τ → CR σ (clX X) (hh.map clX) t → MC τ X hh t → FX X → (∀ Y ∈ hh, FX Y) → W p l e room_1 U m #[Value.ref b] below meth c H locs 600000 7302250 (lw_Z below #[Value.ref b] s) (F0 m 698 ls [])) : W p l e room_1 U m #[Value.ref b] below meth c H locs 600000 7302250 (lw_Z below #[Value.ref b] s) (F0 m 557 ls []) := by
  have hx := S.1
  have hb := S.2.1
  have hbA : ¬ (fun q : Nat => U.heap.size ≤ q) b := Nat.not_le.mpr hbl
  obtain ⟨a1, ha1⟩ : ∃ z, z = xs (k + 1) := ⟨_, rfl⟩
  obtain ⟨a2, ha2⟩ : ∃ z, z = xs (k + 2) := ⟨_, rfl⟩
  refine lv_aload_n hx hb dL_law_557 rfl (lv_at hl 2 rfl) ?_
  refine lv_aload_n hx hb dL_law_558 rfl (lv_at hl 3 rfl) ?_
  refine lv_iload_n hx hb dL_law_559 rfl (lv_at hl 0 rfl) ?_
  refine lv_iconst (v := nI 1) hx hb dL_law_560 (by decide) ?_
  refine a_iadd hx hb dL_law_561 ?_
  refine va_sld hx hb hX hbl hbA h.2.2 (vin (show k + 1 < Ls by omega) (by omega)) dL_law_562 ?_
  refine cv_i (show (xs (nI (k + 1)).toNatClampNeg : Int32) = a1 from by rw [nI_clamp (by omega), ← ha1]) ?_
  refine lv_aload_n hx hb dL_law_563 rfl (lv_at hl 3 rfl) ?_
  refine lv_iload_n hx hb dL_law_564 rfl (lv_at hl 0 rfl) ?_
  refine lv_iconst (v := nI 2) hx hb dL_law_565 (by decide) ?_
  refine a_iadd hx hb dL_law_566 ?_
  refine va_sld hx hb hX hbl hbA h.2.2 (vin (show k + 2 < Ls by omega) (by omega)) dL_law_567 ?_
  refine cv_i (show (xs (nI (k + 2)).toNatClampNeg : Int32) = a2 from by rw [nI_clamp (by omega), ← ha2]) ?_
  have K : ∀ (σ1 : St) (H : Heap) (locs : List Loc), PC Lc Lm U H locs σ1 τ → CR σ1 (clX X) (hh.map clX) t → W p l e room_1 U m #[Value.ref b] below meth c H locs 600000 7302250 (lw_Z below #[Value.ref b] s) (F0 m 571 ls [.int (mSfo X a1 a2)]) := by
    intro σ1 H locs h hc1
    refine lv_aload_n hx hb dL_law_571 rfl (lv_at hl 1 rfl) ?_
    refine lv_aload_n hx hb dL_law_572 rfl (lv_at hl 3 rfl) ?_
    refine lv_iload_n hx hb dL_law_573 rfl (lv_at hl 0 rfl) ?_
    refine lv_iconst (v := nI 1) hx hb dL_law_574 (by decide) ?_
    refine a_iadd hx hb dL_law_575 ?_
    refine va_sld hx hb hX hbl hbA h.2.2 (vin (show k + 1 < Ls by omega) (by omega)) dL_law_576 ?_
    refine cv_i (show (xs (nI (k + 1)).toNatClampNeg : Int32) = a1 from by rw [nI_clamp (by omega), ← ha1]) ?_
    refine lv_aload_n hx hb dL_law_577 rfl (lv_at hl 3 rfl) ?_
    refine lv_iload_n hx hb dL_law_578 rfl (lv_at hl 0 rfl) ?_
    refine lv_iconst (v := nI 2) hx hb dL_law_579 (by decide) ?_
    refine a_iadd hx hb dL_law_580 ?_
    refine va_sld hx hb hX hbl hbA h.2.2 (vin (show k + 2 < Ls by omega) (by omega)) dL_law_581 ?_
    refine cv_i (show (xs (nI (k + 2)).toNatClampNeg : Int32) = a2 from by rw [nI_clamp (by omega), ← ha2]) ?_
    refine lw_M S V h (As := [.int a1, .int a2]) (c_X8_settingFor l Lm τ hm hF.1 (fun Y hY => (hH Y hY).1) a1 a2) q_810 q_811 q_812 q_10 q_813 yd_X8_settingFor rfl ⟨⟨rfl, rfl⟩, ⟨(Nat.le_of_ble_eq_true rfl), (Nat.le_of_ble_eq_true rfl)⟩, (Nat.le_of_ble_eq_true rfl), (Nat.le_of_ble_eq_true rfl)⟩ rfl (Nat.le_of_ble_eq_true rfl) hl.1 dL_law_582 (fun r τ1 H locs hp h => ?_)
    obtain ⟨rfl, hm1⟩ := hp
    refine lv_icmp_eq (tgt := 698) hx hb dL_law_585 (by decide) (fun _ => ?_) (fun z => absurd rfl z)
    exact B X hh t _ τ1 _ _ h hc1 hm1 hF hH
  rcases rngx a1 with ⟨i1, hi1, rfl⟩ | e1
  · exact lw_C S V h (As := [.int (nI i1), .int a2]) (c_X7_settingFor l Lc σ hc (XI_cl hF.1) hi1 a2) q_506 q_507 q_508 q_1 q_509 yd_X7_settingFor rfl ⟨⟨rfl, rfl⟩, ⟨(Nat.le_of_ble_eq_true rfl), (Nat.le_of_ble_eq_true rfl)⟩, (Nat.le_of_ble_eq_true rfl), (Nat.le_of_ble_eq_true rfl)⟩ rfl (Nat.le_of_ble_eq_true rfl) hl.1 dL_law_568 (fun r σ1 H locs hp h => by rw [i_settingFor hi1] at hp; obtain ⟨rfl, hc1⟩ := hp; exact K σ1 H locs h hc1)
  · rw [o_settingFor e1] at K
    exact lw_C S V h (As := [.int a1, .int a2]) (c_X7_settingFor_n l Lc σ hc (XI_cl hF.1) e1 a2) q_506 q_507 q_508 q_1 q_509 yd_X7_settingFor rfl ⟨⟨rfl, rfl⟩, ⟨(Nat.le_of_ble_eq_true rfl), (Nat.le_of_ble_eq_true rfl)⟩, (Nat.le_of_ble_eq_true rfl), (Nat.le_of_ble_eq_true rfl)⟩ rfl (Nat.le_of_ble_eq_true rfl) hl.1 dL_law_568 (fun r σ1 H locs hp h => by obtain ⟨rfl, hc1⟩ := hp; exact K σ1 H locs h hc1)
set_option maxHeartbeats 4000000 in
set_option maxRecDepth 100000 in
theorem lc_count {p : Program} {l : Launch} {e : Env} {s U : State} {m : MethodId} {below : List Frame} {meth : Method} {c : Code} {b Ls : Nat} {xs : Nat → Int32} {Lc Lm : Lay} {ls : Array Slot} {k : Nat} {X : SS} {hh : List SS} {t : List Int32} {σ : St} {τ : Me} {H : Heap} {locs : List Loc} (S : CallFix p m c cL_law 4 U #[Value.ref b] qA RL) (V : LV Lc Lm U) (hL : Ls ≤ 2048) (hX : va_X b Ls xs U U.heap) (hbl : b < U.heap.size) (hk4 : k + 4 ≤ Ls) (hl : lv_has ls 4 [(3, .int (nI k)), (2, .ref (ad Lm 0)), (1, .ref (ad Lc 244)), (0, .ref b)]) (hF : FX X) (hH : ∀ Y ∈ hh, FX Y) (hc : CR σ (clX X) (hh.map clX) t) (hm : MC τ X hh t) (h : PC Lc Lm U H locs σ τ) (B : ∀ (X : SS) (hh : List SS) (t : List Int32) (σ : St) (τ : Me) (H : Heap) (locs : List Loc), PC Lc Lm U H locs σ τ → CR σ (clX X) (hh.map clX) t → MC τ X hh t → FX X → (∀ Y ∈ hh, FX Y) → W p l e room_1 U m #[Value.ref b] below meth c H locs 600000 7302250 (lw_Z below #[Value.ref b] s) (F0 m 698 ls [])) : W p l e room_1 U m #[Value.ref b] below meth c H locs 600000 7302250 (lw_Z below #[Value.ref b] s) (F0 m 590 ls []) := by
  have hx := S.1
  have hb := S.2.1
  have hbA : ¬ (fun q : Nat => U.heap.size ≤ q) b := Nat.not_le.mpr hbl
  obtain ⟨a1, ha1⟩ : ∃ z, z = xs (k + 1) := ⟨_, rfl⟩
  refine lv_aload_n hx hb dL_law_590 rfl (lv_at hl 2 rfl) ?_
  refine lv_aload_n hx hb dL_law_591 rfl (lv_at hl 3 rfl) ?_
  refine lv_iload_n hx hb dL_law_592 rfl (lv_at hl 0 rfl) ?_
  refine lv_iconst (v := nI 1) hx hb dL_law_593 (by decide) ?_
  refine a_iadd hx hb dL_law_594 ?_
  refine va_sld hx hb hX hbl hbA h.2.2 (vin (show k + 1 < Ls by omega) (by omega)) dL_law_595 ?_
  refine cv_i (show (xs (nI (k + 1)).toNatClampNeg : Int32) = a1 from by rw [nI_clamp (by omega), ← ha1]) ?_
  rcases cntx a1 with rfl | rfl | rfl | rfl | rfl | rfl | e1
  · refine lw_C S V h (As := [.int (nI 0)]) (c_X7_count_0 l Lc σ hc (XI_cl hF.1)) q_511 q_512 q_513 q_1 q_514 yd_X7_count rfl ⟨⟨rfl, rfl⟩, ⟨(Nat.le_of_ble_eq_true rfl), (Nat.le_of_ble_eq_true rfl)⟩, (Nat.le_of_ble_eq_true rfl), (Nat.le_of_ble_eq_true rfl)⟩ rfl (Nat.le_of_ble_eq_true rfl) hl.1 dL_law_596 (fun r σ1 H locs hp h => ?_)
    obtain ⟨rfl, hc1⟩ := hp
    refine lv_aload_n hx hb dL_law_599 rfl (lv_at hl 1 rfl) ?_
    refine lv_aload_n hx hb dL_law_600 rfl (lv_at hl 3 rfl) ?_
    refine lv_iload_n hx hb dL_law_601 rfl (lv_at hl 0 rfl) ?_
    refine lv_iconst (v := nI 1) hx hb dL_law_602 (by decide) ?_
    refine a_iadd hx hb dL_law_603 ?_
    refine va_sld hx hb hX hbl hbA h.2.2 (vin (show k + 1 < Ls by omega) (by omega)) dL_law_604 ?_
    refine cv_i (show (xs (nI (k + 1)).toNatClampNeg : Int32) = (nI 0) from by rw [nI_clamp (by omega), ← ha1]) ?_
    refine lw_M S V h (As := [.int (nI 0)]) (c_X8_count_0 l Lm τ hm) q_818 q_819 q_820 q_10 q_821 yd_X8_count rfl ⟨⟨rfl, rfl⟩, ⟨(Nat.le_of_ble_eq_true rfl), (Nat.le_of_ble_eq_true rfl)⟩, (Nat.le_of_ble_eq_true rfl), (Nat.le_of_ble_eq_true rfl)⟩ rfl (Nat.le_of_ble_eq_true rfl) hl.1 dL_law_605 (fun r τ1 H locs hp h => ?_)
    obtain ⟨rfl, hm1⟩ := hp
    refine lv_icmp_eq (tgt := 698) hx hb dL_law_608 (by decide) (fun _ => ?_) (fun z => absurd (i_count0 hF) z)
    exact B X hh t _ τ1 _ _ h hc1 hm1 hF hH
  · refine lw_C S V h (As := [.int (nI 1)]) (c_X7_count_1 l Lc σ hc (XI_cl hF.1)) q_511 q_512 q_513 q_1 q_514 yd_X7_count rfl ⟨⟨rfl, rfl⟩, ⟨(Nat.le_of_ble_eq_true rfl), (Nat.le_of_ble_eq_true rfl)⟩, (Nat.le_of_ble_eq_true rfl), (Nat.le_of_ble_eq_true rfl)⟩ rfl (Nat.le_of_ble_eq_true rfl) hl.1 dL_law_596 (fun r σ1 H locs hp h => ?_)
    obtain ⟨rfl, hc1⟩ := hp
    refine lv_aload_n hx hb dL_law_599 rfl (lv_at hl 1 rfl) ?_
    refine lv_aload_n hx hb dL_law_600 rfl (lv_at hl 3 rfl) ?_
    refine lv_iload_n hx hb dL_law_601 rfl (lv_at hl 0 rfl) ?_
    refine lv_iconst (v := nI 1) hx hb dL_law_602 (by decide) ?_
    refine a_iadd hx hb dL_law_603 ?_
    refine va_sld hx hb hX hbl hbA h.2.2 (vin (show k + 1 < Ls by omega) (by omega)) dL_law_604 ?_
    refine cv_i (show (xs (nI (k + 1)).toNatClampNeg : Int32) = (nI 1) from by rw [nI_clamp (by omega), ← ha1]) ?_
    refine lw_M S V h (As := [.int (nI 1)]) (c_X8_count_1 l Lm τ hm) q_818 q_819 q_820 q_10 q_821 yd_X8_count rfl ⟨⟨rfl, rfl⟩, ⟨(Nat.le_of_ble_eq_true rfl), (Nat.le_of_ble_eq_true rfl)⟩, (Nat.le_of_ble_eq_true rfl), (Nat.le_of_ble_eq_true rfl)⟩ rfl (Nat.le_of_ble_eq_true rfl) hl.1 dL_law_605 (fun r τ1 H locs hp h => ?_)
    obtain ⟨rfl, hm1⟩ := hp
    refine lv_icmp_eq (tgt := 698) hx hb dL_law_608 (by decide) (fun _ => ?_) (fun z => absurd rfl z)
    exact B X hh t _ τ1 _ _ h hc1 hm1 hF hH
  · refine lw_C S V h (As := [.int (nI 2)]) (c_X7_count_2 l Lc σ hc (XI_cl hF.1)) q_511 q_512 q_513 q_1 q_514 yd_X7_count rfl ⟨⟨rfl, rfl⟩, ⟨(Nat.le_of_ble_eq_true rfl), (Nat.le_of_ble_eq_true rfl)⟩, (Nat.le_of_ble_eq_true rfl), (Nat.le_of_ble_eq_true rfl)⟩ rfl (Nat.le_of_ble_eq_true rfl) hl.1 dL_law_596 (fun r σ1 H locs hp h => ?_)
    obtain ⟨rfl, hc1⟩ := hp
    refine lv_aload_n hx hb dL_law_599 rfl (lv_at hl 1 rfl) ?_
    refine lv_aload_n hx hb dL_law_600 rfl (lv_at hl 3 rfl) ?_
    refine lv_iload_n hx hb dL_law_601 rfl (lv_at hl 0 rfl) ?_
    refine lv_iconst (v := nI 1) hx hb dL_law_602 (by decide) ?_
    refine a_iadd hx hb dL_law_603 ?_
    refine va_sld hx hb hX hbl hbA h.2.2 (vin (show k + 1 < Ls by omega) (by omega)) dL_law_604 ?_
    refine cv_i (show (xs (nI (k + 1)).toNatClampNeg : Int32) = (nI 2) from by rw [nI_clamp (by omega), ← ha1]) ?_
    refine lw_M S V h (As := [.int (nI 2)]) (c_X8_count_2 l Lm τ hm) q_818 q_819 q_820 q_10 q_821 yd_X8_count rfl ⟨⟨rfl, rfl⟩, ⟨(Nat.le_of_ble_eq_true rfl), (Nat.le_of_ble_eq_true rfl)⟩, (Nat.le_of_ble_eq_true rfl), (Nat.le_of_ble_eq_true rfl)⟩ rfl (Nat.le_of_ble_eq_true rfl) hl.1 dL_law_605 (fun r τ1 H locs hp h => ?_)
    obtain ⟨rfl, hm1⟩ := hp
    refine lv_icmp_eq (tgt := 698) hx hb dL_law_608 (by decide) (fun _ => ?_) (fun z => absurd (congrArg nI (List.length_map clX)) z)
    exact B X hh t _ τ1 _ _ h hc1 hm1 hF hH
  · refine lw_C S V h (As := [.int (nI 3)]) (c_X7_count_3 l Lc σ hc (XI_cl hF.1)) q_511 q_512 q_513 q_1 q_514 yd_X7_count rfl ⟨⟨rfl, rfl⟩, ⟨(Nat.le_of_ble_eq_true rfl), (Nat.le_of_ble_eq_true rfl)⟩, (Nat.le_of_ble_eq_true rfl), (Nat.le_of_ble_eq_true rfl)⟩ rfl (Nat.le_of_ble_eq_true rfl) hl.1 dL_law_596 (fun r σ1 H locs hp h => ?_)
    obtain ⟨rfl, hc1⟩ := hp
    refine lv_aload_n hx hb dL_law_599 rfl (lv_at hl 1 rfl) ?_
    refine lv_aload_n hx hb dL_law_600 rfl (lv_at hl 3 rfl) ?_
    refine lv_iload_n hx hb dL_law_601 rfl (lv_at hl 0 rfl) ?_
    refine lv_iconst (v := nI 1) hx hb dL_law_602 (by decide) ?_
    refine a_iadd hx hb dL_law_603 ?_
    refine va_sld hx hb hX hbl hbA h.2.2 (vin (show k + 1 < Ls by omega) (by omega)) dL_law_604 ?_
    refine cv_i (show (xs (nI (k + 1)).toNatClampNeg : Int32) = (nI 3) from by rw [nI_clamp (by omega), ← ha1]) ?_
    refine lw_M S V h (As := [.int (nI 3)]) (c_X8_count_3 l Lm τ hm) q_818 q_819 q_820 q_10 q_821 yd_X8_count rfl ⟨⟨rfl, rfl⟩, ⟨(Nat.le_of_ble_eq_true rfl), (Nat.le_of_ble_eq_true rfl)⟩, (Nat.le_of_ble_eq_true rfl), (Nat.le_of_ble_eq_true rfl)⟩ rfl (Nat.le_of_ble_eq_true rfl) hl.1 dL_law_605 (fun r τ1 H locs hp h => ?_)
    obtain ⟨rfl, hm1⟩ := hp
    refine lv_icmp_eq (tgt := 698) hx hb dL_law_608 (by decide) (fun _ => ?_) (fun z => absurd rfl z)
    exact B X hh t _ τ1 _ _ h hc1 hm1 hF hH
  · refine lw_C S V h (As := [.int (nI 20)]) (c_X7_count_20 l Lc σ hc (XI_cl hF.1)) q_511 q_512 q_513 q_1 q_514 yd_X7_count rfl ⟨⟨rfl, rfl⟩, ⟨(Nat.le_of_ble_eq_true rfl), (Nat.le_of_ble_eq_true rfl)⟩, (Nat.le_of_ble_eq_true rfl), (Nat.le_of_ble_eq_true rfl)⟩ rfl (Nat.le_of_ble_eq_true rfl) hl.1 dL_law_596 (fun r σ1 H locs hp h => ?_)
    obtain ⟨rfl, hc1⟩ := hp
    refine lv_aload_n hx hb dL_law_599 rfl (lv_at hl 1 rfl) ?_
    refine lv_aload_n hx hb dL_law_600 rfl (lv_at hl 3 rfl) ?_
    refine lv_iload_n hx hb dL_law_601 rfl (lv_at hl 0 rfl) ?_
    refine lv_iconst (v := nI 1) hx hb dL_law_602 (by decide) ?_
    refine a_iadd hx hb dL_law_603 ?_
    refine va_sld hx hb hX hbl hbA h.2.2 (vin (show k + 1 < Ls by omega) (by omega)) dL_law_604 ?_
    refine cv_i (show (xs (nI (k + 1)).toNatClampNeg : Int32) = (nI 20) from by rw [nI_clamp (by omega), ← ha1]) ?_
    refine lw_M S V h (As := [.int (nI 20)]) (c_X8_count_20 l Lm τ hm) q_818 q_819 q_820 q_10 q_821 yd_X8_count rfl ⟨⟨rfl, rfl⟩, ⟨(Nat.le_of_ble_eq_true rfl), (Nat.le_of_ble_eq_true rfl)⟩, (Nat.le_of_ble_eq_true rfl), (Nat.le_of_ble_eq_true rfl)⟩ rfl (Nat.le_of_ble_eq_true rfl) hl.1 dL_law_605 (fun r τ1 H locs hp h => ?_)
    obtain ⟨rfl, hm1⟩ := hp
    refine lv_icmp_eq (tgt := 698) hx hb dL_law_608 (by decide) (fun _ => ?_) (fun z => absurd rfl z)
    exact B X hh t _ τ1 _ _ h hc1 hm1 hF hH
  · refine lw_C S V h (As := [.int (nI 21)]) (c_X7_count_21 l Lc σ hc (XI_cl hF.1)) q_511 q_512 q_513 q_1 q_514 yd_X7_count rfl ⟨⟨rfl, rfl⟩, ⟨(Nat.le_of_ble_eq_true rfl), (Nat.le_of_ble_eq_true rfl)⟩, (Nat.le_of_ble_eq_true rfl), (Nat.le_of_ble_eq_true rfl)⟩ rfl (Nat.le_of_ble_eq_true rfl) hl.1 dL_law_596 (fun r σ1 H locs hp h => ?_)
    obtain ⟨rfl, hc1⟩ := hp
    refine lv_aload_n hx hb dL_law_599 rfl (lv_at hl 1 rfl) ?_
    refine lv_aload_n hx hb dL_law_600 rfl (lv_at hl 3 rfl) ?_
    refine lv_iload_n hx hb dL_law_601 rfl (lv_at hl 0 rfl) ?_
    refine lv_iconst (v := nI 1) hx hb dL_law_602 (by decide) ?_
    refine a_iadd hx hb dL_law_603 ?_
    refine va_sld hx hb hX hbl hbA h.2.2 (vin (show k + 1 < Ls by omega) (by omega)) dL_law_604 ?_
    refine cv_i (show (xs (nI (k + 1)).toNatClampNeg : Int32) = (nI 21) from by rw [nI_clamp (by omega), ← ha1]) ?_
    refine lw_M S V h (As := [.int (nI 21)]) (c_X8_count_21 l Lm τ hm) q_818 q_819 q_820 q_10 q_821 yd_X8_count rfl ⟨⟨rfl, rfl⟩, ⟨(Nat.le_of_ble_eq_true rfl), (Nat.le_of_ble_eq_true rfl)⟩, (Nat.le_of_ble_eq_true rfl), (Nat.le_of_ble_eq_true rfl)⟩ rfl (Nat.le_of_ble_eq_true rfl) hl.1 dL_law_605 (fun r τ1 H locs hp h => ?_)
    obtain ⟨rfl, hm1⟩ := hp
    refine lv_icmp_eq (tgt := 698) hx hb dL_law_608 (by decide) (fun _ => ?_) (fun z => absurd rfl z)
    exact B X hh t _ τ1 _ _ h hc1 hm1 hF hH
  · refine lw_C S V h (As := [.int a1]) (c_X7_count_n l Lc σ hc (XI_cl hF.1) e1) q_511 q_512 q_513 q_1 q_514 yd_X7_count rfl ⟨⟨rfl, rfl⟩, ⟨(Nat.le_of_ble_eq_true rfl), (Nat.le_of_ble_eq_true rfl)⟩, (Nat.le_of_ble_eq_true rfl), (Nat.le_of_ble_eq_true rfl)⟩ rfl (Nat.le_of_ble_eq_true rfl) hl.1 dL_law_596 (fun r σ1 H locs hp h => ?_)
    obtain ⟨rfl, hc1⟩ := hp
    refine lv_aload_n hx hb dL_law_599 rfl (lv_at hl 1 rfl) ?_
    refine lv_aload_n hx hb dL_law_600 rfl (lv_at hl 3 rfl) ?_
    refine lv_iload_n hx hb dL_law_601 rfl (lv_at hl 0 rfl) ?_
    refine lv_iconst (v := nI 1) hx hb dL_law_602 (by decide) ?_
    refine a_iadd hx hb dL_law_603 ?_
    refine va_sld hx hb hX hbl hbA h.2.2 (vin (show k + 1 < Ls by omega) (by omega)) dL_law_604 ?_
    refine cv_i (show (xs (nI (k + 1)).toNatClampNeg : Int32) = a1 from by rw [nI_clamp (by omega), ← ha1]) ?_
    refine lw_M S V h (As := [.int a1]) (c_X8_count_n l Lm τ hm e1) q_818 q_819 q_820 q_10 q_821 yd_X8_count rfl ⟨⟨rfl, rfl⟩, ⟨(Nat.le_of_ble_eq_true rfl), (Nat.le_of_ble_eq_true rfl)⟩, (Nat.le_of_ble_eq_true rfl), (Nat.le_of_ble_eq_true rfl)⟩ rfl (Nat.le_of_ble_eq_true rfl) hl.1 dL_law_605 (fun r τ1 H locs hp h => ?_)
    obtain ⟨rfl, hm1⟩ := hp
    refine lv_icmp_eq (tgt := 698) hx hb dL_law_608 (by decide) (fun _ => ?_) (fun z => absurd rfl z)
    exact B X hh t _ τ1 _ _ h hc1 hm1 hF hH
set_option maxHeartbeats 4000000 in
set_option maxRecDepth 100000 in
theorem lc_undo {p : Program} {l : Launch} {e : Env} {s U : State} {m : MethodId} {below : List Frame} {meth : Method} {c : Code} {b Ls : Nat} {xs : Nat → Int32} {Lc Lm : Lay} {ls : Array Slot} {k : Nat} {X : SS} {hh : List SS} {t : List Int32} {σ : St} {τ : Me} {H : Heap} {locs : List Loc} (S : CallFix p m c cL_law 4 U #[Value.ref b] qA RL) (V : LV Lc Lm U) (hL : Ls ≤ 2048) (hX : va_X b Ls xs U U.heap) (hbl : b < U.heap.size) (hk4 : k + 4 ≤ Ls) (hl : lv_has ls 4 [(3, .int (nI k)), (2, .ref (ad Lm 0)), (1, .ref (ad Lc 244)), (0, .ref b)]) (hF : FX X) (hH : ∀ Y ∈ hh, FX Y) (hc : CR σ (clX X) (hh.map clX) t) (hm : MC τ X hh t) (h : PC Lc Lm U H locs σ τ) (B : ∀ (X : SS) (hh : List SS) (t : List Int32) (σ : St) (τ : Me) (H : Heap) (locs : List Loc), PC Lc Lm U H locs σ τ → CR σ (clX X) (hh.map clX) t → MC τ X hh t → FX X → (∀ Y ∈ hh, FX Y) → W p l e room_1 U m #[Value.ref b] below meth c H locs 600000 7302250 (lw_Z below #[Value.ref b] s) (F0 m 698 ls [])) : W p l e room_1 U m #[Value.ref b] below meth c H locs 600000 7302250 (lw_Z below #[Value.ref b] s) (F0 m 613 ls []) := by
  have hx := S.1
  have hb := S.2.1
  have hbA : ¬ (fun q : Nat => U.heap.size ≤ q) b := Nat.not_le.mpr hbl
  refine lv_aload_n hx hb dL_law_613 rfl (lv_at hl 2 rfl) ?_
  rcases snoc_cases hh with rfl | ⟨h9, Y9, rfl⟩
  · refine lw_C S V h (As := []) (c_X7_undo_n l Lc σ hc (XI_cl hF.1)) q_529 q_530 q_531 q_1 q_532 yd_X7_undo rfl ⟨⟨rfl, rfl⟩, ⟨(Nat.le_of_ble_eq_true rfl), (Nat.le_of_ble_eq_true rfl)⟩, (Nat.le_of_ble_eq_true rfl), (Nat.le_of_ble_eq_true rfl)⟩ rfl (Nat.le_of_ble_eq_true rfl) hl.1 dL_law_614 (fun r σ1 H locs hp h => ?_)
    obtain ⟨rfl, hc1⟩ := hp
    refine lv_aload_n hx hb dL_law_617 rfl (lv_at hl 1 rfl) ?_
    refine lw_M S V h (As := []) (c_X8_undo_n l Lm τ hm) q_826 q_827 q_828 q_10 q_829 yd_X8_undo rfl ⟨⟨rfl, rfl⟩, ⟨(Nat.le_of_ble_eq_true rfl), (Nat.le_of_ble_eq_true rfl)⟩, (Nat.le_of_ble_eq_true rfl), (Nat.le_of_ble_eq_true rfl)⟩ rfl (Nat.le_of_ble_eq_true rfl) hl.1 dL_law_618 (fun r τ1 H locs hp h => ?_)
    obtain ⟨rfl, hm1⟩ := hp
    refine lv_icmp_eq (tgt := 698) hx hb dL_law_621 (by decide) (fun _ => ?_) (fun z => absurd rfl z)
    exact B X ([]) t _ τ1 _ _ h hc1 hm1 hF hH
  · have hY9 := hH Y9 (List.mem_append.mpr (Or.inr List.mem_cons_self))
    rw [List.map_append] at hc
    refine lw_C S V h (As := []) (c_X7_undo (Y := clX Y9) (hh := h9.map clX) l Lc σ hc (XI_cl hF.1)) q_529 q_530 q_531 q_1 q_532 yd_X7_undo rfl ⟨⟨rfl, rfl⟩, ⟨(Nat.le_of_ble_eq_true rfl), (Nat.le_of_ble_eq_true rfl)⟩, (Nat.le_of_ble_eq_true rfl), (Nat.le_of_ble_eq_true rfl)⟩ rfl (Nat.le_of_ble_eq_true rfl) hl.1 dL_law_614 (fun r σ1 H locs hp h => ?_)
    obtain ⟨rfl, hc1⟩ := hp
    refine lv_aload_n hx hb dL_law_617 rfl (lv_at hl 1 rfl) ?_
    refine lw_M S V h (As := []) (c_X8_undo l Lm τ hm hY9.1.L) q_826 q_827 q_828 q_10 q_829 yd_X8_undo rfl ⟨⟨rfl, rfl⟩, ⟨(Nat.le_of_ble_eq_true rfl), (Nat.le_of_ble_eq_true rfl)⟩, (Nat.le_of_ble_eq_true rfl), (Nat.le_of_ble_eq_true rfl)⟩ rfl (Nat.le_of_ble_eq_true rfl) hl.1 dL_law_618 (fun r τ1 H locs hp h => ?_)
    obtain ⟨rfl, hm1⟩ := hp
    refine lv_icmp_eq (tgt := 698) hx hb dL_law_621 (by decide) (fun _ => ?_) (fun z => absurd (congrArg nI (List.length_map clX)) z)
    exact B Y9 h9 t _ τ1 _ _ h hc1 hm1 hY9 (fun Y hY => hH Y (List.mem_append.mpr (Or.inl hY)))
set_option maxHeartbeats 4000000 in
set_option maxRecDepth 100000 in
theorem lc_type {p : Program} {l : Launch} {e : Env} {s U : State} {m : MethodId} {below : List Frame} {meth : Method} {c : Code} {b Ls : Nat} {xs : Nat → Int32} {Lc Lm : Lay} {ls : Array Slot} {k : Nat} {X : SS} {hh : List SS} {t : List Int32} {σ : St} {τ : Me} {H : Heap} {locs : List Loc} (S : CallFix p m c cL_law 4 U #[Value.ref b] qA RL) (V : LV Lc Lm U) (hL : Ls ≤ 2048) (hX : va_X b Ls xs U U.heap) (hbl : b < U.heap.size) (hk4 : k + 4 ≤ Ls) (hl : lv_has ls 4 [(3, .int (nI k)), (2, .ref (ad Lm 0)), (1, .ref (ad Lc 244)), (0, .ref b)]) (hF : FX X) (hH : ∀ Y ∈ hh, FX Y) (hc : CR σ (clX X) (hh.map clX) t) (hm : MC τ X hh t) (h : PC Lc Lm U H locs σ τ) (B : ∀ (X : SS) (hh : List SS) (t : List Int32) (σ : St) (τ : Me) (H : Heap) (locs : List Loc), PC Lc Lm U H locs σ τ → CR σ (clX X) (hh.map clX) t → MC τ X hh t → FX X → (∀ Y ∈ hh, FX Y) → W p l e room_1 U m #[Value.ref b] below meth c H locs 600000 7302250 (lw_Z below #[Value.ref b] s) (F0 m 698 ls [])) : W p l e room_1 U m #[Value.ref b] below meth c H locs 600000 7302250 (lw_Z below #[Value.ref b] s) (F0 m 626 ls []) := by
  have hx := S.1
  have hb := S.2.1
  have hbA : ¬ (fun q : Nat => U.heap.size ≤ q) b := Nat.not_le.mpr hbl
  obtain ⟨a1, ha1⟩ : ∃ z, z = xs (k + 1) := ⟨_, rfl⟩
  refine lv_aload_n hx hb dL_law_626 rfl (lv_at hl 2 rfl) ?_
  refine lv_aload_n hx hb dL_law_627 rfl (lv_at hl 3 rfl) ?_
  refine lv_iload_n hx hb dL_law_628 rfl (lv_at hl 0 rfl) ?_
  refine lv_iconst (v := nI 1) hx hb dL_law_629 (by decide) ?_
  refine a_iadd hx hb dL_law_630 ?_
  refine va_sld hx hb hX hbl hbA h.2.2 (vin (show k + 1 < Ls by omega) (by omega)) dL_law_631 ?_
  refine cv_i (show (xs (nI (k + 1)).toNatClampNeg : Int32) = a1 from by rw [nI_clamp (by omega), ← ha1]) ?_
  refine lw_C S V h (As := [.int a1]) (c_X7_type l Lc σ hc (XI_cl hF.1) a1) q_537 q_538 q_539 q_1 q_540 yd_X7_type rfl ⟨⟨rfl, rfl⟩, ⟨(Nat.le_of_ble_eq_true rfl), (Nat.le_of_ble_eq_true rfl)⟩, (Nat.le_of_ble_eq_true rfl), (Nat.le_of_ble_eq_true rfl)⟩ rfl (Nat.le_of_ble_eq_true rfl) hl.1 dL_law_632 (fun r σ1 H locs hp h => ?_)
  obtain ⟨rfl, hc1⟩ := hp
  refine lv_aload_n hx hb dL_law_635 rfl (lv_at hl 1 rfl) ?_
  refine lv_aload_n hx hb dL_law_636 rfl (lv_at hl 3 rfl) ?_
  refine lv_iload_n hx hb dL_law_637 rfl (lv_at hl 0 rfl) ?_
  refine lv_iconst (v := nI 1) hx hb dL_law_638 (by decide) ?_
  refine a_iadd hx hb dL_law_639 ?_
  refine va_sld hx hb hX hbl hbA h.2.2 (vin (show k + 1 < Ls by omega) (by omega)) dL_law_640 ?_
  refine cv_i (show (xs (nI (k + 1)).toNatClampNeg : Int32) = a1 from by rw [nI_clamp (by omega), ← ha1]) ?_
  refine lw_M S V h (As := [.int a1]) (c_X8_type l Lm τ hm a1) q_830 q_831 q_832 q_10 q_833 yd_X8_type rfl ⟨⟨rfl, rfl⟩, ⟨(Nat.le_of_ble_eq_true rfl), (Nat.le_of_ble_eq_true rfl)⟩, (Nat.le_of_ble_eq_true rfl), (Nat.le_of_ble_eq_true rfl)⟩ rfl (Nat.le_of_ble_eq_true rfl) hl.1 dL_law_641 (fun r τ1 H locs hp h => ?_)
  obtain ⟨rfl, hm1⟩ := hp
  refine lv_icmp_eq (tgt := 698) hx hb dL_law_644 (by decide) (fun _ => ?_) (fun z => absurd rfl z)
  exact B X hh ((cTyp t a1).2) _ τ1 _ _ h hc1 hm1 hF hH
set_option maxHeartbeats 4000000 in
set_option maxRecDepth 100000 in
theorem lc_clearText {p : Program} {l : Launch} {e : Env} {s U : State} {m : MethodId} {below : List Frame} {meth : Method} {c : Code} {b Ls : Nat} {xs : Nat → Int32} {Lc Lm : Lay} {ls : Array Slot} {k : Nat} {X : SS} {hh : List SS} {t : List Int32} {σ : St} {τ : Me} {H : Heap} {locs : List Loc} (S : CallFix p m c cL_law 4 U #[Value.ref b] qA RL) (V : LV Lc Lm U) (hL : Ls ≤ 2048) (hX : va_X b Ls xs U U.heap) (hbl : b < U.heap.size) (hk4 : k + 4 ≤ Ls) (hl : lv_has ls 4 [(3, .int (nI k)), (2, .ref (ad Lm 0)), (1, .ref (ad Lc 244)), (0, .ref b)]) (hF : FX X) (hH : ∀ Y ∈ hh, FX Y) (hc : CR σ (clX X) (hh.map clX) t) (hm : MC τ X hh t) (h : PC Lc Lm U H locs σ τ) (B : ∀ (X : SS) (hh : List SS) (t : List Int32) (σ : St) (τ : Me) (H : Heap) (locs : List Loc), PC Lc Lm U H locs σ τ → CR σ (clX X) (hh.map clX) t → MC τ X hh t → FX X → (∀ Y ∈ hh, FX Y) → W p l e room_1 U m #[Value.ref b] below meth c H locs 600000 7302250 (lw_Z below #[Value.ref b] s) (F0 m 698 ls [])) : W p l e room_1 U m #[Value.ref b] below meth c H locs 600000 7302250 (lw_Z below #[Value.ref b] s) (F0 m 649 ls []) := by
  have hx := S.1
  have hb := S.2.1
  have hbA : ¬ (fun q : Nat => U.heap.size ≤ q) b := Nat.not_le.mpr hbl
  refine lv_aload_n hx hb dL_law_649 rfl (lv_at hl 2 rfl) ?_
  refine lw_C S V h (As := []) (c_X7_clearText l Lc σ hc (XI_cl hF.1)) q_542 q_543 q_544 q_1 q_545 yd_X7_clearText rfl ⟨⟨rfl, rfl⟩, ⟨(Nat.le_of_ble_eq_true rfl), (Nat.le_of_ble_eq_true rfl)⟩, (Nat.le_of_ble_eq_true rfl), (Nat.le_of_ble_eq_true rfl)⟩ rfl (Nat.le_of_ble_eq_true rfl) hl.1 dL_law_650 (fun r σ1 H locs hp h => ?_)
  obtain ⟨rfl, hc1⟩ := hp
  refine lv_aload_n hx hb dL_law_653 rfl (lv_at hl 1 rfl) ?_
  refine lw_M S V h (As := []) (c_X8_clearText l Lm τ hm) q_834 q_835 q_836 q_10 q_837 yd_X8_clearText rfl ⟨⟨rfl, rfl⟩, ⟨(Nat.le_of_ble_eq_true rfl), (Nat.le_of_ble_eq_true rfl)⟩, (Nat.le_of_ble_eq_true rfl), (Nat.le_of_ble_eq_true rfl)⟩ rfl (Nat.le_of_ble_eq_true rfl) hl.1 dL_law_654 (fun r τ1 H locs hp h => ?_)
  obtain ⟨rfl, hm1⟩ := hp
  refine lv_icmp_eq (tgt := 698) hx hb dL_law_657 (by decide) (fun _ => ?_) (fun z => absurd rfl z)
  exact B X hh ([]) _ τ1 _ _ h hc1 hm1 hF hH
set_option maxHeartbeats 4000000 in
set_option maxRecDepth 100000 in
theorem lc_fault {p : Program} {l : Launch} {e : Env} {s U : State} {m : MethodId} {below : List Frame} {meth : Method} {c : Code} {b Ls : Nat} {xs : Nat → Int32} {Lc Lm : Lay} {ls : Array Slot} {k : Nat} {X : SS} {hh : List SS} {t : List Int32} {σ : St} {τ : Me} {H : Heap} {locs : List Loc} (S : CallFix p m c cL_law 4 U #[Value.ref b] qA RL) (V : LV Lc Lm U) (hL : Ls ≤ 2048) (hX : va_X b Ls xs U U.heap) (hbl : b < U.heap.size) (hk4 : k + 4 ≤ Ls) (hl : lv_has ls 4 [(3, .int (nI k)), (2, .ref (ad Lm 0)), (1, .ref (ad Lc 244)), (0, .ref b)]) (hF : FX X) (hH : ∀ Y ∈ hh, FX Y) (hc : CR σ (clX X) (hh.map clX) t) (hm : MC τ X hh t) (h : PC Lc Lm U H locs σ τ) (B : ∀ (X : SS) (hh : List SS) (t : List Int32) (σ : St) (τ : Me) (H : Heap) (locs : List Loc), PC Lc Lm U H locs σ τ → CR σ (clX X) (hh.map clX) t → MC τ X hh t → FX X → (∀ Y ∈ hh, FX Y) → W p l e room_1 U m #[Value.ref b] below meth c H locs 600000 7302250 (lw_Z below #[Value.ref b] s) (F0 m 698 ls [])) : W p l e room_1 U m #[Value.ref b] below meth c H locs 600000 7302250 (lw_Z below #[Value.ref b] s) (F0 m 662 ls []) := by
  have hx := S.1
  have hb := S.2.1
  have hbA : ¬ (fun q : Nat => U.heap.size ≤ q) b := Nat.not_le.mpr hbl
  obtain ⟨a1, ha1⟩ : ∃ z, z = xs (k + 1) := ⟨_, rfl⟩
  refine lv_aload_n hx hb dL_law_662 rfl (lv_at hl 2 rfl) ?_
  refine lv_aload_n hx hb dL_law_663 rfl (lv_at hl 3 rfl) ?_
  refine lv_iload_n hx hb dL_law_664 rfl (lv_at hl 0 rfl) ?_
  refine lv_iconst (v := nI 1) hx hb dL_law_665 (by decide) ?_
  refine a_iadd hx hb dL_law_666 ?_
  refine va_sld hx hb hX hbl hbA h.2.2 (vin (show k + 1 < Ls by omega) (by omega)) dL_law_667 ?_
  refine cv_i (show (xs (nI (k + 1)).toNatClampNeg : Int32) = a1 from by rw [nI_clamp (by omega), ← ha1]) ?_
  have K : ∀ (σ1 : St) (H : Heap) (locs : List Loc), PC Lc Lm U H locs σ1 τ → CR σ1 (clX X) (hh.map clX) t → W p l e room_1 U m #[Value.ref b] below meth c H locs 600000 7302250 (lw_Z below #[Value.ref b] s) (F0 m 671 ls [.int (cFau X t a1)]) := by
    intro σ1 H locs h hc1
    refine lv_aload_n hx hb dL_law_671 rfl (lv_at hl 1 rfl) ?_
    refine lv_aload_n hx hb dL_law_672 rfl (lv_at hl 3 rfl) ?_
    refine lv_iload_n hx hb dL_law_673 rfl (lv_at hl 0 rfl) ?_
    refine lv_iconst (v := nI 1) hx hb dL_law_674 (by decide) ?_
    refine a_iadd hx hb dL_law_675 ?_
    refine va_sld hx hb hX hbl hbA h.2.2 (vin (show k + 1 < Ls by omega) (by omega)) dL_law_676 ?_
    refine cv_i (show (xs (nI (k + 1)).toNatClampNeg : Int32) = a1 from by rw [nI_clamp (by omega), ← ha1]) ?_
    refine lw_M S V h (As := [.int a1]) (c_X8_fault l Lm τ hm hF.1 (fun Y hY => (hH Y hY).1) a1) q_838 q_839 q_840 q_10 q_841 yd_X8_fault rfl ⟨⟨rfl, rfl⟩, ⟨(Nat.le_of_ble_eq_true rfl), (Nat.le_of_ble_eq_true rfl)⟩, (Nat.le_of_ble_eq_true rfl), (Nat.le_of_ble_eq_true rfl)⟩ rfl (Nat.le_of_ble_eq_true rfl) hl.1 dL_law_677 (fun r τ1 H locs hp h => ?_)
    obtain ⟨rfl, hm1⟩ := hp
    refine lv_icmp_eq (tgt := 698) hx hb dL_law_680 (by decide) (fun _ => ?_) (fun z => absurd rfl z)
    exact B X hh t _ τ1 _ _ h hc1 hm1 hF hH
  exact lw_C S V h (As := [.int a1]) (c_X7_fault l Lc σ hc (XI_cl hF.1) a1) q_547 q_548 q_549 q_1 q_550 yd_X7_fault rfl ⟨⟨rfl, rfl⟩, ⟨(Nat.le_of_ble_eq_true rfl), (Nat.le_of_ble_eq_true rfl)⟩, (Nat.le_of_ble_eq_true rfl), (Nat.le_of_ble_eq_true rfl)⟩ rfl (Nat.le_of_ble_eq_true rfl) hl.1 dL_law_668 (fun r σ1 H locs hp h => by obtain ⟨rfl, hc1⟩ := hp; exact K σ1 H locs h hc1)
set_option maxHeartbeats 4000000 in
set_option maxRecDepth 100000 in
theorem lc_play {p : Program} {l : Launch} {e : Env} {s U : State} {m : MethodId} {below : List Frame} {meth : Method} {c : Code} {b Ls : Nat} {xs : Nat → Int32} {Lc Lm : Lay} {ls : Array Slot} {k : Nat} {X : SS} {hh : List SS} {t : List Int32} {σ : St} {τ : Me} {H : Heap} {locs : List Loc} (S : CallFix p m c cL_law 4 U #[Value.ref b] qA RL) (V : LV Lc Lm U) (hL : Ls ≤ 2048) (hX : va_X b Ls xs U U.heap) (hbl : b < U.heap.size) (hk4 : k + 4 ≤ Ls) (hl : lv_has ls 4 [(3, .int (nI k)), (2, .ref (ad Lm 0)), (1, .ref (ad Lc 244)), (0, .ref b)]) (hF : FX X) (hH : ∀ Y ∈ hh, FX Y) (hc : CR σ (clX X) (hh.map clX) t) (hm : MC τ X hh t) (h : PC Lc Lm U H locs σ τ) (B : ∀ (X : SS) (hh : List SS) (t : List Int32) (σ : St) (τ : Me) (H : Heap) (locs : List Loc), PC Lc Lm U H locs σ τ → CR σ (clX X) (hh.map clX) t → MC τ X hh t → FX X → (∀ Y ∈ hh, FX Y) → W p l e room_1 U m #[Value.ref b] below meth c H locs 600000 7302250 (lw_Z below #[Value.ref b] s) (F0 m 698 ls [])) : W p l e room_1 U m #[Value.ref b] below meth c H locs 600000 7302250 (lw_Z below #[Value.ref b] s) (F0 m 685 ls []) := by
  have hx := S.1
  have hb := S.2.1
  have hbA : ¬ (fun q : Nat => U.heap.size ≤ q) b := Nat.not_le.mpr hbl
  refine lv_aload_n hx hb dL_law_685 rfl (lv_at hl 2 rfl) ?_
  rcases hf9 : faultOf t X with _ | q9
  · refine lw_C S V h (As := []) (c_X7_play l Lc σ hc (XI_cl hF.1) hf9) q_585 q_586 q_587 q_1 q_588 yd_X7_play rfl ⟨⟨rfl, rfl⟩, ⟨(Nat.le_of_ble_eq_true rfl), (Nat.le_of_ble_eq_true rfl)⟩, (Nat.le_of_ble_eq_true rfl), (Nat.le_of_ble_eq_true rfl)⟩ rfl (Nat.le_of_ble_eq_true rfl) hl.1 dL_law_686 (fun r σ1 H locs hp h => ?_)
    obtain ⟨rfl, hc1⟩ := hp
    rw [eq_pl, clX_rec] at hc1
    refine lv_aload_n hx hb dL_law_689 rfl (lv_at hl 1 rfl) ?_
    refine lw_M S V h (As := []) (c_X8_play l Lm τ hm hF.1 (fun Y hY => (hH Y hY).1) hf9) q_862 q_863 q_864 q_10 q_865 yd_X8_play rfl ⟨⟨rfl, rfl⟩, ⟨(Nat.le_of_ble_eq_true rfl), (Nat.le_of_ble_eq_true rfl)⟩, (Nat.le_of_ble_eq_true rfl), (Nat.le_of_ble_eq_true rfl)⟩ rfl (Nat.le_of_ble_eq_true rfl) hl.1 dL_law_690 (fun r τ1 H locs hp h => ?_)
    obtain ⟨rfl, hm1, hG1⟩ := hp
    refine lv_icmp_eq (tgt := 698) hx hb dL_law_693 (by decide) (fun _ => ?_) (fun z => absurd (eq_play hG1) z)
    exact B (plM t 60 0 X) (recH hh X) t _ τ1 _ _ h hc1 hm1 ⟨hG1, RX_plM 60 0 X hF.2⟩ (FX_rec hF hH)
  · refine lw_C S V h (As := []) (c_X7_play_n l Lc σ hc (XI_cl hF.1) (by rw [eq_fo, hf9]; exact fun z => by cases z)) q_585 q_586 q_587 q_1 q_588 yd_X7_play rfl ⟨⟨rfl, rfl⟩, ⟨(Nat.le_of_ble_eq_true rfl), (Nat.le_of_ble_eq_true rfl)⟩, (Nat.le_of_ble_eq_true rfl), (Nat.le_of_ble_eq_true rfl)⟩ rfl (Nat.le_of_ble_eq_true rfl) hl.1 dL_law_686 (fun r σ1 H locs hp h => ?_)
    obtain ⟨rfl, hc1⟩ := hp
    refine lv_aload_n hx hb dL_law_689 rfl (lv_at hl 1 rfl) ?_
    refine lw_M S V h (As := []) (c_X8_play_f l Lm τ hm hF.1 (fun Y hY => (hH Y hY).1) hf9) q_862 q_863 q_864 q_10 q_865 yd_X8_play rfl ⟨⟨rfl, rfl⟩, ⟨(Nat.le_of_ble_eq_true rfl), (Nat.le_of_ble_eq_true rfl)⟩, (Nat.le_of_ble_eq_true rfl), (Nat.le_of_ble_eq_true rfl)⟩ rfl (Nat.le_of_ble_eq_true rfl) hl.1 dL_law_690 (fun r τ1 H locs hp h => ?_)
    obtain ⟨rfl, hm1⟩ := hp
    refine lv_icmp_eq (tgt := 698) hx hb dL_law_693 (by decide) (fun _ => ?_) (fun z => absurd rfl z)
    exact B X hh t _ τ1 _ _ h hc1 hm1 hF hH
