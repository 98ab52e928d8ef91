set_option maxHeartbeats 8000000 in
set_option maxRecDepth 100000 in
/-- the loop of the law -/
theorem law_loop {p : Program} {l : Launch} {e : Env} {s U : State} {m : MethodId} {below : List Frame} {meth : Method} {c : Code} {b Ls : Nat} {xs : Nat → Int32} {Lc Lm : Lay} (S : CallFix p m c cL_law 4 U #[Value.ref b] qA RL) (V : LV Lc Lm U) (hL : Ls ≤ 2048) (hX : va_X b Ls xs U U.heap) (hbl : b < U.heap.size)
    (E : ∀ (H : Heap) (locs : List Loc) (ls : Array Slot), va_S (fun q => U.heap.size ≤ q) U.heap H locs → W p l e room_1 U m #[Value.ref b] below meth c H locs 600000 7302250 (lw_Z below #[Value.ref b] s) (F0 m 704 ls [])) :
  ∀ (n k : Nat) (X : SS) (hh : List SS) (t : List Int32) (σ : St) (τ : Me) (H : Heap) (locs : List Loc) (ls : Array Slot), k ≤ Ls + 4 → Ls + 4 - k < n → PC Lc Lm U H locs σ τ → CR σ (clX X) (hh.map clX) t → MC τ X hh t → FX X → (∀ Y ∈ hh, FX Y) → lv_has ls 4 [(3, .int (nI k)), (2, .ref (ad Lm 0)), (1, .ref (ad Lc 244)), (0, .ref b)] → W p l e room_1 U m #[Value.ref b] below meth c H locs 600000 7302250 (lw_Z below #[Value.ref b] s) (F0 m 18 ls []) := by
  have hx := S.1
  have hb := S.2.1
  have hbA : ¬ (fun q : Nat => U.heap.size ≤ q) b := Nat.not_le.mpr hbl
  intro n
  induction n with
  | zero => intros; omega
  | succ n ih =>
    intro k X hh t σ τ H locs ls hk hm9 h hc hm hF hH hl
    refine lv_iload_n hx hb dL_law_18 rfl (lv_at hl 0 rfl) ?_
    refine lv_aload_n hx hb dL_law_19 rfl (lv_at hl 3 rfl) ?_
    refine va_slen hx hb hX hbl hbA h.2.2 dL_law_20 ?_
    refine lv_iconst (v := nI 4) hx hb dL_law_21 (by decide) ?_
    refine lv_isub hx hb dL_law_22 ?_
    refine lv_icmp_gt (tgt := 704) hx hb dL_law_23 (by decide) (fun _ => ?_) (fun c9 => ?_)
    · exact E H locs ls h.2.2
    have hk4 : k + 4 ≤ Ls := law_le (by omega) hL c9
    have B : ∀ (X : SS) (hh : List SS) (t : List Int32) (σ : St) (τ : Me) (H : Heap) (locs : List Loc), PC Lc Lm U H locs σ τ → CR σ (clX X) (hh.map clX) t → MC τ X hh t → FX X → (∀ Y ∈ hh, FX Y) → W p l e room_1 U m #[Value.ref b] below meth c H locs 600000 7302250 (lw_Z below #[Value.ref b] s) (F0 m 698 ls []) := by
      intro X hh t σ τ H locs h hc hm hF hH
      refine lv_iinc (v := nI (k + 4)) (lv' := [(3, .int (nI (k + 4))), (2, .ref (ad Lm 0)), (1, .ref (ad Lc 244)), (0, .ref b)]) hx hb dL_law_698 hl (k := 0) rfl (iinc_k k 4) (by decide) rfl (fun ls hl => ?_)
      refine lv_goto (tgt := 18) hx hb dL_law_701 (by decide) ?_
      exact ih (k + 4) X hh t σ τ H locs ls (by omega) (by omega) h hc hm hF hH hl
    refine lv_aload_n hx hb dL_law_26 rfl (lv_at hl 3 rfl) ?_
    refine lv_iload_n hx hb dL_law_27 rfl (lv_at hl 0 rfl) ?_
    refine va_sld hx hb hX hbl hbA h.2.2 (vin (show k < Ls by omega) (by omega)) dL_law_28 ?_
    refine lv_bipush (v := nI 31) hx hb dL_law_29 (by decide) ?_
    refine lv_iand hx hb dL_law_31 ?_
    obtain ⟨w, hw, ew⟩ := and31 (xs (nI k).toNatClampNeg)
    refine cv_i (show (xs (nI k).toNatClampNeg &&& nI 31 : Int32) = nI w from ew) ?_
    have hwt : (nI w).toInt = (w : Int) := nI_toInt (by omega)
    rcases (show w = 0 ∨ w = 1 ∨ w = 2 ∨ w = 3 ∨ w = 4 ∨ w = 5 ∨ w = 6 ∨ w = 7 ∨ w = 8 ∨ w = 9 ∨ w = 10 ∨ w = 11 ∨ w = 12 ∨ w = 13 ∨ w = 14 ∨ w = 15 ∨ w = 16 ∨ w = 17 ∨ w = 18 ∨ w = 19 ∨ 20 ≤ w by omega) with rfl | rfl | rfl | rfl | rfl | rfl | rfl | rfl | rfl | rfl | rfl | rfl | rfl | rfl | rfl | rfl | rfl | rfl | rfl | rfl | hw2
    · refine lv_tableIn (tgt := 128) hx hb dL_law_32 (by decide) (by decide) rfl (by decide) ?_
      exact lc_add S V hL hX hbl hk4 hl hF hH hc hm h B
    · refine lv_tableIn (tgt := 171) hx hb dL_law_32 (by decide) (by decide) rfl (by decide) ?_
      exact lc_pack S V hL hX hbl hk4 hl hF hH hc hm h B
    · refine lv_tableIn (tgt := 194) hx hb dL_law_32 (by decide) (by decide) rfl (by decide) ?_
      exact lc_join S V hL hX hbl hk4 hl hF hH hc hm h B
    · refine lv_tableIn (tgt := 227) hx hb dL_law_32 (by decide) (by decide) rfl (by decide) ?_
      exact lc_clear S V hL hX hbl hk4 hl hF hH hc hm h B
    · refine lv_tableIn (tgt := 250) hx hb dL_law_32 (by decide) (by decide) rfl (by decide) ?_
      exact lc_set S V hL hX hbl hk4 hl hF hH hc hm h B
    · refine lv_tableIn (tgt := 283) hx hb dL_law_32 (by decide) (by decide) rfl (by decide) ?_
      exact lc_heapOf S V hL hX hbl hk4 hl hF hH hc hm h B
    · refine lv_tableIn (tgt := 326) hx hb dL_law_32 (by decide) (by decide) rfl (by decide) ?_
      exact lc_bufferOf S V hL hX hbl hk4 hl hF hH hc hm h B
    · refine lv_tableIn (tgt := 359) hx hb dL_law_32 (by decide) (by decide) rfl (by decide) ?_
      exact lc_digestOf S V hL hX hbl hk4 hl hF hH hc hm h B
    · refine lv_tableIn (tgt := 392) hx hb dL_law_32 (by decide) (by decide) rfl (by decide) ?_
      exact lc_quantile S V hL hX hbl hk4 hl hF hH hc hm h B
    · refine lv_tableIn (tgt := 425) hx hb dL_law_32 (by decide) (by decide) rfl (by decide) ?_
      exact lc_truth S V hL hX hbl hk4 hl hF hH hc hm h B
    · refine lv_tableIn (tgt := 458) hx hb dL_law_32 (by decide) (by decide) rfl (by decide) ?_
      exact lc_worst S V hL hX hbl hk4 hl hF hH hc hm h B
    · refine lv_tableIn (tgt := 491) hx hb dL_law_32 (by decide) (by decide) rfl (by decide) ?_
      exact lc_rank S V hL hX hbl hk4 hl hF hH hc hm h B
    · refine lv_tableIn (tgt := 524) hx hb dL_law_32 (by decide) (by decide) rfl (by decide) ?_
      exact lc_width S V hL hX hbl hk4 hl hF hH hc hm h B
    · refine lv_tableIn (tgt := 557) hx hb dL_law_32 (by decide) (by decide) rfl (by decide) ?_
      exact lc_settingFor S V hL hX hbl hk4 hl hF hH hc hm h B
    · refine lv_tableIn (tgt := 590) hx hb dL_law_32 (by decide) (by decide) rfl (by decide) ?_
      exact lc_count S V hL hX hbl hk4 hl hF hH hc hm h B
    · refine lv_tableIn (tgt := 613) hx hb dL_law_32 (by decide) (by decide) rfl (by decide) ?_
      exact lc_undo S V hL hX hbl hk4 hl hF hH hc hm h B
    · refine lv_tableIn (tgt := 626) hx hb dL_law_32 (by decide) (by decide) rfl (by decide) ?_
      exact lc_type S V hL hX hbl hk4 hl hF hH hc hm h B
    · refine lv_tableIn (tgt := 649) hx hb dL_law_32 (by decide) (by decide) rfl (by decide) ?_
      exact lc_clearText S V hL hX hbl hk4 hl hF hH hc hm h B
    · refine lv_tableIn (tgt := 662) hx hb dL_law_32 (by decide) (by decide) rfl (by decide) ?_
      exact lc_fault S V hL hX hbl hk4 hl hF hH hc hm h B
    · refine lv_tableIn (tgt := 685) hx hb dL_law_32 (by decide) (by decide) rfl (by decide) ?_
      exact lc_play S V hL hX hbl hk4 hl hF hH hc hm h B
    · refine lv_tableOut (tgt := 698) hx hb dL_law_32 (Or.inr (by rw [hwt]; omega)) (by decide) ?_
      exact B X hh t σ τ H locs h hc hm hF hH
set_option maxHeartbeats 8000000 in
set_option maxRecDepth 100000 in
theorem whole_start {p : Program} {e : Env} {s : State} {m : MethodId} {below : List Frame} {meth : Method} {c : Code} (l : Launch) (hflags : l.flags = flags0) {b Ls : Nat} {xs : Nat → Int32} (hL : Ls ≤ 2048) (C0 : lw_At p s m meth c b Ls xs) : W p l e room_1 s m #[Value.ref b] below meth c s.heap [] 0 0 (lw_Z below #[Value.ref b] s) (entryFrame m ([Value.ref b] : List Value).toArray 4) := by
  obtain ⟨hx, hb, hr, hml, hown, hts0, hX, hbl, hlocks, hgv⟩ := id C0
  have hd0 := Drawn.sameBut.refl s.drawn lw_cs
  refine W.base ?_
  have hts : ∀ w ∈ lw_tbl, w.before #[Value.ref b] (s.setDrawn s.drawn) = true := dr_words hts0 s.drawn
  obtain ⟨L, hK⟩ := start_L hts
  have S : CallFix p m c cL_law 4 (s.setDrawn s.drawn) #[Value.ref b] qA RL := ⟨hx, hb, hml, hown, fun w h => hts w (qA_tbl h)⟩
  have hl := lv_entry ([.ref b]) (n := 4) (Nat.le_of_ble_eq_true rfl)
  rw [lg_entry_eq]
  generalize (lg_sl ([.ref b]) ++ List.replicate (4 - (lg_sl ([.ref b])).length) Slot.unset).toArray = ls at hl ⊢
  have hl : lv_has ls 4 [(0, .ref b)] := hl
  have h : CS L s.heap.size s.heap s.heap [] [] := ⟨⟨rfl, fun i r hi => by cases hi⟩, va_S.rf⟩
  refine x_new (ci := 7) (C := RX7) (T := TX7) (N := 6) (fs := [none, none, none, none, none, none]) (rl := []) (d := 0) S hK h rfl rfl i_wsX70 tyX7 tyX7_ok (fun j hj => by rcases (show j = 0 ∨ j = 1 ∨ j = 2 ∨ j = 3 ∨ j = 4 ∨ j = 5 by omega) with rfl | rfl | rfl | rfl | rfl | rfl <;> rfl) q_12 q_13 q_1 (Nat.le_of_ble_eq_true rfl) (Nat.le_of_ble_eq_true rfl) dL_law_0 (fun H h => ?_)
  refine lv_dup hx hb dL_law_3 rfl ?_
  refine x_ctI (rl := []) (d := 0) (r0 := (Sum.inl (7, [none, none, none, none, none, none]) : RE)) (As := []) (rl2 := mainR) S hK h rfl (c_X7_init l L (s.heap.size + 0)) q_14 q_15 q_1 q_16 rfl yc_X7_init rfl ⟨rfl, rfl⟩ ⟨(Nat.le_of_ble_eq_true rfl), (Nat.le_of_ble_eq_true rfl)⟩ ⟨(Nat.le_of_ble_eq_true rfl), (Nat.le_of_ble_eq_true rfl)⟩ rfl (Nat.le_of_ble_eq_true rfl) hl.1 dL_law_4 (fun H locs h => ?_)
  rw [List.nil_append, map_sh0] at h
  refine lv_astore_n (lv' := [(1, .ref (s.heap.size + 0)), (0, .ref b)]) hx hb dL_law_7 rfl hl (by decide) rfl (fun ls hl => ?_)
  refine x_new (ci := 8) (C := RX8) (T := TX8) (N := 15) (fs := [none, none, some (.inr 0), none, some (.inr 0), none, none, none, none, some (.inr 0), none, some (.inr 0), some (.inr 0), some (.inr 0), none]) (rl := mainR) (d := 245) S hK h rfl rfl i_wsX80 tyX8 tyX8_ok (fun j hj => by rcases (show j = 0 ∨ j = 1 ∨ j = 2 ∨ j = 3 ∨ j = 4 ∨ j = 5 ∨ j = 6 ∨ j = 7 ∨ j = 8 ∨ j = 9 ∨ j = 10 ∨ j = 11 ∨ j = 12 ∨ j = 13 ∨ j = 14 by omega) with rfl | rfl | rfl | rfl | rfl | rfl | rfl | rfl | rfl | rfl | rfl | rfl | rfl | rfl | rfl <;> rfl) q_590 q_591 q_10 (Nat.le_of_ble_eq_true rfl) (Nat.le_of_ble_eq_true rfl) dL_law_8 (fun H h => ?_)
  refine lv_dup hx hb dL_law_11 rfl ?_
  refine x_ctI (rl := mainR) (d := 245) (r0 := (Sum.inl (8, [none, none, some (.inr 0), none, some (.inr 0), none, none, none, none, some (.inr 0), none, some (.inr 0), some (.inr 0), some (.inr 0), none]) : RE)) (As := []) (rl2 := modR) S hK h rfl (c_X8_init l L (s.heap.size + 245)) q_592 q_593 q_10 q_594 rfl yc_X8_init rfl ⟨rfl, rfl⟩ ⟨(Nat.le_of_ble_eq_true rfl), (Nat.le_of_ble_eq_true rfl)⟩ ⟨(Nat.le_of_ble_eq_true rfl), (Nat.le_of_ble_eq_true rfl)⟩ rfl (Nat.le_of_ble_eq_true rfl) hl.1 dL_law_12 (fun H locs h => ?_)
  refine lv_astore_n (lv' := [(2, .ref (s.heap.size + 245)), (1, .ref (s.heap.size + 0)), (0, .ref b)]) hx hb dL_law_15 rfl hl (by decide) rfl (fun ls hl => ?_)
  refine lv_iconst (v := nI 0) hx hb dL_law_16 (by decide) ?_
  refine lv_istore_n (lv' := [(3, .int (nI 0)), (2, .ref (s.heap.size + 245)), (1, .ref (s.heap.size + 0)), (0, .ref b)]) hx hb dL_law_17 rfl hl (by decide) rfl (fun ls hl => ?_)
  refine W.widen (k := 600000) (n := 7302250) (Nat.le_of_ble_eq_true rfl) (Nat.le_of_ble_eq_true rfl) ?_
  have hmr : mainR.length = 245 := rfl
  have V : LV (Lw L s.heap.size) (Lw8 L (s.heap.size + 245)) (s.setDrawn s.drawn) := by
    refine ⟨Lw_inj, Lw8_inj, hK.1, hK.1.1, fun i j hi hj z => ?_, fun i hi => Nat.le_add_right s.heap.size (pos i), fun j hj => ?_⟩
    · have z2 : s.heap.size + pos i = s.heap.size + 245 + j := z
      have := pos_lt hi
      omega
    · show s.heap.size ≤ s.heap.size + 245 + j
      omega
  have hP : PC (Lw L s.heap.size) (Lw8 L (s.heap.size + 245)) (s.setDrawn s.drawn) H locs sg0 me0 := by
    refine ⟨Pw_first (fun i r hi => h.1.2 i r ?_), Pw8_first (fun i r hi => ?_), h.2⟩
    · rw [List.getElem?_append_left (List.getElem?_eq_some_iff.mp hi).1]; exact hi
    · have z := h.1.2 (245 + i) (sh 245 r) (by rw [List.getElem?_append_right (by rw [hmr]; omega), hmr, show 245 + i - 245 = i by omega, List.getElem?_map, hi]; rfl)
      rw [ie_sh, ← Nat.add_assoc] at z
      exact z
  refine law_loop S V hL hX hbl (fun H locs ls hS => ?_) (Ls + 5) 0 Xst [] [] sg0 me0 H locs ls (by omega) (by omega) hP CR_first MC_first FX_first (fun Y hY => by cases hY) hl
  refine lv_iconst (v := 1) hx hb dL_law_704 (by decide) ?_
  refine va_forget (fun q hq => hS.2.2 q hq) ?_
  exact lw_ret hd0 hx hb hr hlocks dL_law_705
