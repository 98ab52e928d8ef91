/-! what the class answers where the law asks -/
theorem lI (a b : Nat) (ha : a < 2 ^ 31) (hb : b < 2 ^ 31) (h : a ≤ b) : nI a ≤ nI b := (nI_leI ha hb).mpr h
theorem rI {a b c : Nat} (h1 : a ≤ b) (h2 : b ≤ c) (hc : c < 2 ^ 31) : ¬ ¬ (nI a ≤ nI b ∧ nI b ≤ nI c) := fun z => z ⟨lI _ _ (by omega) (by omega) h1, lI _ _ (by omega) (by omega) h2⟩
theorem cHo_in {X : SS} {i k m : Nat} (hF : FX X) (hi : i < 3) (hk : k < (X.2.2 i).1.length) (hm : m ≤ 6) : cHo X i (nI k) (nI m) = hoV (X.2.2 i).1 k m := by
  obtain ⟨l1, l2, l3, -⟩ := (hF.1.1 i hi).1
  unfold cHo
  rw [if_neg (nI_pos (by omega)), if_neg (rI (Nat.zero_le _) hm (by omega)), if_neg (fun z => absurd ((nI_leI (by omega) (by omega)).mp z) (by omega)), nI_clamp (by omega), nI_clamp (by omega)]
theorem cHo_out {X : SS} {i : Nat} (hF : FX X) (hi : i < 3) : cHo X i (nI (X.2.2 i).1.length) (nI 0) = (-1000004 : Int32) := by
  obtain ⟨l1, l2, l3, -⟩ := (hF.1.1 i hi).1
  unfold cHo
  rw [if_neg (nI_pos (by omega)), if_neg (rI (Nat.zero_le _) (by omega) (by omega)), if_pos Int32.le_rfl]
theorem cBuf_in {X : SS} {i k : Nat} (hF : FX X) (hi : i < 3) (hk : k < (X.2.2 i).2.1.length) : cBuf X i (nI k) = (X.2.2 i).2.1.getD k 0 := by
  obtain ⟨l1, l2, l3, -⟩ := (hF.1.1 i hi).1
  unfold cBuf
  rw [if_neg (nI_pos (by omega)), if_neg (fun z => absurd ((nI_leI (by omega) (by omega)).mp z) (by omega)), nI_clamp (by omega)]
theorem cBuf_out {X : SS} {i : Nat} (hF : FX X) (hi : i < 3) : cBuf X i (nI (X.2.2 i).2.1.length) = (-1000004 : Int32) := by
  obtain ⟨l1, l2, l3, -⟩ := (hF.1.1 i hi).1
  unfold cBuf
  rw [if_neg (nI_pos (by omega)), if_pos Int32.le_rfl]
theorem mDig_in {X : SS} {i w : Nat} (hi : i < 3) (hw : w ≤ 8) : mDig X (nI i) (nI w) = mdOf X i w := by
  unfold mDig
  rw [if_neg (rI (Nat.zero_le _) (show i ≤ 2 by omega) (by omega)), if_neg (rI (Nat.zero_le _) hw (by omega)), nI_clamp (by omega), nI_clamp (by omega)]
theorem whyQ_no {X : SS} {i q m : Nat} (hi : i < 3) (h0 : (X.2.2 i).2.2.1.length = 0) (hq : q ≤ m) (hm : m < 2 ^ 31) : whyQ X (nI i) (nI q) m = cNP := by
  rw [whyQ_in hi, if_neg (rI (Nat.zero_le _) hq hm), if_pos h0]
theorem whyQ_ok {X : SS} {i q m : Nat} (hi : i < 3) (h0 : 0 < (X.2.2 i).2.2.1.length) (hq : q ≤ m) (hm : m < 2 ^ 31) : whyQ X (nI i) (nI q) m = 0 := by
  rw [whyQ_in hi, if_neg (rI (Nat.zero_le _) hq hm), if_neg (by omega)]
theorem n0 : ¬ (0 : Int32) < 0 := by decide
theorem np0 : (cNP : Int32) < 0 := by decide
theorem mQua_0 {X : SS} {i q : Nat} (hi : i < 3) (h0 : (X.2.2 i).2.2.1.length = 0) (hq : q ≤ 1000) : mQua X (nI i) (nI q) = (-1000002 : Int32) := by
  rw [mQua, whyQ_no hi h0 hq (by omega), if_pos np0]
theorem mTru_0 {X : SS} {i q : Nat} (hi : i < 3) (h0 : (X.2.2 i).2.2.1.length = 0) (hq : q ≤ 1000) : mTru X (nI i) (nI q) = (-1000002 : Int32) := by
  rw [mTru, whyQ_no hi h0 hq (by omega), if_pos np0]
theorem mWor_0 {X : SS} {i : Nat} (hi : i < 3) (h0 : (X.2.2 i).2.2.1.length = 0) : mWor X (nI i) (nI 0) = (-1000002 : Int32) := by
  rw [mWor, whyQ_no hi h0 (by omega) (by omega), if_pos np0]
theorem mQua_in {X : SS} {i L0 G0 q : Nat} (hi : i < 3) (hQ : QF (trL X i) (X.2.2 i).2.2.1.length L0 G0) (hq : q ≤ 1000) : mQua X (nI i) (nI q) = nI (qV (trL X i) (X.2.2 i).2.2.1.length L0 G0 q) := by
  rw [mQua, whyQ_ok hi hQ.2.2.2.2.2.1 hq (by omega), if_neg n0, nI_clamp (by omega), nI_clamp (by omega), qAt_n hQ hq]
/-- the true quantile, as a natural number -/
def tN (V : List Int32) (q : Nat) : Nat := ((srt V).getD (q * (V.length - 1) / 1000) 0).toNatClampNeg
theorem tN_eq {V : List Int32} {q : Nat} (hV : ∀ v ∈ V, Vn v) (h0 : 0 < V.length) (hq : q ≤ 1000) : (srt V).getD (q * (V.length - 1) / 1000) 0 = nI (tN V q) ∧ tN V q ≤ 9999 := by
  have h1 := (idx_lt hq h0).1
  obtain ⟨n, hn, e⟩ := hV _ ((srt_Up (V := V)).2.mem_iff.mp (mem_getD (d := (0 : Int32)) (show q * (V.length - 1) / 1000 < (srt V).length by rw [srt_len]; exact h1)))
  unfold tN
  rw [e, nI_clamp (by omega)]
  exact ⟨rfl, hn⟩
theorem trV_n {V : List Int32} {q : Nat} (hV : ∀ v ∈ V, Vn v) (h0 : 0 < V.length) (hq : q ≤ 1000) : trV (srt V) q = nI (tN V q) := by
  rw [trV, srt_len]
  exact (tN_eq hV h0 hq).1
theorem mTru_in {X : SS} {i q : Nat} (hF : FX X) (hi : i < 3) (h0 : 0 < (X.2.2 i).2.2.1.length) (hq : q ≤ 1000) : mTru X (nI i) (nI q) = nI (tN (X.2.2 i).2.2.1 q) := by
  rw [mTru, whyQ_ok hi h0 hq (by omega), if_neg n0, nI_clamp (by omega), nI_clamp (by omega), trV_n (hF.1.1 i hi).2.2.2 h0 hq]
theorem mWor_in0 {X : SS} {i : Nat} (hi : i < 3) (h0 : 0 < (X.2.2 i).2.2.1.length) : mWor X (nI i) (nI 0) = (wrS (trL X i) (srt (X.2.2 i).2.2.1) 11).2 := by
  rw [mWor, whyQ_ok hi h0 (by omega) (by omega), if_neg n0, nI_clamp (by omega), nI_clamp (by omega), if_pos rfl]
theorem mWor_in1 {X : SS} {i : Nat} (hi : i < 3) (h0 : 0 < (X.2.2 i).2.2.1.length) : mWor X (nI i) (nI 1) = (wrS (trL X i) (srt (X.2.2 i).2.2.1) 11).1 := by
  rw [mWor, whyQ_ok hi h0 (by omega) (by omega), if_neg n0, nI_clamp (by omega), nI_clamp (by omega), if_neg (by omega)]
theorem mRan_in {X : SS} {i v : Nat} (hi : i < 3) (h0 : 0 < (X.2.2 i).2.2.1.length) (hv : v ≤ 9999) : mRan X (nI i) (nI v) = rkM (trL X i) (nI v) 1001 := by
  rw [mRan, whyQ_ok hi h0 hv (by omega), if_neg n0, nI_clamp (by omega), nI_clamp (by omega)]
theorem mWid_in {X : SS} {i q : Nat} (hi : i < 3) (h0 : 0 < (X.2.2 i).2.2.1.length) (hq : q ≤ 1000) : mWid X (nI i) (nI q) = wAt (nI (q * ((X.2.2 i).2.2.1.length - 1) / 1000)) (nI 0) (trL X i) := by
  rw [mWid, whyQ_ok hi h0 hq (by omega), if_neg n0, nI_clamp (by omega), nI_clamp (by omega)]
theorem t_heap {l : Launch} {Lc : Lay} {X : SS} {hh : List SS} (hF : FX X) {i : Nat} (hi : i < 3) {k m : Nat} (hk : k < (X.2.2 i).1.length) (hm : m ≤ 6) : ∀ σ, CR σ (clX X) (hh.map clX) [] → Mg l Lc yX7_heapOf (Cond.code yX7_heapOf cX7_heapOf 6 (some FieldType.int) :: qA) rX7_heapOf [.ref (ad Lc 244), .int (nI i), .int (nI k), .int (nI m)] σ (fun r u => r = some (.int (hoV (X.2.2 i).1 k m)) ∧ CR u (clX X) (hh.map clX) []) := fun σ hc => by
  have h9 := c_X7_heapOf l Lc σ hc (XI_cl hF.1) hi (fun x h9 => (hF.1.1 i hi).2.1 x h9) (nI k) (nI m)
  rw [eq_heap, cHo_in hF hi hk hm] at h9
  exact h9
theorem t_heapE {l : Launch} {Lc : Lay} {X : SS} {hh : List SS} (hF : FX X) {i : Nat} (hi : i < 3) : ∀ σ, CR σ (clX X) (hh.map clX) [] → Mg l Lc yX7_heapOf (Cond.code yX7_heapOf cX7_heapOf 6 (some FieldType.int) :: qA) rX7_heapOf [.ref (ad Lc 244), .int (nI i), .int (nI (X.2.2 i).1.length), .int (nI 0)] σ (fun r u => r = some (.int ((-1000004 : Int32))) ∧ CR u (clX X) (hh.map clX) []) := fun σ hc => by
  have h9 := c_X7_heapOf l Lc σ hc (XI_cl hF.1) hi (fun x h9 => (hF.1.1 i hi).2.1 x h9) (nI (X.2.2 i).1.length) (nI 0)
  rw [eq_heap, cHo_out hF hi] at h9
  exact h9
theorem t_buf {l : Launch} {Lc : Lay} {X : SS} {hh : List SS} (hF : FX X) {i : Nat} (hi : i < 3) {k : Nat} (hk : k < (X.2.2 i).2.1.length) : ∀ σ, CR σ (clX X) (hh.map clX) [] → Mg l Lc yX7_bufferOf (Cond.code yX7_bufferOf cX7_bufferOf 4 (some FieldType.int) :: qA) rX7_bufferOf [.ref (ad Lc 244), .int (nI i), .int (nI k)] σ (fun r u => r = some (.int ((X.2.2 i).2.1.getD k 0)) ∧ CR u (clX X) (hh.map clX) []) := fun σ hc => by
  have h9 := c_X7_bufferOf l Lc σ hc (XI_cl hF.1) hi (nI k)
  rw [eq_buf, cBuf_in hF hi hk] at h9
  exact h9
theorem t_bufE {l : Launch} {Lc : Lay} {X : SS} {hh : List SS} (hF : FX X) {i : Nat} (hi : i < 3) : ∀ σ, CR σ (clX X) (hh.map clX) [] → Mg l Lc yX7_bufferOf (Cond.code yX7_bufferOf cX7_bufferOf 4 (some FieldType.int) :: qA) rX7_bufferOf [.ref (ad Lc 244), .int (nI i), .int (nI (X.2.2 i).2.1.length)] σ (fun r u => r = some (.int ((-1000004 : Int32))) ∧ CR u (clX X) (hh.map clX) []) := fun σ hc => by
  have h9 := c_X7_bufferOf l Lc σ hc (XI_cl hF.1) hi (nI (X.2.2 i).2.1.length)
  rw [eq_buf, cBuf_out hF hi] at h9
  exact h9
theorem t_dig {l : Launch} {Lc : Lay} {X : SS} {hh : List SS} (hF : FX X) {i : Nat} (hi : i < 3) {w : Nat} (hw : w ≤ 8) : ∀ σ, CR σ (clX X) (hh.map clX) [] → Mg l Lc yX7_digestOf (Cond.code yX7_digestOf cX7_digestOf 4 (some FieldType.int) :: qA) rX7_digestOf [.ref (ad Lc 244), .int (nI i), .int (nI w)] σ (fun r u => r = some (.int (mdOf X i w)) ∧ CR u (clX X) (hh.map clX) []) := fun σ hc => by
  have h9 := c_X7_digestOf l Lc σ hc (XI_cl hF.1) hi (nI w)
  rw [eq_dig hi hF.1 (hF.2 i hi).1 (hF.2 i hi).2, mDig_in hi hw] at h9
  exact h9
theorem t_qua0 {l : Launch} {Lc : Lay} {X : SS} {hh : List SS} (hF : FX X) {i : Nat} (hi : i < 3) (h0 : (X.2.2 i).2.2.1.length = 0) {q : Nat} (hq : q ≤ 1000) : ∀ σ, CR σ (clX X) (hh.map clX) [] → Mg l Lc yX7_quantile (Cond.code yX7_quantile cX7_quantile 4 (some FieldType.int) :: qA) rX7_quantile [.ref (ad Lc 244), .int (nI i), .int (nI q)] σ (fun r u => r = some (.int ((-1000002 : Int32))) ∧ CR u (clX X) (hh.map clX) []) := fun σ hc => by
  have h9 := c_X7_quantile l Lc σ hc (XI_cl hF.1) hi (nI q)
  rw [eq_qua hi, mQua_0 hi h0 hq] at h9
  exact h9
theorem t_tru0 {l : Launch} {Lc : Lay} {X : SS} {hh : List SS} (hF : FX X) {i : Nat} (hi : i < 3) (h0 : (X.2.2 i).2.2.1.length = 0) {q : Nat} (hq : q ≤ 1000) : ∀ σ, CR σ (clX X) (hh.map clX) [] → Mg l Lc yX7_truth (Cond.code yX7_truth cX7_truth 4 (some FieldType.int) :: qA) rX7_truth [.ref (ad Lc 244), .int (nI i), .int (nI q)] σ (fun r u => r = some (.int ((-1000002 : Int32))) ∧ CR u (clX X) (hh.map clX) []) := fun σ hc => by
  have h9 := c_X7_truth l Lc σ hc (XI_cl hF.1) hi (nI q)
  rw [eq_tru hi, mTru_0 hi h0 hq] at h9
  exact h9
theorem t_wor0 {l : Launch} {Lc : Lay} {X : SS} {hh : List SS} (hF : FX X) {i : Nat} (hi : i < 3) (h0 : (X.2.2 i).2.2.1.length = 0) : ∀ σ, CR σ (clX X) (hh.map clX) [] → Mg l Lc yX7_worst (Cond.code yX7_worst cX7_worst 8 (some FieldType.int) :: qA) rX7_worst [.ref (ad Lc 244), .int (nI i), .int (nI 0)] σ (fun r u => r = some (.int ((-1000002 : Int32))) ∧ CR u (clX X) (hh.map clX) []) := fun σ hc => by
  have h9 := c_X7_worst l Lc σ hc (XI_cl hF.1) hi (nI 0)
  rw [eq_wor hi, mWor_0 hi h0] at h9
  exact h9
theorem t_qua {l : Launch} {Lc : Lay} {X : SS} {hh : List SS} (hF : FX X) {i : Nat} (hi : i < 3) {L0 G0 q : Nat} (hQ : QF (trL X i) (X.2.2 i).2.2.1.length L0 G0) (hq : q ≤ 1000) : ∀ σ, CR σ (clX X) (hh.map clX) [] → Mg l Lc yX7_quantile (Cond.code yX7_quantile cX7_quantile 4 (some FieldType.int) :: qA) rX7_quantile [.ref (ad Lc 244), .int (nI i), .int (nI q)] σ (fun r u => r = some (.int (nI (qV (trL X i) (X.2.2 i).2.2.1.length L0 G0 q))) ∧ CR u (clX X) (hh.map clX) []) := fun σ hc => by
  have h9 := c_X7_quantile l Lc σ hc (XI_cl hF.1) hi (nI q)
  rw [eq_qua hi, mQua_in hi hQ hq] at h9
  exact h9
theorem t_tru {l : Launch} {Lc : Lay} {X : SS} {hh : List SS} (hF : FX X) {i : Nat} (hi : i < 3) {q : Nat} (h0 : 0 < (X.2.2 i).2.2.1.length) (hq : q ≤ 1000) : ∀ σ, CR σ (clX X) (hh.map clX) [] → Mg l Lc yX7_truth (Cond.code yX7_truth cX7_truth 4 (some FieldType.int) :: qA) rX7_truth [.ref (ad Lc 244), .int (nI i), .int (nI q)] σ (fun r u => r = some (.int (nI (tN (X.2.2 i).2.2.1 q))) ∧ CR u (clX X) (hh.map clX) []) := fun σ hc => by
  have h9 := c_X7_truth l Lc σ hc (XI_cl hF.1) hi (nI q)
  rw [eq_tru hi, mTru_in hF hi h0 hq] at h9
  exact h9
theorem t_wor1 {l : Launch} {Lc : Lay} {X : SS} {hh : List SS} (hF : FX X) {i : Nat} (hi : i < 3) (h0 : 0 < (X.2.2 i).2.2.1.length) : ∀ σ, CR σ (clX X) (hh.map clX) [] → Mg l Lc yX7_worst (Cond.code yX7_worst cX7_worst 8 (some FieldType.int) :: qA) rX7_worst [.ref (ad Lc 244), .int (nI i), .int (nI 0)] σ (fun r u => r = some (.int ((wrS (trL X i) (srt (X.2.2 i).2.2.1) 11).2)) ∧ CR u (clX X) (hh.map clX) []) := fun σ hc => by
  have h9 := c_X7_worst l Lc σ hc (XI_cl hF.1) hi (nI 0)
  rw [eq_wor hi, mWor_in0 hi h0] at h9
  exact h9
theorem t_wor2 {l : Launch} {Lc : Lay} {X : SS} {hh : List SS} (hF : FX X) {i : Nat} (hi : i < 3) (h0 : 0 < (X.2.2 i).2.2.1.length) : ∀ σ, CR σ (clX X) (hh.map clX) [] → Mg l Lc yX7_worst (Cond.code yX7_worst cX7_worst 8 (some FieldType.int) :: qA) rX7_worst [.ref (ad Lc 244), .int (nI i), .int (nI 1)] σ (fun r u => r = some (.int ((wrS (trL X i) (srt (X.2.2 i).2.2.1) 11).1)) ∧ CR u (clX X) (hh.map clX) []) := fun σ hc => by
  have h9 := c_X7_worst l Lc σ hc (XI_cl hF.1) hi (nI 1)
  rw [eq_wor hi, mWor_in1 hi h0] at h9
  exact h9
theorem t_ran {l : Launch} {Lc : Lay} {X : SS} {hh : List SS} (hF : FX X) {i : Nat} (hi : i < 3) {v : Nat} (h0 : 0 < (X.2.2 i).2.2.1.length) (hv : v ≤ 9999) : ∀ σ, CR σ (clX X) (hh.map clX) [] → Mg l Lc yX7_rank (Cond.code yX7_rank cX7_rank 4 (some FieldType.int) :: qA) rX7_rank [.ref (ad Lc 244), .int (nI i), .int (nI v)] σ (fun r u => r = some (.int (rkM (trL X i) (nI v) 1001)) ∧ CR u (clX X) (hh.map clX) []) := fun σ hc => by
  have h9 := c_X7_rank l Lc σ hc (XI_cl hF.1) hi (nI v)
  rw [eq_ran hi hF, mRan_in hi h0 hv] at h9
  exact h9
theorem t_wid {l : Launch} {Lc : Lay} {X : SS} {hh : List SS} (hF : FX X) {i : Nat} (hi : i < 3) {q : Nat} (h0 : 0 < (X.2.2 i).2.2.1.length) (hq : q ≤ 1000) : ∀ σ, CR σ (clX X) (hh.map clX) [] → Mg l Lc yX7_width (Cond.code yX7_width cX7_width 4 (some FieldType.int) :: qA) rX7_width [.ref (ad Lc 244), .int (nI i), .int (nI q)] σ (fun r u => r = some (.int (wAt (nI (q * ((X.2.2 i).2.2.1.length - 1) / 1000)) (nI 0) (trL X i))) ∧ CR u (clX X) (hh.map clX) []) := fun σ hc => by
  have h9 := c_X7_width l Lc σ hc (XI_cl hF.1) hi (nI q)
  rw [eq_wid2 hi, mWid_in hi h0 hq] at h9
  exact h9
/-! what the law computes of a digest -/
theorem HA.m {f : Nat → Int32} {A : List Hp} (h : HA f A) {k m : Nat} (hk : k < A.length) (hm : m < 4) : f (4 * k + m) = hoV A k m := by
  rcases (show m = 0 ∨ m = 1 ∨ m = 2 ∨ m = 3 by omega) with rfl | rfl | rfl | rfl
  · exact h.w hk
  · exact h.s hk
  · exact h.l hk
  · exact h.g hk
theorem isum_1 {A : List Hp} {k : Nat} : isum (A.map h_w) k + h_w (A.getD k hd0) = isum (A.map h_w) (k + 1) := by
  show _ = isum (A.map h_w) k + (A.map h_w).getD k (h_w hd0)
  rw [getD_map]
theorem HA_cp {f g : Nat → Int32} {A : List Hp} (h : HA g A) (hc : ∀ i, i < 4 * A.length → f i = g i) : HA f A := fun i hi => by
  rw [← h i hi]
  unfold hp9
  rw [hc _ (by omega), hc _ (by omega), hc _ (by omega), hc _ (by omega)]
theorem cp_1 {σ σ1 : Me} {a k : Nat} {v : Int32} (h : ∀ i, i < k → σ1 9 i = σ a i) (hv : v = σ a k) : ∀ i, i < k + 1 → mu σ1 9 k v 9 i = σ a i := fun i hi => by
  by_cases q : i = k
  · rw [q, mu_s, hv]
  · rw [mu_i q]
    exact h i (by omega)
def fa (a b : Nat) : Nat := if b < a then a - b else b - a
theorem absI_n {a b : Nat} (ha : a < 2 ^ 30) (hb : b < 2 ^ 30) : absI (nI a - nI b) = nI (fa a b) := by
  unfold absI fa
  have h := pk_sub_toInt ha hb
  by_cases q : b < a
  · have h0 : (0 : Int32) ≤ nI a - nI b := Int32.le_iff_toInt_le.mpr (by rw [h]; show (0 : Int) ≤ _; omega)
    rw [if_pos h0, if_pos q, nI_subn (by omega)]
  · rw [if_neg q]
    by_cases q2 : a = b
    · subst q2
      rw [if_pos (by rw [Int32.sub_self]; exact Int32.le_rfl), Int32.sub_self, Nat.sub_self]
      rfl
    · have h0 : ¬ (0 : Int32) ≤ nI a - nI b := fun z => by
        have z2 := Int32.le_iff_toInt_le.mp z
        rw [h] at z2
        have z3 : (0 : Int) ≤ (a : Int) - b := z2
        omega
      rw [if_neg h0, Int32.zero_sub, Int32.neg_sub, nI_subn (by omega)]
/-- the worst so far: the class's, and the law's, that begins with -1 -/
def WR (T : List Hp) (V : List Int32) (j : Nat) (wq wf : Int32) : Prop := (wrS T V j).1 = wf ∧ (j = 0 ∧ wf = (-1) ∨ 0 < j ∧ (wrS T V j).2 = wq)
theorem WR_0 {T : List Hp} {V : List Int32} {wq : Int32} : WR T V 0 wq (-1) := ⟨rfl, Or.inl ⟨rfl, rfl⟩⟩
theorem wr_v {T : List Hp} {V : List Int32} {n L0 G0 j : Nat} (hQ : QF T n L0 G0) (hV : ∀ v ∈ V, Vn v) (h0 : 0 < V.length) (hj : 100 * j ≤ 1000) : absI (qAt T (nI (100 * j)) - trV (srt V) (100 * j)) = nI (fa (qV T n L0 G0 (100 * j)) (tN V (100 * j))) := by
  have h1 := qV_le hQ hj
  have h2 := hQ.2.1
  have h3 := (tN_eq hV h0 hj).2
  rw [qAt_n hQ hj, trV_n hV h0 hj, absI_n (by omega) (by omega)]
theorem wr_up {T : List Hp} {V : List Int32} {n L0 G0 j : Nat} {wq wf : Int32} (hQ : QF T n L0 G0) (hV : ∀ v ∈ V, Vn v) (h0 : 0 < V.length) (hj : 100 * j ≤ 1000) (hw : WR T (srt V) j wq wf) (h : ¬ nI (fa (qV T n L0 G0 (100 * j)) (tN V (100 * j))) ≤ wf) : WR T (srt V) (j + 1) (nI (100 * j)) (nI (fa (qV T n L0 G0 (100 * j)) (tN V (100 * j)))) := by
  have e : wrS T (srt V) (j + 1) = (nI (fa (qV T n L0 G0 (100 * j)) (tN V (100 * j))), nI (100 * j)) := by
    rw [wrS, wr_v hQ hV h0 hj, hw.1, if_pos (Int32.not_le.mp h)]
  unfold WR
  rw [e]
  exact ⟨rfl, Or.inr ⟨Nat.succ_pos _, rfl⟩⟩
theorem wr_no {T : List Hp} {V : List Int32} {n L0 G0 j : Nat} {wq wf : Int32} (hQ : QF T n L0 G0) (hV : ∀ v ∈ V, Vn v) (h0 : 0 < V.length) (hj : 100 * j ≤ 1000) (hw : WR T (srt V) j wq wf) (h : nI (fa (qV T n L0 G0 (100 * j)) (tN V (100 * j))) ≤ wf) : WR T (srt V) (j + 1) wq wf := by
  have e : wrS T (srt V) (j + 1) = wrS T (srt V) j := by
    rw [wrS, wr_v hQ hV h0 hj, hw.1, if_neg (Int32.not_lt.mpr h)]
  obtain ⟨a, b⟩ := hw
  unfold WR
  rw [e]
  refine ⟨a, Or.inr ⟨Nat.succ_pos _, ?_⟩⟩
  rcases b with ⟨-, b2⟩ | ⟨-, b2⟩
  · rw [b2] at h
    have h1 := qV_le hQ hj
    have h2 := hQ.2.1
    have h3 := (tN_eq hV h0 hj).2
    have hf : fa (qV T n L0 G0 (100 * j)) (tN V (100 * j)) < 2 ^ 31 := by unfold fa; split <;> omega
    have z := Int32.le_iff_toInt_le.mp h
    rw [nI_toInt hf, show (-1 : Int32).toInt = -1 from by decide +kernel] at z
    omega
  · exact b2
theorem WR_e {T : List Hp} {V : List Int32} {j : Nat} {wq wf : Int32} (hw : WR T V j wq wf) (hj : j = 11) : (wrS T V 11).2 = wq ∧ (wrS T V 11).1 = wf := by
  subst hj
  exact ⟨hw.2.elim (fun z => absurd z.1 (by omega)) (fun z => z.2), hw.1⟩
theorem fa_b {T : List Hp} {V : List Int32} {n L0 G0 q : Nat} (hQ : QF T n L0 G0) (hV : ∀ v ∈ V, Vn v) (h0 : 0 < V.length) (hq : q ≤ 1000) : qV T n L0 G0 q ≤ 9999 ∧ tN V q ≤ 9999 ∧ fa (qV T n L0 G0 q) (tN V q) ≤ 9999 := by
  have h1 := qV_le hQ hq
  have h2 := hQ.2.1
  have h3 := (tN_eq hV h0 hq).2
  refine ⟨by omega, h3, ?_⟩
  unfold fa
  split <;> omega
theorem rkc_lo (R : Nat) (h : R ≤ 1001) : ¬ rkc R < (-1) := by
  cases R with
  | zero => exact Int32.lt_irrefl
  | succ n =>
    intro z
    have z2 := Int32.lt_iff_toInt_lt.mp z
    rw [show rkc (n + 1) = nI n from rfl, nI_toInt (by omega), show (-1 : Int32).toInt = -1 from by decide +kernel] at z2
    omega
theorem rkc_hi (R : Nat) (h : R ≤ 1001) : ¬ nI 1000 < rkc R := by
  cases R with
  | zero => exact (show ¬ nI 1000 < (-1) from by decide +kernel)
  | succ n =>
    intro z
    have z2 := (nI_ltI (by omega) (by omega)).mp (show nI 1000 < nI n from z)
    omega
theorem rkc_0 {R : Nat} (h : R ≤ 1001) (hz : rkc R < 0) : R = 0 := by
  cases R with
  | zero => rfl
  | succ n => exact absurd hz (nI_pos (by omega))
theorem rkc_s {R : Nat} (hz : ¬ rkc R < 0) : ∃ n, R = n + 1 := by
  cases R with
  | zero => exact absurd (show (-1 : Int32) < 0 from by decide +kernel) hz
  | succ n => exact ⟨n, rfl⟩
theorem rk_in {T : List Hp} {n L0 G0 q R v : Nat} (hQ : QF T n L0 G0) (hR : ∀ q, q < 1001 → (qAt T (nI q) ≤ nI v ↔ q < R)) (hq : q < 1001) (hv : v ≤ 9999) : (q < R → qV T n L0 G0 q ≤ v) ∧ (R ≤ q → v < qV T n L0 G0 q) := by
  have h1 := qV_le hQ (show q ≤ 1000 by omega)
  have h2 := hQ.2.1
  have h3 := hR q hq
  rw [qAt_n hQ (by omega), nI_leI (by omega) (by omega)] at h3
  omega
theorem wd_s {T : List Hp} {idx p : Nat} (hp : p < T.length) (hg : ∀ x ∈ T, GH x) (hs : sumN T ≤ 200) (hi : idx ≤ 200) (hc : idx < sumN (T.take (p + 1))) : wAt (nI idx) (nI (sumN (T.take p))) (T.drop p) = h_g (T.getD p hd0) - h_l (T.getD p hd0) := by
  have hw := wN_GH (hg _ (mem_getD (d := hd0) hp))
  have e := sumN_take hp
  have hb := sum_td T (p + 1)
  rw [wAt_1 hp, hw.1, nI_add, ← e, if_pos ((nI_ltI (by omega) (by omega)).mpr hc)]
theorem wd_n {T : List Hp} {idx p : Nat} (hp : p < T.length) (hg : ∀ x ∈ T, GH x) (hs : sumN T ≤ 200) (hi : idx ≤ 200) (hc : sumN (T.take (p + 1)) ≤ idx) : wAt (nI idx) (nI (sumN (T.take p))) (T.drop p) = wAt (nI idx) (nI (sumN (T.take (p + 1)))) (T.drop (p + 1)) := by
  have hw := wN_GH (hg _ (mem_getD (d := hd0) hp))
  have e := sumN_take hp
  have hb := sum_td T (p + 1)
  rw [wAt_1 hp, hw.1, nI_add, ← e, if_neg (fun z => absurd ((nI_ltI (by omega) (by omega)).mp z) (by omega))]
