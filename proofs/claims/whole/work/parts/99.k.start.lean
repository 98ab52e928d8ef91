theorem start_L {U : State} {args : Array Value} (hts : ∀ w ∈ lw_tbl, w.before args U = true) : ∃ L : Lay, KC L U := by
  have hq : ∀ w ∈ qA, w.before args U = true := fun w h => hts w (qA_tbl h)
  obtain ⟨c0, s0, k0⟩ := u_known hq i_wsX00 (hq _ q_44)
  obtain ⟨c1, s1, k1⟩ := u_known hq i_wsX10 (hq _ q_50)
  obtain ⟨c2, s2, k2⟩ := u_known hq i_wsX20 (hq _ q_117)
  obtain ⟨c3, s3, k3⟩ := u_known hq i_wsX30 (hq _ q_135)
  obtain ⟨c4, s4, k4⟩ := u_known hq i_wsX40 (hq _ q_27)
  obtain ⟨c5, s5, k5⟩ := u_known hq i_wsX50 (hq _ q_21)
  obtain ⟨c6, s6, k6⟩ := u_known hq i_wsX60 (hq _ q_159)
  obtain ⟨c7, s7, k7⟩ := u_known hq i_wsX70 (hq _ q_13)
  obtain ⟨c8, s8, k8⟩ := u_known hq i_wsX80 (hq _ q_591)
  obtain ⟨cA, kA, cm, f1, f2, f3⟩ := Cond.arrayClass_spec (hq _ q_42)
  obtain ⟨cm2, cB, kB, g1, g2, g3, g4, g5⟩ := Cond.arrayOver_spec (hts _ q_123)
  refine ⟨((fun c => [c0, c1, c2, c3, c4, c5, c6, c7, c8].getD c c0, fun c => [s0, s1, s2, s3, s4, s5, s6, s7, s8].getD c s0), cA, cB, fun _ => 0), ⟨⟨fun c q hc => ?_, fun k q hk => ?_⟩, va_Nw.of rfl (hts _ q_478)⟩, va_Nw.of rfl (hts _ q_45), va_Nw.of rfl (hts _ q_51), va_Nw.of rfl (hts _ q_136), va_Nw.of rfl (hts _ q_160), va_Nw.of rfl (hts _ q_183), va_AO.of (hts _ q_123)⟩
  · have h9 : c < 9 := (List.getElem?_eq_some_iff.mp hc).1
    rcases (show c = 0 ∨ c = 1 ∨ c = 2 ∨ c = 3 ∨ c = 4 ∨ c = 5 ∨ c = 6 ∨ c = 7 ∨ c = 8 by omega) with rfl | rfl | rfl | rfl | rfl | rfl | rfl | rfl | rfl <;> cases hc
    · exact k0
    · exact k1
    · exact k2
    · exact k3
    · exact k4
    · exact k5
    · exact k6
    · exact k7
    · exact k8
  · have h2 : k < 2 := (List.getElem?_eq_some_iff.mp hk).1
    rcases (show k = 0 ∨ k = 1 by omega) with rfl | rfl <;> cases hk
    · exact ⟨fun N z => ⟨(fun k h => by cases h), kA, f2, cm, f3⟩, f1⟩
    · exact ⟨fun N z => ⟨(fun k h => by cases h), kB, g3, cm2, g4⟩, kB, cm2, g3, g4, g1, g5⟩
theorem and31 (x : Int32) : ∃ w, w < 32 ∧ x &&& nI 31 = nI w := by
  refine ⟨(x &&& nI 31).toBitVec.toNat, ?_, ?_⟩
  · rw [Int32.toBitVec_and, BitVec.toNat_and]
    have h : (nI 31).toBitVec.toNat = 2 ^ 5 - 1 := by decide +kernel
    rw [h, Nat.and_two_pow_sub_one_eq_mod]
    exact Nat.mod_lt _ (by omega)
  · apply Int32.toBitVec_inj.mp
    apply BitVec.eq_of_toNat_eq
    show _ = (BitVec.ofNat 32 _).toNat
    rw [BitVec.toNat_ofNat, Nat.mod_eq_of_lt (x &&& nI 31).toBitVec.isLt]
theorem pos_lt {i : Nat} (h : i < 245) : pos i < 245 := by
  unfold pos
  repeat' split
  all_goals omega
theorem law_le {k n : Nat} (hk : k ≤ 4096) (hn : n ≤ 2048) (h : ¬ (nI n - nI 4 < nI k)) : k + 4 ≤ n := by
  have h2 := Int32.le_iff_toInt_le.mp (Int32.not_lt.mp h)
  rw [pk_sub_toInt (by omega) (by omega), nI_toInt (by omega)] at h2
  omega
