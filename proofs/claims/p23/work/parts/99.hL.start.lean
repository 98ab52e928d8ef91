/-! the law's beginning -/
theorem start_L {U : State} {args : Array Value} (hts : ∀ w ∈ lw_tbl, w.before args U = true) : ∃ L : Lay, KC L U := by
  have hq : ∀ w ∈ qA, w.before args U = true := fun w h => hts w (qA_tbl h)
  obtain ⟨c0, s0, k0⟩ := u_known hq i_wsX00 (hq _ q_43)
  obtain ⟨c1, s1, k1⟩ := u_known hq i_wsX10 (hq _ q_49)
  obtain ⟨c2, s2, k2⟩ := u_known hq i_wsX20 (hq _ q_115)
  obtain ⟨c3, s3, k3⟩ := u_known hq i_wsX30 (hq _ q_133)
  obtain ⟨c4, s4, k4⟩ := u_known hq i_wsX40 (hq _ q_26)
  obtain ⟨c5, s5, k5⟩ := u_known hq i_wsX50 (hq _ q_20)
  obtain ⟨c6, s6, k6⟩ := u_known hq i_wsX60 (hq _ q_151)
  obtain ⟨c7, s7, k7⟩ := u_known hq i_wsX70 (hq _ q_12)
  obtain ⟨cA, kA, cm, f1, f2, f3⟩ := Cond.arrayClass_spec (hq _ q_41)
  obtain ⟨cm2, cB, kB, g1, g2, g3, g4, g5⟩ := Cond.arrayOver_spec (hts _ q_121)
  refine ⟨((fun c => [c0, c1, c2, c3, c4, c5, c6, c7].getD c c0, fun c => [s0, s1, s2, s3, s4, s5, s6, s7].getD c s0), cA, cB, fun _ => 0), ⟨⟨fun c q hc => ?_, fun k q hk => ?_⟩, va_Nw.of rfl (hts _ q_508)⟩, va_Nw.of rfl (hts _ q_44), va_Nw.of rfl (hts _ q_50), va_Nw.of rfl (hts _ q_134), va_Nw.of rfl (hts _ q_152), va_Nw.of rfl (hts _ q_172), va_AO.of (hts _ q_121)⟩
  · have h9 : c < 8 := (List.getElem?_eq_some_iff.mp hc).1
    rcases (show c = 0 ∨ c = 1 ∨ c = 2 ∨ c = 3 ∨ c = 4 ∨ c = 5 ∨ c = 6 ∨ c = 7 by omega) with rfl | rfl | rfl | rfl | rfl | rfl | rfl | rfl <;> cases hc
    · exact k0
    · exact k1
    · exact k2
    · exact k3
    · exact k4
    · exact k5
    · exact k6
    · exact k7
  · have h2 : k < 2 := (List.getElem?_eq_some_iff.mp hk).1
    rcases (show k = 0 ∨ k = 1 by omega) with rfl | rfl <;> cases hk
    · exact ⟨fun N z => ⟨(fun k h => by cases h), kA, f2, cm, f3⟩, f1⟩
    · exact ⟨fun N z => ⟨(fun k h => by cases h), kB, g3, cm2, g4⟩, kB, cm2, g3, g4, g1, g5⟩
theorem pos_lt {i : Nat} (h : i < 245) : pos i < 245 := by
  unfold pos
  repeat' split
  all_goals omega
theorem sh_0 : ∀ r : RE, sh 0 r = r
  | .inl o => by
    have e : o.2.map (shv 0) = o.2 := by
      have e2 : ∀ v : RV, shv 0 v = v := fun v => by
        match v with
        | none => rfl
        | some (.inl i) => show (some (Sum.inl (0 + i)) : RV) = _; rw [Nat.zero_add]
        | some (.inr x) => rfl
      rw [show shv 0 = id from funext e2, List.map_id]
    show (Sum.inl (o.1, o.2.map (shv 0)) : RE) = _
    rw [e]
  | .inr (.inl a) => rfl
  | .inr (.inr a) => by
    have e2 : (fun q : Option Nat => q.map (fun k => 0 + k)) = id := funext (fun q => by
      cases q with
      | none => rfl
      | some k => show some (0 + k) = some k; rw [Nat.zero_add])
    show (Sum.inr (Sum.inr (a.1, a.2.map (fun q => q.map (fun k => 0 + k)))) : RE) = _
    rw [e2, List.map_id]
theorem map_sh0 (rl : List RE) : rl.map (sh 0) = rl := by
  rw [show sh 0 = id from funext sh_0, List.map_id]

/-! the first world of the law -/
def Lw9 (L : Lay) (h : Nat) : Lay := (L.1, L.2.1, L.2.2.1, fun k => h + k)
def me9 : Me := fun _ i => ([] : List Int32).getD i 0
theorem Lw9_inj {L : Lay} {h : Nat} : Inj9 (Lw9 L h) := fun i j hi hj e => by
  have e2 : h + i = h + j := e
  omega
theorem Pw9_first {L : Lay} {h : Nat} {H : Heap} (hB : ∀ k, k < 10 → va_at L.1 vwCl (h + k, .inl (L.2.1, ln9 k, .inl (fun i => ([] : List Int32).getD i 0))) H) : Pw9 (Lw9 L h) me9 H := fun k q hk => by
  obtain ⟨h1, rfl⟩ := wld9_of hk
  exact hB k h1
theorem IV_first : IV Xst (mu (mu me9 0 0 (nI 10)) 0 1 (nI 5)) := by
  refine ⟨FX_first, fun i hi => ⟨fun j hj => absurd hj (Nat.not_lt_zero _), fun j hj => absurd hj (Nat.not_lt_zero _), fun j hj => absurd hj (Nat.not_lt_zero _), ?_, ?_, ?_, ?_⟩, ⟨rfl, rfl⟩, ?_, ?_⟩
  · rw [mu_k (by omega), mu_k (by omega)]; rfl
  · rw [mu_k (by omega), mu_k (by omega)]; rfl
  · rw [mu_k (by omega), mu_k (by omega)]; rfl
  · rw [mu_k (by omega), mu_k (by omega)]; rfl
  · rw [mu_i (by omega), mu_s]; rfl
  · rw [mu_s]; rfl
def arr10 : List RE := [.inr (.inl (2, [])), .inr (.inl (64, [])), .inr (.inl (64, [])), .inr (.inl (20, [])), .inr (.inl (20, [])), .inr (.inl (40, [])), .inr (.inl (40, [])), .inr (.inl (4, [])), .inr (.inl (4, [])), .inr (.inl (64, []))]
theorem arr10_at : ∀ k, k < 10 → arr10[k]? = some (.inr (.inl (ln9 k, []))) := by
  intro k hk
  rcases (show k = 0 ∨ k = 1 ∨ k = 2 ∨ k = 3 ∨ k = 4 ∨ k = 5 ∨ k = 6 ∨ k = 7 ∨ k = 8 ∨ k = 9 by omega) with rfl | rfl | rfl | rfl | rfl | rfl | rfl | rfl | rfl | rfl <;> rfl
