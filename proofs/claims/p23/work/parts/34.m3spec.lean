def fauW : Option (Nat × Nat × Int32) → Nat → Int32
  | none, _ => cNF
  | some q, 0 => nI q.1
  | some q, 1 => nI q.2.1
  | some q, _ => if q.2.1 = 1 then q.2.2 else cNF
def cFau (X : SS) (t : List Int32) (w : Int32) : Int32 := if ¬ (nI 0 ≤ w ∧ w ≤ nI 2) then cINV else fauW (faultOf t X) w.toNatClampNeg
theorem rO_le {W : List Int32} {R : Bool × Int32 × List Int32 × Nat} : rO W R ≤ 3 := by
  unfold rO
  split
  · omega
  · split
    · omega
    · split <;> omega
theorem ff_r {t : List Int32} {q : Nat × Nat × Int32} : ∀ {n s : Nat} {W : List Int32}, ff t n s W = some q → 0 < q.2.1 ∧ q.2.1 ≤ 3
  | 0, _, _, h => by cases h
  | n + 1, s, W, h => by
    unfold ff at h
    split at h
    · split at h
      · exact ff_r h
      · rename_i h2
        cases h
        exact ⟨Nat.pos_of_ne_zero h2, rO_le⟩
    · cases h
theorem FR_get {u : St} {t : List Int32} {X : SS} (h : FR u (faultOf t X)) : ∃ rs, rs ≤ 3 ∧ (u 232).getD 1 0 = nI rs ∧ ((rs = 0 → faultOf t X = none) ∧ (0 < rs → ∃ p c, faultOf t X = some (p, rs, c) ∧ u 232 = [nI p, nI rs, c])) := by
  cases hf : faultOf t X with
  | none =>
    rw [hf] at h
    exact ⟨0, by omega, h, fun _ => rfl, fun z => absurd z (Nat.lt_irrefl 0)⟩
  | some q =>
    rw [hf] at h
    obtain ⟨p, rs, c⟩ := q
    have hr := ff_r hf
    exact ⟨rs, hr.2, by rw [show u 232 = [nI p, nI rs, c] from h]; rfl, fun z => absurd z (Nat.ne_of_gt hr.1), fun _ => ⟨p, c, rfl, h⟩⟩
theorem lk_out {w : Int32} {a0 a1 a2 a3 a4 a5 : Int} (h : w ≠ 0 ∧ w ≠ 1 ∧ w ≠ 2 ∧ w ≠ 3 ∧ w ≠ 20 ∧ w ≠ 21) {d : Int} : Op.lookupswitch.offset #[(0, a0), (1, a1), (2, a2), (3, a3), (20, a4), (21, a5)].toList d w.toInt = d := by
  obtain ⟨h0, h1, h2, h3, h4, h5⟩ := h
  have e : ∀ n : Nat, n < 100 → w ≠ nI n → ¬ w.toInt = (n : Int) := fun n hn hw q => hw (Int32.toInt_inj.mp (by rw [q, nI_toInt (by omega)]))
  have g0 := e 0 (by omega) h0
  have g1 := e 1 (by omega) h1
  have g2 := e 2 (by omega) h2
  have g3 := e 3 (by omega) h3
  have g4 := e 20 (by omega) h4
  have g5 := e 21 (by omega) h5
  simp [Op.lookupswitch.offset]
  omega
