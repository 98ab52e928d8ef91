def RD (D : Dg) : Prop := (∀ x ∈ D.1, eds D.2.2.1 x) ∧ (∀ b ∈ D.2.1, b ∈ D.2.2.1) ∧ ∀ v ∈ D.2.2.1, (∃ x ∈ D.1, cov x v) ∨ v ∈ D.2.1
theorem cov_unit {v : Int32} : cov (hunit v) v := ⟨Int32.le_rfl, Int32.le_rfl⟩
theorem RD_pk {f : Int32} {D : Dg} (h : RD D) : RD (pkD f D) := by
  obtain ⟨h1, h2, h3⟩ := h
  refine ⟨packL_eds (fun x hx => ?_), fun b hb => (by cases hb), fun v hv => Or.inl (packL_cov ?_)⟩
  · rcases List.mem_append.mp hx with q | q
    · exact h1 x q
    · obtain ⟨b, hb, rfl⟩ := List.mem_map.mp q
      exact ⟨h2 b hb, h2 b hb⟩
  · rcases h3 v hv with ⟨x, hx, hc⟩ | hb
    · exact ⟨x, List.mem_append_left _ hx, hc⟩
    · exact ⟨hunit v, List.mem_append_right _ (List.mem_map_of_mem hb), cov_unit⟩
theorem RD_rcvM {s0 s1 v : Int32} {D : Dg} (h : RD D) : RD (rcvM s0 s1 D v) := by
  have hE : RD (if s1 ≤ nI D.2.1.length then pkD s0 D else D) := by
    by_cases q : s1 ≤ nI D.2.1.length
    · rw [if_pos q]; exact RD_pk h
    · rw [if_neg q]; exact h
  unfold rcvM
  revert hE
  generalize (if s1 ≤ nI D.2.1.length then pkD s0 D else D) = E
  intro hE
  obtain ⟨h1, h2, h3⟩ := hE
  refine ⟨fun x hx => ⟨List.mem_append_left _ (h1 x hx).1, List.mem_append_left _ (h1 x hx).2⟩, fun b hb => ?_, fun w hw => ?_⟩
  · rcases List.mem_append.mp hb with q | q
    · exact List.mem_append_left _ (h2 b q)
    · exact List.mem_append_right _ q
  · rcases List.mem_append.mp hw with q | q
    · rcases h3 w q with h | h
      · exact Or.inl h
      · exact Or.inr (List.mem_append_left _ h)
    · exact Or.inr (List.mem_append_right _ q)
theorem RD_rcvMN {s0 s1 v : Int32} {D : Dg} (h : RD D) : ∀ n, RD (rcvMN s0 s1 D v n)
  | 0 => h
  | n + 1 => RD_rcvM (RD_rcvMN h n)
theorem RD_toM {f : Int32} {D D2 : Dg} (h : RD D) (h2 : RD D2) : RD (toM f D2 D D2.2.2.1.length) := by
  obtain ⟨a1, a2, a3⟩ := RD_pk (f := f) h
  obtain ⟨b1, b2, b3⟩ := RD_pk (f := f) h2
  have e : (toM f D2 D D2.2.2.1.length).2.2.1 = D.2.2.1 ++ D2.2.2.1 := by
    show D.2.2.1 ++ D2.2.2.1.take D2.2.2.1.length = _
    rw [List.take_length]
  refine ⟨?_, fun b hb => (by cases hb), fun v hv => Or.inl ?_⟩
  · rw [e]
    refine packL_eds (fun x hx => ?_)
    rcases List.mem_append.mp hx with q | q
    · exact ⟨List.mem_append_left _ (a1 x q).1, List.mem_append_left _ (a1 x q).2⟩
    · exact ⟨List.mem_append_right _ (b1 x q).1, List.mem_append_right _ (b1 x q).2⟩
  · rw [e] at hv
    refine packL_cov ?_
    rcases List.mem_append.mp hv with q | q
    · rcases a3 v q with ⟨x, hx, hc⟩ | z
      · exact ⟨x, List.mem_append_left _ hx, hc⟩
      · cases z
    · rcases b3 v q with ⟨x, hx, hc⟩ | z
      · exact ⟨x, List.mem_append_right _ hx, hc⟩
      · cases z
