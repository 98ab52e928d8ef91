/-! a digest in the law's arrays -/
def LD (μ : Me) (d : Nat) (D : Dg) : Prop := HA (μ (1 + d)) D.1 ∧ RA (μ (3 + d)) D.2.1 ∧ RA (μ (5 + d)) D.2.2.1 ∧ μ (7 + d) 0 = nI D.1.length ∧ μ (7 + d) 1 = nI D.2.1.length ∧ μ (7 + d) 2 = nI D.2.2.1.length ∧ μ (7 + d) 3 = D.2.2.2
theorem LD.congr {μ u : Me} {d : Nat} {D : Dg} (h : LD μ d D) (e1 : u (1 + d) = μ (1 + d)) (e3 : u (3 + d) = μ (3 + d)) (e5 : u (5 + d) = μ (5 + d)) (e7 : u (7 + d) = μ (7 + d)) : LD u d D := by
  unfold LD
  rw [e1, e3, e5, e7]
  exact h
theorem ln9_1 {d : Nat} (h : d < 2) : ln9 (1 + d) = 64 := by rcases (show d = 0 ∨ d = 1 by omega) with rfl | rfl <;> rfl
theorem ln9_3 {d : Nat} (h : d < 2) : ln9 (3 + d) = 20 := by rcases (show d = 0 ∨ d = 1 by omega) with rfl | rfl <;> rfl
theorem ln9_5 {d : Nat} (h : d < 2) : ln9 (5 + d) = 40 := by rcases (show d = 0 ∨ d = 1 by omega) with rfl | rfl <;> rfl
theorem ln9_7 {d : Nat} (h : d < 2) : ln9 (7 + d) = 4 := by rcases (show d = 0 ∨ d = 1 by omega) with rfl | rfl <;> rfl
theorem HA_push {f : Nat → Int32} {A : List Hp} {n : Nat} {w s l g : Int32} (h : HA f A) (hn : n = A.length) : HA (fu (fu (fu (fu f (4 * n) w) (4 * n + 1) s) (4 * n + 2) l) (4 * n + 3) g) (A ++ [(w, s, l, g)]) := fun i hi => by
  rw [List.length_append, List.length_singleton] at hi
  rw [hp9_put, hn]
  by_cases q : i = A.length
  · rw [if_pos q, q, getD_snoc_l]
  · rw [if_neg q, getD_app_l (by omega)]
    exact h i (by omega)
theorem pk_push {f : Nat → Int32} {A : List Hp} {B : List Int32} {k n : Nat} (h : HA f (A ++ (B.take k).map hunit)) (hk : k < B.length) (hn : n = A.length + k) : HA (fu (fu (fu (fu f (4 * n) (nI 1)) (4 * n + 1) (B.getD k 0)) (4 * n + 2) (B.getD k 0)) (4 * n + 3) (B.getD k 0)) (A ++ (B.take (k + 1)).map hunit) := by
  have := HA_push (n := n) (w := nI 1) (s := B.getD k 0) (l := B.getD k 0) (g := B.getD k 0) h (by rw [List.length_append, List.length_map, List.length_take]; omega)
  rw [← take_snoc (d := (0 : Int32)) hk, List.map_append, ← List.append_assoc]
  rw [show nI 1 = (1 : Int32) from by decide +kernel] at this ⊢
  exact this
theorem RA_push {f : Nat → Int32} {B : List Int32} {v : Int32} (h : RA f B) : RA (fu f B.length v) (B ++ [v]) := fun i hi => by
  rw [List.length_append, List.length_singleton] at hi
  by_cases q : i = B.length
  · rw [q, fu_s, getD_snoc_l]
  · rw [fu_n q, getD_app_l (by omega)]
    exact h i (by omega)
theorem LD_pk {σ σ1 σ8 : Me} {d : Nat} {D : Dg} {f : Int32} (hD : LD σ d D) (hd : d < 2) (ho : ∀ q, q ≠ 1 + d → q ≠ 7 + d → σ1 q = σ q) (hn : ∀ i, i ≠ 0 → σ1 (7 + d) i = σ (7 + d) i) (hO8 : Oa (1 + d) σ1 σ8) (hH8 : HA (σ8 (1 + d)) (packL f (D.1 ++ D.2.1.map hunit))) :
    LD (mu (mu (mu σ8 (7 + d) 0 (nI (packL f (D.1 ++ D.2.1.map hunit)).length)) (7 + d) 1 (nI 0)) (7 + d) 3 (D.2.2.2 + nI 1)) d (pkD f D) ∧ ∀ k, k ≠ 1 + d → k ≠ 7 + d → mu (mu (mu σ8 (7 + d) 0 (nI (packL f (D.1 ++ D.2.1.map hunit)).length)) (7 + d) 1 (nI 0)) (7 + d) 3 (D.2.2.2 + nI 1) k = σ k := by
  have key : ∀ k, k ≠ 1 + d → k ≠ 7 + d → mu (mu (mu σ8 (7 + d) 0 (nI (packL f (D.1 ++ D.2.1.map hunit)).length)) (7 + d) 1 (nI 0)) (7 + d) 3 (D.2.2.2 + nI 1) k = σ k := fun k h1 h2 => by
    rw [mu_r h2, mu_r h2, mu_r h2, hO8 k h1, ho k h1 h2]
  refine ⟨⟨?_, fun i hi => absurd hi (Nat.not_lt_zero _), ?_, ?_, ?_, ?_, ?_⟩, key⟩
  · rw [mu_r (by omega), mu_r (by omega), mu_r (by omega)]
    exact hH8
  · rw [key _ (by omega) (by omega)]
    exact hD.2.2.1
  · rw [mu_i (by omega), mu_i (by omega), mu_s]
    rfl
  · rw [mu_i (by omega), mu_s]
    rfl
  · rw [mu_i (by omega), mu_i (by omega), mu_i (by omega), hO8 _ (by omega), hn 2 (by omega)]
    exact hD.2.2.2.2.2.1
  · rw [mu_s]
    rfl
theorem LD_cm {σ σ2 : Me} {d : Nat} {E : Dg} {v : Int32} (hE : LD σ2 d E) (hd : d < 2) (ho : ∀ k, k ≠ 1 + d → k ≠ 7 + d → σ2 k = σ k) :
    LD (mu (mu (mu (mu σ2 (7 + d) 1 (nI (E.2.1.length + 1))) (3 + d) E.2.1.length v) (7 + d) 2 (nI (E.2.2.1.length + 1))) (5 + d) E.2.2.1.length v) d (E.1, E.2.1 ++ [v], E.2.2.1 ++ [v], E.2.2.2) ∧ ∀ k, k ≠ 1 + d → k ≠ 3 + d → k ≠ 5 + d → k ≠ 7 + d → mu (mu (mu (mu σ2 (7 + d) 1 (nI (E.2.1.length + 1))) (3 + d) E.2.1.length v) (7 + d) 2 (nI (E.2.2.1.length + 1))) (5 + d) E.2.2.1.length v k = σ k := by
  obtain ⟨h1, h2, h3, h4, h5, h6, h7⟩ := hE
  refine ⟨⟨?_, ?_, ?_, ?_, ?_, ?_, ?_⟩, fun k k1 k3 k5 k7 => by rw [mu_r k5, mu_r k7, mu_r k3, mu_r k7, ho k k1 k7]⟩
  · rw [mu_r (by omega), mu_r (by omega), mu_r (by omega), mu_r (by omega)]
    exact h1
  · rw [mu_r (by omega), mu_r (by omega), mu_f, mu_r (by omega)]
    exact RA_push h2
  · rw [mu_f, mu_r (by omega), mu_r (by omega), mu_r (by omega)]
    exact RA_push h3
  · rw [mu_k (by omega), mu_i (by omega), mu_k (by omega), mu_i (by omega)]
    exact h4
  · rw [mu_k (by omega), mu_i (by omega), mu_k (by omega), mu_s, List.length_append, List.length_singleton]
  · rw [mu_k (by omega), mu_s, List.length_append, List.length_singleton]
  · rw [mu_k (by omega), mu_i (by omega), mu_k (by omega), mu_i (by omega)]
    exact h7
