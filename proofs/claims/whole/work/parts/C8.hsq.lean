/-! THE TIE: what was read behind a spot, a wind, a pile, a block -/
section LOA
variable {A B A' B' : Nat → Nat → Int} {X M : Nat} {n : Int}
/-- a spot -/
theorem rd_sq (hR : rd_R A B X M) {v r1 r2 : Int} {c : Nat} (hc : B (M + 2) 17 = (c : Int)) (h2 : 1 ≤ r2)
    (ea : ∀ b i, ¬ (b = X + 6 ∧ i = c) → ¬ (b = X + 7 ∧ i = c) → ¬ (b = X + 8 ∧ i = c) → ¬ (b = X + 15 ∧ i = 5) → A' b i = A b i) (ea6 : A' (X + 6) c = v) (ea7 : A' (X + 7) c = r1) (ea8 : A' (X + 8) c = r2) (e15 : A' (X + 15) 5 = A (X + 15) 5 + 1)
    (eb : ∀ b i, ¬ (b = M + 4 ∧ i = 6 + c) → ¬ (b = M + 5 ∧ i = 6 + c) → ¬ (b = M + 6 ∧ i = 6 + c) → ¬ (b = M + 2 ∧ i = 17) → ¬ (b = M ∧ (i = 18 ∨ i = 19)) → B' b i = B b i) (eb4 : B' (M + 4) (6 + c) = v) (eb5 : B' (M + 5) (6 + c) = r1) (eb6 : B' (M + 6) (6 + c) = r2) (g24 : B' (M + 2) 17 = B (M + 2) 17 + 1) (g18 : B' M 18 ≠ 0) : rd_R A' B' X M := by
  obtain ⟨-, ⟨⟨c1, c2, c3, c4, c5, c6⟩, d1, d2, d3⟩, p1, p2, p3, p4, p5, p6, p7⟩ := id hR
  have ra : ∀ k, k < 15 → k ≠ 6 → k ≠ 7 → k ≠ 8 → A' (X + k) = A (X + k) := fun k q q6 q7 q8 => funext (fun i => ea _ _ (by omega) (by omega) (by omega) (by omega))
  have rb : ∀ k, 3 ≤ k → k ≤ 16 → k ≠ 4 → k ≠ 5 → k ≠ 6 → B' (M + k) = B (M + k) := fun k q q' q4 q5 q6 => funext (fun i => eb _ _ (by omega) (by omega) (by omega) (by omega) (by omega))
  have b2 : ∀ i, i ≠ 17 → B' (M + 2) i = B (M + 2) i := fun i q => eb _ _ (by omega) (by omega) (by omega) (by omega) (by omega)
  have a15 : ∀ i, i ≠ 5 → A' (X + 15) i = A (X + 15) i := fun i q => ea _ _ (by omega) (by omega) (by omega) (by omega)
  refine rd_mt hR (ra 3 (by omega) (by omega) (by omega) (by omega)) (rb 3 (by omega) (by omega) (by omega) (by omega) (by omega)) (fun i q1 q2 => b2 i (by omega)) (wd := 5) (by omega) (fun i => ?_) g18 ⟨?_, ?_, ?_, ?_, ?_, ?_⟩ ⟨?_, ?_, ?_, ?_, ?_, ?_, ?_⟩
  · by_cases q : i = 5
    · rw [if_pos q, q]; exact e15
    · rw [if_neg q]; exact a15 i q
  · rw [e15, g24, c1]
  · rw [a15 8 (by omega), b2 18 (by omega)]; exact c2
  · rw [a15 7 (by omega), b2 19 (by omega)]; exact c3
  · rw [a15 4 (by omega), b2 20 (by omega)]; exact c4
  · rw [a15 10 (by omega), b2 24 (by omega)]; exact c5
  · rw [a15 9 (by omega), b2 25 (by omega)]; exact c6
  · intro i hi
    rw [g24] at hi
    by_cases q : i = c
    · rw [q, ea6, ea7, ea8, eb4, eb5, eb6]; exact ⟨⟨rfl, rfl, rfl⟩, h2⟩
    · rw [ea (X + 6) i (by omega) (by omega) (by omega) (by omega), ea (X + 7) i (by omega) (by omega) (by omega) (by omega), ea (X + 8) i (by omega) (by omega) (by omega) (by omega), eb (M + 4) (6 + i) (by omega) (by omega) (by omega) (by omega) (by omega), eb (M + 5) (6 + i) (by omega) (by omega) (by omega) (by omega) (by omega), eb (M + 6) (6 + i) (by omega) (by omega) (by omega) (by omega) (by omega)]
      exact p1 i (by omega)
  · rw [ra 9 (by omega) (by omega) (by omega) (by omega), ra 10 (by omega) (by omega) (by omega) (by omega), rb 10 (by omega) (by omega) (by omega) (by omega) (by omega), rb 11 (by omega) (by omega) (by omega) (by omega) (by omega), b2 19 (by omega)]; exact p2
  · rw [rb 10 (by omega) (by omega) (by omega) (by omega) (by omega), b2 19 (by omega)]; exact p3
  · rw [ra 11 (by omega) (by omega) (by omega) (by omega), ra 12 (by omega) (by omega) (by omega) (by omega), rb 12 (by omega) (by omega) (by omega) (by omega) (by omega), rb 13 (by omega) (by omega) (by omega) (by omega) (by omega), b2 18 (by omega)]; exact p4
  · rw [ra 13 (by omega) (by omega) (by omega) (by omega), ra 14 (by omega) (by omega) (by omega) (by omega), rb 14 (by omega) (by omega) (by omega) (by omega) (by omega), rb 15 (by omega) (by omega) (by omega) (by omega) (by omega), b2 24 (by omega)]; exact p5
  · rw [ra 5 (by omega) (by omega) (by omega) (by omega), rb 16 (by omega) (by omega) (by omega) (by omega) (by omega)]; exact p6
  · intro i hi
    rw [ra 4 (by omega) (by omega) (by omega) (by omega), b2 20 (by omega), a_cb_e (rb 7 (by omega) (by omega) (by omega) (by omega) (by omega)) (rb 8 (by omega) (by omega) (by omega) (by omega) (by omega)) (rb 9 (by omega) (by omega) (by omega) (by omega) (by omega))]
    exact p7 i hi
/-- a wind -/
theorem rd_wi (hR : rd_R A B X M) {r1 r2 : Int} {c : Nat} (hc : B (M + 2) 19 = (c : Int)) (h1 : c ≠ 0 → B (M + 10) (8 + c - 1) < r1)
    (ea : ∀ b i, ¬ (b = X + 9 ∧ i = c) → ¬ (b = X + 10 ∧ i = c) → ¬ (b = X + 15 ∧ i = 7) → A' b i = A b i) (ea9 : A' (X + 9) c = r1) (ea10 : A' (X + 10) c = r2) (e15 : A' (X + 15) 7 = A (X + 15) 7 + 1)
    (eb : ∀ b i, ¬ (b = M + 10 ∧ i = 8 + c) → ¬ (b = M + 11 ∧ i = 8 + c) → ¬ (b = M + 2 ∧ i = 19) → ¬ (b = M ∧ (i = 18 ∨ i = 19)) → B' b i = B b i) (eb10 : B' (M + 10) (8 + c) = r1) (eb11 : B' (M + 11) (8 + c) = r2) (g24 : B' (M + 2) 19 = B (M + 2) 19 + 1) (g18 : B' M 18 ≠ 0) : rd_R A' B' X M := by
  obtain ⟨-, ⟨⟨c1, c2, c3, c4, c5, c6⟩, d1, d2, d3⟩, p1, p2, p3, p4, p5, p6, p7⟩ := id hR
  have ra : ∀ k, k < 15 → k ≠ 9 → k ≠ 10 → A' (X + k) = A (X + k) := fun k q q9 q10 => funext (fun i => ea _ _ (by omega) (by omega) (by omega))
  have rb : ∀ k, 3 ≤ k → k ≤ 16 → k ≠ 10 → k ≠ 11 → B' (M + k) = B (M + k) := fun k q q' q10 q11 => funext (fun i => eb _ _ (by omega) (by omega) (by omega) (by omega))
  have b2 : ∀ i, i ≠ 19 → B' (M + 2) i = B (M + 2) i := fun i q => eb _ _ (by omega) (by omega) (by omega) (by omega)
  have a15 : ∀ i, i ≠ 7 → A' (X + 15) i = A (X + 15) i := fun i q => ea _ _ (by omega) (by omega) (by omega)
  refine rd_mt hR (ra 3 (by omega) (by omega) (by omega)) (rb 3 (by omega) (by omega) (by omega) (by omega)) (fun i q1 q2 => b2 i (by omega)) (wd := 7) (by omega) (fun i => ?_) g18 ⟨?_, ?_, ?_, ?_, ?_, ?_⟩ ⟨?_, ?_, ?_, ?_, ?_, ?_, ?_⟩
  · by_cases q : i = 7
    · rw [if_pos q, q]; exact e15
    · rw [if_neg q]; exact a15 i q
  · rw [a15 5 (by omega), b2 17 (by omega)]; exact c1
  · rw [a15 8 (by omega), b2 18 (by omega)]; exact c2
  · rw [e15, g24, c3]
  · rw [a15 4 (by omega), b2 20 (by omega)]; exact c4
  · rw [a15 10 (by omega), b2 24 (by omega)]; exact c5
  · rw [a15 9 (by omega), b2 25 (by omega)]; exact c6
  · rw [ra 6 (by omega) (by omega) (by omega), ra 7 (by omega) (by omega) (by omega), ra 8 (by omega) (by omega) (by omega), rb 4 (by omega) (by omega) (by omega) (by omega), rb 5 (by omega) (by omega) (by omega) (by omega), rb 6 (by omega) (by omega) (by omega) (by omega), b2 17 (by omega)]; exact p1
  · intro i hi
    rw [g24] at hi
    by_cases q : i = c
    · rw [q, ea9, ea10, eb10, eb11]; exact ⟨rfl, rfl⟩
    · rw [ea (X + 9) i (by omega) (by omega) (by omega), ea (X + 10) i (by omega) (by omega) (by omega), eb (M + 10) (8 + i) (by omega) (by omega) (by omega) (by omega), eb (M + 11) (8 + i) (by omega) (by omega) (by omega) (by omega)]
      exact p2 i (by omega)
  · intro i j hij hj
    rw [g24] at hj
    rw [eb (M + 10) (8 + i) (by omega) (by omega) (by omega) (by omega)]
    by_cases q : j = c
    · rw [q, eb10]
      have h0 := h1 (by omega)
      by_cases q2 : i = c - 1
      · rw [q2, show 8 + (c - 1) = 8 + c - 1 by omega]; exact h0
      · have := p3 i (c - 1) (by omega) (by omega)
        rw [show 8 + (c - 1) = 8 + c - 1 by omega] at this
        omega
    · rw [eb (M + 10) (8 + j) (by omega) (by omega) (by omega) (by omega)]
      exact p3 i j hij (by omega)
  · rw [ra 11 (by omega) (by omega) (by omega), ra 12 (by omega) (by omega) (by omega), rb 12 (by omega) (by omega) (by omega) (by omega), rb 13 (by omega) (by omega) (by omega) (by omega), b2 18 (by omega)]; exact p4
  · rw [ra 13 (by omega) (by omega) (by omega), ra 14 (by omega) (by omega) (by omega), rb 14 (by omega) (by omega) (by omega) (by omega), rb 15 (by omega) (by omega) (by omega) (by omega), b2 24 (by omega)]; exact p5
  · rw [ra 5 (by omega) (by omega) (by omega), rb 16 (by omega) (by omega) (by omega) (by omega)]; exact p6
  · intro i hi
    rw [ra 4 (by omega) (by omega) (by omega), b2 20 (by omega), a_cb_e (rb 7 (by omega) (by omega) (by omega) (by omega)) (rb 8 (by omega) (by omega) (by omega) (by omega)) (rb 9 (by omega) (by omega) (by omega) (by omega))]
    exact p7 i hi
/-- a pile -/
theorem rd_pi (hR : rd_R A B X M) {r2 : Int} {c : Nat} 
    (ea : ∀ b i, ¬ (b = X + 5 ∧ i = c) → ¬ (b = X + 15 ∧ i = 9) → A' b i = A b i) (ea5 : A' (X + 5) c = r2) (e15 : A' (X + 15) 9 = A (X + 15) 9 + 1)
    (eb : ∀ b i, ¬ (b = M + 16 ∧ i = 16 + c) → ¬ (b = M + 2 ∧ i = 25) → ¬ (b = M ∧ (i = 18 ∨ i = 19)) → B' b i = B b i) (eb16 : B' (M + 16) (16 + c) = r2) (g24 : B' (M + 2) 25 = B (M + 2) 25 + 1) (g18 : B' M 18 ≠ 0) : rd_R A' B' X M := by
  obtain ⟨-, ⟨⟨c1, c2, c3, c4, c5, c6⟩, d1, d2, d3⟩, p1, p2, p3, p4, p5, p6, p7⟩ := id hR
  have ra : ∀ k, k < 15 → k ≠ 5 → A' (X + k) = A (X + k) := fun k q q5 => funext (fun i => ea _ _ (by omega) (by omega))
  have rb : ∀ k, 3 ≤ k → k ≤ 16 → k ≠ 16 → B' (M + k) = B (M + k) := fun k q q' q16 => funext (fun i => eb _ _ (by omega) (by omega) (by omega))
  have b2 : ∀ i, i ≠ 25 → B' (M + 2) i = B (M + 2) i := fun i q => eb _ _ (by omega) (by omega) (by omega)
  have a15 : ∀ i, i ≠ 9 → A' (X + 15) i = A (X + 15) i := fun i q => ea _ _ (by omega) (by omega)
  refine rd_mt hR (ra 3 (by omega) (by omega)) (rb 3 (by omega) (by omega) (by omega)) (fun i q1 q2 => b2 i (by omega)) (wd := 9) (by omega) (fun i => ?_) g18 ⟨?_, ?_, ?_, ?_, ?_, ?_⟩ ⟨?_, ?_, ?_, ?_, ?_, ?_, ?_⟩
  · by_cases q : i = 9
    · rw [if_pos q, q]; exact e15
    · rw [if_neg q]; exact a15 i q
  · rw [a15 5 (by omega), b2 17 (by omega)]; exact c1
  · rw [a15 8 (by omega), b2 18 (by omega)]; exact c2
  · rw [a15 7 (by omega), b2 19 (by omega)]; exact c3
  · rw [a15 4 (by omega), b2 20 (by omega)]; exact c4
  · rw [a15 10 (by omega), b2 24 (by omega)]; exact c5
  · rw [e15, g24, c6]
  · rw [ra 6 (by omega) (by omega), ra 7 (by omega) (by omega), ra 8 (by omega) (by omega), rb 4 (by omega) (by omega) (by omega), rb 5 (by omega) (by omega) (by omega), rb 6 (by omega) (by omega) (by omega), b2 17 (by omega)]; exact p1
  · rw [ra 9 (by omega) (by omega), ra 10 (by omega) (by omega), rb 10 (by omega) (by omega) (by omega), rb 11 (by omega) (by omega) (by omega), b2 19 (by omega)]; exact p2
  · rw [rb 10 (by omega) (by omega) (by omega), b2 19 (by omega)]; exact p3
  · rw [ra 11 (by omega) (by omega), ra 12 (by omega) (by omega), rb 12 (by omega) (by omega) (by omega), rb 13 (by omega) (by omega) (by omega), b2 18 (by omega)]; exact p4
  · rw [ra 13 (by omega) (by omega), ra 14 (by omega) (by omega), rb 14 (by omega) (by omega) (by omega), rb 15 (by omega) (by omega) (by omega), b2 24 (by omega)]; exact p5
  · intro i hi
    by_cases q : i = c
    · rw [q, ea5, eb16]
    · rw [ea (X + 5) i (by omega) (by omega), eb (M + 16) (16 + i) (by omega) (by omega) (by omega)]
      exact p6 i hi
  · intro i hi
    rw [ra 4 (by omega) (by omega), b2 20 (by omega), a_cb_e (rb 7 (by omega) (by omega) (by omega)) (rb 8 (by omega) (by omega) (by omega)) (rb 9 (by omega) (by omega) (by omega))]
    exact p7 i hi
/-- the blocks that were there, and one more -/
theorem a_cb_k {c' : Nat} (e7 : ∀ i, i < c' → B' (M + 7) (6 + i) = B (M + 7) (6 + i)) (e8 : ∀ i, i < c' → B' (M + 8) (6 + i) = B (M + 8) (6 + i)) (e9 : ∀ i, i < c' → B' (M + 9) (6 + i) = B (M + 9) (6 + i)) {x : Nat} : ∀ k, k ≤ c' → a_cb B' M x k = a_cb B M x k := by
  intro k
  induction k with
  | zero => intro _; rfl
  | succ k ih =>
    intro hk
    unfold a_cb
    rw [e7 k (by omega), e8 k (by omega), e9 k (by omega), ih (by omega)]
/-- a block -/
theorem rd_bl (hR : rd_R A B X M) {r1 r2 r3 : Int} {c : Nat} (hc : B (M + 2) 20 = (c : Int))
    (ea : ∀ b i, ¬ (b = X + 4) → ¬ (b = X + 15 ∧ i = 4) → A' b i = A b i) (ea4 : ∀ i : Nat, A' (X + 4) i = if (r1 ≤ (i : Int) ∧ (i : Int) < r2 + 1) ∧ r3 < A (X + 4) i then r3 else A (X + 4) i) (e15 : A' (X + 15) 4 = A (X + 15) 4 + 1)
    (eb : ∀ b i, ¬ (b = M + 7 ∧ i = 6 + c) → ¬ (b = M + 8 ∧ i = 6 + c) → ¬ (b = M + 9 ∧ i = 6 + c) → ¬ (b = M + 2 ∧ i = 20) → ¬ (b = M ∧ (i = 18 ∨ i = 19)) → B' b i = B b i) (eb7 : B' (M + 7) (6 + c) = r1) (eb8 : B' (M + 8) (6 + c) = r2) (eb9 : B' (M + 9) (6 + c) = r3) (g24 : B' (M + 2) 20 = B (M + 2) 20 + 1) (g18 : B' M 18 ≠ 0) : rd_R A' B' X M := by
  obtain ⟨-, ⟨⟨c1, c2, c3, c4, c5, c6⟩, d1, d2, d3⟩, p1, p2, p3, p4, p5, p6, p7⟩ := id hR
  have ra : ∀ k, k < 15 → k ≠ 4 → A' (X + k) = A (X + k) := fun k q q4 => funext (fun i => ea _ _ (by omega) (by omega))
  have rb : ∀ k, 3 ≤ k → k ≤ 16 → k ≠ 7 → k ≠ 8 → k ≠ 9 → B' (M + k) = B (M + k) := fun k q q' q7 q8 q9 => funext (fun i => eb _ _ (by omega) (by omega) (by omega) (by omega) (by omega))
  have b2 : ∀ i, i ≠ 20 → B' (M + 2) i = B (M + 2) i := fun i q => eb _ _ (by omega) (by omega) (by omega) (by omega) (by omega)
  have a15 : ∀ i, i ≠ 4 → A' (X + 15) i = A (X + 15) i := fun i q => ea _ _ (by omega) (by omega)
  refine rd_mt hR (ra 3 (by omega) (by omega)) (rb 3 (by omega) (by omega) (by omega) (by omega) (by omega)) (fun i q1 q2 => b2 i (by omega)) (wd := 4) (by omega) (fun i => ?_) g18 ⟨?_, ?_, ?_, ?_, ?_, ?_⟩ ⟨?_, ?_, ?_, ?_, ?_, ?_, ?_⟩
  · by_cases q : i = 4
    · rw [if_pos q, q]; exact e15
    · rw [if_neg q]; exact a15 i q
  · rw [a15 5 (by omega), b2 17 (by omega)]; exact c1
  · rw [a15 8 (by omega), b2 18 (by omega)]; exact c2
  · rw [a15 7 (by omega), b2 19 (by omega)]; exact c3
  · rw [e15, g24, c4]
  · rw [a15 10 (by omega), b2 24 (by omega)]; exact c5
  · rw [a15 9 (by omega), b2 25 (by omega)]; exact c6
  · rw [ra 6 (by omega) (by omega), ra 7 (by omega) (by omega), ra 8 (by omega) (by omega), rb 4 (by omega) (by omega) (by omega) (by omega) (by omega), rb 5 (by omega) (by omega) (by omega) (by omega) (by omega), rb 6 (by omega) (by omega) (by omega) (by omega) (by omega), b2 17 (by omega)]; exact p1
  · rw [ra 9 (by omega) (by omega), ra 10 (by omega) (by omega), rb 10 (by omega) (by omega) (by omega) (by omega) (by omega), rb 11 (by omega) (by omega) (by omega) (by omega) (by omega), b2 19 (by omega)]; exact p2
  · rw [rb 10 (by omega) (by omega) (by omega) (by omega) (by omega), b2 19 (by omega)]; exact p3
  · rw [ra 11 (by omega) (by omega), ra 12 (by omega) (by omega), rb 12 (by omega) (by omega) (by omega) (by omega) (by omega), rb 13 (by omega) (by omega) (by omega) (by omega) (by omega), b2 18 (by omega)]; exact p4
  · rw [ra 13 (by omega) (by omega), ra 14 (by omega) (by omega), rb 14 (by omega) (by omega) (by omega) (by omega) (by omega), rb 15 (by omega) (by omega) (by omega) (by omega) (by omega), b2 24 (by omega)]; exact p5
  · rw [ra 5 (by omega) (by omega), rb 16 (by omega) (by omega) (by omega) (by omega) (by omega)]; exact p6
  · intro i hi
    rw [g24, hc, show ((c : Int) + 1).toNat = c + 1 by omega]
    unfold a_cb
    rw [eb7, eb8, eb9, a_cb_k (B := B) (c' := c) (fun i q => eb _ _ (by omega) (by omega) (by omega) (by omega) (by omega)) (fun i q => eb _ _ (by omega) (by omega) (by omega) (by omega) (by omega)) (fun i q => eb _ _ (by omega) (by omega) (by omega) (by omega) (by omega)) c (Nat.le_refl c), ea4 i]
    have := p7 i hi
    rw [hc, show ((c : Int)).toNat = c by omega] at this
    rw [this]
    by_cases q : (r1 ≤ (i : Int) ∧ (i : Int) ≤ r2) ∧ r3 < a_cb B M i c
    · rw [if_pos q, if_pos ⟨by omega, q.2⟩]
    · rw [if_neg q, if_neg (fun p => q ⟨by omega, p.2⟩)]
end LOA
