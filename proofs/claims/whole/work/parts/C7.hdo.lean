/-! THE TIE: what was read behind an order -/
section LNZ
variable {A B A' B' : Nat → Nat → Int} {X M : Nat} {n : Int}
theorem rd_do (hR : rd_R A B X M) {r1 r2 : Int} {c : Nat} (hc : B (M + 2) 18 = (c : Int)) (h1 : 12 ≤ r1 ∧ r1 ≤ 17) (h2 : 1 ≤ r2)
    (ea : ∀ b i, ¬ (b = X + 11 ∧ i = c) → ¬ (b = X + 12 ∧ i = c) → ¬ (b = X + 15 ∧ i = 8) → A' b i = A b i) (e13 : A' (X + 11) c = r1) (e14 : A' (X + 12) c = r2) (e15 : A' (X + 15) 8 = A (X + 15) 8 + 1)
    (eb : ∀ b i, ¬ (b = M + 12 ∧ i = 16 + c) → ¬ (b = M + 13 ∧ i = 16 + c) → ¬ (b = M + 2 ∧ i = 18) → ¬ (b = M ∧ (i = 18 ∨ i = 19)) → B' b i = B b i) (g14 : B' (M + 12) (16 + c) = r1) (g15 : B' (M + 13) (16 + c) = r2) (g24 : B' (M + 2) 18 = B (M + 2) 18 + 1) (g18 : B' M 18 ≠ 0) : rd_R A' B' X M := by
  obtain ⟨-, ⟨⟨c1, c2, c3, c4, c5, c6⟩, d1, d2, d3⟩, p1, p2, p3, p4, p5, p6, p7⟩ := id hR
  have ra : ∀ k, k < 15 → k ≠ 11 → k ≠ 12 → A' (X + k) = A (X + k) := fun k q q2 q3 => funext (fun i => ea _ _ (by omega) (by omega) (by omega))
  have rb : ∀ k, 3 ≤ k → k ≤ 16 → k ≠ 12 → k ≠ 13 → B' (M + k) = B (M + k) := fun k q q2 q3 q4 => funext (fun i => eb _ _ (by omega) (by omega) (by omega) (by omega))
  have b2 : ∀ i, i ≠ 18 → B' (M + 2) i = B (M + 2) i := fun i q => eb _ _ (by omega) (by omega) (by omega) (by omega)
  have a15 : ∀ i, i ≠ 8 → A' (X + 15) i = A (X + 15) i := fun i q => ea _ _ (by omega) (by omega) (by omega)
  refine rd_mt hR (ra 3 (by omega) (by omega) (by omega)) (rb 3 (by omega) (by omega) (by omega) (by omega)) (fun i q1 q2 => b2 i (by omega)) (wd := 8) (by omega) (fun i => ?_) g18 ⟨?_, ?_, ?_, ?_, ?_, ?_⟩ ⟨?_, ?_, ?_, fun i hi => ?_, ?_, ?_, fun i hi => ?_⟩
  · by_cases q : i = 8
    · rw [if_pos q, q]; exact e15
    · rw [if_neg q]; exact a15 i q
  · rw [a15 5 (by omega), b2 17 (by omega)]; exact c1
  · rw [e15, g24, c2]
  · rw [a15 7 (by omega), b2 19 (by omega)]; exact c3
  · rw [a15 4 (by omega), b2 20 (by omega)]; exact c4
  · rw [a15 10 (by omega), b2 24 (by omega)]; exact c5
  · rw [a15 9 (by omega), b2 25 (by omega)]; exact c6
  · rw [ra 6 (by omega) (by omega) (by omega), ra 7 (by omega) (by omega) (by omega), ra 8 (by omega) (by omega) (by omega), rb 4 (by omega) (by omega) (by omega) (by omega), rb 5 (by omega) (by omega) (by omega) (by omega), rb 6 (by omega) (by omega) (by omega) (by omega), b2 17 (by omega)]; exact p1
  · rw [ra 9 (by omega) (by omega) (by omega), ra 10 (by omega) (by omega) (by omega), rb 10 (by omega) (by omega) (by omega) (by omega), rb 11 (by omega) (by omega) (by omega) (by omega), b2 19 (by omega)]; exact p2
  · rw [rb 10 (by omega) (by omega) (by omega) (by omega), b2 19 (by omega)]; exact p3
  · rw [g24] at hi
    by_cases q : i = c
    · rw [q, e13, e14, g14, g15]; exact ⟨⟨rfl, rfl⟩, h1, h2⟩
    · rw [ea (X + 11) i (by omega) (by omega) (by omega), ea (X + 12) i (by omega) (by omega) (by omega), eb (M + 12) (16 + i) (by omega) (by omega) (by omega) (by omega), eb (M + 13) (16 + i) (by omega) (by omega) (by omega) (by omega)]
      exact p4 i (by omega)
  · rw [ra 13 (by omega) (by omega) (by omega), ra 14 (by omega) (by omega) (by omega), rb 14 (by omega) (by omega) (by omega) (by omega), rb 15 (by omega) (by omega) (by omega) (by omega), b2 24 (by omega)]; exact p5
  · rw [ra 5 (by omega) (by omega) (by omega), rb 16 (by omega) (by omega) (by omega) (by omega)]; exact p6
  · rw [ra 4 (by omega) (by omega) (by omega), b2 20 (by omega), a_cb_e (rb 7 (by omega) (by omega) (by omega) (by omega)) (rb 8 (by omega) (by omega) (by omega) (by omega)) (rb 9 (by omega) (by omega) (by omega) (by omega))]
    exact p7 i hi
end LNZ
