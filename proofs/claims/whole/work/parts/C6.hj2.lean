/-! THE TIE: what was read behind a job -/
section LNY
variable {A B A' B' : Nat → Nat → Int} {X M : Nat} {n : Int}
theorem rd_jb (hR : rd_R A B X M) {r1 r2 v : Int} {c : Nat} (hc : B (M + 2) 24 = (c : Int)) (h1 : r1 < B (M + 2) 13) (h2 : r2 < B (M + 2) 13) (h3 : r1 ≠ r2)
    (ea : ∀ b i, ¬ (b = X + 13 ∧ i = c) → ¬ (b = X + 14 ∧ i = c) → ¬ (b = X + 15 ∧ i = 10) → A' b i = A b i) (e13 : A' (X + 13) c = r1) (e14 : A' (X + 14) c = r2) (e15 : A' (X + 15) 10 = A (X + 15) 10 + 1)
    (eb : ∀ b i, ¬ (b = M + 14 ∧ i = 3 + c) → ¬ (b = M + 15 ∧ i = 3 + c) → ¬ (b = M + 2 ∧ i = 24) → ¬ (b = M ∧ (i = 18 ∨ i = 19)) → B' b i = B b i) (g14 : B' (M + 14) (3 + c) = r1) (g15 : B' (M + 15) (3 + c) = r2) (g24 : B' (M + 2) 24 = B (M + 2) 24 + 1) (g18 : B' M 18 ≠ 0) : rd_R A' B' X M := by
  obtain ⟨-, ⟨⟨c1, c2, c3, c4, c5, c6⟩, d1, d2, d3⟩, p1, p2, p3, p4, p5, p6, p7⟩ := id hR
  have ra : ∀ k, k < 13 → A' (X + k) = A (X + k) := fun k q => funext (fun i => ea _ _ (by omega) (by omega) (by omega))
  have rb : ∀ k, (3 ≤ k ∧ k ≤ 13) ∨ k = 16 → B' (M + k) = B (M + k) := fun k q => funext (fun i => eb _ _ (by omega) (by omega) (by omega) (by omega))
  have b2 : ∀ i, i ≠ 24 → B' (M + 2) i = B (M + 2) i := fun i q => eb _ _ (by omega) (by omega) (by omega) (by omega)
  have a15 : ∀ i, i ≠ 10 → A' (X + 15) i = A (X + 15) i := fun i q => ea _ _ (by omega) (by omega) (by omega)
  refine rd_mt hR (ra 3 (by omega)) (rb 3 (by omega)) (fun i q1 q2 => b2 i (by omega)) (wd := 10) (by omega) (fun i => ?_) g18 ⟨?_, ?_, ?_, ?_, ?_, ?_⟩ ⟨?_, ?_, ?_, ?_, fun i hi => ?_, ?_, fun i hi => ?_⟩
  · by_cases q : i = 10
    · rw [if_pos q, q]; exact e15
    · rw [if_neg q]; exact a15 i q
  · rw [a15 5 (by omega), b2 17 (by omega)]; exact c1
  · rw [a15 8 (by omega), b2 18 (by omega)]; exact c2
  · rw [a15 7 (by omega), b2 19 (by omega)]; exact c3
  · rw [a15 4 (by omega), b2 20 (by omega)]; exact c4
  · rw [e15, g24, c5]
  · rw [a15 9 (by omega), b2 25 (by omega)]; exact c6
  · rw [ra 6 (by omega), ra 7 (by omega), ra 8 (by omega), rb 4 (by omega), rb 5 (by omega), rb 6 (by omega), b2 17 (by omega)]; exact p1
  · rw [ra 9 (by omega), ra 10 (by omega), rb 10 (by omega), rb 11 (by omega), b2 19 (by omega)]; exact p2
  · rw [rb 10 (by omega), b2 19 (by omega)]; exact p3
  · rw [ra 11 (by omega), ra 12 (by omega), rb 12 (by omega), rb 13 (by omega), b2 18 (by omega)]; exact p4
  · rw [g24] at hi
    by_cases q : i = c
    · rw [q, e13, e14, g14, g15]; exact ⟨⟨rfl, rfl⟩, h1, h2, h3⟩
    · rw [ea (X + 13) i (by omega) (by omega) (by omega), ea (X + 14) i (by omega) (by omega) (by omega), eb (M + 14) (3 + i) (by omega) (by omega) (by omega) (by omega), eb (M + 15) (3 + i) (by omega) (by omega) (by omega) (by omega)]
      exact p5 i (by omega)
  · rw [ra 5 (by omega), rb 16 (by omega)]; exact p6
  · rw [ra 4 (by omega), b2 20 (by omega), a_cb_e (rb 7 (by omega)) (rb 8 (by omega)) (rb 9 (by omega))]
    exact p7 i hi
end LNY
