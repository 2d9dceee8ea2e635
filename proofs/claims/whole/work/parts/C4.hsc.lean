/-! THE TIE: what was read behind each line of one number or two -/
section LNW
variable {A B A' B' : Nat → Nat → Int} {X M : Nat} {n : Int}
theorem rd_ra (hR : rd_R A B X M) {wd : Nat} (hw : wd < 4) (hb0 : re_bg (A (X + 15)) ≤ 0) (ht : A (X + 15) wd = 0) {r v : Int} : rd_R (m_up (m_up A (X + 3) wd r) (X + 15) wd (m_up A (X + 3) wd r (X + 15) wd + 1)) (m_up (m_up (m_up B (M + 3) wd 1) (M + 2) (13 + wd) r) M 19 v) X M := by
  obtain ⟨⟨⟨s0, s1, s2, s3⟩, s4, s5, s6⟩, ⟨⟨c1, c2, c3, c4, c5, c6⟩, d1, d2, d3⟩, -⟩ := id hR
  have d4 := d2 4 (by omega)
  have d5 := d2 5 (by omega)
  have d6 := d2 6 (by omega)
  have d7 := d2 7 (by omega)
  have d8 := d2 8 (by omega)
  have d9 := d2 9 (by omega)
  have d10 := d2 10 (by omega)
  unfold re_bg at hb0
  have ea : ∀ b i, ¬ (b = X + 3 ∧ i = wd) → ¬ (b = X + 15 ∧ i = wd) → m_up (m_up A (X + 3) wd r) (X + 15) wd (m_up A (X + 3) wd r (X + 15) wd + 1) b i = A b i := fun b i q1 q2 => by rw [m_up_z q2, m_up_z q1]
  have eb : ∀ b i, ¬ (b = M + 3 ∧ i = wd) → ¬ (b = M + 2 ∧ i = 13 + wd) → ¬ (b = M ∧ i = 19) → m_up (m_up (m_up B (M + 3) wd 1) (M + 2) (13 + wd) r) M 19 v b i = B b i := fun b i q1 q2 q3 => by rw [m_up_z q3, m_up_z q2, m_up_z q1]
  have e3 : ∀ i : Nat, i < 4 → (A (X + 3) i = B (M + 2) (13 + i)) → m_up (m_up A (X + 3) wd r) (X + 15) wd (m_up A (X + 3) wd r (X + 15) wd + 1) (X + 3) i = m_up (m_up (m_up B (M + 3) wd 1) (M + 2) (13 + wd) r) M 19 v (M + 2) (13 + i) := fun i hi q => by
    by_cases c : i = wd
    · subst c
      rw [m_up_z (by omega), m_up_e, m_up_z (by omega), m_up_e]
    · rw [ea _ _ (by omega) (by omega), eb _ _ (by omega) (by omega) (by omega)]; exact q
  refine rd_sc hR (fun b i q1 q2 => ea _ _ (by omega) (by omega)) (fun b i q1 q2 q3 => eb _ _ (by omega) (by omega) (by omega)) (fun i q1 q2 => eb _ _ (by omega) (by omega) (by omega)) (fun i q1 q2 q3 => ea _ _ (by omega) (by omega)) (Or.inl ⟨ea _ _ (by omega) (by omega), eb _ _ (by omega) (by omega) (by omega)⟩) ⟨⟨e3 0 (by omega) s0, e3 1 (by omega) s1, e3 2 (by omega) s2, e3 3 (by omega) s3⟩, ?_, ?_, ?_⟩ (fun w hw2 => ?_) (Or.inr (by omega))
  · rw [ea _ _ (by omega) (by omega), eb _ _ (by omega) (by omega) (by omega)]; exact s4
  · rw [ea _ _ (by omega) (by omega), eb _ _ (by omega) (by omega) (by omega)]; exact s5
  · rw [ea _ _ (by omega) (by omega), eb _ _ (by omega) (by omega) (by omega)]; exact s6
  · by_cases c : w = wd
    · subst c
      rw [m_up_e, m_up_z (by omega), ht, m_up_z (by omega), m_up_z (by omega), m_up_e]
      omega
    · rw [ea _ _ (by omega) (by omega), eb _ _ (by omega) (by omega) (by omega)]; exact d1 w hw2
theorem rd_sr (hR : rd_R A B X M) (ht : A (X + 15) 6 = 0) {r1 r2 v : Int} : rd_R (m_up (m_up (m_up A (X + 3) 5 r1) (X + 3) 6 r2) (X + 15) 6 (m_up (m_up A (X + 3) 5 r1) (X + 3) 6 r2 (X + 15) 6 + 1)) (m_up (m_up (m_up (m_up (m_up B (M + 3) 6 1) (M + 2) 22 r1) (M + 2) 23 r2) M 18 1) M 19 v) X M := by
  obtain ⟨⟨⟨s0, s1, s2, s3⟩, s4, s5, s6⟩, ⟨⟨c1, c2, c3, c4, c5, c6⟩, d1, d2, d3⟩, -⟩ := id hR
  have ea : ∀ b i, ¬ (b = X + 3 ∧ (i = 5 ∨ i = 6)) → ¬ (b = X + 15 ∧ i = 6) → m_up (m_up (m_up A (X + 3) 5 r1) (X + 3) 6 r2) (X + 15) 6 (m_up (m_up A (X + 3) 5 r1) (X + 3) 6 r2 (X + 15) 6 + 1) b i = A b i := fun b i q1 q2 => by rw [m_up_z q2, m_up_z (by omega), m_up_z (by omega)]
  have eb : ∀ b i, ¬ (b = M + 3 ∧ i = 6) → ¬ (b = M + 2 ∧ (i = 22 ∨ i = 23)) → ¬ (b = M ∧ (i = 18 ∨ i = 19)) → m_up (m_up (m_up (m_up (m_up B (M + 3) 6 1) (M + 2) 22 r1) (M + 2) 23 r2) M 18 1) M 19 v b i = B b i := fun b i q1 q2 q3 => by rw [m_up_z (by omega), m_up_z (by omega), m_up_z (by omega), m_up_z (by omega), m_up_z q1]
  refine rd_sc hR (fun b i q1 q2 => ea _ _ (by omega) (by omega)) (fun b i q1 q2 q3 => eb _ _ (by omega) (by omega) (by omega)) (fun i q1 q2 => eb _ _ (by omega) (by omega) (by omega)) (fun i q1 q2 q3 => ea _ _ (by omega) (by omega)) (Or.inr ⟨ht, ?_, ?_⟩) ⟨⟨?_, ?_, ?_, ?_⟩, ?_, ?_, ?_⟩ (fun w hw2 => ?_) (Or.inl (eb _ _ (by omega) (by omega) (by omega)))
  · rw [m_up_e, m_up_z (by omega), m_up_z (by omega), ht]; rfl
  · rw [m_up_z (by omega), m_up_e]; decide
  · rw [ea _ _ (by omega) (by omega), eb _ _ (by omega) (by omega) (by omega)]; exact s0
  · rw [ea _ _ (by omega) (by omega), eb _ _ (by omega) (by omega) (by omega)]; exact s1
  · rw [ea _ _ (by omega) (by omega), eb _ _ (by omega) (by omega) (by omega)]; exact s2
  · rw [ea _ _ (by omega) (by omega), eb _ _ (by omega) (by omega) (by omega)]; exact s3
  · rw [ea _ _ (by omega) (by omega), eb _ _ (by omega) (by omega) (by omega)]; exact s4
  · rw [m_up_z (by omega), m_up_z (by omega), m_up_e, m_up_z (by omega), m_up_z (by omega), m_up_z (by omega), m_up_e]
  · rw [m_up_z (by omega), m_up_e, m_up_z (by omega), m_up_z (by omega), m_up_e]
  · by_cases c : w = 6
    · subst c
      rw [m_up_e, m_up_z (by omega), m_up_z (by omega), ht, m_up_z (by omega), m_up_z (by omega), m_up_z (by omega), m_up_z (by omega), m_up_e]
      omega
    · rw [ea _ _ (by omega) (by omega), eb _ _ (by omega) (by omega) (by omega)]; exact d1 w hw2
theorem rd_se (hR : rd_R A B X M) (ht : A (X + 15) 11 = 0) {r1 v : Int} : rd_R (m_up (m_up A (X + 3) 4 r1) (X + 15) 11 (m_up A (X + 3) 4 r1 (X + 15) 11 + 1)) (m_up (m_up (m_up B (M + 3) 11 1) (M + 2) 21 r1) M 19 v) X M := by
  obtain ⟨⟨⟨s0, s1, s2, s3⟩, s4, s5, s6⟩, ⟨⟨c1, c2, c3, c4, c5, c6⟩, d1, d2, d3⟩, -⟩ := id hR
  have ea : ∀ b i, ¬ (b = X + 3 ∧ i = 4) → ¬ (b = X + 15 ∧ i = 11) → m_up (m_up A (X + 3) 4 r1) (X + 15) 11 (m_up A (X + 3) 4 r1 (X + 15) 11 + 1) b i = A b i := fun b i q1 q2 => by rw [m_up_z q2, m_up_z q1]
  have eb : ∀ b i, ¬ (b = M + 3 ∧ i = 11) → ¬ (b = M + 2 ∧ i = 21) → ¬ (b = M ∧ i = 19) → m_up (m_up (m_up B (M + 3) 11 1) (M + 2) 21 r1) M 19 v b i = B b i := fun b i q1 q2 q3 => by rw [m_up_z q3, m_up_z q2, m_up_z q1]
  refine rd_sc hR (fun b i q1 q2 => ea _ _ (by omega) (by omega)) (fun b i q1 q2 q3 => eb _ _ (by omega) (by omega) (by omega)) (fun i q1 q2 => eb _ _ (by omega) (by omega) (by omega)) (fun i q1 q2 q3 => ea _ _ (by omega) (by omega)) (Or.inl ⟨ea _ _ (by omega) (by omega), eb _ _ (by omega) (by omega) (by omega)⟩) ⟨⟨?_, ?_, ?_, ?_⟩, ?_, ?_, ?_⟩ (fun w hw2 => ?_) (Or.inl (eb _ _ (by omega) (by omega) (by omega)))
  · rw [ea _ _ (by omega) (by omega), eb _ _ (by omega) (by omega) (by omega)]; exact s0
  · rw [ea _ _ (by omega) (by omega), eb _ _ (by omega) (by omega) (by omega)]; exact s1
  · rw [ea _ _ (by omega) (by omega), eb _ _ (by omega) (by omega) (by omega)]; exact s2
  · rw [ea _ _ (by omega) (by omega), eb _ _ (by omega) (by omega) (by omega)]; exact s3
  · rw [m_up_z (by omega), m_up_e, m_up_z (by omega), m_up_e]
  · rw [ea _ _ (by omega) (by omega), eb _ _ (by omega) (by omega) (by omega)]; exact s5
  · rw [ea _ _ (by omega) (by omega), eb _ _ (by omega) (by omega) (by omega)]; exact s6
  · by_cases c : w = 11
    · subst c
      rw [m_up_e, m_up_z (by omega), ht, m_up_z (by omega), m_up_z (by omega), m_up_e]
      omega
    · rw [ea _ _ (by omega) (by omega), eb _ _ (by omega) (by omega) (by omega)]; exact d1 w hw2
end LNW
