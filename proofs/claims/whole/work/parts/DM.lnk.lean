/-! short ways between still loads -/
def v_s (c d : Int) : a_S := (c, 0, 0, 0, d)
def v_nr (C : a_C) (N : Nat) (σ τ : a_S) : Prop := ∃ n, n ≤ N ∧ p_ch (w_E C 0) n σ τ
section LNK
variable {C : a_C} {σ τ ρ : a_S} {N N' : Nat} {c d : Int}
theorem p_ch_t {α : Type} {E : α → α → Prop} : ∀ (r : Nat) (s : Nat) (x y z : α), p_ch E r x y → p_ch E s y z → p_ch E (r + s) x z := by
  intro r
  induction r with
  | zero =>
    intro s x y z h h'
    have h : x = y := h
    subst h
    rw [Nat.zero_add]
    exact h'
  | succ r ih =>
    rintro s x y z ⟨a, h1, h2⟩ h'
    rw [show r + 1 + s = (r + s) + 1 by omega]
    exact ⟨a, h1, ih s a y z h2 h'⟩
theorem v_nr_r : v_nr C N σ σ := ⟨0, Nat.zero_le _, rfl⟩
theorem v_nr_t (h : v_nr C N σ τ) (h' : v_nr C N' τ ρ) : v_nr C (N + N') σ ρ := by
  obtain ⟨n, h1, h2⟩ := h
  obtain ⟨m, g1, g2⟩ := h'
  exact ⟨n + m, by omega, p_ch_t _ _ _ _ _ h2 g2⟩
theorem v_nr_m (h : v_nr C N σ τ) (hN : N ≤ N') : v_nr C N' σ τ := by
  obtain ⟨n, h1, h2⟩ := h
  exact ⟨n, by omega, h2⟩
/-- a state with a sway of 1 at most stands, where its load may hang -/
theorem v_is1 (ok : a_ok C) (h1 : 0 ≤ σ.1 ∧ σ.1 < C.1) (h2 : -1 ≤ σ.2.1 ∧ σ.2.1 ≤ 1) (h3 : -1 ≤ σ.2.2.1 ∧ σ.2.2.1 ≤ 1) (h4 : -1 ≤ σ.2.2.2.1 ∧ σ.2.2.2.1 ≤ 1) (h5 : 1 ≤ σ.2.2.2.2 ∧ σ.2.2.2.2 ≤ C.2.1) (h6 : 0 ≤ σ.1 + σ.2.2.1 ∧ σ.1 + σ.2.2.1 < C.1) (h7 : σ.2.2.2.2 + C.2.2.2.2.1 ≤ C.2.2.2.2.2 (σ.1 + σ.2.2.1)) : a_is C σ = true := by
  obtain ⟨k1, k2, k3, k4, k5, k6⟩ := ok
  have ab : ∀ v : Int, -1 ≤ v ∧ v ≤ 1 → a_abs v ≤ 1 := fun v hv => by unfold a_abs; split <;> omega
  have hcl : a_cl C σ = true := by
    refine (a_cl_iff C σ).mpr ⟨fun k q1 q2 => ?_, h7⟩
    have hk : k = 0 := by have := ab _ h3; omega
    subst hk
    have h1' : a_abs σ.2.2.1 = 1 := by have := ab _ h3; omega
    rw [h1']
    have e : (σ.2.2.2.2 * 0 + 1 - 1) / 1 = 0 := by omega
    rw [e]
    have := k6 σ.1 (by omega) (by omega)
    split
    · rw [Int.add_zero]; exact this.1
    · rw [Int.sub_zero]; exact this.1
  unfold a_is
  rw [Bool.and_eq_true]
  have a2 := ab _ h2
  have a3 := ab _ h3
  have a4 := ab _ h4
  refine ⟨decide_eq_true ?_, decide_eq_true (by omega)⟩
  unfold a_why
  rw [if_neg (by omega), if_neg (by omega), if_neg (by omega), if_neg (by omega), if_neg (by omega), if_pos hcl]
/-- a step by its code -/
theorem v_stp (k : Int) (hk : 0 ≤ k ∧ k < 9) (e : a_step σ k 0 = τ) (h : a_is C τ = true) : w_E C 0 σ τ := ⟨k, hk, Or.inl rfl, by rw [e]; exact h, e.symm⟩
theorem v_s_is (ok : a_ok C) (h1 : 0 ≤ c ∧ c < C.1) (h2 : 1 ≤ d ∧ d ≤ C.2.1) (h3 : d + C.2.2.2.2.1 ≤ C.2.2.2.2.2 c) : a_is C (v_s c d) = true := by
  refine v_is1 ok h1 ⟨by show (-1 : Int) ≤ 0; omega, by show (0 : Int) ≤ 1; omega⟩ ⟨by show (-1 : Int) ≤ 0; omega, by show (0 : Int) ≤ 1; omega⟩ ⟨by show (-1 : Int) ≤ 0; omega, by show (0 : Int) ≤ 1; omega⟩ h2 ?_ ?_
  · show 0 ≤ c + 0 ∧ c + 0 < C.1
    omega
  · show d + C.2.2.2.2.1 ≤ C.2.2.2.2.2 (c + 0)
    rw [Int.add_zero]; exact h3
theorem v_s_sp (h : a_is C (v_s c d) = true) : (0 ≤ c ∧ c < C.1) ∧ (1 ≤ d ∧ d ≤ C.2.1) ∧ d + C.2.2.2.2.1 ≤ C.2.2.2.2.2 c := by
  have h0 := a_why_0 (a_is_spec h).1
  have h1 := ((a_cl_iff C (v_s c d)).mp h0.2.2.2.2.2).2
  have e : (v_s c d).1 + (v_s c d).2.2.1 = c := by show c + 0 = c; omega
  rw [e] at h1
  exact ⟨h0.1, h0.2.2.1, h1⟩
/-- up and down -/
theorem v_up (ok : a_ok C) : ∀ (n : Nat) (d : Int), a_is C (v_s c (d + (n : Int))) = true → 1 ≤ d → p_ch (w_E C 0) n (v_s c (d + (n : Int))) (v_s c d) ∧ p_ch (w_E C 0) n (v_s c d) (v_s c (d + (n : Int))) := by
  intro n
  induction n with
  | zero =>
    intro d h hd
    have e : d + ((0 : Nat) : Int) = d := by omega
    rw [e]
    exact ⟨rfl, rfl⟩
  | succ n ih =>
    intro d h hd
    obtain ⟨g1, g2, g3⟩ := v_s_sp h
    have e : d + ((n + 1 : Nat) : Int) = d + 1 + (n : Int) := by omega
    rw [e] at h g2 g3 ⊢
    obtain ⟨i1, i2⟩ := ih (d + 1) h (by omega)
    have k1 : a_is C (v_s c d) = true := v_s_is ok g1 (by omega) (by omega)
    have k2 : a_is C (v_s c (d + 1)) = true := v_s_is ok g1 (by omega) (by omega)
    have w1 : w_E C 0 (v_s c (d + 1)) (v_s c d) := v_stp 3 (by omega) (by
      show (c + (0 + (3 / 3 - 1)), (0 : Int) + (3 / 3 - 1), a_gr (d + 1 + (3 % 3 - 1)) * 0 - 0 - (3 / 3 - 1) + 0, (0 : Int), d + 1 + (3 % 3 - 1)) = (c, 0, 0, 0, d)
      have e1 : d + 1 + (3 % 3 - 1) = d := by omega
      have e2 : c + (0 + (3 / 3 - 1)) = c := by omega
      rw [e1, e2, Int.mul_zero]; rfl) k1
    have w2 : w_E C 0 (v_s c d) (v_s c (d + 1)) := v_stp 5 (by omega) (by
      show (c + (0 + (5 / 3 - 1)), (0 : Int) + (5 / 3 - 1), a_gr (d + (5 % 3 - 1)) * 0 - 0 - (5 / 3 - 1) + 0, (0 : Int), d + (5 % 3 - 1)) = (c, 0, 0, 0, d + 1)
      have e1 : d + (5 % 3 - 1) = d + 1 := by omega
      have e2 : c + (0 + (5 / 3 - 1)) = c := by omega
      rw [e1, e2, Int.mul_zero]; rfl) k2
    exact ⟨p_ch_e n _ _ _ i1 w1, v_s c (d + 1), w2, i2⟩
theorem v_v (ok : a_ok C) {d d' : Int} (h : a_is C (v_s c d) = true) (h' : 1 ≤ d' ∧ d' ≤ d) : v_nr C 5 (v_s c d) (v_s c d') ∧ v_nr C 5 (v_s c d') (v_s c d) := by
  obtain ⟨g1, g2, g3⟩ := v_s_sp h
  have k2 := ok.2.1
  have e : d' + (((d - d').toNat : Nat) : Int) = d := by omega
  have := v_up ok (d - d').toNat d' (by rw [e]; exact h) h'.1
  rw [e] at this
  exact ⟨⟨_, by omega, this.1⟩, ⟨_, by omega, this.2⟩⟩
/-- three columns on, in depth 1 -/
theorem v_l1 (ok : a_ok C) (h : a_is C (v_s c 1) = true) (h' : a_is C (v_s (c + 3) 1) = true) : v_nr C 4 (v_s c 1) (v_s (c + 3) 1) ∧ v_nr C 4 (v_s (c + 3) 1) (v_s c 1) := by
  obtain ⟨g1, g2, g3⟩ := v_s_sp h
  obtain ⟨f1, f2, f3⟩ := v_s_sp h'
  have gr : a_gr 1 = -1 := rfl
  have st : ∀ x v s l y : Int, x + s = y → (y = c ∨ y = c + 3) → (c ≤ x ∧ x ≤ c + 3) → (-1 ≤ v ∧ v ≤ 1) → (-1 ≤ s ∧ s ≤ 1) → (-1 ≤ l ∧ l ≤ 1) → a_is C (x, v, s, l, 1) = true := fun x v s l y e hy hx hv hs hl => by
    refine v_is1 ok (by show 0 ≤ x ∧ x < C.1; omega) hv hs hl (by show (1 : Int) ≤ 1 ∧ (1 : Int) ≤ C.2.1; omega) ?_ ?_
    · show 0 ≤ x + s ∧ x + s < C.1
      omega
    · show 1 + C.2.2.2.2.1 ≤ C.2.2.2.2.2 (x + s)
      rw [e]
      rcases hy with rfl | rfl
      · exact g3
      · exact f3
  have stp : ∀ (k x v s l x' v' s' : Int), (0 ≤ k ∧ k < 9) → k % 3 = 1 → v' = v + (k / 3 - 1) → x' = x + v' → s' = - s - l - (k / 3 - 1) → a_is C (x', v', s', s, 1) = true → w_E C 0 (x, v, s, l, 1) (x', v', s', s, 1) := fun k x v s l x' v' s' hk hk1 e1 e2 e3 hi => by
    refine v_stp k hk ?_ hi
    show (x + (v + (k / 3 - 1)), v + (k / 3 - 1), a_gr (1 + (k % 3 - 1)) * s - l - (k / 3 - 1) + 0, s, 1 + (k % 3 - 1)) = (x', v', s', s, 1)
    have e4 : 1 + (k % 3 - 1) = (1 : Int) := by omega
    rw [e4, gr, e2, e1, e3]
    have e5 : (-1 : Int) * s - l - (k / 3 - 1) + 0 = - s - l - (k / 3 - 1) := by omega
    rw [e5]
  constructor
  · exact ⟨4, Nat.le_refl _, (c + 1, 1, -1, 0, 1), stp 7 _ _ _ _ _ _ _ (by omega) (by omega) (by omega) (by omega) (by omega) (st _ _ _ _ c (by omega) (Or.inl rfl) (by omega) (by omega) (by omega) (by omega)),
      (c + 2, 1, 1, -1, 1), stp 4 _ _ _ _ _ _ _ (by omega) (by omega) (by omega) (by omega) (by omega) (st _ _ _ _ (c + 3) (by omega) (Or.inr rfl) (by omega) (by omega) (by omega) (by omega)),
      (c + 3, 1, 0, 1, 1), stp 4 _ _ _ _ _ _ _ (by omega) (by omega) (by omega) (by omega) (by omega) (st _ _ _ _ (c + 3) (by omega) (Or.inr rfl) (by omega) (by omega) (by omega) (by omega)),
      v_s (c + 3) 1, stp 1 _ _ _ _ _ _ _ (by omega) (by omega) (by omega) (by omega) (by omega) h', rfl⟩
  · exact ⟨4, Nat.le_refl _, (c + 2, -1, 1, 0, 1), stp 1 _ _ _ _ _ _ _ (by omega) (by omega) (by omega) (by omega) (by omega) (st _ _ _ _ (c + 3) (by omega) (Or.inr rfl) (by omega) (by omega) (by omega) (by omega)),
      (c + 1, -1, -1, 1, 1), stp 4 _ _ _ _ _ _ _ (by omega) (by omega) (by omega) (by omega) (by omega) (st _ _ _ _ c (by omega) (Or.inl rfl) (by omega) (by omega) (by omega) (by omega)),
      (c, -1, 0, -1, 1), stp 4 _ _ _ _ _ _ _ (by omega) (by omega) (by omega) (by omega) (by omega) (st _ _ _ _ c (by omega) (Or.inl rfl) (by omega) (by omega) (by omega) (by omega)),
      v_s c 1, stp 7 _ _ _ _ _ _ _ (by omega) (by omega) (by omega) (by omega) (by omega) h, rfl⟩
/-- two columns on, in depth 3 -/
theorem v_l2 (ok : a_ok C) (h : a_is C (v_s c 3) = true) (h' : a_is C (v_s (c + 2) 3) = true) : v_nr C 4 (v_s c 3) (v_s (c + 2) 3) ∧ v_nr C 4 (v_s (c + 2) 3) (v_s c 3) := by
  obtain ⟨g1, g2, g3⟩ := v_s_sp h
  obtain ⟨f1, f2, f3⟩ := v_s_sp h'
  have gr : a_gr 3 = 0 := rfl
  have st : ∀ x v s l y : Int, x + s = y → (y = c ∨ y = c + 2) → (c ≤ x ∧ x ≤ c + 2) → (-1 ≤ v ∧ v ≤ 1) → (-1 ≤ s ∧ s ≤ 1) → (-1 ≤ l ∧ l ≤ 1) → a_is C (x, v, s, l, 3) = true := fun x v s l y e hy hx hv hs hl => by
    refine v_is1 ok (by show 0 ≤ x ∧ x < C.1; omega) hv hs hl (by show (1 : Int) ≤ 3 ∧ (3 : Int) ≤ C.2.1; omega) ?_ ?_
    · show 0 ≤ x + s ∧ x + s < C.1
      omega
    · show 3 + C.2.2.2.2.1 ≤ C.2.2.2.2.2 (x + s)
      rw [e]
      rcases hy with rfl | rfl
      · exact g3
      · exact f3
  have stp : ∀ (k x v s l x' v' s' : Int), (0 ≤ k ∧ k < 9) → k % 3 = 1 → v' = v + (k / 3 - 1) → x' = x + v' → s' = - l - (k / 3 - 1) → a_is C (x', v', s', s, 3) = true → w_E C 0 (x, v, s, l, 3) (x', v', s', s, 3) := fun k x v s l x' v' s' hk hk1 e1 e2 e3 hi => by
    refine v_stp k hk ?_ hi
    show (x + (v + (k / 3 - 1)), v + (k / 3 - 1), a_gr (3 + (k % 3 - 1)) * s - l - (k / 3 - 1) + 0, s, 3 + (k % 3 - 1)) = (x', v', s', s, 3)
    have e4 : 3 + (k % 3 - 1) = (3 : Int) := by omega
    rw [e4, gr, e2, e1, e3]
    have e5 : (0 : Int) * s - l - (k / 3 - 1) + 0 = - l - (k / 3 - 1) := by omega
    rw [e5]
  constructor
  · exact ⟨4, Nat.le_refl _, (c + 1, 1, -1, 0, 3), stp 7 _ _ _ _ _ _ _ (by omega) (by omega) (by omega) (by omega) (by omega) (st _ _ _ _ c (by omega) (Or.inl rfl) (by omega) (by omega) (by omega) (by omega)),
      (c + 1, 0, 1, -1, 3), stp 1 _ _ _ _ _ _ _ (by omega) (by omega) (by omega) (by omega) (by omega) (st _ _ _ _ (c + 2) (by omega) (Or.inr rfl) (by omega) (by omega) (by omega) (by omega)),
      (c + 2, 1, 0, 1, 3), stp 7 _ _ _ _ _ _ _ (by omega) (by omega) (by omega) (by omega) (by omega) (st _ _ _ _ (c + 2) (by omega) (Or.inr rfl) (by omega) (by omega) (by omega) (by omega)),
      v_s (c + 2) 3, stp 1 _ _ _ _ _ _ _ (by omega) (by omega) (by omega) (by omega) (by omega) h', rfl⟩
  · exact ⟨4, Nat.le_refl _, (c + 1, -1, 1, 0, 3), stp 1 _ _ _ _ _ _ _ (by omega) (by omega) (by omega) (by omega) (by omega) (st _ _ _ _ (c + 2) (by omega) (Or.inr rfl) (by omega) (by omega) (by omega) (by omega)),
      (c + 1, 0, -1, 1, 3), stp 7 _ _ _ _ _ _ _ (by omega) (by omega) (by omega) (by omega) (by omega) (st _ _ _ _ c (by omega) (Or.inl rfl) (by omega) (by omega) (by omega) (by omega)),
      (c, -1, 0, -1, 3), stp 1 _ _ _ _ _ _ _ (by omega) (by omega) (by omega) (by omega) (by omega) (st _ _ _ _ c (by omega) (Or.inl rfl) (by omega) (by omega) (by omega) (by omega)),
      v_s c 3, stp 7 _ _ _ _ _ _ _ (by omega) (by omega) (by omega) (by omega) (by omega) h, rfl⟩
end LNK
