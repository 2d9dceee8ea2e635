/-! HOW LONG A SHORTEST WAY CAN BE: it meets a (column, speed, sway, last) in the depths 1 and 2 once, in 5 and 6 once, in 3 once, in 4 once -/
def q_m (d : Int) : Nat := if d < 3 then 0 else if d = 3 then 1 else if d = 4 then 2 else 3
def q_c (σ : a_S) : Nat := (((σ.1 * 5 + σ.2.1 + 2) * 9 + σ.2.2.1 + 4) * 9 + σ.2.2.2.1 + 4).toNat
def q_k (σ : a_S) : Nat := 4 * q_c σ + q_m σ.2.2.2.2
section QL
variable {C : a_C} {σ τ ρ : a_S}
theorem q_m_lt (d : Int) : q_m d < 4 := by
  unfold q_m
  repeat' split
  all_goals omega
theorem q_m_gr {d d' : Int} (h1 : 1 ≤ d ∧ d ≤ 6) (h2 : 1 ≤ d' ∧ d' ≤ 6) (h : q_m d = q_m d') : a_gr d = a_gr d' ∧ (d = d' ∨ (d = 1 ∧ d' = 2) ∨ (d = 2 ∧ d' = 1) ∨ (d = 5 ∧ d' = 6) ∨ (d = 6 ∧ d' = 5)) := by
  unfold q_m at h
  unfold a_gr
  repeat' split at h
  all_goals (repeat' split)
  all_goals omega
theorem q_c_i (h1 : a_bx σ) (h2 : a_bx τ) (h : q_c σ = q_c τ) : σ.1 = τ.1 ∧ σ.2.1 = τ.2.1 ∧ σ.2.2.1 = τ.2.2.1 ∧ σ.2.2.2.1 = τ.2.2.2.1 := by
  unfold a_bx at h1 h2
  unfold q_c at h
  omega
theorem q_k_i (h1 : a_bx σ) (h2 : a_bx τ) (h : q_k σ = q_k τ) : (σ.1 = τ.1 ∧ σ.2.1 = τ.2.1 ∧ σ.2.2.1 = τ.2.2.1 ∧ σ.2.2.2.1 = τ.2.2.2.1) ∧ q_m σ.2.2.2.2 = q_m τ.2.2.2.2 := by
  unfold q_k at h
  have m1 := q_m_lt σ.2.2.2.2
  have m2 := q_m_lt τ.2.2.2.2
  exact ⟨q_c_i h1 h2 (by omega), by omega⟩
/-- the same in another depth, as the end of a step -/
theorem q_to (h : w_E C 0 ρ σ) (hi : a_is C τ = true) (e : σ.1 = τ.1 ∧ σ.2.1 = τ.2.1 ∧ σ.2.2.1 = τ.2.2.1 ∧ σ.2.2.2.1 = τ.2.2.2.1) (hg : a_gr σ.2.2.2.2 = a_gr τ.2.2.2.2) (hd : -1 ≤ τ.2.2.2.2 - ρ.2.2.2.2 ∧ τ.2.2.2.2 - ρ.2.2.2.2 ≤ 1) : w_E C 0 ρ τ := by
  obtain ⟨c, c0, -, c1, c2⟩ := h
  have key : a_step ρ (3 * (c / 3) + (τ.2.2.2.2 - ρ.2.2.2.2 + 1)) 0 = τ := by
    have k3 : (3 * (c / 3) + (τ.2.2.2.2 - ρ.2.2.2.2 + 1)) / 3 = c / 3 := by omega
    have k4 : (3 * (c / 3) + (τ.2.2.2.2 - ρ.2.2.2.2 + 1)) % 3 - 1 = τ.2.2.2.2 - ρ.2.2.2.2 := by omega
    have e5 : ρ.2.2.2.2 + (τ.2.2.2.2 - ρ.2.2.2.2) = τ.2.2.2.2 := by omega
    have s5 : σ.2.2.2.2 = ρ.2.2.2.2 + (c % 3 - 1) := by rw [c2]; rfl
    unfold a_step
    rw [k3, k4, e5, ← hg, s5]
    obtain ⟨t1, t2, t3, t4, t5⟩ := τ
    have q := e
    rw [c2] at q
    unfold a_step at q
    dsimp only at q ⊢
    rw [q.1, q.2.1, q.2.2.1, q.2.2.2]
  exact ⟨3 * (c / 3) + (τ.2.2.2.2 - ρ.2.2.2.2 + 1), by omega, Or.inl rfl, by rw [key]; exact hi, key.symm⟩
/-- .. as its begin -/
theorem q_of (h : w_E C 0 σ ρ) (e : σ.1 = τ.1 ∧ σ.2.1 = τ.2.1 ∧ σ.2.2.1 = τ.2.2.1 ∧ σ.2.2.2.1 = τ.2.2.2.1) (hd : -1 ≤ ρ.2.2.2.2 - τ.2.2.2.2 ∧ ρ.2.2.2.2 - τ.2.2.2.2 ≤ 1) : w_E C 0 τ ρ := by
  obtain ⟨c, c0, -, c1, c2⟩ := h
  have key : a_step τ (3 * (c / 3) + (ρ.2.2.2.2 - τ.2.2.2.2 + 1)) 0 = ρ := by
    have k3 : (3 * (c / 3) + (ρ.2.2.2.2 - τ.2.2.2.2 + 1)) / 3 = c / 3 := by omega
    have k4 : (3 * (c / 3) + (ρ.2.2.2.2 - τ.2.2.2.2 + 1)) % 3 - 1 = ρ.2.2.2.2 - τ.2.2.2.2 := by omega
    have e5 : τ.2.2.2.2 + (ρ.2.2.2.2 - τ.2.2.2.2) = ρ.2.2.2.2 := by omega
    unfold a_step
    rw [k3, k4, e5, ← e.1, ← e.2.1, ← e.2.2.1, ← e.2.2.2]
    have s5 : ρ.2.2.2.2 = σ.2.2.2.2 + (c % 3 - 1) := by rw [c2]; rfl
    rw [s5, c2]
    rfl
  exact ⟨3 * (c / 3) + (ρ.2.2.2.2 - τ.2.2.2.2 + 1), by omega, Or.inl rfl, by rw [key, c2]; exact c1, key.symm⟩
theorem q_d (h : w_E C 0 σ τ) : -1 ≤ τ.2.2.2.2 - σ.2.2.2.2 ∧ τ.2.2.2.2 - σ.2.2.2.2 ≤ 1 := by
  obtain ⟨c, c0, -, c1, c2⟩ := h
  rw [c2]
  unfold a_step
  dsimp only
  omega
theorem q_is (h : w_E C 0 σ τ) : a_is C τ = true := by
  obtain ⟨c, c0, -, c1, c2⟩ := h
  rw [c2]; exact c1
/-- a shortest chain cannot be cut short -/
theorem q_cut {S : a_S → Prop} {E : a_S → a_S → Prop} {f : Nat → a_S} {t : Nat} (h0 : S (f 0)) (hE : ∀ i, i < t → E (f i) (f (i + 1))) (hmin : ∀ t', b_D S E t' (f t) → t ≤ t') {i k : Nat} (hik : i + 1 < k) (hk : k ≤ t) (h : E (f i) (f k)) : False := by
  have h1 := b_D_on hE (i := 0) (a := 0) (Nat.zero_le t) h0 i (by omega)
  rw [Nat.zero_add] at h1
  have h2 : b_D S E (i + 1) (f k) := ⟨f i, by simpa using h1, h⟩
  have h3 := b_D_on hE (i := k) (a := i + 1) hk h2 (t - k) (by omega)
  rw [show k + (t - k) = t by omega] at h3
  have := hmin _ h3
  omega
/-- the keys of a shortest way, but for its first and last state, are all different -/
theorem q_inj (ok : a_ok C) {S : a_S → Prop} {f : Nat → a_S} {t : Nat} (h0 : S (f 0)) (hs : a_is C (f 0) = true) (hE : ∀ i, i < t → w_E C 0 (f i) (f (i + 1))) (hmin : ∀ t', b_D S (w_E C 0) t' (f t) → t ≤ t') (hne : ∀ i j, i < t → j < t → f i = f j → i = j) {i j : Nat} (hi : 0 < i) (hij : i < j) (hj : j < t) : q_k (f i) ≠ q_k (f j) := fun q => by
  obtain ⟨a, rfl⟩ : ∃ a, i = a + 1 := ⟨i - 1, by omega⟩
  obtain ⟨b, rfl⟩ : ∃ b, j = b + 1 := ⟨j - 1, by omega⟩
  have ea := hE a (by omega)
  have eb := hE b (by omega)
  have ej := hE (b + 1) hj
  have x1 := a_is_bx ok (q_is ea)
  have x2 := a_is_bx ok (q_is eb)
  have x3 := a_is_bx ok (q_is ej)
  obtain ⟨e, em⟩ := q_k_i x1 x2 q
  obtain ⟨hg, hd⟩ := q_m_gr x1.2.2.2.2 x2.2.2.2.2 em
  have da := q_d ea
  have dj := q_d ej
  have c1 : (-1 ≤ (f (b + 1)).2.2.2.2 - (f a).2.2.2.2 ∧ (f (b + 1)).2.2.2.2 - (f a).2.2.2.2 ≤ 1) → False := fun hh => q_cut h0 hE hmin (i := a) (k := b + 1) (by omega) (by omega) (q_to ea (q_is eb) e hg hh)
  have c2 : (-1 ≤ (f (b + 1 + 1)).2.2.2.2 - (f (a + 1)).2.2.2.2 ∧ (f (b + 1 + 1)).2.2.2.2 - (f (a + 1)).2.2.2.2 ≤ 1) → False := fun hh => q_cut h0 hE hmin (i := a + 1) (k := b + 1 + 1) (by omega) (by omega) (q_of ej ⟨e.1.symm, e.2.1.symm, e.2.2.1.symm, e.2.2.2.symm⟩ hh)
  have x3d := x3.2.2.2.2
  have xa : a_bx (f a) := by
    cases a with
    | zero => exact a_is_bx ok hs
    | succ a' => exact a_is_bx ok (q_is (hE a' (by omega)))
  have xad := xa.2.2.2.2
  rcases hd with hd | ⟨k1, k2⟩ | ⟨k1, k2⟩ | ⟨k1, k2⟩ | ⟨k1, k2⟩
  · have : f (a + 1) = f (b + 1) := Prod.ext e.1 (Prod.ext e.2.1 (Prod.ext e.2.2.1 (Prod.ext e.2.2.2 hd)))
    have := hne _ _ (by omega) hj this
    omega
  · exact c1 (by omega)
  · exact c2 (by omega)
  · exact c2 (by omega)
  · exact c1 (by omega)
end QL
