/-! no shortest way is longer than there are states that have one ahead of them: fewer than 29999 -/
section CH
variable {α : Type} {S : α → Prop} {E : α → α → Prop}
theorem b_chain : ∀ (t : Nat) (n : α), b_D S E t n → ∃ f : Nat → α, f t = n ∧ S (f 0) ∧ ∀ i, i < t → E (f i) (f (i + 1))
  | 0, n, h => ⟨fun _ => n, rfl, h, fun i hi => by omega⟩
  | t + 1, n, h => by
    obtain ⟨τ, h1, h2⟩ := h
    obtain ⟨f, f1, f2, f3⟩ := b_chain t τ h1
    refine ⟨fun i => if i ≤ t then f i else n, if_neg (by omega), by show S (if 0 ≤ t then f 0 else n); rw [if_pos (Nat.zero_le t)]; exact f2, fun i hi => ?_⟩
    show E (if i ≤ t then f i else n) (if i + 1 ≤ t then f (i + 1) else n)
    by_cases h : i < t
    · rw [if_pos (by omega), if_pos (by omega)]
      exact f3 i h
    · rw [if_pos (by omega), if_neg (by omega), show i = t by omega, f1]
      exact h2
theorem b_D_on {f : Nat → α} {t : Nat} (hE : ∀ i, i < t → E (f i) (f (i + 1))) {i a : Nat} (hi : i ≤ t) (h : b_D S E a (f i)) : ∀ j, i + j ≤ t → b_D S E (a + j) (f (i + j))
  | 0, _ => h
  | j + 1, hj => ⟨f (i + j), b_D_on hE hi h j (by omega), hE (i + j) (by omega)⟩
/-- a shortest chain: all different -/
theorem b_short {t : Nat} {n : α} (h : b_D S E t n) (hmin : ∀ t', b_D S E t' n → t ≤ t') : ∃ f : Nat → α, f t = n ∧ S (f 0) ∧ (∀ i, i < t → E (f i) (f (i + 1))) ∧ ∀ i j, i < t → j < t → f i = f j → i = j := by
  obtain ⟨f, f1, f2, f3⟩ := b_chain t n h
  have key : ∀ i j, i < j → j < t → f i ≠ f j := fun i j hij hjt q => by
    have h1 := b_D_on f3 (i := 0) (a := 0) (Nat.zero_le t) f2 i (by omega)
    rw [Nat.zero_add, q] at h1
    have h2 := b_D_on f3 (i := j) (a := i) (by omega) h1 (t - j) (by omega)
    rw [show j + (t - j) = t by omega, f1] at h2
    have := hmin _ h2
    omega
  refine ⟨f, f1, f2, f3, fun i j hi hj q => ?_⟩
  rcases Nat.lt_trichotomy i j with g | g | g
  · exact absurd q (key i j g hj)
  · exact g
  · exact absurd q.symm (key j i g hi)
end CH
/-- by a number without its depth: it stands within sixteen columns, and so does one a step ahead of it -/
def p_g (q : Nat) : Bool := Nat.ble 4 (q / 405 + q / 9 % 9) && Nat.ble (q / 405 + q / 9 % 9) 19 && Nat.ble (q / 81 % 5) (q / 405 + 2) && Nat.ble (q / 405 + 2) (15 + q / 81 % 5) && Nat.ble (4 + q / 81 % 5) (q / 405 + 2 + q % 9) && Nat.ble (q / 405 + 2 + q % 9) (19 + q / 81 % 5)
def p_l : List Nat := (List.range 6480).filter p_g
theorem p_len : p_l.length = 4774 := by decide +kernel
theorem p_flat {f : Nat → List Nat} (hf : ∀ q, (f q).length = 6) : ∀ l : List Nat, (l.flatMap f).length = l.length * 6
  | [] => rfl
  | a :: l => by
    rw [List.flatMap_cons, List.length_append, hf, p_flat hf l, List.length_cons]
    omega
def p_l6 : List Nat := p_l.flatMap (fun q => (List.range 6).map (fun e => 6 * q + e))
theorem p_len6 : p_l6.length = 28644 := by
  unfold p_l6
  rw [p_flat (fun q => by rw [List.length_map, List.length_range]), p_len]
theorem p_in {n : Nat} (hn : n < 38880) (hg : p_g (n / 6) = true) : n ∈ p_l6 := by
  unfold p_l6
  rw [List.mem_flatMap]
  refine ⟨n / 6, List.mem_filter.mpr ⟨List.mem_range.mpr (by omega), hg⟩, List.mem_map.mpr ⟨n % 6, List.mem_range.mpr (by omega), by omega⟩⟩
theorem p_of {n : Int} (h0 : 0 ≤ n) (h1 : n < 38880) (a1 : 0 ≤ (a_of n).1 + (a_of n).2.2.1 ∧ (a_of n).1 + (a_of n).2.2.1 < 16) (a2 : 0 ≤ (a_of n).1 - (a_of n).2.1 ∧ (a_of n).1 - (a_of n).2.1 < 16) (a3 : 0 ≤ (a_of n).1 - (a_of n).2.1 + (a_of n).2.2.2.1 ∧ (a_of n).1 - (a_of n).2.1 + (a_of n).2.2.2.1 < 16) : n.toNat ∈ p_l6 := by
  refine p_in (by omega) ?_
  unfold a_of at a1 a2 a3
  simp only at a1 a2 a3
  obtain ⟨m, rfl⟩ : ∃ m : Nat, n = m := ⟨n.toNat, by omega⟩
  rw [Int.toNat_natCast]
  have e1 : (m : Int) / 2430 = ((m / 6 / 405 : Nat) : Int) := by omega
  have e2 : (m : Int) / 54 = ((m / 6 / 9 : Nat) : Int) := by omega
  have e3 : (m : Int) / 486 = ((m / 6 / 81 : Nat) : Int) := by omega
  have e4 : (m : Int) / 6 = ((m / 6 : Nat) : Int) := by omega
  rw [e1, e2] at a1
  rw [e1, e3] at a2
  rw [e1, e3, e4] at a3
  generalize m / 6 = q at *
  unfold p_g
  simp only [Bool.and_eq_true, Nat.ble_eq]
  omega
/-- the bound -/
theorem s_bound {C : a_C} (ok : a_ok C) {goal lev : Int} : ∀ t n, b_D (s_S C goal) (s_E C lev) t n → (∀ t', b_D (s_S C goal) (s_E C lev) t' n → t ≤ t') → t < 29999 := by
  intro t n h hmin
  obtain ⟨f, f1, f2, f3, f4⟩ := b_short h hmin
  have k1 := ok.1
  have st : ∀ i, i ≤ t → a_is C (a_of (f i)) = true ∧ (0 ≤ f i ∧ f i < 38880) := fun i hi => by
    cases i with
    | zero => exact ⟨f2.2.1, f2.2.2.1⟩
    | succ i =>
      obtain ⟨c, c1, c2, c3, c4⟩ := f3 i (by omega)
      have hb := a_is_bx ok c3
      rw [c4]
      exact ⟨by rw [a_of_no hb]; exact c3, a_no_bd hb⟩
  have hpig := b_pig t p_l6 (fun i => (f i).toNat) (fun i j hi hj q => f4 i j hi hj (by
    have s1 := (st i (by omega)).2
    have s2 := (st j (by omega)).2
    have q : (f i).toNat = (f j).toNat := q
    omega)) (fun i hi => by
    obtain ⟨s1, s2⟩ := st i (by omega)
    obtain ⟨c, c1, c2, c3, c4⟩ := f3 i hi
    have g1 := (a_why_0 (a_is_spec s1).1).2.2.2.2.1
    have g2 := a_why_0 (a_is_spec c3).1
    have g3 := g2.1
    have g4 := g2.2.2.2.2.1
    unfold a_back at g3 g4
    simp only at g3 g4
    exact p_of s2.1 s2.2 (by omega) (by omega) (by omega))
  rw [p_len6] at hpig
  omega
