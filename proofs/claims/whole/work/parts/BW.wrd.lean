/-! THE TIE: words -/
def wv_p (l : Nat → Int) (j : Nat) : Int := a_p6 (if 0 < j then l 0 else 0) (if 1 < j then l 1 else 0) (if 2 < j then l 2 else 0) (if 3 < j then l 3 else 0) (if 4 < j then l 4 else 0) (if 5 < j then l 5 else 0)
section WRD
variable {f g : Nat → Int} {n p : Int}
theorem a_run_st {q : Int → Bool} (hq : q (-1) = false) : ∀ (k : Nat) (i : Int), (k : Int) = n - i → q (a_hr f n (a_run q f n k i)) = false := by
  intro k
  induction k with
  | zero =>
    intro i hi
    show q (a_hr f n i) = false
    unfold a_hr
    rw [if_neg (by omega)]
    exact hq
  | succ k ih =>
    intro i hi
    unfold a_run
    by_cases c : q (a_hr f n i) = true
    · rw [if_pos c]; exact ih (i + 1) (by omega)
    · rw [if_neg c]
      exact Bool.eq_false_iff.mpr c
theorem a_run_in {q : Int → Bool} : ∀ (k : Nat) (i j : Int), i ≤ j → j < a_run q f n k i → q (a_hr f n j) = true := by
  intro k
  induction k with
  | zero => intro i j a b; have b' : j < i := b; omega
  | succ k ih =>
    intro i j a b
    unfold a_run at b
    by_cases c : q (a_hr f n i) = true
    · rw [if_pos c] at b
      by_cases e : j = i
      · rw [e]; exact c
      · exact ih (i + 1) j (by omega) b
    · rw [if_neg c] at b
      omega
theorem m_or_s {q l : Int} (N s : Nat) (hN : N = s + 5) (hN2 : N ≤ 30) (hq : 0 ≤ q) (hq2 : q * ((2 ^ N : Nat) : Int) + ((2 ^ N : Nat) : Int) ≤ 1073741824) (hl : 0 ≤ l ∧ l < 32) (hp : l * ((2 ^ s : Nat) : Int) < ((2 ^ N : Nat) : Int)) (hp0 : 0 ≤ l * ((2 ^ s : Nat) : Int)) : m_or (q * ((2 ^ N : Nat) : Int)) (m_shl l (s : Int)) = q * ((2 ^ N : Nat) : Int) + l * ((2 ^ s : Nat) : Int) := by
  have hq3 := Int.mul_nonneg hq (Int.natCast_nonneg (2 ^ N))
  rw [m_shl_v (x := l) (k := (s : Int)) (by omega) s rfl (by omega) (by omega), m_or_d N hq ⟨hp0, hp⟩ (by omega)]
theorem wv_s {l : Nat → Int} {j : Nat} (hj : j < 6) (hl : ∀ k, 0 ≤ l k ∧ l k < 32) {x : Int} (hx : x - 97 + 1 = l j) : m_or (wv_p l j) (re_lb x (j : Int)) = wv_p l (j + 1) := by
  have h0 := hl 0
  have h1 := hl 1
  have h2 := hl 2
  have h3 := hl 3
  have h4 := hl 4
  have h5 := hl 5
  unfold re_lb
  rw [if_pos (by omega), hx]
  have : j = 0 ∨ j = 1 ∨ j = 2 ∨ j = 3 ∨ j = 4 ∨ j = 5 := by omega
  rcases this with e | e | e | e | e | e <;> subst e
  · show m_or (a_p6 0 0 0 0 0 0) (m_shl (l 0) 25) = a_p6 (l 0) 0 0 0 0 0
    have := m_or_s (q := 0) (l := l 0) 30 25 rfl (by omega) (by omega) (by show (0 : Int) * 1073741824 + 1073741824 ≤ 1073741824; omega) h0 (by show l 0 * 33554432 < 1073741824; omega) (by show 0 ≤ l 0 * 33554432; omega)
    rw [show a_p6 0 0 0 0 0 0 = 0 * ((2 ^ 30 : Nat) : Int) from rfl, show (25 : Int) = ((25 : Nat) : Int) from rfl, this]
    show (0 : Int) * 1073741824 + l 0 * 33554432 = a_p6 (l 0) 0 0 0 0 0
    unfold a_p6
    omega
  · show m_or (a_p6 (l 0) 0 0 0 0 0) (m_shl (l 1) 20) = a_p6 (l 0) (l 1) 0 0 0 0
    have := m_or_s (q := l 0) (l := l 1) 25 20 rfl (by omega) h0.1 (by show l 0 * 33554432 + 33554432 ≤ 1073741824; omega) h1 (by show l 1 * 1048576 < 33554432; omega) (by show 0 ≤ l 1 * 1048576; omega)
    rw [show a_p6 (l 0) 0 0 0 0 0 = l 0 * ((2 ^ 25 : Nat) : Int) from by show a_p6 (l 0) 0 0 0 0 0 = l 0 * 33554432; unfold a_p6; omega, show (20 : Int) = ((20 : Nat) : Int) from rfl, this]
    show l 0 * 33554432 + l 1 * 1048576 = a_p6 (l 0) (l 1) 0 0 0 0
    unfold a_p6
    omega
  · show m_or (a_p6 (l 0) (l 1) 0 0 0 0) (m_shl (l 2) 15) = a_p6 (l 0) (l 1) (l 2) 0 0 0
    have := m_or_s (q := l 0 * 32 + l 1) (l := l 2) 20 15 rfl (by omega) (by omega) (by show (l 0 * 32 + l 1) * 1048576 + 1048576 ≤ 1073741824; omega) h2 (by show l 2 * 32768 < 1048576; omega) (by show 0 ≤ l 2 * 32768; omega)
    rw [show a_p6 (l 0) (l 1) 0 0 0 0 = (l 0 * 32 + l 1) * ((2 ^ 20 : Nat) : Int) from by show a_p6 (l 0) (l 1) 0 0 0 0 = (l 0 * 32 + l 1) * 1048576; unfold a_p6; omega, show (15 : Int) = ((15 : Nat) : Int) from rfl, this]
    show (l 0 * 32 + l 1) * 1048576 + l 2 * 32768 = a_p6 (l 0) (l 1) (l 2) 0 0 0
    unfold a_p6
    omega
  · show m_or (a_p6 (l 0) (l 1) (l 2) 0 0 0) (m_shl (l 3) 10) = a_p6 (l 0) (l 1) (l 2) (l 3) 0 0
    have := m_or_s (q := (l 0 * 32 + l 1) * 32 + l 2) (l := l 3) 15 10 rfl (by omega) (by omega) (by show ((l 0 * 32 + l 1) * 32 + l 2) * 32768 + 32768 ≤ 1073741824; omega) h3 (by show l 3 * 1024 < 32768; omega) (by show 0 ≤ l 3 * 1024; omega)
    rw [show a_p6 (l 0) (l 1) (l 2) 0 0 0 = ((l 0 * 32 + l 1) * 32 + l 2) * ((2 ^ 15 : Nat) : Int) from by show a_p6 (l 0) (l 1) (l 2) 0 0 0 = ((l 0 * 32 + l 1) * 32 + l 2) * 32768; unfold a_p6; omega, show (10 : Int) = ((10 : Nat) : Int) from rfl, this]
    show ((l 0 * 32 + l 1) * 32 + l 2) * 32768 + l 3 * 1024 = a_p6 (l 0) (l 1) (l 2) (l 3) 0 0
    unfold a_p6
    omega
  · show m_or (a_p6 (l 0) (l 1) (l 2) (l 3) 0 0) (m_shl (l 4) 5) = a_p6 (l 0) (l 1) (l 2) (l 3) (l 4) 0
    have := m_or_s (q := ((l 0 * 32 + l 1) * 32 + l 2) * 32 + l 3) (l := l 4) 10 5 rfl (by omega) (by omega) (by show (((l 0 * 32 + l 1) * 32 + l 2) * 32 + l 3) * 1024 + 1024 ≤ 1073741824; omega) h4 (by show l 4 * 32 < 1024; omega) (by show 0 ≤ l 4 * 32; omega)
    rw [show a_p6 (l 0) (l 1) (l 2) (l 3) 0 0 = (((l 0 * 32 + l 1) * 32 + l 2) * 32 + l 3) * ((2 ^ 10 : Nat) : Int) from by show a_p6 (l 0) (l 1) (l 2) (l 3) 0 0 = (((l 0 * 32 + l 1) * 32 + l 2) * 32 + l 3) * 1024; unfold a_p6; omega, show (5 : Int) = ((5 : Nat) : Int) from rfl, this]
    show (((l 0 * 32 + l 1) * 32 + l 2) * 32 + l 3) * 1024 + l 4 * 32 = a_p6 (l 0) (l 1) (l 2) (l 3) (l 4) 0
    unfold a_p6
    omega
  · show m_or (a_p6 (l 0) (l 1) (l 2) (l 3) (l 4) 0) (m_shl (l 5) 0) = a_p6 (l 0) (l 1) (l 2) (l 3) (l 4) (l 5)
    have := m_or_s (q := (((l 0 * 32 + l 1) * 32 + l 2) * 32 + l 3) * 32 + l 4) (l := l 5) 5 0 rfl (by omega) (by omega) (by show ((((l 0 * 32 + l 1) * 32 + l 2) * 32 + l 3) * 32 + l 4) * 32 + 32 ≤ 1073741824; omega) h5 (by show l 5 * 1 < 32; omega) (by show 0 ≤ l 5 * 1; omega)
    rw [show a_p6 (l 0) (l 1) (l 2) (l 3) (l 4) 0 = ((((l 0 * 32 + l 1) * 32 + l 2) * 32 + l 3) * 32 + l 4) * ((2 ^ 5 : Nat) : Int) from by show a_p6 (l 0) (l 1) (l 2) (l 3) (l 4) 0 = ((((l 0 * 32 + l 1) * 32 + l 2) * 32 + l 3) * 32 + l 4) * 32; unfold a_p6; omega, show (0 : Int) = ((0 : Nat) : Int) from rfl, this]
    show ((((l 0 * 32 + l 1) * 32 + l 2) * 32 + l 3) * 32 + l 4) * 32 + l 5 * 1 = a_p6 (l 0) (l 1) (l 2) (l 3) (l 4) (l 5)
    unfold a_p6
    omega
/-- a word of six letters at most, as the class packs it -/
theorem wv_go {l : Nat → Int} {e : Int} (hl : ∀ k, 0 ≤ l k ∧ l k < 32) (he : e - p ≤ 6) (hin : ∀ j : Int, p ≤ j → j < e → a_sl (a_hr f n j) = true ∧ a_hr f n j - 97 + 1 = l (j - p).toNat) (hst : a_sl (a_hr f n e) = false) : ∀ (m k j : Nat), (j : Int) + (m : Int) = e - p → m ≤ k → re_wv f n p k (p + (j : Int)) (wv_p l j) = wv_p l (e - p).toNat := by
  intro m
  induction m with
  | zero =>
    intro k j hj hk
    rw [show (e - p).toNat = j from by omega]
    cases k with
    | zero => rfl
    | succ k =>
      unfold re_wv
      rw [show p + (j : Int) = e from by omega, hst]
      exact if_neg (by decide)
  | succ m ih =>
    intro k j hj hk
    cases k with
    | zero => omega
    | succ k =>
      unfold re_wv
      obtain ⟨q1, q2⟩ := hin (p + (j : Int)) (by omega) (by omega)
      rw [show (p + (j : Int) - p).toNat = j from by omega] at q2
      rw [if_pos q1, show p + (j : Int) - p = (j : Int) from by omega, wv_s (by omega) hl q2, show p + (j : Int) + 1 = p + ((j + 1 : Nat) : Int) from by omega]
      exact ih k (j + 1) (by omega) (by omega)
end WRD
