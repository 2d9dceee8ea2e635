/-! THE TIE: tokens -/
def vl_R (a b : Int) : Prop := (a = b ∧ 0 ≤ a ∧ a ≤ 99999) ∨ (99999 < a ∧ 99999 < b)
/-- the class's token and the reference's -/
def tk_R (y x : a_Q) : Prop := (y.2.2.1 = x.2.1 ∧ y.2.2.2.1 = x.1) ∧
  ((y.2.2.2.2.1 = 0 ∧ x.2.2.1 = 5) ∨ (y.2.2.2.2.1 = 1 ∧ ((x.2.2.1 = 0 ∧ a_find re_W y.2.2.2.2.2 0 18 0 = x.2.2.2.1 ∧ 0 ≤ x.2.2.2.1 ∧ x.2.2.2.1 < 18) ∨ (x.2.2.1 = 1 ∧ a_find re_W y.2.2.2.2.2 0 18 0 = -1 ∧ x.2.2.2.1 = y.2.2.2.2.2))) ∨
   (y.2.2.2.2.1 = 2 ∧ x.2.2.1 = 2 ∧ vl_R y.2.2.2.2.2 x.2.2.2.1) ∨ (y.2.2.2.2.1 = 3 ∧ x.2.2.1 = 3 ∧ vl_R (-y.2.2.2.2.2) (-x.2.2.2.1)) ∨ (y.2.2.2.2.1 = 4 ∧ x.2.2.1 = 4) ∨ (y.2.2.2.2.1 = 5 ∧ x.2.2.1 = 6))
/-- six letters, five bits each -/
def a_p6 (a b c d e f : Int) : Int := a * 33554432 + b * 1048576 + c * 32768 + d * 1024 + e * 32 + f
section TOK
variable {f g : Nat → Int} {n p : Int}
/-- the class's tape and the reference's -/
def tp_R (f g : Nat → Int) (n : Int) : Prop := (0 ≤ n ∧ n ≤ 700) ∧ ∀ i : Nat, (i : Int) < n → f i = a_sb (g i) ∧ 0 ≤ g i ∧ g i ≤ 255
theorem tp_hr (h : tp_R f g n) {i : Int} (hi : 0 ≤ i) : (n ≤ i ∧ a_hr f n i = -1 ∧ a_hr g n i = -1) ∨ (i < n ∧ a_hr f n i = a_sb (a_hr g n i) ∧ 0 ≤ a_hr g n i ∧ a_hr g n i ≤ 255) := by
  unfold a_hr
  by_cases c : i < n
  · rw [if_pos c, if_pos c]
    have := h.2 i.toNat (by omega)
    exact Or.inr ⟨c, this⟩
  · rw [if_neg c, if_neg c]
    exact Or.inl ⟨by omega, rfl, rfl⟩
theorem tp_q (h : tp_R f g n) {i : Int} (hi : 0 ≤ i) : a_bk (a_hr f n i) = a_bk (a_hr g n i) ∧ a_sl (a_hr f n i) = a_sl (a_hr g n i) ∧ a_dg (a_hr f n i) = a_dg (a_hr g n i) ∧ ((a_hr f n i = 59) ↔ (a_hr g n i = 59)) ∧ ((a_hr f n i = 45) ↔ (a_hr g n i = 45)) ∧ (a_sl (a_hr f n i) = true ∨ a_dg (a_hr f n i) = true → a_hr f n i = a_hr g n i) := by
  rcases tp_hr h hi with ⟨-, e1, e2⟩ | ⟨-, e1, e2, e3⟩
  · rw [e1, e2]
    exact ⟨rfl, rfl, rfl, Iff.rfl, Iff.rfl, fun _ => rfl⟩
  · rw [e1]
    unfold a_sb
    by_cases c : a_hr g n i < 128
    · rw [if_pos c]
      exact ⟨rfl, rfl, rfl, Iff.rfl, Iff.rfl, fun _ => rfl⟩
    · rw [if_neg c]
      unfold a_bk a_sl a_dg
      refine ⟨?_, ?_, ?_, by omega, by omega, fun q => ?_⟩
      · rw [decide_eq_false (by omega), decide_eq_false (by omega)]
      · rw [decide_eq_false (by omega), decide_eq_false (by omega)]
      · rw [decide_eq_false (by omega), decide_eq_false (by omega)]
      · rcases q with q | q
        · have := of_decide_eq_true q
          omega
        · have := of_decide_eq_true q
          omega
theorem tp_run (h : tp_R f g n) {q : Int → Bool} (hq : ∀ i : Int, 0 ≤ i → q (a_hr f n i) = q (a_hr g n i)) : ∀ (k : Nat) (i : Int), 0 ≤ i → a_run q f n k i = a_run q g n k i := by
  intro k
  induction k with
  | zero => intro i _; rfl
  | succ k ih => intro i hi; unfold a_run; rw [hq i hi, ih (i + 1) (by omega)]
theorem tp_bk (h : tp_R f g n) {i : Int} (hi : 0 ≤ i) : a_end a_bk f n i = a_end a_bk g n i := tp_run h (fun i hi => (tp_q h hi).1) _ i hi
theorem tp_sl (h : tp_R f g n) {i : Int} (hi : 0 ≤ i) : a_end a_sl f n i = a_end a_sl g n i := tp_run h (fun i hi => (tp_q h hi).2.1) _ i hi
theorem tp_dg (h : tp_R f g n) {i : Int} (hi : 0 ≤ i) : a_end a_dg f n i = a_end a_dg g n i := tp_run h (fun i hi => (tp_q h hi).2.2.1) _ i hi
theorem tp_dv (h : tp_R f g n) : ∀ (k : Nat) (i v v' : Int), 0 ≤ i → vl_R v v' → vl_R (re_dv f n k i v) (a_dv g n k i v') := by
  intro k
  induction k with
  | zero => intro i v v' _ q; exact q
  | succ k ih =>
    intro i v v' hi q
    have hq := tp_q h hi
    unfold re_dv a_dv
    rw [hq.2.2.1]
    by_cases c : a_dg (a_hr g n i) = true
    · rw [if_pos c, if_pos c, hq.2.2.2.2.2 (Or.inr (by rw [hq.2.2.1]; exact c))]
      have hd := of_decide_eq_true c
      refine ih (i + 1) _ _ (by omega) ?_
      rcases q with ⟨q1, q2, q3⟩ | ⟨q1, q2⟩
      · subst q1
        rw [if_neg (by omega)]
        by_cases c2 : 10 * v + a_hr g n i - 48 ≤ 99999
        · exact Or.inl ⟨by omega, by omega, by omega⟩
        · exact Or.inr ⟨by omega, by omega⟩
      · rw [if_pos q2]
        exact Or.inr ⟨by omega, q2⟩
    · rw [if_neg c, if_neg c]
      exact q
theorem find_no {w : Nat → Int} {v : Int} : ∀ (n k : Nat), (∀ i, k ≤ i → i < k + n → w i ≠ v) → a_find w v 0 n k = -1 := by
  intro n
  induction n with
  | zero => intro k _; rfl
  | succ n ih =>
    intro k h
    unfold a_find
    rw [Nat.zero_add, if_neg (h k (by omega) (by omega))]
    exact ih (k + 1) (fun i a b => h i (by omega) (by omega))
theorem find_hit {w : Nat → Int} {v : Int} {j : Nat} (hj : w j = v) : ∀ (n k : Nat), k ≤ j → j < k + n → (∀ i, k ≤ i → i < j → w i ≠ v) → a_find w v 0 n k = (j : Int) := by
  intro n
  induction n with
  | zero => intro k a b; omega
  | succ n ih =>
    intro k a b h
    unfold a_find
    rw [Nat.zero_add]
    by_cases e : k = j
    · subst e
      rw [if_pos hj]
    · rw [if_neg (h k (by omega) (by omega))]
      exact ih (k + 1) (by omega) (by omega) (fun i p q => h i (by omega) q)
theorem m_or_32 {q b : Int} (hq : 0 ≤ q ∧ q < 33554432) (hb : 0 ≤ b ∧ b < 32) : m_or (m_shl q 5) b = q * 32 + b := by
  rw [m_shl_v (x := q) (k := 5) (by omega) 5 rfl (by omega) (by show q * 32 < 2147483648; omega), m_or_d (q := q) (b := b) 5 hq.1 hb (by show q * 32 + b < 2147483648; omega)]
  rfl
/-- the letters of a word of the reference's -/
def a_l6 (g : Nat → Int) (p e : Int) (k : Nat) : Int := if p + (k : Int) < e then g (p + (k : Int)).toNat - 97 + 1 else 0
theorem nm_v {e : Int} (hl : ∀ k : Nat, 0 ≤ a_l6 g p e k ∧ a_l6 g p e k < 32) : a_nm g p e 6 = a_p6 (a_l6 g p e 0) (a_l6 g p e 1) (a_l6 g p e 2) (a_l6 g p e 3) (a_l6 g p e 4) (a_l6 g p e 5) := by
  have h0 := hl 0
  have h1 := hl 1
  have h2 := hl 2
  have h3 := hl 3
  have h4 := hl 4
  have h5 := hl 5
  have e1 : a_nm g p e 1 = a_l6 g p e 0 := by
    show m_or (m_shl 0 5) (a_l6 g p e 0) = a_l6 g p e 0
    rw [m_or_32 (by omega) h0]; omega
  have e2 : a_nm g p e 2 = a_l6 g p e 0 * 32 + a_l6 g p e 1 := by
    show m_or (m_shl (a_nm g p e 1) 5) (a_l6 g p e 1) = _
    rw [e1, m_or_32 (by omega) h1]
  have e3 : a_nm g p e 3 = (a_l6 g p e 0 * 32 + a_l6 g p e 1) * 32 + a_l6 g p e 2 := by
    show m_or (m_shl (a_nm g p e 2) 5) (a_l6 g p e 2) = _
    rw [e2, m_or_32 (by omega) h2]
  have e4 : a_nm g p e 4 = ((a_l6 g p e 0 * 32 + a_l6 g p e 1) * 32 + a_l6 g p e 2) * 32 + a_l6 g p e 3 := by
    show m_or (m_shl (a_nm g p e 3) 5) (a_l6 g p e 3) = _
    rw [e3, m_or_32 (by omega) h3]
  have e5 : a_nm g p e 5 = (((a_l6 g p e 0 * 32 + a_l6 g p e 1) * 32 + a_l6 g p e 2) * 32 + a_l6 g p e 3) * 32 + a_l6 g p e 4 := by
    show m_or (m_shl (a_nm g p e 4) 5) (a_l6 g p e 4) = _
    rw [e4, m_or_32 (by omega) h4]
  show m_or (m_shl (a_nm g p e 5) 5) (a_l6 g p e 5) = _
  rw [e5, m_or_32 (by omega) h5]
  unfold a_p6
  omega
end TOK
