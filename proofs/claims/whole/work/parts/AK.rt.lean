/-! the class's reader: all lines; the tape -/
section RT
variable {en : Nat → Nat} {d : Nat} {T : Nat → Option (Nat × Nat)} {J J0 J1 J' : Nat → Nat → Int} {P : Nat → Nat → Option Nat} {L : Nat → Nat → Int64} {z w X A : Nat} {Q : m_Q} {fk fp p b k v x n lo hi a ln : Int} {f : Nat → Int} {y y' : a_Q}
theorem re_ok_up {k i : Nat} (hx0 : en 0 ≤ X) (h : re_ok en T J X) (hk : k ≤ 12) (hb : pl_bd k i v) (ht : k = 12 → 0 ≤ v ∧ v ≤ 16) (hwt : k = 6 → 0 ≤ v ∧ v ≤ 1000 + (i : Int)) (h5 : k = 0 → i = 5 → 0 ≤ v ∧ v ≤ 15) (h6 : k = 0 → i = 6 → 1 ≤ v ∧ v ≤ 6) (h4 : k = 0 → i = 4 → 0 ≤ v ∧ v ≤ 99999) : re_ok en T (m_up J (X + 3 + k) i v) X := by
  obtain ⟨g1, g2, g3, g4, g5, g6, g7, g8, g9⟩ := h
  have he2 := g4.1.2
  have e2 : m_up J (X + 3 + k) i v (X + 2) = J (X + 2) := funext (fun j => m_up_o (by omega))
  have e16 : m_up J (X + 3 + k) i v (X + 16) = J (X + 16) := funext (fun j => m_up_o (by omega))
  refine ⟨by rw [e2, m_up_o (by omega)]; exact g1, pl_ok_up g2 hk hb, by rw [e16]; exact g3, ⟨g4.1, fun j hj => by rw [m_up_o (by omega)]; exact g4.2 j hj⟩, fun j hj => ?_, fun j hj => ?_, ?_, ?_, ?_⟩
  · rw [m_up_at]
    by_cases q : X + 15 = X + 3 + k ∧ j = i
    · rw [if_pos q]; exact ht (by omega)
    · rw [if_neg q]; exact g5 j hj
  · rw [m_up_at]
    by_cases q : X + 9 = X + 3 + k ∧ j = i
    · rw [if_pos q, q.2]; exact hwt (by omega)
    · rw [if_neg q]; exact g6 j hj
  · rw [m_up_at]
    by_cases q : X + 3 = X + 3 + k ∧ 5 = i
    · rw [if_pos q]; exact h5 (by omega) (by omega)
    · rw [if_neg q]; exact g7
  · rw [m_up_at]
    by_cases q : X + 3 = X + 3 + k ∧ 6 = i
    · rw [if_pos q]; exact h6 (by omega) (by omega)
    · rw [if_neg q]; exact g8
  · rw [m_up_at]
    by_cases q : X + 3 = X + 3 + k ∧ 4 = i
    · rw [if_pos q]; exact h4 (by omega) (by omega)
    · rw [if_neg q]; exact g9
theorem re_ok_bk (hx0 : en 0 ≤ X) (h : re_ok en T J X) {r : Int} (hr : 0 ≤ r ∧ r ≤ 6) (hlo : 0 ≤ lo) : ∀ m : Nat, re_ok en T (rl_bk J X lo (lo + (m : Int)) r) X := by
  intro m
  induction m with
  | zero => rw [show lo + ((0 : Nat) : Int) = lo by omega, rl_bk_0]; exact h
  | succ m ih =>
    rw [show lo + ((m + 1 : Nat) : Int) = lo + (m : Int) + 1 by omega]
    by_cases q : r < J (X + 4) (lo + (m : Int)).toNat
    · rw [← rl_bk_s (m := (lo + (m : Int)).toNat) (by omega) (by omega) q]
      exact re_ok_up (k := 1) hx0 ih (by omega) (by unfold pl_bd; omega) (by omega) (by omega) (by omega) (by omega) (by omega)
    · rw [← rl_bk_n (m := (lo + (m : Int)).toNat) (by omega) q]
      exact ih
/-- a line keeps what holds -/
theorem rl_line_ok (hx0 : en 0 ≤ X) (h : re_ok en T J X) (hy : re_yb (J (X + 1) 6) y) (ha : 0 ≤ a) (hl : rl_line J X ln a y J' y') : re_ok en T J' X ∧ (∀ b i, b < X + 3 ∨ X + 15 ≤ b → J' b i = J b i) := by
  have h0 := h
  obtain ⟨g1, g2, g3, g4, g5, g6, g7, g8, g9⟩ := h0
  have k0 := g2.1
  have k1 := g2.2.1
  rcases hl with ⟨-, r, e, rfl⟩ | ⟨-, r, e, rfl⟩ | ⟨-, r, e, rfl⟩ | ⟨-, r, e, rfl⟩ | ⟨-, hb⟩ | ⟨-, hb⟩ | ⟨-, r1, r2, y1, e1, e2, rfl⟩ | ⟨-, hb⟩ | ⟨-, hb⟩ | ⟨-, hb⟩ | ⟨-, hb⟩ | ⟨-, r, e, rfl⟩
  · have b := re_nb_b (by omega) e
    exact ⟨re_ok_up (k := 0) hx0 h (by omega) (by unfold pl_bd; omega) (by omega) (by omega) (by omega) (by omega) (by omega), fun b i q => m_up_o (by omega)⟩
  · have b := re_nb_b (by omega) e
    exact ⟨re_ok_up (k := 0) hx0 h (by omega) (by unfold pl_bd; omega) (by omega) (by omega) (by omega) (by omega) (by omega), fun b i q => m_up_o (by omega)⟩
  · have b := re_nb_b (by omega) e
    exact ⟨re_ok_up (k := 0) hx0 h (by omega) (by unfold pl_bd; omega) (by omega) (by omega) (by omega) (by omega) (by omega), fun b i q => m_up_o (by omega)⟩
  · have b := re_nb_b (by omega) e
    exact ⟨re_ok_up (k := 0) hx0 h (by omega) (by unfold pl_bd; omega) (by omega) (by omega) (by omega) (by omega) (by omega), fun b i q => m_up_o (by omega)⟩
  · obtain ⟨r1, r2, r3, y1, y2, e1, e2, e3, rfl⟩ := hb
    have b1 := re_nb_b (by omega) e1
    have b2 := re_nb_b (by omega) e2
    have b3 := re_nb_b (by omega) e3
    have := re_ok_bk (r := r3) (lo := r1) hx0 h (by omega) (by omega) (r2 + 1 - r1).toNat
    rw [show r1 + ((r2 + 1 - r1).toNat : Int) = r2 + 1 by omega] at this
    refine ⟨this, fun b i q => ?_⟩
    unfold rl_bk
    rw [if_neg (fun e => by omega)]
  · obtain ⟨r1, r2, y1, y2, y3, e1, e2, e3, e4, rfl⟩ := hb
    have b1 := re_nb_b (by omega) e3
    have b2 := re_nb_b (by omega) e4
    have hv : m_in y2.2.2.2.2.2 := by
      have hb1 := re_nt_b g1 hy
      rw [← e1] at hb1
      have : re_yb (J (X + 1) 6) y2 := by
        rw [e2]
        split
        · exact re_rf_b hb1 (by omega)
        · split
          · exact re_rf_b hb1 (by omega)
          · exact hb1
      exact this.2.2.2.2.1
    unfold m_in at hv
    by_cases q : a < 6
    · rw [if_pos q]
      exact ⟨re_ok_up (k := 5) hx0 (re_ok_up (k := 4) hx0 (re_ok_up (k := 3) hx0 h (by omega) (by unfold pl_bd; omega) (by omega) (by omega) (by omega) (by omega) (by omega)) (by omega) (by unfold pl_bd; omega) (by omega) (by omega) (by omega) (by omega) (by omega)) (by omega) (by unfold pl_bd; omega) (by omega) (by omega) (by omega) (by omega) (by omega), fun b i q => by rw [m_up_o (by omega), m_up_o (by omega), m_up_o (by omega)]⟩
    · rw [if_neg q]; exact ⟨h, fun _ _ _ => rfl⟩
  · have b1 := re_nb_b (by omega) e1
    have b2 := re_nb_b (by omega) e2
    exact ⟨re_ok_up (k := 0) hx0 (re_ok_up (k := 0) hx0 h (by omega) (by unfold pl_bd; omega) (by omega) (by omega) (by omega) (by omega) (by omega)) (by omega) (by unfold pl_bd; omega) (by omega) (by omega) (by omega) (by omega) (by omega), fun b i q => by rw [m_up_o (by omega), m_up_o (by omega)]⟩
  · obtain ⟨r1, r2, y1, e1, e2, rfl⟩ := hb
    have b1 := re_nb_f e1
    have b2 : -4 ≤ r2 ∧ r2 ≤ 4 := by
      unfold re_sn at e2
      split at e2
      · cases e2; omega
      · split at e2
        · cases e2; omega
        · unfold re_wi at e2
          split at e2
          · cases e2; omega
          · cases e2; omega
    by_cases q : a < 8
    · rw [if_pos q]
      have b3 : 0 ≤ r1 ∧ r1 ≤ 1000 + (a.toNat : Int) := by
        by_cases q2 : 0 < a ∧ a ≤ 8
        · rw [if_pos q2] at b1
          have := g6 (a - 1).toNat (by omega)
          omega
        · rw [if_neg q2] at b1
          omega
      exact ⟨re_ok_up (k := 7) hx0 (re_ok_up (k := 6) hx0 h (by omega) (by unfold pl_bd; omega) (by omega) (by omega) (by omega) (by omega) (by omega)) (by omega) (by unfold pl_bd; omega) (by omega) (by omega) (by omega) (by omega) (by omega), fun b i q => by rw [m_up_o (by omega), m_up_o (by omega)]⟩
    · rw [if_neg q]; exact ⟨h, fun _ _ _ => rfl⟩
  · obtain ⟨r, y1, y2, e1, e2, e3, rfl⟩ := hb
    have b1 := re_nb_b (by omega) e3
    have b2 := re_wn_b (W := J (X + 16)) (y := y1)
    by_cases q : a < 16
    · rw [if_pos q]
      exact ⟨re_ok_up (k := 9) hx0 (re_ok_up (k := 8) hx0 h (by omega) (by unfold pl_bd; omega) (by omega) (by omega) (by omega) (by omega) (by omega)) (by omega) (by unfold pl_bd; omega) (by omega) (by omega) (by omega) (by omega) (by omega), fun b i q => by rw [m_up_o (by omega), m_up_o (by omega)]⟩
    · rw [if_neg q]; exact ⟨h, fun _ _ _ => rfl⟩
  · obtain ⟨r1, r2, y1, y2, e1, e2, e3, rfl⟩ := hb
    have b1 := re_nb_b (by omega) e1
    have b2 := re_nb_b (by omega) e3
    exact ⟨re_ok_up (k := 2) hx0 h (by omega) (by unfold pl_bd; omega) (by omega) (by omega) (by omega) (by omega) (by omega), fun b i q => m_up_o (by omega)⟩
  · obtain ⟨r1, r2, y1, y2, e1, e2, e3, rfl⟩ := hb
    have b1 := re_nb_b (by omega) e1
    have b2 := re_nb_b (by omega) e2
    by_cases q : a < 3
    · rw [if_pos q]
      exact ⟨re_ok_up (k := 11) hx0 (re_ok_up (k := 10) hx0 h (by omega) (by unfold pl_bd; omega) (by omega) (by omega) (by omega) (by omega) (by omega)) (by omega) (by unfold pl_bd; omega) (by omega) (by omega) (by omega) (by omega) (by omega), fun b i q => by rw [m_up_o (by omega), m_up_o (by omega)]⟩
    · rw [if_neg q]; exact ⟨h, fun _ _ _ => rfl⟩
  · have b := re_nb_b (by omega) e
    exact ⟨re_ok_up (k := 0) hx0 h (by omega) (by unfold pl_bd; omega) (by omega) (by omega) (by omega) (by omega) (by omega), fun b i q => m_up_o (by omega)⟩
end RT
