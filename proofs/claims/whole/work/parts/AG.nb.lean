/-! the class's reader: numbers, words, what may stand -/
section NBR
variable {en : Nat → Nat} {d : Nat} {T : Nat → Option (Nat × Nat)} {J J0 J1 : Nat → Nat → Int} {P : Nat → Nat → Option Nat} {L : Nat → Nat → Int64} {z w X : Nat} {Q : m_Q} {fk fp p b k v x n lo hi : Int} {f : Nat → Int} {y : a_Q}
theorem re_rf_0 (hx : 1 ≤ x ∧ x ≤ 3) : (re_rf x y).1 ≠ 0 := by
  unfold re_rf
  split
  · show x ≠ 0
    omega
  · next q => exact q
theorem c_rf (hX : cl_sh en X T P) (hy : re_yb n y) (hx : 1 ≤ x ∧ x ≤ 3) (hq : ∀ y', y' = re_rf x y → re_yb n y' → y'.1 ≠ 0 → Q none (T, m_I (re_q J X y'.1 y'.2.1 y'.2.2.1 y'.2.2.2.1 y'.2.2.2.2.1 y'.2.2.2.2.2), P, L, z, w)) : m_call en (d + 1) mRe_refuse [.ref (X + 1), .int (m_i x)] (T, m_I (re_q J X y.1 y.2.1 y.2.2.1 y.2.2.2.1 y.2.2.2.2.1 y.2.2.2.2.2), P, L, z, w) Q := by
  refine c_Re_refuse hX hy.1 ?_
  have h9 := hq _ rfl (re_rf_b hy hx) (re_rf_0 hx)
  unfold re_rf at h9
  by_cases q : y.1 = 0
  · rw [if_pos q] at h9
    rw [if_pos q, if_pos q]
    exact h9
  · rw [if_neg q] at h9
    rw [if_neg q, if_neg q]
    exact h9
theorem c_Re_within (hX : cl_sh en X T P) (hy : re_yb n y) (hlo : -10000000 ≤ lo ∧ lo ≤ 10000000) (hhi : -10000000 ≤ hi ∧ hi ≤ 10000000) (hq : ∀ y' r, (r, y') = re_wi lo hi y → re_yb n y' → Q (some (.int (m_i r))) (T, m_I (re_q J X y'.1 y'.2.1 y'.2.2.1 y'.2.2.2.1 y'.2.2.2.2.1 y'.2.2.2.2.2), P, L, z, w)) : m_call en (d + 2) mRe_within [.ref (X + 1), .int (m_i lo), .int (m_i hi)] (T, m_I (re_q J X y.1 y.2.1 y.2.2.1 y.2.2.2.1 y.2.2.2.2.1 y.2.2.2.2.2), P, L, z, w) Q := by
  have h5 := hy.2.2.2.2.1
  unfold m_in at h5
  unfold re_wi at hq
  refine m_into (by decide) (Nat.le_of_ble_eq_true rfl) rfl ?_
  show m_wp en _ mRe_within 0 [some (.ref (X + 1)), some (.int (m_i (lo))), some (.int (m_i (hi)))] [] (T, m_I ((re_q J X y.1 y.2.1 y.2.2.1 y.2.2.2.1 y.2.2.2.2.1 y.2.2.2.2.2)), P, L, z, w) Q
  refine r_aln eRe_within_0 rfl ?_
  refine r_gete (x := y.2.2.2.2.2) eRe_within_1 rfl (by decide) (cl_t hX (i := 1) rfl) (by rw [re_q_10]) ?_
  refine r_iln eRe_within_4 rfl ?_
  refine r_clt (tgt := 16) eRe_within_5 rfl ⟨(by omega), (by omega)⟩ ⟨(by omega), (by omega)⟩ (fun c5 => ?_) (fun c5 => ?_)
  · refine r_aln eRe_within_16 rfl ?_
    refine r_con eRe_within_17 ?_
    refine r_vir eRe_within_18 rfl rfl rfl (cl_t hX (i := 1) rfl) rfl rfl ?_
    refine c_rf hX hy (by omega) (fun y2 e2 h2 h3 => ?_)
    show m_wp en _ mRe_within 21 [some (.ref (X + 1)), some (.int (m_i (lo))), some (.int (m_i (hi)))] [] (T, m_I (((re_q J X y2.1 y2.2.1 y2.2.2.1 y2.2.2.2.1 y2.2.2.2.2.1 y2.2.2.2.2.2))), P, L, z, w) Q
    refine r_iln eRe_within_21 rfl ?_
    refine r_iret eRe_within_22 rfl ?_
    exact hq y2 lo (by rw [if_pos (by omega), e2]) h2
  · refine r_aln eRe_within_8 rfl ?_
    refine r_gete (x := y.2.2.2.2.2) eRe_within_9 rfl (by decide) (cl_t hX (i := 1) rfl) (by rw [re_q_10]) ?_
    refine r_iln eRe_within_12 rfl ?_
    refine r_cle (tgt := 23) eRe_within_13 rfl ⟨(by omega), (by omega)⟩ ⟨(by omega), (by omega)⟩ (fun c13 => ?_) (fun c13 => ?_)
    · refine r_aln eRe_within_23 rfl ?_
      refine r_gete (x := y.2.2.2.2.2) eRe_within_24 rfl (by decide) (cl_t hX (i := 1) rfl) (by rw [re_q_10]) ?_
      refine r_iret eRe_within_27 rfl ?_
      exact hq y _ (by rw [if_neg (by omega)]) hy
    · refine r_aln eRe_within_16 rfl ?_
      refine r_con eRe_within_17 ?_
      refine r_vir eRe_within_18 rfl rfl rfl (cl_t hX (i := 1) rfl) rfl rfl ?_
      refine c_rf hX hy (by omega) (fun y2 e2 h2 h3 => ?_)
      show m_wp en _ mRe_within 21 [some (.ref (X + 1)), some (.int (m_i (lo))), some (.int (m_i (hi)))] [] (T, m_I (((re_q J X y2.1 y2.2.1 y2.2.2.1 y2.2.2.2.1 y2.2.2.2.2.1 y2.2.2.2.2.2))), P, L, z, w) Q
      refine r_iln eRe_within_21 rfl ?_
      refine r_iret eRe_within_22 rfl ?_
      exact hq y2 lo (by rw [if_pos (by omega), e2]) h2
theorem re_wi_b (hy : re_yb n y) (hlh : lo ≤ hi) {r : Int} {y' : a_Q} (h : (r, y') = re_wi lo hi y) : lo ≤ r ∧ r ≤ hi := by
  unfold re_wi at h
  split at h
  · cases h; omega
  · cases h; omega
theorem re_nb_b (hlh : lo ≤ hi) {r : Int} {y' : a_Q} (h : (r, y') = re_nb f n lo hi y) : lo ≤ r ∧ r ≤ hi := by
  unfold re_nb at h
  split at h
  · cases h; omega
  · split at h
    · cases h; omega
    · unfold re_wi at h
      split at h
      · cases h; omega
      · cases h; omega
/-- a number in its bounds unless there is a fault -/
theorem re_nb_f {r : Int} {y' : a_Q} (h : (r, y') = re_nb f n lo hi y) : r = lo ∨ (lo ≤ r ∧ r ≤ hi) := by
  unfold re_nb at h
  split at h
  · cases h; exact Or.inl rfl
  · split at h
    · cases h; exact Or.inl rfl
    · unfold re_wi at h
      split at h
      · cases h; exact Or.inl rfl
      · cases h; exact Or.inr ⟨by omega, by omega⟩
theorem c_Re_number (hX : cl_sh en X T P) (hf : re_tb (J (X + 2)) (J (X + 1) 6)) (hy : re_yb (J (X + 1) 6) y) (hlo : -10000000 ≤ lo ∧ lo ≤ 10000000) (hhi : -10000000 ≤ hi ∧ hi ≤ 10000000) (hq : ∀ y' r, (r, y') = re_nb (J (X + 2)) (J (X + 1) 6) lo hi y → re_yb (J (X + 1) 6) y' → (r = lo ∨ (lo ≤ r ∧ r ≤ hi)) → Q (some (.int (m_i r))) (T, m_I (re_q J X y'.1 y'.2.1 y'.2.2.1 y'.2.2.2.1 y'.2.2.2.2.1 y'.2.2.2.2.2), P, L, z, w)) : m_call en (d + 4) mRe_number [.ref (X + 1), .int (m_i lo), .int (m_i hi)] (T, m_I (re_q J X y.1 y.2.1 y.2.2.1 y.2.2.2.1 y.2.2.2.2.1 y.2.2.2.2.2), P, L, z, w) Q := by
  have h1 := hy.1
  refine m_into (by decide) (Nat.le_of_ble_eq_true rfl) rfl ?_
  show m_wp en _ mRe_number 0 [some (.ref (X + 1)), some (.int (m_i (lo))), some (.int (m_i (hi)))] [] (T, m_I ((re_q J X y.1 y.2.1 y.2.2.1 y.2.2.2.1 y.2.2.2.2.1 y.2.2.2.2.2)), P, L, z, w) Q
  refine r_aln eRe_number_0 rfl ?_
  refine r_gete (x := y.1) eRe_number_1 rfl (by decide) (cl_t hX (i := 1) rfl) (by rw [re_q_3]) ?_
  refine r_zeq (tgt := 9) eRe_number_4 rfl ⟨(by omega), (by omega)⟩ (fun c4 => ?_) (fun c4 => ?_)
  · refine r_aln eRe_number_9 rfl ?_
    refine r_vir eRe_number_10 rfl rfl rfl (cl_t hX (i := 1) rfl) rfl rfl ?_
    refine c_Re_nextToken hX hf hy (fun y2 e2 h2 => ?_)
    have b2 := h2.2.2.2.1
    show m_wp en _ mRe_number 13 [some (.ref (X + 1)), some (.int (m_i (lo))), some (.int (m_i (hi)))] [] (T, m_I (((re_q J X y2.1 y2.2.1 y2.2.2.1 y2.2.2.2.1 y2.2.2.2.2.1 y2.2.2.2.2.2))), P, L, z, w) Q
    refine r_aln eRe_number_13 rfl ?_
    refine r_gete (x := y2.2.2.2.2.1) eRe_number_14 rfl (by decide) (cl_t hX (i := 1) rfl) (by rw [re_q_9]) ?_
    refine r_con eRe_number_17 ?_
    refine r_ceq (tgt := 28) eRe_number_18 rfl ⟨(by omega), (by omega)⟩ ⟨(by omega), (by omega)⟩ (fun c18 => ?_) (fun c18 => ?_)
    · refine r_aln eRe_number_28 rfl ?_
      refine r_iln eRe_number_29 rfl ?_
      refine r_iln eRe_number_30 rfl ?_
      refine r_vir eRe_number_31 rfl rfl rfl (cl_t hX (i := 1) rfl) rfl rfl ?_
      refine c_Re_within hX h2 hlo hhi (fun y3 r e3 h3 => ?_)
      show m_wp en _ mRe_number 34 [some (.ref (X + 1)), some (.int (m_i (lo))), some (.int (m_i (hi)))] [(.int (m_i (r)))] (T, m_I (((re_q J X y3.1 y3.2.1 y3.2.2.1 y3.2.2.2.1 y3.2.2.2.2.1 y3.2.2.2.2.2))), P, L, z, w) Q
      refine r_iret eRe_number_34 rfl ?_
      have e9 : (r, y3) = re_nb (J (X + 2)) (J (X + 1) 6) lo hi y := by unfold re_nb; rw [if_neg (by omega), ← e2, if_neg (by omega)]; exact e3
      exact hq y3 r e9 h3 (re_nb_f e9)
    · refine r_aln eRe_number_21 rfl ?_
      refine r_con eRe_number_22 ?_
      refine r_vir eRe_number_23 rfl rfl rfl (cl_t hX (i := 1) rfl) rfl rfl ?_
      refine c_rf hX h2 (by omega) (fun y3 e3 h3 h4 => ?_)
      show m_wp en _ mRe_number 26 [some (.ref (X + 1)), some (.int (m_i (lo))), some (.int (m_i (hi)))] [] (T, m_I (((re_q J X y3.1 y3.2.1 y3.2.2.1 y3.2.2.2.1 y3.2.2.2.2.1 y3.2.2.2.2.2))), P, L, z, w) Q
      refine r_iln eRe_number_26 rfl ?_
      refine r_iret eRe_number_27 rfl ?_
      exact hq y3 lo (by unfold re_nb; rw [if_neg (by omega), ← e2, if_pos (by omega), e3]) h3 (Or.inl rfl)
  · refine r_iln eRe_number_7 rfl ?_
    refine r_iret eRe_number_8 rfl ?_
    exact hq y lo (by unfold re_nb; rw [if_pos (by omega)]) hy (Or.inl rfl)
theorem c_Re_signedNumber (hX : cl_sh en X T P) (hf : re_tb (J (X + 2)) (J (X + 1) 6)) (hy : re_yb (J (X + 1) 6) y) (hq : ∀ y' r, (r, y') = re_sn (J (X + 2)) (J (X + 1) 6) y → re_yb (J (X + 1) 6) y' → (-4 ≤ r ∧ r ≤ 4) → Q (some (.int (m_i r))) (T, m_I (re_q J X y'.1 y'.2.1 y'.2.2.1 y'.2.2.2.1 y'.2.2.2.2.1 y'.2.2.2.2.2), P, L, z, w)) : m_call en (d + 4) mRe_signedNumber [.ref (X + 1)] (T, m_I (re_q J X y.1 y.2.1 y.2.2.1 y.2.2.2.1 y.2.2.2.2.1 y.2.2.2.2.2), P, L, z, w) Q := by
  have h1 := hy.1
  refine m_into (by decide) (Nat.le_of_ble_eq_true rfl) rfl ?_
  show m_wp en _ mRe_signedNumber 0 [some (.ref (X + 1))] [] (T, m_I ((re_q J X y.1 y.2.1 y.2.2.1 y.2.2.2.1 y.2.2.2.2.1 y.2.2.2.2.2)), P, L, z, w) Q
  refine r_aln eRe_signedNumber_0 rfl ?_
  refine r_gete (x := y.1) eRe_signedNumber_1 rfl (by decide) (cl_t hX (i := 1) rfl) (by rw [re_q_3]) ?_
  refine r_zeq (tgt := 9) eRe_signedNumber_4 rfl ⟨(by omega), (by omega)⟩ (fun c4 => ?_) (fun c4 => ?_)
  · refine r_aln eRe_signedNumber_9 rfl ?_
    refine r_vir eRe_signedNumber_10 rfl rfl rfl (cl_t hX (i := 1) rfl) rfl rfl ?_
    refine c_Re_nextToken hX hf hy (fun y2 e2 h2 => ?_)
    have b2 := h2.2.2.2.1
    show m_wp en _ mRe_signedNumber 13 [some (.ref (X + 1))] [] (T, m_I (((re_q J X y2.1 y2.2.1 y2.2.2.1 y2.2.2.2.1 y2.2.2.2.2.1 y2.2.2.2.2.2))), P, L, z, w) Q
    refine r_aln eRe_signedNumber_13 rfl ?_
    refine r_gete (x := y2.2.2.2.2.1) eRe_signedNumber_14 rfl (by decide) (cl_t hX (i := 1) rfl) (by rw [re_q_9]) ?_
    refine r_con eRe_signedNumber_17 ?_
    refine r_ceq (tgt := 36) eRe_signedNumber_18 rfl ⟨(by omega), (by omega)⟩ ⟨(by omega), (by omega)⟩ (fun c18 => ?_) (fun c18 => ?_)
    · refine r_aln eRe_signedNumber_36 rfl ?_
      refine r_bip eRe_signedNumber_37 (by decide) ?_
      refine r_con eRe_signedNumber_39 ?_
      refine r_vir eRe_signedNumber_40 rfl rfl rfl (cl_t hX (i := 1) rfl) rfl rfl ?_
      refine c_Re_within hX h2 (by omega) (by omega) (fun y3 r e3 h3 => ?_)
      show m_wp en _ mRe_signedNumber 43 [some (.ref (X + 1))] [(.int (m_i (r)))] (T, m_I (((re_q J X y3.1 y3.2.1 y3.2.2.1 y3.2.2.2.1 y3.2.2.2.2.1 y3.2.2.2.2.2))), P, L, z, w) Q
      refine r_iret eRe_signedNumber_43 rfl ?_
      exact hq y3 r (by unfold re_sn; rw [if_neg (by omega), ← e2, if_neg (by omega)]; exact e3) h3 (re_wi_b h2 (by omega) e3)
    · refine r_aln eRe_signedNumber_21 rfl ?_
      refine r_gete (x := y2.2.2.2.2.1) eRe_signedNumber_22 rfl (by decide) (cl_t hX (i := 1) rfl) (by rw [re_q_9]) ?_
      refine r_con eRe_signedNumber_25 ?_
      refine r_ceq (tgt := 36) eRe_signedNumber_26 rfl ⟨(by omega), (by omega)⟩ ⟨(by omega), (by omega)⟩ (fun c26 => ?_) (fun c26 => ?_)
      · refine r_aln eRe_signedNumber_36 rfl ?_
        refine r_bip eRe_signedNumber_37 (by decide) ?_
        refine r_con eRe_signedNumber_39 ?_
        refine r_vir eRe_signedNumber_40 rfl rfl rfl (cl_t hX (i := 1) rfl) rfl rfl ?_
        refine c_Re_within hX h2 (by omega) (by omega) (fun y3 r e3 h3 => ?_)
        show m_wp en _ mRe_signedNumber 43 [some (.ref (X + 1))] [(.int (m_i (r)))] (T, m_I (((re_q J X y3.1 y3.2.1 y3.2.2.1 y3.2.2.2.1 y3.2.2.2.2.1 y3.2.2.2.2.2))), P, L, z, w) Q
        refine r_iret eRe_signedNumber_43 rfl ?_
        exact hq y3 r (by unfold re_sn; rw [if_neg (by omega), ← e2, if_neg (by omega)]; exact e3) h3 (re_wi_b h2 (by omega) e3)
      · refine r_aln eRe_signedNumber_29 rfl ?_
        refine r_con eRe_signedNumber_30 ?_
        refine r_vir eRe_signedNumber_31 rfl rfl rfl (cl_t hX (i := 1) rfl) rfl rfl ?_
        refine c_rf hX h2 (by omega) (fun y3 e3 h3 h4 => ?_)
        show m_wp en _ mRe_signedNumber 34 [some (.ref (X + 1))] [] (T, m_I (((re_q J X y3.1 y3.2.1 y3.2.2.1 y3.2.2.2.1 y3.2.2.2.2.1 y3.2.2.2.2.2))), P, L, z, w) Q
        refine r_con eRe_signedNumber_34 ?_
        refine r_iret eRe_signedNumber_35 rfl ?_
        exact hq y3 0 (by unfold re_sn; rw [if_neg (by omega), ← e2, if_pos (by omega), e3]) h3 (by omega)
  · refine r_con eRe_signedNumber_7 ?_
    refine r_iret eRe_signedNumber_8 rfl ?_
    exact hq y 0 (by unfold re_sn; rw [if_pos (by omega)]) hy (by omega)
theorem c_Re_needSemicolon (hX : cl_sh en X T P) (hf : re_tb (J (X + 2)) (J (X + 1) 6)) (hy : re_yb (J (X + 1) 6) y) (hq : ∀ y', y' = re_ns (J (X + 2)) (J (X + 1) 6) y → re_yb (J (X + 1) 6) y' → Q none (T, m_I (re_q J X y'.1 y'.2.1 y'.2.2.1 y'.2.2.2.1 y'.2.2.2.2.1 y'.2.2.2.2.2), P, L, z, w)) : m_call en (d + 4) mRe_needSemicolon [.ref (X + 1)] (T, m_I (re_q J X y.1 y.2.1 y.2.2.1 y.2.2.2.1 y.2.2.2.2.1 y.2.2.2.2.2), P, L, z, w) Q := by
  have h1 := hy.1
  refine m_into (by decide) (Nat.le_of_ble_eq_true rfl) rfl ?_
  show m_wp en _ mRe_needSemicolon 0 [some (.ref (X + 1))] [] (T, m_I ((re_q J X y.1 y.2.1 y.2.2.1 y.2.2.2.1 y.2.2.2.2.1 y.2.2.2.2.2)), P, L, z, w) Q
  refine r_aln eRe_needSemicolon_0 rfl ?_
  refine r_gete (x := y.1) eRe_needSemicolon_1 rfl (by decide) (cl_t hX (i := 1) rfl) (by rw [re_q_3]) ?_
  refine r_zne (tgt := 24) eRe_needSemicolon_4 rfl ⟨(by omega), (by omega)⟩ (fun c4 => ?_) (fun c4 => ?_)
  · refine r_ret eRe_needSemicolon_24 rfl ?_
    first | exact hq y (by unfold re_ns; rw [if_pos (by omega)]) hy | exact hq y3 (by unfold re_ns; rw [if_neg (by omega), ← e2, if_pos (by omega), e3]) h3 | exact hq y2 (by unfold re_ns; rw [if_neg (by omega), ← e2, if_neg (by omega)]) h2
  · refine r_aln eRe_needSemicolon_7 rfl ?_
    refine r_vir eRe_needSemicolon_8 rfl rfl rfl (cl_t hX (i := 1) rfl) rfl rfl ?_
    refine c_Re_nextToken hX hf hy (fun y2 e2 h2 => ?_)
    have b2 := h2.2.2.2.1
    show m_wp en _ mRe_needSemicolon 11 [some (.ref (X + 1))] [] (T, m_I (((re_q J X y2.1 y2.2.1 y2.2.2.1 y2.2.2.2.1 y2.2.2.2.2.1 y2.2.2.2.2.2))), P, L, z, w) Q
    refine r_aln eRe_needSemicolon_11 rfl ?_
    refine r_gete (x := y2.2.2.2.2.1) eRe_needSemicolon_12 rfl (by decide) (cl_t hX (i := 1) rfl) (by rw [re_q_9]) ?_
    refine r_con eRe_needSemicolon_15 ?_
    refine r_ceq (tgt := 24) eRe_needSemicolon_16 rfl ⟨(by omega), (by omega)⟩ ⟨(by omega), (by omega)⟩ (fun c16 => ?_) (fun c16 => ?_)
    · refine r_ret eRe_needSemicolon_24 rfl ?_
      first | exact hq y (by unfold re_ns; rw [if_pos (by omega)]) hy | exact hq y3 (by unfold re_ns; rw [if_neg (by omega), ← e2, if_pos (by omega), e3]) h3 | exact hq y2 (by unfold re_ns; rw [if_neg (by omega), ← e2, if_neg (by omega)]) h2
    · refine r_aln eRe_needSemicolon_19 rfl ?_
      refine r_con eRe_needSemicolon_20 ?_
      refine r_vir eRe_needSemicolon_21 rfl rfl rfl (cl_t hX (i := 1) rfl) rfl rfl ?_
      refine c_rf hX h2 (by omega) (fun y3 e3 h3 h4 => ?_)
      show m_wp en _ mRe_needSemicolon 24 [some (.ref (X + 1))] [] (T, m_I (((re_q J X y3.1 y3.2.1 y3.2.2.1 y3.2.2.2.1 y3.2.2.2.2.1 y3.2.2.2.2.2))), P, L, z, w) Q
      refine r_ret eRe_needSemicolon_24 rfl ?_
      first | exact hq y (by unfold re_ns; rw [if_pos (by omega)]) hy | exact hq y3 (by unfold re_ns; rw [if_neg (by omega), ← e2, if_pos (by omega), e3]) h3 | exact hq y2 (by unfold re_ns; rw [if_neg (by omega), ← e2, if_neg (by omega)]) h2
/-- the words as they are packed -/
def re_Wb (W : Nat → Int) : Prop := ∀ i : Nat, i < 18 → m_in (W i)
theorem l_Re_wordNumber (hX : cl_sh en X T P) (hW : re_Wb (J (X + 16))) (hv : m_in v) : ∀ (m i : Nat), i + m = 18 → Q (some (.int (m_i (a_find (J (X + 16)) v 0 m i)))) (T, m_I (re_q J X fk fp p b 1 v), P, L, z, w) → m_wp en d mRe_wordNumber 2 [some (.ref (X + 1)), some (.int (m_i (i : Int)))] [] (T, m_I (re_q J X fk fp p b 1 v), P, L, z, w) Q := by
  unfold m_in at hv
  intro m
  induction m with
  | zero =>
    intro i hi hq
    unfold a_find at hq
    refine r_aln eRe_wordNumber_2 rfl ?_
    refine r_gete (x := 1) eRe_wordNumber_3 rfl (by decide) (cl_t hX (i := 1) rfl) (by rw [re_q_9]) ?_
    refine r_con eRe_wordNumber_6 ?_
    refine r_cne (tgt := 40) eRe_wordNumber_7 rfl ⟨(by omega), (by omega)⟩ ⟨(by omega), (by omega)⟩ (fun c7 => ?_) (fun c7 => ?_)
    · exfalso; omega
    · refine r_iln eRe_wordNumber_10 rfl ?_
      refine r_aln eRe_wordNumber_11 rfl ?_
      refine m_getR eRe_wordNumber_12 rfl (cl_t hX (i := 1) rfl) (cl_p hX (i := 13) rfl) ?_
      refine r_alen eRe_wordNumber_15 (cl_t hX (i := 16) rfl) (by decide) ?_
      refine r_cge (tgt := 40) eRe_wordNumber_16 rfl ⟨(by omega), (by omega)⟩ ⟨(by omega), (by omega)⟩ (fun c16 => ?_) (fun c16 => ?_)
      · refine r_con eRe_wordNumber_40 ?_
        refine r_iret eRe_wordNumber_41 rfl ?_
        exact hq
      · exfalso; omega
  | succ m ih =>
    intro i hi hq
    have hw := hW i (by omega)
    unfold m_in at hw
    have e : ((i : Int)).toNat = i := Int.toNat_natCast i
    unfold a_find at hq
    rw [Nat.zero_add] at hq
    have hi2 := ih (i + 1) (by omega)
    rw [show ((i + 1 : Nat) : Int) = (i : Int) + 1 by omega] at hi2
    refine r_aln eRe_wordNumber_2 rfl ?_
    refine r_gete (x := 1) eRe_wordNumber_3 rfl (by decide) (cl_t hX (i := 1) rfl) (by rw [re_q_9]) ?_
    refine r_con eRe_wordNumber_6 ?_
    refine r_cne (tgt := 40) eRe_wordNumber_7 rfl ⟨(by omega), (by omega)⟩ ⟨(by omega), (by omega)⟩ (fun c7 => ?_) (fun c7 => ?_)
    · exfalso; omega
    · refine r_iln eRe_wordNumber_10 rfl ?_
      refine r_aln eRe_wordNumber_11 rfl ?_
      refine m_getR eRe_wordNumber_12 rfl (cl_t hX (i := 1) rfl) (cl_p hX (i := 13) rfl) ?_
      refine r_alen eRe_wordNumber_15 (cl_t hX (i := 16) rfl) (by decide) ?_
      refine r_cge (tgt := 40) eRe_wordNumber_16 rfl ⟨(by omega), (by omega)⟩ ⟨(by omega), (by omega)⟩ (fun c16 => ?_) (fun c16 => ?_)
      · refine r_con eRe_wordNumber_40 ?_
        refine r_iret eRe_wordNumber_41 rfl ?_
        exfalso; omega
      · refine r_aln eRe_wordNumber_19 rfl ?_
        refine m_getR eRe_wordNumber_20 rfl (cl_t hX (i := 1) rfl) (cl_p hX (i := 13) rfl) ?_
        refine r_iln eRe_wordNumber_23 rfl ?_
        refine r_ialde (x := J (X + 16) (((i : Int)).toNat)) eRe_wordNumber_24 (cl_t hX (i := 16) rfl) (by decide) (by omega) (by omega) (by rw [re_q_o (by omega)]) ?_
        rw [e]
        refine r_aln eRe_wordNumber_25 rfl ?_
        refine r_gete (x := v) eRe_wordNumber_26 rfl (by decide) (cl_t hX (i := 1) rfl) (by rw [re_q_10]) ?_
        refine r_cne (tgt := 34) eRe_wordNumber_29 rfl ⟨(by omega), (by omega)⟩ ⟨(by omega), (by omega)⟩ (fun c29 => ?_) (fun c29 => ?_)
        · refine r_inc (ls' := [some (.ref (X + 1)), some (.int (m_i ((i : Int) + 1)))]) eRe_wordNumber_34 rfl rfl ?_
          refine r_go (tgt := 2) eRe_wordNumber_37 rfl ?_
          rw [if_neg (by omega)] at hq
          exact hi2 hq
        · refine r_iln eRe_wordNumber_32 rfl ?_
          refine r_iret eRe_wordNumber_33 rfl ?_
          rw [if_pos (by omega)] at hq
          exact hq
theorem a_find_b {g : Nat → Int} {o : Nat} : ∀ (n k : Nat), -1 ≤ a_find g v o n k ∧ a_find g v o n k < (n : Int) + k := by
  intro n
  induction n with
  | zero => intro k; unfold a_find; omega
  | succ n ih =>
    intro k
    unfold a_find
    split
    · omega
    · have := ih (k + 1)
      omega
theorem re_wn_b {W : Nat → Int} : -1 ≤ re_wn W y ∧ re_wn W y < 18 := by
  unfold re_wn
  split
  · have := a_find_b (g := W) (v := y.2.2.2.2.2) (o := 0) 18 0
    omega
  · omega
theorem c_Re_wordNumber (hX : cl_sh en X T P) (hW : re_Wb (J (X + 16))) (hy : re_yb n y) (hq : Q (some (.int (m_i (re_wn (J (X + 16)) y)))) (T, m_I (re_q J X y.1 y.2.1 y.2.2.1 y.2.2.2.1 y.2.2.2.2.1 y.2.2.2.2.2), P, L, z, w)) : m_call en (d + 1) mRe_wordNumber [.ref (X + 1)] (T, m_I (re_q J X y.1 y.2.1 y.2.2.1 y.2.2.2.1 y.2.2.2.2.1 y.2.2.2.2.2), P, L, z, w) Q := by
  have h4 := hy.2.2.2.1
  unfold re_wn at hq
  by_cases q : y.2.2.2.2.1 = 1
  · rw [if_pos q] at hq
    rw [q] at hq ⊢
    have h2 := l_Re_wordNumber (d := d) hX hW hy.2.2.2.2.1 18 0 (by omega) hq
    refine m_into (by decide) (Nat.le_of_ble_eq_true rfl) rfl ?_
    show m_wp en _ mRe_wordNumber 0 [some (.ref (X + 1)), none] [] (T, m_I ((re_q J X y.1 y.2.1 y.2.2.1 y.2.2.2.1 1 y.2.2.2.2.2)), P, L, z, w) Q
    refine r_con eRe_wordNumber_0 ?_
    refine r_isn (ls' := [some (.ref (X + 1)), some (.int (m_i (0)))]) eRe_wordNumber_1 (Nat.le_of_ble_eq_true rfl) rfl ?_
    exact h2
  · rw [if_neg q] at hq
    refine m_into (by decide) (Nat.le_of_ble_eq_true rfl) rfl ?_
    show m_wp en _ mRe_wordNumber 0 [some (.ref (X + 1)), none] [] (T, m_I ((re_q J X y.1 y.2.1 y.2.2.1 y.2.2.2.1 y.2.2.2.2.1 y.2.2.2.2.2)), P, L, z, w) Q
    refine r_con eRe_wordNumber_0 ?_
    refine r_isn (ls' := [some (.ref (X + 1)), some (.int (m_i (0)))]) eRe_wordNumber_1 (Nat.le_of_ble_eq_true rfl) rfl ?_
    refine r_aln eRe_wordNumber_2 rfl ?_
    refine r_gete (x := y.2.2.2.2.1) eRe_wordNumber_3 rfl (by decide) (cl_t hX (i := 1) rfl) (by rw [re_q_9]) ?_
    refine r_con eRe_wordNumber_6 ?_
    refine r_cne (tgt := 40) eRe_wordNumber_7 rfl ⟨(by omega), (by omega)⟩ ⟨(by omega), (by omega)⟩ (fun c7 => ?_) (fun c7 => ?_)
    · refine r_con eRe_wordNumber_40 ?_
      refine r_iret eRe_wordNumber_41 rfl ?_
      exact hq
    · exfalso; omega
/-- whether a line was told ahead of which some must stand -/
def re_bg (t : Nat → Int) : Int := t 4 + t 5 + t 6 + t 7 + t 8 + t 9 + t 10
theorem c_Re_isBegun (hX : cl_sh en X T P) (ht : ∀ i : Nat, i < 12 → 0 ≤ J (X + 15) i ∧ J (X + 15) i ≤ 1000) (hq : Q (some (.int (m_i (if 0 < re_bg (J (X + 15)) then 1 else 0)))) (T, m_I (re_q J X fk fp p b k v), P, L, z, w)) : m_call en (d + 1) mRe_isBegun [.ref (X + 1)] (T, m_I (re_q J X fk fp p b k v), P, L, z, w) Q := by
  have t4 := ht 4 (by omega)
  have t5 := ht 5 (by omega)
  have t6 := ht 6 (by omega)
  have t7 := ht 7 (by omega)
  have t8 := ht 8 (by omega)
  have t9 := ht 9 (by omega)
  have t10 := ht 10 (by omega)
  unfold re_bg at hq
  refine m_into (by decide) (Nat.le_of_ble_eq_true rfl) rfl ?_
  refine r_con eRe_isBegun_0 ?_
  refine r_isn (ls' := [some (.ref (X + 1)), some (.int (m_i 0)), none]) eRe_isBegun_1 (Nat.le_of_ble_eq_true rfl) rfl ?_
  refine r_con eRe_isBegun_2 ?_
  refine r_isn (ls' := [some (.ref (X + 1)), some (.int (m_i 0)), some (.int (m_i 4))]) eRe_isBegun_3 (Nat.le_of_ble_eq_true rfl) rfl ?_
  have step : ∀ (i : Nat) (s : Int), 4 ≤ i → i < 11 → (0 ≤ s ∧ s ≤ 10000) → m_wp en d mRe_isBegun 4 [some (.ref (X + 1)), some (.int (m_i (s + J (X + 15) i))), some (.int (m_i ((i : Int) + 1)))] [] (T, m_I (re_q J X fk fp p b k v), P, L, z, w) Q → m_wp en d mRe_isBegun 4 [some (.ref (X + 1)), some (.int (m_i s)), some (.int (m_i (i : Int)))] [] (T, m_I (re_q J X fk fp p b k v), P, L, z, w) Q := by
    intro i s h1 h2 h3 hk
    have e : ((i : Int)).toNat = i := Int.toNat_natCast i
    refine r_iln eRe_isBegun_4 rfl ?_
    refine r_bip eRe_isBegun_5 (by decide) ?_
    refine r_cge (tgt := 28) eRe_isBegun_7 rfl ⟨(by omega), (by omega)⟩ ⟨(by omega), (by omega)⟩ (fun c7 => ?_) (fun c7 => ?_)
    · exfalso; omega
    · refine r_iln eRe_isBegun_10 rfl ?_
      refine r_aln eRe_isBegun_11 rfl ?_
      refine m_getR eRe_isBegun_12 rfl (cl_t hX (i := 1) rfl) (cl_p hX (i := 12) rfl) ?_
      refine m_getR eRe_isBegun_15 rfl (cl_t hX (i := 3) rfl) (cl_p hX (i := 25) rfl) ?_
      refine r_iln eRe_isBegun_18 rfl ?_
      refine r_ialde (x := J (X + 15) (((i : Int)).toNat)) eRe_isBegun_19 (cl_t hX (i := 15) rfl) (by decide) (by omega) (by omega) (by rw [re_q_o (by omega)]) ?_
      rw [e]
      refine r_add eRe_isBegun_20 ?_
      refine r_isn (ls' := [some (.ref (X + 1)), some (.int (m_i ((s) + (J (X + 15) i)))), some (.int (m_i ((i : Int))))]) eRe_isBegun_21 (Nat.le_of_ble_eq_true rfl) rfl ?_
      refine r_inc (ls' := [some (.ref (X + 1)), some (.int (m_i ((s) + (J (X + 15) i)))), some (.int (m_i ((i : Int) + 1)))]) eRe_isBegun_22 rfl rfl ?_
      refine r_go (tgt := 4) eRe_isBegun_25 rfl ?_
      exact hk
  refine step 4 0 (by omega) (by omega) (by omega) ?_
  refine step 5 (0 + J (X + 15) 4) (by omega) (by omega) (by omega) ?_
  refine step 6 (0 + J (X + 15) 4 + J (X + 15) 5) (by omega) (by omega) (by omega) ?_
  refine step 7 (0 + J (X + 15) 4 + J (X + 15) 5 + J (X + 15) 6) (by omega) (by omega) (by omega) ?_
  refine step 8 (0 + J (X + 15) 4 + J (X + 15) 5 + J (X + 15) 6 + J (X + 15) 7) (by omega) (by omega) (by omega) ?_
  refine step 9 (0 + J (X + 15) 4 + J (X + 15) 5 + J (X + 15) 6 + J (X + 15) 7 + J (X + 15) 8) (by omega) (by omega) (by omega) ?_
  refine step 10 (0 + J (X + 15) 4 + J (X + 15) 5 + J (X + 15) 6 + J (X + 15) 7 + J (X + 15) 8 + J (X + 15) 9) (by omega) (by omega) (by omega) ?_
  obtain ⟨s, es⟩ : ∃ s, s = 0 + J (X + 15) 4 + J (X + 15) 5 + J (X + 15) 6 + J (X + 15) 7 + J (X + 15) 8 + J (X + 15) 9 + J (X + 15) 10 := ⟨_, rfl⟩
  rw [← es]
  show m_wp en d mRe_isBegun 4 [some (.ref (X + 1)), some (.int (m_i s)), some (.int (m_i 11))] [] (T, m_I (re_q J X fk fp p b k v), P, L, z, w) Q
  refine r_iln eRe_isBegun_4 rfl ?_
  refine r_bip eRe_isBegun_5 (by decide) ?_
  refine r_cge (tgt := 28) eRe_isBegun_7 rfl ⟨(by omega), (by omega)⟩ ⟨(by omega), (by omega)⟩ (fun c7 => ?_) (fun c7 => ?_)
  · refine r_iln eRe_isBegun_28 rfl ?_
    refine r_zle (tgt := 36) eRe_isBegun_29 rfl ⟨(by omega), (by omega)⟩ (fun c29 => ?_) (fun c29 => ?_)
    · refine r_con eRe_isBegun_36 ?_
      refine r_zret eRe_isBegun_37 rfl (by first | exact Or.inl rfl | exact Or.inr rfl | omega) ?_
      first | (rw [if_pos (by omega)] at hq; exact hq) | (rw [if_neg (by omega)] at hq; exact hq)
    · refine r_con eRe_isBegun_32 ?_
      refine r_go (tgt := 37) eRe_isBegun_33 rfl ?_
      refine r_zret eRe_isBegun_37 rfl (by first | exact Or.inl rfl | exact Or.inr rfl | omega) ?_
      first | (rw [if_pos (by omega)] at hq; exact hq) | (rw [if_neg (by omega)] at hq; exact hq)
  · exfalso; omega
/-- how many lines of a kind may be told -/
def re_mt (i : Nat) : Int := [1, 1, 1, 1, 6, 6, 1, 8, 16, 8, 3, 1].getD i 0
def re_st (en : Nat → Nat) (T : Nat → Option (Nat × Nat)) (J : Nat → Nat → Int) : Prop := (T (en 2) = some (20, 12) ∧ en 2 < en 0) ∧ ∀ i : Nat, i < 12 → J (en 2) i = re_mt i
def re_ms (t : Nat → Int) (line : Int) (y : a_Q) : a_Q := if line < 0 ∨ 12 ≤ line ∨ (line ≤ 3 ∧ 0 < re_bg t) then re_rf 1 y else if re_mt line.toNat ≤ t line.toNat then re_rf (if re_mt line.toNat = 1 then 3 else 2) y else y
theorem re_mt_b : ∀ i : Fin 12, 1 ≤ re_mt i.val ∧ re_mt i.val ≤ 16 := by decide
theorem c_Re_mayStand (hX : cl_sh en X T P) (hst : re_st en T J) (ht : ∀ i : Nat, i < 12 → 0 ≤ J (X + 15) i ∧ J (X + 15) i ≤ 1000) (hy : re_yb n y) {ln : Int} (hl : -1 ≤ ln ∧ ln < 18) (hq : ∀ y', y' = re_ms (J (X + 15)) ln y → re_yb n y' → Q (some (.int (m_i (if y'.1 = 0 then 1 else 0)))) (T, m_I (re_q J X y'.1 y'.2.1 y'.2.2.1 y'.2.2.2.1 y'.2.2.2.2.1 y'.2.2.2.2.2), P, L, z, w)) : m_call en (d + 2) mRe_mayStand [.ref (X + 1), .int (m_i ln)] (T, m_I (re_q J X y.1 y.2.1 y.2.2.1 y.2.2.2.1 y.2.2.2.2.1 y.2.2.2.2.2), P, L, z, w) Q := by
  have h1 := hy.1
  have hx0 : en 0 ≤ X := hX.1
  have he2 := hst.1.2
  have hbg : (if 0 < re_bg (J (X + 15)) then (1 : Int) else 0) = 0 ∨ (if 0 < re_bg (J (X + 15)) then (1 : Int) else 0) = 1 := by split <;> omega
  obtain ⟨bg, ebg⟩ : ∃ bg, bg = (if 0 < re_bg (J (X + 15)) then (1 : Int) else 0) := ⟨_, rfl⟩
  have hbg2 : (0 < re_bg (J (X + 15)) ∧ bg = 1) ∨ (¬ 0 < re_bg (J (X + 15)) ∧ bg = 0) := by
    rw [ebg]
    by_cases q : 0 < re_bg (J (X + 15))
    · rw [if_pos q]; exact Or.inl ⟨q, rfl⟩
    · rw [if_neg q]; exact Or.inr ⟨q, rfl⟩
  obtain ⟨mt, emt⟩ : ∃ mt, mt = re_mt ln.toNat := ⟨_, rfl⟩
  have emt2 : (0 ≤ ln ∧ ln < 12) → J (en 2) ln.toNat = mt := fun q => by rw [hst.2 _ (by omega), emt]
  have hmt : (0 ≤ ln ∧ ln < 12) → 1 ≤ mt ∧ mt ≤ 16 := fun q => by rw [emt]; exact re_mt_b ⟨ln.toNat, by omega⟩
  have htl : (0 ≤ ln ∧ ln < 12) → 0 ≤ J (X + 15) ln.toNat ∧ J (X + 15) ln.toNat ≤ 1000 := fun q => ht _ (by omega)
  unfold re_ms at hq
  rw [← emt] at hq
  have r1 : ∀ y2, (ln < 0 ∨ 12 ≤ ln ∨ (ln ≤ 3 ∧ bg = 1)) → y2 = re_rf 1 y → re_yb n y2 → Q (some (.int (m_i (if y2.1 = 0 then 1 else 0)))) (T, m_I (re_q J X y2.1 y2.2.1 y2.2.2.1 y2.2.2.2.1 y2.2.2.2.2.1 y2.2.2.2.2.2), P, L, z, w) := fun y2 q e h => hq y2 (by rw [if_pos (by omega)]; exact e) h
  have r2 : ∀ y2 x, ¬ (ln < 0 ∨ 12 ≤ ln ∨ (ln ≤ 3 ∧ bg = 1)) → mt ≤ J (X + 15) ln.toNat → (x = if mt = 1 then 3 else 2) → y2 = re_rf x y → re_yb n y2 → Q (some (.int (m_i (if y2.1 = 0 then 1 else 0)))) (T, m_I (re_q J X y2.1 y2.2.1 y2.2.2.1 y2.2.2.2.1 y2.2.2.2.2.1 y2.2.2.2.2.2), P, L, z, w) := fun y2 x q q2 ex e h => hq y2 (by rw [if_neg (by omega), if_pos q2, ← ex]; exact e) h
  have r3 : ¬ (ln < 0 ∨ 12 ≤ ln ∨ (ln ≤ 3 ∧ bg = 1)) → ¬ mt ≤ J (X + 15) ln.toNat → Q (some (.int (m_i (if y.1 = 0 then 1 else 0)))) (T, m_I (re_q J X y.1 y.2.1 y.2.2.1 y.2.2.2.1 y.2.2.2.2.1 y.2.2.2.2.2), P, L, z, w) := fun q q2 => hq y (by rw [if_neg (by omega), if_neg q2]) hy
  have hbb : 0 ≤ bg ∧ bg ≤ 1 := by omega
  clear hbg hbg2 hq
  refine m_into (by decide) (Nat.le_of_ble_eq_true rfl) rfl ?_
  show m_wp en _ mRe_mayStand 0 [some (.ref (X + 1)), some (.int (m_i (ln)))] [] (T, m_I ((re_q J X y.1 y.2.1 y.2.2.1 y.2.2.2.1 y.2.2.2.2.1 y.2.2.2.2.2)), P, L, z, w) Q
  refine r_iln eRe_mayStand_0 rfl ?_
  refine r_zlt (tgt := 22) eRe_mayStand_1 rfl ⟨(by omega), (by omega)⟩ (fun c1 => ?_) (fun c1 => ?_)
  · refine r_aln eRe_mayStand_22 rfl ?_
    refine r_con eRe_mayStand_23 ?_
    refine r_vir eRe_mayStand_24 rfl rfl rfl (cl_t hX (i := 1) rfl) rfl rfl ?_
    refine c_rf hX hy (by omega) (fun y2 e2 h2 h3 => ?_)
    have b2 := h2.1
    show m_wp en _ mRe_mayStand 27 [some (.ref (X + 1)), some (.int (m_i (ln)))] [] (T, m_I (((re_q J X y2.1 y2.2.1 y2.2.2.1 y2.2.2.2.1 y2.2.2.2.2.1 y2.2.2.2.2.2))), P, L, z, w) Q
    refine r_go (tgt := 65) eRe_mayStand_27 rfl ?_
    refine r_aln eRe_mayStand_65 rfl ?_
    refine r_gete (x := y2.1) eRe_mayStand_66 rfl (by decide) (cl_t hX (i := 1) rfl) (by rw [re_q_3]) ?_
    refine r_zne (tgt := 76) eRe_mayStand_69 rfl ⟨(by omega), (by omega)⟩ (fun c69 => ?_) (fun c69 => ?_)
    · refine r_con eRe_mayStand_76 ?_
      refine r_zret eRe_mayStand_77 rfl (by first | exact Or.inl rfl | exact Or.inr rfl | omega) ?_
      first | (exfalso; omega) | (have r9 := r1 y2 (by omega) e2 h2; rw [if_pos (by omega)] at r9; exact r9) | (have r9 := r1 y2 (by omega) e2 h2; rw [if_neg (by omega)] at r9; exact r9) | (have r9 := r2 y2 _ (by omega) (by omega) (by first | rw [if_pos (by omega)] | rw [if_neg (by omega)]) e2 h2; rw [if_neg (by omega)] at r9; exact r9) | (have r9 := r2 y2 _ (by omega) (by omega) (by first | rw [if_pos (by omega)] | rw [if_neg (by omega)]) e2 h2; rw [if_pos (by omega)] at r9; exact r9) | (have r9 := r3 (by omega) (by omega); rw [if_pos (by omega)] at r9; exact r9) | (have r9 := r3 (by omega) (by omega); rw [if_neg (by omega)] at r9; exact r9)
    · refine r_con eRe_mayStand_72 ?_
      refine r_go (tgt := 77) eRe_mayStand_73 rfl ?_
      refine r_zret eRe_mayStand_77 rfl (by first | exact Or.inl rfl | exact Or.inr rfl | omega) ?_
      first | (exfalso; omega) | (have r9 := r1 y2 (by omega) e2 h2; rw [if_pos (by omega)] at r9; exact r9) | (have r9 := r1 y2 (by omega) e2 h2; rw [if_neg (by omega)] at r9; exact r9) | (have r9 := r2 y2 _ (by omega) (by omega) (by first | rw [if_pos (by omega)] | rw [if_neg (by omega)]) e2 h2; rw [if_neg (by omega)] at r9; exact r9) | (have r9 := r2 y2 _ (by omega) (by omega) (by first | rw [if_pos (by omega)] | rw [if_neg (by omega)]) e2 h2; rw [if_pos (by omega)] at r9; exact r9) | (have r9 := r3 (by omega) (by omega); rw [if_pos (by omega)] at r9; exact r9) | (have r9 := r3 (by omega) (by omega); rw [if_neg (by omega)] at r9; exact r9)
  · refine r_iln eRe_mayStand_4 rfl ?_
    refine r_bip eRe_mayStand_5 (by decide) ?_
    refine r_cge (tgt := 22) eRe_mayStand_7 rfl ⟨(by omega), (by omega)⟩ ⟨(by omega), (by omega)⟩ (fun c7 => ?_) (fun c7 => ?_)
    · refine r_aln eRe_mayStand_22 rfl ?_
      refine r_con eRe_mayStand_23 ?_
      refine r_vir eRe_mayStand_24 rfl rfl rfl (cl_t hX (i := 1) rfl) rfl rfl ?_
      refine c_rf hX hy (by omega) (fun y2 e2 h2 h3 => ?_)
      have b2 := h2.1
      show m_wp en _ mRe_mayStand 27 [some (.ref (X + 1)), some (.int (m_i (ln)))] [] (T, m_I (((re_q J X y2.1 y2.2.1 y2.2.2.1 y2.2.2.2.1 y2.2.2.2.2.1 y2.2.2.2.2.2))), P, L, z, w) Q
      refine r_go (tgt := 65) eRe_mayStand_27 rfl ?_
      refine r_aln eRe_mayStand_65 rfl ?_
      refine r_gete (x := y2.1) eRe_mayStand_66 rfl (by decide) (cl_t hX (i := 1) rfl) (by rw [re_q_3]) ?_
      refine r_zne (tgt := 76) eRe_mayStand_69 rfl ⟨(by omega), (by omega)⟩ (fun c69 => ?_) (fun c69 => ?_)
      · refine r_con eRe_mayStand_76 ?_
        refine r_zret eRe_mayStand_77 rfl (by first | exact Or.inl rfl | exact Or.inr rfl | omega) ?_
        first | (exfalso; omega) | (have r9 := r1 y2 (by omega) e2 h2; rw [if_pos (by omega)] at r9; exact r9) | (have r9 := r1 y2 (by omega) e2 h2; rw [if_neg (by omega)] at r9; exact r9) | (have r9 := r2 y2 _ (by omega) (by omega) (by first | rw [if_pos (by omega)] | rw [if_neg (by omega)]) e2 h2; rw [if_neg (by omega)] at r9; exact r9) | (have r9 := r2 y2 _ (by omega) (by omega) (by first | rw [if_pos (by omega)] | rw [if_neg (by omega)]) e2 h2; rw [if_pos (by omega)] at r9; exact r9) | (have r9 := r3 (by omega) (by omega); rw [if_pos (by omega)] at r9; exact r9) | (have r9 := r3 (by omega) (by omega); rw [if_neg (by omega)] at r9; exact r9)
      · refine r_con eRe_mayStand_72 ?_
        refine r_go (tgt := 77) eRe_mayStand_73 rfl ?_
        refine r_zret eRe_mayStand_77 rfl (by first | exact Or.inl rfl | exact Or.inr rfl | omega) ?_
        first | (exfalso; omega) | (have r9 := r1 y2 (by omega) e2 h2; rw [if_pos (by omega)] at r9; exact r9) | (have r9 := r1 y2 (by omega) e2 h2; rw [if_neg (by omega)] at r9; exact r9) | (have r9 := r2 y2 _ (by omega) (by omega) (by first | rw [if_pos (by omega)] | rw [if_neg (by omega)]) e2 h2; rw [if_neg (by omega)] at r9; exact r9) | (have r9 := r2 y2 _ (by omega) (by omega) (by first | rw [if_pos (by omega)] | rw [if_neg (by omega)]) e2 h2; rw [if_pos (by omega)] at r9; exact r9) | (have r9 := r3 (by omega) (by omega); rw [if_pos (by omega)] at r9; exact r9) | (have r9 := r3 (by omega) (by omega); rw [if_neg (by omega)] at r9; exact r9)
    · refine r_iln eRe_mayStand_10 rfl ?_
      refine r_con eRe_mayStand_11 ?_
      refine r_cgt (tgt := 30) eRe_mayStand_12 rfl ⟨(by omega), (by omega)⟩ ⟨(by omega), (by omega)⟩ (fun c12 => ?_) (fun c12 => ?_)
      · have hmt2 := hmt (by omega)
        have htl2 := htl (by omega)
        have emt3 := emt2 (by omega)
        refine r_aln eRe_mayStand_30 rfl ?_
        refine m_getR eRe_mayStand_31 rfl (cl_t hX (i := 1) rfl) (cl_p hX (i := 12) rfl) ?_
        refine m_getR eRe_mayStand_34 rfl (cl_t hX (i := 3) rfl) (cl_p hX (i := 25) rfl) ?_
        refine r_iln eRe_mayStand_37 rfl ?_
        refine r_ialde (x := J (X + 15) ((ln).toNat)) eRe_mayStand_38 (cl_t hX (i := 15) rfl) (by decide) (by omega) (by omega) (by rw [re_q_o (by omega)]) ?_
        refine r_gst (k := 2) eRe_mayStand_39 rfl ?_
        refine r_iln eRe_mayStand_42 rfl ?_
        refine r_ialde (x := J (en 2) ((ln).toNat)) eRe_mayStand_43 hst.1.1 (by decide) (by omega) (by omega) (by rw [re_q_o (by omega)]) ?_
        rw [emt3]
        refine r_clt (tgt := 65) eRe_mayStand_44 rfl ⟨(by omega), (by omega)⟩ ⟨(by omega), (by omega)⟩ (fun c44 => ?_) (fun c44 => ?_)
        · refine r_aln eRe_mayStand_65 rfl ?_
          refine r_gete (x := y.1) eRe_mayStand_66 rfl (by decide) (cl_t hX (i := 1) rfl) (by rw [re_q_3]) ?_
          refine r_zne (tgt := 76) eRe_mayStand_69 rfl ⟨(by omega), (by omega)⟩ (fun c69 => ?_) (fun c69 => ?_)
          · refine r_con eRe_mayStand_76 ?_
            refine r_zret eRe_mayStand_77 rfl (by first | exact Or.inl rfl | exact Or.inr rfl | omega) ?_
            first | (exfalso; omega) | (have r9 := r1 y2 (by omega) e2 h2; rw [if_pos (by omega)] at r9; exact r9) | (have r9 := r1 y2 (by omega) e2 h2; rw [if_neg (by omega)] at r9; exact r9) | (have r9 := r2 y2 _ (by omega) (by omega) (by first | rw [if_pos (by omega)] | rw [if_neg (by omega)]) e2 h2; rw [if_neg (by omega)] at r9; exact r9) | (have r9 := r2 y2 _ (by omega) (by omega) (by first | rw [if_pos (by omega)] | rw [if_neg (by omega)]) e2 h2; rw [if_pos (by omega)] at r9; exact r9) | (have r9 := r3 (by omega) (by omega); rw [if_pos (by omega)] at r9; exact r9) | (have r9 := r3 (by omega) (by omega); rw [if_neg (by omega)] at r9; exact r9)
          · refine r_con eRe_mayStand_72 ?_
            refine r_go (tgt := 77) eRe_mayStand_73 rfl ?_
            refine r_zret eRe_mayStand_77 rfl (by first | exact Or.inl rfl | exact Or.inr rfl | omega) ?_
            first | (exfalso; omega) | (have r9 := r1 y2 (by omega) e2 h2; rw [if_pos (by omega)] at r9; exact r9) | (have r9 := r1 y2 (by omega) e2 h2; rw [if_neg (by omega)] at r9; exact r9) | (have r9 := r2 y2 _ (by omega) (by omega) (by first | rw [if_pos (by omega)] | rw [if_neg (by omega)]) e2 h2; rw [if_neg (by omega)] at r9; exact r9) | (have r9 := r2 y2 _ (by omega) (by omega) (by first | rw [if_pos (by omega)] | rw [if_neg (by omega)]) e2 h2; rw [if_pos (by omega)] at r9; exact r9) | (have r9 := r3 (by omega) (by omega); rw [if_pos (by omega)] at r9; exact r9) | (have r9 := r3 (by omega) (by omega); rw [if_neg (by omega)] at r9; exact r9)
        · refine r_aln eRe_mayStand_47 rfl ?_
          refine r_gst (k := 2) eRe_mayStand_48 rfl ?_
          refine r_iln eRe_mayStand_51 rfl ?_
          refine r_ialde (x := J (en 2) ((ln).toNat)) eRe_mayStand_52 hst.1.1 (by decide) (by omega) (by omega) (by rw [re_q_o (by omega)]) ?_
          rw [emt3]
          refine r_con eRe_mayStand_53 ?_
          refine r_cne (tgt := 61) eRe_mayStand_54 rfl ⟨(by omega), (by omega)⟩ ⟨(by omega), (by omega)⟩ (fun c54 => ?_) (fun c54 => ?_)
          · refine r_con eRe_mayStand_61 ?_
            refine r_vir eRe_mayStand_62 rfl rfl rfl (cl_t hX (i := 1) rfl) rfl rfl ?_
            refine c_rf hX hy (by omega) (fun y2 e2 h2 h3 => ?_)
            have b2 := h2.1
            show m_wp en _ mRe_mayStand 65 [some (.ref (X + 1)), some (.int (m_i (ln)))] [] (T, m_I (((re_q J X y2.1 y2.2.1 y2.2.2.1 y2.2.2.2.1 y2.2.2.2.2.1 y2.2.2.2.2.2))), P, L, z, w) Q
            refine r_aln eRe_mayStand_65 rfl ?_
            refine r_gete (x := y2.1) eRe_mayStand_66 rfl (by decide) (cl_t hX (i := 1) rfl) (by rw [re_q_3]) ?_
            refine r_zne (tgt := 76) eRe_mayStand_69 rfl ⟨(by omega), (by omega)⟩ (fun c69 => ?_) (fun c69 => ?_)
            · refine r_con eRe_mayStand_76 ?_
              refine r_zret eRe_mayStand_77 rfl (by first | exact Or.inl rfl | exact Or.inr rfl | omega) ?_
              first | (exfalso; omega) | (have r9 := r1 y2 (by omega) e2 h2; rw [if_pos (by omega)] at r9; exact r9) | (have r9 := r1 y2 (by omega) e2 h2; rw [if_neg (by omega)] at r9; exact r9) | (have r9 := r2 y2 _ (by omega) (by omega) (by first | rw [if_pos (by omega)] | rw [if_neg (by omega)]) e2 h2; rw [if_neg (by omega)] at r9; exact r9) | (have r9 := r2 y2 _ (by omega) (by omega) (by first | rw [if_pos (by omega)] | rw [if_neg (by omega)]) e2 h2; rw [if_pos (by omega)] at r9; exact r9) | (have r9 := r3 (by omega) (by omega); rw [if_pos (by omega)] at r9; exact r9) | (have r9 := r3 (by omega) (by omega); rw [if_neg (by omega)] at r9; exact r9)
            · refine r_con eRe_mayStand_72 ?_
              refine r_go (tgt := 77) eRe_mayStand_73 rfl ?_
              refine r_zret eRe_mayStand_77 rfl (by first | exact Or.inl rfl | exact Or.inr rfl | omega) ?_
              first | (exfalso; omega) | (have r9 := r1 y2 (by omega) e2 h2; rw [if_pos (by omega)] at r9; exact r9) | (have r9 := r1 y2 (by omega) e2 h2; rw [if_neg (by omega)] at r9; exact r9) | (have r9 := r2 y2 _ (by omega) (by omega) (by first | rw [if_pos (by omega)] | rw [if_neg (by omega)]) e2 h2; rw [if_neg (by omega)] at r9; exact r9) | (have r9 := r2 y2 _ (by omega) (by omega) (by first | rw [if_pos (by omega)] | rw [if_neg (by omega)]) e2 h2; rw [if_pos (by omega)] at r9; exact r9) | (have r9 := r3 (by omega) (by omega); rw [if_pos (by omega)] at r9; exact r9) | (have r9 := r3 (by omega) (by omega); rw [if_neg (by omega)] at r9; exact r9)
          · refine r_con eRe_mayStand_57 ?_
            refine r_go (tgt := 62) eRe_mayStand_58 rfl ?_
            refine r_vir eRe_mayStand_62 rfl rfl rfl (cl_t hX (i := 1) rfl) rfl rfl ?_
            refine c_rf hX hy (by omega) (fun y2 e2 h2 h3 => ?_)
            have b2 := h2.1
            show m_wp en _ mRe_mayStand 65 [some (.ref (X + 1)), some (.int (m_i (ln)))] [] (T, m_I (((re_q J X y2.1 y2.2.1 y2.2.2.1 y2.2.2.2.1 y2.2.2.2.2.1 y2.2.2.2.2.2))), P, L, z, w) Q
            refine r_aln eRe_mayStand_65 rfl ?_
            refine r_gete (x := y2.1) eRe_mayStand_66 rfl (by decide) (cl_t hX (i := 1) rfl) (by rw [re_q_3]) ?_
            refine r_zne (tgt := 76) eRe_mayStand_69 rfl ⟨(by omega), (by omega)⟩ (fun c69 => ?_) (fun c69 => ?_)
            · refine r_con eRe_mayStand_76 ?_
              refine r_zret eRe_mayStand_77 rfl (by first | exact Or.inl rfl | exact Or.inr rfl | omega) ?_
              first | (exfalso; omega) | (have r9 := r1 y2 (by omega) e2 h2; rw [if_pos (by omega)] at r9; exact r9) | (have r9 := r1 y2 (by omega) e2 h2; rw [if_neg (by omega)] at r9; exact r9) | (have r9 := r2 y2 _ (by omega) (by omega) (by first | rw [if_pos (by omega)] | rw [if_neg (by omega)]) e2 h2; rw [if_neg (by omega)] at r9; exact r9) | (have r9 := r2 y2 _ (by omega) (by omega) (by first | rw [if_pos (by omega)] | rw [if_neg (by omega)]) e2 h2; rw [if_pos (by omega)] at r9; exact r9) | (have r9 := r3 (by omega) (by omega); rw [if_pos (by omega)] at r9; exact r9) | (have r9 := r3 (by omega) (by omega); rw [if_neg (by omega)] at r9; exact r9)
            · refine r_con eRe_mayStand_72 ?_
              refine r_go (tgt := 77) eRe_mayStand_73 rfl ?_
              refine r_zret eRe_mayStand_77 rfl (by first | exact Or.inl rfl | exact Or.inr rfl | omega) ?_
              first | (exfalso; omega) | (have r9 := r1 y2 (by omega) e2 h2; rw [if_pos (by omega)] at r9; exact r9) | (have r9 := r1 y2 (by omega) e2 h2; rw [if_neg (by omega)] at r9; exact r9) | (have r9 := r2 y2 _ (by omega) (by omega) (by first | rw [if_pos (by omega)] | rw [if_neg (by omega)]) e2 h2; rw [if_neg (by omega)] at r9; exact r9) | (have r9 := r2 y2 _ (by omega) (by omega) (by first | rw [if_pos (by omega)] | rw [if_neg (by omega)]) e2 h2; rw [if_pos (by omega)] at r9; exact r9) | (have r9 := r3 (by omega) (by omega); rw [if_pos (by omega)] at r9; exact r9) | (have r9 := r3 (by omega) (by omega); rw [if_neg (by omega)] at r9; exact r9)
      · refine r_aln eRe_mayStand_15 rfl ?_
        refine r_vir eRe_mayStand_16 rfl rfl rfl (cl_t hX (i := 1) rfl) rfl rfl ?_
        refine c_Re_isBegun hX ht ?_
        show m_wp en _ mRe_mayStand 19 [some (.ref (X + 1)), some (.int (m_i (ln)))] [(.int (m_i ((if 0 < re_bg (J (X + 15)) then 1 else 0))))] (T, m_I ((((re_q J X y.1 y.2.1 y.2.2.1 y.2.2.2.1 y.2.2.2.2.1 y.2.2.2.2.2)))), P, L, z, w) Q
        rw [← ebg]
        refine r_zeq (tgt := 30) eRe_mayStand_19 rfl ⟨(by omega), (by omega)⟩ (fun c19 => ?_) (fun c19 => ?_)
        · have hmt2 := hmt (by omega)
          have htl2 := htl (by omega)
          have emt3 := emt2 (by omega)
          refine r_aln eRe_mayStand_30 rfl ?_
          refine m_getR eRe_mayStand_31 rfl (cl_t hX (i := 1) rfl) (cl_p hX (i := 12) rfl) ?_
          refine m_getR eRe_mayStand_34 rfl (cl_t hX (i := 3) rfl) (cl_p hX (i := 25) rfl) ?_
          refine r_iln eRe_mayStand_37 rfl ?_
          refine r_ialde (x := J (X + 15) ((ln).toNat)) eRe_mayStand_38 (cl_t hX (i := 15) rfl) (by decide) (by omega) (by omega) (by rw [re_q_o (by omega)]) ?_
          refine r_gst (k := 2) eRe_mayStand_39 rfl ?_
          refine r_iln eRe_mayStand_42 rfl ?_
          refine r_ialde (x := J (en 2) ((ln).toNat)) eRe_mayStand_43 hst.1.1 (by decide) (by omega) (by omega) (by rw [re_q_o (by omega)]) ?_
          rw [emt3]
          refine r_clt (tgt := 65) eRe_mayStand_44 rfl ⟨(by omega), (by omega)⟩ ⟨(by omega), (by omega)⟩ (fun c44 => ?_) (fun c44 => ?_)
          · refine r_aln eRe_mayStand_65 rfl ?_
            refine r_gete (x := y.1) eRe_mayStand_66 rfl (by decide) (cl_t hX (i := 1) rfl) (by rw [re_q_3]) ?_
            refine r_zne (tgt := 76) eRe_mayStand_69 rfl ⟨(by omega), (by omega)⟩ (fun c69 => ?_) (fun c69 => ?_)
            · refine r_con eRe_mayStand_76 ?_
              refine r_zret eRe_mayStand_77 rfl (by first | exact Or.inl rfl | exact Or.inr rfl | omega) ?_
              first | (exfalso; omega) | (have r9 := r1 y2 (by omega) e2 h2; rw [if_pos (by omega)] at r9; exact r9) | (have r9 := r1 y2 (by omega) e2 h2; rw [if_neg (by omega)] at r9; exact r9) | (have r9 := r2 y2 _ (by omega) (by omega) (by first | rw [if_pos (by omega)] | rw [if_neg (by omega)]) e2 h2; rw [if_neg (by omega)] at r9; exact r9) | (have r9 := r2 y2 _ (by omega) (by omega) (by first | rw [if_pos (by omega)] | rw [if_neg (by omega)]) e2 h2; rw [if_pos (by omega)] at r9; exact r9) | (have r9 := r3 (by omega) (by omega); rw [if_pos (by omega)] at r9; exact r9) | (have r9 := r3 (by omega) (by omega); rw [if_neg (by omega)] at r9; exact r9)
            · refine r_con eRe_mayStand_72 ?_
              refine r_go (tgt := 77) eRe_mayStand_73 rfl ?_
              refine r_zret eRe_mayStand_77 rfl (by first | exact Or.inl rfl | exact Or.inr rfl | omega) ?_
              first | (exfalso; omega) | (have r9 := r1 y2 (by omega) e2 h2; rw [if_pos (by omega)] at r9; exact r9) | (have r9 := r1 y2 (by omega) e2 h2; rw [if_neg (by omega)] at r9; exact r9) | (have r9 := r2 y2 _ (by omega) (by omega) (by first | rw [if_pos (by omega)] | rw [if_neg (by omega)]) e2 h2; rw [if_neg (by omega)] at r9; exact r9) | (have r9 := r2 y2 _ (by omega) (by omega) (by first | rw [if_pos (by omega)] | rw [if_neg (by omega)]) e2 h2; rw [if_pos (by omega)] at r9; exact r9) | (have r9 := r3 (by omega) (by omega); rw [if_pos (by omega)] at r9; exact r9) | (have r9 := r3 (by omega) (by omega); rw [if_neg (by omega)] at r9; exact r9)
          · refine r_aln eRe_mayStand_47 rfl ?_
            refine r_gst (k := 2) eRe_mayStand_48 rfl ?_
            refine r_iln eRe_mayStand_51 rfl ?_
            refine r_ialde (x := J (en 2) ((ln).toNat)) eRe_mayStand_52 hst.1.1 (by decide) (by omega) (by omega) (by rw [re_q_o (by omega)]) ?_
            rw [emt3]
            refine r_con eRe_mayStand_53 ?_
            refine r_cne (tgt := 61) eRe_mayStand_54 rfl ⟨(by omega), (by omega)⟩ ⟨(by omega), (by omega)⟩ (fun c54 => ?_) (fun c54 => ?_)
            · refine r_con eRe_mayStand_61 ?_
              refine r_vir eRe_mayStand_62 rfl rfl rfl (cl_t hX (i := 1) rfl) rfl rfl ?_
              refine c_rf hX hy (by omega) (fun y2 e2 h2 h3 => ?_)
              have b2 := h2.1
              show m_wp en _ mRe_mayStand 65 [some (.ref (X + 1)), some (.int (m_i (ln)))] [] (T, m_I (((re_q J X y2.1 y2.2.1 y2.2.2.1 y2.2.2.2.1 y2.2.2.2.2.1 y2.2.2.2.2.2))), P, L, z, w) Q
              refine r_aln eRe_mayStand_65 rfl ?_
              refine r_gete (x := y2.1) eRe_mayStand_66 rfl (by decide) (cl_t hX (i := 1) rfl) (by rw [re_q_3]) ?_
              refine r_zne (tgt := 76) eRe_mayStand_69 rfl ⟨(by omega), (by omega)⟩ (fun c69 => ?_) (fun c69 => ?_)
              · refine r_con eRe_mayStand_76 ?_
                refine r_zret eRe_mayStand_77 rfl (by first | exact Or.inl rfl | exact Or.inr rfl | omega) ?_
                first | (exfalso; omega) | (have r9 := r1 y2 (by omega) e2 h2; rw [if_pos (by omega)] at r9; exact r9) | (have r9 := r1 y2 (by omega) e2 h2; rw [if_neg (by omega)] at r9; exact r9) | (have r9 := r2 y2 _ (by omega) (by omega) (by first | rw [if_pos (by omega)] | rw [if_neg (by omega)]) e2 h2; rw [if_neg (by omega)] at r9; exact r9) | (have r9 := r2 y2 _ (by omega) (by omega) (by first | rw [if_pos (by omega)] | rw [if_neg (by omega)]) e2 h2; rw [if_pos (by omega)] at r9; exact r9) | (have r9 := r3 (by omega) (by omega); rw [if_pos (by omega)] at r9; exact r9) | (have r9 := r3 (by omega) (by omega); rw [if_neg (by omega)] at r9; exact r9)
              · refine r_con eRe_mayStand_72 ?_
                refine r_go (tgt := 77) eRe_mayStand_73 rfl ?_
                refine r_zret eRe_mayStand_77 rfl (by first | exact Or.inl rfl | exact Or.inr rfl | omega) ?_
                first | (exfalso; omega) | (have r9 := r1 y2 (by omega) e2 h2; rw [if_pos (by omega)] at r9; exact r9) | (have r9 := r1 y2 (by omega) e2 h2; rw [if_neg (by omega)] at r9; exact r9) | (have r9 := r2 y2 _ (by omega) (by omega) (by first | rw [if_pos (by omega)] | rw [if_neg (by omega)]) e2 h2; rw [if_neg (by omega)] at r9; exact r9) | (have r9 := r2 y2 _ (by omega) (by omega) (by first | rw [if_pos (by omega)] | rw [if_neg (by omega)]) e2 h2; rw [if_pos (by omega)] at r9; exact r9) | (have r9 := r3 (by omega) (by omega); rw [if_pos (by omega)] at r9; exact r9) | (have r9 := r3 (by omega) (by omega); rw [if_neg (by omega)] at r9; exact r9)
            · refine r_con eRe_mayStand_57 ?_
              refine r_go (tgt := 62) eRe_mayStand_58 rfl ?_
              refine r_vir eRe_mayStand_62 rfl rfl rfl (cl_t hX (i := 1) rfl) rfl rfl ?_
              refine c_rf hX hy (by omega) (fun y2 e2 h2 h3 => ?_)
              have b2 := h2.1
              show m_wp en _ mRe_mayStand 65 [some (.ref (X + 1)), some (.int (m_i (ln)))] [] (T, m_I (((re_q J X y2.1 y2.2.1 y2.2.2.1 y2.2.2.2.1 y2.2.2.2.2.1 y2.2.2.2.2.2))), P, L, z, w) Q
              refine r_aln eRe_mayStand_65 rfl ?_
              refine r_gete (x := y2.1) eRe_mayStand_66 rfl (by decide) (cl_t hX (i := 1) rfl) (by rw [re_q_3]) ?_
              refine r_zne (tgt := 76) eRe_mayStand_69 rfl ⟨(by omega), (by omega)⟩ (fun c69 => ?_) (fun c69 => ?_)
              · refine r_con eRe_mayStand_76 ?_
                refine r_zret eRe_mayStand_77 rfl (by first | exact Or.inl rfl | exact Or.inr rfl | omega) ?_
                first | (exfalso; omega) | (have r9 := r1 y2 (by omega) e2 h2; rw [if_pos (by omega)] at r9; exact r9) | (have r9 := r1 y2 (by omega) e2 h2; rw [if_neg (by omega)] at r9; exact r9) | (have r9 := r2 y2 _ (by omega) (by omega) (by first | rw [if_pos (by omega)] | rw [if_neg (by omega)]) e2 h2; rw [if_neg (by omega)] at r9; exact r9) | (have r9 := r2 y2 _ (by omega) (by omega) (by first | rw [if_pos (by omega)] | rw [if_neg (by omega)]) e2 h2; rw [if_pos (by omega)] at r9; exact r9) | (have r9 := r3 (by omega) (by omega); rw [if_pos (by omega)] at r9; exact r9) | (have r9 := r3 (by omega) (by omega); rw [if_neg (by omega)] at r9; exact r9)
              · refine r_con eRe_mayStand_72 ?_
                refine r_go (tgt := 77) eRe_mayStand_73 rfl ?_
                refine r_zret eRe_mayStand_77 rfl (by first | exact Or.inl rfl | exact Or.inr rfl | omega) ?_
                first | (exfalso; omega) | (have r9 := r1 y2 (by omega) e2 h2; rw [if_pos (by omega)] at r9; exact r9) | (have r9 := r1 y2 (by omega) e2 h2; rw [if_neg (by omega)] at r9; exact r9) | (have r9 := r2 y2 _ (by omega) (by omega) (by first | rw [if_pos (by omega)] | rw [if_neg (by omega)]) e2 h2; rw [if_neg (by omega)] at r9; exact r9) | (have r9 := r2 y2 _ (by omega) (by omega) (by first | rw [if_pos (by omega)] | rw [if_neg (by omega)]) e2 h2; rw [if_pos (by omega)] at r9; exact r9) | (have r9 := r3 (by omega) (by omega); rw [if_pos (by omega)] at r9; exact r9) | (have r9 := r3 (by omega) (by omega); rw [if_neg (by omega)] at r9; exact r9)
        · refine r_aln eRe_mayStand_22 rfl ?_
          refine r_con eRe_mayStand_23 ?_
          refine r_vir eRe_mayStand_24 rfl rfl rfl (cl_t hX (i := 1) rfl) rfl rfl ?_
          refine c_rf hX hy (by omega) (fun y2 e2 h2 h3 => ?_)
          have b2 := h2.1
          show m_wp en _ mRe_mayStand 27 [some (.ref (X + 1)), some (.int (m_i (ln)))] [] (T, m_I (((re_q J X y2.1 y2.2.1 y2.2.2.1 y2.2.2.2.1 y2.2.2.2.2.1 y2.2.2.2.2.2))), P, L, z, w) Q
          refine r_go (tgt := 65) eRe_mayStand_27 rfl ?_
          refine r_aln eRe_mayStand_65 rfl ?_
          refine r_gete (x := y2.1) eRe_mayStand_66 rfl (by decide) (cl_t hX (i := 1) rfl) (by rw [re_q_3]) ?_
          refine r_zne (tgt := 76) eRe_mayStand_69 rfl ⟨(by omega), (by omega)⟩ (fun c69 => ?_) (fun c69 => ?_)
          · refine r_con eRe_mayStand_76 ?_
            refine r_zret eRe_mayStand_77 rfl (by first | exact Or.inl rfl | exact Or.inr rfl | omega) ?_
            first | (exfalso; omega) | (have r9 := r1 y2 (by omega) e2 h2; rw [if_pos (by omega)] at r9; exact r9) | (have r9 := r1 y2 (by omega) e2 h2; rw [if_neg (by omega)] at r9; exact r9) | (have r9 := r2 y2 _ (by omega) (by omega) (by first | rw [if_pos (by omega)] | rw [if_neg (by omega)]) e2 h2; rw [if_neg (by omega)] at r9; exact r9) | (have r9 := r2 y2 _ (by omega) (by omega) (by first | rw [if_pos (by omega)] | rw [if_neg (by omega)]) e2 h2; rw [if_pos (by omega)] at r9; exact r9) | (have r9 := r3 (by omega) (by omega); rw [if_pos (by omega)] at r9; exact r9) | (have r9 := r3 (by omega) (by omega); rw [if_neg (by omega)] at r9; exact r9)
          · refine r_con eRe_mayStand_72 ?_
            refine r_go (tgt := 77) eRe_mayStand_73 rfl ?_
            refine r_zret eRe_mayStand_77 rfl (by first | exact Or.inl rfl | exact Or.inr rfl | omega) ?_
            first | (exfalso; omega) | (have r9 := r1 y2 (by omega) e2 h2; rw [if_pos (by omega)] at r9; exact r9) | (have r9 := r1 y2 (by omega) e2 h2; rw [if_neg (by omega)] at r9; exact r9) | (have r9 := r2 y2 _ (by omega) (by omega) (by first | rw [if_pos (by omega)] | rw [if_neg (by omega)]) e2 h2; rw [if_neg (by omega)] at r9; exact r9) | (have r9 := r2 y2 _ (by omega) (by omega) (by first | rw [if_pos (by omega)] | rw [if_neg (by omega)]) e2 h2; rw [if_pos (by omega)] at r9; exact r9) | (have r9 := r3 (by omega) (by omega); rw [if_pos (by omega)] at r9; exact r9) | (have r9 := r3 (by omega) (by omega); rw [if_neg (by omega)] at r9; exact r9)
end NBR
