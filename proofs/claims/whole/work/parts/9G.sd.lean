/-! small ones of the class -/
section CLY
variable {en : Nat → Nat} {d : Nat} {T : Nat → Option (Nat × Nat)} {J J0 K H : Nat → Nat → Int} {P : Nat → Nat → Option Nat} {L : Nat → Nat → Int64} {z w A B R X : Nat} {Q : m_Q} {σ : a_S} {C : a_C} {h : Int}
theorem c_Sc_fault (hX : cl_sh en X T P) {x : Int} (hx : m_in x) (hq : Q (some (.int (m_i (if x = 0 then J (X + 1) 3 else if x = 1 then J (X + 1) 4 else -1)))) (T, m_I J, P, L, z, w)) : m_call en (d + 1) mSc_fault [.ref X, .int (m_i x)] (T, m_I J, P, L, z, w) Q := by
  unfold m_in at hx
  refine m_into (by decide) (Nat.le_of_ble_eq_true rfl) rfl ?_
  show m_wp en _ mSc_fault 0 [some (.ref X), some (.int (m_i (x)))] [] (T, m_I J, P, L, z, w) Q
  refine r_iln eSc_fault_0 rfl ?_
  refine r_zne (tgt := 12) eSc_fault_1 rfl ⟨(by omega), (by omega)⟩ (fun c1 => ?_) (fun c1 => ?_)
  · refine r_iln eSc_fault_12 rfl ?_
    refine r_con eSc_fault_13 ?_
    refine r_cne (tgt := 27) eSc_fault_14 rfl ⟨(by omega), (by omega)⟩ ⟨(by omega), (by omega)⟩ (fun c14 => ?_) (fun c14 => ?_)
    · refine r_con eSc_fault_27 ?_
      refine r_iret eSc_fault_28 rfl ?_
      first | (rw [if_neg (by omega), if_pos (by omega)] at hq; exact hq) | (rw [if_neg (by omega), if_neg (by omega)] at hq; exact hq)
    · refine r_aln eSc_fault_17 rfl ?_
      refine m_getR eSc_fault_18 rfl (cl_t hX (i := 0) rfl) (cl_p hX (i := 0) rfl) ?_
      refine r_gete (x := J (X + 1) 4) eSc_fault_21 rfl (by decide) (cl_t hX (i := 1) rfl) rfl ?_
      refine r_go (tgt := 28) eSc_fault_24 rfl ?_
      refine r_iret eSc_fault_28 rfl ?_
      first | (rw [if_neg (by omega), if_pos (by omega)] at hq; exact hq) | (rw [if_neg (by omega), if_neg (by omega)] at hq; exact hq)
  · refine r_aln eSc_fault_4 rfl ?_
    refine m_getR eSc_fault_5 rfl (cl_t hX (i := 0) rfl) (cl_p hX (i := 0) rfl) ?_
    refine r_gete (x := J (X + 1) 3) eSc_fault_8 rfl (by decide) (cl_t hX (i := 1) rfl) rfl ?_
    refine r_iret eSc_fault_11 rfl ?_
    rw [if_pos (by omega)] at hq
    exact hq
theorem c_Lo_set (hA : lo_sh en A T P) (hB : lo_sh en B T P) (hAB : A + 2 ≤ B ∨ B + 2 ≤ A) (hq : Q none (T, m_I (m_up (m_up (m_fl J (A + 1) 0 (J (B + 1)) 70) A 1 (J B 1)) A 2 (J B 2)), P, L, z, w)) : m_call en (d + 2) mLo_set [.ref A, .ref B] (T, m_I J, P, L, z, w) Q := by
  refine m_into (by decide) (Nat.le_of_ble_eq_true rfl) rfl ?_
  show m_wp en _ mLo_set 0 [some (.ref A), some (.ref B)] [] (T, m_I J, P, L, z, w) Q
  refine r_aln eLo_set_0 rfl ?_
  refine m_getR eLo_set_1 rfl hB.2.1 (ob_p hB (i := 0) rfl) ?_
  refine r_aln eLo_set_4 rfl ?_
  refine m_getR eLo_set_5 rfl hA.2.1 (ob_p hA (i := 0) rfl) ?_
  refine r_sta eLo_set_8 rfl rfl (by decide) rfl ?_
  refine c_Sc_copyRow (n := 70) (ob_t hB (i := 0) rfl) (ob_t hA (i := 0) rfl) (ob_b hA 1) (by omega) (by omega) ?_
  show m_wp en _ mLo_set 11 [some (.ref A), some (.ref B)] [] (T, m_I (((m_fl J (A + 1) 0 (J (B + 1)) 70))), P, L, z, w) Q
  refine r_aln eLo_set_11 rfl ?_
  refine r_aln eLo_set_12 rfl ?_
  refine r_gete (x := J B 1) eLo_set_13 rfl (by decide) hB.2.1 (by rw [m_fl_o (by omega)]) ?_
  refine r_put eLo_set_16 rfl hA.2.1 hA.1 (Or.inl rfl) ?_
  refine r_aln eLo_set_19 rfl ?_
  refine r_aln eLo_set_20 rfl ?_
  refine r_gete (x := J B 2) eLo_set_21 rfl (by decide) hB.2.1 (by rw [m_up_at, if_neg (by omega), m_fl_o (by omega)]) ?_
  refine r_put eLo_set_24 rfl hA.2.1 hA.1 (Or.inl rfl) ?_
  refine r_ret eLo_set_27 rfl ?_
  exact hq
theorem c_Pa_clear (hX : cl_sh en X T P) (hq : Q none (T, m_I (m_up (m_up J (X + 35) 1 0) (X + 35) 2 0), P, L, z, w)) : m_call en (d + 1) mPa_clear [.ref (X + 35)] (T, m_I J, P, L, z, w) Q := by
  refine m_into (by decide) (Nat.le_of_ble_eq_true rfl) rfl ?_
  show m_wp en _ mPa_clear 0 [some (.ref (X + 35))] [] (T, m_I J, P, L, z, w) Q
  refine r_aln ePa_clear_0 rfl ?_
  refine r_con ePa_clear_1 ?_
  refine r_put ePa_clear_2 rfl (cl_t hX (i := 35) rfl) (cl_e hX 35) (Or.inl rfl) ?_
  refine r_aln ePa_clear_5 rfl ?_
  refine r_con ePa_clear_6 ?_
  refine r_put ePa_clear_7 rfl (cl_t hX (i := 35) rfl) (cl_e hX 35) (Or.inl rfl) ?_
  refine r_ret ePa_clear_10 rfl ?_
  exact hq
end CLY
