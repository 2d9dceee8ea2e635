/-! the class: images, undone, a tick -/
section SCU
variable {en : Nat → Nat} {d : Nat} {T : Nat → Option (Nat × Nat)} {J J' J0 K H : Nat → Nat → Int} {P : Nat → Nat → Option Nat} {L : Nat → Nat → Int64} {z w A B R X N zb wb : Nat} {Q : m_Q} {σ : a_S} {C : a_C}
/-- a log is another one's -/
def lo_cp (J : Nat → Nat → Int) (A B : Nat) : Nat → Nat → Int := m_up (m_up (m_fl J (A + 1) 0 (J (B + 1)) 70) A 1 (J B 1)) A 2 (J B 2)
theorem lo_cp_o {b i : Nat} (h : b < A ∨ A + 2 ≤ b) : lo_cp J A B b i = J b i := by
  unfold lo_cp
  rw [m_up_o (by omega), m_up_o (by omega), m_fl_o (by omega)]
theorem pa_po_o {b i : Nat} (h : b < X + 30 ∨ (X + 33 ≤ b ∧ b ≠ X + 35)) : pa_po J X (X + 30) b i = J b i := by
  unfold pa_po
  rw [mo_cp_o (by omega), m_up_o (by omega), m_up_o (by omega)]
theorem pa_pu_o {b i : Nat} (hs : 0 ≤ J (X + 35) 1 ∧ J (X + 35) 1 < 30) (h : b < X + 35 ∨ X + 127 ≤ b) : pa_pu J X (X + 30) b i = J b i := by
  unfold pa_pu
  rw [m_up_o (by omega), m_up_o (by omega), mo_cp_o (by omega)]
theorem k_Mo_set (hA : mo_sh en A T P) (hB : mo_sh en B T P) (hAB : A + 3 ≤ B ∨ B + 3 ≤ A) (hq : ∀ K, K = mo_cp J A B → Q none (T, m_I K, P, L, z, w)) : m_call en (d + 2) mMo_set [.ref A, .ref B] (T, m_I J, P, L, z, w) Q := c_Mo_set hA hB hAB (hq _ rfl)
theorem k_Lo_set (hA : lo_sh en A T P) (hB : lo_sh en B T P) (hAB : A + 2 ≤ B ∨ B + 2 ≤ A) (hq : ∀ K, K = lo_cp J A B → Q none (T, m_I K, P, L, z, w)) : m_call en (d + 2) mLo_set [.ref A, .ref B] (T, m_I J, P, L, z, w) Q := c_Lo_set hA hB hAB (hq _ rfl)
theorem k_Pa_clear (hX : cl_sh en X T P) (hq : ∀ K, K = m_up (m_up J (X + 35) 1 0) (X + 35) 2 0 → Q none (T, m_I K, P, L, z, w)) : m_call en (d + 1) mPa_clear [.ref (X + 35)] (T, m_I J, P, L, z, w) Q := c_Pa_clear hX (hq _ rfl)
theorem k_Pa_pop (hX : cl_sh en X T P) (he : 0 ≤ J (X + 35) 1 ∧ J (X + 35) 1 < 30) (hs : 0 ≤ J (X + 35) 2 ∧ J (X + 35) 2 ≤ 30) (h0 : J (X + 35) 2 < 1 → Q (some (.int (m_i 0))) (T, m_I J, P, L, z, w)) (h1 : 1 ≤ J (X + 35) 2 → ∀ K, K = pa_po J X (X + 30) → Q (some (.int (m_i 1))) (T, m_I K, P, L, z, w)) : m_call en (d + 3) mPa_pop [.ref (X + 35), .ref (X + 30)] (T, m_I J, P, L, z, w) Q := c_Pa_pop hX he hs h0 (fun q => h1 q _ rfl)
theorem k_Pa_push (hX : cl_sh en X T P) (he : 0 ≤ J (X + 35) 1 ∧ J (X + 35) 1 < 30) (hs : 0 ≤ J (X + 35) 2 ∧ J (X + 35) 2 ≤ 30) (hq : ∀ K, K = pa_pu J X (X + 30) → Q none (T, m_I K, P, L, z, w)) : m_call en (d + 3) mPa_push [.ref (X + 35), .ref (X + 30)] (T, m_I J, P, L, z, w) Q := c_Pa_push hX he hs (hq _ rfl)
theorem mo_cp_2 : mo_cp J A B A 2 = J B 2 := by
  unfold mo_cp
  rw [m_up_j (by decide), m_up_j (by decide)]
  exact if_pos ⟨rfl, rfl⟩
theorem mo_cp_3 : mo_cp J A B A 3 = J B 3 := by
  unfold mo_cp
  rw [m_up_j (by decide)]
  exact if_pos ⟨rfl, rfl⟩
theorem mo_cp_4 : mo_cp J A B A 4 = J B 4 := by
  unfold mo_cp
  exact if_pos ⟨rfl, rfl⟩
theorem mo_cp_p : po_get (mo_cp J A B) (A + 1) = po_get J (B + 1) := by
  have e : ∀ i, mo_cp J A B (A + 1) i = po_put J (A + 1) (po_get J (B + 1)) (A + 1) i := fun i => by
    unfold mo_cp
    rw [m_up_o (by omega), m_up_o (by omega), m_up_o (by omega), m_fl_o (by omega)]
  rw [po_get_e e, po_get_put]
theorem mo_cp_s {i : Nat} (hi : i < 16) : mo_cp J A B (A + 2) i = J (B + 2) i := by
  unfold mo_cp
  rw [m_up_o (by omega), m_up_o (by omega), m_up_o (by omega), m_fl_i (by omega)]
  rfl
/-- the heap behind keep, behind back before the ways are made anew -/
def cl_keep (J : Nat → Nat → Int) (X : Nat) : Nat → Nat → Int := m_up (lo_cp (mo_cp J (X + 127) (X + 30)) (X + 130) (X + 33)) X 7 1
def cl_back (J : Nat → Nat → Int) (X : Nat) : Nat → Nat → Int := m_up (m_up (lo_cp (mo_cp J (X + 30) (X + 127)) (X + 33) (X + 130)) (X + 35) 1 0) (X + 35) 2 0
theorem cl_back_o {b i : Nat} (h : b < X + 30 ∨ X + 36 ≤ b) : cl_back J X b i = J b i := by
  unfold cl_back
  rw [m_up_o (by omega), m_up_o (by omega), lo_cp_o (by omega), mo_cp_o (by omega)]
theorem cl_back_t : cl_back J X (X + 30) 3 = J (X + 127) 3 := by
  unfold cl_back
  rw [m_up_o (by omega), m_up_o (by omega), lo_cp_o (by omega)]
  exact mo_cp_3
theorem c_Sc_keep (hX : cl_sh en X T P) (hq : Q (some (.int (m_i (J (X + 30) 3)))) (T, m_I (cl_keep J X), P, L, z, w)) : m_call en (d + 3) mSc_keep [.ref X] (T, m_I J, P, L, z, w) Q := by
  refine m_into (by decide) (Nat.le_of_ble_eq_true rfl) rfl ?_
  show m_wp en _ mSc_keep 0 [some (.ref X)] [] (T, m_I J, P, L, z, w) Q
  refine r_aln eSc_keep_0 rfl ?_
  refine m_getR eSc_keep_1 rfl (cl_t hX (i := 0) rfl) (cl_p hX (i := 5) rfl) ?_
  refine r_aln eSc_keep_4 rfl ?_
  refine m_getR eSc_keep_5 rfl (cl_t hX (i := 0) rfl) (cl_p hX (i := 2) rfl) ?_
  refine r_vir eSc_keep_8 rfl rfl rfl (cl_t hX (i := 127) rfl) rfl rfl ?_
  refine k_Mo_set (cl_image hX) (cl_moment hX) (by omega) (fun K1 e1 => ?_)
  show m_wp en _ mSc_keep 11 [some (.ref X)] [] (T, m_I K1, P, L, z, w) Q
  refine r_aln eSc_keep_11 rfl ?_
  refine m_getR eSc_keep_12 rfl (cl_t hX (i := 0) rfl) (cl_p hX (i := 6) rfl) ?_
  refine r_aln eSc_keep_15 rfl ?_
  refine m_getR eSc_keep_16 rfl (cl_t hX (i := 0) rfl) (cl_p hX (i := 3) rfl) ?_
  refine r_vir eSc_keep_19 rfl rfl rfl (cl_t hX (i := 130) rfl) rfl rfl ?_
  refine k_Lo_set (cl_ihist hX) (cl_hist hX) (by omega) (fun K2 e2 => ?_)
  show m_wp en _ mSc_keep 22 [some (.ref X)] [] (T, m_I K2, P, L, z, w) Q
  refine r_aln eSc_keep_22 rfl ?_
  refine r_con eSc_keep_23 ?_
  refine r_puz eSc_keep_24 rfl (cl_t hX (i := 0) rfl) (cl_e hX 0) (Or.inl rfl) (by first | exact Or.inl rfl | exact Or.inr rfl | omega) ?_
  refine r_aln eSc_keep_27 rfl ?_
  refine m_getR eSc_keep_28 rfl (cl_t hX (i := 0) rfl) (cl_p hX (i := 2) rfl) ?_
  refine r_gete (x := K2 (X + 30) 3) eSc_keep_31 rfl (by decide) (cl_t hX (i := 30) rfl) (by rw [m_up_at, if_neg (by omega)]) ?_
  refine r_iret eSc_keep_34 rfl ?_
  have e : K2 (X + 30) 3 = J (X + 30) 3 := by (rw [e2, lo_cp_o (by omega), e1, mo_cp_o (by omega)])
  rw [e, e2, e1]
  exact hq
theorem c_Sc_back (hX : cl_sh en X T P) (pok : pl_ok J (X + 17)) (hm : cl_mo (cl_back J X) X) (hk : J X 7 = 0 ∨ J X 7 = 1) (h0 : J X 7 = 0 → Q (some (.int (m_i (-1)))) (T, m_I J, P, L, z, w)) (h1 : J X 7 = 1 → ∀ J', (∀ b i, ¬ (X + 132 ≤ b ∧ b ≤ X + 135) → J' b i = cl_back J X b i) → sp_is J' (X + 133) (cl_cf (cl_back J X) X) → J' (X + 132) 9 = 0 → J' (X + 132) 10 = 0 → J' (X + 132) 8 = 0 → J' (X + 132) 13 = J (X + 132) 13 + 1 → Q (some (.int (m_i (J (X + 127) 3)))) (T, m_I J', P, L, z, w)) : m_call en (d + 6) mSc_back [.ref X] (T, m_I J, P, L, z, w) Q := by
  refine m_into (by decide) (Nat.le_of_ble_eq_true rfl) rfl ?_
  show m_wp en _ mSc_back 0 [some (.ref X)] [] (T, m_I J, P, L, z, w) Q
  refine r_aln eSc_back_0 rfl ?_
  refine r_gete (x := J X 7) eSc_back_1 rfl (by decide) (cl_t hX (i := 0) rfl) rfl ?_
  refine r_zne (tgt := 9) eSc_back_4 rfl ⟨(by omega), (by omega)⟩ (fun c4 => ?_) (fun c4 => ?_)
  · refine r_aln eSc_back_9 rfl ?_
    refine m_getR eSc_back_10 rfl (cl_t hX (i := 0) rfl) (cl_p hX (i := 2) rfl) ?_
    refine r_aln eSc_back_13 rfl ?_
    refine m_getR eSc_back_14 rfl (cl_t hX (i := 0) rfl) (cl_p hX (i := 5) rfl) ?_
    refine r_vir eSc_back_17 rfl rfl rfl (cl_t hX (i := 30) rfl) rfl rfl ?_
    refine k_Mo_set (cl_moment hX) (cl_image hX) (by omega) (fun K1 e1 => ?_)
    show m_wp en _ mSc_back 20 [some (.ref X)] [] (T, m_I K1, P, L, z, w) Q
    refine r_aln eSc_back_20 rfl ?_
    refine m_getR eSc_back_21 rfl (cl_t hX (i := 0) rfl) (cl_p hX (i := 3) rfl) ?_
    refine r_aln eSc_back_24 rfl ?_
    refine m_getR eSc_back_25 rfl (cl_t hX (i := 0) rfl) (cl_p hX (i := 6) rfl) ?_
    refine r_vir eSc_back_28 rfl rfl rfl (cl_t hX (i := 33) rfl) rfl rfl ?_
    refine k_Lo_set (cl_hist hX) (cl_ihist hX) (by omega) (fun K2 e2 => ?_)
    show m_wp en _ mSc_back 31 [some (.ref X)] [] (T, m_I K2, P, L, z, w) Q
    refine r_aln eSc_back_31 rfl ?_
    refine m_getR eSc_back_32 rfl (cl_t hX (i := 0) rfl) (cl_p hX (i := 4) rfl) ?_
    refine r_vir eSc_back_35 rfl rfl rfl (cl_t hX (i := 35) rfl) rfl rfl ?_
    refine k_Pa_clear hX (fun K3 e3 => ?_)
    have e : K3 = cl_back J X := (by rw [e3, e2, e1]; rfl)
    show m_wp en _ mSc_back 38 [some (.ref X)] [] (T, m_I K3, P, L, z, w) Q
    refine r_aln eSc_back_38 rfl ?_
    refine m_getR eSc_back_39 rfl (cl_t hX (i := 0) rfl) (cl_p hX (i := 7) rfl) ?_
    refine r_vir eSc_back_42 rfl rfl rfl (cl_t hX (i := 132) rfl) rfl rfl ?_
    refine c_Wa_changed hX (pl_ok_e pok (fun b i q1 q2 => by rw [e]; exact cl_back_o (by omega))) (by rw [e]; exact hm) (fun J4 k1 k2 k3 k4 k5 k6 => ?_)
    show m_wp en _ mSc_back 45 [some (.ref X)] [] (T, m_I J4, P, L, z, w) Q
    refine r_aln eSc_back_45 rfl ?_
    refine m_getR eSc_back_46 rfl (cl_t hX (i := 0) rfl) (cl_p hX (i := 2) rfl) ?_
    refine r_gete (x := J4 (X + 30) 3) eSc_back_49 rfl (by decide) (cl_t hX (i := 30) rfl) rfl ?_
    refine r_iret eSc_back_52 rfl ?_
    rw [show J4 (X + 30) 3 = J (X + 127) 3 from by rw [k1 _ _ (by omega), e]; exact cl_back_t]
    exact h1 (by omega) J4 (fun b i q => by rw [k1 b i q, e]) (by rw [e] at k2; exact k2) k3 k4 k5 (by rw [k6, e, cl_back_o (by omega)])
  · refine r_con eSc_back_7 ?_
    refine r_iret eSc_back_8 rfl ?_
    exact h0 (by omega)
/-- the heap behind a tick that was undone -/
def cl_fg (J : Nat → Nat → Int) (X : Nat) : Nat → Nat → Int := if 0 < J (X + 33) 2 then m_up (m_up J (X + 33) 1 (if 0 < J (X + 33) 1 then J (X + 33) 1 - 1 else 69)) (X + 33) 2 (J (X + 33) 2 - 1) else J
theorem cl_fg_o {b i : Nat} (h : b ≠ X + 33) : cl_fg J X b i = J b i := by
  unfold cl_fg
  split
  · rw [m_up_o (by omega), m_up_o (by omega)]
  · rfl
theorem k_Lo_forget (hX : cl_sh en X T P) (he : 0 ≤ J (X + 33) 1 ∧ J (X + 33) 1 < 70) (hs : 0 ≤ J (X + 33) 2 ∧ J (X + 33) 2 ≤ 70) (hq : ∀ K, K = cl_fg J X → Q none (T, m_I K, P, L, z, w)) : m_call en (d + 1) mLo_forget [.ref (X + 33)] (T, m_I J, P, L, z, w) Q := c_Lo_forget (cl_hist hX) he hs (hq _ rfl)
def cl_mv (J : Nat → Nat → Int) (X : Nat) : Nat → Nat → Int := m_up (m_up J (X + 132) 9 0) (X + 132) 13 (J (X + 132) 13 + 1)
theorem cl_mv_o {b i : Nat} (h : b ≠ X + 132) : cl_mv J X b i = J b i := by
  unfold cl_mv
  rw [m_up_o (by omega), m_up_o (by omega)]
theorem k_Wa_moved (hX : cl_sh en X T P) (hq : ∀ K, K = cl_mv J X → Q none (T, m_I K, P, L, z, w)) : m_call en (d + 1) mWa_moved [.ref (X + 132)] (T, m_I J, P, L, z, w) Q := c_Wa_moved hX (hq _ rfl)
theorem c_Sc_undo (hX : cl_sh en X T P) (pok : pl_ok J (X + 17)) (hm : cl_mo J X) (ho : lo_ok J (X + 33)) (he : 0 ≤ J (X + 35) 1 ∧ J (X + 35) 1 < 30) (hs : 0 ≤ J (X + 35) 2 ∧ J (X + 35) 2 ≤ 30) (hm' : 1 ≤ J (X + 35) 2 → cl_mo (pa_po J X (X + 30)) X) (h0 : J (X + 35) 2 < 1 → Q (some (.int (m_i (-1)))) (T, m_I J, P, L, z, w)) (h1 : 1 ≤ J (X + 35) 2 → pa_po J X (X + 30) (X + 30) 3 ≠ J (X + 30) 3 → Q (some (.int (m_i (J (X + 35) 2 - 1)))) (T, m_I (cl_mv (cl_fg (pa_po J X (X + 30)) X) X), P, L, z, w))
    (h2 : 1 ≤ J (X + 35) 2 → pa_po J X (X + 30) (X + 30) 3 = J (X + 30) 3 → ∀ J', (∀ b i, ¬ (X + 132 ≤ b ∧ b ≤ X + 135) → J' b i = pa_po J X (X + 30) b i) → sp_is J' (X + 133) (cl_cf (pa_po J X (X + 30)) X) → J' (X + 132) 9 = 0 → J' (X + 132) 10 = 0 → J' (X + 132) 8 = 0 → J' (X + 132) 13 = J (X + 132) 13 + 1 → Q (some (.int (m_i (J (X + 35) 2 - 1)))) (T, m_I J', P, L, z, w)) : m_call en (d + 6) mSc_undo [.ref X] (T, m_I J, P, L, z, w) Q := by
  have t0 := hm.2.2.1
  have e35 : pa_po J X (X + 30) (X + 35) 2 = J (X + 35) 2 - 1 := by
    unfold pa_po
    rw [mo_cp_o (by omega)]
    exact if_pos ⟨rfl, rfl⟩
  refine m_into (by decide) (Nat.le_of_ble_eq_true rfl) rfl ?_
  show m_wp en _ mSc_undo 0 [some (.ref X), none] [] (T, m_I J, P, L, z, w) Q
  refine r_aln eSc_undo_0 rfl ?_
  refine m_getR eSc_undo_1 rfl (cl_t hX (i := 0) rfl) (cl_p hX (i := 2) rfl) ?_
  refine r_gete (x := J (X + 30) 3) eSc_undo_4 rfl (by decide) (cl_t hX (i := 30) rfl) rfl ?_
  refine r_isn (ls' := [some (.ref X), some (.int (m_i (J (X + 30) 3)))]) eSc_undo_7 (Nat.le_of_ble_eq_true rfl) rfl ?_
  refine r_aln eSc_undo_8 rfl ?_
  refine m_getR eSc_undo_9 rfl (cl_t hX (i := 0) rfl) (cl_p hX (i := 4) rfl) ?_
  refine r_aln eSc_undo_12 rfl ?_
  refine m_getR eSc_undo_13 rfl (cl_t hX (i := 0) rfl) (cl_p hX (i := 2) rfl) ?_
  refine r_vir eSc_undo_16 rfl rfl rfl (cl_t hX (i := 35) rfl) rfl rfl ?_
  refine k_Pa_pop hX he hs (fun q => ?_) (fun q K1 e1 => ?_)
  · show m_wp en _ mSc_undo 19 [some (.ref X), some (.int (m_i (J (X + 30) 3)))] [(.int (m_i (0)))] (T, m_I J, P, L, z, w) Q
    refine r_zne (tgt := 24) eSc_undo_19 rfl ⟨(by omega), (by omega)⟩ (fun c19 => ?_) (fun c19 => ?_)
    · exfalso; omega
    · refine r_con eSc_undo_22 ?_
      refine r_iret eSc_undo_23 rfl ?_
      exact h0 (by omega)
  · have m1 : cl_mo K1 X := (by rw [e1]; exact hm' q)
    have t1 := m1.2.2.1
    show m_wp en _ mSc_undo 19 [some (.ref X), some (.int (m_i (J (X + 30) 3)))] [(.int (m_i (1)))] (T, m_I K1, P, L, z, w) Q
    refine r_zne (tgt := 24) eSc_undo_19 rfl ⟨(by omega), (by omega)⟩ (fun c19 => ?_) (fun c19 => ?_)
    · refine r_aln eSc_undo_24 rfl ?_
      refine m_getR eSc_undo_25 rfl (cl_t hX (i := 0) rfl) (cl_p hX (i := 2) rfl) ?_
      refine r_gete (x := K1 (X + 30) 3) eSc_undo_28 rfl (by decide) (cl_t hX (i := 30) rfl) rfl ?_
      refine r_iln eSc_undo_31 rfl ?_
      refine r_ceq (tgt := 52) eSc_undo_32 rfl ⟨(by omega), (by omega)⟩ ⟨(by omega), (by omega)⟩ (fun c32 => ?_) (fun c32 => ?_)
      · refine r_aln eSc_undo_52 rfl ?_
        refine m_getR eSc_undo_53 rfl (cl_t hX (i := 0) rfl) (cl_p hX (i := 7) rfl) ?_
        refine r_vir eSc_undo_56 rfl rfl rfl (cl_t hX (i := 132) rfl) rfl rfl ?_
        refine c_Wa_changed hX (pl_ok_e pok (fun b i q1 q2 => by rw [e1]; exact pa_po_o (by omega))) m1 (fun J4 k1 k2 k3 k4 k5 k6 => ?_)
        show m_wp en _ mSc_undo 59 [some (.ref X), some (.int (m_i (J (X + 30) 3)))] [] (T, m_I J4, P, L, z, w) Q
        refine r_aln eSc_undo_59 rfl ?_
        refine m_getR eSc_undo_60 rfl (cl_t hX (i := 0) rfl) (cl_p hX (i := 4) rfl) ?_
        refine r_gete (x := J4 (X + 35) 2) eSc_undo_63 rfl (by decide) (cl_t hX (i := 35) rfl) rfl ?_
        refine r_iret eSc_undo_66 rfl ?_
        first | (rw [show K3 (X + 35) 2 = J (X + 35) 2 - 1 from by rw [e3, cl_mv_o (by omega), e2, cl_fg_o (by omega), e1]; exact e35, e3, e2, e1]; exact h1 q (by rw [← e1]; exact c32)) | (rw [show J4 (X + 35) 2 = J (X + 35) 2 - 1 from by rw [k1 _ _ (by omega), e1]; exact e35]; exact h2 q (by rw [← e1]; exact c32) J4 (fun b i q => by rw [k1 b i q, e1]) (by rw [e1] at k2; exact k2) k3 k4 k5 (by rw [k6, e1, pa_po_o (by omega)]))
      · refine r_aln eSc_undo_35 rfl ?_
        refine m_getR eSc_undo_36 rfl (cl_t hX (i := 0) rfl) (cl_p hX (i := 3) rfl) ?_
        refine r_vir eSc_undo_39 rfl rfl rfl (cl_t hX (i := 33) rfl) rfl rfl ?_
        refine k_Lo_forget hX (by rw [e1, pa_po_o (by omega)]; exact ho.1) (by rw [e1, pa_po_o (by omega)]; exact ho.2.1) (fun K2 e2 => ?_)
        show m_wp en _ mSc_undo 42 [some (.ref X), some (.int (m_i (J (X + 30) 3)))] [] (T, m_I K2, P, L, z, w) Q
        refine r_aln eSc_undo_42 rfl ?_
        refine m_getR eSc_undo_43 rfl (cl_t hX (i := 0) rfl) (cl_p hX (i := 7) rfl) ?_
        refine r_vir eSc_undo_46 rfl rfl rfl (cl_t hX (i := 132) rfl) rfl rfl ?_
        refine k_Wa_moved hX (fun K3 e3 => ?_)
        show m_wp en _ mSc_undo 49 [some (.ref X), some (.int (m_i (J (X + 30) 3)))] [] (T, m_I K3, P, L, z, w) Q
        refine r_go (tgt := 59) eSc_undo_49 rfl ?_
        refine r_aln eSc_undo_59 rfl ?_
        refine m_getR eSc_undo_60 rfl (cl_t hX (i := 0) rfl) (cl_p hX (i := 4) rfl) ?_
        refine r_gete (x := K3 (X + 35) 2) eSc_undo_63 rfl (by decide) (cl_t hX (i := 35) rfl) rfl ?_
        refine r_iret eSc_undo_66 rfl ?_
        first | (rw [show K3 (X + 35) 2 = J (X + 35) 2 - 1 from by rw [e3, cl_mv_o (by omega), e2, cl_fg_o (by omega), e1]; exact e35, e3, e2, e1]; exact h1 q (by rw [← e1]; exact c32)) | (rw [show J4 (X + 35) 2 = J (X + 35) 2 - 1 from by rw [k1 _ _ (by omega), e1]; exact e35]; exact h2 q (by rw [← e1]; exact c32) J4 (fun b i q => by rw [k1 b i q, e1]) (by rw [e1] at k2; exact k2) k3 k4 k5 (by rw [k6, e1, pa_po_o (by omega)]))
    · exfalso; omega
end SCU
