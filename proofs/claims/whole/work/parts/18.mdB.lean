section MDB
variable {en : Nat → Nat} {d : Nat} {T : Nat → Option (Nat × Nat)} {J : Nat → Nat → Int} {P : Nat → Nat → Option Nat} {L : Nat → Nat → Int64} {z w M : Nat} {Q : m_Q}
theorem c_Md_laid (hM : md_sh en M T P) (hq : Q (some (.int (m_i (a_no (md_get J M))))) (T, m_I J, P, L, z, w)) : m_call en (d + 2) mMd_laid [.ref M] (T, m_I J, P, L, z, w) Q := by
  refine m_into (by decide) (Nat.le_of_ble_eq_true rfl) rfl ?_
  show m_wp en _ mMd_laid 0 [some (.ref M)] [] (T, m_I J, P, L, z, w) Q
  refine r_aln eMd_laid_0 rfl ?_
  refine r_gete (x := J M 33) eMd_laid_1 rfl (by decide) hM.2.1 rfl ?_
  refine r_aln eMd_laid_4 rfl ?_
  refine r_gete (x := J M 34) eMd_laid_5 rfl (by decide) hM.2.1 rfl ?_
  refine r_aln eMd_laid_8 rfl ?_
  refine r_gete (x := J M 35) eMd_laid_9 rfl (by decide) hM.2.1 rfl ?_
  refine r_aln eMd_laid_12 rfl ?_
  refine r_gete (x := J M 36) eMd_laid_13 rfl (by decide) hM.2.1 rfl ?_
  refine r_aln eMd_laid_16 rfl ?_
  refine r_gete (x := J M 37) eMd_laid_17 rfl (by decide) hM.2.1 rfl ?_
  refine r_sta eMd_laid_20 rfl rfl (by decide) rfl ?_
  refine c_Md_numberOf ?_
  show m_wp en _ mMd_laid 23 [some (.ref M)] [(.int (m_i (a_no ((J M 33), (J M 34), (J M 35), (J M 36), (J M 37)))))] (T, m_I J, P, L, z, w) Q
  refine r_iret eMd_laid_23 rfl ?_
  exact hq
theorem c_Md_still (hM : md_sh en M T P) {c e : Int} (hq : Q (some (.int (m_i (a_no (c, 0, 0, 0, e))))) (T, m_I J, P, L, z, w)) : m_call en (d + 2) mMd_still [.ref M, .int (m_i c), .int (m_i e)] (T, m_I J, P, L, z, w) Q := by
  refine m_into (by decide) (Nat.le_of_ble_eq_true rfl) rfl ?_
  show m_wp en _ mMd_still 0 [some (.ref M), some (.int (m_i (c))), some (.int (m_i (e)))] [] (T, m_I J, P, L, z, w) Q
  refine r_iln eMd_still_0 rfl ?_
  refine r_con eMd_still_1 ?_
  refine r_con eMd_still_2 ?_
  refine r_con eMd_still_3 ?_
  refine r_iln eMd_still_4 rfl ?_
  refine r_sta eMd_still_5 rfl rfl (by decide) rfl ?_
  refine c_Md_numberOf ?_
  show m_wp en _ mMd_still 8 [some (.ref M), some (.int (m_i (c))), some (.int (m_i (e)))] [(.int (m_i (a_no (c, 0, 0, 0, e))))] (T, m_I J, P, L, z, w) Q
  refine r_iret eMd_still_8 rfl ?_
  exact hq
theorem c_Md_isThere (hM : md_sh en M T P) {x : Int} (hx : m_in x) (hw : m_in (J (M + 2) 0)) (hq : Q (some (.int (m_i (if 0 ≤ x ∧ x < J (M + 2) 0 then 1 else 0)))) (T, m_I J, P, L, z, w)) : m_call en (d + 1) mMd_isThere [.ref M, .int (m_i x)] (T, m_I J, P, L, z, w) Q := by
  unfold m_in at hx hw
  refine m_into (by decide) (Nat.le_of_ble_eq_true rfl) rfl ?_
  show m_wp en _ mMd_isThere 0 [some (.ref M), some (.int (m_i (x)))] [] (T, m_I J, P, L, z, w) Q
  refine r_iln eMd_isThere_0 rfl ?_
  refine r_zlt (tgt := 18) eMd_isThere_1 rfl ⟨(by omega), (by omega)⟩ (fun c1 => ?_) (fun c1 => ?_)
  · refine r_con eMd_isThere_18 ?_
    refine r_zret eMd_isThere_19 rfl (by first | exact Or.inl rfl | exact Or.inr rfl | omega) ?_
    first | (rw [if_pos (by omega)] at hq; exact hq) | (rw [if_neg (by omega)] at hq; exact hq)
  · refine r_iln eMd_isThere_4 rfl ?_
    refine r_aln eMd_isThere_5 rfl ?_
    refine m_getR eMd_isThere_6 rfl hM.2.1 (md_number_p hM) ?_
    refine r_con eMd_isThere_9 ?_
    refine r_ialde (x := J (M + 2) 0) eMd_isThere_10 (md_number_t hM) (by decide) (by omega) (by omega) rfl ?_
    refine r_cge (tgt := 18) eMd_isThere_11 rfl ⟨(by omega), (by omega)⟩ ⟨(by omega), (by omega)⟩ (fun c11 => ?_) (fun c11 => ?_)
    · refine r_con eMd_isThere_18 ?_
      refine r_zret eMd_isThere_19 rfl (by first | exact Or.inl rfl | exact Or.inr rfl | omega) ?_
      first | (rw [if_pos (by omega)] at hq; exact hq) | (rw [if_neg (by omega)] at hq; exact hq)
    · refine r_con eMd_isThere_14 ?_
      refine r_go (tgt := 19) eMd_isThere_15 rfl ?_
      refine r_zret eMd_isThere_19 rfl (by first | exact Or.inl rfl | exact Or.inr rfl | omega) ?_
      first | (rw [if_pos (by omega)] at hq; exact hq) | (rw [if_neg (by omega)] at hq; exact hq)
theorem c_Md_steps (hM : md_sh en M T P) {k f : Int} (h0 : 0 ≤ k) (h1 : k < 2147483648) (hd : m_in (J M 37 + (k % 3 - 1))) (hq : Q none (T, m_I (md_put J M (a_step (md_get J M) k f)), P, L, z, w)) : m_call en (d + 2) mMd_steps [.ref M, .int (m_i k), .int (m_i f)] (T, m_I J, P, L, z, w) Q := by
  unfold m_in at hd
  refine m_into (by decide) (Nat.le_of_ble_eq_true rfl) rfl ?_
  show m_wp en _ mMd_steps 0 [some (.ref M), some (.int (m_i (k))), some (.int (m_i (f))), none, none] [] (T, m_I J, P, L, z, w) Q
  refine r_iln eMd_steps_0 rfl ?_
  refine r_con eMd_steps_1 ?_
  refine r_div eMd_steps_2 ⟨(by omega), (by omega)⟩ ⟨(by omega), (by omega)⟩ ?_
  refine r_con eMd_steps_3 ?_
  refine r_sub eMd_steps_4 ?_
  refine r_isn (ls' := [some (.ref M), some (.int (m_i (k))), some (.int (m_i (f))), some (.int (m_i (((k) / (3)) - (1)))), none]) eMd_steps_5 (Nat.le_of_ble_eq_true rfl) rfl ?_
  refine r_aln eMd_steps_6 rfl ?_
  refine r_dupr eMd_steps_7 ?_
  refine r_gete (x := J M 34) eMd_steps_8 rfl (by decide) hM.2.1 rfl ?_
  refine r_iln eMd_steps_11 rfl ?_
  refine r_add eMd_steps_12 ?_
  refine r_put eMd_steps_13 rfl hM.2.1 hM.1 (Or.inl rfl) ?_
  refine r_aln eMd_steps_16 rfl ?_
  refine r_dupr eMd_steps_17 ?_
  refine r_gete (x := J M 33) eMd_steps_18 rfl (by decide) hM.2.1 (by simp [m_up, md_put_at, m_fl]) ?_
  refine r_aln eMd_steps_21 rfl ?_
  refine r_gete (x := (J M 34) + (((k) / (3)) - (1))) eMd_steps_22 rfl (by decide) hM.2.1 (by simp [m_up]) ?_
  refine r_add eMd_steps_25 ?_
  refine r_put eMd_steps_26 rfl hM.2.1 hM.1 (Or.inl rfl) ?_
  refine r_aln eMd_steps_29 rfl ?_
  refine r_dupr eMd_steps_30 ?_
  refine r_gete (x := J M 37) eMd_steps_31 rfl (by decide) hM.2.1 (by simp [m_up, md_put_at, m_fl]) ?_
  refine r_iln eMd_steps_34 rfl ?_
  refine r_con eMd_steps_35 ?_
  refine r_rem eMd_steps_36 ⟨(by omega), (by omega)⟩ ⟨(by omega), (by omega)⟩ ?_
  refine r_con eMd_steps_37 ?_
  refine r_sub eMd_steps_38 ?_
  refine r_add eMd_steps_39 ?_
  refine r_put eMd_steps_40 rfl hM.2.1 hM.1 (Or.inl rfl) ?_
  refine r_aln eMd_steps_43 rfl ?_
  refine r_gete (x := (J M 37) + (((k) % (3)) - (1))) eMd_steps_44 rfl (by decide) hM.2.1 (by simp [m_up]) ?_
  refine r_sta eMd_steps_47 rfl rfl (by decide) rfl ?_
  refine c_Md_growth ⟨by omega, by omega⟩ ?_
  show m_wp en _ mMd_steps 50 [some (.ref M), some (.int (m_i (k))), some (.int (m_i (f))), some (.int (m_i (((k) / (3)) - (1)))), none] [(.int (m_i (a_gr ((J M 37) + (((k) % (3)) - (1))))))] (T, m_I ((m_up (m_up (m_up J M 34 ((J M 34) + (((k) / (3)) - (1)))) M 33 ((J M 33) + ((J M 34) + (((k) / (3)) - (1))))) M 37 ((J M 37) + (((k) % (3)) - (1))))), P, L, z, w) Q
  refine r_aln eMd_steps_50 rfl ?_
  refine r_gete (x := J M 35) eMd_steps_51 rfl (by decide) hM.2.1 (by simp [m_up, md_put_at, m_fl]) ?_
  refine r_mul eMd_steps_54 ?_
  refine r_aln eMd_steps_55 rfl ?_
  refine r_gete (x := J M 36) eMd_steps_56 rfl (by decide) hM.2.1 (by simp [m_up, md_put_at, m_fl]) ?_
  refine r_sub eMd_steps_59 ?_
  refine r_iln eMd_steps_60 rfl ?_
  refine r_sub eMd_steps_61 ?_
  refine r_iln eMd_steps_62 rfl ?_
  refine r_add eMd_steps_63 ?_
  refine r_is (ls' := [some (.ref M), some (.int (m_i (k))), some (.int (m_i (f))), some (.int (m_i (((k) / (3)) - (1)))), some (.int (m_i (((((a_gr ((J M 37) + (((k) % (3)) - (1)))) * (J M 35)) - (J M 36)) - (((k) / (3)) - (1))) + (f))))]) eMd_steps_64 (Nat.le_of_ble_eq_true rfl) rfl ?_
  refine r_aln eMd_steps_66 rfl ?_
  refine r_aln eMd_steps_67 rfl ?_
  refine r_gete (x := J M 35) eMd_steps_68 rfl (by decide) hM.2.1 (by simp [m_up, md_put_at, m_fl]) ?_
  refine r_put eMd_steps_71 rfl hM.2.1 hM.1 (Or.inl rfl) ?_
  refine r_aln eMd_steps_74 rfl ?_
  refine r_il eMd_steps_75 rfl ?_
  refine r_put eMd_steps_77 rfl hM.2.1 hM.1 (Or.inl rfl) ?_
  refine r_ret eMd_steps_80 rfl ?_
  refine Eq.mp (congrArg (fun H => Q none (T, m_I H, P, L, z, w)) ?_) hq
  funext b i
  simp only [md_put_at, m_up, a_step, md_get]
  by_cases hb : b = M
  · subst hb
    simp only [true_and]
    repeat' split
    all_goals first | rfl | omega
  · simp [hb]
theorem c_Md_stepsBack (hM : md_sh en M T P) {k : Int} (h0 : 0 ≤ k) (h1 : k < 2147483648) (hd : m_in (J M 37)) (hq : Q none (T, m_I (md_put J M (a_back (md_get J M) k)), P, L, z, w)) : m_call en (d + 2) mMd_stepsBack [.ref M, .int (m_i k)] (T, m_I J, P, L, z, w) Q := by
  unfold m_in at hd
  refine m_into (by decide) (Nat.le_of_ble_eq_true rfl) rfl ?_
  show m_wp en _ mMd_stepsBack 0 [some (.ref M), some (.int (m_i (k))), none, none, none] [] (T, m_I J, P, L, z, w) Q
  refine r_iln eMd_stepsBack_0 rfl ?_
  refine r_con eMd_stepsBack_1 ?_
  refine r_div eMd_stepsBack_2 ⟨(by omega), (by omega)⟩ ⟨(by omega), (by omega)⟩ ?_
  refine r_con eMd_stepsBack_3 ?_
  refine r_sub eMd_stepsBack_4 ?_
  refine r_isn (ls' := [some (.ref M), some (.int (m_i (k))), some (.int (m_i (((k) / (3)) - (1)))), none, none]) eMd_stepsBack_5 (Nat.le_of_ble_eq_true rfl) rfl ?_
  refine r_aln eMd_stepsBack_6 rfl ?_
  refine r_gete (x := J M 36) eMd_stepsBack_7 rfl (by decide) hM.2.1 rfl ?_
  refine r_isn (ls' := [some (.ref M), some (.int (m_i (k))), some (.int (m_i (((k) / (3)) - (1)))), some (.int (m_i (J M 36))), none]) eMd_stepsBack_10 (Nat.le_of_ble_eq_true rfl) rfl ?_
  refine r_aln eMd_stepsBack_11 rfl ?_
  refine r_gete (x := J M 37) eMd_stepsBack_12 rfl (by decide) hM.2.1 rfl ?_
  refine r_sta eMd_stepsBack_15 rfl rfl (by decide) rfl ?_
  refine c_Md_growth ⟨by omega, by omega⟩ ?_
  show m_wp en _ mMd_stepsBack 18 [some (.ref M), some (.int (m_i (k))), some (.int (m_i (((k) / (3)) - (1)))), some (.int (m_i (J M 36))), none] [(.int (m_i (a_gr (J M 37))))] (T, m_I J, P, L, z, w) Q
  refine r_iln eMd_stepsBack_18 rfl ?_
  refine r_mul eMd_stepsBack_19 ?_
  refine r_iln eMd_stepsBack_20 rfl ?_
  refine r_sub eMd_stepsBack_21 ?_
  refine r_aln eMd_stepsBack_22 rfl ?_
  refine r_gete (x := J M 35) eMd_stepsBack_23 rfl (by decide) hM.2.1 rfl ?_
  refine r_sub eMd_stepsBack_26 ?_
  refine r_is (ls' := [some (.ref M), some (.int (m_i (k))), some (.int (m_i (((k) / (3)) - (1)))), some (.int (m_i (J M 36))), some (.int (m_i ((((a_gr (J M 37)) * (J M 36)) - (((k) / (3)) - (1))) - (J M 35))))]) eMd_stepsBack_27 (Nat.le_of_ble_eq_true rfl) rfl ?_
  refine r_aln eMd_stepsBack_29 rfl ?_
  refine r_dupr eMd_stepsBack_30 ?_
  refine r_gete (x := J M 33) eMd_stepsBack_31 rfl (by decide) hM.2.1 rfl ?_
  refine r_aln eMd_stepsBack_34 rfl ?_
  refine r_gete (x := J M 34) eMd_stepsBack_35 rfl (by decide) hM.2.1 rfl ?_
  refine r_sub eMd_stepsBack_38 ?_
  refine r_put eMd_stepsBack_39 rfl hM.2.1 hM.1 (Or.inl rfl) ?_
  refine r_aln eMd_stepsBack_42 rfl ?_
  refine r_dupr eMd_stepsBack_43 ?_
  refine r_gete (x := J M 34) eMd_stepsBack_44 rfl (by decide) hM.2.1 (by simp [m_up, md_put_at, m_fl]) ?_
  refine r_iln eMd_stepsBack_47 rfl ?_
  refine r_sub eMd_stepsBack_48 ?_
  refine r_put eMd_stepsBack_49 rfl hM.2.1 hM.1 (Or.inl rfl) ?_
  refine r_aln eMd_stepsBack_52 rfl ?_
  refine r_dupr eMd_stepsBack_53 ?_
  refine r_gete (x := J M 37) eMd_stepsBack_54 rfl (by decide) hM.2.1 (by simp [m_up, md_put_at, m_fl]) ?_
  refine r_iln eMd_stepsBack_57 rfl ?_
  refine r_con eMd_stepsBack_58 ?_
  refine r_rem eMd_stepsBack_59 ⟨(by omega), (by omega)⟩ ⟨(by omega), (by omega)⟩ ?_
  refine r_con eMd_stepsBack_60 ?_
  refine r_sub eMd_stepsBack_61 ?_
  refine r_sub eMd_stepsBack_62 ?_
  refine r_put eMd_stepsBack_63 rfl hM.2.1 hM.1 (Or.inl rfl) ?_
  refine r_aln eMd_stepsBack_66 rfl ?_
  refine r_iln eMd_stepsBack_67 rfl ?_
  refine r_put eMd_stepsBack_68 rfl hM.2.1 hM.1 (Or.inl rfl) ?_
  refine r_aln eMd_stepsBack_71 rfl ?_
  refine r_il eMd_stepsBack_72 rfl ?_
  refine r_put eMd_stepsBack_74 rfl hM.2.1 hM.1 (Or.inl rfl) ?_
  refine r_ret eMd_stepsBack_77 rfl ?_
  refine Eq.mp (congrArg (fun H => Q none (T, m_I H, P, L, z, w)) ?_) hq
  funext b i
  simp only [md_put_at, m_up, a_back, md_get]
  by_cases hb : b = M
  · subst hb
    simp only [true_and]
    repeat' split
    all_goals first | rfl | omega
  · simp [hb]
end MDB
