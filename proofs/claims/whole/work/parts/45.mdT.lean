/-! a tick, a step of the reference -/
section MDT
variable {en : Nat → Nat} {d : Nat} {T : Nat → Option (Nat × Nat)} {J J0 : Nat → Nat → Int} {P : Nat → Nat → Option Nat} {L : Nat → Nat → Int64} {z w M : Nat} {Q : m_Q} {σ : a_S}
theorem md_rem_o (J : Nat → Nat → Int) (M : Nat) {b i : Nat} (h : b ≠ M) (h2 : b ≠ M + 23) : md_rem J M b i = J b i := by
  unfold md_rem md_re2 md_re1
  split
  · rw [m_up_at, if_neg (fun q => h q.1), m_fl_o h2, m_up_at, if_neg (fun q => h q.1), m_fl_o h2]
  · rw [m_up_at, if_neg (fun q => h q.1), m_fl_o h2]
/-- the state behind a tick by a code -/
def md_sg (J : Nat → Nat → Int) (M : Nat) (c : Int) : a_S := a_step (a_of (J (M + 22) 0)) c (md_wd J M (J (M + 22) 1))
/-- whether it can be -/
def md_tok (J : Nat → Nat → Int) (M : Nat) (c : Int) : Prop := J (M + 22) 1 ≠ 9999 ∧ a_why (md_cf J M) (md_sg J M c) = 0
def md_tj (J : Nat → Nat → Int) (M : Nat) (c : Int) : Nat → Nat → Int := md_note (m_up (md_rem (md_put J M (md_sg J M c)) M) (M + 22) 0 (a_no (md_sg J M c))) M c
/-- the numbers behind a tick -/
def md_tik (J : Nat → Nat → Int) (M : Nat) (c : Int) : Nat → Nat → Int := m_up (md_tj J M c) (M + 22) 1 (md_tj J M c (M + 22) 1 + 1)
theorem s_Md_ticks (hM : md_sh en M T P) (ok : a_ok (md_cf J M)) (hwn : 0 ≤ J (M + 2) 6 ∧ J (M + 2) 6 ≤ 8) (hwb : ∀ i : Nat, i < 8 → m_in (J (M + 10) i)) (hwv : ∀ i : Nat, i < 8 → -100 ≤ J (M + 11) i ∧ J (M + 11) i ≤ 100) (ht : 0 ≤ J (M + 22) 1 ∧ J (M + 22) 1 ≤ 9999) (hs : 0 ≤ J (M + 22) 0 ∧ J (M + 22) 0 < 38880) (hu : 0 ≤ J M 45 ∧ J M 45 ≤ 30) (h6 : 0 ≤ J (M + 22) 6 ∧ J (M + 22) 6 ≤ 40) {c : Int} (hc : 0 ≤ c ∧ c < 9)
    (hq0 : ¬ md_tok J M c → ∀ σ', Q (some (.int (m_i 0))) (T, m_I (md_put J M σ'), P, L, z, w)) (hq1 : md_tok J M c → Q (some (.int (m_i 1))) (T, m_I (md_tik J M c), P, L, z, w)) : m_call en (d + 5) mMd_ticks [.ref M, .int (m_i c)] (T, m_I (md_put J M σ), P, L, z, w) Q := by
  have hw := md_wd_bd hwn hwv (J (M + 22) 1)
  have hb01 := a_b_01 (decide (a_why (md_cf J M) (md_sg J M c) = 0))
  have h6e : m_up (md_rem (md_put J M (md_sg J M c)) M) (M + 22) 0 (a_no (md_sg J M c)) (M + 22) 6 = J (M + 22) 6 := by
    rw [m_up_at, if_neg (fun q => by have := q.2; omega), md_rem_o _ _ (by omega) (by omega), md_put_o _ _ _ (by omega)]
  refine m_into (by decide) (Nat.le_of_ble_eq_true rfl) rfl ?_
  show m_wp en _ mMd_ticks 0 [some (.ref M), some (.int (m_i (c))), none] [] (T, m_I ((md_put J M σ)), P, L, z, w) Q
  refine r_aln eMd_ticks_0 rfl ?_
  refine m_getR eMd_ticks_1 rfl hM.2.1 (md_s_p hM) ?_
  refine r_con eMd_ticks_4 ?_
  refine r_ialde (x := J (M + 22) 1) eMd_ticks_5 (md_s_t hM) (by decide) (by omega) (by omega) (by simp [m_up, md_put_at, m_fl]) ?_
  refine r_sip eMd_ticks_6 (by decide) ?_
  refine r_ceq (tgt := 36) eMd_ticks_9 rfl ⟨(by omega), (by omega)⟩ ⟨(by omega), (by omega)⟩ (fun c9 => ?_) (fun c9 => ?_)
  · refine r_con eMd_ticks_36 ?_
    refine r_zret eMd_ticks_37 rfl (by first | exact Or.inl rfl | exact Or.inr rfl | omega) ?_
    first | exact hq0 (fun q => q.1 (by omega)) _ | exact hq0 (fun q => by have := a_b_t (decide_eq_true q.2); omega) _
  · refine r_aln eMd_ticks_12 rfl ?_
    refine r_aln eMd_ticks_13 rfl ?_
    refine m_getR eMd_ticks_14 rfl hM.2.1 (md_s_p hM) ?_
    refine r_con eMd_ticks_17 ?_
    refine r_ialde (x := J (M + 22) 0) eMd_ticks_18 (md_s_t hM) (by decide) (by omega) (by omega) (by simp [m_up, md_put_at, m_fl]) ?_
    refine r_iln eMd_ticks_19 rfl ?_
    refine r_aln eMd_ticks_20 rfl ?_
    refine r_aln eMd_ticks_21 rfl ?_
    refine m_getR eMd_ticks_22 rfl hM.2.1 (md_s_p hM) ?_
    refine r_con eMd_ticks_25 ?_
    refine r_ialde (x := J (M + 22) 1) eMd_ticks_26 (md_s_t hM) (by decide) (by omega) (by omega) (by simp [m_up, md_put_at, m_fl]) ?_
    refine r_vir eMd_ticks_27 rfl rfl rfl hM.2.1 rfl rfl ?_
    refine s_Md_windAt hM ⟨by omega, by omega⟩ hwn hwb ?_
    show m_wp en _ mMd_ticks 30 [some (.ref M), some (.int (m_i (c))), none] [(.int (m_i (md_wd J M ((J (M + 22) 1))))), (.int (m_i (c))), (.int (m_i (J (M + 22) 0))), (.ref M)] (T, m_I ((md_put J M σ)), P, L, z, w) Q
    refine r_vir eMd_ticks_30 rfl rfl rfl hM.2.1 rfl rfl ?_
    refine s_Md_canStep hM ok (by omega) (by omega) hc (by omega) ?_
    show m_wp en _ mMd_ticks 33 [some (.ref M), some (.int (m_i (c))), none] [(.int (m_i (a_b (decide (a_why (md_cf J M) (md_sg J M (c)) = 0)))))] (T, m_I ((md_put J M (md_sg J M (c)))), P, L, z, w) Q
    refine r_zne (tgt := 38) eMd_ticks_33 rfl ⟨(by omega), (by omega)⟩ (fun c33 => ?_) (fun c33 => ?_)
    · refine r_aln eMd_ticks_38 rfl ?_
      refine r_vir eMd_ticks_39 rfl rfl rfl hM.2.1 rfl rfl ?_
      refine s_Md_laid hM ?_
      show m_wp en _ mMd_ticks 42 [some (.ref M), some (.int (m_i (c))), none] [(.int (m_i (a_no ((md_sg J M (c))))))] (T, m_I ((md_put J M (md_sg J M (c)))), P, L, z, w) Q
      refine r_isn (ls' := [some (.ref M), some (.int (m_i (c))), some (.int (m_i (a_no ((md_sg J M (c))))))]) eMd_ticks_42 (Nat.le_of_ble_eq_true rfl) rfl ?_
      refine r_aln eMd_ticks_43 rfl ?_
      refine r_vir eMd_ticks_44 rfl rfl rfl hM.2.1 rfl rfl ?_
      refine c_Md_remembers hM (by rw [md_put_f J M _ (by omega)]; exact hu) ?_
      show m_wp en _ mMd_ticks 47 [some (.ref M), some (.int (m_i (c))), some (.int (m_i (a_no ((md_sg J M (c))))))] [] (T, m_I ((md_rem ((md_put J M (md_sg J M (c)))) M)), P, L, z, w) Q
      refine r_aln eMd_ticks_47 rfl ?_
      refine m_getR eMd_ticks_48 rfl hM.2.1 (md_s_p hM) ?_
      refine r_con eMd_ticks_51 ?_
      refine r_iln eMd_ticks_52 rfl ?_
      refine r_iast eMd_ticks_53 (md_s_t hM) (by decide) (by omega) (by omega) (md_b hM 22) ?_
      refine r_aln eMd_ticks_54 rfl ?_
      refine r_iln eMd_ticks_55 rfl ?_
      refine r_vir eMd_ticks_56 rfl rfl rfl hM.2.1 rfl rfl ?_
      refine c_Md_notes hM hc (by have h6f := h6; rw [← h6e] at h6f; exact h6f) ?_
      show m_wp en _ mMd_ticks 59 [some (.ref M), some (.int (m_i (c))), some (.int (m_i (a_no ((md_sg J M (c))))))] [] (T, m_I ((md_tj J M (c))), P, L, z, w) Q
      refine r_aln eMd_ticks_59 rfl ?_
      refine m_getR eMd_ticks_60 rfl hM.2.1 (md_s_p hM) ?_
      refine r_con eMd_ticks_63 ?_
      refine r_dup2 eMd_ticks_64 ?_
      refine r_ialde (x := (md_tj J M (c)) (M + 22) 1) eMd_ticks_65 (md_s_t hM) (by decide) (by omega) (by omega) rfl ?_
      refine r_con eMd_ticks_66 ?_
      refine r_add eMd_ticks_67 ?_
      refine r_iast eMd_ticks_68 (md_s_t hM) (by decide) (by omega) (by omega) (md_b hM 22) ?_
      refine r_con eMd_ticks_69 ?_
      refine r_zret eMd_ticks_70 rfl (by first | exact Or.inl rfl | exact Or.inr rfl | omega) ?_
      exact hq1 ⟨by omega, of_decide_eq_true (Classical.byContradiction (fun q => c33 (a_b_f q)))⟩
    · refine r_con eMd_ticks_36 ?_
      refine r_zret eMd_ticks_37 rfl (by first | exact Or.inl rfl | exact Or.inr rfl | omega) ?_
      first | exact hq0 (fun q => q.1 (by omega)) _ | exact hq0 (fun q => by have := a_b_t (decide_eq_true q.2); omega) _
theorem c_Md_ticks (hM : md_sh en M T P) (ok : a_ok (md_cf J M)) (hwn : 0 ≤ J (M + 2) 6 ∧ J (M + 2) 6 ≤ 8) (hwb : ∀ i : Nat, i < 8 → m_in (J (M + 10) i)) (hwv : ∀ i : Nat, i < 8 → -100 ≤ J (M + 11) i ∧ J (M + 11) i ≤ 100) (ht : 0 ≤ J (M + 22) 1 ∧ J (M + 22) 1 ≤ 9999) (hs : 0 ≤ J (M + 22) 0 ∧ J (M + 22) 0 < 38880) (hu : 0 ≤ J M 45 ∧ J M 45 ≤ 30) (h6 : 0 ≤ J (M + 22) 6 ∧ J (M + 22) 6 ≤ 40) {c : Int} (hc : 0 ≤ c ∧ c < 9)
    (hq0 : ¬ md_tok J M c → ∀ σ', Q (some (.int (m_i 0))) (T, m_I (md_put J M σ'), P, L, z, w)) (hq1 : md_tok J M c → Q (some (.int (m_i 1))) (T, m_I (md_tik J M c), P, L, z, w)) : m_call en (d + 5) mMd_ticks [.ref M, .int (m_i c)] (T, m_I J, P, L, z, w) Q := by
  have h := s_Md_ticks (d := d) (σ := md_get J M) (z := z) (w := w) (L := L) hM ok hwn hwb hwv ht hs hu h6 hc hq0 hq1
  rw [md_put_get] at h
  exact h
theorem c_Md_step (hM : md_sh en M T P) (hJ : m_up J0 M 0 0 = J) (ok : a_ok (md_cf J M)) (hwn : 0 ≤ J (M + 2) 6 ∧ J (M + 2) 6 ≤ 8) (hwb : ∀ i : Nat, i < 8 → m_in (J (M + 10) i)) (hwv : ∀ i : Nat, i < 8 → -100 ≤ J (M + 11) i ∧ J (M + 11) i ≤ 100) (ht : 0 ≤ J (M + 22) 1 ∧ J (M + 22) 1 ≤ 9999) (hs : 0 ≤ J (M + 22) 0 ∧ J (M + 22) 0 < 38880) (hu : 0 ≤ J M 45 ∧ J M 45 ≤ 30) (h6 : 0 ≤ J (M + 22) 6 ∧ J (M + 22) 6 ≤ 40) {a u : Int} (ha : m_in a) (hu2 : m_in u)
    (hq0 : ¬ (-1 ≤ a ∧ a ≤ 1 ∧ -1 ≤ u ∧ u ≤ 1) → Q (some (.int (m_i (-1)))) (T, m_I J, P, L, z, w))
    (hq1 : (-1 ≤ a ∧ a ≤ 1 ∧ -1 ≤ u ∧ u ≤ 1) → ¬ md_tok J M (3 * (a + 1) + u + 1) → ∀ σ', Q (some (.int (m_i (-2)))) (T, m_I (md_put J M σ'), P, L, z, w))
    (hq2 : (-1 ≤ a ∧ a ≤ 1 ∧ -1 ≤ u ∧ u ≤ 1) → md_tok J M (3 * (a + 1) + u + 1) → Q (some (.int (m_i (md_tik J M (3 * (a + 1) + u + 1) (M + 22) 1)))) (T, m_I (md_tik J M (3 * (a + 1) + u + 1)), P, L, z, w)) : m_call en (d + 6) mMd_step [.ref M, .int (m_i a), .int (m_i u)] (T, m_I J0, P, L, z, w) Q := by
  unfold m_in at ha hu2
  refine m_into (by decide) (Nat.le_of_ble_eq_true rfl) rfl ?_
  show m_wp en _ mMd_step 0 [some (.ref M), some (.int (m_i (a))), some (.int (m_i (u)))] [] (T, m_I J0, P, L, z, w) Q
  refine r_aln eMd_step_0 rfl ?_
  refine r_con eMd_step_1 ?_
  refine r_put eMd_step_2 rfl hM.2.1 hM.1 (Or.inl rfl) ?_
  rw [hJ]
  refine r_iln eMd_step_5 rfl ?_
  refine r_con eMd_step_6 ?_
  refine r_clt (tgt := 25) eMd_step_7 rfl ⟨(by omega), (by omega)⟩ ⟨(by omega), (by omega)⟩ (fun c7 => ?_) (fun c7 => ?_)
  · refine r_con eMd_step_25 ?_
    refine r_iret eMd_step_26 rfl ?_
    exact hq0 (by omega)
  · refine r_iln eMd_step_10 rfl ?_
    refine r_con eMd_step_11 ?_
    refine r_cgt (tgt := 25) eMd_step_12 rfl ⟨(by omega), (by omega)⟩ ⟨(by omega), (by omega)⟩ (fun c12 => ?_) (fun c12 => ?_)
    · refine r_con eMd_step_25 ?_
      refine r_iret eMd_step_26 rfl ?_
      exact hq0 (by omega)
    · refine r_iln eMd_step_15 rfl ?_
      refine r_con eMd_step_16 ?_
      refine r_clt (tgt := 25) eMd_step_17 rfl ⟨(by omega), (by omega)⟩ ⟨(by omega), (by omega)⟩ (fun c17 => ?_) (fun c17 => ?_)
      · refine r_con eMd_step_25 ?_
        refine r_iret eMd_step_26 rfl ?_
        exact hq0 (by omega)
      · refine r_iln eMd_step_20 rfl ?_
        refine r_con eMd_step_21 ?_
        refine r_cle (tgt := 27) eMd_step_22 rfl ⟨(by omega), (by omega)⟩ ⟨(by omega), (by omega)⟩ (fun c22 => ?_) (fun c22 => ?_)
        · refine r_aln eMd_step_27 rfl ?_
          refine r_con eMd_step_28 ?_
          refine r_iln eMd_step_29 rfl ?_
          refine r_con eMd_step_30 ?_
          refine r_add eMd_step_31 ?_
          refine r_mul eMd_step_32 ?_
          refine r_iln eMd_step_33 rfl ?_
          refine r_add eMd_step_34 ?_
          refine r_con eMd_step_35 ?_
          refine r_add eMd_step_36 ?_
          refine r_vir eMd_step_37 rfl rfl rfl hM.2.1 rfl rfl ?_
          refine c_Md_ticks hM ok hwn hwb hwv ht hs hu h6 (by omega) (fun hA σ' => ?_) (fun hA => ?_)
          · show m_wp en _ mMd_step 40 [some (.ref M), some (.int (m_i (a))), some (.int (m_i (u)))] [(.int (m_i (0)))] (T, m_I ((md_put J M σ')), P, L, z, w) Q
            refine r_zeq (tgt := 52) eMd_step_40 rfl ⟨(by omega), (by omega)⟩ (fun c40 => ?_) (fun c40 => ?_)
            · refine r_bip eMd_step_52 (by decide) ?_
              refine r_iret eMd_step_54 rfl ?_
              first | exact hq1 (by omega) hA _ | exact hq2 (by omega) hA | (exfalso; omega)
            · refine r_aln eMd_step_43 rfl ?_
              refine m_getR eMd_step_44 rfl hM.2.1 (md_s_p hM) ?_
              refine r_con eMd_step_47 ?_
              refine r_ialde (x := J (M + 22) 1) eMd_step_48 (md_s_t hM) (by decide) (by omega) (by omega) (by simp [m_up, md_put_at, m_fl]) ?_
              refine r_go (tgt := 54) eMd_step_49 rfl ?_
              refine r_iret eMd_step_54 rfl ?_
              first | exact hq1 (by omega) hA _ | exact hq2 (by omega) hA | (exfalso; omega)
          · show m_wp en _ mMd_step 40 [some (.ref M), some (.int (m_i (a))), some (.int (m_i (u)))] [(.int (m_i (1)))] (T, m_I ((md_tik J M (((((3) * ((a) + (1))) + (u)) + (1))))), P, L, z, w) Q
            refine r_zeq (tgt := 52) eMd_step_40 rfl ⟨(by omega), (by omega)⟩ (fun c40 => ?_) (fun c40 => ?_)
            · refine r_bip eMd_step_52 (by decide) ?_
              refine r_iret eMd_step_54 rfl ?_
              first | exact hq1 (by omega) hA _ | exact hq2 (by omega) hA | (exfalso; omega)
            · refine r_aln eMd_step_43 rfl ?_
              refine m_getR eMd_step_44 rfl hM.2.1 (md_s_p hM) ?_
              refine r_con eMd_step_47 ?_
              refine r_ialde (x := (md_tik J M (((((3) * ((a) + (1))) + (u)) + (1)))) (M + 22) 1) eMd_step_48 (md_s_t hM) (by decide) (by omega) (by omega) rfl ?_
              refine r_go (tgt := 54) eMd_step_49 rfl ?_
              refine r_iret eMd_step_54 rfl ?_
              first | exact hq1 (by omega) hA _ | exact hq2 (by omega) hA | (exfalso; omega)
        · refine r_con eMd_step_25 ?_
          refine r_iret eMd_step_26 rfl ?_
          exact hq0 (by omega)
end MDT
