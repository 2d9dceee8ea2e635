theorem md_cf_put (J : Nat → Nat → Int) (M : Nat) (σ : a_S) : md_cf (md_put J M σ) M = md_cf J M := by
  simp [md_cf, md_put_at]
theorem md_put_o (J : Nat → Nat → Int) (M : Nat) (σ : a_S) {b i : Nat} (h : b ≠ M) : md_put J M σ b i = J b i := by
  simp [md_put_at, h]
theorem md_put_f (J : Nat → Nat → Int) (M : Nat) (σ : a_S) {i : Nat} (h : i < 33 ∨ 37 < i) : md_put J M σ M i = J M i := by
  rw [md_put_at, if_neg (by omega), if_neg (by omega), if_neg (by omega), if_neg (by omega), if_neg (by omega)]
/-- a state by its number, within bounds; a step's numbers are small, too -/
def a_t (σ : a_S) : Prop := (0 ≤ σ.1 ∧ σ.1 ≤ 100) ∧ (-2 ≤ σ.2.1 ∧ σ.2.1 ≤ 2) ∧ (-4 ≤ σ.2.2.1 ∧ σ.2.2.1 ≤ 4) ∧ (-4 ≤ σ.2.2.2.1 ∧ σ.2.2.2.1 ≤ 4) ∧ (1 ≤ σ.2.2.2.2 ∧ σ.2.2.2.2 ≤ 6)
theorem a_of_t {n : Int} (h0 : 0 ≤ n) (h1 : n < 100000) : a_t (a_of n) := by
  refine ⟨⟨?_, ?_⟩, ⟨?_, ?_⟩, ⟨?_, ?_⟩, ⟨?_, ?_⟩, ⟨?_, ?_⟩⟩ <;> simp only [a_of] <;> omega
theorem a_t_sm {σ : a_S} (h : a_t σ) : a_sm σ := by
  obtain ⟨h1, h2, h3, h4, h5⟩ := h
  exact ⟨by omega, by omega, by omega, by omega, by omega⟩
theorem a_of_sm {n : Int} (h0 : 0 ≤ n) (h1 : n < 100000) : a_sm (a_of n) := a_t_sm (a_of_t h0 h1)
theorem a_gr_bd (e : Int) : a_gr e = -1 ∨ a_gr e = 0 ∨ a_gr e = 1 := by
  unfold a_gr
  repeat' split
  all_goals omega
theorem a_grm {e v : Int} : a_gr e * v = -v ∨ a_gr e * v = 0 ∨ a_gr e * v = v := by
  rcases a_gr_bd e with h | h | h <;> rw [h] <;> omega
theorem a_step_sm {σ : a_S} (h : a_t σ) {k f : Int} (hk : 0 ≤ k ∧ k < 9) (hf : -100 ≤ f ∧ f ≤ 100) : a_sm (a_step σ k f) := by
  obtain ⟨h1, h2, h3, h4, h5⟩ := h
  have := a_grm (e := σ.2.2.2.2 + (k % 3 - 1)) (v := σ.2.2.1)
  refine ⟨⟨?_, ?_⟩, ⟨?_, ?_⟩, ⟨?_, ?_⟩, ⟨?_, ?_⟩, ⟨?_, ?_⟩⟩ <;> simp only [a_step] <;> omega
theorem a_back_sm {σ : a_S} (h : a_t σ) {k : Int} (hk : 0 ≤ k ∧ k < 9) : a_sm (a_back σ k) := by
  obtain ⟨h1, h2, h3, h4, h5⟩ := h
  have := a_grm (e := σ.2.2.2.2) (v := σ.2.2.2.1)
  refine ⟨⟨?_, ?_⟩, ⟨?_, ?_⟩, ⟨?_, ?_⟩, ⟨?_, ?_⟩, ⟨?_, ?_⟩⟩ <;> simp only [a_back] <;> omega
section MDD
variable {en : Nat → Nat} {d : Nat} {T : Nat → Option (Nat × Nat)} {J : Nat → Nat → Int} {P : Nat → Nat → Option Nat} {L : Nat → Nat → Int64} {z w M : Nat} {Q : m_Q} {σ : a_S}
theorem c_Md_whyNot (hM : md_sh en M T P) (ok : a_ok (md_cf J M)) (sm : a_sm (md_get J M)) (hq : Q (some (.int (m_i (a_why (md_cf J M) (md_get J M))))) (T, m_I J, P, L, z, w)) : m_call en (d + 3) mMd_whyNot [.ref M] (T, m_I J, P, L, z, w) Q := by
  obtain ⟨k1, k2, k3, k4, k5, k6⟩ := id ok
  obtain ⟨q1, q2, q3, q4, q5⟩ := id sm
  simp only [md_cf, md_get] at k1 k2 k3 k4 k5 q1 q2 q3 q4 q5
  have a1 : a_abs (J M 34) = J M 34 ∨ a_abs (J M 34) = -J M 34 := by unfold a_abs; split <;> omega
  have a2 : (0 ≤ J M 35 ∧ a_abs (J M 35) = J M 35) ∨ (J M 35 < 0 ∧ a_abs (J M 35) = -J M 35) := by unfold a_abs; split <;> omega
  have hw : a_why (md_cf J M) (md_get J M) = if ¬ (0 ≤ J M 33 ∧ J M 33 < J (M + 2) 0) then 1 else if J (M + 2) 2 < a_abs (J M 34) then 2 else if J M 37 < 1 ∨ J (M + 2) 1 < J M 37 then 3 else if J (M + 2) 3 < a_abs (J M 35) then 4 else if ¬ (0 ≤ J M 33 + J M 35 ∧ J M 33 + J M 35 < J (M + 2) 0) then 5 else if a_cl (md_cf J M) (md_get J M) = true then 0 else 6 := rfl
  have hb := a_b_01 (a_cl (md_cf J M) (md_get J M))
  refine m_into (by decide) (Nat.le_of_ble_eq_true rfl) rfl ?_
  show m_wp en _ mMd_whyNot 0 [some (.ref M)] [] (T, m_I J, P, L, z, w) Q
  refine r_aln eMd_whyNot_0 rfl ?_
  refine r_aln eMd_whyNot_1 rfl ?_
  refine r_gete (x := J M 33) eMd_whyNot_2 rfl (by decide) hM.2.1 rfl ?_
  refine r_vir eMd_whyNot_5 rfl rfl rfl hM.2.1 rfl rfl ?_
  refine c_Md_isThere hM ⟨by omega, by omega⟩ ⟨by omega, by omega⟩ ?_
  show m_wp en _ mMd_whyNot 8 [some (.ref M)] [(.int (m_i (if 0 ≤ (J M 33) ∧ (J M 33) < J (M + 2) 0 then 1 else 0)))] (T, m_I J, P, L, z, w) Q
  have e8 : (if 0 ≤ J M 33 ∧ J M 33 < J (M + 2) 0 then 1 else 0 : Int) = 0 ∨ (if 0 ≤ J M 33 ∧ J M 33 < J (M + 2) 0 then 1 else 0 : Int) = 1 := by split <;> omega
  refine r_zne (tgt := 13) eMd_whyNot_8 rfl ⟨(by omega), (by omega)⟩ (fun c8 => ?_) (fun c8 => ?_)
  · have f8 : 0 ≤ J M 33 ∧ J M 33 < J (M + 2) 0 := Classical.byContradiction (fun q => c8 (if_neg q))
    refine r_aln eMd_whyNot_13 rfl ?_
    refine r_gete (x := J M 34) eMd_whyNot_14 rfl (by decide) hM.2.1 rfl ?_
    refine r_sta eMd_whyNot_17 rfl rfl (by decide) rfl ?_
    refine c_Md_without ⟨by omega, by omega⟩ ?_
    show m_wp en _ mMd_whyNot 20 [some (.ref M)] [(.int (m_i (a_abs (J M 34))))] (T, m_I J, P, L, z, w) Q
    refine r_aln eMd_whyNot_20 rfl ?_
    refine m_getR eMd_whyNot_21 rfl hM.2.1 (md_number_p hM) ?_
    refine r_con eMd_whyNot_24 ?_
    refine r_ialde (x := J (M + 2) 2) eMd_whyNot_25 (md_number_t hM) (by decide) (by omega) (by omega) rfl ?_
    refine r_cle (tgt := 31) eMd_whyNot_26 rfl ⟨(by omega), (by omega)⟩ ⟨(by omega), (by omega)⟩ (fun c26 => ?_) (fun c26 => ?_)
    · refine r_aln eMd_whyNot_31 rfl ?_
      refine r_gete (x := J M 37) eMd_whyNot_32 rfl (by decide) hM.2.1 rfl ?_
      refine r_con eMd_whyNot_35 ?_
      refine r_clt (tgt := 52) eMd_whyNot_36 rfl ⟨(by omega), (by omega)⟩ ⟨(by omega), (by omega)⟩ (fun c36 => ?_) (fun c36 => ?_)
      · refine r_con eMd_whyNot_52 ?_
        refine r_iret eMd_whyNot_53 rfl ?_
        rw [hw, if_neg (by omega), if_neg (by omega), if_pos (by omega)] at hq
        exact hq
      · refine r_aln eMd_whyNot_39 rfl ?_
        refine r_gete (x := J M 37) eMd_whyNot_40 rfl (by decide) hM.2.1 rfl ?_
        refine r_aln eMd_whyNot_43 rfl ?_
        refine m_getR eMd_whyNot_44 rfl hM.2.1 (md_number_p hM) ?_
        refine r_con eMd_whyNot_47 ?_
        refine r_ialde (x := J (M + 2) 1) eMd_whyNot_48 (md_number_t hM) (by decide) (by omega) (by omega) rfl ?_
        refine r_cle (tgt := 54) eMd_whyNot_49 rfl ⟨(by omega), (by omega)⟩ ⟨(by omega), (by omega)⟩ (fun c49 => ?_) (fun c49 => ?_)
        · refine r_aln eMd_whyNot_54 rfl ?_
          refine r_gete (x := J M 35) eMd_whyNot_55 rfl (by decide) hM.2.1 rfl ?_
          refine r_sta eMd_whyNot_58 rfl rfl (by decide) rfl ?_
          refine c_Md_without ⟨by omega, by omega⟩ ?_
          show m_wp en _ mMd_whyNot 61 [some (.ref M)] [(.int (m_i (a_abs (J M 35))))] (T, m_I J, P, L, z, w) Q
          refine r_aln eMd_whyNot_61 rfl ?_
          refine m_getR eMd_whyNot_62 rfl hM.2.1 (md_number_p hM) ?_
          refine r_con eMd_whyNot_65 ?_
          refine r_ialde (x := J (M + 2) 3) eMd_whyNot_66 (md_number_t hM) (by decide) (by omega) (by omega) rfl ?_
          refine r_cle (tgt := 72) eMd_whyNot_67 rfl ⟨(by omega), (by omega)⟩ ⟨(by omega), (by omega)⟩ (fun c67 => ?_) (fun c67 => ?_)
          · refine r_aln eMd_whyNot_72 rfl ?_
            refine r_aln eMd_whyNot_73 rfl ?_
            refine r_gete (x := J M 33) eMd_whyNot_74 rfl (by decide) hM.2.1 rfl ?_
            refine r_aln eMd_whyNot_77 rfl ?_
            refine r_gete (x := J M 35) eMd_whyNot_78 rfl (by decide) hM.2.1 rfl ?_
            refine r_add eMd_whyNot_81 ?_
            refine r_vir eMd_whyNot_82 rfl rfl rfl hM.2.1 rfl rfl ?_
            refine c_Md_isThere hM ⟨by omega, by omega⟩ ⟨by omega, by omega⟩ ?_
            show m_wp en _ mMd_whyNot 85 [some (.ref M)] [(.int (m_i (if 0 ≤ ((J M 33) + (J M 35)) ∧ ((J M 33) + (J M 35)) < J (M + 2) 0 then 1 else 0)))] (T, m_I J, P, L, z, w) Q
            have e85 : (if 0 ≤ J M 33 + J M 35 ∧ J M 33 + J M 35 < J (M + 2) 0 then 1 else 0 : Int) = 0 ∨ (if 0 ≤ J M 33 + J M 35 ∧ J M 33 + J M 35 < J (M + 2) 0 then 1 else 0 : Int) = 1 := by split <;> omega
            refine r_zne (tgt := 90) eMd_whyNot_85 rfl ⟨(by omega), (by omega)⟩ (fun c85 => ?_) (fun c85 => ?_)
            · have f85 : 0 ≤ J M 33 + J M 35 ∧ J M 33 + J M 35 < J (M + 2) 0 := Classical.byContradiction (fun q => c85 (if_neg q))
              refine r_aln eMd_whyNot_90 rfl ?_
              refine r_vir eMd_whyNot_91 rfl rfl rfl hM.2.1 rfl rfl ?_
              refine c_Md_isClear hM ok (by omega) (by omega) (by omega) ?_
              show m_wp en _ mMd_whyNot 94 [some (.ref M)] [(.int (m_i (a_b (a_cl (md_cf J M) (md_get J M)))))] (T, m_I J, P, L, z, w) Q
              refine r_zeq (tgt := 101) eMd_whyNot_94 rfl ⟨(by omega), (by omega)⟩ (fun c94 => ?_) (fun c94 => ?_)
              · refine r_bip eMd_whyNot_101 (by decide) ?_
                refine r_iret eMd_whyNot_103 rfl ?_
                rw [hw, if_neg (by omega), if_neg (by omega), if_neg (by omega), if_neg (by omega), if_neg (by omega)] at hq
                by_cases hc : a_cl (md_cf J M) (md_get J M) = true
                · rw [if_pos hc] at hq; rw [a_b_t hc] at c94; first | exact hq | exact absurd c94 (by decide)
                · rw [if_neg hc] at hq; rw [a_b_f hc] at c94; first | exact hq | exact absurd rfl c94
              · refine r_con eMd_whyNot_97 ?_
                refine r_go (tgt := 103) eMd_whyNot_98 rfl ?_
                refine r_iret eMd_whyNot_103 rfl ?_
                rw [hw, if_neg (by omega), if_neg (by omega), if_neg (by omega), if_neg (by omega), if_neg (by omega)] at hq
                by_cases hc : a_cl (md_cf J M) (md_get J M) = true
                · rw [if_pos hc] at hq; rw [a_b_t hc] at c94; first | exact hq | exact absurd c94 (by decide)
                · rw [if_neg hc] at hq; rw [a_b_f hc] at c94; first | exact hq | exact absurd rfl c94
            · refine r_con eMd_whyNot_88 ?_
              refine r_iret eMd_whyNot_89 rfl ?_
              have f85 : ¬ (0 ≤ J M 33 + J M 35 ∧ J M 33 + J M 35 < J (M + 2) 0) := fun q => by rw [if_pos q] at c85; omega
              rw [hw, if_neg (by omega), if_neg (by omega), if_neg (by omega), if_neg (by omega), if_pos f85] at hq
              exact hq
          · refine r_con eMd_whyNot_70 ?_
            refine r_iret eMd_whyNot_71 rfl ?_
            rw [hw, if_neg (by omega), if_neg (by omega), if_neg (by omega), if_pos (by omega)] at hq
            exact hq
        · refine r_con eMd_whyNot_52 ?_
          refine r_iret eMd_whyNot_53 rfl ?_
          rw [hw, if_neg (by omega), if_neg (by omega), if_pos (by omega)] at hq
          exact hq
    · refine r_con eMd_whyNot_29 ?_
      refine r_iret eMd_whyNot_30 rfl ?_
      rw [hw, if_neg (by omega), if_pos (by omega)] at hq
      exact hq
  · refine r_con eMd_whyNot_11 ?_
    refine r_iret eMd_whyNot_12 rfl ?_
    have f8 : ¬ (0 ≤ J M 33 ∧ J M 33 < J (M + 2) 0) := fun q => by rw [if_pos q] at c8; omega
    rw [hw, if_pos f8] at hq
    exact hq
theorem a_why_bd (C : a_C) (σ : a_S) : 0 ≤ a_why C σ ∧ a_why C σ ≤ 6 := by
  unfold a_why
  repeat' split
  all_goals omega
theorem s_Md_whyNot (hM : md_sh en M T P) (ok : a_ok (md_cf J M)) (sm : a_sm σ) (hq : Q (some (.int (m_i (a_why (md_cf J M) σ)))) (T, m_I (md_put J M σ), P, L, z, w)) : m_call en (d + 3) mMd_whyNot [.ref M] (T, m_I (md_put J M σ), P, L, z, w) Q :=
  c_Md_whyNot hM (by rw [md_cf_put]; exact ok) (by rw [md_get_put]; exact sm) (by rw [md_cf_put, md_get_put]; exact hq)
theorem s_Md_lays (hM : md_sh en M T P) {n : Int} (h0 : 0 ≤ n) (h1 : n < 2147483648) (hq : Q none (T, m_I (md_put J M (a_of n)), P, L, z, w)) : m_call en (d + 1) mMd_lays [.ref M, .int (m_i n)] (T, m_I (md_put J M σ), P, L, z, w) Q :=
  c_Md_lays hM h0 h1 (by rw [md_put_put]; exact hq)
theorem s_Md_steps (hM : md_sh en M T P) {k f : Int} (h0 : 0 ≤ k) (h1 : k < 2147483648) (hd : m_in (σ.2.2.2.2 + (k % 3 - 1))) (hq : Q none (T, m_I (md_put J M (a_step σ k f)), P, L, z, w)) : m_call en (d + 2) mMd_steps [.ref M, .int (m_i k), .int (m_i f)] (T, m_I (md_put J M σ), P, L, z, w) Q :=
  c_Md_steps hM h0 h1 (by rw [md_put_at, if_pos ⟨rfl, rfl⟩]; exact hd) (by rw [md_put_put, md_get_put]; exact hq)
theorem s_Md_stepsBack (hM : md_sh en M T P) {k : Int} (h0 : 0 ≤ k) (h1 : k < 2147483648) (hd : m_in σ.2.2.2.2) (hq : Q none (T, m_I (md_put J M (a_back σ k)), P, L, z, w)) : m_call en (d + 2) mMd_stepsBack [.ref M, .int (m_i k)] (T, m_I (md_put J M σ), P, L, z, w) Q :=
  c_Md_stepsBack hM h0 h1 (by rw [md_put_at, if_pos ⟨rfl, rfl⟩]; exact hd) (by rw [md_put_put, md_get_put]; exact hq)
theorem s_Md_laid (hM : md_sh en M T P) (hq : Q (some (.int (m_i (a_no σ)))) (T, m_I (md_put J M σ), P, L, z, w)) : m_call en (d + 2) mMd_laid [.ref M] (T, m_I (md_put J M σ), P, L, z, w) Q :=
  c_Md_laid hM (by rw [md_get_put]; exact hq)
theorem s_Md_isState (hM : md_sh en M T P) (ok : a_ok (md_cf J M)) (sm : a_sm σ) (hq : Q (some (.int (m_i (a_b (a_is (md_cf J M) σ))))) (T, m_I (md_put J M σ), P, L, z, w)) : m_call en (d + 4) mMd_isState [.ref M] (T, m_I (md_put J M σ), P, L, z, w) Q := by
  have k4 : 1 ≤ J (M + 2) 3 ∧ J (M + 2) 3 ≤ 4 := ok.2.2.2.1
  have q4 := sm.2.2.2.1
  have hw := a_why_bd (md_cf J M) σ
  have a1 : a_abs σ.2.2.2.1 = σ.2.2.2.1 ∨ a_abs σ.2.2.2.1 = -σ.2.2.2.1 := by unfold a_abs; split <;> omega
  have hi : a_is (md_cf J M) σ = true ↔ a_why (md_cf J M) σ = 0 ∧ a_abs σ.2.2.2.1 ≤ J (M + 2) 3 := by
    unfold a_is
    rw [Bool.and_eq_true, decide_eq_true_eq, decide_eq_true_eq]
    exact Iff.rfl
  refine m_into (by decide) (Nat.le_of_ble_eq_true rfl) rfl ?_
  show m_wp en _ mMd_isState 0 [some (.ref M)] [] (T, m_I ((md_put J M σ)), P, L, z, w) Q
  refine r_aln eMd_isState_0 rfl ?_
  refine r_vir eMd_isState_1 rfl rfl rfl hM.2.1 rfl rfl ?_
  refine s_Md_whyNot hM ok sm ?_
  show m_wp en _ mMd_isState 4 [some (.ref M)] [(.int (m_i (a_why (md_cf J M) σ)))] (T, m_I ((md_put J M σ)), P, L, z, w) Q
  refine r_zne (tgt := 27) eMd_isState_4 rfl ⟨(by omega), (by omega)⟩ (fun c4 => ?_) (fun c4 => ?_)
  · refine r_con eMd_isState_27 ?_
    refine r_zret eMd_isState_28 rfl (by first | exact Or.inl rfl | exact Or.inr rfl | omega) ?_
    first | (rw [a_b_t (hi.mpr (by omega))] at hq; exact hq) | (rw [a_b_f (fun q => by have := hi.mp q; omega)] at hq; exact hq)
  · refine r_aln eMd_isState_7 rfl ?_
    refine r_gete (x := σ.2.2.2.1) eMd_isState_8 rfl (by decide) hM.2.1 (by simp [m_up, md_put_at, m_fl]) ?_
    refine r_sta eMd_isState_11 rfl rfl (by decide) rfl ?_
    refine c_Md_without ⟨by omega, by omega⟩ ?_
    show m_wp en _ mMd_isState 14 [some (.ref M)] [(.int (m_i (a_abs (σ.2.2.2.1))))] (T, m_I ((md_put J M σ)), P, L, z, w) Q
    refine r_aln eMd_isState_14 rfl ?_
    refine m_getR eMd_isState_15 rfl hM.2.1 (md_number_p hM) ?_
    refine r_con eMd_isState_18 ?_
    refine r_ialde (x := J (M + 2) 3) eMd_isState_19 (md_number_t hM) (by decide) (by omega) (by omega) (by simp [m_up, md_put_at, m_fl]) ?_
    refine r_cgt (tgt := 27) eMd_isState_20 rfl ⟨(by omega), (by omega)⟩ ⟨(by omega), (by omega)⟩ (fun c20 => ?_) (fun c20 => ?_)
    · refine r_con eMd_isState_27 ?_
      refine r_zret eMd_isState_28 rfl (by first | exact Or.inl rfl | exact Or.inr rfl | omega) ?_
      first | (rw [a_b_t (hi.mpr (by omega))] at hq; exact hq) | (rw [a_b_f (fun q => by have := hi.mp q; omega)] at hq; exact hq)
    · refine r_con eMd_isState_23 ?_
      refine r_go (tgt := 28) eMd_isState_24 rfl ?_
      refine r_zret eMd_isState_28 rfl (by first | exact Or.inl rfl | exact Or.inr rfl | omega) ?_
      first | (rw [a_b_t (hi.mpr (by omega))] at hq; exact hq) | (rw [a_b_f (fun q => by have := hi.mp q; omega)] at hq; exact hq)
theorem s_Md_doesStand (hM : md_sh en M T P) (ok : a_ok (md_cf J M)) {n : Int} (h0 : 0 ≤ n) (h1 : n < 100000) (hq : Q (some (.int (m_i (a_b (a_is (md_cf J M) (a_of n)))))) (T, m_I (md_put J M (a_of n)), P, L, z, w)) : m_call en (d + 5) mMd_doesStand [.ref M, .int (m_i n)] (T, m_I (md_put J M σ), P, L, z, w) Q := by
  have sm : a_sm (a_of n) := a_of_sm h0 h1
  have hb := a_b_01 (a_is (md_cf J M) (a_of n))
  refine m_into (by decide) (Nat.le_of_ble_eq_true rfl) rfl ?_
  show m_wp en _ mMd_doesStand 0 [some (.ref M), some (.int (m_i (n)))] [] (T, m_I ((md_put J M σ)), P, L, z, w) Q
  refine r_aln eMd_doesStand_0 rfl ?_
  refine r_iln eMd_doesStand_1 rfl ?_
  refine r_vir eMd_doesStand_2 rfl rfl rfl hM.2.1 rfl rfl ?_
  refine s_Md_lays hM (by omega) (by omega) ?_
  show m_wp en _ mMd_doesStand 5 [some (.ref M), some (.int (m_i (n)))] [] (T, m_I ((md_put J M (a_of n))), P, L, z, w) Q
  refine r_aln eMd_doesStand_5 rfl ?_
  refine r_vir eMd_doesStand_6 rfl rfl rfl hM.2.1 rfl rfl ?_
  refine s_Md_isState hM ok (by assumption) ?_
  show m_wp en _ mMd_doesStand 9 [some (.ref M), some (.int (m_i (n)))] [(.int (m_i (a_b (a_is (md_cf J M) ((a_of n))))))] (T, m_I ((md_put J M (a_of n))), P, L, z, w) Q
  refine r_zret eMd_doesStand_9 rfl (by first | exact Or.inl rfl | exact Or.inr rfl | omega) ?_
  exact hq
theorem s_Md_canStep (hM : md_sh en M T P) (ok : a_ok (md_cf J M)) {n k f : Int} (h0 : 0 ≤ n) (h1 : n < 100000) (hk : 0 ≤ k ∧ k < 9) (hf : -100 ≤ f ∧ f ≤ 100) (hq : Q (some (.int (m_i (a_b (decide (a_why (md_cf J M) (a_step (a_of n) k f) = 0)))))) (T, m_I (md_put J M (a_step (a_of n) k f)), P, L, z, w)) : m_call en (d + 4) mMd_canStep [.ref M, .int (m_i n), .int (m_i k), .int (m_i f)] (T, m_I (md_put J M σ), P, L, z, w) Q := by
  have sm0 : a_sm (a_of n) := a_of_sm h0 h1
  have sm : a_sm (a_step (a_of n) k f) := a_step_sm (a_of_t h0 h1) hk hf
  have hd := (a_of_t h0 h1).2.2.2.2
  have hw := a_why_bd (md_cf J M) (a_step (a_of n) k f)
  refine m_into (by decide) (Nat.le_of_ble_eq_true rfl) rfl ?_
  show m_wp en _ mMd_canStep 0 [some (.ref M), some (.int (m_i (n))), some (.int (m_i (k))), some (.int (m_i (f)))] [] (T, m_I ((md_put J M σ)), P, L, z, w) Q
  refine r_aln eMd_canStep_0 rfl ?_
  refine r_iln eMd_canStep_1 rfl ?_
  refine r_vir eMd_canStep_2 rfl rfl rfl hM.2.1 rfl rfl ?_
  refine s_Md_lays hM (by omega) (by omega) ?_
  show m_wp en _ mMd_canStep 5 [some (.ref M), some (.int (m_i (n))), some (.int (m_i (k))), some (.int (m_i (f)))] [] (T, m_I ((md_put J M (a_of n))), P, L, z, w) Q
  refine r_aln eMd_canStep_5 rfl ?_
  refine r_iln eMd_canStep_6 rfl ?_
  refine r_iln eMd_canStep_7 rfl ?_
  refine r_vir eMd_canStep_8 rfl rfl rfl hM.2.1 rfl rfl ?_
  refine s_Md_steps hM (by omega) (by omega) ⟨by omega, by omega⟩ ?_
  show m_wp en _ mMd_canStep 11 [some (.ref M), some (.int (m_i (n))), some (.int (m_i (k))), some (.int (m_i (f)))] [] (T, m_I ((md_put J M (a_step ((a_of n)) k f))), P, L, z, w) Q
  refine r_aln eMd_canStep_11 rfl ?_
  refine r_vir eMd_canStep_12 rfl rfl rfl hM.2.1 rfl rfl ?_
  refine s_Md_whyNot hM ok (by assumption) ?_
  show m_wp en _ mMd_canStep 15 [some (.ref M), some (.int (m_i (n))), some (.int (m_i (k))), some (.int (m_i (f)))] [(.int (m_i (a_why (md_cf J M) ((a_step ((a_of n)) k f)))))] (T, m_I ((md_put J M (a_step ((a_of n)) k f))), P, L, z, w) Q
  refine r_zne (tgt := 22) eMd_canStep_15 rfl ⟨(by omega), (by omega)⟩ (fun c15 => ?_) (fun c15 => ?_)
  · refine r_con eMd_canStep_22 ?_
    refine r_zret eMd_canStep_23 rfl (by first | exact Or.inl rfl | exact Or.inr rfl | omega) ?_
    first | (rw [a_b_t (decide_eq_true (by omega))] at hq; exact hq) | (rw [a_b_f (fun q => by have := of_decide_eq_true q; omega)] at hq; exact hq)
  · refine r_con eMd_canStep_18 ?_
    refine r_go (tgt := 23) eMd_canStep_19 rfl ?_
    refine r_zret eMd_canStep_23 rfl (by first | exact Or.inl rfl | exact Or.inr rfl | omega) ?_
    first | (rw [a_b_t (decide_eq_true (by omega))] at hq; exact hq) | (rw [a_b_f (fun q => by have := of_decide_eq_true q; omega)] at hq; exact hq)
theorem s_Md_stepped (hM : md_sh en M T P) {n k : Int} (h0 : 0 ≤ n) (h1 : n < 100000) (hk : 0 ≤ k ∧ k < 9) (hq : Q (some (.int (m_i (a_no (a_step (a_of n) k 0))))) (T, m_I (md_put J M (a_step (a_of n) k 0)), P, L, z, w)) : m_call en (d + 3) mMd_stepped [.ref M, .int (m_i n), .int (m_i k)] (T, m_I (md_put J M σ), P, L, z, w) Q := by
  have hd := (a_of_t h0 h1).2.2.2.2
  refine m_into (by decide) (Nat.le_of_ble_eq_true rfl) rfl ?_
  show m_wp en _ mMd_stepped 0 [some (.ref M), some (.int (m_i (n))), some (.int (m_i (k)))] [] (T, m_I ((md_put J M σ)), P, L, z, w) Q
  refine r_aln eMd_stepped_0 rfl ?_
  refine r_iln eMd_stepped_1 rfl ?_
  refine r_vir eMd_stepped_2 rfl rfl rfl hM.2.1 rfl rfl ?_
  refine s_Md_lays hM (by omega) (by omega) ?_
  show m_wp en _ mMd_stepped 5 [some (.ref M), some (.int (m_i (n))), some (.int (m_i (k)))] [] (T, m_I ((md_put J M (a_of n))), P, L, z, w) Q
  refine r_aln eMd_stepped_5 rfl ?_
  refine r_iln eMd_stepped_6 rfl ?_
  refine r_con eMd_stepped_7 ?_
  refine r_vir eMd_stepped_8 rfl rfl rfl hM.2.1 rfl rfl ?_
  refine s_Md_steps hM (by omega) (by omega) ⟨by omega, by omega⟩ ?_
  show m_wp en _ mMd_stepped 11 [some (.ref M), some (.int (m_i (n))), some (.int (m_i (k)))] [] (T, m_I ((md_put J M (a_step ((a_of n)) k 0))), P, L, z, w) Q
  refine r_aln eMd_stepped_11 rfl ?_
  refine r_vir eMd_stepped_12 rfl rfl rfl hM.2.1 rfl rfl ?_
  refine s_Md_laid hM ?_
  show m_wp en _ mMd_stepped 15 [some (.ref M), some (.int (m_i (n))), some (.int (m_i (k)))] [(.int (m_i (a_no ((a_step ((a_of n)) k 0)))))] (T, m_I ((md_put J M (a_step ((a_of n)) k 0))), P, L, z, w) Q
  refine r_iret eMd_stepped_15 rfl ?_
  exact hq
end MDD
