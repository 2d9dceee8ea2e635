/-! bears, deeds of the reference -/
section MDAE
variable {en : Nat → Nat} {d : Nat} {T : Nat → Option (Nat × Nat)} {J J0 J1 : Nat → Nat → Int} {P : Nat → Nat → Option Nat} {L : Nat → Nat → Int64} {z w M : Nat} {Q : m_Q} {σ : a_S}
theorem z_Md_bears (hM : md_sh en M T P) (ok : a_ok (md_cf J M)) (hs : 0 ≤ J (M + 22) 0 ∧ J (M + 22) 0 < 38880) (hK : s_Kn J J1 M (-1) 0) (hkp : md_kp J1 M) (hq : ∀ (J2 : Nat → Nat → Int) (r : Int), md_fx J J2 M → md_kp J2 M → s_brs (md_cf J M) (J (M + 22) 0) r → Q (some (.int (m_i r))) (T, m_I J2, P, L, z, w)) : m_wp en (d + 5) mMd_bears 23 [some (.ref M), some (.int (m_i 0))] [] (T, m_I J1, P, L, z, w) Q := by
  have e22 : J1 (M + 22) 0 = J (M + 22) 0 := hK.1 (M + 22) 0 (by omega) (by omega) (by omega)
  have ecf : md_cf J1 M = md_cf J M := hK.1.cf
  have h := l_Md_bears (d := d) (J := J1) (z := z) (w := w) (L := L) (T := T) (P := P) (Q := Q) hM (by rw [ecf]; exact ok) (by rw [e22]; exact hs) (s_Kn_self hK) (fun r σ' hr => hq _ r (hK.1.put _) (md_kp_put _ hkp) (by rw [ecf, e22] at hr; exact hr)) 9 0 (md_get J1 M) (by omega) (by omega) (fun j j0 j1 => by omega)
  rw [md_put_get] at h
  exact h
theorem c_Md_bears (hM : md_sh en M T P) (hJ : m_up J0 M 0 0 = J) (ok : a_ok (md_cf J M)) (hs : 0 ≤ J (M + 22) 0 ∧ J (M + 22) 0 < 38880) (hkp : md_kp J M)
    (hq1 : ¬ a_why (md_cf J M) (a_of (J (M + 22) 0)) = 0 → Q (some (.int (m_i (-2)))) (T, m_I (md_put J M (a_of (J (M + 22) 0))), P, L, z, w))
    (hq2 : a_why (md_cf J M) (a_of (J (M + 22) 0)) = 0 → ∀ (J2 : Nat → Nat → Int) (r : Int), md_fx J J2 M → md_kp J2 M → s_brs (md_cf J M) (J (M + 22) 0) r → Q (some (.int (m_i r))) (T, m_I J2, P, L, z, w)) : m_call en (d + 8) mMd_bears [.ref M] (T, m_I J0, P, L, z, w) Q := by
  have hwb := a_why_bd (md_cf J M) (a_of (J (M + 22) 0))
  refine m_into (by decide) (Nat.le_of_ble_eq_true rfl) rfl ?_
  show m_wp en _ mMd_bears 0 [some (.ref M), none] [] (T, m_I J0, P, L, z, w) Q
  refine r_aln eMd_bears_0 rfl ?_
  refine r_con eMd_bears_1 ?_
  refine r_put eMd_bears_2 rfl hM.2.1 hM.1 (Or.inl rfl) ?_
  rw [hJ]
  refine r_aln eMd_bears_5 rfl ?_
  refine r_vir eMd_bears_6 rfl rfl rfl hM.2.1 rfl rfl ?_
  refine z_Md_whyNow hM ok hs ?_
  show m_wp en _ mMd_bears 9 [some (.ref M), none] [(.int (m_i (a_why (md_cf J M) (a_of (J (M + 22) 0)))))] (T, m_I ((md_put J M (a_of (J (M + 22) 0)))), P, L, z, w) Q
  refine r_zeq (tgt := 15) eMd_bears_9 rfl ⟨(by omega), (by omega)⟩ (fun c9 => ?_) (fun c9 => ?_)
  · refine r_aln eMd_bears_15 rfl ?_
    refine r_con eMd_bears_16 ?_
    refine r_con eMd_bears_17 ?_
    refine r_vir eMd_bears_18 rfl rfl rfl hM.2.1 rfl rfl ?_
    refine k_Md_seeks hM (by rw [md_cf_put]; exact ok) (by omega) (by omega) (md_kp_put _ hkp) (fun J1 hfx hkp1 hK0 => ?_)
    · have hK := s_Kn_base hK0
      show m_wp en _ mMd_bears 21 [some (.ref M), none] [] (T, m_I J1, P, L, z, w) Q
      refine r_con eMd_bears_21 ?_
      refine r_isn (ls' := [some (.ref M), some (.int (m_i (0)))]) eMd_bears_22 (Nat.le_of_ble_eq_true rfl) rfl ?_
      exact z_Md_bears (d := d + 2) hM ok hs hK hkp1 (hq2 (by omega))
  · refine r_bip eMd_bears_12 (by decide) ?_
    refine r_iret eMd_bears_14 rfl ?_
    exact hq1 (by omega)
theorem c_Md_deeds {c : Int} (hc : 0 ≤ c ∧ c < 9) (hq : Q (some (.int (m_i ((if c / 3 = 1 then 0 else 1) + (if c % 3 = 1 then 0 else 1))))) (T, m_I J, P, L, z, w)) : m_call en (d + 1) mMd_deeds [.int (m_i c)] (T, m_I J, P, L, z, w) Q := by
  refine m_into (by decide) (Nat.le_of_ble_eq_true rfl) rfl ?_
  show m_wp en _ mMd_deeds 0 [some (.int (m_i (c)))] [] (T, m_I J, P, L, z, w) Q
  refine r_iln eMd_deeds_0 rfl ?_
  refine r_con eMd_deeds_1 ?_
  refine r_div eMd_deeds_2 ⟨(by omega), (by omega)⟩ ⟨(by omega), (by omega)⟩ ?_
  refine r_con eMd_deeds_3 ?_
  refine r_cne (tgt := 11) eMd_deeds_4 rfl ⟨(by omega), (by omega)⟩ ⟨(by omega), (by omega)⟩ (fun c4 => ?_) (fun c4 => ?_)
  · refine r_con eMd_deeds_11 ?_
    refine r_iln eMd_deeds_12 rfl ?_
    refine r_con eMd_deeds_13 ?_
    refine r_rem eMd_deeds_14 ⟨(by omega), (by omega)⟩ ⟨(by omega), (by omega)⟩ ?_
    refine r_con eMd_deeds_15 ?_
    refine r_cne (tgt := 23) eMd_deeds_16 rfl ⟨(by omega), (by omega)⟩ ⟨(by omega), (by omega)⟩ (fun c16 => ?_) (fun c16 => ?_)
    · refine r_con eMd_deeds_23 ?_
      refine r_add eMd_deeds_24 ?_
      refine r_iret eMd_deeds_25 rfl ?_
      (repeat (first | rw [if_pos (show c / 3 = 1 by omega)] at hq | rw [if_neg (show ¬ c / 3 = 1 by omega)] at hq | rw [if_pos (show c % 3 = 1 by omega)] at hq | rw [if_neg (show ¬ c % 3 = 1 by omega)] at hq))
      exact hq
    · refine r_con eMd_deeds_19 ?_
      refine r_go (tgt := 24) eMd_deeds_20 rfl ?_
      refine r_add eMd_deeds_24 ?_
      refine r_iret eMd_deeds_25 rfl ?_
      (repeat (first | rw [if_pos (show c / 3 = 1 by omega)] at hq | rw [if_neg (show ¬ c / 3 = 1 by omega)] at hq | rw [if_pos (show c % 3 = 1 by omega)] at hq | rw [if_neg (show ¬ c % 3 = 1 by omega)] at hq))
      exact hq
  · refine r_con eMd_deeds_7 ?_
    refine r_go (tgt := 12) eMd_deeds_8 rfl ?_
    refine r_iln eMd_deeds_12 rfl ?_
    refine r_con eMd_deeds_13 ?_
    refine r_rem eMd_deeds_14 ⟨(by omega), (by omega)⟩ ⟨(by omega), (by omega)⟩ ?_
    refine r_con eMd_deeds_15 ?_
    refine r_cne (tgt := 23) eMd_deeds_16 rfl ⟨(by omega), (by omega)⟩ ⟨(by omega), (by omega)⟩ (fun c16 => ?_) (fun c16 => ?_)
    · refine r_con eMd_deeds_23 ?_
      refine r_add eMd_deeds_24 ?_
      refine r_iret eMd_deeds_25 rfl ?_
      (repeat (first | rw [if_pos (show c / 3 = 1 by omega)] at hq | rw [if_neg (show ¬ c / 3 = 1 by omega)] at hq | rw [if_pos (show c % 3 = 1 by omega)] at hq | rw [if_neg (show ¬ c % 3 = 1 by omega)] at hq))
      exact hq
    · refine r_con eMd_deeds_19 ?_
      refine r_go (tgt := 24) eMd_deeds_20 rfl ?_
      refine r_add eMd_deeds_24 ?_
      refine r_iret eMd_deeds_25 rfl ?_
      (repeat (first | rw [if_pos (show c / 3 = 1 by omega)] at hq | rw [if_neg (show ¬ c / 3 = 1 by omega)] at hq | rw [if_pos (show c % 3 = 1 by omega)] at hq | rw [if_neg (show ¬ c % 3 = 1 by omega)] at hq))
      exact hq
end MDAE
