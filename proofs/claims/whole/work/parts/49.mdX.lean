/-! fewest, level, halt of the reference -/
theorem a_sp_bd {c e : Int} (hc : 0 ≤ c ∧ c < 16) (he : 0 ≤ e ∧ e ≤ 6) : -1 ≤ a_no (c, 0, 0, 0, e) ∧ a_no (c, 0, 0, 0, e) < 100000 := by
  unfold a_no
  simp only
  omega
/-- the number of a spot's state -/
def md_sp (J : Nat → Nat → Int) (M : Nat) (x : Int) : Int := a_no (J (M + 5) x.toNat, 0, 0, 0, J (M + 6) x.toNat)
/-- bounds of the spots -/
def md_sb (J : Nat → Nat → Int) (M : Nat) : Prop := (0 ≤ J (M + 2) 4 ∧ J (M + 2) 4 ≤ 6) ∧ ∀ i : Nat, i < 12 → (0 ≤ J (M + 5) i ∧ J (M + 5) i < 16) ∧ 0 ≤ J (M + 6) i ∧ J (M + 6) i ≤ 6
theorem md_sp_bd {J : Nat → Nat → Int} {M : Nat} (h : md_sb J M) {x : Int} (hx : 0 ≤ x ∧ x < 12) : -1 ≤ md_sp J M x ∧ md_sp J M x < 100000 := by
  have h1 := h.2 x.toNat (by omega)
  exact a_sp_bd h1.1 h1.2
section MDX
variable {en : Nat → Nat} {d : Nat} {T : Nat → Option (Nat × Nat)} {J J0 : Nat → Nat → Int} {P : Nat → Nat → Option Nat} {L : Nat → Nat → Int64} {z w M : Nat} {Q : m_Q} {σ : a_S}
theorem c_Md_fewest (hM : md_sh en M T P) (hJ : m_up J0 M 0 0 = J) (ok : a_ok (md_cf J M)) (hs : 0 ≤ J (M + 22) 0 ∧ J (M + 22) 0 < 38880) (hkp : md_kp J M) (hsb : md_sb J M) {x : Int} (hx : m_in x)
    (hq0 : ¬ (0 ≤ x ∧ x < J (M + 2) 4) → Q (some (.int (m_i (-1)))) (T, m_I J, P, L, z, w))
    (hq1 : (0 ≤ x ∧ x < J (M + 2) 4) → ¬ a_why (md_cf J M) (a_of (J (M + 22) 0)) = 0 → Q (some (.int (m_i (-2)))) (T, m_I (md_put J M (a_of (J (M + 22) 0))), P, L, z, w))
    (hq2 : (0 ≤ x ∧ x < J (M + 2) 4) → a_why (md_cf J M) (a_of (J (M + 22) 0)) = 0 → ∀ (J1 : Nat → Nat → Int) (r : Int), md_fx J J1 M → md_kp J1 M → s_ans (md_cf J M) (md_sp J M x) 0 (J (M + 22) 0) r → Q (some (.int (m_i r))) (T, m_I J1, P, L, z, w)) : m_call en (d + 9) mMd_fewest [.ref M, .int (m_i x)] (T, m_I J0, P, L, z, w) Q := by
  unfold m_in at hx
  have hsb1 := hsb.1
  refine m_into (by decide) (Nat.le_of_ble_eq_true rfl) rfl ?_
  show m_wp en _ mMd_fewest 0 [some (.ref M), some (.int (m_i (x)))] [] (T, m_I J0, P, L, z, w) Q
  refine r_aln eMd_fewest_0 rfl ?_
  refine r_con eMd_fewest_1 ?_
  refine r_put eMd_fewest_2 rfl hM.2.1 hM.1 (Or.inl rfl) ?_
  rw [hJ]
  refine r_aln eMd_fewest_5 rfl ?_
  refine r_iln eMd_fewest_6 rfl ?_
  refine r_vir eMd_fewest_7 rfl rfl rfl hM.2.1 rfl rfl ?_
  refine c_Md_isSpot hM ⟨by omega, by omega⟩ ⟨by omega, by omega⟩ ?_
  show m_wp en _ mMd_fewest 10 [some (.ref M), some (.int (m_i (x)))] [(.int (m_i (if 0 ≤ x ∧ x < J (M + 2) 4 then 1 else 0)))] (T, m_I J, P, L, z, w) Q
  refine r_zeq (tgt := 26) eMd_fewest_10 rfl ⟨(by omega), (by omega)⟩ (fun c10 => ?_) (fun c10 => ?_)
  · refine r_con eMd_fewest_26 ?_
    refine r_iret eMd_fewest_27 rfl ?_
    first | exact hq0 (by omega) | exact hq1 (by omega) hA | exact hq2 (by omega) hA J1 r hfx hkp1 hans
  · refine r_aln eMd_fewest_13 rfl ?_
    refine r_aln eMd_fewest_14 rfl ?_
    refine r_iln eMd_fewest_15 rfl ?_
    refine r_vir eMd_fewest_16 rfl rfl rfl hM.2.1 rfl rfl ?_
    refine c_Md_spotState hM (by omega) ?_
    show m_wp en _ mMd_fewest 19 [some (.ref M), some (.int (m_i (x)))] [(.int (m_i (md_sp J M (x)))), (.ref M)] (T, m_I J, P, L, z, w) Q
    refine r_con eMd_fewest_19 ?_
    refine r_vir eMd_fewest_20 rfl rfl rfl hM.2.1 rfl rfl ?_
    refine c_Md_fewestTo hM ok hs (md_sp_bd hsb (by omega)) (by omega) hkp (fun hA => ?_) (fun hA J1 r hfx hkp1 hans => ?_)
    · show m_wp en _ mMd_fewest 23 [some (.ref M), some (.int (m_i (x)))] [(.int (m_i (-2)))] (T, m_I ((md_put J M (a_of (J (M + 22) 0)))), P, L, z, w) Q
      refine r_go (tgt := 27) eMd_fewest_23 rfl ?_
      refine r_iret eMd_fewest_27 rfl ?_
      first | exact hq0 (by omega) | exact hq1 (by omega) hA | exact hq2 (by omega) hA J1 r hfx hkp1 hans
    · show m_wp en _ mMd_fewest 23 [some (.ref M), some (.int (m_i (x)))] [(.int (m_i (r)))] (T, m_I J1, P, L, z, w) Q
      refine r_go (tgt := 27) eMd_fewest_23 rfl ?_
      refine r_iret eMd_fewest_27 rfl ?_
      first | exact hq0 (by omega) | exact hq1 (by omega) hA | exact hq2 (by omega) hA J1 r hfx hkp1 hans
theorem c_Md_level (hM : md_sh en M T P) (hJ : m_up J0 M 0 0 = J) (ok : a_ok (md_cf J M)) (hs : 0 ≤ J (M + 22) 0 ∧ J (M + 22) 0 < 38880) (hkp : md_kp J M) (hsb : md_sb J M) {x : Int} (hx : m_in x)
    (hq0 : ¬ (0 ≤ x ∧ x < J (M + 2) 4) → Q (some (.int (m_i (-1)))) (T, m_I J, P, L, z, w))
    (hq1 : (0 ≤ x ∧ x < J (M + 2) 4) → ¬ a_why (md_cf J M) (a_of (J (M + 22) 0)) = 0 → Q (some (.int (m_i (-2)))) (T, m_I (md_put J M (a_of (J (M + 22) 0))), P, L, z, w))
    (hq2 : (0 ≤ x ∧ x < J (M + 2) 4) → a_why (md_cf J M) (a_of (J (M + 22) 0)) = 0 → ∀ (J1 : Nat → Nat → Int) (r : Int), md_fx J J1 M → md_kp J1 M → s_ans (md_cf J M) (md_sp J M x) 1 (J (M + 22) 0) r → Q (some (.int (m_i r))) (T, m_I J1, P, L, z, w)) : m_call en (d + 9) mMd_level [.ref M, .int (m_i x)] (T, m_I J0, P, L, z, w) Q := by
  unfold m_in at hx
  have hsb1 := hsb.1
  refine m_into (by decide) (Nat.le_of_ble_eq_true rfl) rfl ?_
  show m_wp en _ mMd_level 0 [some (.ref M), some (.int (m_i (x)))] [] (T, m_I J0, P, L, z, w) Q
  refine r_aln eMd_level_0 rfl ?_
  refine r_con eMd_level_1 ?_
  refine r_put eMd_level_2 rfl hM.2.1 hM.1 (Or.inl rfl) ?_
  rw [hJ]
  refine r_aln eMd_level_5 rfl ?_
  refine r_iln eMd_level_6 rfl ?_
  refine r_vir eMd_level_7 rfl rfl rfl hM.2.1 rfl rfl ?_
  refine c_Md_isSpot hM ⟨by omega, by omega⟩ ⟨by omega, by omega⟩ ?_
  show m_wp en _ mMd_level 10 [some (.ref M), some (.int (m_i (x)))] [(.int (m_i (if 0 ≤ x ∧ x < J (M + 2) 4 then 1 else 0)))] (T, m_I J, P, L, z, w) Q
  refine r_zeq (tgt := 26) eMd_level_10 rfl ⟨(by omega), (by omega)⟩ (fun c10 => ?_) (fun c10 => ?_)
  · refine r_con eMd_level_26 ?_
    refine r_iret eMd_level_27 rfl ?_
    first | exact hq0 (by omega) | exact hq1 (by omega) hA | exact hq2 (by omega) hA J1 r hfx hkp1 hans
  · refine r_aln eMd_level_13 rfl ?_
    refine r_aln eMd_level_14 rfl ?_
    refine r_iln eMd_level_15 rfl ?_
    refine r_vir eMd_level_16 rfl rfl rfl hM.2.1 rfl rfl ?_
    refine c_Md_spotState hM (by omega) ?_
    show m_wp en _ mMd_level 19 [some (.ref M), some (.int (m_i (x)))] [(.int (m_i (md_sp J M (x)))), (.ref M)] (T, m_I J, P, L, z, w) Q
    refine r_con eMd_level_19 ?_
    refine r_vir eMd_level_20 rfl rfl rfl hM.2.1 rfl rfl ?_
    refine c_Md_fewestTo hM ok hs (md_sp_bd hsb (by omega)) (by omega) hkp (fun hA => ?_) (fun hA J1 r hfx hkp1 hans => ?_)
    · show m_wp en _ mMd_level 23 [some (.ref M), some (.int (m_i (x)))] [(.int (m_i (-2)))] (T, m_I ((md_put J M (a_of (J (M + 22) 0)))), P, L, z, w) Q
      refine r_go (tgt := 27) eMd_level_23 rfl ?_
      refine r_iret eMd_level_27 rfl ?_
      first | exact hq0 (by omega) | exact hq1 (by omega) hA | exact hq2 (by omega) hA J1 r hfx hkp1 hans
    · show m_wp en _ mMd_level 23 [some (.ref M), some (.int (m_i (x)))] [(.int (m_i (r)))] (T, m_I J1, P, L, z, w) Q
      refine r_go (tgt := 27) eMd_level_23 rfl ?_
      refine r_iret eMd_level_27 rfl ?_
      first | exact hq0 (by omega) | exact hq1 (by omega) hA | exact hq2 (by omega) hA J1 r hfx hkp1 hans
theorem c_Md_halt (hM : md_sh en M T P) (hJ : m_up J0 M 0 0 = J) (ok : a_ok (md_cf J M)) (hs : 0 ≤ J (M + 22) 0 ∧ J (M + 22) 0 < 38880) (hkp : md_kp J M)
    (hq1 : ¬ a_why (md_cf J M) (a_of (J (M + 22) 0)) = 0 → Q (some (.int (m_i (-2)))) (T, m_I (md_put J M (a_of (J (M + 22) 0))), P, L, z, w))
    (hq2 : a_why (md_cf J M) (a_of (J (M + 22) 0)) = 0 → ∀ (J1 : Nat → Nat → Int) (r : Int), md_fx J J1 M → md_kp J1 M → s_ans (md_cf J M) (-1) 0 (J (M + 22) 0) r → Q (some (.int (m_i r))) (T, m_I J1, P, L, z, w)) : m_call en (d + 9) mMd_halt [.ref M] (T, m_I J0, P, L, z, w) Q := by
  refine m_into (by decide) (Nat.le_of_ble_eq_true rfl) rfl ?_
  show m_wp en _ mMd_halt 0 [some (.ref M)] [] (T, m_I J0, P, L, z, w) Q
  refine r_aln eMd_halt_0 rfl ?_
  refine r_con eMd_halt_1 ?_
  refine r_put eMd_halt_2 rfl hM.2.1 hM.1 (Or.inl rfl) ?_
  rw [hJ]
  refine r_aln eMd_halt_5 rfl ?_
  refine r_con eMd_halt_6 ?_
  refine r_con eMd_halt_7 ?_
  refine r_vir eMd_halt_8 rfl rfl rfl hM.2.1 rfl rfl ?_
  refine c_Md_fewestTo hM ok hs (by omega) (by omega) hkp (fun hA => ?_) (fun hA J1 r hfx hkp1 hans => ?_)
  · show m_wp en _ mMd_halt 11 [some (.ref M)] [(.int (m_i (-2)))] (T, m_I ((md_put J M (a_of (J (M + 22) 0)))), P, L, z, w) Q
    refine r_iret eMd_halt_11 rfl ?_
    first | exact hq1 hA | exact hq2 hA J1 r hfx hkp1 hans
  · show m_wp en _ mMd_halt 11 [some (.ref M)] [(.int (m_i (r)))] (T, m_I J1, P, L, z, w) Q
    refine r_iret eMd_halt_11 rfl ?_
    first | exact hq1 hA | exact hq2 hA J1 r hfx hkp1 hans
end MDX
