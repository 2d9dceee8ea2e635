/-! by, rests of the reference -/
section MDAB
variable {en : Nat → Nat} {d : Nat} {T : Nat → Option (Nat × Nat)} {J J0 J1 : Nat → Nat → Int} {P : Nat → Nat → Option Nat} {L : Nat → Nat → Int64} {z w M : Nat} {Q : m_Q} {σ : a_S}
theorem s_Kn_far {goal n r : Int} (hK : s_Kn J J1 M goal 0) (hn : 0 ≤ n ∧ n < 38880) (ha : s_ans (md_cf J M) goal 0 n r) (hr : 0 ≤ r) : J1 (M + 20) n.toNat = r := by
  have hsa := s_ans_u (s_Kn_ans hK hn) ha
  by_cases q : J1 (M + 20) n.toNat = 30000
  · rw [if_pos q] at hsa
    omega
  · rw [if_neg q] at hsa
    exact hsa
theorem z_Md_by (hM : md_sh en M T P) (ok : a_ok (md_cf J M)) (hs : 0 ≤ J (M + 22) 0 ∧ J (M + 22) 0 < 38880) {goal x k r : Int} (hK : s_Kn J J1 M goal 0) (hans : s_ans (md_cf J M) goal 0 (J (M + 22) 0) r) (hk : 0 ≤ k ∧ k < r) (hr : r < 30000)
    (hq : ∀ st c σ', s_way (md_cf J M) goal (J (M + 22) 0) k.toNat st → s_first (md_cf J M) goal st c → Q (some (.int (m_i c))) (T, m_I (md_put J1 M σ'), P, L, z, w)) : m_wp en (d + 5) mMd_by 38 [some (.ref M), some (.int (m_i x)), some (.int (m_i k)), some (.int (m_i r)), none, none] [] (T, m_I J1, P, L, z, w) Q := by
  have e22 : J1 (M + 22) 0 = J (M + 22) 0 := hK.1 (M + 22) 0 (by omega) (by omega) (by omega)
  have hfar := s_Kn_far hK hs hans (by omega)
  have h := l_Md_by (d := d) (z := z) (w := w) (L := L) (T := T) (P := P) (Q := Q) (x := x) (n0 := J (M + 22) 0) hM ok hK hk hr hq k.toNat 0 (J (M + 22) 0) (md_get J1 M) (by omega) (by omega) hs (by omega) (by change _ = _; rfl)
  rw [md_put_get] at h
  refine r_aln eMd_by_38 rfl ?_
  refine m_getR eMd_by_39 rfl hM.2.1 (md_s_p hM) ?_
  refine r_con eMd_by_42 ?_
  refine r_ialde (x := J1 (M + 22) 0) eMd_by_43 (md_s_t hM) (by decide) (by omega) (by omega) rfl ?_
  rw [e22]
  refine r_is (ls' := [some (.ref M), some (.int (m_i (x))), some (.int (m_i (k))), some (.int (m_i (r))), some (.int (m_i (J (M + 22) 0))), none]) eMd_by_44 (Nat.le_of_ble_eq_true rfl) rfl ?_
  refine r_con eMd_by_46 ?_
  refine r_is (ls' := [some (.ref M), some (.int (m_i (x))), some (.int (m_i (k))), some (.int (m_i (r))), some (.int (m_i (J (M + 22) 0))), some (.int (m_i (0)))]) eMd_by_47 (Nat.le_of_ble_eq_true rfl) rfl ?_
  exact h
theorem c_Md_by (hM : md_sh en M T P) (hJ : m_up J0 M 0 0 = J) (ok : a_ok (md_cf J M)) (hs : 0 ≤ J (M + 22) 0 ∧ J (M + 22) 0 < 38880) (hkp : md_kp J M) (hsb : md_sb J M) {x k : Int} (hx : m_in x) (hki : m_in k)
    (hq0 : ¬ ((0 ≤ x ∧ x < J (M + 2) 4) ∧ 0 ≤ k) → Q (some (.int (m_i (-1)))) (T, m_I J, P, L, z, w))
    (hq1 : (0 ≤ x ∧ x < J (M + 2) 4) ∧ 0 ≤ k → ¬ a_why (md_cf J M) (a_of (J (M + 22) 0)) = 0 → Q (some (.int (m_i (-2)))) (T, m_I (md_put J M (a_of (J (M + 22) 0))), P, L, z, w))
    (hq2 : (0 ≤ x ∧ x < J (M + 2) 4) ∧ 0 ≤ k → a_why (md_cf J M) (a_of (J (M + 22) 0)) = 0 → ∀ (J1 : Nat → Nat → Int) (r : Int), md_fx J J1 M → md_kp J1 M → s_ans (md_cf J M) (md_sp J M x) 0 (J (M + 22) 0) r → r ≤ k → Q (some (.int (m_i (-2)))) (T, m_I J1, P, L, z, w))
    (hq3 : (0 ≤ x ∧ x < J (M + 2) 4) ∧ 0 ≤ k → a_why (md_cf J M) (a_of (J (M + 22) 0)) = 0 → ∀ (J1 : Nat → Nat → Int) (r : Int), md_fx J J1 M → md_kp J1 M → s_ans (md_cf J M) (md_sp J M x) 0 (J (M + 22) 0) r → k < r → ∀ st c, s_way (md_cf J M) (md_sp J M x) (J (M + 22) 0) k.toNat st → s_first (md_cf J M) (md_sp J M x) st c → Q (some (.int (m_i c))) (T, m_I J1, P, L, z, w)) : m_call en (d + 9) mMd_by [.ref M, .int (m_i x), .int (m_i k)] (T, m_I J0, P, L, z, w) Q := by
  unfold m_in at hx hki
  have hsb1 := hsb.1
  refine m_into (by decide) (Nat.le_of_ble_eq_true rfl) rfl ?_
  show m_wp en _ mMd_by 0 [some (.ref M), some (.int (m_i (x))), some (.int (m_i (k))), none, none, none] [] (T, m_I J0, P, L, z, w) Q
  refine r_aln eMd_by_0 rfl ?_
  refine r_con eMd_by_1 ?_
  refine r_put eMd_by_2 rfl hM.2.1 hM.1 (Or.inl rfl) ?_
  rw [hJ]
  refine r_aln eMd_by_5 rfl ?_
  refine r_iln eMd_by_6 rfl ?_
  refine r_vir eMd_by_7 rfl rfl rfl hM.2.1 rfl rfl ?_
  refine c_Md_isSpot hM ⟨by omega, by omega⟩ ⟨by omega, by omega⟩ ?_
  show m_wp en _ mMd_by 10 [some (.ref M), some (.int (m_i (x))), some (.int (m_i (k))), none, none, none] [(.int (m_i (if 0 ≤ x ∧ x < J (M + 2) 4 then 1 else 0)))] (T, m_I J, P, L, z, w) Q
  refine r_zeq (tgt := 17) eMd_by_10 rfl ⟨(by omega), (by omega)⟩ (fun c10 => ?_) (fun c10 => ?_)
  · refine r_con eMd_by_17 ?_
    refine r_iret eMd_by_18 rfl ?_
    exact hq0 (by omega)
  · refine r_iln eMd_by_13 rfl ?_
    refine r_zge (tgt := 19) eMd_by_14 rfl ⟨(by omega), (by omega)⟩ (fun c14 => ?_) (fun c14 => ?_)
    · refine r_aln eMd_by_19 rfl ?_
      refine r_aln eMd_by_20 rfl ?_
      refine r_iln eMd_by_21 rfl ?_
      refine r_vir eMd_by_22 rfl rfl rfl hM.2.1 rfl rfl ?_
      refine c_Md_spotState hM (by omega) ?_
      show m_wp en _ mMd_by 25 [some (.ref M), some (.int (m_i (x))), some (.int (m_i (k))), none, none, none] [(.int (m_i (md_sp J M (x)))), (.ref M)] (T, m_I J, P, L, z, w) Q
      refine r_con eMd_by_25 ?_
      refine r_vir eMd_by_26 rfl rfl rfl hM.2.1 rfl rfl ?_
      refine k_Md_fewestTo hM ok hs (md_sp_bd hsb (by omega)) (by omega) hkp (fun hA => ?_) (fun hA J1 r hkp1 hK hans hrb => ?_)
      · show m_wp en _ mMd_by 29 [some (.ref M), some (.int (m_i (x))), some (.int (m_i (k))), none, none, none] [(.int (m_i (-2)))] (T, m_I ((md_put J M (a_of (J (M + 22) 0)))), P, L, z, w) Q
        refine r_isn (ls' := [some (.ref M), some (.int (m_i (x))), some (.int (m_i (k))), some (.int (m_i (-2))), none, none]) eMd_by_29 (Nat.le_of_ble_eq_true rfl) rfl ?_
        refine r_iln eMd_by_30 rfl ?_
        refine r_iln eMd_by_31 rfl ?_
        refine r_clt (tgt := 38) eMd_by_32 rfl ⟨(by omega), (by omega)⟩ ⟨(by omega), (by omega)⟩ (fun c32 => ?_) (fun c32 => ?_)
        · first | (exfalso; omega) | exact z_Md_by (d := d + 3) hM ok hs hK hans (by omega) (by omega) (fun st c σ' w1 f1 => hq3 (by omega) hA (md_put J1 M σ') r (hK.1.put _) (md_kp_put _ hkp1) hans (by omega) st c w1 f1)
        · refine r_bip eMd_by_35 (by decide) ?_
          refine r_iret eMd_by_37 rfl ?_
          first | exact hq1 (by omega) hA | exact hq2 (by omega) hA J1 r hK.1 hkp1 hans (by omega)
      · show m_wp en _ mMd_by 29 [some (.ref M), some (.int (m_i (x))), some (.int (m_i (k))), none, none, none] [(.int (m_i (r)))] (T, m_I J1, P, L, z, w) Q
        refine r_isn (ls' := [some (.ref M), some (.int (m_i (x))), some (.int (m_i (k))), some (.int (m_i (r))), none, none]) eMd_by_29 (Nat.le_of_ble_eq_true rfl) rfl ?_
        refine r_iln eMd_by_30 rfl ?_
        refine r_iln eMd_by_31 rfl ?_
        refine r_clt (tgt := 38) eMd_by_32 rfl ⟨(by omega), (by omega)⟩ ⟨(by omega), (by omega)⟩ (fun c32 => ?_) (fun c32 => ?_)
        · first | (exfalso; omega) | exact z_Md_by (d := d + 3) hM ok hs hK hans (by omega) (by omega) (fun st c σ' w1 f1 => hq3 (by omega) hA (md_put J1 M σ') r (hK.1.put _) (md_kp_put _ hkp1) hans (by omega) st c w1 f1)
        · refine r_bip eMd_by_35 (by decide) ?_
          refine r_iret eMd_by_37 rfl ?_
          first | exact hq1 (by omega) hA | exact hq2 (by omega) hA J1 r hK.1 hkp1 hans (by omega)
    · refine r_con eMd_by_17 ?_
      refine r_iret eMd_by_18 rfl ?_
      exact hq0 (by omega)
end MDAB
