/-! grab, drop of the reference -/
section MDV
variable {en : Nat → Nat} {d : Nat} {T : Nat → Option (Nat × Nat)} {J J0 : Nat → Nat → Int} {P : Nat → Nat → Option Nat} {L : Nat → Nat → Int64} {z w M : Nat} {Q : m_Q} {σ : a_S}
/-- the row behind a grab (b = 1), a drop (b = 0) at x -/
def md_tb (J : Nat → Nat → Int) (M : Nat) (x b : Int) : Nat → Nat → Int := m_up (m_up (md_rem J M) (M + 22) (7 + x).toNat (md_rem J M (M + 22) (7 + x).toNat + (if b = 0 then 1 else -1))) (M + 22) 5 b
theorem c_Md_takes1 (hM : md_sh en M T P) (hu : 0 ≤ J M 45 ∧ J M 45 ≤ 30) {x : Int} (hx : 0 ≤ x ∧ x < 16) (hpb : md_pb (md_tb J M x 1) M) (hq : Q none (T, m_I (md_as (md_tb J M x 1) M), P, L, z, w)) : m_call en (d + 3) mMd_takes [.ref M, .int (m_i x), .int (m_i 1)] (T, m_I J, P, L, z, w) Q := by
  refine m_into (by decide) (Nat.le_of_ble_eq_true rfl) rfl ?_
  show m_wp en _ mMd_takes 0 [some (.ref M), some (.int (m_i (x))), some (.int (m_i (1)))] [] (T, m_I J, P, L, z, w) Q
  refine r_aln eMd_takes_0 rfl ?_
  refine r_vir eMd_takes_1 rfl rfl rfl hM.2.1 rfl rfl ?_
  refine c_Md_remembers hM hu ?_
  show m_wp en _ mMd_takes 4 [some (.ref M), some (.int (m_i (x))), some (.int (m_i (1)))] [] (T, m_I ((md_rem J M)), P, L, z, w) Q
  refine r_aln eMd_takes_4 rfl ?_
  refine m_getR eMd_takes_5 rfl hM.2.1 (md_s_p hM) ?_
  refine r_bip eMd_takes_8 (by decide) ?_
  refine r_iln eMd_takes_10 rfl ?_
  refine r_add eMd_takes_11 ?_
  refine r_dup2 eMd_takes_12 ?_
  refine r_ialde (x := (md_rem J M) (M + 22) (((7) + (x)).toNat)) eMd_takes_13 (md_s_t hM) (by decide) (by omega) (by omega) rfl ?_
  refine r_iln eMd_takes_14 rfl ?_
  refine r_zeq (tgt := 22) eMd_takes_15 rfl ⟨(by omega), (by omega)⟩ (fun c15 => ?_) (fun c15 => ?_)
  · exfalso; omega
  · refine r_con eMd_takes_18 ?_
    refine r_go (tgt := 23) eMd_takes_19 rfl ?_
    refine r_add eMd_takes_23 ?_
    refine r_iast eMd_takes_24 (md_s_t hM) (by decide) (by omega) (by omega) (md_b hM 22) ?_
    refine r_aln eMd_takes_25 rfl ?_
    refine m_getR eMd_takes_26 rfl hM.2.1 (md_s_p hM) ?_
    refine r_con eMd_takes_29 ?_
    refine r_iln eMd_takes_30 rfl ?_
    refine r_zeq (tgt := 38) eMd_takes_31 rfl ⟨(by omega), (by omega)⟩ (fun c31 => ?_) (fun c31 => ?_)
    · exfalso; omega
    · refine r_con eMd_takes_34 ?_
      refine r_go (tgt := 39) eMd_takes_35 rfl ?_
      refine r_iast eMd_takes_39 (md_s_t hM) (by decide) (by omega) (by omega) (md_b hM 22) ?_
      refine r_aln eMd_takes_40 rfl ?_
      refine r_vir eMd_takes_41 rfl rfl rfl hM.2.1 rfl rfl ?_
      refine c_Md_asItIs hM hpb ?_
      show m_wp en _ mMd_takes 44 [some (.ref M), some (.int (m_i (x))), some (.int (m_i (1)))] [] (T, m_I ((md_as (md_tb J M x 1) M)), P, L, z, w) Q
      refine r_ret eMd_takes_44 rfl ?_
      exact hq
theorem c_Md_takes0 (hM : md_sh en M T P) (hu : 0 ≤ J M 45 ∧ J M 45 ≤ 30) {x : Int} (hx : 0 ≤ x ∧ x < 16) (hpb : md_pb (md_tb J M x 0) M) (hq : Q none (T, m_I (md_as (md_tb J M x 0) M), P, L, z, w)) : m_call en (d + 3) mMd_takes [.ref M, .int (m_i x), .int (m_i 0)] (T, m_I J, P, L, z, w) Q := by
  refine m_into (by decide) (Nat.le_of_ble_eq_true rfl) rfl ?_
  show m_wp en _ mMd_takes 0 [some (.ref M), some (.int (m_i (x))), some (.int (m_i (0)))] [] (T, m_I J, P, L, z, w) Q
  refine r_aln eMd_takes_0 rfl ?_
  refine r_vir eMd_takes_1 rfl rfl rfl hM.2.1 rfl rfl ?_
  refine c_Md_remembers hM hu ?_
  show m_wp en _ mMd_takes 4 [some (.ref M), some (.int (m_i (x))), some (.int (m_i (0)))] [] (T, m_I ((md_rem J M)), P, L, z, w) Q
  refine r_aln eMd_takes_4 rfl ?_
  refine m_getR eMd_takes_5 rfl hM.2.1 (md_s_p hM) ?_
  refine r_bip eMd_takes_8 (by decide) ?_
  refine r_iln eMd_takes_10 rfl ?_
  refine r_add eMd_takes_11 ?_
  refine r_dup2 eMd_takes_12 ?_
  refine r_ialde (x := (md_rem J M) (M + 22) (((7) + (x)).toNat)) eMd_takes_13 (md_s_t hM) (by decide) (by omega) (by omega) rfl ?_
  refine r_iln eMd_takes_14 rfl ?_
  refine r_zeq (tgt := 22) eMd_takes_15 rfl ⟨(by omega), (by omega)⟩ (fun c15 => ?_) (fun c15 => ?_)
  · refine r_con eMd_takes_22 ?_
    refine r_add eMd_takes_23 ?_
    refine r_iast eMd_takes_24 (md_s_t hM) (by decide) (by omega) (by omega) (md_b hM 22) ?_
    refine r_aln eMd_takes_25 rfl ?_
    refine m_getR eMd_takes_26 rfl hM.2.1 (md_s_p hM) ?_
    refine r_con eMd_takes_29 ?_
    refine r_iln eMd_takes_30 rfl ?_
    refine r_zeq (tgt := 38) eMd_takes_31 rfl ⟨(by omega), (by omega)⟩ (fun c31 => ?_) (fun c31 => ?_)
    · refine r_con eMd_takes_38 ?_
      refine r_iast eMd_takes_39 (md_s_t hM) (by decide) (by omega) (by omega) (md_b hM 22) ?_
      refine r_aln eMd_takes_40 rfl ?_
      refine r_vir eMd_takes_41 rfl rfl rfl hM.2.1 rfl rfl ?_
      refine c_Md_asItIs hM hpb ?_
      show m_wp en _ mMd_takes 44 [some (.ref M), some (.int (m_i (x))), some (.int (m_i (0)))] [] (T, m_I ((md_as (md_tb J M x 0) M)), P, L, z, w) Q
      refine r_ret eMd_takes_44 rfl ?_
      exact hq
    · exfalso; omega
  · exfalso; omega
/-- the numbers behind a grab, a drop -/
def md_gd (J : Nat → Nat → Int) (M : Nat) (b : Int) : Nat → Nat → Int := md_tb (md_put J M (a_of (J (M + 22) 0))) M (a_of (J (M + 22) 0)).1 b
theorem c_Md_grab (hM : md_sh en M T P) (hJ : m_up J0 M 0 0 = J) (ok : a_ok (md_cf J M)) (hs : 0 ≤ J (M + 22) 0 ∧ J (M + 22) 0 < 38880) (hu : 0 ≤ J M 45 ∧ J M 45 ≤ 30) (hp : ∀ i : Nat, i < 16 → -1000 ≤ J (M + 18) i ∧ J (M + 18) i ≤ 1000) (hpb : md_cg J M → md_pb (md_gd J M 1) M)
    (hq0 : ¬ md_cg J M → Q (some (.int (m_i 0))) (T, m_I (md_put J M (a_of (J (M + 22) 0))), P, L, z, w))
    (hq1 : md_cg J M → Q (some (.int (m_i 1))) (T, m_I (md_as (md_gd J M 1) M), P, L, z, w)) : m_call en (d + 6) mMd_grab [.ref M] (T, m_I J0, P, L, z, w) Q := by
  refine m_into (by decide) (Nat.le_of_ble_eq_true rfl) rfl ?_
  show m_wp en _ mMd_grab 0 [some (.ref M)] [] (T, m_I J0, P, L, z, w) Q
  refine r_aln eMd_grab_0 rfl ?_
  refine r_con eMd_grab_1 ?_
  refine r_put eMd_grab_2 rfl hM.2.1 hM.1 (Or.inl rfl) ?_
  rw [hJ]
  refine r_aln eMd_grab_5 rfl ?_
  refine r_vir eMd_grab_6 rfl rfl rfl hM.2.1 rfl rfl ?_
  refine c_Md_canGrab hM ok hs hp (fun hA => ?_) (fun hA => ?_)
  · show m_wp en _ mMd_grab 9 [some (.ref M)] [(.int (m_i (0)))] (T, m_I ((md_put J M (a_of (J (M + 22) 0)))), P, L, z, w) Q
    refine r_zne (tgt := 14) eMd_grab_9 rfl ⟨(by omega), (by omega)⟩ (fun c9 => ?_) (fun c9 => ?_)
    · have hA2 : md_cg J M := by first | exact hA | (exfalso; omega)
      refine r_aln eMd_grab_14 rfl ?_
      refine r_aln eMd_grab_15 rfl ?_
      refine r_gete (x := ((a_of (J (M + 22) 0))).1) eMd_grab_16 rfl (by decide) hM.2.1 (by simp [m_up, md_put_at, m_fl]) ?_
      refine r_con eMd_grab_19 ?_
      refine r_vir eMd_grab_20 rfl rfl rfl hM.2.1 rfl rfl ?_
      refine c_Md_takes1 hM (by rw [md_put_f J M _ (by omega)]; exact hu) (a_of_col hs.1 hs.2) (hpb hA2) ?_
      show m_wp en _ mMd_grab 23 [some (.ref M)] [] (T, m_I ((md_as (md_gd J M 1) M)), P, L, z, w) Q
      refine r_con eMd_grab_23 ?_
      refine r_zret eMd_grab_24 rfl (by first | exact Or.inl rfl | exact Or.inr rfl | omega) ?_
      exact hq1 hA2
    · refine r_con eMd_grab_12 ?_
      refine r_zret eMd_grab_13 rfl (by first | exact Or.inl rfl | exact Or.inr rfl | omega) ?_
      first | exact hq0 hA | (exfalso; omega)
  · show m_wp en _ mMd_grab 9 [some (.ref M)] [(.int (m_i (1)))] (T, m_I ((md_put J M (a_of (J (M + 22) 0)))), P, L, z, w) Q
    refine r_zne (tgt := 14) eMd_grab_9 rfl ⟨(by omega), (by omega)⟩ (fun c9 => ?_) (fun c9 => ?_)
    · have hA2 : md_cg J M := by first | exact hA | (exfalso; omega)
      refine r_aln eMd_grab_14 rfl ?_
      refine r_aln eMd_grab_15 rfl ?_
      refine r_gete (x := ((a_of (J (M + 22) 0))).1) eMd_grab_16 rfl (by decide) hM.2.1 (by simp [m_up, md_put_at, m_fl]) ?_
      refine r_con eMd_grab_19 ?_
      refine r_vir eMd_grab_20 rfl rfl rfl hM.2.1 rfl rfl ?_
      refine c_Md_takes1 hM (by rw [md_put_f J M _ (by omega)]; exact hu) (a_of_col hs.1 hs.2) (hpb hA2) ?_
      show m_wp en _ mMd_grab 23 [some (.ref M)] [] (T, m_I ((md_as (md_gd J M 1) M)), P, L, z, w) Q
      refine r_con eMd_grab_23 ?_
      refine r_zret eMd_grab_24 rfl (by first | exact Or.inl rfl | exact Or.inr rfl | omega) ?_
      exact hq1 hA2
    · refine r_con eMd_grab_12 ?_
      refine r_zret eMd_grab_13 rfl (by first | exact Or.inl rfl | exact Or.inr rfl | omega) ?_
      first | exact hq0 hA | (exfalso; omega)
theorem c_Md_drop (hM : md_sh en M T P) (hJ : m_up J0 M 0 0 = J) (ok : a_ok (md_cf J M)) (hs : 0 ≤ J (M + 22) 0 ∧ J (M + 22) 0 < 38880) (hu : 0 ≤ J M 45 ∧ J M 45 ≤ 30) (hpb : md_cd J M → md_pb (md_gd J M 0) M)
    (hq0 : ¬ md_cd J M → Q (some (.int (m_i 0))) (T, m_I (md_put J M (a_of (J (M + 22) 0))), P, L, z, w))
    (hq1 : md_cd J M → Q (some (.int (m_i 1))) (T, m_I (md_as (md_gd J M 0) M), P, L, z, w)) : m_call en (d + 6) mMd_drop [.ref M] (T, m_I J0, P, L, z, w) Q := by
  refine m_into (by decide) (Nat.le_of_ble_eq_true rfl) rfl ?_
  show m_wp en _ mMd_drop 0 [some (.ref M)] [] (T, m_I J0, P, L, z, w) Q
  refine r_aln eMd_drop_0 rfl ?_
  refine r_con eMd_drop_1 ?_
  refine r_put eMd_drop_2 rfl hM.2.1 hM.1 (Or.inl rfl) ?_
  rw [hJ]
  refine r_aln eMd_drop_5 rfl ?_
  refine r_vir eMd_drop_6 rfl rfl rfl hM.2.1 rfl rfl ?_
  refine c_Md_canDrop hM ok hs (fun hA => ?_) (fun hA => ?_)
  · show m_wp en _ mMd_drop 9 [some (.ref M)] [(.int (m_i (0)))] (T, m_I ((md_put J M (a_of (J (M + 22) 0)))), P, L, z, w) Q
    refine r_zne (tgt := 14) eMd_drop_9 rfl ⟨(by omega), (by omega)⟩ (fun c9 => ?_) (fun c9 => ?_)
    · have hA2 : md_cd J M := by first | exact hA | (exfalso; omega)
      refine r_aln eMd_drop_14 rfl ?_
      refine r_aln eMd_drop_15 rfl ?_
      refine r_gete (x := ((a_of (J (M + 22) 0))).1) eMd_drop_16 rfl (by decide) hM.2.1 (by simp [m_up, md_put_at, m_fl]) ?_
      refine r_con eMd_drop_19 ?_
      refine r_vir eMd_drop_20 rfl rfl rfl hM.2.1 rfl rfl ?_
      refine c_Md_takes0 hM (by rw [md_put_f J M _ (by omega)]; exact hu) (a_of_col hs.1 hs.2) (hpb hA2) ?_
      show m_wp en _ mMd_drop 23 [some (.ref M)] [] (T, m_I ((md_as (md_gd J M 0) M)), P, L, z, w) Q
      refine r_con eMd_drop_23 ?_
      refine r_zret eMd_drop_24 rfl (by first | exact Or.inl rfl | exact Or.inr rfl | omega) ?_
      exact hq1 hA2
    · refine r_con eMd_drop_12 ?_
      refine r_zret eMd_drop_13 rfl (by first | exact Or.inl rfl | exact Or.inr rfl | omega) ?_
      first | exact hq0 hA | (exfalso; omega)
  · show m_wp en _ mMd_drop 9 [some (.ref M)] [(.int (m_i (1)))] (T, m_I ((md_put J M (a_of (J (M + 22) 0)))), P, L, z, w) Q
    refine r_zne (tgt := 14) eMd_drop_9 rfl ⟨(by omega), (by omega)⟩ (fun c9 => ?_) (fun c9 => ?_)
    · have hA2 : md_cd J M := by first | exact hA | (exfalso; omega)
      refine r_aln eMd_drop_14 rfl ?_
      refine r_aln eMd_drop_15 rfl ?_
      refine r_gete (x := ((a_of (J (M + 22) 0))).1) eMd_drop_16 rfl (by decide) hM.2.1 (by simp [m_up, md_put_at, m_fl]) ?_
      refine r_con eMd_drop_19 ?_
      refine r_vir eMd_drop_20 rfl rfl rfl hM.2.1 rfl rfl ?_
      refine c_Md_takes0 hM (by rw [md_put_f J M _ (by omega)]; exact hu) (a_of_col hs.1 hs.2) (hpb hA2) ?_
      show m_wp en _ mMd_drop 23 [some (.ref M)] [] (T, m_I ((md_as (md_gd J M 0) M)), P, L, z, w) Q
      refine r_con eMd_drop_23 ?_
      refine r_zret eMd_drop_24 rfl (by first | exact Or.inl rfl | exact Or.inr rfl | omega) ?_
      exact hq1 hA2
    · refine r_con eMd_drop_12 ?_
      refine r_zret eMd_drop_13 rfl (by first | exact Or.inl rfl | exact Or.inr rfl | omega) ?_
      first | exact hq0 hA | (exfalso; omega)
end MDV
