/-! the code of an order -/
section MDZ
variable {en : Nat → Nat} {d : Nat} {T : Nat → Option (Nat × Nat)} {J J0 : Nat → Nat → Int} {P : Nat → Nat → Option Nat} {L : Nat → Nat → Int64} {z w M : Nat} {Q : m_Q} {σ : a_S}
/-- the step that an order asks for -/
def s_cod (C : a_C) (o n c : Int) : Prop := if o = 12 then c = 7 else if o = 13 then c = 1 else if o = 14 then c = 3 else if o = 15 then c = 5 else if o = 16 then c = 4 else s_stl C n c
theorem c_Md_codeOf (hM : md_sh en M T P) (ok : a_ok (md_cf J M)) (hkp : md_kp J M) (hs : 0 ≤ J (M + 22) 0 ∧ J (M + 22) 0 < 38880) {o : Int} (ho : m_in o)
    (hq : ∀ (J1 : Nat → Nat → Int) (c : Int), md_fx J J1 M → md_kp J1 M → s_cod (md_cf J M) o (J (M + 22) 0) c → Q (some (.int (m_i c))) (T, m_I J1, P, L, z, w)) : m_call en (d + 9) mMd_codeOf [.ref M, .int (m_i o)] (T, m_I J, P, L, z, w) Q := by
  unfold m_in at ho
  unfold s_cod at hq
  refine m_into (by decide) (Nat.le_of_ble_eq_true rfl) rfl ?_
  show m_wp en _ mMd_codeOf 0 [some (.ref M), some (.int (m_i (o)))] [] (T, m_I J, P, L, z, w) Q
  refine r_iln eMd_codeOf_0 rfl ?_
  rcases (show (o) = 12 ∨ (o) = 13 ∨ (o) = 14 ∨ (o) = 15 ∨ (o) = 16 ∨ ((o) < 12 ∨ 16 < (o)) by omega) with c1 | c1 | c1 | c1 | c1 | c1
  · refine r_tcase (v := 12) (tgt := 36) eMd_codeOf_1 c1 ⟨by decide, by decide⟩ ⟨by decide, by decide⟩ rfl rfl ?_
    refine r_bip eMd_codeOf_36 (by decide) ?_
    refine r_iret eMd_codeOf_38 rfl ?_
    refine hq J _ (md_fx.refl J M) hkp ?_
    (repeat (first | rw [if_pos (by omega)] | rw [if_neg (by omega)]))
  · refine r_tcase (v := 13) (tgt := 39) eMd_codeOf_1 c1 ⟨by decide, by decide⟩ ⟨by decide, by decide⟩ rfl rfl ?_
    refine r_con eMd_codeOf_39 ?_
    refine r_iret eMd_codeOf_40 rfl ?_
    refine hq J _ (md_fx.refl J M) hkp ?_
    (repeat (first | rw [if_pos (by omega)] | rw [if_neg (by omega)]))
  · refine r_tcase (v := 14) (tgt := 41) eMd_codeOf_1 c1 ⟨by decide, by decide⟩ ⟨by decide, by decide⟩ rfl rfl ?_
    refine r_con eMd_codeOf_41 ?_
    refine r_iret eMd_codeOf_42 rfl ?_
    refine hq J _ (md_fx.refl J M) hkp ?_
    (repeat (first | rw [if_pos (by omega)] | rw [if_neg (by omega)]))
  · refine r_tcase (v := 15) (tgt := 43) eMd_codeOf_1 c1 ⟨by decide, by decide⟩ ⟨by decide, by decide⟩ rfl rfl ?_
    refine r_con eMd_codeOf_43 ?_
    refine r_iret eMd_codeOf_44 rfl ?_
    refine hq J _ (md_fx.refl J M) hkp ?_
    (repeat (first | rw [if_pos (by omega)] | rw [if_neg (by omega)]))
  · refine r_tcase (v := 16) (tgt := 45) eMd_codeOf_1 c1 ⟨by decide, by decide⟩ ⟨by decide, by decide⟩ rfl rfl ?_
    refine r_con eMd_codeOf_45 ?_
    refine r_iret eMd_codeOf_46 rfl ?_
    refine hq J _ (md_fx.refl J M) hkp ?_
    (repeat (first | rw [if_pos (by omega)] | rw [if_neg (by omega)]))
  · refine r_tdef (tgt := 47) eMd_codeOf_1 c1 ⟨by omega, by omega⟩ rfl ?_
    refine r_aln eMd_codeOf_47 rfl ?_
    refine r_aln eMd_codeOf_48 rfl ?_
    refine m_getR eMd_codeOf_49 rfl hM.2.1 (md_s_p hM) ?_
    refine r_con eMd_codeOf_52 ?_
    refine r_ialde (x := J (M + 22) 0) eMd_codeOf_53 (md_s_t hM) (by decide) (by omega) (by omega) rfl ?_
    refine r_vir eMd_codeOf_54 rfl rfl rfl hM.2.1 rfl rfl ?_
    refine c_Md_stillStep hM ok hkp hs (fun J1 c hfx hkp1 hst => ?_)
    · show m_wp en _ mMd_codeOf 57 [some (.ref M), some (.int (m_i (o)))] [(.int (m_i (c)))] (T, m_I J1, P, L, z, w) Q
      refine r_iret eMd_codeOf_57 rfl ?_
      refine hq J1 c hfx hkp1 ?_
      rw [if_neg (by omega), if_neg (by omega), if_neg (by omega), if_neg (by omega), if_neg (by omega)]
      exact hst
end MDZ
