/-! pulses, shortest of the reference -/
section MDAH
variable {en : Nat → Nat} {d : Nat} {T : Nat → Option (Nat × Nat)} {J J0 J1 : Nat → Nat → Int} {P : Nat → Nat → Option Nat} {L : Nat → Nat → Int64} {z w M : Nat} {Q : m_Q} {σ : a_S}
theorem l_Md_pulsesB3 {e n dd : Int} (hn : 0 ≤ n ∧ n ≤ 8)
    (hnext : m_wp en d mMd_pulsesBy 21 [some (.int (m_i e)), some (.int (m_i n)), some (.int (m_i dd)), some (.int (m_i (a_p3 n.toNat : Int))), some (.int (m_i n)), none, none, none, none, none, none, none, none] [] (T, m_I J, P, L, z, w) Q) :
    ∀ (m k : Nat), k + m = n.toNat → m_wp en d mMd_pulsesBy 5 [some (.int (m_i e)), some (.int (m_i n)), some (.int (m_i dd)), some (.int (m_i (a_p3 k : Int))), some (.int (m_i (k : Int))), none, none, none, none, none, none, none, none] [] (T, m_I J, P, L, z, w) Q := by
  intro m
  induction m with
  | zero =>
    intro k hk
    obtain rfl : k = n.toNat := by omega
    have e1 : ((n.toNat : Nat) : Int) = n := by omega
    rw [e1]
    refine r_il eMd_pulsesBy_5 rfl ?_
    refine r_iln eMd_pulsesBy_7 rfl ?_
    refine r_cge (tgt := 21) eMd_pulsesBy_8 rfl ⟨(by omega), (by omega)⟩ ⟨(by omega), (by omega)⟩ (fun c8 => ?_) (fun c8 => ?_)
    · exact hnext
    · exfalso; omega
  | succ m ih =>
    intro k hk
    have hi := ih (k + 1) (by omega)
    refine r_il eMd_pulsesBy_5 rfl ?_
    refine r_iln eMd_pulsesBy_7 rfl ?_
    refine r_cge (tgt := 21) eMd_pulsesBy_8 rfl ⟨(by omega), (by omega)⟩ ⟨(by omega), (by omega)⟩ (fun c8 => ?_) (fun c8 => ?_)
    · exfalso; omega
    · refine r_iln eMd_pulsesBy_11 rfl ?_
      refine r_con eMd_pulsesBy_12 ?_
      refine r_mul eMd_pulsesBy_13 ?_
      refine r_isn (ls' := [some (.int (m_i (e))), some (.int (m_i (n))), some (.int (m_i (dd))), some (.int (m_i (((a_p3 k : Int)) * (3)))), some (.int (m_i ((k : Int)))), none, none, none, none, none, none, none, none]) eMd_pulsesBy_14 (Nat.le_of_ble_eq_true rfl) rfl ?_
      refine r_inc (ls' := [some (.int (m_i (e))), some (.int (m_i (n))), some (.int (m_i (dd))), some (.int (m_i (((a_p3 k : Int)) * (3)))), some (.int (m_i ((k : Int) + 1))), none, none, none, none, none, none, none, none]) eMd_pulsesBy_15 rfl rfl ?_
      refine r_go (tgt := 5) eMd_pulsesBy_18 rfl ?_
      exact hi
theorem c_Md_pulsesBy {e n dd : Int} (he : 1 ≤ e ∧ e ≤ 6) (hn : 0 ≤ n ∧ n ≤ 8) (hd : -8 ≤ dd ∧ dd ≤ 8) (hq : Q (some (.int (m_i (a_cp e n dd (a_p3 n.toNat))))) (T, m_I J, P, L, z, w)) : m_call en (d + 2) mMd_pulsesBy [.int (m_i e), .int (m_i n), .int (m_i dd)] (T, m_I J, P, L, z, w) Q := by
  have hp := a_p3_8 n.toNat (by omega)
  refine m_into (by decide) (Nat.le_of_ble_eq_true rfl) rfl ?_
  show m_wp en _ mMd_pulsesBy 0 [some (.int (m_i (e))), some (.int (m_i (n))), some (.int (m_i (dd))), none, none, none, none, none, none, none, none, none, none] [] (T, m_I J, P, L, z, w) Q
  refine r_con eMd_pulsesBy_0 ?_
  refine r_isn (ls' := [some (.int (m_i (e))), some (.int (m_i (n))), some (.int (m_i (dd))), some (.int (m_i (1))), none, none, none, none, none, none, none, none, none]) eMd_pulsesBy_1 (Nat.le_of_ble_eq_true rfl) rfl ?_
  refine r_con eMd_pulsesBy_2 ?_
  refine r_is (ls' := [some (.int (m_i (e))), some (.int (m_i (n))), some (.int (m_i (dd))), some (.int (m_i (1))), some (.int (m_i (0))), none, none, none, none, none, none, none, none]) eMd_pulsesBy_3 (Nat.le_of_ble_eq_true rfl) rfl ?_
  refine l_Md_pulsesB3 hn ?_ n.toNat 0 (by omega)
  refine r_con eMd_pulsesBy_21 ?_
  refine r_is (ls' := [some (.int (m_i (e))), some (.int (m_i (n))), some (.int (m_i (dd))), some (.int (m_i ((a_p3 n.toNat : Int)))), some (.int (m_i (0))), none, none, none, none, none, none, none, none]) eMd_pulsesBy_22 (Nat.le_of_ble_eq_true rfl) rfl ?_
  refine r_con eMd_pulsesBy_24 ?_
  refine r_is (ls' := [some (.int (m_i (e))), some (.int (m_i (n))), some (.int (m_i (dd))), some (.int (m_i ((a_p3 n.toNat : Int)))), some (.int (m_i (0))), some (.int (m_i (0))), none, none, none, none, none, none, none]) eMd_pulsesBy_25 (Nat.le_of_ble_eq_true rfl) rfl ?_
  exact l_Md_pulsesB2 he hn hd hp hq (a_p3 n.toNat) 0 none none none none none none none (by omega)
theorem c_Md_pulses (hM : md_sh en M T P) (hJ : m_up J0 M 0 0 = J) {e n dd : Int} (he : m_in e) (hn : m_in n) (hd : m_in dd)
    (hq0 : ¬ ((1 ≤ e ∧ e ≤ 6) ∧ (0 ≤ n ∧ n ≤ 8) ∧ (-8 ≤ dd ∧ dd ≤ 8)) → Q (some (.int (m_i (-1)))) (T, m_I J, P, L, z, w))
    (hq1 : ((1 ≤ e ∧ e ≤ 6) ∧ (0 ≤ n ∧ n ≤ 8) ∧ (-8 ≤ dd ∧ dd ≤ 8)) → Q (some (.int (m_i (a_cp e n dd (a_p3 n.toNat))))) (T, m_I J, P, L, z, w)) : m_call en (d + 3) mMd_pulses [.ref M, .int (m_i e), .int (m_i n), .int (m_i dd)] (T, m_I J0, P, L, z, w) Q := by
  unfold m_in at he hn hd
  refine m_into (by decide) (Nat.le_of_ble_eq_true rfl) rfl ?_
  show m_wp en _ mMd_pulses 0 [some (.ref M), some (.int (m_i (e))), some (.int (m_i (n))), some (.int (m_i (dd)))] [] (T, m_I J0, P, L, z, w) Q
  refine r_aln eMd_pulses_0 rfl ?_
  refine r_con eMd_pulses_1 ?_
  refine r_put eMd_pulses_2 rfl hM.2.1 hM.1 (Or.inl rfl) ?_
  rw [hJ]
  refine r_iln eMd_pulses_5 rfl ?_
  refine r_con eMd_pulses_6 ?_
  refine r_clt (tgt := 38) eMd_pulses_7 rfl ⟨(by omega), (by omega)⟩ ⟨(by omega), (by omega)⟩ (fun c7 => ?_) (fun c7 => ?_)
  · refine r_con eMd_pulses_38 ?_
    refine r_go (tgt := 48) eMd_pulses_39 rfl ?_
    refine r_iret eMd_pulses_48 rfl ?_
    first | exact hq0 (by omega) | exact hq1 (by omega)
  · refine r_iln eMd_pulses_10 rfl ?_
    refine r_bip eMd_pulses_11 (by decide) ?_
    refine r_cgt (tgt := 38) eMd_pulses_13 rfl ⟨(by omega), (by omega)⟩ ⟨(by omega), (by omega)⟩ (fun c13 => ?_) (fun c13 => ?_)
    · refine r_con eMd_pulses_38 ?_
      refine r_go (tgt := 48) eMd_pulses_39 rfl ?_
      refine r_iret eMd_pulses_48 rfl ?_
      first | exact hq0 (by omega) | exact hq1 (by omega)
    · refine r_iln eMd_pulses_16 rfl ?_
      refine r_zlt (tgt := 38) eMd_pulses_17 rfl ⟨(by omega), (by omega)⟩ (fun c17 => ?_) (fun c17 => ?_)
      · refine r_con eMd_pulses_38 ?_
        refine r_go (tgt := 48) eMd_pulses_39 rfl ?_
        refine r_iret eMd_pulses_48 rfl ?_
        first | exact hq0 (by omega) | exact hq1 (by omega)
      · refine r_iln eMd_pulses_20 rfl ?_
        refine r_bip eMd_pulses_21 (by decide) ?_
        refine r_cgt (tgt := 38) eMd_pulses_23 rfl ⟨(by omega), (by omega)⟩ ⟨(by omega), (by omega)⟩ (fun c23 => ?_) (fun c23 => ?_)
        · refine r_con eMd_pulses_38 ?_
          refine r_go (tgt := 48) eMd_pulses_39 rfl ?_
          refine r_iret eMd_pulses_48 rfl ?_
          first | exact hq0 (by omega) | exact hq1 (by omega)
        · refine r_iln eMd_pulses_26 rfl ?_
          refine r_bip eMd_pulses_27 (by decide) ?_
          refine r_clt (tgt := 38) eMd_pulses_29 rfl ⟨(by omega), (by omega)⟩ ⟨(by omega), (by omega)⟩ (fun c29 => ?_) (fun c29 => ?_)
          · refine r_con eMd_pulses_38 ?_
            refine r_go (tgt := 48) eMd_pulses_39 rfl ?_
            refine r_iret eMd_pulses_48 rfl ?_
            first | exact hq0 (by omega) | exact hq1 (by omega)
          · refine r_iln eMd_pulses_32 rfl ?_
            refine r_bip eMd_pulses_33 (by decide) ?_
            refine r_cle (tgt := 42) eMd_pulses_35 rfl ⟨(by omega), (by omega)⟩ ⟨(by omega), (by omega)⟩ (fun c35 => ?_) (fun c35 => ?_)
            · refine r_iln eMd_pulses_42 rfl ?_
              refine r_iln eMd_pulses_43 rfl ?_
              refine r_iln eMd_pulses_44 rfl ?_
              refine r_sta eMd_pulses_45 rfl rfl (by decide) rfl ?_
              refine c_Md_pulsesBy (by omega) (by omega) (by omega) ?_
              show m_wp en _ mMd_pulses 48 [some (.ref M), some (.int (m_i (e))), some (.int (m_i (n))), some (.int (m_i (dd)))] [(.int (m_i (a_cp (e) (n) (dd) (a_p3 (n).toNat))))] (T, m_I J, P, L, z, w) Q
              refine r_iret eMd_pulses_48 rfl ?_
              first | exact hq0 (by omega) | exact hq1 (by omega)
            · refine r_con eMd_pulses_38 ?_
              refine r_go (tgt := 48) eMd_pulses_39 rfl ?_
              refine r_iret eMd_pulses_48 rfl ?_
              first | exact hq0 (by omega) | exact hq1 (by omega)
end MDAH
