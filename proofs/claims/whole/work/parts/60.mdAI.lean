/-! shortest of the reference -/
section MDAI
variable {en : Nat → Nat} {d : Nat} {T : Nat → Option (Nat × Nat)} {J J0 J1 : Nat → Nat → Int} {P : Nat → Nat → Option Nat} {L : Nat → Nat → Int64} {z w M : Nat} {Q : m_Q} {σ : a_S}
theorem a_cp_bd (e n dd : Int) : ∀ k : Nat, 0 ≤ a_cp e n dd k ∧ a_cp e n dd k ≤ (k : Int) := by
  intro k
  induction k with
  | zero => exact ⟨by unfold a_cp; omega, by unfold a_cp; omega⟩
  | succ k ih =>
    unfold a_cp
    split <;> omega
/-- the fewest pulses, from k on, of m -/
def a_sho (e dd : Int) : Nat → Int → Int
  | 0, _ => -2
  | m + 1, k => if 0 < a_cp e k dd (a_p3 k.toNat) then k else a_sho e dd m (k + 1)
theorem l_Md_shortest {e dd : Int} (he : 1 ≤ e ∧ e ≤ 6) (hd : -8 ≤ dd ∧ dd ≤ 8) :
    ∀ (m : Nat) (k : Int), k + m = 9 → 0 ≤ k → Q (some (.int (m_i (a_sho e dd m k)))) (T, m_I J, P, L, z, w) → m_wp en (d + 2) mMd_shortest 36 [some (.ref M), some (.int (m_i e)), some (.int (m_i dd)), some (.int (m_i k))] [] (T, m_I J, P, L, z, w) Q := by
  intro m
  induction m with
  | zero =>
    intro k hk h0 hq
    refine r_iln eMd_shortest_36 rfl ?_
    refine r_bip eMd_shortest_37 (by decide) ?_
    refine r_cgt (tgt := 59) eMd_shortest_39 rfl ⟨(by omega), (by omega)⟩ ⟨(by omega), (by omega)⟩ (fun c39 => ?_) (fun c39 => ?_)
    · refine r_bip eMd_shortest_59 (by decide) ?_
      refine r_iret eMd_shortest_61 rfl ?_
      exact hq
    · exfalso; omega
  | succ m ih =>
    intro k hk h0 hq
    unfold a_sho at hq
    have hb := a_cp_bd e k dd (a_p3 k.toNat)
    have hp := a_p3_8 k.toNat (by omega)
    refine r_iln eMd_shortest_36 rfl ?_
    refine r_bip eMd_shortest_37 (by decide) ?_
    refine r_cgt (tgt := 59) eMd_shortest_39 rfl ⟨(by omega), (by omega)⟩ ⟨(by omega), (by omega)⟩ (fun c39 => ?_) (fun c39 => ?_)
    · exfalso; omega
    · refine r_iln eMd_shortest_42 rfl ?_
      refine r_iln eMd_shortest_43 rfl ?_
      refine r_iln eMd_shortest_44 rfl ?_
      refine r_sta eMd_shortest_45 rfl rfl (by decide) rfl ?_
      refine c_Md_pulsesBy (by omega) (by omega) (by omega) ?_
      show m_wp en _ mMd_shortest 48 [some (.ref M), some (.int (m_i (e))), some (.int (m_i (dd))), some (.int (m_i (k)))] [(.int (m_i (a_cp (e) (k) (dd) (a_p3 (k).toNat))))] (T, m_I J, P, L, z, w) Q
      refine r_zle (tgt := 53) eMd_shortest_48 rfl ⟨(by omega), (by omega)⟩ (fun c48 => ?_) (fun c48 => ?_)
      · refine r_inc (ls' := [some (.ref M), some (.int (m_i (e))), some (.int (m_i (dd))), some (.int (m_i (k + 1)))]) eMd_shortest_53 rfl rfl ?_
        refine r_go (tgt := 36) eMd_shortest_56 rfl ?_
        rw [if_neg (by omega)] at hq
        exact ih (k + 1) (by omega) (by omega) hq
      · refine r_iln eMd_shortest_51 rfl ?_
        refine r_iret eMd_shortest_52 rfl ?_
        rw [if_pos (by omega)] at hq
        exact hq
theorem c_Md_shortest (hM : md_sh en M T P) (hJ : m_up J0 M 0 0 = J) {e dd : Int} (he : m_in e) (hd : m_in dd)
    (hq0 : ¬ ((1 ≤ e ∧ e ≤ 6) ∧ (-8 ≤ dd ∧ dd ≤ 8) ∧ dd ≠ 0) → Q (some (.int (m_i (-1)))) (T, m_I J, P, L, z, w))
    (hq1 : ((1 ≤ e ∧ e ≤ 6) ∧ (-8 ≤ dd ∧ dd ≤ 8) ∧ dd ≠ 0) → Q (some (.int (m_i (a_sho e dd 9 0)))) (T, m_I J, P, L, z, w)) : m_call en (d + 3) mMd_shortest [.ref M, .int (m_i e), .int (m_i dd)] (T, m_I J0, P, L, z, w) Q := by
  unfold m_in at he hd
  refine m_into (by decide) (Nat.le_of_ble_eq_true rfl) rfl ?_
  show m_wp en _ mMd_shortest 0 [some (.ref M), some (.int (m_i (e))), some (.int (m_i (dd))), none] [] (T, m_I J0, P, L, z, w) Q
  refine r_aln eMd_shortest_0 rfl ?_
  refine r_con eMd_shortest_1 ?_
  refine r_put eMd_shortest_2 rfl hM.2.1 hM.1 (Or.inl rfl) ?_
  rw [hJ]
  refine r_iln eMd_shortest_5 rfl ?_
  refine r_con eMd_shortest_6 ?_
  refine r_clt (tgt := 32) eMd_shortest_7 rfl ⟨(by omega), (by omega)⟩ ⟨(by omega), (by omega)⟩ (fun c7 => ?_) (fun c7 => ?_)
  · refine r_con eMd_shortest_32 ?_
    refine r_iret eMd_shortest_33 rfl ?_
    exact hq0 (by omega)
  · refine r_iln eMd_shortest_10 rfl ?_
    refine r_bip eMd_shortest_11 (by decide) ?_
    refine r_cgt (tgt := 32) eMd_shortest_13 rfl ⟨(by omega), (by omega)⟩ ⟨(by omega), (by omega)⟩ (fun c13 => ?_) (fun c13 => ?_)
    · refine r_con eMd_shortest_32 ?_
      refine r_iret eMd_shortest_33 rfl ?_
      exact hq0 (by omega)
    · refine r_iln eMd_shortest_16 rfl ?_
      refine r_bip eMd_shortest_17 (by decide) ?_
      refine r_clt (tgt := 32) eMd_shortest_19 rfl ⟨(by omega), (by omega)⟩ ⟨(by omega), (by omega)⟩ (fun c19 => ?_) (fun c19 => ?_)
      · refine r_con eMd_shortest_32 ?_
        refine r_iret eMd_shortest_33 rfl ?_
        exact hq0 (by omega)
      · refine r_iln eMd_shortest_22 rfl ?_
        refine r_bip eMd_shortest_23 (by decide) ?_
        refine r_cgt (tgt := 32) eMd_shortest_25 rfl ⟨(by omega), (by omega)⟩ ⟨(by omega), (by omega)⟩ (fun c25 => ?_) (fun c25 => ?_)
        · refine r_con eMd_shortest_32 ?_
          refine r_iret eMd_shortest_33 rfl ?_
          exact hq0 (by omega)
        · refine r_iln eMd_shortest_28 rfl ?_
          refine r_zne (tgt := 34) eMd_shortest_29 rfl ⟨(by omega), (by omega)⟩ (fun c29 => ?_) (fun c29 => ?_)
          · refine r_con eMd_shortest_34 ?_
            refine r_isn (ls' := [some (.ref M), some (.int (m_i (e))), some (.int (m_i (dd))), some (.int (m_i (0)))]) eMd_shortest_35 (Nat.le_of_ble_eq_true rfl) rfl ?_
            exact l_Md_shortest (by omega) (by omega) 9 0 (by omega) (by omega) (hq1 (by omega))
          · refine r_con eMd_shortest_32 ?_
            refine r_iret eMd_shortest_33 rfl ?_
            exact hq0 (by omega)
end MDAI
