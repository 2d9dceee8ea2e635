/-! pulses of the reference: one code -/
/-- what n pushes of a code leave: fast, its, was -/
def a_pl (e : Int) : Nat → Int → Int × Int × Int → Int × Int × Int
  | 0, _, t => t
  | n + 1, left, t => a_pl e n (left / 3) (t.1 + (left % 3 - 1), a_gr e * t.2.1 - t.2.2 - (left % 3 - 1), t.2.1)
section MDAF
variable {en : Nat → Nat} {d : Nat} {T : Nat → Option (Nat × Nat)} {J J0 J1 : Nat → Nat → Int} {P : Nat → Nat → Option Nat} {L : Nat → Nat → Int64} {z w M : Nat} {Q : m_Q} {σ : a_S}
theorem l_Md_pulsesBy {e n dd all many code : Int} (he : 1 ≤ e ∧ e ≤ 6) (hn : 0 ≤ n ∧ n ≤ 8)
    (hnext : ∀ (t : Int × Int × Int) (left : Int) (o1 o2 : Option Value), a_pl e n.toNat code (0, 0, 0) = t → m_wp en (d + 1) mMd_pulsesBy 105 [some (.int (m_i e)), some (.int (m_i n)), some (.int (m_i dd)), some (.int (m_i all)), some (.int (m_i many)), some (.int (m_i code)), some (.int (m_i left)), some (.int (m_i t.1)), some (.int (m_i t.2.1)), some (.int (m_i t.2.2)), some (.int (m_i n)), o1, o2] [] (T, m_I J, P, L, z, w) Q) :
    ∀ (m : Nat) (k left : Int) (t : Int × Int × Int) (o1 o2 : Option Value), k + m = n → 0 ≤ k → (0 ≤ left ∧ left < 2147483648) → a_pl e m left t = a_pl e n.toNat code (0, 0, 0) → m_wp en (d + 1) mMd_pulsesBy 49 [some (.int (m_i e)), some (.int (m_i n)), some (.int (m_i dd)), some (.int (m_i all)), some (.int (m_i many)), some (.int (m_i code)), some (.int (m_i left)), some (.int (m_i t.1)), some (.int (m_i t.2.1)), some (.int (m_i t.2.2)), some (.int (m_i k)), o1, o2] [] (T, m_I J, P, L, z, w) Q := by
  intro m
  induction m with
  | zero =>
    intro k left t o1 o2 hk h0 hl ht
    obtain rfl : k = n := by omega
    have h := hnext t left o1 o2 ht.symm
    refine r_il eMd_pulsesBy_49 rfl ?_
    refine r_iln eMd_pulsesBy_51 rfl ?_
    refine r_cge (tgt := 105) eMd_pulsesBy_52 rfl ⟨(by omega), (by omega)⟩ ⟨(by omega), (by omega)⟩ (fun c52 => ?_) (fun c52 => ?_)
    · exact h
    · exfalso; omega
  | succ m ih =>
    intro k left t o1 o2 hk h0 hl ht
    refine r_il eMd_pulsesBy_49 rfl ?_
    refine r_iln eMd_pulsesBy_51 rfl ?_
    refine r_cge (tgt := 105) eMd_pulsesBy_52 rfl ⟨(by omega), (by omega)⟩ ⟨(by omega), (by omega)⟩ (fun c52 => ?_) (fun c52 => ?_)
    · exfalso; omega
    · refine r_il eMd_pulsesBy_55 rfl ?_
      refine r_con eMd_pulsesBy_57 ?_
      refine r_rem eMd_pulsesBy_58 ⟨(by omega), (by omega)⟩ ⟨(by omega), (by omega)⟩ ?_
      refine r_con eMd_pulsesBy_59 ?_
      refine r_sub eMd_pulsesBy_60 ?_
      refine r_is (ls' := [some (.int (m_i (e))), some (.int (m_i (n))), some (.int (m_i (dd))), some (.int (m_i (all))), some (.int (m_i (many))), some (.int (m_i (code))), some (.int (m_i (left))), some (.int (m_i (t.1))), some (.int (m_i (t.2.1))), some (.int (m_i (t.2.2))), some (.int (m_i (k))), some (.int (m_i (((left) % (3)) - (1)))), o2]) eMd_pulsesBy_61 (Nat.le_of_ble_eq_true rfl) rfl ?_
      refine r_il eMd_pulsesBy_63 rfl ?_
      refine r_con eMd_pulsesBy_65 ?_
      refine r_div eMd_pulsesBy_66 ⟨(by omega), (by omega)⟩ ⟨(by omega), (by omega)⟩ ?_
      refine r_is (ls' := [some (.int (m_i (e))), some (.int (m_i (n))), some (.int (m_i (dd))), some (.int (m_i (all))), some (.int (m_i (many))), some (.int (m_i (code))), some (.int (m_i ((left) / (3)))), some (.int (m_i (t.1))), some (.int (m_i (t.2.1))), some (.int (m_i (t.2.2))), some (.int (m_i (k))), some (.int (m_i (((left) % (3)) - (1)))), o2]) eMd_pulsesBy_67 (Nat.le_of_ble_eq_true rfl) rfl ?_
      refine r_iln eMd_pulsesBy_69 rfl ?_
      refine r_sta eMd_pulsesBy_70 rfl rfl (by decide) rfl ?_
      refine c_Md_growth ⟨by omega, by omega⟩ ?_
      show m_wp en _ mMd_pulsesBy 73 [some (.int (m_i (e))), some (.int (m_i (n))), some (.int (m_i (dd))), some (.int (m_i (all))), some (.int (m_i (many))), some (.int (m_i (code))), some (.int (m_i ((left) / (3)))), some (.int (m_i (t.1))), some (.int (m_i (t.2.1))), some (.int (m_i (t.2.2))), some (.int (m_i (k))), some (.int (m_i (((left) % (3)) - (1)))), o2] [(.int (m_i (a_gr (e))))] (T, m_I J, P, L, z, w) Q
      refine r_il eMd_pulsesBy_73 rfl ?_
      refine r_mul eMd_pulsesBy_75 ?_
      refine r_il eMd_pulsesBy_76 rfl ?_
      refine r_sub eMd_pulsesBy_78 ?_
      refine r_il eMd_pulsesBy_79 rfl ?_
      refine r_sub eMd_pulsesBy_81 ?_
      refine r_is (ls' := [some (.int (m_i (e))), some (.int (m_i (n))), some (.int (m_i (dd))), some (.int (m_i (all))), some (.int (m_i (many))), some (.int (m_i (code))), some (.int (m_i ((left) / (3)))), some (.int (m_i (t.1))), some (.int (m_i (t.2.1))), some (.int (m_i (t.2.2))), some (.int (m_i (k))), some (.int (m_i (((left) % (3)) - (1)))), some (.int (m_i ((((a_gr (e)) * (t.2.1)) - (t.2.2)) - (((left) % (3)) - (1)))))]) eMd_pulsesBy_82 (Nat.le_of_ble_eq_true rfl) rfl ?_
      refine r_il eMd_pulsesBy_84 rfl ?_
      refine r_is (ls' := [some (.int (m_i (e))), some (.int (m_i (n))), some (.int (m_i (dd))), some (.int (m_i (all))), some (.int (m_i (many))), some (.int (m_i (code))), some (.int (m_i ((left) / (3)))), some (.int (m_i (t.1))), some (.int (m_i (t.2.1))), some (.int (m_i (t.2.1))), some (.int (m_i (k))), some (.int (m_i (((left) % (3)) - (1)))), some (.int (m_i ((((a_gr (e)) * (t.2.1)) - (t.2.2)) - (((left) % (3)) - (1)))))]) eMd_pulsesBy_86 (Nat.le_of_ble_eq_true rfl) rfl ?_
      refine r_il eMd_pulsesBy_88 rfl ?_
      refine r_is (ls' := [some (.int (m_i (e))), some (.int (m_i (n))), some (.int (m_i (dd))), some (.int (m_i (all))), some (.int (m_i (many))), some (.int (m_i (code))), some (.int (m_i ((left) / (3)))), some (.int (m_i (t.1))), some (.int (m_i ((((a_gr (e)) * (t.2.1)) - (t.2.2)) - (((left) % (3)) - (1))))), some (.int (m_i (t.2.1))), some (.int (m_i (k))), some (.int (m_i (((left) % (3)) - (1)))), some (.int (m_i ((((a_gr (e)) * (t.2.1)) - (t.2.2)) - (((left) % (3)) - (1)))))]) eMd_pulsesBy_90 (Nat.le_of_ble_eq_true rfl) rfl ?_
      refine r_il eMd_pulsesBy_92 rfl ?_
      refine r_il eMd_pulsesBy_94 rfl ?_
      refine r_add eMd_pulsesBy_96 ?_
      refine r_is (ls' := [some (.int (m_i (e))), some (.int (m_i (n))), some (.int (m_i (dd))), some (.int (m_i (all))), some (.int (m_i (many))), some (.int (m_i (code))), some (.int (m_i ((left) / (3)))), some (.int (m_i ((t.1) + (((left) % (3)) - (1))))), some (.int (m_i ((((a_gr (e)) * (t.2.1)) - (t.2.2)) - (((left) % (3)) - (1))))), some (.int (m_i (t.2.1))), some (.int (m_i (k))), some (.int (m_i (((left) % (3)) - (1)))), some (.int (m_i ((((a_gr (e)) * (t.2.1)) - (t.2.2)) - (((left) % (3)) - (1)))))]) eMd_pulsesBy_97 (Nat.le_of_ble_eq_true rfl) rfl ?_
      refine r_inc (ls' := [some (.int (m_i (e))), some (.int (m_i (n))), some (.int (m_i (dd))), some (.int (m_i (all))), some (.int (m_i (many))), some (.int (m_i (code))), some (.int (m_i ((left) / (3)))), some (.int (m_i ((t.1) + (((left) % (3)) - (1))))), some (.int (m_i ((((a_gr (e)) * (t.2.1)) - (t.2.2)) - (((left) % (3)) - (1))))), some (.int (m_i (t.2.1))), some (.int (m_i (k + 1))), some (.int (m_i (((left) % (3)) - (1)))), some (.int (m_i ((((a_gr (e)) * (t.2.1)) - (t.2.2)) - (((left) % (3)) - (1)))))]) eMd_pulsesBy_99 rfl rfl ?_
      refine r_go (tgt := 49) eMd_pulsesBy_102 rfl ?_
      exact ih (k + 1) (left / 3) (t.1 + (left % 3 - 1), a_gr e * t.2.1 - t.2.2 - (left % 3 - 1), t.2.1) _ _ (by omega) (by omega) (by omega) ht
end MDAF
