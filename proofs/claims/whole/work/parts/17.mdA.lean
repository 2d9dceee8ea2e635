/-! the reference, its small methods: a state of the crane is five numbers (column, speed, sway, last, depth) -/
abbrev a_S : Type := Int × Int × Int × Int × Int
def a_gr (d : Int) : Int := if d < 3 then -1 else if d < 5 then 0 else 1
def a_abs (v : Int) : Int := if v < 0 then -v else v
/-- a state's number -/
def a_no (σ : a_S) : Int := (((σ.1 * 5 + σ.2.1 + 2) * 9 + σ.2.2.1 + 4) * 9 + σ.2.2.2.1 + 4) * 6 + σ.2.2.2.2 - 1
/-- the state of a number -/
def a_of (n : Int) : a_S := (n / 2430, n / 486 % 5 - 2, n / 54 % 9 - 4, n / 6 % 9 - 4, n % 6 + 1)
/-- a step by a code, with a wind -/
def a_step (σ : a_S) (k w : Int) : a_S := (σ.1 + (σ.2.1 + (k / 3 - 1)), σ.2.1 + (k / 3 - 1), a_gr (σ.2.2.2.2 + (k % 3 - 1)) * σ.2.2.1 - σ.2.2.2.1 - (k / 3 - 1) + w, σ.2.2.1, σ.2.2.2.2 + (k % 3 - 1))
/-- the state from which a step by a code leads here without wind -/
def a_back (σ : a_S) (k : Int) : a_S := (σ.1 - σ.2.1, σ.2.1 - (k / 3 - 1), σ.2.2.2.1, a_gr σ.2.2.2.2 * σ.2.2.2.1 - (k / 3 - 1) - σ.2.2.1, σ.2.2.2.2 - (k % 3 - 1))
def md_get (J : Nat → Nat → Int) (M : Nat) : a_S := (J M 33, J M 34, J M 35, J M 36, J M 37)
def md_put (J : Nat → Nat → Int) (M : Nat) (σ : a_S) : Nat → Nat → Int := m_up (m_up (m_up (m_up (m_up J M 33 σ.1) M 34 σ.2.1) M 35 σ.2.2.1) M 36 σ.2.2.2.1) M 37 σ.2.2.2.2
theorem md_put_at (J : Nat → Nat → Int) (M : Nat) (σ : a_S) (b i : Nat) : md_put J M σ b i = if b = M ∧ i = 37 then σ.2.2.2.2 else if b = M ∧ i = 36 then σ.2.2.2.1 else if b = M ∧ i = 35 then σ.2.2.1 else if b = M ∧ i = 34 then σ.2.1 else if b = M ∧ i = 33 then σ.1 else J b i := by
  simp only [md_put, m_up]
theorem md_get_put (J : Nat → Nat → Int) (M : Nat) (σ : a_S) : md_get (md_put J M σ) M = σ := by
  simp [md_get, md_put_at]
theorem md_put_put (J : Nat → Nat → Int) (M : Nat) (σ τ : a_S) : md_put (md_put J M σ) M τ = md_put J M τ := by
  funext b i
  simp only [md_put_at]
  by_cases h : b = M <;> simp [h]
  split <;> try rfl
  split <;> try rfl
  split <;> try rfl
  split <;> try rfl
  split <;> rfl
theorem md_put_get (J : Nat → Nat → Int) (M : Nat) : md_put J M (md_get J M) = J := by
  funext b i
  simp only [md_put_at, md_get]
  by_cases h : b = M
  · subst h
    simp only [true_and]
    split
    · rename_i e; rw [e]
    · split
      · rename_i e; rw [e]
      · split
        · rename_i e; rw [e]
        · split
          · rename_i e; rw [e]
          · split
            · rename_i e; rw [e]
            · rfl
  · simp [h]
section MDA
variable {en : Nat → Nat} {d : Nat} {T : Nat → Option (Nat × Nat)} {J : Nat → Nat → Int} {P : Nat → Nat → Option Nat} {L : Nat → Nat → Int64} {z w M : Nat} {Q : m_Q}
theorem c_Md_without {v : Int} (hv : m_in v) (hq : Q (some (.int (m_i (a_abs v)))) (T, m_I J, P, L, z, w)) : m_call en (d + 1) mMd_without [.int (m_i v)] (T, m_I J, P, L, z, w) Q := by
  unfold m_in at hv
  refine m_into (by decide) (Nat.le_of_ble_eq_true rfl) rfl ?_
  show m_wp en _ mMd_without 0 [some (.int (m_i (v)))] [] (T, m_I J, P, L, z, w) Q
  refine r_iln eMd_without_0 rfl ?_
  refine r_zge (tgt := 9) eMd_without_1 rfl ⟨(by omega), (by omega)⟩ (fun c1 => ?_) (fun c1 => ?_)
  · skip
    refine r_iln eMd_without_9 rfl ?_
    refine r_iret eMd_without_10 rfl ?_
    unfold a_abs at hq
    rw [if_neg (by omega)] at hq
    exact hq
  · skip
    refine r_iln eMd_without_4 rfl ?_
    refine r_neg eMd_without_5 ?_
    refine r_go (tgt := 10) eMd_without_6 rfl ?_
    refine r_iret eMd_without_10 rfl ?_
    unfold a_abs at hq
    rw [if_pos (by omega)] at hq
    exact hq
theorem c_Md_growth {v : Int} (hv : m_in v) (hq : Q (some (.int (m_i (a_gr v)))) (T, m_I J, P, L, z, w)) : m_call en (d + 1) mMd_growth [.int (m_i v)] (T, m_I J, P, L, z, w) Q := by
  unfold m_in at hv
  refine m_into (by decide) (Nat.le_of_ble_eq_true rfl) rfl ?_
  show m_wp en _ mMd_growth 0 [some (.int (m_i (v)))] [] (T, m_I J, P, L, z, w) Q
  refine r_iln eMd_growth_0 rfl ?_
  refine r_con eMd_growth_1 ?_
  refine r_cge (tgt := 9) eMd_growth_2 rfl ⟨(by omega), (by omega)⟩ ⟨(by omega), (by omega)⟩ (fun c2 => ?_) (fun c2 => ?_)
  · skip
    refine r_iln eMd_growth_9 rfl ?_
    refine r_con eMd_growth_10 ?_
    refine r_cge (tgt := 18) eMd_growth_11 rfl ⟨(by omega), (by omega)⟩ ⟨(by omega), (by omega)⟩ (fun c11 => ?_) (fun c11 => ?_)
    · skip
      refine r_con eMd_growth_18 ?_
      refine r_iret eMd_growth_19 rfl ?_
      unfold a_gr at hq
      rw [if_neg (by omega), if_neg (by omega)] at hq
      exact hq
    · skip
      refine r_con eMd_growth_14 ?_
      refine r_go (tgt := 19) eMd_growth_15 rfl ?_
      refine r_iret eMd_growth_19 rfl ?_
      unfold a_gr at hq
      rw [if_neg (by omega), if_pos (by omega)] at hq
      exact hq
  · skip
    refine r_con eMd_growth_5 ?_
    refine r_go (tgt := 19) eMd_growth_6 rfl ?_
    refine r_iret eMd_growth_19 rfl ?_
    unfold a_gr at hq
    rw [if_pos (by omega)] at hq
    exact hq
theorem c_Md_numberOf {c v s l e : Int} (hq : Q (some (.int (m_i (a_no (c, v, s, l, e))))) (T, m_I J, P, L, z, w)) : m_call en (d + 1) mMd_numberOf [.int (m_i c), .int (m_i v), .int (m_i s), .int (m_i l), .int (m_i e)] (T, m_I J, P, L, z, w) Q := by
  refine m_into (by decide) (Nat.le_of_ble_eq_true rfl) rfl ?_
  show m_wp en _ mMd_numberOf 0 [some (.int (m_i (c))), some (.int (m_i (v))), some (.int (m_i (s))), some (.int (m_i (l))), some (.int (m_i (e)))] [] (T, m_I J, P, L, z, w) Q
  refine r_iln eMd_numberOf_0 rfl ?_
  refine r_con eMd_numberOf_1 ?_
  refine r_mul eMd_numberOf_2 ?_
  refine r_iln eMd_numberOf_3 rfl ?_
  refine r_add eMd_numberOf_4 ?_
  refine r_con eMd_numberOf_5 ?_
  refine r_add eMd_numberOf_6 ?_
  refine r_bip eMd_numberOf_7 (by decide) ?_
  refine r_mul eMd_numberOf_9 ?_
  refine r_iln eMd_numberOf_10 rfl ?_
  refine r_add eMd_numberOf_11 ?_
  refine r_con eMd_numberOf_12 ?_
  refine r_add eMd_numberOf_13 ?_
  refine r_bip eMd_numberOf_14 (by decide) ?_
  refine r_mul eMd_numberOf_16 ?_
  refine r_iln eMd_numberOf_17 rfl ?_
  refine r_add eMd_numberOf_18 ?_
  refine r_con eMd_numberOf_19 ?_
  refine r_add eMd_numberOf_20 ?_
  refine r_bip eMd_numberOf_21 (by decide) ?_
  refine r_mul eMd_numberOf_23 ?_
  refine r_il eMd_numberOf_24 rfl ?_
  refine r_add eMd_numberOf_26 ?_
  refine r_con eMd_numberOf_27 ?_
  refine r_sub eMd_numberOf_28 ?_
  refine r_iret eMd_numberOf_29 rfl ?_
  exact hq
theorem c_Md_lays (hM : md_sh en M T P) {n : Int} (h0 : 0 ≤ n) (h1 : n < 2147483648) (hq : Q none (T, m_I (md_put J M (a_of n)), P, L, z, w)) : m_call en (d + 1) mMd_lays [.ref M, .int (m_i n)] (T, m_I J, P, L, z, w) Q := by
  refine m_into (by decide) (Nat.le_of_ble_eq_true rfl) rfl ?_
  show m_wp en _ mMd_lays 0 [some (.ref M), some (.int (m_i (n)))] [] (T, m_I J, P, L, z, w) Q
  refine r_aln eMd_lays_0 rfl ?_
  refine r_iln eMd_lays_1 rfl ?_
  refine r_bip eMd_lays_2 (by decide) ?_
  refine r_rem eMd_lays_4 ⟨(by omega), (by omega)⟩ ⟨(by omega), (by omega)⟩ ?_
  refine r_con eMd_lays_5 ?_
  refine r_add eMd_lays_6 ?_
  refine r_put eMd_lays_7 rfl hM.2.1 hM.1 (Or.inl rfl) ?_
  refine r_aln eMd_lays_10 rfl ?_
  refine r_iln eMd_lays_11 rfl ?_
  refine r_bip eMd_lays_12 (by decide) ?_
  refine r_div eMd_lays_14 ⟨(by omega), (by omega)⟩ ⟨(by omega), (by omega)⟩ ?_
  refine r_bip eMd_lays_15 (by decide) ?_
  refine r_rem eMd_lays_17 ⟨(by omega), (by omega)⟩ ⟨(by omega), (by omega)⟩ ?_
  refine r_con eMd_lays_18 ?_
  refine r_sub eMd_lays_19 ?_
  refine r_put eMd_lays_20 rfl hM.2.1 hM.1 (Or.inl rfl) ?_
  refine r_aln eMd_lays_23 rfl ?_
  refine r_iln eMd_lays_24 rfl ?_
  refine r_bip eMd_lays_25 (by decide) ?_
  refine r_div eMd_lays_27 ⟨(by omega), (by omega)⟩ ⟨(by omega), (by omega)⟩ ?_
  refine r_bip eMd_lays_28 (by decide) ?_
  refine r_rem eMd_lays_30 ⟨(by omega), (by omega)⟩ ⟨(by omega), (by omega)⟩ ?_
  refine r_con eMd_lays_31 ?_
  refine r_sub eMd_lays_32 ?_
  refine r_put eMd_lays_33 rfl hM.2.1 hM.1 (Or.inl rfl) ?_
  refine r_aln eMd_lays_36 rfl ?_
  refine r_iln eMd_lays_37 rfl ?_
  refine r_sip eMd_lays_38 (by decide) ?_
  refine r_div eMd_lays_41 ⟨(by omega), (by omega)⟩ ⟨(by omega), (by omega)⟩ ?_
  refine r_con eMd_lays_42 ?_
  refine r_rem eMd_lays_43 ⟨(by omega), (by omega)⟩ ⟨(by omega), (by omega)⟩ ?_
  refine r_con eMd_lays_44 ?_
  refine r_sub eMd_lays_45 ?_
  refine r_put eMd_lays_46 rfl hM.2.1 hM.1 (Or.inl rfl) ?_
  refine r_aln eMd_lays_49 rfl ?_
  refine r_iln eMd_lays_50 rfl ?_
  refine r_sip eMd_lays_51 (by decide) ?_
  refine r_div eMd_lays_54 ⟨(by omega), (by omega)⟩ ⟨(by omega), (by omega)⟩ ?_
  refine r_put eMd_lays_55 rfl hM.2.1 hM.1 (Or.inl rfl) ?_
  refine r_ret eMd_lays_58 rfl ?_
  have e : (m_up (m_up (m_up (m_up (m_up J M 37 (n % 6 + 1)) M 36 (n / 6 % 9 - 4)) M 35 (n / 54 % 9 - 4)) M 34 (n / 486 % 5 - 2)) M 33 (n / 2430)) = md_put J M (a_of n) := by
    funext b i
    simp only [md_put_at, m_up, a_of]
    by_cases hb : b = M
    · subst hb
      simp only [true_and]
      repeat' split
      all_goals first | rfl | omega
    · simp [hb]
  rw [← e] at hq
  exact hq
end MDA
