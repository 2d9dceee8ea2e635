/-! a row is copied; a moment, a log of the class -/
section ROW
variable {en : Nat → Nat} {d : Nat} {T : Nat → Option (Nat × Nat)} {J K : Nat → Nat → Int} {P : Nat → Nat → Option Nat} {L : Nat → Nat → Int64} {z w A B R S : Nat} {Q : m_Q} {σ : a_S}
theorem l_Sc_copyRow {n : Nat} (hR : T R = some (20, n)) (hS : T S = some (20, n)) (hB : en 0 ≤ S) (hRS : R ≠ S) (hn : n < 1000) (hq : Q none (T, m_I (m_fl J S 0 (J R) (n : Int)), P, L, z, w)) :
    ∀ (m k : Nat), k + m = n → m_wp en d mSc_copyRow 2 [some (.ref R), some (.ref S), some (.int (m_i (k : Int)))] [] (T, m_I (m_fl J S 0 (J R) (k : Int)), P, L, z, w) Q := by
  intro m
  induction m with
  | zero =>
    intro k hk
    obtain rfl : k = n := by omega
    refine r_iln eSc_copyRow_2 rfl ?_
    refine r_aln eSc_copyRow_3 rfl ?_
    refine r_alen eSc_copyRow_4 hR (by decide) ?_
    refine r_cge (tgt := 26) eSc_copyRow_5 rfl ⟨(by omega), (by omega)⟩ ⟨(by omega), (by omega)⟩ (fun c5 => ?_) (fun c5 => ?_)
    · refine r_ret eSc_copyRow_26 rfl ?_
      exact hq
    · exfalso; omega
  | succ m ih =>
    intro k hk
    have hi := ih (k + 1) (by omega)
    rw [show ((k + 1 : Nat) : Int) = (k : Int) + 1 by omega, ← m_fl_s (n := (k : Int).toNat) (v := J R (k : Int).toNat) (by omega) (by omega) rfl] at hi
    refine r_iln eSc_copyRow_2 rfl ?_
    refine r_aln eSc_copyRow_3 rfl ?_
    refine r_alen eSc_copyRow_4 hR (by decide) ?_
    refine r_cge (tgt := 26) eSc_copyRow_5 rfl ⟨(by omega), (by omega)⟩ ⟨(by omega), (by omega)⟩ (fun c5 => ?_) (fun c5 => ?_)
    · exfalso; omega
    · refine r_iln eSc_copyRow_8 rfl ?_
      refine r_aln eSc_copyRow_9 rfl ?_
      refine r_alen eSc_copyRow_10 hS (by decide) ?_
      refine r_cge (tgt := 26) eSc_copyRow_11 rfl ⟨(by omega), (by omega)⟩ ⟨(by omega), (by omega)⟩ (fun c11 => ?_) (fun c11 => ?_)
      · exfalso; omega
      · refine r_aln eSc_copyRow_14 rfl ?_
        refine r_iln eSc_copyRow_15 rfl ?_
        refine r_aln eSc_copyRow_16 rfl ?_
        refine r_iln eSc_copyRow_17 rfl ?_
        refine r_ialde (x := J R (((k : Int)).toNat)) eSc_copyRow_18 hR (by omega) (by omega) (by omega) (by rw [m_fl_o (by omega)]) ?_
        refine r_iast eSc_copyRow_19 hS (by omega) (by omega) (by omega) hB ?_
        refine r_inc (ls' := [some (.ref R), some (.ref S), some (.int (m_i ((k : Int) + 1)))]) eSc_copyRow_20 rfl rfl ?_
        refine r_go (tgt := 2) eSc_copyRow_23 rfl ?_
        exact hi
theorem c_Sc_copyRow {n : Nat} (hR : T R = some (20, n)) (hS : T S = some (20, n)) (hB : en 0 ≤ S) (hRS : R ≠ S) (hn : n < 1000) (hq : Q none (T, m_I (m_fl J S 0 (J R) (n : Int)), P, L, z, w)) : m_call en (d + 1) mSc_copyRow [.ref R, .ref S] (T, m_I J, P, L, z, w) Q := by
  have h2 := l_Sc_copyRow (d := d) (J := J) (L := L) (P := P) (z := z) (w := w) hR hS hB hRS hn hq n 0 (by omega)
  rw [show ((0 : Nat) : Int) = 0 from rfl, m_fl_0] at h2
  refine m_into (by decide) (Nat.le_of_ble_eq_true rfl) rfl ?_
  show m_wp en _ mSc_copyRow 0 [some (.ref R), some (.ref S), none] [] (T, m_I J, P, L, z, w) Q
  refine r_con eSc_copyRow_0 ?_
  refine r_isn (ls' := [some (.ref R), some (.ref S), some (.int (m_i (0)))]) eSc_copyRow_1 (Nat.le_of_ble_eq_true rfl) rfl ?_
  exact h2
theorem a_sum_b16 {f : Nat → Int} (h : ∀ i : Nat, i < 16 → 0 ≤ f i ∧ f i ≤ 1000) : ∀ k : Nat, k ≤ 16 → 0 ≤ a_sum f k ∧ a_sum f k ≤ 1000 * k := by
  intro k
  induction k with
  | zero => intro _; unfold a_sum; omega
  | succ k ih =>
    intro hk
    have h1 := ih (by omega)
    have h2 := h k (by omega)
    unfold a_sum
    omega
theorem l_Mo_countBoxes (hA : mo_sh en A T P) (hq : Q (some (.int (m_i (a_sum (J (A + 2)) 16)))) (T, m_I J, P, L, z, w)) :
    ∀ (m k : Nat), k + m = 16 → m_wp en d mMo_countBoxes 4 [some (.ref A), some (.int (m_i (a_sum (J (A + 2)) k))), some (.int (m_i (k : Int)))] [] (T, m_I J, P, L, z, w) Q := by
  intro m
  induction m with
  | zero =>
    intro k hk
    obtain rfl : k = 16 := by omega
    refine r_iln eMo_countBoxes_4 rfl ?_
    refine r_aln eMo_countBoxes_5 rfl ?_
    refine m_getR eMo_countBoxes_6 rfl hA.2.1 (ob_p hA (i := 1) rfl) ?_
    refine r_alen eMo_countBoxes_9 (ob_t hA (i := 1) rfl) (by decide) ?_
    refine r_cge (tgt := 28) eMo_countBoxes_10 rfl ⟨(by omega), (by omega)⟩ ⟨(by omega), (by omega)⟩ (fun c10 => ?_) (fun c10 => ?_)
    · refine r_iln eMo_countBoxes_28 rfl ?_
      refine r_iret eMo_countBoxes_29 rfl ?_
      exact hq
    · exfalso; omega
  | succ m ih =>
    intro k hk
    have e : ((k : Int)).toNat = k := Int.toNat_natCast k
    have hi := ih (k + 1) (by omega)
    rw [show ((k + 1 : Nat) : Int) = (k : Int) + 1 by omega] at hi
    unfold a_sum at hi
    refine r_iln eMo_countBoxes_4 rfl ?_
    refine r_aln eMo_countBoxes_5 rfl ?_
    refine m_getR eMo_countBoxes_6 rfl hA.2.1 (ob_p hA (i := 1) rfl) ?_
    refine r_alen eMo_countBoxes_9 (ob_t hA (i := 1) rfl) (by decide) ?_
    refine r_cge (tgt := 28) eMo_countBoxes_10 rfl ⟨(by omega), (by omega)⟩ ⟨(by omega), (by omega)⟩ (fun c10 => ?_) (fun c10 => ?_)
    · exfalso; omega
    · refine r_iln eMo_countBoxes_13 rfl ?_
      refine r_aln eMo_countBoxes_14 rfl ?_
      refine m_getR eMo_countBoxes_15 rfl hA.2.1 (ob_p hA (i := 1) rfl) ?_
      refine r_iln eMo_countBoxes_18 rfl ?_
      refine r_ialde (x := J (A + 2) (((k : Int)).toNat)) eMo_countBoxes_19 (ob_t hA (i := 1) rfl) (by decide) (by omega) (by omega) rfl ?_
      rw [e]
      refine r_add eMo_countBoxes_20 ?_
      refine r_isn (ls' := [some (.ref A), some (.int (m_i ((a_sum (J (A + 2)) k) + (J (A + 2) k)))), some (.int (m_i ((k : Int))))]) eMo_countBoxes_21 (Nat.le_of_ble_eq_true rfl) rfl ?_
      refine r_inc (ls' := [some (.ref A), some (.int (m_i ((a_sum (J (A + 2)) k) + (J (A + 2) k)))), some (.int (m_i ((k : Int) + 1)))]) eMo_countBoxes_22 rfl rfl ?_
      refine r_go (tgt := 4) eMo_countBoxes_25 rfl ?_
      exact hi
theorem c_Mo_countBoxes (hA : mo_sh en A T P) (hq : Q (some (.int (m_i (a_sum (J (A + 2)) 16)))) (T, m_I J, P, L, z, w)) : m_call en (d + 1) mMo_countBoxes [.ref A] (T, m_I J, P, L, z, w) Q := by
  have h4 := l_Mo_countBoxes (d := d) hA hq 16 0 (by omega)
  refine m_into (by decide) (Nat.le_of_ble_eq_true rfl) rfl ?_
  show m_wp en _ mMo_countBoxes 0 [some (.ref A), none, none] [] (T, m_I J, P, L, z, w) Q
  refine r_con eMo_countBoxes_0 ?_
  refine r_isn (ls' := [some (.ref A), some (.int (m_i (0))), none]) eMo_countBoxes_1 (Nat.le_of_ble_eq_true rfl) rfl ?_
  refine r_con eMo_countBoxes_2 ?_
  refine r_isn (ls' := [some (.ref A), some (.int (m_i (0))), some (.int (m_i (0)))]) eMo_countBoxes_3 (Nat.le_of_ble_eq_true rfl) rfl ?_
  exact h4
theorem c_Lo_letterOf {k : Int} (hk : 0 ≤ k ∧ k < 9) (hq : Q (some (.int (m_i ((if k < 3 then 119 else if k < 6 then 110 else 101) - (if k % 3 = 2 then 32 else 0))))) (T, m_I J, P, L, z, w)) : m_call en (d + 1) mLo_letterOf [.int (m_i k)] (T, m_I J, P, L, z, w) Q := by
  refine m_into (by decide) (Nat.le_of_ble_eq_true rfl) rfl ?_
  show m_wp en _ mLo_letterOf 0 [some (.int (m_i (k))), none] [] (T, m_I J, P, L, z, w) Q
  refine r_iln eLo_letterOf_0 rfl ?_
  refine r_con eLo_letterOf_1 ?_
  refine r_cge (tgt := 10) eLo_letterOf_2 rfl ⟨(by omega), (by omega)⟩ ⟨(by omega), (by omega)⟩ (fun c2 => ?_) (fun c2 => ?_)
  · refine r_iln eLo_letterOf_10 rfl ?_
    refine r_bip eLo_letterOf_11 (by decide) ?_
    refine r_cge (tgt := 21) eLo_letterOf_13 rfl ⟨(by omega), (by omega)⟩ ⟨(by omega), (by omega)⟩ (fun c13 => ?_) (fun c13 => ?_)
    · refine r_bip eLo_letterOf_21 (by decide) ?_
      refine r_isn (ls' := [some (.int (m_i (k))), some (.int (m_i (101)))]) eLo_letterOf_23 (Nat.le_of_ble_eq_true rfl) rfl ?_
      refine r_iln eLo_letterOf_24 rfl ?_
      refine r_con eLo_letterOf_25 ?_
      refine r_rem eLo_letterOf_26 ⟨(by omega), (by omega)⟩ ⟨(by omega), (by omega)⟩ ?_
      refine r_con eLo_letterOf_27 ?_
      refine r_cne (tgt := 38) eLo_letterOf_28 rfl ⟨(by omega), (by omega)⟩ ⟨(by omega), (by omega)⟩ (fun c28 => ?_) (fun c28 => ?_)
      · refine r_iln eLo_letterOf_38 rfl ?_
        refine r_iret eLo_letterOf_39 rfl ?_
        first | (rw [if_pos (by omega), if_pos (by omega)] at hq; exact hq) | (rw [if_pos (by omega), if_neg (by omega)] at hq; exact hq) | (rw [if_neg (by omega), if_pos (by omega), if_pos (by omega)] at hq; exact hq) | (rw [if_neg (by omega), if_pos (by omega), if_neg (by omega)] at hq; exact hq) | (rw [if_neg (by omega), if_neg (by omega), if_pos (by omega)] at hq; exact hq) | (rw [if_neg (by omega), if_neg (by omega), if_neg (by omega)] at hq; exact hq)
      · refine r_iln eLo_letterOf_31 rfl ?_
        refine r_bip eLo_letterOf_32 (by decide) ?_
        refine r_sub eLo_letterOf_34 ?_
        refine r_go (tgt := 39) eLo_letterOf_35 rfl ?_
        refine r_iret eLo_letterOf_39 rfl ?_
        first | (rw [if_pos (by omega), if_pos (by omega)] at hq; exact hq) | (rw [if_pos (by omega), if_neg (by omega)] at hq; exact hq) | (rw [if_neg (by omega), if_pos (by omega), if_pos (by omega)] at hq; exact hq) | (rw [if_neg (by omega), if_pos (by omega), if_neg (by omega)] at hq; exact hq) | (rw [if_neg (by omega), if_neg (by omega), if_pos (by omega)] at hq; exact hq) | (rw [if_neg (by omega), if_neg (by omega), if_neg (by omega)] at hq; exact hq)
    · refine r_bip eLo_letterOf_16 (by decide) ?_
      refine r_go (tgt := 23) eLo_letterOf_18 rfl ?_
      refine r_isn (ls' := [some (.int (m_i (k))), some (.int (m_i (110)))]) eLo_letterOf_23 (Nat.le_of_ble_eq_true rfl) rfl ?_
      refine r_iln eLo_letterOf_24 rfl ?_
      refine r_con eLo_letterOf_25 ?_
      refine r_rem eLo_letterOf_26 ⟨(by omega), (by omega)⟩ ⟨(by omega), (by omega)⟩ ?_
      refine r_con eLo_letterOf_27 ?_
      refine r_cne (tgt := 38) eLo_letterOf_28 rfl ⟨(by omega), (by omega)⟩ ⟨(by omega), (by omega)⟩ (fun c28 => ?_) (fun c28 => ?_)
      · refine r_iln eLo_letterOf_38 rfl ?_
        refine r_iret eLo_letterOf_39 rfl ?_
        first | (rw [if_pos (by omega), if_pos (by omega)] at hq; exact hq) | (rw [if_pos (by omega), if_neg (by omega)] at hq; exact hq) | (rw [if_neg (by omega), if_pos (by omega), if_pos (by omega)] at hq; exact hq) | (rw [if_neg (by omega), if_pos (by omega), if_neg (by omega)] at hq; exact hq) | (rw [if_neg (by omega), if_neg (by omega), if_pos (by omega)] at hq; exact hq) | (rw [if_neg (by omega), if_neg (by omega), if_neg (by omega)] at hq; exact hq)
      · refine r_iln eLo_letterOf_31 rfl ?_
        refine r_bip eLo_letterOf_32 (by decide) ?_
        refine r_sub eLo_letterOf_34 ?_
        refine r_go (tgt := 39) eLo_letterOf_35 rfl ?_
        refine r_iret eLo_letterOf_39 rfl ?_
        first | (rw [if_pos (by omega), if_pos (by omega)] at hq; exact hq) | (rw [if_pos (by omega), if_neg (by omega)] at hq; exact hq) | (rw [if_neg (by omega), if_pos (by omega), if_pos (by omega)] at hq; exact hq) | (rw [if_neg (by omega), if_pos (by omega), if_neg (by omega)] at hq; exact hq) | (rw [if_neg (by omega), if_neg (by omega), if_pos (by omega)] at hq; exact hq) | (rw [if_neg (by omega), if_neg (by omega), if_neg (by omega)] at hq; exact hq)
  · refine r_bip eLo_letterOf_5 (by decide) ?_
    refine r_go (tgt := 23) eLo_letterOf_7 rfl ?_
    refine r_isn (ls' := [some (.int (m_i (k))), some (.int (m_i (119)))]) eLo_letterOf_23 (Nat.le_of_ble_eq_true rfl) rfl ?_
    refine r_iln eLo_letterOf_24 rfl ?_
    refine r_con eLo_letterOf_25 ?_
    refine r_rem eLo_letterOf_26 ⟨(by omega), (by omega)⟩ ⟨(by omega), (by omega)⟩ ?_
    refine r_con eLo_letterOf_27 ?_
    refine r_cne (tgt := 38) eLo_letterOf_28 rfl ⟨(by omega), (by omega)⟩ ⟨(by omega), (by omega)⟩ (fun c28 => ?_) (fun c28 => ?_)
    · refine r_iln eLo_letterOf_38 rfl ?_
      refine r_iret eLo_letterOf_39 rfl ?_
      first | (rw [if_pos (by omega), if_pos (by omega)] at hq; exact hq) | (rw [if_pos (by omega), if_neg (by omega)] at hq; exact hq) | (rw [if_neg (by omega), if_pos (by omega), if_pos (by omega)] at hq; exact hq) | (rw [if_neg (by omega), if_pos (by omega), if_neg (by omega)] at hq; exact hq) | (rw [if_neg (by omega), if_neg (by omega), if_pos (by omega)] at hq; exact hq) | (rw [if_neg (by omega), if_neg (by omega), if_neg (by omega)] at hq; exact hq)
    · refine r_iln eLo_letterOf_31 rfl ?_
      refine r_bip eLo_letterOf_32 (by decide) ?_
      refine r_sub eLo_letterOf_34 ?_
      refine r_go (tgt := 39) eLo_letterOf_35 rfl ?_
      refine r_iret eLo_letterOf_39 rfl ?_
      first | (rw [if_pos (by omega), if_pos (by omega)] at hq; exact hq) | (rw [if_pos (by omega), if_neg (by omega)] at hq; exact hq) | (rw [if_neg (by omega), if_pos (by omega), if_pos (by omega)] at hq; exact hq) | (rw [if_neg (by omega), if_pos (by omega), if_neg (by omega)] at hq; exact hq) | (rw [if_neg (by omega), if_neg (by omega), if_pos (by omega)] at hq; exact hq) | (rw [if_neg (by omega), if_neg (by omega), if_neg (by omega)] at hq; exact hq)
theorem c_Lo_clear (hA : lo_sh en A T P) (hq : Q none (T, m_I (m_up (m_up J A 1 0) A 2 0), P, L, z, w)) : m_call en (d + 1) mLo_clear [.ref A] (T, m_I J, P, L, z, w) Q := by
  refine m_into (by decide) (Nat.le_of_ble_eq_true rfl) rfl ?_
  show m_wp en _ mLo_clear 0 [some (.ref A)] [] (T, m_I J, P, L, z, w) Q
  refine r_aln eLo_clear_0 rfl ?_
  refine r_con eLo_clear_1 ?_
  refine r_put eLo_clear_2 rfl hA.2.1 hA.1 (Or.inl rfl) ?_
  refine r_aln eLo_clear_5 rfl ?_
  refine r_con eLo_clear_6 ?_
  refine r_put eLo_clear_7 rfl hA.2.1 hA.1 (Or.inl rfl) ?_
  refine r_ret eLo_clear_10 rfl ?_
  exact hq
theorem c_Lo_shown (hA : lo_sh en A T P) (hs : 0 ≤ J A 2 ∧ J A 2 ≤ 70) (hq : Q (some (.int (m_i (min 40 (J A 2))))) (T, m_I J, P, L, z, w)) : m_call en (d + 1) mLo_shown [.ref A] (T, m_I J, P, L, z, w) Q := by
  refine m_into (by decide) (Nat.le_of_ble_eq_true rfl) rfl ?_
  show m_wp en _ mLo_shown 0 [some (.ref A)] [] (T, m_I J, P, L, z, w) Q
  refine r_bip eLo_shown_0 (by decide) ?_
  refine r_aln eLo_shown_2 rfl ?_
  refine r_gete (x := J A 2) eLo_shown_3 rfl (by decide) hA.2.1 rfl ?_
  refine r_min eLo_shown_6 rfl (Nat.le_of_ble_eq_true rfl) ⟨(by omega), (by omega)⟩ ⟨(by omega), (by omega)⟩ ?_
  refine r_iret eLo_shown_9 rfl ?_
  exact hq
/-- the place of the k-th latest in a ring of 70 -/
def lo_at (e k : Int) : Int := if e - 1 - k < 0 then e - 1 - k + 70 else e - 1 - k
theorem c_Lo_latest (hA : lo_sh en A T P) (he : 0 ≤ J A 1 ∧ J A 1 < 70) {k : Int} (hk : 0 ≤ k ∧ k < 70) (hq : Q (some (.int (m_i (J (A + 1) (lo_at (J A 1) k).toNat)))) (T, m_I J, P, L, z, w)) : m_call en (d + 1) mLo_latest [.ref A, .int (m_i k)] (T, m_I J, P, L, z, w) Q := by
  refine m_into (by decide) (Nat.le_of_ble_eq_true rfl) rfl ?_
  show m_wp en _ mLo_latest 0 [some (.ref A), some (.int (m_i (k))), none] [] (T, m_I J, P, L, z, w) Q
  refine r_aln eLo_latest_0 rfl ?_
  refine r_gete (x := J A 1) eLo_latest_1 rfl (by decide) hA.2.1 rfl ?_
  refine r_con eLo_latest_4 ?_
  refine r_sub eLo_latest_5 ?_
  refine r_iln eLo_latest_6 rfl ?_
  refine r_sub eLo_latest_7 ?_
  refine r_isn (ls' := [some (.ref A), some (.int (m_i (k))), some (.int (m_i (((J A 1) - (1)) - (k))))]) eLo_latest_8 (Nat.le_of_ble_eq_true rfl) rfl ?_
  refine r_iln eLo_latest_9 rfl ?_
  refine r_zge (tgt := 21) eLo_latest_10 rfl ⟨(by omega), (by omega)⟩ (fun c10 => ?_) (fun c10 => ?_)
  · refine r_iln eLo_latest_21 rfl ?_
    refine r_zlt (tgt := 43) eLo_latest_22 rfl ⟨(by omega), (by omega)⟩ (fun c22 => ?_) (fun c22 => ?_)
    · exfalso; omega
    · refine r_iln eLo_latest_25 rfl ?_
      refine r_aln eLo_latest_26 rfl ?_
      refine m_getR eLo_latest_27 rfl hA.2.1 (ob_p hA (i := 0) rfl) ?_
      refine r_alen eLo_latest_30 (ob_t hA (i := 0) rfl) (by decide) ?_
      refine r_cge (tgt := 43) eLo_latest_31 rfl ⟨(by omega), (by omega)⟩ ⟨(by omega), (by omega)⟩ (fun c31 => ?_) (fun c31 => ?_)
      · exfalso; omega
      · refine r_aln eLo_latest_34 rfl ?_
        refine m_getR eLo_latest_35 rfl hA.2.1 (ob_p hA (i := 0) rfl) ?_
        refine r_iln eLo_latest_38 rfl ?_
        refine r_ialde (x := J (A + 1) ((((J A 1) - (1)) - (k)).toNat)) eLo_latest_39 (ob_t hA (i := 0) rfl) (by decide) (by omega) (by omega) rfl ?_
        refine r_go (tgt := 44) eLo_latest_40 rfl ?_
        refine r_iret eLo_latest_44 rfl ?_
        first | (exfalso; omega) | (unfold lo_at at hq; rw [if_pos (by omega)] at hq; exact hq) | (unfold lo_at at hq; rw [if_neg (by omega)] at hq; exact hq)
  · refine r_iln eLo_latest_13 rfl ?_
    refine r_aln eLo_latest_14 rfl ?_
    refine m_getR eLo_latest_15 rfl hA.2.1 (ob_p hA (i := 0) rfl) ?_
    refine r_alen eLo_latest_18 (ob_t hA (i := 0) rfl) (by decide) ?_
    refine r_add eLo_latest_19 ?_
    refine r_isn (ls' := [some (.ref A), some (.int (m_i (k))), some (.int (m_i ((((J A 1) - (1)) - (k)) + (70))))]) eLo_latest_20 (Nat.le_of_ble_eq_true rfl) rfl ?_
    refine r_iln eLo_latest_21 rfl ?_
    refine r_zlt (tgt := 43) eLo_latest_22 rfl ⟨(by omega), (by omega)⟩ (fun c22 => ?_) (fun c22 => ?_)
    · exfalso; omega
    · refine r_iln eLo_latest_25 rfl ?_
      refine r_aln eLo_latest_26 rfl ?_
      refine m_getR eLo_latest_27 rfl hA.2.1 (ob_p hA (i := 0) rfl) ?_
      refine r_alen eLo_latest_30 (ob_t hA (i := 0) rfl) (by decide) ?_
      refine r_cge (tgt := 43) eLo_latest_31 rfl ⟨(by omega), (by omega)⟩ ⟨(by omega), (by omega)⟩ (fun c31 => ?_) (fun c31 => ?_)
      · exfalso; omega
      · refine r_aln eLo_latest_34 rfl ?_
        refine m_getR eLo_latest_35 rfl hA.2.1 (ob_p hA (i := 0) rfl) ?_
        refine r_iln eLo_latest_38 rfl ?_
        refine r_ialde (x := J (A + 1) (((((J A 1) - (1)) - (k)) + (70)).toNat)) eLo_latest_39 (ob_t hA (i := 0) rfl) (by decide) (by omega) (by omega) rfl ?_
        refine r_go (tgt := 44) eLo_latest_40 rfl ?_
        refine r_iret eLo_latest_44 rfl ?_
        first | (exfalso; omega) | (unfold lo_at at hq; rw [if_pos (by omega)] at hq; exact hq) | (unfold lo_at at hq; rw [if_neg (by omega)] at hq; exact hq)
theorem c_Lo_forget (hA : lo_sh en A T P) (he : 0 ≤ J A 1 ∧ J A 1 < 70) (hs : 0 ≤ J A 2 ∧ J A 2 ≤ 70) (hq : Q none (T, m_I (if 0 < J A 2 then m_up (m_up J A 1 (if 0 < J A 1 then J A 1 - 1 else 69)) A 2 (J A 2 - 1) else J), P, L, z, w)) : m_call en (d + 1) mLo_forget [.ref A] (T, m_I J, P, L, z, w) Q := by
  refine m_into (by decide) (Nat.le_of_ble_eq_true rfl) rfl ?_
  show m_wp en _ mLo_forget 0 [some (.ref A)] [] (T, m_I J, P, L, z, w) Q
  refine r_aln eLo_forget_0 rfl ?_
  refine r_gete (x := J A 2) eLo_forget_1 rfl (by decide) hA.2.1 rfl ?_
  refine r_zle (tgt := 44) eLo_forget_4 rfl ⟨(by omega), (by omega)⟩ (fun c4 => ?_) (fun c4 => ?_)
  · refine r_ret eLo_forget_44 rfl ?_
    first | (rw [if_neg (by omega)] at hq; exact hq) | (rw [if_pos (by omega), if_pos (by omega)] at hq; exact hq) | (rw [if_pos (by omega), if_neg (by omega)] at hq; exact hq)
  · refine r_aln eLo_forget_7 rfl ?_
    refine r_aln eLo_forget_8 rfl ?_
    refine r_gete (x := J A 1) eLo_forget_9 rfl (by decide) hA.2.1 rfl ?_
    refine r_zle (tgt := 24) eLo_forget_12 rfl ⟨(by omega), (by omega)⟩ (fun c12 => ?_) (fun c12 => ?_)
    · refine r_aln eLo_forget_24 rfl ?_
      refine m_getR eLo_forget_25 rfl hA.2.1 (ob_p hA (i := 0) rfl) ?_
      refine r_alen eLo_forget_28 (ob_t hA (i := 0) rfl) (by decide) ?_
      refine r_con eLo_forget_29 ?_
      refine r_sub eLo_forget_30 ?_
      refine r_put eLo_forget_31 rfl hA.2.1 hA.1 (Or.inl rfl) ?_
      refine r_aln eLo_forget_34 rfl ?_
      refine r_dupr eLo_forget_35 ?_
      refine r_gete (x := J A 2) eLo_forget_36 rfl (by decide) hA.2.1 (by rw [m_up_at, if_neg (by omega)]) ?_
      refine r_con eLo_forget_39 ?_
      refine r_sub eLo_forget_40 ?_
      refine r_put eLo_forget_41 rfl hA.2.1 hA.1 (Or.inl rfl) ?_
      refine r_ret eLo_forget_44 rfl ?_
      first | (rw [if_neg (by omega)] at hq; exact hq) | (rw [if_pos (by omega), if_pos (by omega)] at hq; exact hq) | (rw [if_pos (by omega), if_neg (by omega)] at hq; exact hq)
    · refine r_aln eLo_forget_15 rfl ?_
      refine r_gete (x := J A 1) eLo_forget_16 rfl (by decide) hA.2.1 rfl ?_
      refine r_con eLo_forget_19 ?_
      refine r_sub eLo_forget_20 ?_
      refine r_go (tgt := 31) eLo_forget_21 rfl ?_
      refine r_put eLo_forget_31 rfl hA.2.1 hA.1 (Or.inl rfl) ?_
      refine r_aln eLo_forget_34 rfl ?_
      refine r_dupr eLo_forget_35 ?_
      refine r_gete (x := J A 2) eLo_forget_36 rfl (by decide) hA.2.1 (by rw [m_up_at, if_neg (by omega)]) ?_
      refine r_con eLo_forget_39 ?_
      refine r_sub eLo_forget_40 ?_
      refine r_put eLo_forget_41 rfl hA.2.1 hA.1 (Or.inl rfl) ?_
      refine r_ret eLo_forget_44 rfl ?_
      first | (rw [if_neg (by omega)] at hq; exact hq) | (rw [if_pos (by omega), if_pos (by omega)] at hq; exact hq) | (rw [if_pos (by omega), if_neg (by omega)] at hq; exact hq)
/-- an entry of the log: drift, whether it was lifted, its letter -/
def lo_en (k f : Int) : Int := m_or (m_or (m_shl f 9) (m_shl (if k % 3 = 0 then 1 else 0) 8)) ((if k < 3 then 119 else if k < 6 then 110 else 101) - (if k % 3 = 2 then 32 else 0))
def lo_ad (J : Nat → Nat → Int) (A : Nat) (v : Int) : Nat → Nat → Int := m_up (m_up (m_up J (A + 1) (J A 1).toNat v) A 1 (if J A 1 + 1 < 70 then J A 1 + 1 else 0)) A 2 (min 70 (J A 2 + 1))
theorem c_Lo_add (hA : lo_sh en A T P) (he : 0 ≤ J A 1 ∧ J A 1 < 70) (hs : 0 ≤ J A 2 ∧ J A 2 ≤ 70) {k f : Int} (hk : 0 ≤ k ∧ k < 9) (hq : Q none (T, m_I (lo_ad J A (lo_en k f)), P, L, z, w)) : m_call en (d + 2) mLo_add [.ref A, .int (m_i k), .int (m_i f)] (T, m_I J, P, L, z, w) Q := by
  unfold lo_ad lo_en at hq
  refine m_into (by decide) (Nat.le_of_ble_eq_true rfl) rfl ?_
  show m_wp en _ mLo_add 0 [some (.ref A), some (.int (m_i (k))), some (.int (m_i (f))), none] [] (T, m_I J, P, L, z, w) Q
  refine r_aln eLo_add_0 rfl ?_
  refine r_gete (x := J A 1) eLo_add_1 rfl (by decide) hA.2.1 rfl ?_
  refine r_zlt (tgt := 19) eLo_add_4 rfl ⟨(by omega), (by omega)⟩ (fun c4 => ?_) (fun c4 => ?_)
  · exfalso; omega
  · refine r_aln eLo_add_7 rfl ?_
    refine r_gete (x := J A 1) eLo_add_8 rfl (by decide) hA.2.1 rfl ?_
    refine r_aln eLo_add_11 rfl ?_
    refine m_getR eLo_add_12 rfl hA.2.1 (ob_p hA (i := 0) rfl) ?_
    refine r_alen eLo_add_15 (ob_t hA (i := 0) rfl) (by decide) ?_
    refine r_clt (tgt := 20) eLo_add_16 rfl ⟨(by omega), (by omega)⟩ ⟨(by omega), (by omega)⟩ (fun c16 => ?_) (fun c16 => ?_)
    · refine r_iln eLo_add_20 rfl ?_
      refine r_con eLo_add_21 ?_
      refine r_rem eLo_add_22 ⟨(by omega), (by omega)⟩ ⟨(by omega), (by omega)⟩ ?_
      refine r_zne (tgt := 30) eLo_add_23 rfl ⟨(by omega), (by omega)⟩ (fun c23 => ?_) (fun c23 => ?_)
      · refine r_con eLo_add_30 ?_
        refine r_isn (ls' := [some (.ref A), some (.int (m_i (k))), some (.int (m_i (f))), some (.int (m_i (0)))]) eLo_add_31 (Nat.le_of_ble_eq_true rfl) rfl ?_
        refine r_aln eLo_add_32 rfl ?_
        refine m_getR eLo_add_33 rfl hA.2.1 (ob_p hA (i := 0) rfl) ?_
        refine r_aln eLo_add_36 rfl ?_
        refine r_gete (x := J A 1) eLo_add_37 rfl (by decide) hA.2.1 rfl ?_
        refine r_iln eLo_add_40 rfl ?_
        refine r_bip eLo_add_41 (by decide) ?_
        refine r_shl eLo_add_43 ?_
        refine r_iln eLo_add_44 rfl ?_
        refine r_bip eLo_add_45 (by decide) ?_
        refine r_shl eLo_add_47 ?_
        refine r_or eLo_add_48 ?_
        refine r_iln eLo_add_49 rfl ?_
        refine r_sta eLo_add_50 rfl rfl (by decide) rfl ?_
        refine c_Lo_letterOf hk ?_
        show m_wp en _ mLo_add 53 [some (.ref A), some (.int (m_i (k))), some (.int (m_i (f))), some (.int (m_i (0)))] [(.int (m_i (((if k < 3 then 119 else if k < 6 then 110 else 101) - (if k % 3 = 2 then 32 else 0))))), (.int (m_i (m_or (m_shl (f) (9)) (m_shl (0) (8))))), (.int (m_i (J A 1))), (.ref (A + 1))] (T, m_I J, P, L, z, w) Q
        refine r_or eLo_add_53 ?_
        refine r_iast eLo_add_54 (ob_t hA (i := 0) rfl) (by decide) (by omega) (by omega) (ob_b hA 1) ?_
        refine r_aln eLo_add_55 rfl ?_
        refine r_aln eLo_add_56 rfl ?_
        refine r_gete (x := J A 1) eLo_add_57 rfl (by decide) hA.2.1 (by rw [m_up_at, if_neg (by omega)]) ?_
        refine r_con eLo_add_60 ?_
        refine r_add eLo_add_61 ?_
        refine r_aln eLo_add_62 rfl ?_
        refine m_getR eLo_add_63 rfl hA.2.1 (ob_p hA (i := 0) rfl) ?_
        refine r_alen eLo_add_66 (ob_t hA (i := 0) rfl) (by decide) ?_
        refine r_cge (tgt := 79) eLo_add_67 rfl ⟨(by omega), (by omega)⟩ ⟨(by omega), (by omega)⟩ (fun c67 => ?_) (fun c67 => ?_)
        · refine r_con eLo_add_79 ?_
          refine r_put eLo_add_80 rfl hA.2.1 hA.1 (Or.inl rfl) ?_
          refine r_aln eLo_add_83 rfl ?_
          refine r_aln eLo_add_84 rfl ?_
          refine m_getR eLo_add_85 rfl hA.2.1 (ob_p hA (i := 0) rfl) ?_
          refine r_alen eLo_add_88 (ob_t hA (i := 0) rfl) (by decide) ?_
          refine r_aln eLo_add_89 rfl ?_
          refine r_gete (x := J A 2) eLo_add_90 rfl (by decide) hA.2.1 (by rw [m_up_at, if_neg (by omega), m_up_at, if_neg (by omega)]) ?_
          refine r_con eLo_add_93 ?_
          refine r_add eLo_add_94 ?_
          refine r_min eLo_add_95 rfl (Nat.le_of_ble_eq_true rfl) ⟨(by omega), (by omega)⟩ ⟨(by omega), (by omega)⟩ ?_
          refine r_put eLo_add_98 rfl hA.2.1 hA.1 (Or.inl rfl) ?_
          refine r_ret eLo_add_101 rfl ?_
          first | (rw [if_pos (show k % 3 = 0 by omega), if_pos (show J A 1 + 1 < 70 by omega)] at hq; exact hq) | (rw [if_pos (show k % 3 = 0 by omega), if_neg (show ¬ J A 1 + 1 < 70 by omega)] at hq; exact hq) | (rw [if_neg (show ¬ k % 3 = 0 by omega), if_pos (show J A 1 + 1 < 70 by omega)] at hq; exact hq) | (rw [if_neg (show ¬ k % 3 = 0 by omega), if_neg (show ¬ J A 1 + 1 < 70 by omega)] at hq; exact hq)
        · refine r_aln eLo_add_70 rfl ?_
          refine r_gete (x := J A 1) eLo_add_71 rfl (by decide) hA.2.1 (by rw [m_up_at, if_neg (by omega)]) ?_
          refine r_con eLo_add_74 ?_
          refine r_add eLo_add_75 ?_
          refine r_go (tgt := 80) eLo_add_76 rfl ?_
          refine r_put eLo_add_80 rfl hA.2.1 hA.1 (Or.inl rfl) ?_
          refine r_aln eLo_add_83 rfl ?_
          refine r_aln eLo_add_84 rfl ?_
          refine m_getR eLo_add_85 rfl hA.2.1 (ob_p hA (i := 0) rfl) ?_
          refine r_alen eLo_add_88 (ob_t hA (i := 0) rfl) (by decide) ?_
          refine r_aln eLo_add_89 rfl ?_
          refine r_gete (x := J A 2) eLo_add_90 rfl (by decide) hA.2.1 (by rw [m_up_at, if_neg (by omega), m_up_at, if_neg (by omega)]) ?_
          refine r_con eLo_add_93 ?_
          refine r_add eLo_add_94 ?_
          refine r_min eLo_add_95 rfl (Nat.le_of_ble_eq_true rfl) ⟨(by omega), (by omega)⟩ ⟨(by omega), (by omega)⟩ ?_
          refine r_put eLo_add_98 rfl hA.2.1 hA.1 (Or.inl rfl) ?_
          refine r_ret eLo_add_101 rfl ?_
          first | (rw [if_pos (show k % 3 = 0 by omega), if_pos (show J A 1 + 1 < 70 by omega)] at hq; exact hq) | (rw [if_pos (show k % 3 = 0 by omega), if_neg (show ¬ J A 1 + 1 < 70 by omega)] at hq; exact hq) | (rw [if_neg (show ¬ k % 3 = 0 by omega), if_pos (show J A 1 + 1 < 70 by omega)] at hq; exact hq) | (rw [if_neg (show ¬ k % 3 = 0 by omega), if_neg (show ¬ J A 1 + 1 < 70 by omega)] at hq; exact hq)
      · refine r_con eLo_add_26 ?_
        refine r_go (tgt := 31) eLo_add_27 rfl ?_
        refine r_isn (ls' := [some (.ref A), some (.int (m_i (k))), some (.int (m_i (f))), some (.int (m_i (1)))]) eLo_add_31 (Nat.le_of_ble_eq_true rfl) rfl ?_
        refine r_aln eLo_add_32 rfl ?_
        refine m_getR eLo_add_33 rfl hA.2.1 (ob_p hA (i := 0) rfl) ?_
        refine r_aln eLo_add_36 rfl ?_
        refine r_gete (x := J A 1) eLo_add_37 rfl (by decide) hA.2.1 rfl ?_
        refine r_iln eLo_add_40 rfl ?_
        refine r_bip eLo_add_41 (by decide) ?_
        refine r_shl eLo_add_43 ?_
        refine r_iln eLo_add_44 rfl ?_
        refine r_bip eLo_add_45 (by decide) ?_
        refine r_shl eLo_add_47 ?_
        refine r_or eLo_add_48 ?_
        refine r_iln eLo_add_49 rfl ?_
        refine r_sta eLo_add_50 rfl rfl (by decide) rfl ?_
        refine c_Lo_letterOf hk ?_
        show m_wp en _ mLo_add 53 [some (.ref A), some (.int (m_i (k))), some (.int (m_i (f))), some (.int (m_i (1)))] [(.int (m_i (((if k < 3 then 119 else if k < 6 then 110 else 101) - (if k % 3 = 2 then 32 else 0))))), (.int (m_i (m_or (m_shl (f) (9)) (m_shl (1) (8))))), (.int (m_i (J A 1))), (.ref (A + 1))] (T, m_I J, P, L, z, w) Q
        refine r_or eLo_add_53 ?_
        refine r_iast eLo_add_54 (ob_t hA (i := 0) rfl) (by decide) (by omega) (by omega) (ob_b hA 1) ?_
        refine r_aln eLo_add_55 rfl ?_
        refine r_aln eLo_add_56 rfl ?_
        refine r_gete (x := J A 1) eLo_add_57 rfl (by decide) hA.2.1 (by rw [m_up_at, if_neg (by omega)]) ?_
        refine r_con eLo_add_60 ?_
        refine r_add eLo_add_61 ?_
        refine r_aln eLo_add_62 rfl ?_
        refine m_getR eLo_add_63 rfl hA.2.1 (ob_p hA (i := 0) rfl) ?_
        refine r_alen eLo_add_66 (ob_t hA (i := 0) rfl) (by decide) ?_
        refine r_cge (tgt := 79) eLo_add_67 rfl ⟨(by omega), (by omega)⟩ ⟨(by omega), (by omega)⟩ (fun c67 => ?_) (fun c67 => ?_)
        · refine r_con eLo_add_79 ?_
          refine r_put eLo_add_80 rfl hA.2.1 hA.1 (Or.inl rfl) ?_
          refine r_aln eLo_add_83 rfl ?_
          refine r_aln eLo_add_84 rfl ?_
          refine m_getR eLo_add_85 rfl hA.2.1 (ob_p hA (i := 0) rfl) ?_
          refine r_alen eLo_add_88 (ob_t hA (i := 0) rfl) (by decide) ?_
          refine r_aln eLo_add_89 rfl ?_
          refine r_gete (x := J A 2) eLo_add_90 rfl (by decide) hA.2.1 (by rw [m_up_at, if_neg (by omega), m_up_at, if_neg (by omega)]) ?_
          refine r_con eLo_add_93 ?_
          refine r_add eLo_add_94 ?_
          refine r_min eLo_add_95 rfl (Nat.le_of_ble_eq_true rfl) ⟨(by omega), (by omega)⟩ ⟨(by omega), (by omega)⟩ ?_
          refine r_put eLo_add_98 rfl hA.2.1 hA.1 (Or.inl rfl) ?_
          refine r_ret eLo_add_101 rfl ?_
          first | (rw [if_pos (show k % 3 = 0 by omega), if_pos (show J A 1 + 1 < 70 by omega)] at hq; exact hq) | (rw [if_pos (show k % 3 = 0 by omega), if_neg (show ¬ J A 1 + 1 < 70 by omega)] at hq; exact hq) | (rw [if_neg (show ¬ k % 3 = 0 by omega), if_pos (show J A 1 + 1 < 70 by omega)] at hq; exact hq) | (rw [if_neg (show ¬ k % 3 = 0 by omega), if_neg (show ¬ J A 1 + 1 < 70 by omega)] at hq; exact hq)
        · refine r_aln eLo_add_70 rfl ?_
          refine r_gete (x := J A 1) eLo_add_71 rfl (by decide) hA.2.1 (by rw [m_up_at, if_neg (by omega)]) ?_
          refine r_con eLo_add_74 ?_
          refine r_add eLo_add_75 ?_
          refine r_go (tgt := 80) eLo_add_76 rfl ?_
          refine r_put eLo_add_80 rfl hA.2.1 hA.1 (Or.inl rfl) ?_
          refine r_aln eLo_add_83 rfl ?_
          refine r_aln eLo_add_84 rfl ?_
          refine m_getR eLo_add_85 rfl hA.2.1 (ob_p hA (i := 0) rfl) ?_
          refine r_alen eLo_add_88 (ob_t hA (i := 0) rfl) (by decide) ?_
          refine r_aln eLo_add_89 rfl ?_
          refine r_gete (x := J A 2) eLo_add_90 rfl (by decide) hA.2.1 (by rw [m_up_at, if_neg (by omega), m_up_at, if_neg (by omega)]) ?_
          refine r_con eLo_add_93 ?_
          refine r_add eLo_add_94 ?_
          refine r_min eLo_add_95 rfl (Nat.le_of_ble_eq_true rfl) ⟨(by omega), (by omega)⟩ ⟨(by omega), (by omega)⟩ ?_
          refine r_put eLo_add_98 rfl hA.2.1 hA.1 (Or.inl rfl) ?_
          refine r_ret eLo_add_101 rfl ?_
          first | (rw [if_pos (show k % 3 = 0 by omega), if_pos (show J A 1 + 1 < 70 by omega)] at hq; exact hq) | (rw [if_pos (show k % 3 = 0 by omega), if_neg (show ¬ J A 1 + 1 < 70 by omega)] at hq; exact hq) | (rw [if_neg (show ¬ k % 3 = 0 by omega), if_pos (show J A 1 + 1 < 70 by omega)] at hq; exact hq) | (rw [if_neg (show ¬ k % 3 = 0 by omega), if_neg (show ¬ J A 1 + 1 < 70 by omega)] at hq; exact hq)
    · exfalso; omega
theorem c_Mo_set (hA : mo_sh en A T P) (hB : mo_sh en B T P) (hAB : A + 3 ≤ B ∨ B + 3 ≤ A) (hq : Q none (T, m_I (m_up (m_up (m_up (m_fl (po_put J (A + 1) (po_get J (B + 1))) (A + 2) 0 (J (B + 2)) 16) A 2 (J B 2)) A 3 (J B 3)) A 4 (J B 4)), P, L, z, w)) : m_call en (d + 2) mMo_set [.ref A, .ref B] (T, m_I J, P, L, z, w) Q := by
  have hA1 : po_sh en (A + 1) T P := ⟨ob_b hA 1, ob_t hA (i := 0) rfl, fun q h => absurd h (List.not_mem_nil)⟩
  have hB1 : po_sh en (B + 1) T P := ⟨ob_b hB 1, ob_t hB (i := 0) rfl, fun q h => absurd h (List.not_mem_nil)⟩
  have eB : po_put J (A + 1) (po_get J (B + 1)) (B + 2) = J (B + 2) := funext (fun i => po_put_o (by omega))
  refine m_into (by decide) (Nat.le_of_ble_eq_true rfl) rfl ?_
  show m_wp en _ mMo_set 0 [some (.ref A), some (.ref B)] [] (T, m_I J, P, L, z, w) Q
  refine r_aln eMo_set_0 rfl ?_
  refine m_getR eMo_set_1 rfl hA.2.1 (ob_p hA (i := 0) rfl) ?_
  refine r_aln eMo_set_4 rfl ?_
  refine m_getR eMo_set_5 rfl hB.2.1 (ob_p hB (i := 0) rfl) ?_
  refine r_vir eMo_set_8 rfl rfl rfl (ob_t hA (i := 0) rfl) rfl rfl ?_
  refine c_Po_set hA1 hB1 (by omega) ?_
  show m_wp en _ mMo_set 11 [some (.ref A), some (.ref B)] [] (T, m_I (((po_put J (A + 1) (po_get J (B + 1))))), P, L, z, w) Q
  refine r_aln eMo_set_11 rfl ?_
  refine m_getR eMo_set_12 rfl hB.2.1 (ob_p hB (i := 1) rfl) ?_
  refine r_aln eMo_set_15 rfl ?_
  refine m_getR eMo_set_16 rfl hA.2.1 (ob_p hA (i := 1) rfl) ?_
  refine r_sta eMo_set_19 rfl rfl (by decide) rfl ?_
  refine c_Sc_copyRow (n := 16) (ob_t hB (i := 1) rfl) (ob_t hA (i := 1) rfl) (ob_b hA 2) (by omega) (by omega) ?_
  show m_wp en _ mMo_set 22 [some (.ref A), some (.ref B)] [] (T, m_I (((m_fl (((po_put J (A + 1) (po_get J (B + 1))))) (A + 2) 0 ((((po_put J (A + 1) (po_get J (B + 1))))) (B + 2)) 16))), P, L, z, w) Q
  rw [eB]
  refine r_aln eMo_set_22 rfl ?_
  refine r_aln eMo_set_23 rfl ?_
  refine r_gete (x := J B 2) eMo_set_24 rfl (by decide) hB.2.1 (by rw [m_fl_o (by omega), po_put_o (by omega)]) ?_
  refine r_put eMo_set_27 rfl hA.2.1 hA.1 (Or.inl rfl) ?_
  refine r_aln eMo_set_30 rfl ?_
  refine r_aln eMo_set_31 rfl ?_
  refine r_gete (x := J B 3) eMo_set_32 rfl (by decide) hB.2.1 (by rw [m_up_at, if_neg (by omega), m_fl_o (by omega), po_put_o (by omega)]) ?_
  refine r_put eMo_set_35 rfl hA.2.1 hA.1 (Or.inl rfl) ?_
  refine r_aln eMo_set_38 rfl ?_
  refine r_aln eMo_set_39 rfl ?_
  refine r_gete (x := J B 4) eMo_set_40 rfl (by decide) hB.2.1 (by rw [m_up_at, if_neg (by omega), m_up_at, if_neg (by omega), m_fl_o (by omega), po_put_o (by omega)]) ?_
  refine r_put eMo_set_43 rfl hA.2.1 hA.1 (Or.inl rfl) ?_
  refine r_ret eMo_set_46 rfl ?_
  exact hq
theorem c_Mo_begin (hA : mo_sh en A T P) (hB : pl_sh en B T P) (hAB : A + 3 ≤ B ∨ B + 13 ≤ A) (hq : Q none (T, m_I (m_up (m_up (m_up (m_fl (po_put J (A + 1) (J B 5, 0, 0, 0, J B 6)) (A + 2) 0 (J (B + 2)) 16) A 2 0) A 3 0) A 4 0), P, L, z, w)) : m_call en (d + 2) mMo_begin [.ref A, .ref B] (T, m_I J, P, L, z, w) Q := by
  have hA1 : po_sh en (A + 1) T P := ⟨ob_b hA 1, ob_t hA (i := 0) rfl, fun q h => absurd h (List.not_mem_nil)⟩
  have eB : po_put J (A + 1) (J B 5, 0, 0, 0, J B 6) (B + 2) = J (B + 2) := funext (fun i => po_put_o (by omega))
  refine m_into (by decide) (Nat.le_of_ble_eq_true rfl) rfl ?_
  show m_wp en _ mMo_begin 0 [some (.ref A), some (.ref B)] [] (T, m_I J, P, L, z, w) Q
  refine r_aln eMo_begin_0 rfl ?_
  refine m_getR eMo_begin_1 rfl hA.2.1 (ob_p hA (i := 0) rfl) ?_
  refine r_aln eMo_begin_4 rfl ?_
  refine r_gete (x := J B 5) eMo_begin_5 rfl (by decide) hB.2.1 rfl ?_
  refine r_aln eMo_begin_8 rfl ?_
  refine r_gete (x := J B 6) eMo_begin_9 rfl (by decide) hB.2.1 rfl ?_
  refine r_vir eMo_begin_12 rfl rfl rfl (ob_t hA (i := 0) rfl) rfl rfl ?_
  refine c_Po_hang hA1 ?_
  show m_wp en _ mMo_begin 15 [some (.ref A), some (.ref B)] [] (T, m_I (((po_put J (A + 1) ((J B 5), 0, 0, 0, (J B 6))))), P, L, z, w) Q
  refine r_aln eMo_begin_15 rfl ?_
  refine m_getR eMo_begin_16 rfl hB.2.1 (ob_p hB (i := 1) rfl) ?_
  refine r_aln eMo_begin_19 rfl ?_
  refine m_getR eMo_begin_20 rfl hA.2.1 (ob_p hA (i := 1) rfl) ?_
  refine r_sta eMo_begin_23 rfl rfl (by decide) rfl ?_
  refine c_Sc_copyRow (n := 16) (ob_t hB (i := 1) rfl) (ob_t hA (i := 1) rfl) (ob_b hA 2) (by omega) (by omega) ?_
  show m_wp en _ mMo_begin 26 [some (.ref A), some (.ref B)] [] (T, m_I (((m_fl (((po_put J (A + 1) ((J B 5), 0, 0, 0, (J B 6))))) (A + 2) 0 ((((po_put J (A + 1) ((J B 5), 0, 0, 0, (J B 6))))) (B + 2)) 16))), P, L, z, w) Q
  rw [eB]
  refine r_aln eMo_begin_26 rfl ?_
  refine r_con eMo_begin_27 ?_
  refine r_put eMo_begin_28 rfl hA.2.1 hA.1 (Or.inl rfl) ?_
  refine r_aln eMo_begin_31 rfl ?_
  refine r_con eMo_begin_32 ?_
  refine r_put eMo_begin_33 rfl hA.2.1 hA.1 (Or.inl rfl) ?_
  refine r_aln eMo_begin_36 rfl ?_
  refine r_con eMo_begin_37 ?_
  refine r_put eMo_begin_38 rfl hA.2.1 hA.1 (Or.inl rfl) ?_
  refine r_ret eMo_begin_41 rfl ?_
  exact hq
end ROW
