/-! the reference's plain answers -/
section MDH
variable {en : Nat → Nat} {d : Nat} {T : Nat → Option (Nat × Nat)} {J J0 : Nat → Nat → Int} {P : Nat → Nat → Option Nat} {L : Nat → Nat → Int64} {z w M : Nat} {Q : m_Q} {σ : a_S}
theorem c_Md_fault (hM : md_sh en M T P) (hJ : m_up J0 M 0 0 = J) {x : Int} (hx : m_in x) (hq : Q (some (.int (m_i (if x = 0 then J M 27 else if x = 1 then J M 28 else -1)))) (T, m_I J, P, L, z, w)) : m_call en (d + 1) mMd_fault [.ref M, .int (m_i x)] (T, m_I J0, P, L, z, w) Q := by
  unfold m_in at hx
  refine m_into (by decide) (Nat.le_of_ble_eq_true rfl) rfl ?_
  show m_wp en _ mMd_fault 0 [some (.ref M), some (.int (m_i (x)))] [] (T, m_I J0, P, L, z, w) Q
  refine r_aln eMd_fault_0 rfl ?_
  refine r_con eMd_fault_1 ?_
  refine r_put eMd_fault_2 rfl hM.2.1 hM.1 (Or.inl rfl) ?_
  rw [hJ]
  refine r_iln eMd_fault_5 rfl ?_
  refine r_zne (tgt := 16) eMd_fault_6 rfl ⟨(by omega), (by omega)⟩ (fun c6 => ?_) (fun c6 => ?_)
  · refine r_iln eMd_fault_16 rfl ?_
    refine r_con eMd_fault_17 ?_
    refine r_cne (tgt := 28) eMd_fault_18 rfl ⟨(by omega), (by omega)⟩ ⟨(by omega), (by omega)⟩ (fun c18 => ?_) (fun c18 => ?_)
    · refine r_con eMd_fault_28 ?_
      refine r_iret eMd_fault_29 rfl ?_
      (repeat (first | rw [if_pos (by omega)] at hq | rw [if_neg (by omega)] at hq))
      exact hq
    · refine r_aln eMd_fault_21 rfl ?_
      refine r_gete (x := J M 28) eMd_fault_22 rfl (by decide) hM.2.1 rfl ?_
      refine r_go (tgt := 29) eMd_fault_25 rfl ?_
      refine r_iret eMd_fault_29 rfl ?_
      (repeat (first | rw [if_pos (by omega)] at hq | rw [if_neg (by omega)] at hq))
      exact hq
  · refine r_aln eMd_fault_9 rfl ?_
    refine r_gete (x := J M 27) eMd_fault_10 rfl (by decide) hM.2.1 rfl ?_
    refine r_go (tgt := 29) eMd_fault_13 rfl ?_
    refine r_iret eMd_fault_29 rfl ?_
    (repeat (first | rw [if_pos (by omega)] at hq | rw [if_neg (by omega)] at hq))
    exact hq
/-- the first of n numbers from o on that is v; -1 if none is -/
def a_find (f : Nat → Int) (v : Int) (o : Nat) : Nat → Nat → Int
  | 0, _ => -1
  | n + 1, k => if f (o + k) = v then k else a_find f v o n (k + 1)
theorem l_Md_spotAt (hM : md_sh en M T P) {o : Nat} {m v : Int} (hv : m_in v) (hm : 0 ≤ m ∧ m ≤ 6) (ho : o ≤ 6) (hb : ∀ i : Nat, i < 12 → m_in (J (M + 4) i)) :
    ∀ (n k : Nat), (k : Int) + n = m → Q (some (.int (m_i (a_find (J (M + 4)) v o n k)))) (T, m_I J, P, L, z, w) → m_wp en d mMd_spotAt 3 [some (.ref M), some (.int (m_i (o : Int))), some (.int (m_i m)), some (.int (m_i v)), some (.int (m_i (k : Int)))] [] (T, m_I J, P, L, z, w) Q := by
  unfold m_in at hv
  intro n
  induction n with
  | zero =>
    intro k hk hq
    refine r_il eMd_spotAt_3 rfl ?_
    refine r_iln eMd_spotAt_5 rfl ?_
    refine r_cge (tgt := 31) eMd_spotAt_6 rfl ⟨(by omega), (by omega)⟩ ⟨(by omega), (by omega)⟩ (fun c6 => ?_) (fun c6 => ?_)
    · refine r_con eMd_spotAt_31 ?_
      refine r_iret eMd_spotAt_32 rfl ?_
      exact hq
    · exfalso; omega
  | succ n ih =>
    intro k hk hq
    have hb2 := hb (o + k) (by omega)
    unfold m_in at hb2
    have e : ((o : Int) + (k : Int)).toNat = o + k := by omega
    have hi := ih (k + 1) (by omega)
    unfold a_find at hq
    refine r_il eMd_spotAt_3 rfl ?_
    refine r_iln eMd_spotAt_5 rfl ?_
    refine r_cge (tgt := 31) eMd_spotAt_6 rfl ⟨(by omega), (by omega)⟩ ⟨(by omega), (by omega)⟩ (fun c6 => ?_) (fun c6 => ?_)
    · exfalso; omega
    · refine r_aln eMd_spotAt_9 rfl ?_
      refine m_getR eMd_spotAt_10 rfl hM.2.1 (md_spotName_p hM) ?_
      refine r_iln eMd_spotAt_13 rfl ?_
      refine r_il eMd_spotAt_14 rfl ?_
      refine r_add eMd_spotAt_16 ?_
      refine r_ialde (x := J (M + 4) ((((o : Int)) + ((k : Int))).toNat)) eMd_spotAt_17 (md_spotName_t hM) (by decide) (by omega) (by omega) rfl ?_
      refine r_iln eMd_spotAt_18 rfl ?_
      rw [e]
      refine r_cne (tgt := 25) eMd_spotAt_19 rfl ⟨(by omega), (by omega)⟩ ⟨(by omega), (by omega)⟩ (fun c19 => ?_) (fun c19 => ?_)
      · refine r_inc (ls' := [some (.ref M), some (.int (m_i ((o : Int)))), some (.int (m_i (m))), some (.int (m_i (v))), some (.int (m_i ((k : Int) + 1)))]) eMd_spotAt_25 rfl rfl ?_
        refine r_go (tgt := 3) eMd_spotAt_28 rfl ?_
        rw [if_neg (by omega)] at hq
        exact hi hq
      · refine r_il eMd_spotAt_22 rfl ?_
        refine r_iret eMd_spotAt_24 rfl ?_
        rw [if_pos (by omega)] at hq
        exact hq
theorem c_Md_spotAt (hM : md_sh en M T P) {o : Nat} {m v : Int} (hv : m_in v) (hm : 0 ≤ m ∧ m ≤ 6) (ho : o ≤ 6) (hb : ∀ i : Nat, i < 12 → m_in (J (M + 4) i)) (hq : Q (some (.int (m_i (a_find (J (M + 4)) v o m.toNat 0)))) (T, m_I J, P, L, z, w)) : m_call en (d + 1) mMd_spotAt [.ref M, .int (m_i (o : Int)), .int (m_i m), .int (m_i v)] (T, m_I J, P, L, z, w) Q := by
  refine m_into (by decide) (Nat.le_of_ble_eq_true rfl) rfl ?_
  show m_wp en _ mMd_spotAt 0 [some (.ref M), some (.int (m_i ((o : Int)))), some (.int (m_i (m))), some (.int (m_i (v))), none] [] (T, m_I J, P, L, z, w) Q
  refine r_con eMd_spotAt_0 ?_
  refine r_is (ls' := [some (.ref M), some (.int (m_i ((o : Int)))), some (.int (m_i (m))), some (.int (m_i (v))), some (.int (m_i (0)))]) eMd_spotAt_1 (Nat.le_of_ble_eq_true rfl) rfl ?_
  exact l_Md_spotAt hM hv hm ho hb m.toNat 0 (by omega) hq
theorem c_Md_named (hM : md_sh en M T P) (hJ : m_up J0 M 0 0 = J) {x : Int} (hx : m_in x) (hm : 0 ≤ J (M + 2) 4 ∧ J (M + 2) 4 ≤ 6) (hb : ∀ i : Nat, i < 12 → m_in (J (M + 4) i)) (hq : Q (some (.int (m_i (a_find (J (M + 4)) x 0 (J (M + 2) 4).toNat 0)))) (T, m_I J, P, L, z, w)) : m_call en (d + 2) mMd_named [.ref M, .int (m_i x)] (T, m_I J0, P, L, z, w) Q := by
  refine m_into (by decide) (Nat.le_of_ble_eq_true rfl) rfl ?_
  show m_wp en _ mMd_named 0 [some (.ref M), some (.int (m_i (x)))] [] (T, m_I J0, P, L, z, w) Q
  refine r_aln eMd_named_0 rfl ?_
  refine r_con eMd_named_1 ?_
  refine r_put eMd_named_2 rfl hM.2.1 hM.1 (Or.inl rfl) ?_
  rw [hJ]
  refine r_aln eMd_named_5 rfl ?_
  refine r_con eMd_named_6 ?_
  refine r_aln eMd_named_7 rfl ?_
  refine m_getR eMd_named_8 rfl hM.2.1 (md_number_p hM) ?_
  refine r_con eMd_named_11 ?_
  refine r_ialde (x := J (M + 2) 4) eMd_named_12 (md_number_t hM) (by decide) (by omega) (by omega) rfl ?_
  refine r_iln eMd_named_13 rfl ?_
  refine r_vir eMd_named_14 rfl rfl rfl hM.2.1 rfl rfl ?_
  refine c_Md_spotAt (o := 0) hM hx (by omega) (by omega) hb ?_
  show m_wp en _ mMd_named 17 [some (.ref M), some (.int (m_i (x)))] [(.int (m_i (a_find (J (M + 4)) x 0 ((J (M + 2) 4)).toNat 0)))] (T, m_I J, P, L, z, w) Q
  refine r_iret eMd_named_17 rfl ?_
  exact hq
theorem c_Md_pile (hM : md_sh en M T P) (hJ : m_up J0 M 0 0 = J) {x : Int} (hx : m_in x) (hw : 4 ≤ J (M + 2) 0 ∧ J (M + 2) 0 ≤ 16) (hq : Q (some (.int (m_i (if 0 ≤ x ∧ x < J (M + 2) 0 then J (M + 18) x.toNat else -1)))) (T, m_I J, P, L, z, w)) : m_call en (d + 2) mMd_pile [.ref M, .int (m_i x)] (T, m_I J0, P, L, z, w) Q := by
  unfold m_in at hx
  have e8 : (if 0 ≤ x ∧ x < J (M + 2) 0 then 1 else 0 : Int) = 0 ∨ (if 0 ≤ x ∧ x < J (M + 2) 0 then 1 else 0 : Int) = 1 := by split <;> omega
  refine m_into (by decide) (Nat.le_of_ble_eq_true rfl) rfl ?_
  show m_wp en _ mMd_pile 0 [some (.ref M), some (.int (m_i (x)))] [] (T, m_I J0, P, L, z, w) Q
  refine r_aln eMd_pile_0 rfl ?_
  refine r_con eMd_pile_1 ?_
  refine r_put eMd_pile_2 rfl hM.2.1 hM.1 (Or.inl rfl) ?_
  rw [hJ]
  refine r_aln eMd_pile_5 rfl ?_
  refine r_iln eMd_pile_6 rfl ?_
  refine r_vir eMd_pile_7 rfl rfl rfl hM.2.1 rfl rfl ?_
  refine c_Md_isThere hM ⟨by omega, by omega⟩ ⟨by omega, by omega⟩ ?_
  show m_wp en _ mMd_pile 10 [some (.ref M), some (.int (m_i (x)))] [(.int (m_i (if 0 ≤ x ∧ x < J (M + 2) 0 then 1 else 0)))] (T, m_I J, P, L, z, w) Q
  refine r_zeq (tgt := 22) eMd_pile_10 rfl ⟨(by omega), (by omega)⟩ (fun c10 => ?_) (fun c10 => ?_)
  · have f8 : ¬ (0 ≤ x ∧ x < J (M + 2) 0) := fun q => by rw [if_pos q] at c10; omega
    refine r_con eMd_pile_22 ?_
    refine r_iret eMd_pile_23 rfl ?_
    first | (rw [if_pos f8] at hq; exact hq) | (rw [if_neg f8] at hq; exact hq)
  · have f8 : 0 ≤ x ∧ x < J (M + 2) 0 := Classical.byContradiction (fun q => c10 (if_neg q))
    refine r_aln eMd_pile_13 rfl ?_
    refine m_getR eMd_pile_14 rfl hM.2.1 (md_pile_p hM) ?_
    refine r_iln eMd_pile_17 rfl ?_
    refine r_ialde (x := J (M + 18) ((x).toNat)) eMd_pile_18 (md_pile_t hM) (by decide) (by omega) (by omega) rfl ?_
    refine r_go (tgt := 23) eMd_pile_19 rfl ?_
    refine r_iret eMd_pile_23 rfl ?_
    first | (rw [if_pos f8] at hq; exact hq) | (rw [if_neg f8] at hq; exact hq)
theorem c_Md_free (hM : md_sh en M T P) (hJ : m_up J0 M 0 0 = J) {x : Int} (hx : m_in x) (hw : 4 ≤ J (M + 2) 0 ∧ J (M + 2) 0 ≤ 16) (hq : Q (some (.int (m_i (if 0 ≤ x ∧ x < J (M + 2) 0 then J (M + 19) x.toNat else -1)))) (T, m_I J, P, L, z, w)) : m_call en (d + 2) mMd_free [.ref M, .int (m_i x)] (T, m_I J0, P, L, z, w) Q := by
  unfold m_in at hx
  have e8 : (if 0 ≤ x ∧ x < J (M + 2) 0 then 1 else 0 : Int) = 0 ∨ (if 0 ≤ x ∧ x < J (M + 2) 0 then 1 else 0 : Int) = 1 := by split <;> omega
  refine m_into (by decide) (Nat.le_of_ble_eq_true rfl) rfl ?_
  show m_wp en _ mMd_free 0 [some (.ref M), some (.int (m_i (x)))] [] (T, m_I J0, P, L, z, w) Q
  refine r_aln eMd_free_0 rfl ?_
  refine r_con eMd_free_1 ?_
  refine r_put eMd_free_2 rfl hM.2.1 hM.1 (Or.inl rfl) ?_
  rw [hJ]
  refine r_aln eMd_free_5 rfl ?_
  refine r_iln eMd_free_6 rfl ?_
  refine r_vir eMd_free_7 rfl rfl rfl hM.2.1 rfl rfl ?_
  refine c_Md_isThere hM ⟨by omega, by omega⟩ ⟨by omega, by omega⟩ ?_
  show m_wp en _ mMd_free 10 [some (.ref M), some (.int (m_i (x)))] [(.int (m_i (if 0 ≤ x ∧ x < J (M + 2) 0 then 1 else 0)))] (T, m_I J, P, L, z, w) Q
  refine r_zeq (tgt := 22) eMd_free_10 rfl ⟨(by omega), (by omega)⟩ (fun c10 => ?_) (fun c10 => ?_)
  · have f8 : ¬ (0 ≤ x ∧ x < J (M + 2) 0) := fun q => by rw [if_pos q] at c10; omega
    refine r_con eMd_free_22 ?_
    refine r_iret eMd_free_23 rfl ?_
    first | (rw [if_pos f8] at hq; exact hq) | (rw [if_neg f8] at hq; exact hq)
  · have f8 : 0 ≤ x ∧ x < J (M + 2) 0 := Classical.byContradiction (fun q => c10 (if_neg q))
    refine r_aln eMd_free_13 rfl ?_
    refine m_getR eMd_free_14 rfl hM.2.1 (md_freeIn_p hM) ?_
    refine r_iln eMd_free_17 rfl ?_
    refine r_ialde (x := J (M + 19) ((x).toNat)) eMd_free_18 (md_freeIn_t hM) (by decide) (by omega) (by omega) rfl ?_
    refine r_go (tgt := 23) eMd_free_19 rfl ?_
    refine r_iret eMd_free_23 rfl ?_
    first | (rw [if_pos f8] at hq; exact hq) | (rw [if_neg f8] at hq; exact hq)
theorem c_Md_wind (hM : md_sh en M T P) (hJ : m_up J0 M 0 0 = J) {x : Int} (hx : m_in x) (hwn : 0 ≤ J (M + 2) 6 ∧ J (M + 2) 6 ≤ 8) (hwb : ∀ i : Nat, i < 8 → m_in (J (M + 10) i)) (hq : Q (some (.int (m_i (a_wind (J (M + 10)) (J (M + 11)) x (J (M + 2) 6).toNat)))) (T, m_I J, P, L, z, w)) : m_call en (d + 2) mMd_wind [.ref M, .int (m_i x)] (T, m_I J0, P, L, z, w) Q := by
  unfold m_in at hx
  refine m_into (by decide) (Nat.le_of_ble_eq_true rfl) rfl ?_
  show m_wp en _ mMd_wind 0 [some (.ref M), some (.int (m_i (x)))] [] (T, m_I J0, P, L, z, w) Q
  refine r_aln eMd_wind_0 rfl ?_
  refine r_con eMd_wind_1 ?_
  refine r_put eMd_wind_2 rfl hM.2.1 hM.1 (Or.inl rfl) ?_
  rw [hJ]
  refine r_aln eMd_wind_5 rfl ?_
  refine r_iln eMd_wind_6 rfl ?_
  refine r_vir eMd_wind_7 rfl rfl rfl hM.2.1 rfl rfl ?_
  refine c_Md_windAt hM ⟨by omega, by omega⟩ hwn hwb ?_
  show m_wp en _ mMd_wind 10 [some (.ref M), some (.int (m_i (x)))] [(.int (m_i (a_wind (J (M + 10)) (J (M + 11)) x (J (M + 2) 6).toNat)))] (T, m_I J, P, L, z, w) Q
  refine r_iret eMd_wind_10 rfl ?_
  exact hq
theorem c_Md_why (hM : md_sh en M T P) (hJ : m_up J0 M 0 0 = J) (ok : a_ok (md_cf J M)) (hn : 0 ≤ J (M + 22) 0 ∧ J (M + 22) 0 < 38880) {x : Int} (hx : m_in x)
    (hq1 : ¬ (0 ≤ x ∧ x ≤ 8) → Q (some (.int (m_i (-1)))) (T, m_I J, P, L, z, w)) (hq2 : 0 ≤ x ∧ x ≤ 8 → Q (some (.int (m_i (a_why (md_cf J M) (a_step (a_of (J (M + 22) 0)) x 0))))) (T, m_I (md_put J M (a_step (a_of (J (M + 22) 0)) x 0)), P, L, z, w)) : m_call en (d + 4) mMd_why [.ref M, .int (m_i x)] (T, m_I J0, P, L, z, w) Q := by
  unfold m_in at hx
  have hd := (a_of_t hn.1 (show J (M + 22) 0 < 100000 by omega)).2.2.2.2
  refine m_into (by decide) (Nat.le_of_ble_eq_true rfl) rfl ?_
  show m_wp en _ mMd_why 0 [some (.ref M), some (.int (m_i (x)))] [] (T, m_I J0, P, L, z, w) Q
  refine r_aln eMd_why_0 rfl ?_
  refine r_con eMd_why_1 ?_
  refine r_put eMd_why_2 rfl hM.2.1 hM.1 (Or.inl rfl) ?_
  rw [hJ]
  refine r_iln eMd_why_5 rfl ?_
  refine r_zlt (tgt := 15) eMd_why_6 rfl ⟨(by omega), (by omega)⟩ (fun c6 => ?_) (fun c6 => ?_)
  · refine r_con eMd_why_15 ?_
    refine r_iret eMd_why_16 rfl ?_
    exact hq1 (by omega)
  · refine r_iln eMd_why_9 rfl ?_
    refine r_bip eMd_why_10 (by decide) ?_
    refine r_cle (tgt := 17) eMd_why_12 rfl ⟨(by omega), (by omega)⟩ ⟨(by omega), (by omega)⟩ (fun c12 => ?_) (fun c12 => ?_)
    · have sm : a_sm (a_step (a_of (J (M + 22) 0)) x 0) := a_step_sm (a_of_t hn.1 (by omega)) (by omega) (by omega)
      refine r_aln eMd_why_17 rfl ?_
      refine r_aln eMd_why_18 rfl ?_
      refine m_getR eMd_why_19 rfl hM.2.1 (md_s_p hM) ?_
      refine r_con eMd_why_22 ?_
      refine r_ialde (x := J (M + 22) 0) eMd_why_23 (md_s_t hM) (by decide) (by omega) (by omega) rfl ?_
      refine r_vir eMd_why_24 rfl rfl rfl hM.2.1 rfl rfl ?_
      refine c_Md_lays hM (by omega) (by omega) ?_
      show m_wp en _ mMd_why 27 [some (.ref M), some (.int (m_i (x)))] [] (T, m_I ((md_put J M (a_of (J (M + 22) 0)))), P, L, z, w) Q
      refine r_aln eMd_why_27 rfl ?_
      refine r_iln eMd_why_28 rfl ?_
      refine r_con eMd_why_29 ?_
      refine r_vir eMd_why_30 rfl rfl rfl hM.2.1 rfl rfl ?_
      refine s_Md_steps hM (by omega) (by omega) ⟨by omega, by omega⟩ ?_
      show m_wp en _ mMd_why 33 [some (.ref M), some (.int (m_i (x)))] [] (T, m_I ((md_put J M (a_step ((a_of (J (M + 22) 0))) x 0))), P, L, z, w) Q
      refine r_aln eMd_why_33 rfl ?_
      refine r_vir eMd_why_34 rfl rfl rfl hM.2.1 rfl rfl ?_
      refine s_Md_whyNot hM ok (by assumption) ?_
      show m_wp en _ mMd_why 37 [some (.ref M), some (.int (m_i (x)))] [(.int (m_i (a_why (md_cf J M) ((a_step ((a_of (J (M + 22) 0))) x 0)))))] (T, m_I ((md_put J M (a_step ((a_of (J (M + 22) 0))) x 0))), P, L, z, w) Q
      refine r_iret eMd_why_37 rfl ?_
      exact hq2 (by omega)
    · refine r_con eMd_why_15 ?_
      refine r_iret eMd_why_16 rfl ?_
      exact hq1 (by omega)
/-- n steps of nothing -/
def a_idle (σ : a_S) : Nat → a_S
  | 0 => σ
  | n + 1 => a_step (a_idle σ n) 4 0
theorem a_idle_d (σ : a_S) (n : Nat) : (a_idle σ n).2.2.2.2 = σ.2.2.2.2 := by
  induction n with
  | zero => rfl
  | succ n ih =>
    show (a_idle σ n).2.2.2.2 + ((4 : Int) % 3 - 1) = _
    omega
theorem l_Md_sway (hM : md_sh en M T P) {x : Int} (hx : 0 ≤ x ∧ x ≤ 60) {τ : a_S} (hd : 1 ≤ τ.2.2.2.2 ∧ τ.2.2.2.2 ≤ 6) (hq : Q (some (.int (m_i (a_idle τ x.toNat).2.2.1))) (T, m_I (md_put J M (a_idle τ x.toNat)), P, L, z, w)) :
    ∀ (n k : Nat), (k : Int) + n = x → m_wp en (d + 2) mMd_sway 30 [some (.ref M), some (.int (m_i x)), some (.int (m_i (k : Int)))] [] (T, m_I (md_put J M (a_idle τ k)), P, L, z, w) Q := by
  intro n
  induction n with
  | zero =>
    intro k hk
    obtain rfl : x.toNat = k := by omega
    refine r_iln eMd_sway_30 rfl ?_
    refine r_iln eMd_sway_31 rfl ?_
    refine r_cge (tgt := 47) eMd_sway_32 rfl ⟨(by omega), (by omega)⟩ ⟨(by omega), (by omega)⟩ (fun c32 => ?_) (fun c32 => ?_)
    · refine r_aln eMd_sway_47 rfl ?_
      refine r_gete (x := ((a_idle τ x.toNat)).2.2.1) eMd_sway_48 rfl (by decide) hM.2.1 (by simp [m_up, md_put_at, m_fl]) ?_
      refine r_iret eMd_sway_51 rfl ?_
      exact hq
    · exfalso; omega
  | succ n ih =>
    intro k hk
    have hd2 := a_idle_d τ k
    refine r_iln eMd_sway_30 rfl ?_
    refine r_iln eMd_sway_31 rfl ?_
    refine r_cge (tgt := 47) eMd_sway_32 rfl ⟨(by omega), (by omega)⟩ ⟨(by omega), (by omega)⟩ (fun c32 => ?_) (fun c32 => ?_)
    · exfalso; omega
    · refine r_aln eMd_sway_35 rfl ?_
      refine r_con eMd_sway_36 ?_
      refine r_con eMd_sway_37 ?_
      refine r_vir eMd_sway_38 rfl rfl rfl hM.2.1 rfl rfl ?_
      refine s_Md_steps hM (by omega) (by omega) ⟨by omega, by omega⟩ ?_
      show m_wp en _ mMd_sway 41 [some (.ref M), some (.int (m_i (x))), some (.int (m_i ((k : Int))))] [] (T, m_I ((md_put J M (a_step ((a_idle τ k)) 4 0))), P, L, z, w) Q
      refine r_inc (ls' := [some (.ref M), some (.int (m_i (x))), some (.int (m_i ((k : Int) + 1)))]) eMd_sway_41 rfl rfl ?_
      refine r_go (tgt := 30) eMd_sway_44 rfl ?_
      exact ih (k + 1) (by omega)
theorem c_Md_sway (hM : md_sh en M T P) (hJ : m_up J0 M 0 0 = J) (hn : 0 ≤ J (M + 22) 0 ∧ J (M + 22) 0 < 38880) {x : Int} (hx : m_in x)
    (hq1 : ¬ (0 ≤ x ∧ x ≤ 60) → Q (some (.int (m_i (-100)))) (T, m_I J, P, L, z, w)) (hq2 : 0 ≤ x ∧ x ≤ 60 → Q (some (.int (m_i (a_idle (a_of (J (M + 22) 0)) x.toNat).2.2.1))) (T, m_I (md_put J M (a_idle (a_of (J (M + 22) 0)) x.toNat)), P, L, z, w)) : m_call en (d + 3) mMd_sway [.ref M, .int (m_i x)] (T, m_I J0, P, L, z, w) Q := by
  unfold m_in at hx
  have hd := (a_of_t hn.1 (show J (M + 22) 0 < 100000 by omega)).2.2.2.2
  refine m_into (by decide) (Nat.le_of_ble_eq_true rfl) rfl ?_
  show m_wp en _ mMd_sway 0 [some (.ref M), some (.int (m_i (x))), none] [] (T, m_I J0, P, L, z, w) Q
  refine r_aln eMd_sway_0 rfl ?_
  refine r_con eMd_sway_1 ?_
  refine r_put eMd_sway_2 rfl hM.2.1 hM.1 (Or.inl rfl) ?_
  rw [hJ]
  refine r_iln eMd_sway_5 rfl ?_
  refine r_zlt (tgt := 15) eMd_sway_6 rfl ⟨(by omega), (by omega)⟩ (fun c6 => ?_) (fun c6 => ?_)
  · refine r_bip eMd_sway_15 (by decide) ?_
    refine r_iret eMd_sway_17 rfl ?_
    exact hq1 (by omega)
  · refine r_iln eMd_sway_9 rfl ?_
    refine r_bip eMd_sway_10 (by decide) ?_
    refine r_cle (tgt := 18) eMd_sway_12 rfl ⟨(by omega), (by omega)⟩ ⟨(by omega), (by omega)⟩ (fun c12 => ?_) (fun c12 => ?_)
    · refine r_aln eMd_sway_18 rfl ?_
      refine r_aln eMd_sway_19 rfl ?_
      refine m_getR eMd_sway_20 rfl hM.2.1 (md_s_p hM) ?_
      refine r_con eMd_sway_23 ?_
      refine r_ialde (x := J (M + 22) 0) eMd_sway_24 (md_s_t hM) (by decide) (by omega) (by omega) rfl ?_
      refine r_vir eMd_sway_25 rfl rfl rfl hM.2.1 rfl rfl ?_
      refine c_Md_lays hM (by omega) (by omega) ?_
      show m_wp en _ mMd_sway 28 [some (.ref M), some (.int (m_i (x))), none] [] (T, m_I ((md_put J M (a_of (J (M + 22) 0)))), P, L, z, w) Q
      refine r_con eMd_sway_28 ?_
      refine r_isn (ls' := [some (.ref M), some (.int (m_i (x))), some (.int (m_i (0)))]) eMd_sway_29 (Nat.le_of_ble_eq_true rfl) rfl ?_
      exact l_Md_sway hM (by omega) hd (hq2 (by omega)) x.toNat 0 (by omega)
    · refine r_bip eMd_sway_15 (by decide) ?_
      refine r_iret eMd_sway_17 rfl ?_
      exact hq1 (by omega)
theorem c_Md_keep (hM : md_sh en M T P) (hJ : m_up J0 M 0 0 = J) (hq : Q (some (.int (m_i (J (M + 22) 1)))) (T, m_I (m_up (m_fl J (M + 23) 4290 (J (M + 22)) 143) M 46 1), P, L, z, w)) : m_call en (d + 2) mMd_keep [.ref M] (T, m_I J0, P, L, z, w) Q := by
  refine m_into (by decide) (Nat.le_of_ble_eq_true rfl) rfl ?_
  show m_wp en _ mMd_keep 0 [some (.ref M)] [] (T, m_I J0, P, L, z, w) Q
  refine r_aln eMd_keep_0 rfl ?_
  refine r_con eMd_keep_1 ?_
  refine r_put eMd_keep_2 rfl hM.2.1 hM.1 (Or.inl rfl) ?_
  rw [hJ]
  refine r_aln eMd_keep_5 rfl ?_
  refine r_bip eMd_keep_6 (by decide) ?_
  refine r_vir eMd_keep_8 rfl rfl rfl hM.2.1 rfl rfl ?_
  refine c_Md_laysKept hM (by omega) ?_
  show m_wp en _ mMd_keep 11 [some (.ref M)] [] (T, m_I ((m_fl J (M + 23) (143 * 30 : Int).toNat (J (M + 22)) 143)), P, L, z, w) Q
  refine r_aln eMd_keep_11 rfl ?_
  refine r_con eMd_keep_12 ?_
  refine r_puz eMd_keep_13 rfl hM.2.1 hM.1 (Or.inl rfl) (by first | exact Or.inl rfl | exact Or.inr rfl | omega) ?_
  refine r_aln eMd_keep_16 rfl ?_
  refine m_getR eMd_keep_17 rfl hM.2.1 (md_s_p hM) ?_
  refine r_con eMd_keep_20 ?_
  refine r_ialde (x := J (M + 22) 1) eMd_keep_21 (md_s_t hM) (by decide) (by omega) (by omega) (by simp [m_up, md_put_at, m_fl]) ?_
  refine r_iret eMd_keep_22 rfl ?_
  exact hq
theorem c_Md_log (hM : md_sh en M T P) (hJ : m_up J0 M 0 0 = J) (h6 : 0 ≤ J (M + 22) 6 ∧ J (M + 22) 6 ≤ 40) {k x : Int} (hk : m_in k) (hx : m_in x) (hq : Q (some (.int (m_i (if 0 ≤ k ∧ k < J (M + 22) 6 ∧ 0 ≤ x ∧ x ≤ 2 then J (M + 22) ((if x = 0 then 23 else if x = 1 then 63 else 103) + k).toNat else -1)))) (T, m_I J, P, L, z, w)) : m_call en (d + 1) mMd_log [.ref M, .int (m_i k), .int (m_i x)] (T, m_I J0, P, L, z, w) Q := by
  unfold m_in at hx hk
  refine m_into (by decide) (Nat.le_of_ble_eq_true rfl) rfl ?_
  show m_wp en _ mMd_log 0 [some (.ref M), some (.int (m_i (k))), some (.int (m_i (x)))] [] (T, m_I J0, P, L, z, w) Q
  refine r_aln eMd_log_0 rfl ?_
  refine r_con eMd_log_1 ?_
  refine r_put eMd_log_2 rfl hM.2.1 hM.1 (Or.inl rfl) ?_
  rw [hJ]
  refine r_iln eMd_log_5 rfl ?_
  refine r_zlt (tgt := 29) eMd_log_6 rfl ⟨(by omega), (by omega)⟩ (fun c6 => ?_) (fun c6 => ?_)
  · refine r_con eMd_log_29 ?_
    refine r_iret eMd_log_30 rfl ?_
    (repeat (first | rw [if_pos (by omega)] at hq | rw [if_neg (by omega)] at hq))
    exact hq
  · refine r_iln eMd_log_9 rfl ?_
    refine r_aln eMd_log_10 rfl ?_
    refine m_getR eMd_log_11 rfl hM.2.1 (md_s_p hM) ?_
    refine r_bip eMd_log_14 (by decide) ?_
    refine r_ialde (x := J (M + 22) 6) eMd_log_16 (md_s_t hM) (by decide) (by omega) (by omega) rfl ?_
    refine r_cge (tgt := 29) eMd_log_17 rfl ⟨(by omega), (by omega)⟩ ⟨(by omega), (by omega)⟩ (fun c17 => ?_) (fun c17 => ?_)
    · refine r_con eMd_log_29 ?_
      refine r_iret eMd_log_30 rfl ?_
      (repeat (first | rw [if_pos (by omega)] at hq | rw [if_neg (by omega)] at hq))
      exact hq
    · refine r_iln eMd_log_20 rfl ?_
      refine r_zlt (tgt := 29) eMd_log_21 rfl ⟨(by omega), (by omega)⟩ (fun c21 => ?_) (fun c21 => ?_)
      · refine r_con eMd_log_29 ?_
        refine r_iret eMd_log_30 rfl ?_
        (repeat (first | rw [if_pos (by omega)] at hq | rw [if_neg (by omega)] at hq))
        exact hq
      · refine r_iln eMd_log_24 rfl ?_
        refine r_con eMd_log_25 ?_
        refine r_cle (tgt := 31) eMd_log_26 rfl ⟨(by omega), (by omega)⟩ ⟨(by omega), (by omega)⟩ (fun c26 => ?_) (fun c26 => ?_)
        · refine r_aln eMd_log_31 rfl ?_
          refine m_getR eMd_log_32 rfl hM.2.1 (md_s_p hM) ?_
          refine r_iln eMd_log_35 rfl ?_
          refine r_zne (tgt := 46) eMd_log_36 rfl ⟨(by omega), (by omega)⟩ (fun c36 => ?_) (fun c36 => ?_)
          · refine r_iln eMd_log_46 rfl ?_
            refine r_con eMd_log_47 ?_
            refine r_cne (tgt := 58) eMd_log_48 rfl ⟨(by omega), (by omega)⟩ ⟨(by omega), (by omega)⟩ (fun c48 => ?_) (fun c48 => ?_)
            · refine r_bip eMd_log_58 (by decide) ?_
              refine r_iln eMd_log_60 rfl ?_
              refine r_add eMd_log_61 ?_
              refine r_ialde (x := J (M + 22) (((103) + (k)).toNat)) eMd_log_62 (md_s_t hM) (by decide) (by omega) (by omega) rfl ?_
              refine r_iret eMd_log_63 rfl ?_
              (repeat (first | rw [if_pos (by omega)] at hq | rw [if_neg (by omega)] at hq))
              exact hq
            · refine r_bip eMd_log_51 (by decide) ?_
              refine r_iln eMd_log_53 rfl ?_
              refine r_add eMd_log_54 ?_
              refine r_go (tgt := 62) eMd_log_55 rfl ?_
              refine r_ialde (x := J (M + 22) (((63) + (k)).toNat)) eMd_log_62 (md_s_t hM) (by decide) (by omega) (by omega) rfl ?_
              refine r_iret eMd_log_63 rfl ?_
              (repeat (first | rw [if_pos (by omega)] at hq | rw [if_neg (by omega)] at hq))
              exact hq
          · refine r_bip eMd_log_39 (by decide) ?_
            refine r_iln eMd_log_41 rfl ?_
            refine r_add eMd_log_42 ?_
            refine r_go (tgt := 62) eMd_log_43 rfl ?_
            refine r_ialde (x := J (M + 22) (((23) + (k)).toNat)) eMd_log_62 (md_s_t hM) (by decide) (by omega) (by omega) rfl ?_
            refine r_iret eMd_log_63 rfl ?_
            (repeat (first | rw [if_pos (by omega)] at hq | rw [if_neg (by omega)] at hq))
            exact hq
        · refine r_con eMd_log_29 ?_
          refine r_iret eMd_log_30 rfl ?_
          (repeat (first | rw [if_pos (by omega)] at hq | rw [if_neg (by omega)] at hq))
          exact hq
theorem c_Md_thrown (hM : md_sh en M T P) (hq : Q (some (.int (m_i (J M 0)))) (T, m_I J, P, L, z, w)) : m_call en (d + 1) mMd_thrown [.ref M] (T, m_I J, P, L, z, w) Q := by
  refine m_into (by decide) (Nat.le_of_ble_eq_true rfl) rfl ?_
  show m_wp en _ mMd_thrown 0 [some (.ref M)] [] (T, m_I J, P, L, z, w) Q
  refine r_aln eMd_thrown_0 rfl ?_
  refine r_gete (x := J M 0) eMd_thrown_1 rfl (by decide) hM.2.1 rfl ?_
  refine r_iret eMd_thrown_4 rfl ?_
  exact hq
end MDH
