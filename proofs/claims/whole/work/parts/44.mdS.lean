/-! can, drift of the reference -/
section MDS
variable {en : Nat → Nat} {d : Nat} {T : Nat → Option (Nat × Nat)} {J J0 : Nat → Nat → Int} {P : Nat → Nat → Option Nat} {L : Nat → Nat → Int64} {z w M : Nat} {Q : m_Q} {σ : a_S}
/-- the steps that can be, as a set of bits -/
def a_can (C : a_C) (s0 : Int) : Nat → Int
  | 0 => 0
  | n + 1 => if a_why C (a_step (a_of s0) (n : Int) 0) = 0 then m_or (a_can C s0 n) (m_shl 1 (n : Int)) else a_can C s0 n
theorem l_Md_can (hM : md_sh en M T P) (ok : a_ok (md_cf J M)) (hs : 0 ≤ J (M + 22) 0 ∧ J (M + 22) 0 < 38880) (hq : ∀ σ, Q (some (.int (m_i (a_can (md_cf J M) (J (M + 22) 0) 9)))) (T, m_I (md_put J M σ), P, L, z, w)) :
    ∀ (n k : Nat) (σ : a_S), k + n = 9 → m_wp en (d + 4) mMd_can 9 [some (.ref M), some (.int (m_i (a_can (md_cf J M) (J (M + 22) 0) k))), some (.int (m_i (k : Int)))] [] (T, m_I (md_put J M σ), P, L, z, w) Q := by
  intro n
  induction n with
  | zero =>
    intro k σ hk
    obtain rfl : k = 9 := by omega
    refine r_iln eMd_can_9 rfl ?_
    refine r_bip eMd_can_10 (by decide) ?_
    refine r_cge (tgt := 42) eMd_can_12 rfl ⟨(by omega), (by omega)⟩ ⟨(by omega), (by omega)⟩ (fun c12 => ?_) (fun c12 => ?_)
    · refine r_iln eMd_can_42 rfl ?_
      refine r_iret eMd_can_43 rfl ?_
      exact hq σ
    · exfalso; omega
  | succ n ih =>
    intro k σ hk
    have hb01 := a_b_01 (decide (a_why (md_cf J M) (a_step (a_of (J (M + 22) 0)) (k : Int) 0) = 0))
    have hi := ih (k + 1) (a_step (a_of (J (M + 22) 0)) (k : Int) 0) (by omega)
    unfold a_can at hi
    refine r_iln eMd_can_9 rfl ?_
    refine r_bip eMd_can_10 (by decide) ?_
    refine r_cge (tgt := 42) eMd_can_12 rfl ⟨(by omega), (by omega)⟩ ⟨(by omega), (by omega)⟩ (fun c12 => ?_) (fun c12 => ?_)
    · exfalso; omega
    · refine r_aln eMd_can_15 rfl ?_
      refine r_aln eMd_can_16 rfl ?_
      refine m_getR eMd_can_17 rfl hM.2.1 (md_s_p hM) ?_
      refine r_con eMd_can_20 ?_
      refine r_ialde (x := J (M + 22) 0) eMd_can_21 (md_s_t hM) (by decide) (by omega) (by omega) (by simp [m_up, md_put_at, m_fl]) ?_
      refine r_iln eMd_can_22 rfl ?_
      refine r_con eMd_can_23 ?_
      refine r_vir eMd_can_24 rfl rfl rfl hM.2.1 rfl rfl ?_
      refine s_Md_canStep hM ok (by omega) (by omega) (by omega) (by omega) ?_
      show m_wp en _ mMd_can 27 [some (.ref M), some (.int (m_i (a_can (md_cf J M) (J (M + 22) 0) k))), some (.int (m_i ((k : Int))))] [(.int (m_i (a_b (decide (a_why (md_cf J M) (a_step (a_of (J (M + 22) 0)) ((k : Int)) 0) = 0)))))] (T, m_I ((md_put J M (a_step (a_of (J (M + 22) 0)) ((k : Int)) 0))), P, L, z, w) Q
      refine r_zeq (tgt := 36) eMd_can_27 rfl ⟨(by omega), (by omega)⟩ (fun c27 => ?_) (fun c27 => ?_)
      · refine r_inc (ls' := [some (.ref M), some (.int (m_i (a_can (md_cf J M) (J (M + 22) 0) k))), some (.int (m_i ((k : Int) + 1)))]) eMd_can_36 rfl rfl ?_
        refine r_go (tgt := 9) eMd_can_39 rfl ?_
        first | (rw [if_pos (show a_why (md_cf J M) (a_step (a_of (J (M + 22) 0)) (k : Int) 0) = 0 from of_decide_eq_true (Classical.byContradiction (fun q => c27 (a_b_f q))))] at hi; exact hi) | (rw [if_neg (show ¬ a_why (md_cf J M) (a_step (a_of (J (M + 22) 0)) (k : Int) 0) = 0 from fun q => by have := a_b_t (decide_eq_true q); omega)] at hi; exact hi)
      · refine r_iln eMd_can_30 rfl ?_
        refine r_con eMd_can_31 ?_
        refine r_iln eMd_can_32 rfl ?_
        refine r_shl eMd_can_33 ?_
        refine r_or eMd_can_34 ?_
        refine r_isn (ls' := [some (.ref M), some (.int (m_i (m_or (a_can (md_cf J M) (J (M + 22) 0) k) (m_shl (1) ((k : Int)))))), some (.int (m_i ((k : Int))))]) eMd_can_35 (Nat.le_of_ble_eq_true rfl) rfl ?_
        refine r_inc (ls' := [some (.ref M), some (.int (m_i (m_or (a_can (md_cf J M) (J (M + 22) 0) k) (m_shl (1) ((k : Int)))))), some (.int (m_i ((k : Int) + 1)))]) eMd_can_36 rfl rfl ?_
        refine r_go (tgt := 9) eMd_can_39 rfl ?_
        first | (rw [if_pos (show a_why (md_cf J M) (a_step (a_of (J (M + 22) 0)) (k : Int) 0) = 0 from of_decide_eq_true (Classical.byContradiction (fun q => c27 (a_b_f q))))] at hi; exact hi) | (rw [if_neg (show ¬ a_why (md_cf J M) (a_step (a_of (J (M + 22) 0)) (k : Int) 0) = 0 from fun q => by have := a_b_t (decide_eq_true q); omega)] at hi; exact hi)
theorem c_Md_can (hM : md_sh en M T P) (hJ : m_up J0 M 0 0 = J) (ok : a_ok (md_cf J M)) (hs : 0 ≤ J (M + 22) 0 ∧ J (M + 22) 0 < 38880) (hq : ∀ σ, Q (some (.int (m_i (a_can (md_cf J M) (J (M + 22) 0) 9)))) (T, m_I (md_put J M σ), P, L, z, w)) : m_call en (d + 5) mMd_can [.ref M] (T, m_I J0, P, L, z, w) Q := by
  have h := l_Md_can (d := d) (z := z) (w := w) (L := L) hM ok hs hq 9 0 (md_get J M) rfl
  rw [md_put_get] at h
  refine m_into (by decide) (Nat.le_of_ble_eq_true rfl) rfl ?_
  show m_wp en _ mMd_can 0 [some (.ref M), none, none] [] (T, m_I J0, P, L, z, w) Q
  refine r_aln eMd_can_0 rfl ?_
  refine r_con eMd_can_1 ?_
  refine r_put eMd_can_2 rfl hM.2.1 hM.1 (Or.inl rfl) ?_
  rw [hJ]
  refine r_con eMd_can_5 ?_
  refine r_isn (ls' := [some (.ref M), some (.int (m_i (0))), none]) eMd_can_6 (Nat.le_of_ble_eq_true rfl) rfl ?_
  refine r_con eMd_can_7 ?_
  refine r_isn (ls' := [some (.ref M), some (.int (m_i (0))), some (.int (m_i (0)))]) eMd_can_8 (Nat.le_of_ble_eq_true rfl) rfl ?_
  exact h
theorem md_put_r (J : Nat → Nat → Int) (M : Nat) (σ : a_S) {b : Nat} (h : b ≠ M) : md_put J M σ b = J b := funext (fun _ => md_put_o J M σ h)
/-- the wind at a tick -/
def md_wd (J : Nat → Nat → Int) (M : Nat) (t : Int) : Int := a_wind (J (M + 10)) (J (M + 11)) t (J (M + 2) 6).toNat
theorem a_wind_bd {f g : Nat → Int} {t : Int} (h : ∀ i : Nat, i < 8 → -100 ≤ g i ∧ g i ≤ 100) : ∀ n : Nat, n ≤ 8 → -100 ≤ a_wind f g t n ∧ a_wind f g t n ≤ 100 := by
  intro n
  induction n with
  | zero => intro _; unfold a_wind; omega
  | succ n ih =>
    intro hn
    have h1 := h n (by omega)
    have h2 := ih (by omega)
    unfold a_wind
    split <;> omega
theorem md_wd_bd (hwn : 0 ≤ J (M + 2) 6 ∧ J (M + 2) 6 ≤ 8) (hwv : ∀ i : Nat, i < 8 → -100 ≤ J (M + 11) i ∧ J (M + 11) i ≤ 100) (t : Int) : -100 ≤ md_wd J M t ∧ md_wd J M t ≤ 100 := a_wind_bd hwv _ (by omega)
theorem s_Md_windAt (hM : md_sh en M T P) {t : Int} (ht : m_in t) (hn : 0 ≤ J (M + 2) 6 ∧ J (M + 2) 6 ≤ 8) (hb : ∀ i : Nat, i < 8 → m_in (J (M + 10) i)) (hq : Q (some (.int (m_i (md_wd J M t)))) (T, m_I (md_put J M σ), P, L, z, w)) : m_call en (d + 1) mMd_windAt [.ref M, .int (m_i t)] (T, m_I (md_put J M σ), P, L, z, w) Q := by
  have e2 : md_put J M σ (M + 2) = J (M + 2) := md_put_r J M σ (by omega)
  have e10 : md_put J M σ (M + 10) = J (M + 10) := md_put_r J M σ (by omega)
  have e11 : md_put J M σ (M + 11) = J (M + 11) := md_put_r J M σ (by omega)
  exact c_Md_windAt hM ht (by rw [e2]; exact hn) (by rw [e10]; exact hb) (by rw [e2, e10, e11]; exact hq)
theorem a_why_bx {C : a_C} (ok : a_ok C) {n k f : Int} (h0 : 0 ≤ n) (h1 : n < 100000) (h : a_why C (a_step (a_of n) k f) = 0) : a_bx (a_step (a_of n) k f) := by
  obtain ⟨g1, g2, g3, g4, g5, g6⟩ := a_why_0 h
  obtain ⟨k1, k2, k3, k4, -⟩ := ok
  have e1 := a_abs_le g2
  have e2 := a_abs_le g4
  have e3 := (a_of_t h0 h1).2.2.1
  exact ⟨by omega, by omega, by omega, e3, by omega⟩
/-- how long nothing can be done -/
def a_dr (C : a_C) (wd : Int → Int) (t0 : Int) : Nat → Int → Int → Int
  | 0, _, k => k
  | n + 1, st, k => if t0 + k < 9999 ∧ a_why C (a_step (a_of st) 4 (wd (t0 + k))) = 0 then a_dr C wd t0 n (a_no (a_step (a_of st) 4 (wd (t0 + k)))) (k + 1) else k
theorem l_Md_drift (hM : md_sh en M T P) (ok : a_ok (md_cf J M)) (hwn : 0 ≤ J (M + 2) 6 ∧ J (M + 2) 6 ≤ 8) (hwb : ∀ i : Nat, i < 8 → m_in (J (M + 10) i)) (hwv : ∀ i : Nat, i < 8 → -100 ≤ J (M + 11) i ∧ J (M + 11) i ≤ 100) (ht : 0 ≤ J (M + 22) 1 ∧ J (M + 22) 1 ≤ 9999) :
    ∀ (n : Nat) (k st : Int) (σ : a_S), k + n = 60 → 0 ≤ k → 0 ≤ st ∧ st < 38880 → (∀ σ', Q (some (.int (m_i (a_dr (md_cf J M) (md_wd J M) (J (M + 22) 1) n st k)))) (T, m_I (md_put J M σ'), P, L, z, w)) → m_wp en (d + 4) mMd_drift 14 [some (.ref M), some (.int (m_i st)), some (.int (m_i k))] [] (T, m_I (md_put J M σ), P, L, z, w) Q := by
  intro n
  induction n with
  | zero =>
    intro k st σ hk h0 hst hq
    refine r_iln eMd_drift_14 rfl ?_
    refine r_bip eMd_drift_15 (by decide) ?_
    refine r_cge (tgt := 66) eMd_drift_17 rfl ⟨(by omega), (by omega)⟩ ⟨(by omega), (by omega)⟩ (fun c17 => ?_) (fun c17 => ?_)
    · refine r_iln eMd_drift_66 rfl ?_
      refine r_iret eMd_drift_67 rfl ?_
      exact hq σ
    · exfalso; omega
  | succ n ih =>
    intro k st σ hk h0 hst hq
    have hw := md_wd_bd hwn hwv (J (M + 22) 1 + k)
    have hb01 := a_b_01 (decide (a_why (md_cf J M) (a_step (a_of st) 4 (md_wd J M (J (M + 22) 1 + k))) = 0))
    unfold a_dr at hq
    refine r_iln eMd_drift_14 rfl ?_
    refine r_bip eMd_drift_15 (by decide) ?_
    refine r_cge (tgt := 66) eMd_drift_17 rfl ⟨(by omega), (by omega)⟩ ⟨(by omega), (by omega)⟩ (fun c17 => ?_) (fun c17 => ?_)
    · refine r_iln eMd_drift_66 rfl ?_
      refine r_iret eMd_drift_67 rfl ?_
      first | (exfalso; omega) | (rw [if_neg (fun q => by omega)] at hq; exact hq _) | (rw [if_neg (fun q => by have := a_b_t (decide_eq_true q.2); omega)] at hq; exact hq _)
    · refine r_aln eMd_drift_20 rfl ?_
      refine m_getR eMd_drift_21 rfl hM.2.1 (md_s_p hM) ?_
      refine r_con eMd_drift_24 ?_
      refine r_ialde (x := J (M + 22) 1) eMd_drift_25 (md_s_t hM) (by decide) (by omega) (by omega) (by simp [m_up, md_put_at, m_fl]) ?_
      refine r_iln eMd_drift_26 rfl ?_
      refine r_add eMd_drift_27 ?_
      refine r_sip eMd_drift_28 (by decide) ?_
      refine r_cge (tgt := 66) eMd_drift_31 rfl ⟨(by omega), (by omega)⟩ ⟨(by omega), (by omega)⟩ (fun c31 => ?_) (fun c31 => ?_)
      · refine r_iln eMd_drift_66 rfl ?_
        refine r_iret eMd_drift_67 rfl ?_
        first | (exfalso; omega) | (rw [if_neg (fun q => by omega)] at hq; exact hq _) | (rw [if_neg (fun q => by have := a_b_t (decide_eq_true q.2); omega)] at hq; exact hq _)
      · refine r_aln eMd_drift_34 rfl ?_
        refine r_iln eMd_drift_35 rfl ?_
        refine r_con eMd_drift_36 ?_
        refine r_aln eMd_drift_37 rfl ?_
        refine r_aln eMd_drift_38 rfl ?_
        refine m_getR eMd_drift_39 rfl hM.2.1 (md_s_p hM) ?_
        refine r_con eMd_drift_42 ?_
        refine r_ialde (x := J (M + 22) 1) eMd_drift_43 (md_s_t hM) (by decide) (by omega) (by omega) (by simp [m_up, md_put_at, m_fl]) ?_
        refine r_iln eMd_drift_44 rfl ?_
        refine r_add eMd_drift_45 ?_
        refine r_vir eMd_drift_46 rfl rfl rfl hM.2.1 rfl rfl ?_
        refine s_Md_windAt hM ⟨by omega, by omega⟩ hwn hwb ?_
        show m_wp en _ mMd_drift 49 [some (.ref M), some (.int (m_i (st))), some (.int (m_i (k)))] [(.int (m_i (md_wd J M (((J (M + 22) 1) + (k)))))), (.int (m_i (4))), (.int (m_i (st))), (.ref M)] (T, m_I ((md_put J M σ)), P, L, z, w) Q
        refine r_vir eMd_drift_49 rfl rfl rfl hM.2.1 rfl rfl ?_
        refine s_Md_canStep hM ok (by omega) (by omega) (by omega) (by omega) ?_
        show m_wp en _ mMd_drift 52 [some (.ref M), some (.int (m_i (st))), some (.int (m_i (k)))] [(.int (m_i (a_b (decide (a_why (md_cf J M) (a_step (a_of st) 4 ((md_wd J M (((J (M + 22) 1) + (k)))))) = 0)))))] (T, m_I ((md_put J M (a_step (a_of st) 4 ((md_wd J M (((J (M + 22) 1) + (k)))))))), P, L, z, w) Q
        refine r_zeq (tgt := 66) eMd_drift_52 rfl ⟨(by omega), (by omega)⟩ (fun c52 => ?_) (fun c52 => ?_)
        · refine r_iln eMd_drift_66 rfl ?_
          refine r_iret eMd_drift_67 rfl ?_
          first | (exfalso; omega) | (rw [if_neg (fun q => by omega)] at hq; exact hq _) | (rw [if_neg (fun q => by have := a_b_t (decide_eq_true q.2); omega)] at hq; exact hq _)
        · have hy : a_why (md_cf J M) (a_step (a_of st) 4 (md_wd J M (J (M + 22) 1 + k))) = 0 := of_decide_eq_true (Classical.byContradiction (fun q => c52 (a_b_f q)))
          have hNb := a_no_bd (a_why_bx ok hst.1 (by omega) hy)
          refine r_aln eMd_drift_55 rfl ?_
          refine r_vir eMd_drift_56 rfl rfl rfl hM.2.1 rfl rfl ?_
          refine s_Md_laid hM ?_
          show m_wp en _ mMd_drift 59 [some (.ref M), some (.int (m_i (st))), some (.int (m_i (k)))] [(.int (m_i (a_no ((a_step (a_of st) 4 ((md_wd J M (((J (M + 22) 1) + (k))))))))))] (T, m_I ((md_put J M (a_step (a_of st) 4 ((md_wd J M (((J (M + 22) 1) + (k)))))))), P, L, z, w) Q
          refine r_isn (ls' := [some (.ref M), some (.int (m_i (a_no ((a_step (a_of st) 4 ((md_wd J M (((J (M + 22) 1) + (k)))))))))), some (.int (m_i (k)))]) eMd_drift_59 (Nat.le_of_ble_eq_true rfl) rfl ?_
          refine r_inc (ls' := [some (.ref M), some (.int (m_i (a_no ((a_step (a_of st) 4 ((md_wd J M (((J (M + 22) 1) + (k)))))))))), some (.int (m_i (k + 1)))]) eMd_drift_60 rfl rfl ?_
          refine r_go (tgt := 14) eMd_drift_63 rfl ?_
          rw [if_pos ⟨by omega, hy⟩] at hq
          exact ih _ _ _ (by omega) (by omega) hNb hq
theorem c_Md_drift (hM : md_sh en M T P) (hJ : m_up J0 M 0 0 = J) (ok : a_ok (md_cf J M)) (hwn : 0 ≤ J (M + 2) 6 ∧ J (M + 2) 6 ≤ 8) (hwb : ∀ i : Nat, i < 8 → m_in (J (M + 10) i)) (hwv : ∀ i : Nat, i < 8 → -100 ≤ J (M + 11) i ∧ J (M + 11) i ≤ 100) (ht : 0 ≤ J (M + 22) 1 ∧ J (M + 22) 1 ≤ 9999) (hs : 0 ≤ J (M + 22) 0 ∧ J (M + 22) 0 < 38880)
    (hq : ∀ σ', Q (some (.int (m_i (a_dr (md_cf J M) (md_wd J M) (J (M + 22) 1) 60 (J (M + 22) 0) 0)))) (T, m_I (md_put J M σ'), P, L, z, w)) : m_call en (d + 5) mMd_drift [.ref M] (T, m_I J0, P, L, z, w) Q := by
  have h := l_Md_drift (d := d) (z := z) (w := w) (L := L) hM ok hwn hwb hwv ht 60 0 (J (M + 22) 0) (md_get J M) (by omega) (by omega) hs hq
  rw [md_put_get] at h
  refine m_into (by decide) (Nat.le_of_ble_eq_true rfl) rfl ?_
  show m_wp en _ mMd_drift 0 [some (.ref M), none, none] [] (T, m_I J0, P, L, z, w) Q
  refine r_aln eMd_drift_0 rfl ?_
  refine r_con eMd_drift_1 ?_
  refine r_put eMd_drift_2 rfl hM.2.1 hM.1 (Or.inl rfl) ?_
  rw [hJ]
  refine r_aln eMd_drift_5 rfl ?_
  refine m_getR eMd_drift_6 rfl hM.2.1 (md_s_p hM) ?_
  refine r_con eMd_drift_9 ?_
  refine r_ialde (x := J (M + 22) 0) eMd_drift_10 (md_s_t hM) (by decide) (by omega) (by omega) rfl ?_
  refine r_isn (ls' := [some (.ref M), some (.int (m_i (J (M + 22) 0))), none]) eMd_drift_11 (Nat.le_of_ble_eq_true rfl) rfl ?_
  refine r_con eMd_drift_12 ?_
  refine r_isn (ls' := [some (.ref M), some (.int (m_i (J (M + 22) 0))), some (.int (m_i (0)))]) eMd_drift_13 (Nat.le_of_ble_eq_true rfl) rfl ?_
  exact h
end MDS
