/-! the reference's rows: what is free, what is kept -/
/-- a column's free depth -/
def md_fr (J : Nat → Nat → Int) (M : Nat) (i : Nat) : Int := if J (M + 18) i < J (M + 17) i then J (M + 17) i - J (M + 18) i else 0
def md_piles (J : Nat → Nat → Int) (M : Nat) : Nat → Nat → Int := m_up (m_fl J (M + 19) 0 (md_fr J M) 16) M 40 (-2)
section MDE
variable {en : Nat → Nat} {d : Nat} {T : Nat → Option (Nat × Nat)} {J : Nat → Nat → Int} {P : Nat → Nat → Option Nat} {L : Nat → Nat → Int64} {z w M : Nat} {Q : m_Q} {σ : a_S}
theorem l_Md_piles (hM : md_sh en M T P) (hb : ∀ i : Nat, i < 16 → (-1000 ≤ J (M + 17) i ∧ J (M + 17) i ≤ 1000) ∧ (-1000 ≤ J (M + 18) i ∧ J (M + 18) i ≤ 1000)) (hq : Q none (T, m_I (md_piles J M), P, L, z, w)) :
    ∀ (n : Nat) (k : Int), k + n = 16 → 0 ≤ k → m_wp en d mMd_piles 2 [some (.ref M), some (.int (m_i k))] [] (T, m_I (m_fl J (M + 19) 0 (md_fr J M) k), P, L, z, w) Q := by
  intro n
  induction n with
  | zero =>
    intro k hk h0
    obtain rfl : k = 16 := by omega
    refine r_iln eMd_piles_2 rfl ?_
    refine r_bip eMd_piles_3 (by decide) ?_
    refine r_cge (tgt := 52) eMd_piles_5 rfl ⟨(by omega), (by omega)⟩ ⟨(by omega), (by omega)⟩ (fun c5 => ?_) (fun c5 => ?_)
    · refine r_aln eMd_piles_52 rfl ?_
      refine r_bip eMd_piles_53 (by decide) ?_
      refine r_put eMd_piles_55 rfl hM.2.1 hM.1 (Or.inl rfl) ?_
      refine r_ret eMd_piles_58 rfl ?_
      exact hq
    · exfalso; omega
  | succ n ih =>
    intro k hk h0
    have hb2 := hb k.toNat (by omega)
    have e1 : m_fl J (M + 19) 0 (md_fr J M) k (M + 17) k.toNat = J (M + 17) k.toNat := m_fl_o (by omega)
    have e2 : m_fl J (M + 19) 0 (md_fr J M) k (M + 18) k.toNat = J (M + 18) k.toNat := m_fl_o (by omega)
    refine r_iln eMd_piles_2 rfl ?_
    refine r_bip eMd_piles_3 (by decide) ?_
    refine r_cge (tgt := 52) eMd_piles_5 rfl ⟨(by omega), (by omega)⟩ ⟨(by omega), (by omega)⟩ (fun c5 => ?_) (fun c5 => ?_)
    · exfalso; omega
    · refine r_aln eMd_piles_8 rfl ?_
      refine m_getR eMd_piles_9 rfl hM.2.1 (md_freeIn_p hM) ?_
      refine r_iln eMd_piles_12 rfl ?_
      refine r_aln eMd_piles_13 rfl ?_
      refine m_getR eMd_piles_14 rfl hM.2.1 (md_clear_p hM) ?_
      refine r_iln eMd_piles_17 rfl ?_
      refine r_ialde (x := J (M + 17) ((k).toNat)) eMd_piles_18 (md_clear_t hM) (by decide) (by omega) (by omega) (by simp [m_up, md_put_at, m_fl]) ?_
      refine r_aln eMd_piles_19 rfl ?_
      refine m_getR eMd_piles_20 rfl hM.2.1 (md_pile_p hM) ?_
      refine r_iln eMd_piles_23 rfl ?_
      refine r_ialde (x := J (M + 18) ((k).toNat)) eMd_piles_24 (md_pile_t hM) (by decide) (by omega) (by omega) (by simp [m_up, md_put_at, m_fl]) ?_
      refine r_cle (tgt := 44) eMd_piles_25 rfl ⟨(by omega), (by omega)⟩ ⟨(by omega), (by omega)⟩ (fun c25 => ?_) (fun c25 => ?_)
      · refine r_con eMd_piles_44 ?_
        refine r_iast eMd_piles_45 (md_freeIn_t hM) (by decide) (by omega) (by omega) (md_b hM 19) ?_
        refine r_inc (ls' := [some (.ref M), some (.int (m_i (k + 1)))]) eMd_piles_46 rfl rfl ?_
        refine r_go (tgt := 2) eMd_piles_49 rfl ?_
        refine Eq.mp ?_ (ih (k + 1) (by omega) (by omega))
        rw [m_fl_s h0 (by omega) (by first | exact (if_pos (show J (M + 18) k.toNat < J (M + 17) k.toNat by omega)).symm | exact (if_neg (show ¬ J (M + 18) k.toNat < J (M + 17) k.toNat by omega)).symm)]
      · refine r_aln eMd_piles_28 rfl ?_
        refine m_getR eMd_piles_29 rfl hM.2.1 (md_clear_p hM) ?_
        refine r_iln eMd_piles_32 rfl ?_
        refine r_ialde (x := J (M + 17) ((k).toNat)) eMd_piles_33 (md_clear_t hM) (by decide) (by omega) (by omega) (by simp [m_up, md_put_at, m_fl]) ?_
        refine r_aln eMd_piles_34 rfl ?_
        refine m_getR eMd_piles_35 rfl hM.2.1 (md_pile_p hM) ?_
        refine r_iln eMd_piles_38 rfl ?_
        refine r_ialde (x := J (M + 18) ((k).toNat)) eMd_piles_39 (md_pile_t hM) (by decide) (by omega) (by omega) (by simp [m_up, md_put_at, m_fl]) ?_
        refine r_sub eMd_piles_40 ?_
        refine r_go (tgt := 45) eMd_piles_41 rfl ?_
        refine r_iast eMd_piles_45 (md_freeIn_t hM) (by decide) (by omega) (by omega) (md_b hM 19) ?_
        refine r_inc (ls' := [some (.ref M), some (.int (m_i (k + 1)))]) eMd_piles_46 rfl rfl ?_
        refine r_go (tgt := 2) eMd_piles_49 rfl ?_
        refine Eq.mp ?_ (ih (k + 1) (by omega) (by omega))
        rw [m_fl_s h0 (by omega) (by first | exact (if_pos (show J (M + 18) k.toNat < J (M + 17) k.toNat by omega)).symm | exact (if_neg (show ¬ J (M + 18) k.toNat < J (M + 17) k.toNat by omega)).symm)]
theorem c_Md_piles (hM : md_sh en M T P) (hb : ∀ i : Nat, i < 16 → (-1000 ≤ J (M + 17) i ∧ J (M + 17) i ≤ 1000) ∧ (-1000 ≤ J (M + 18) i ∧ J (M + 18) i ≤ 1000)) (hq : Q none (T, m_I (md_piles J M), P, L, z, w)) : m_call en (d + 1) mMd_piles [.ref M] (T, m_I J, P, L, z, w) Q := by
  refine m_into (by decide) (Nat.le_of_ble_eq_true rfl) rfl ?_
  show m_wp en _ mMd_piles 0 [some (.ref M), none] [] (T, m_I J, P, L, z, w) Q
  refine r_con eMd_piles_0 ?_
  refine r_isn (ls' := [some (.ref M), some (.int (m_i (0)))]) eMd_piles_1 (Nat.le_of_ble_eq_true rfl) rfl ?_
  refine Eq.mp ?_ (l_Md_piles (d := d) (z := z) (w := w) (L := L) hM hb hq 16 0 (by omega) (by omega))
  rw [m_fl_0]
/-- the wind told for a tick: of n winds told by two rows, the last one at it -/
def a_wind (at_ by_ : Nat → Int) (t : Int) : Nat → Int
  | 0 => 0
  | n + 1 => if at_ n = t then by_ n else a_wind at_ by_ t n
theorem l_Md_windAt (hM : md_sh en M T P) {t : Int} (ht : m_in t) (hn : 0 ≤ J (M + 2) 6 ∧ J (M + 2) 6 ≤ 8) (hb : ∀ i : Nat, i < 8 → m_in (J (M + 10) i)) (hq : Q (some (.int (m_i (a_wind (J (M + 10)) (J (M + 11)) t (J (M + 2) 6).toNat)))) (T, m_I J, P, L, z, w)) :
    ∀ (n k : Nat), k + n = (J (M + 2) 6).toNat → m_wp en d mMd_windAt 4 [some (.ref M), some (.int (m_i t)), some (.int (m_i (a_wind (J (M + 10)) (J (M + 11)) t k))), some (.int (m_i (k : Int)))] [] (T, m_I J, P, L, z, w) Q := by
  unfold m_in at ht
  intro n
  induction n with
  | zero =>
    intro k hk
    refine r_iln eMd_windAt_4 rfl ?_
    refine r_aln eMd_windAt_5 rfl ?_
    refine m_getR eMd_windAt_6 rfl hM.2.1 (md_number_p hM) ?_
    refine r_bip eMd_windAt_9 (by decide) ?_
    refine r_ialde (x := J (M + 2) 6) eMd_windAt_11 (md_number_t hM) (by decide) (by omega) (by omega) rfl ?_
    refine r_cge (tgt := 38) eMd_windAt_12 rfl ⟨(by omega), (by omega)⟩ ⟨(by omega), (by omega)⟩ (fun c12 => ?_) (fun c12 => ?_)
    · refine r_iln eMd_windAt_38 rfl ?_
      refine r_iret eMd_windAt_39 rfl ?_
      rw [show (J (M + 2) 6).toNat = k by omega] at hq
      exact hq
    · exfalso; omega
  | succ n ih =>
    intro k hk
    have hb2 := hb k (by omega)
    unfold m_in at hb2
    have hk2 : (k : Int).toNat = k := Int.toNat_natCast k
    have hi := ih (k + 1) (by omega)
    have hw : a_wind (J (M + 10)) (J (M + 11)) t (k + 1) = if J (M + 10) k = t then J (M + 11) k else a_wind (J (M + 10)) (J (M + 11)) t k := rfl
    refine r_iln eMd_windAt_4 rfl ?_
    refine r_aln eMd_windAt_5 rfl ?_
    refine m_getR eMd_windAt_6 rfl hM.2.1 (md_number_p hM) ?_
    refine r_bip eMd_windAt_9 (by decide) ?_
    refine r_ialde (x := J (M + 2) 6) eMd_windAt_11 (md_number_t hM) (by decide) (by omega) (by omega) rfl ?_
    refine r_cge (tgt := 38) eMd_windAt_12 rfl ⟨(by omega), (by omega)⟩ ⟨(by omega), (by omega)⟩ (fun c12 => ?_) (fun c12 => ?_)
    · exfalso; omega
    · refine r_aln eMd_windAt_15 rfl ?_
      refine m_getR eMd_windAt_16 rfl hM.2.1 (md_windAt_p hM) ?_
      refine r_iln eMd_windAt_19 rfl ?_
      refine r_ialde (x := J (M + 10) (((k : Int)).toNat)) eMd_windAt_20 (md_windAt_t hM) (by decide) (by omega) (by omega) rfl ?_
      refine r_iln eMd_windAt_21 rfl ?_
      rw [hk2]
      refine r_cne (tgt := 32) eMd_windAt_22 rfl ⟨(by omega), (by omega)⟩ ⟨(by omega), (by omega)⟩ (fun c22 => ?_) (fun c22 => ?_)
      · refine r_inc (ls' := [some (.ref M), some (.int (m_i (t))), some (.int (m_i (a_wind (J (M + 10)) (J (M + 11)) t k))), some (.int (m_i ((k : Int) + 1)))]) eMd_windAt_32 rfl rfl ?_
        refine r_go (tgt := 4) eMd_windAt_35 rfl ?_
        rw [hw] at hi
        first | (rw [if_pos (by omega)] at hi; exact hi) | (rw [if_neg (by omega)] at hi; exact hi)
      · refine r_aln eMd_windAt_25 rfl ?_
        refine m_getR eMd_windAt_26 rfl hM.2.1 (md_windBy_p hM) ?_
        refine r_iln eMd_windAt_29 rfl ?_
        refine r_ialde (x := J (M + 11) (((k : Int)).toNat)) eMd_windAt_30 (md_windBy_t hM) (by decide) (by omega) (by omega) rfl ?_
        refine r_isn (ls' := [some (.ref M), some (.int (m_i (t))), some (.int (m_i (J (M + 11) (((k : Int)).toNat)))), some (.int (m_i ((k : Int))))]) eMd_windAt_31 (Nat.le_of_ble_eq_true rfl) rfl ?_
        refine r_inc (ls' := [some (.ref M), some (.int (m_i (t))), some (.int (m_i (J (M + 11) (((k : Int)).toNat)))), some (.int (m_i ((k : Int) + 1)))]) eMd_windAt_32 rfl rfl ?_
        refine r_go (tgt := 4) eMd_windAt_35 rfl ?_
        rw [hw] at hi
        first | (rw [if_pos (by omega)] at hi; exact hi) | (rw [if_neg (by omega)] at hi; exact hi)
theorem c_Md_windAt (hM : md_sh en M T P) {t : Int} (ht : m_in t) (hn : 0 ≤ J (M + 2) 6 ∧ J (M + 2) 6 ≤ 8) (hb : ∀ i : Nat, i < 8 → m_in (J (M + 10) i)) (hq : Q (some (.int (m_i (a_wind (J (M + 10)) (J (M + 11)) t (J (M + 2) 6).toNat)))) (T, m_I J, P, L, z, w)) : m_call en (d + 1) mMd_windAt [.ref M, .int (m_i t)] (T, m_I J, P, L, z, w) Q := by
  refine m_into (by decide) (Nat.le_of_ble_eq_true rfl) rfl ?_
  show m_wp en _ mMd_windAt 0 [some (.ref M), some (.int (m_i (t))), none, none] [] (T, m_I J, P, L, z, w) Q
  refine r_con eMd_windAt_0 ?_
  refine r_isn (ls' := [some (.ref M), some (.int (m_i (t))), some (.int (m_i (0))), none]) eMd_windAt_1 (Nat.le_of_ble_eq_true rfl) rfl ?_
  refine r_con eMd_windAt_2 ?_
  refine r_isn (ls' := [some (.ref M), some (.int (m_i (t))), some (.int (m_i (0))), some (.int (m_i (0)))]) eMd_windAt_3 (Nat.le_of_ble_eq_true rfl) rfl ?_
  exact l_Md_windAt hM ht hn hb hq (J (M + 2) 6).toNat 0 (by omega)
theorem c_Md_isSpot (hM : md_sh en M T P) {x : Int} (hx : m_in x) (hn : m_in (J (M + 2) 4)) (hq : Q (some (.int (m_i (if 0 ≤ x ∧ x < J (M + 2) 4 then 1 else 0)))) (T, m_I J, P, L, z, w)) : m_call en (d + 1) mMd_isSpot [.ref M, .int (m_i x)] (T, m_I J, P, L, z, w) Q := by
  unfold m_in at hx hn
  refine m_into (by decide) (Nat.le_of_ble_eq_true rfl) rfl ?_
  show m_wp en _ mMd_isSpot 0 [some (.ref M), some (.int (m_i (x)))] [] (T, m_I J, P, L, z, w) Q
  refine r_iln eMd_isSpot_0 rfl ?_
  refine r_zlt (tgt := 18) eMd_isSpot_1 rfl ⟨(by omega), (by omega)⟩ (fun c1 => ?_) (fun c1 => ?_)
  · refine r_con eMd_isSpot_18 ?_
    refine r_zret eMd_isSpot_19 rfl (by first | exact Or.inl rfl | exact Or.inr rfl | omega) ?_
    first | (rw [if_pos (by omega)] at hq; exact hq) | (rw [if_neg (by omega)] at hq; exact hq)
  · refine r_iln eMd_isSpot_4 rfl ?_
    refine r_aln eMd_isSpot_5 rfl ?_
    refine m_getR eMd_isSpot_6 rfl hM.2.1 (md_number_p hM) ?_
    refine r_con eMd_isSpot_9 ?_
    refine r_ialde (x := J (M + 2) 4) eMd_isSpot_10 (md_number_t hM) (by decide) (by omega) (by omega) rfl ?_
    refine r_cge (tgt := 18) eMd_isSpot_11 rfl ⟨(by omega), (by omega)⟩ ⟨(by omega), (by omega)⟩ (fun c11 => ?_) (fun c11 => ?_)
    · refine r_con eMd_isSpot_18 ?_
      refine r_zret eMd_isSpot_19 rfl (by first | exact Or.inl rfl | exact Or.inr rfl | omega) ?_
      first | (rw [if_pos (by omega)] at hq; exact hq) | (rw [if_neg (by omega)] at hq; exact hq)
    · refine r_con eMd_isSpot_14 ?_
      refine r_go (tgt := 19) eMd_isSpot_15 rfl ?_
      refine r_zret eMd_isSpot_19 rfl (by first | exact Or.inl rfl | exact Or.inr rfl | omega) ?_
      first | (rw [if_pos (by omega)] at hq; exact hq) | (rw [if_neg (by omega)] at hq; exact hq)
theorem c_Md_spotState (hM : md_sh en M T P) {x : Int} (hx : 0 ≤ x ∧ x < 12) (hq : Q (some (.int (m_i (a_no (J (M + 5) x.toNat, 0, 0, 0, J (M + 6) x.toNat))))) (T, m_I J, P, L, z, w)) : m_call en (d + 3) mMd_spotState [.ref M, .int (m_i x)] (T, m_I J, P, L, z, w) Q := by
  refine m_into (by decide) (Nat.le_of_ble_eq_true rfl) rfl ?_
  show m_wp en _ mMd_spotState 0 [some (.ref M), some (.int (m_i (x)))] [] (T, m_I J, P, L, z, w) Q
  refine r_aln eMd_spotState_0 rfl ?_
  refine r_aln eMd_spotState_1 rfl ?_
  refine m_getR eMd_spotState_2 rfl hM.2.1 (md_spotColumn_p hM) ?_
  refine r_iln eMd_spotState_5 rfl ?_
  refine r_ialde (x := J (M + 5) ((x).toNat)) eMd_spotState_6 (md_spotColumn_t hM) (by decide) (by omega) (by omega) rfl ?_
  refine r_aln eMd_spotState_7 rfl ?_
  refine m_getR eMd_spotState_8 rfl hM.2.1 (md_spotDepth_p hM) ?_
  refine r_iln eMd_spotState_11 rfl ?_
  refine r_ialde (x := J (M + 6) ((x).toNat)) eMd_spotState_12 (md_spotDepth_t hM) (by decide) (by omega) (by omega) rfl ?_
  refine r_vir eMd_spotState_13 rfl rfl rfl hM.2.1 rfl rfl ?_
  refine c_Md_still hM ?_
  show m_wp en _ mMd_spotState 16 [some (.ref M), some (.int (m_i (x)))] [(.int (m_i (a_no ((J (M + 5) ((x).toNat)), 0, 0, 0, (J (M + 6) ((x).toNat))))))] (T, m_I J, P, L, z, w) Q
  refine r_iret eMd_spotState_16 rfl ?_
  exact hq
theorem s_Md_whyNow (hM : md_sh en M T P) (ok : a_ok (md_cf J M)) (hn : 0 ≤ J (M + 22) 0 ∧ J (M + 22) 0 < 38880) (hq : Q (some (.int (m_i (a_why (md_cf J M) (a_of (J (M + 22) 0)))))) (T, m_I (md_put J M (a_of (J (M + 22) 0))), P, L, z, w)) : m_call en (d + 4) mMd_whyNow [.ref M] (T, m_I (md_put J M σ), P, L, z, w) Q := by
  have sm : a_sm (a_of (J (M + 22) 0)) := a_of_sm (by omega) (by omega)
  refine m_into (by decide) (Nat.le_of_ble_eq_true rfl) rfl ?_
  show m_wp en _ mMd_whyNow 0 [some (.ref M)] [] (T, m_I ((md_put J M σ)), P, L, z, w) Q
  refine r_aln eMd_whyNow_0 rfl ?_
  refine r_aln eMd_whyNow_1 rfl ?_
  refine m_getR eMd_whyNow_2 rfl hM.2.1 (md_s_p hM) ?_
  refine r_con eMd_whyNow_5 ?_
  refine r_ialde (x := J (M + 22) 0) eMd_whyNow_6 (md_s_t hM) (by decide) (by omega) (by omega) (by simp [m_up, md_put_at, m_fl]) ?_
  refine r_vir eMd_whyNow_7 rfl rfl rfl hM.2.1 rfl rfl ?_
  refine s_Md_lays hM (by omega) (by omega) ?_
  show m_wp en _ mMd_whyNow 10 [some (.ref M)] [] (T, m_I ((md_put J M (a_of (J (M + 22) 0)))), P, L, z, w) Q
  refine r_aln eMd_whyNow_10 rfl ?_
  refine r_vir eMd_whyNow_11 rfl rfl rfl hM.2.1 rfl rfl ?_
  refine s_Md_whyNot hM ok (by assumption) ?_
  show m_wp en _ mMd_whyNow 14 [some (.ref M)] [(.int (m_i (a_why (md_cf J M) ((a_of (J (M + 22) 0))))))] (T, m_I ((md_put J M (a_of (J (M + 22) 0)))), P, L, z, w) Q
  refine r_iret eMd_whyNow_14 rfl ?_
  exact hq
theorem s_Md_isStillNow (hM : md_sh en M T P) (hn : 0 ≤ J (M + 22) 0 ∧ J (M + 22) 0 < 38880) (hq : Q (some (.int (m_i (a_b (decide ((a_of (J (M + 22) 0)).2.1 = 0 ∧ (a_of (J (M + 22) 0)).2.2.1 = 0 ∧ (a_of (J (M + 22) 0)).2.2.2.1 = 0)))))) (T, m_I (md_put J M (a_of (J (M + 22) 0))), P, L, z, w)) : m_call en (d + 2) mMd_isStillNow [.ref M] (T, m_I (md_put J M σ), P, L, z, w) Q := by
  obtain ⟨t1, t2, t3, t4, t5⟩ := a_of_t hn.1 (by omega)
  refine m_into (by decide) (Nat.le_of_ble_eq_true rfl) rfl ?_
  show m_wp en _ mMd_isStillNow 0 [some (.ref M)] [] (T, m_I ((md_put J M σ)), P, L, z, w) Q
  refine r_aln eMd_isStillNow_0 rfl ?_
  refine r_aln eMd_isStillNow_1 rfl ?_
  refine m_getR eMd_isStillNow_2 rfl hM.2.1 (md_s_p hM) ?_
  refine r_con eMd_isStillNow_5 ?_
  refine r_ialde (x := J (M + 22) 0) eMd_isStillNow_6 (md_s_t hM) (by decide) (by omega) (by omega) (by simp [m_up, md_put_at, m_fl]) ?_
  refine r_vir eMd_isStillNow_7 rfl rfl rfl hM.2.1 rfl rfl ?_
  refine s_Md_lays hM (by omega) (by omega) ?_
  show m_wp en _ mMd_isStillNow 10 [some (.ref M)] [] (T, m_I ((md_put J M (a_of (J (M + 22) 0)))), P, L, z, w) Q
  refine r_aln eMd_isStillNow_10 rfl ?_
  refine r_gete (x := ((a_of (J (M + 22) 0))).2.1) eMd_isStillNow_11 rfl (by decide) hM.2.1 (by simp [m_up, md_put_at, m_fl]) ?_
  refine r_zne (tgt := 35) eMd_isStillNow_14 rfl ⟨(by omega), (by omega)⟩ (fun c14 => ?_) (fun c14 => ?_)
  · refine r_con eMd_isStillNow_35 ?_
    refine r_zret eMd_isStillNow_36 rfl (by first | exact Or.inl rfl | exact Or.inr rfl | omega) ?_
    first | (rw [a_b_t (decide_eq_true (by omega))] at hq; exact hq) | (rw [a_b_f (fun q => by have := of_decide_eq_true q; omega)] at hq; exact hq)
  · refine r_aln eMd_isStillNow_17 rfl ?_
    refine r_gete (x := ((a_of (J (M + 22) 0))).2.2.1) eMd_isStillNow_18 rfl (by decide) hM.2.1 (by simp [m_up, md_put_at, m_fl]) ?_
    refine r_zne (tgt := 35) eMd_isStillNow_21 rfl ⟨(by omega), (by omega)⟩ (fun c21 => ?_) (fun c21 => ?_)
    · refine r_con eMd_isStillNow_35 ?_
      refine r_zret eMd_isStillNow_36 rfl (by first | exact Or.inl rfl | exact Or.inr rfl | omega) ?_
      first | (rw [a_b_t (decide_eq_true (by omega))] at hq; exact hq) | (rw [a_b_f (fun q => by have := of_decide_eq_true q; omega)] at hq; exact hq)
    · refine r_aln eMd_isStillNow_24 rfl ?_
      refine r_gete (x := ((a_of (J (M + 22) 0))).2.2.2.1) eMd_isStillNow_25 rfl (by decide) hM.2.1 (by simp [m_up, md_put_at, m_fl]) ?_
      refine r_zne (tgt := 35) eMd_isStillNow_28 rfl ⟨(by omega), (by omega)⟩ (fun c28 => ?_) (fun c28 => ?_)
      · refine r_con eMd_isStillNow_35 ?_
        refine r_zret eMd_isStillNow_36 rfl (by first | exact Or.inl rfl | exact Or.inr rfl | omega) ?_
        first | (rw [a_b_t (decide_eq_true (by omega))] at hq; exact hq) | (rw [a_b_f (fun q => by have := of_decide_eq_true q; omega)] at hq; exact hq)
      · refine r_con eMd_isStillNow_31 ?_
        refine r_go (tgt := 36) eMd_isStillNow_32 rfl ?_
        refine r_zret eMd_isStillNow_36 rfl (by first | exact Or.inl rfl | exact Or.inr rfl | omega) ?_
        first | (rw [a_b_t (decide_eq_true (by omega))] at hq; exact hq) | (rw [a_b_f (fun q => by have := of_decide_eq_true q; omega)] at hq; exact hq)
end MDE
