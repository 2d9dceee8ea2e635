/-! the reference's row of now, kept rows -/
def md_as (J : Nat → Nat → Int) (M : Nat) : Nat → Nat → Int := md_piles (m_fl (m_up J M 32 (if J (M + 22) 5 = 1 then 1 else 0)) (M + 18) 0 (fun i => J (M + 22) (7 + i)) 16) M
/-- a row's bounds: sixteen piles, sixteen free depths -/
def md_pb (J : Nat → Nat → Int) (M : Nat) : Prop := (∀ i : Nat, i < 16 → -1000 ≤ J (M + 17) i ∧ J (M + 17) i ≤ 1000) ∧ (∀ i : Nat, i < 143 → -100000 ≤ J (M + 22) i ∧ J (M + 22) i ≤ 100000) ∧ ∀ i : Nat, i < 16 → -1000 ≤ J (M + 22) (7 + i) ∧ J (M + 22) (7 + i) ≤ 1000
section MDF
variable {en : Nat → Nat} {d : Nat} {T : Nat → Option (Nat × Nat)} {J : Nat → Nat → Int} {P : Nat → Nat → Option Nat} {L : Nat → Nat → Int64} {z w M : Nat} {Q : m_Q} {σ : a_S}
theorem l_Md_asItIs (hM : md_sh en M T P) {J0 : Nat → Nat → Int} (h5 : ∀ i, J0 (M + 22) i = J (M + 22) i) (hb1 : ∀ i : Nat, i < 16 → -1000 ≤ J0 (M + 17) i ∧ J0 (M + 17) i ≤ 1000) (hb2 : ∀ i : Nat, i < 16 → -1000 ≤ J (M + 22) (7 + i) ∧ J (M + 22) (7 + i) ≤ 1000) (hq : Q none (T, m_I (md_piles (m_fl J0 (M + 18) 0 (fun i => J (M + 22) (7 + i)) 16) M), P, L, z, w)) :
    ∀ (n : Nat) (k : Int), k + n = 16 → 0 ≤ k → m_wp en (d + 1) mMd_asItIs 21 [some (.ref M), some (.int (m_i k))] [] (T, m_I (m_fl J0 (M + 18) 0 (fun i => J (M + 22) (7 + i)) k), P, L, z, w) Q := by
  have hpb : ∀ i : Nat, i < 16 → (-1000 ≤ m_fl J0 (M + 18) 0 (fun i => J (M + 22) (7 + i)) 16 (M + 17) i ∧ m_fl J0 (M + 18) 0 (fun i => J (M + 22) (7 + i)) 16 (M + 17) i ≤ 1000) ∧ (-1000 ≤ m_fl J0 (M + 18) 0 (fun i => J (M + 22) (7 + i)) 16 (M + 18) i ∧ m_fl J0 (M + 18) 0 (fun i => J (M + 22) (7 + i)) 16 (M + 18) i ≤ 1000) := fun i hi => by
    rw [m_fl_o (by omega), m_fl_i (by omega)]
    exact ⟨hb1 i hi, hb2 _ (by omega)⟩
  intro n
  induction n with
  | zero =>
    intro k hk h0
    obtain rfl : k = 16 := by omega
    refine r_iln eMd_asItIs_21 rfl ?_
    refine r_bip eMd_asItIs_22 (by decide) ?_
    refine r_cge (tgt := 48) eMd_asItIs_24 rfl ⟨(by omega), (by omega)⟩ ⟨(by omega), (by omega)⟩ (fun c24 => ?_) (fun c24 => ?_)
    · refine r_aln eMd_asItIs_48 rfl ?_
      refine r_vir eMd_asItIs_49 rfl rfl rfl hM.2.1 rfl rfl ?_
      refine c_Md_piles hM ?_ ?_
      · exact hpb
      show m_wp en _ mMd_asItIs 52 [some (.ref M), some (.int (m_i (16)))] [] (T, m_I ((md_piles ((m_fl J0 (M + 18) 0 (fun i => J (M + 22) (7 + i)) 16)) M)), P, L, z, w) Q
      refine r_ret eMd_asItIs_52 rfl ?_
      exact hq
    · exfalso; omega
  | succ n ih =>
    intro k hk h0
    refine r_iln eMd_asItIs_21 rfl ?_
    refine r_bip eMd_asItIs_22 (by decide) ?_
    refine r_cge (tgt := 48) eMd_asItIs_24 rfl ⟨(by omega), (by omega)⟩ ⟨(by omega), (by omega)⟩ (fun c24 => ?_) (fun c24 => ?_)
    · exfalso; omega
    · refine r_aln eMd_asItIs_27 rfl ?_
      refine m_getR eMd_asItIs_28 rfl hM.2.1 (md_pile_p hM) ?_
      refine r_iln eMd_asItIs_31 rfl ?_
      refine r_aln eMd_asItIs_32 rfl ?_
      refine m_getR eMd_asItIs_33 rfl hM.2.1 (md_s_p hM) ?_
      refine r_bip eMd_asItIs_36 (by decide) ?_
      refine r_iln eMd_asItIs_38 rfl ?_
      refine r_add eMd_asItIs_39 ?_
      refine r_ialde (x := J0 (M + 22) (((7) + (k)).toNat)) eMd_asItIs_40 (md_s_t hM) (by decide) (by omega) (by omega) (by simp [m_up, md_put_at, m_fl]) ?_
      refine r_iast eMd_asItIs_41 (md_pile_t hM) (by decide) (by omega) (by omega) (md_b hM 18) ?_
      refine r_inc (ls' := [some (.ref M), some (.int (m_i (k + 1)))]) eMd_asItIs_42 rfl rfl ?_
      refine r_go (tgt := 21) eMd_asItIs_45 rfl ?_
      refine Eq.mp ?_ (ih (k + 1) (by omega) (by omega))
      rw [m_fl_s h0 (by omega) (by rw [h5, show ((7 : Int) + k).toNat = 7 + k.toNat by omega])]
theorem c_Md_asItIs (hM : md_sh en M T P) (hb : md_pb J M) (hq : Q none (T, m_I (md_as J M), P, L, z, w)) : m_call en (d + 2) mMd_asItIs [.ref M] (T, m_I J, P, L, z, w) Q := by
  obtain ⟨hb1, hb2, hb3⟩ := hb
  have h5 := hb2 5 (by omega)
  refine m_into (by decide) (Nat.le_of_ble_eq_true rfl) rfl ?_
  show m_wp en _ mMd_asItIs 0 [some (.ref M), none] [] (T, m_I J, P, L, z, w) Q
  refine r_aln eMd_asItIs_0 rfl ?_
  refine r_aln eMd_asItIs_1 rfl ?_
  refine m_getR eMd_asItIs_2 rfl hM.2.1 (md_s_p hM) ?_
  refine r_con eMd_asItIs_5 ?_
  refine r_ialde (x := J (M + 22) 5) eMd_asItIs_6 (md_s_t hM) (by decide) (by omega) (by omega) rfl ?_
  refine r_con eMd_asItIs_7 ?_
  refine r_cne (tgt := 15) eMd_asItIs_8 rfl ⟨(by omega), (by omega)⟩ ⟨(by omega), (by omega)⟩ (fun c8 => ?_) (fun c8 => ?_)
  · refine r_con eMd_asItIs_15 ?_
    refine r_puz eMd_asItIs_16 rfl hM.2.1 hM.1 (Or.inl rfl) (by first | exact Or.inl rfl | exact Or.inr rfl | omega) ?_
    refine r_con eMd_asItIs_19 ?_
    refine r_isn (ls' := [some (.ref M), some (.int (m_i (0)))]) eMd_asItIs_20 (Nat.le_of_ble_eq_true rfl) rfl ?_
    refine Eq.mp ?_ (l_Md_asItIs (d := d) (z := z) (w := w) (L := L) (J := J) (J0 := ((m_up J M 32 (0)))) hM (fun i => by simp [m_up]) (fun i hi => by have := hb1 i hi; simpa [m_up] using this) hb3 (by unfold md_as at hq; first | (rw [if_pos (by omega)] at hq; exact hq) | (rw [if_neg (by omega)] at hq; exact hq)) 16 0 (by omega) (by omega))
    rw [m_fl_0]
  · refine r_con eMd_asItIs_11 ?_
    refine r_go (tgt := 16) eMd_asItIs_12 rfl ?_
    refine r_puz eMd_asItIs_16 rfl hM.2.1 hM.1 (Or.inl rfl) (by first | exact Or.inl rfl | exact Or.inr rfl | omega) ?_
    refine r_con eMd_asItIs_19 ?_
    refine r_isn (ls' := [some (.ref M), some (.int (m_i (0)))]) eMd_asItIs_20 (Nat.le_of_ble_eq_true rfl) rfl ?_
    refine Eq.mp ?_ (l_Md_asItIs (d := d) (z := z) (w := w) (L := L) (J := J) (J0 := ((m_up J M 32 (1)))) hM (fun i => by simp [m_up]) (fun i hi => by have := hb1 i hi; simpa [m_up] using this) hb3 (by unfold md_as at hq; first | (rw [if_pos (by omega)] at hq; exact hq) | (rw [if_neg (by omega)] at hq; exact hq)) 16 0 (by omega) (by omega))
    rw [m_fl_0]
theorem l_Md_laysKept (hM : md_sh en M T P) {k : Int} (hk : 0 ≤ k ∧ k ≤ 30) (hq : Q none (T, m_I (m_fl J (M + 23) (143 * k).toNat (J (M + 22)) 143), P, L, z, w)) :
    ∀ (n : Nat) (i : Int), i + n = 143 → 0 ≤ i → m_wp en d mMd_laysKept 2 [some (.ref M), some (.int (m_i k)), some (.int (m_i i))] [] (T, m_I (m_fl J (M + 23) (143 * k).toNat (J (M + 22)) i), P, L, z, w) Q := by
  intro n
  induction n with
  | zero =>
    intro i hi h0
    obtain rfl : i = 143 := by omega
    refine r_iln eMd_laysKept_2 rfl ?_
    refine r_sip eMd_laysKept_3 (by decide) ?_
    refine r_cge (tgt := 33) eMd_laysKept_6 rfl ⟨(by omega), (by omega)⟩ ⟨(by omega), (by omega)⟩ (fun c6 => ?_) (fun c6 => ?_)
    · refine r_ret eMd_laysKept_33 rfl ?_
      exact hq
    · exfalso; omega
  | succ n ih =>
    intro i hi h0
    refine r_iln eMd_laysKept_2 rfl ?_
    refine r_sip eMd_laysKept_3 (by decide) ?_
    refine r_cge (tgt := 33) eMd_laysKept_6 rfl ⟨(by omega), (by omega)⟩ ⟨(by omega), (by omega)⟩ (fun c6 => ?_) (fun c6 => ?_)
    · exfalso; omega
    · refine r_aln eMd_laysKept_9 rfl ?_
      refine m_getR eMd_laysKept_10 rfl hM.2.1 (md_kept_p hM) ?_
      refine r_sip eMd_laysKept_13 (by decide) ?_
      refine r_iln eMd_laysKept_16 rfl ?_
      refine r_mul eMd_laysKept_17 ?_
      refine r_iln eMd_laysKept_18 rfl ?_
      refine r_add eMd_laysKept_19 ?_
      refine r_aln eMd_laysKept_20 rfl ?_
      refine m_getR eMd_laysKept_21 rfl hM.2.1 (md_s_p hM) ?_
      refine r_iln eMd_laysKept_24 rfl ?_
      refine r_ialde (x := J (M + 22) ((i).toNat)) eMd_laysKept_25 (md_s_t hM) (by decide) (by omega) (by omega) (by simp [m_up, md_put_at, m_fl]) ?_
      refine r_iast eMd_laysKept_26 (md_kept_t hM) (by decide) (by omega) (by omega) (md_b hM 23) ?_
      refine r_inc (ls' := [some (.ref M), some (.int (m_i (k))), some (.int (m_i (i + 1)))]) eMd_laysKept_27 rfl rfl ?_
      refine r_go (tgt := 2) eMd_laysKept_30 rfl ?_
      refine Eq.mp ?_ (ih (i + 1) (by omega) (by omega))
      rw [m_fl_s h0 (by omega) rfl]
theorem c_Md_laysKept (hM : md_sh en M T P) {k : Int} (hk : 0 ≤ k ∧ k ≤ 30) (hq : Q none (T, m_I (m_fl J (M + 23) (143 * k).toNat (J (M + 22)) 143), P, L, z, w)) : m_call en (d + 1) mMd_laysKept [.ref M, .int (m_i k)] (T, m_I J, P, L, z, w) Q := by
  refine m_into (by decide) (Nat.le_of_ble_eq_true rfl) rfl ?_
  show m_wp en _ mMd_laysKept 0 [some (.ref M), some (.int (m_i (k))), none] [] (T, m_I J, P, L, z, w) Q
  refine r_con eMd_laysKept_0 ?_
  refine r_isn (ls' := [some (.ref M), some (.int (m_i (k))), some (.int (m_i (0)))]) eMd_laysKept_1 (Nat.le_of_ble_eq_true rfl) rfl ?_
  refine Eq.mp ?_ (l_Md_laysKept (d := d) (z := z) (w := w) (L := L) (J := J) hM hk hq 143 0 (by omega) (by omega))
  rw [m_fl_0]
theorem l_Md_laysBack (hM : md_sh en M T P) {k : Int} (hk : 0 ≤ k ∧ k ≤ 30) (hpb : md_pb (m_fl J (M + 22) 0 (fun i => J (M + 23) ((143 * k).toNat + i)) 143) M) (hq : Q none (T, m_I (md_as (m_fl J (M + 22) 0 (fun i => J (M + 23) ((143 * k).toNat + i)) 143) M), P, L, z, w)) :
    ∀ (n : Nat) (i : Int), i + n = 143 → 0 ≤ i → m_wp en (d + 2) mMd_laysBack 2 [some (.ref M), some (.int (m_i k)), some (.int (m_i i))] [] (T, m_I (m_fl J (M + 22) 0 (fun i => J (M + 23) ((143 * k).toNat + i)) i), P, L, z, w) Q := by
  intro n
  induction n with
  | zero =>
    intro i hi h0
    obtain rfl : i = 143 := by omega
    refine r_iln eMd_laysBack_2 rfl ?_
    refine r_sip eMd_laysBack_3 (by decide) ?_
    refine r_cge (tgt := 33) eMd_laysBack_6 rfl ⟨(by omega), (by omega)⟩ ⟨(by omega), (by omega)⟩ (fun c6 => ?_) (fun c6 => ?_)
    · refine r_aln eMd_laysBack_33 rfl ?_
      refine r_vir eMd_laysBack_34 rfl rfl rfl hM.2.1 rfl rfl ?_
      refine c_Md_asItIs hM hpb ?_
      show m_wp en _ mMd_laysBack 37 [some (.ref M), some (.int (m_i (k))), some (.int (m_i (143)))] [] (T, m_I ((md_as ((m_fl J (M + 22) 0 (fun i => J (M + 23) ((143 * k).toNat + i)) 143)) M)), P, L, z, w) Q
      refine r_ret eMd_laysBack_37 rfl ?_
      exact hq
    · exfalso; omega
  | succ n ih =>
    intro i hi h0
    refine r_iln eMd_laysBack_2 rfl ?_
    refine r_sip eMd_laysBack_3 (by decide) ?_
    refine r_cge (tgt := 33) eMd_laysBack_6 rfl ⟨(by omega), (by omega)⟩ ⟨(by omega), (by omega)⟩ (fun c6 => ?_) (fun c6 => ?_)
    · exfalso; omega
    · refine r_aln eMd_laysBack_9 rfl ?_
      refine m_getR eMd_laysBack_10 rfl hM.2.1 (md_s_p hM) ?_
      refine r_iln eMd_laysBack_13 rfl ?_
      refine r_aln eMd_laysBack_14 rfl ?_
      refine m_getR eMd_laysBack_15 rfl hM.2.1 (md_kept_p hM) ?_
      refine r_sip eMd_laysBack_18 (by decide) ?_
      refine r_iln eMd_laysBack_21 rfl ?_
      refine r_mul eMd_laysBack_22 ?_
      refine r_iln eMd_laysBack_23 rfl ?_
      refine r_add eMd_laysBack_24 ?_
      refine r_ialde (x := J (M + 23) ((((143) * (k)) + (i)).toNat)) eMd_laysBack_25 (md_kept_t hM) (by decide) (by omega) (by omega) (by simp [m_up, md_put_at, m_fl]) ?_
      refine r_iast eMd_laysBack_26 (md_s_t hM) (by decide) (by omega) (by omega) (md_b hM 22) ?_
      refine r_inc (ls' := [some (.ref M), some (.int (m_i (k))), some (.int (m_i (i + 1)))]) eMd_laysBack_27 rfl rfl ?_
      refine r_go (tgt := 2) eMd_laysBack_30 rfl ?_
      refine Eq.mp ?_ (ih (i + 1) (by omega) (by omega))
      rw [m_fl_s h0 (by omega) (by rw [show (143 * k + i).toNat = (143 * k).toNat + i.toNat by omega])]
theorem c_Md_laysBack (hM : md_sh en M T P) {k : Int} (hk : 0 ≤ k ∧ k ≤ 30) (hpb : md_pb (m_fl J (M + 22) 0 (fun i => J (M + 23) ((143 * k).toNat + i)) 143) M) (hq : Q none (T, m_I (md_as (m_fl J (M + 22) 0 (fun i => J (M + 23) ((143 * k).toNat + i)) 143) M), P, L, z, w)) : m_call en (d + 3) mMd_laysBack [.ref M, .int (m_i k)] (T, m_I J, P, L, z, w) Q := by
  refine m_into (by decide) (Nat.le_of_ble_eq_true rfl) rfl ?_
  show m_wp en _ mMd_laysBack 0 [some (.ref M), some (.int (m_i (k))), none] [] (T, m_I J, P, L, z, w) Q
  refine r_con eMd_laysBack_0 ?_
  refine r_isn (ls' := [some (.ref M), some (.int (m_i (k))), some (.int (m_i (0)))]) eMd_laysBack_1 (Nat.le_of_ble_eq_true rfl) rfl ?_
  refine Eq.mp ?_ (l_Md_laysBack (d := d) (z := z) (w := w) (L := L) (J := J) hM hk hpb hq 143 0 (by omega) (by omega))
  rw [m_fl_0]
end MDF
