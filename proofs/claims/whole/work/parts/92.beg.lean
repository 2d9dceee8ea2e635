/-! begins, text of the reference -/
def md_b1 (J : Nat → Nat → Int) (M : Nat) : Nat → Nat → Int := m_up (m_fl J (M + 22) 0 (fun _ => 0) 143) (M + 22) 0 (a_no (J (M + 2) 9, 0, 0, 0, J (M + 2) 10))
def md_b2 (J : Nat → Nat → Int) (M : Nat) : Nat → Nat → Int := m_up (m_up (m_fl (md_b1 J M) (M + 22) 7 (fun i => J (M + 16) i) 16) M 45 0) M 46 0
def md_bg (J : Nat → Nat → Int) (M : Nat) : Nat → Nat → Int := md_as (md_b2 J M) M
section MDBG
variable {en : Nat → Nat} {d : Nat} {T : Nat → Option (Nat × Nat)} {J J0 J1 B K : Nat → Nat → Int} {P : Nat → Nat → Option Nat} {L : Nat → Nat → Int64} {z w M : Nat} {Q : m_Q} {σ : a_S} {a p s v k g : Int}
theorem l_Md_bg1 (hM : md_sh en M T P) (hq : m_wp en (d + 2) mMd_begins 22 [some (.ref M), some (.int (m_i 143))] [] (T, m_I (m_fl J (M + 22) 0 (fun _ => 0) 143), P, L, z, w) Q) :
    ∀ (m i : Nat), i + m = 143 → m_wp en (d + 2) mMd_begins 2 [some (.ref M), some (.int (m_i (i : Int)))] [] (T, m_I (m_fl J (M + 22) 0 (fun _ => 0) (i : Int)), P, L, z, w) Q := by
  intro m
  induction m with
  | zero =>
    intro i him
    obtain rfl : i = 143 := by omega
    refine r_iln eMd_begins_2 rfl ?_
    refine r_sip eMd_begins_3 (by decide) ?_
    refine r_cge (tgt := 22) eMd_begins_6 rfl ⟨(by omega), (by omega)⟩ ⟨(by omega), (by omega)⟩ (fun c6 => ?_) (fun c6 => ?_)
    · exact hq
    · exfalso; omega
  | succ m ih =>
    intro i him
    have hi := ih (i + 1) (by omega)
    rw [show ((i + 1 : Nat) : Int) = (i : Int) + 1 by omega, ← m_fl_s (n := (i : Int).toNat) (v := 0) (by omega) (by omega) rfl] at hi
    refine r_iln eMd_begins_2 rfl ?_
    refine r_sip eMd_begins_3 (by decide) ?_
    refine r_cge (tgt := 22) eMd_begins_6 rfl ⟨(by omega), (by omega)⟩ ⟨(by omega), (by omega)⟩ (fun c6 => ?_) (fun c6 => ?_)
    · exfalso; omega
    · refine r_aln eMd_begins_9 rfl ?_
      refine m_getR eMd_begins_10 rfl hM.2.1 (md_s_p hM) ?_
      refine r_iln eMd_begins_13 rfl ?_
      refine r_con eMd_begins_14 ?_
      refine r_iast eMd_begins_15 (md_s_t hM) (by decide) (by omega) (by omega) (md_b hM 22) ?_
      refine r_inc (ls' := [some (.ref M), some (.int (m_i ((i : Int) + 1)))]) eMd_begins_16 rfl rfl ?_
      refine r_go (tgt := 2) eMd_begins_19 rfl ?_
      exact hi
theorem l_Md_bg2 (hM : md_sh en M T P) (e16 : K (M + 16) = J (M + 16)) (hpb : md_pb (m_up (m_up (m_fl K (M + 22) 7 (fun i => J (M + 16) i) 16) M 45 0) M 46 0) M) (hq : Q none (T, m_I (md_as (m_up (m_up (m_fl K (M + 22) 7 (fun i => J (M + 16) i) 16) M 45 0) M 46 0) M), P, L, z, w)) :
    ∀ (m i : Nat), i + m = 16 → m_wp en (d + 2) mMd_begins 48 [some (.ref M), some (.int (m_i (i : Int)))] [] (T, m_I (m_fl K (M + 22) 7 (fun i => J (M + 16) i) (i : Int)), P, L, z, w) Q := by
  intro m
  induction m with
  | zero =>
    intro i him
    obtain rfl : i = 16 := by omega
    refine r_iln eMd_begins_48 rfl ?_
    refine r_bip eMd_begins_49 (by decide) ?_
    refine r_cge (tgt := 75) eMd_begins_51 rfl ⟨(by omega), (by omega)⟩ ⟨(by omega), (by omega)⟩ (fun c51 => ?_) (fun c51 => ?_)
    · refine r_aln eMd_begins_75 rfl ?_
      refine r_con eMd_begins_76 ?_
      refine r_put eMd_begins_77 rfl hM.2.1 hM.1 (Or.inl rfl) ?_
      refine r_aln eMd_begins_80 rfl ?_
      refine r_con eMd_begins_81 ?_
      refine r_puz eMd_begins_82 rfl hM.2.1 hM.1 (Or.inl rfl) (by first | exact Or.inl rfl | exact Or.inr rfl | omega) ?_
      refine r_aln eMd_begins_85 rfl ?_
      refine r_vir eMd_begins_86 rfl rfl rfl hM.2.1 rfl rfl ?_
      refine c_Md_asItIs hM hpb ?_
      show m_wp en _ mMd_begins 89 [some (.ref M), some (.int (m_i (((16 : Nat) : Int))))] [] (T, m_I ((md_as ((m_up (m_up (m_fl K (M + 22) 7 (fun i => J (M + 16) i) ((16 : Nat) : Int)) M 45 (0)) M 46 (0))) M)), P, L, z, w) Q
      refine r_ret eMd_begins_89 rfl ?_
      exact hq
    · exfalso; omega
  | succ m ih =>
    intro i him
    have hi := ih (i + 1) (by omega)
    rw [show ((i + 1 : Nat) : Int) = (i : Int) + 1 by omega, ← m_fl_s (n := (7 + (i : Int)).toNat) (v := J (M + 16) i) (by omega) (by omega) (by rw [Int.toNat_natCast])] at hi
    refine r_iln eMd_begins_48 rfl ?_
    refine r_bip eMd_begins_49 (by decide) ?_
    refine r_cge (tgt := 75) eMd_begins_51 rfl ⟨(by omega), (by omega)⟩ ⟨(by omega), (by omega)⟩ (fun c51 => ?_) (fun c51 => ?_)
    · exfalso; omega
    · refine r_aln eMd_begins_54 rfl ?_
      refine m_getR eMd_begins_55 rfl hM.2.1 (md_s_p hM) ?_
      refine r_bip eMd_begins_58 (by decide) ?_
      refine r_iln eMd_begins_60 rfl ?_
      refine r_add eMd_begins_61 ?_
      refine r_aln eMd_begins_62 rfl ?_
      refine m_getR eMd_begins_63 rfl hM.2.1 (md_pileTold_p hM) ?_
      refine r_iln eMd_begins_66 rfl ?_
      refine r_ialde (x := K (M + 16) (((i : Int)).toNat)) eMd_begins_67 (md_pileTold_t hM) (by decide) (by omega) (by omega) (by simp [m_up, md_put_at, m_fl]) ?_
      refine r_iast eMd_begins_68 (md_s_t hM) (by decide) (by omega) (by omega) (md_b hM 22) ?_
      refine r_inc (ls' := [some (.ref M), some (.int (m_i ((i : Int) + 1)))]) eMd_begins_69 rfl rfl ?_
      refine r_go (tgt := 48) eMd_begins_72 rfl ?_
      show m_wp en _ mMd_begins 48 [some (.ref M), some (.int (m_i ((i : Int) + 1)))] [] (T, m_I ((m_up (m_fl K (M + 22) 7 (fun i => J (M + 16) i) (i : Int)) (M + 22) (((7) + ((i : Int))).toNat) (K (M + 16) (((i : Int)).toNat)))), P, L, z, w) Q
      rw [e16, Int.toNat_natCast]
      exact hi
theorem md_b2_r {J : Nat → Nat → Int} {M i : Nat} : md_b2 J M (M + 22) i = if 7 ≤ i ∧ i < 23 then J (M + 16) (i - 7) else if i = 0 then a_no (J (M + 2) 9, 0, 0, 0, J (M + 2) 10) else if i < 143 then 0 else J (M + 22) i := by
  unfold md_b2 md_b1
  rw [m_up_at, if_neg (by omega), m_up_at, if_neg (by omega)]
  by_cases h : 7 ≤ i ∧ i < 23
  · rw [if_pos h, m_fl_i (by omega)]
  · rw [if_neg h, m_fl_x (by omega), m_up_at]
    by_cases h0 : i = 0
    · rw [if_pos h0, if_pos ⟨rfl, h0⟩]
    · rw [if_neg h0, if_neg (fun q => h0 q.2)]
      by_cases h1 : i < 143
      · rw [if_pos h1, m_fl_i (by omega)]
      · rw [if_neg h1, m_fl_x (by omega)]
theorem md_b2_o {J : Nat → Nat → Int} {M b i : Nat} (h : b ≠ M + 22) (h2 : ¬ (b = M ∧ (i = 45 ∨ i = 46))) : md_b2 J M b i = J b i := by
  unfold md_b2 md_b1
  rw [m_up_at, if_neg (by omega), m_up_at, if_neg (by omega), m_fl_o h, m_up_at, if_neg (by omega), m_fl_o h]
/-- what a text has told, before its moment begins -/
def md_pq (J : Nat → Nat → Int) (M : Nat) : Prop := md_pl J M ∧ ((0 ≤ J (M + 2) 9 ∧ J (M + 2) 9 ≤ 15) ∧ 0 ≤ J (M + 2) 10 ∧ J (M + 2) 10 ≤ 6) ∧ (∀ i : Nat, i < 16 → 0 ≤ J (M + 16) i ∧ J (M + 16) i ≤ 6) ∧ md_4 J M
theorem md_b2_row (h : md_pq J M) : md_row (md_b2 J M (M + 22)) := by
  obtain ⟨h1, ⟨h9, h10b⟩, h16, h4⟩ := h
  have hn : 0 ≤ a_no (J (M + 2) 9, 0, 0, 0, J (M + 2) 10) ∧ a_no (J (M + 2) 9, 0, 0, 0, J (M + 2) 10) < 38880 := by
    unfold a_no
    simp only
    omega
  have z : ∀ i, 0 < i → i < 7 → md_b2 J M (M + 22) i = 0 := fun i a b => by rw [md_b2_r, if_neg (by omega), if_neg (by omega), if_pos (by omega)]
  have e0 : md_b2 J M (M + 22) 0 = a_no (J (M + 2) 9, 0, 0, 0, J (M + 2) 10) := by rw [md_b2_r, if_neg (by omega), if_pos rfl]
  unfold md_row
  rw [e0, z 1 (by omega) (by omega), z 2 (by omega) (by omega), z 3 (by omega) (by omega), z 4 (by omega) (by omega), z 5 (by omega) (by omega), z 6 (by omega) (by omega)]
  refine ⟨hn, by omega, by omega, by omega, Or.inl rfl, by omega, fun i hi => ?_, fun i hi => ?_⟩
  · rw [md_b2_r, if_pos (by omega), show 7 + i - 7 = i by omega]
    exact h16 i hi
  · rw [md_b2_r]
    split
    · have := h16 (i - 7) (by omega)
      omega
    · split
      · omega
      · omega
theorem md_b2_pre (h : md_pq J M) : md_pre (md_b2 J M) M := by
  have hr := md_b2_row h
  obtain ⟨h1, h2, h3, h4⟩ := h
  have e : ∀ k, 0 < k → k ≠ 22 → md_b2 J M (M + k) = J (M + k) := fun k a b => funext (fun i => md_b2_o (by omega) (by omega))
  have e45 : md_b2 J M M 45 = 0 := by
    unfold md_b2
    rw [m_up_at, if_neg (by omega)]
    exact m_up_same
  have e46 : md_b2 J M M 46 = 0 := by
    unfold md_b2
    exact m_up_same
  refine ⟨?_, hr, ⟨by omega, Or.inl e46, fun k hk => by omega, fun q => by omega⟩, ⟨by rw [md_b2_o (by omega) (by omega)]; exact h4.1, fun i hi => by rw [md_b2_o (by omega) (by omega)]; exact h4.2 i hi⟩⟩
  unfold md_pl at h1 ⊢
  rw [e 2 (by omega) (by omega), e 4 (by omega) (by omega), e 5 (by omega) (by omega), e 6 (by omega) (by omega), e 10 (by omega) (by omega), e 11 (by omega) (by omega), e 12 (by omega) (by omega), e 13 (by omega) (by omega), e 14 (by omega) (by omega), e 15 (by omega) (by omega), e 17 (by omega) (by omega)]
  exact h1
theorem md_bg_inv (h : md_pq J M) : md_inv (md_bg J M) M := md_as_inv (md_b2_pre h)
theorem md_bg_o {b i : Nat} (h : b ≠ M) (h1 : b ≠ M + 18) (h2 : b ≠ M + 19) (h3 : b ≠ M + 22) : md_bg J M b i = J b i := by
  unfold md_bg
  rw [md_as_o _ _ h h1 h2, md_b2_o h3 (fun q => h q.1)]
theorem md_bg_M {i : Nat} (h : i ≠ 32 ∧ i ≠ 40 ∧ i ≠ 45 ∧ i ≠ 46) : md_bg J M M i = J M i := by
  unfold md_bg
  rw [md_as_M _ _ h.1 h.2.1, md_b2_o (by omega) (by omega)]
theorem c_Md_begins (hM : md_sh en M T P) (h : md_pq J M) (hq : Q none (T, m_I (md_bg J M), P, L, z, w)) : m_call en (d + 3) mMd_begins [.ref M] (T, m_I J, P, L, z, w) Q := by
  have hpre := md_b2_pre h
  have hpb := md_row_pb hpre.1 hpre.2.1
  have h48 := l_Md_bg2 (d := d) (z := z) (w := w) (L := L) (P := P) (Q := Q) (J := J) (K := md_b1 J M) hM (funext (fun i => by unfold md_b1; rw [m_up_at, if_neg (by omega), m_fl_o (by omega)])) hpb hq 16 0 (by omega)
  rw [show ((0 : Nat) : Int) = 0 from rfl, m_fl_0] at h48
  have h22 : m_wp en (d + 2) mMd_begins 22 [some (.ref M), some (.int (m_i 143))] [] (T, m_I (m_fl J (M + 22) 0 (fun _ => 0) 143), P, L, z, w) Q := by
    refine r_aln eMd_begins_22 rfl ?_
    refine m_getR eMd_begins_23 rfl hM.2.1 (md_s_p hM) ?_
    refine r_con eMd_begins_26 ?_
    refine r_aln eMd_begins_27 rfl ?_
    refine r_aln eMd_begins_28 rfl ?_
    refine m_getR eMd_begins_29 rfl hM.2.1 (md_number_p hM) ?_
    refine r_bip eMd_begins_32 (by decide) ?_
    refine r_ialde (x := J (M + 2) 9) eMd_begins_34 (md_number_t hM) (by decide) (by omega) (by omega) (by simp [m_up, md_put_at, m_fl]) ?_
    refine r_aln eMd_begins_35 rfl ?_
    refine m_getR eMd_begins_36 rfl hM.2.1 (md_number_p hM) ?_
    refine r_bip eMd_begins_39 (by decide) ?_
    refine r_ialde (x := J (M + 2) 10) eMd_begins_41 (md_number_t hM) (by decide) (by omega) (by omega) (by simp [m_up, md_put_at, m_fl]) ?_
    refine r_vir eMd_begins_42 rfl rfl rfl hM.2.1 rfl rfl ?_
    refine c_Md_still hM ?_
    show m_wp en _ mMd_begins 45 [some (.ref M), some (.int (m_i (143)))] [(.int (m_i ((a_no (J (M + 2) 9, 0, 0, 0, J (M + 2) 10))))), (.int (m_i (0))), (.ref (M + 22))] (T, m_I ((((m_fl J (M + 22) 0 (fun _ => 0) 143)))), P, L, z, w) Q
    refine r_iast eMd_begins_45 (md_s_t hM) (by decide) (by omega) (by omega) (md_b hM 22) ?_
    refine r_con eMd_begins_46 ?_
    refine r_isn (ls' := [some (.ref M), some (.int (m_i (0)))]) eMd_begins_47 (Nat.le_of_ble_eq_true rfl) rfl ?_
    exact h48
  have h2 := l_Md_bg1 (d := d) (z := z) (w := w) (L := L) (P := P) (Q := Q) (J := J) hM h22 143 0 (by omega)
  rw [show ((0 : Nat) : Int) = 0 from rfl, m_fl_0] at h2
  refine m_into (by decide) (Nat.le_of_ble_eq_true rfl) rfl ?_
  show m_wp en _ mMd_begins 0 [some (.ref M), none] [] (T, m_I J, P, L, z, w) Q
  refine r_con eMd_begins_0 ?_
  refine r_isn (ls' := [some (.ref M), some (.int (m_i (0)))]) eMd_begins_1 (Nat.le_of_ble_eq_true rfl) rfl ?_
  exact h2
end MDBG
