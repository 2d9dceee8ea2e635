/-! what the reference answers of boxes, of a count -/
section MDQ
variable {en : Nat → Nat} {d : Nat} {T : Nat → Option (Nat × Nat)} {J J0 : Nat → Nat → Int} {P : Nat → Nat → Option Nat} {L : Nat → Nat → Int64} {z w M : Nat} {Q : m_Q} {σ : a_S}
/-- the sum of the first n numbers -/
def a_sum (f : Nat → Int) : Nat → Int
  | 0 => 0
  | n + 1 => a_sum f n + f n
theorem l_Md_count (hM : md_sh en M T P) {x : Int}
    (hnext : m_wp en d mMd_count 30 [some (.ref M), some (.int (m_i x)), some (.int (m_i (a_sum (J (M + 18)) 16))), some (.int (m_i (((16 : Nat)) : Int)))] [] (T, m_I J, P, L, z, w) Q) :
    ∀ (n k : Nat), k + n = 16 → m_wp en d mMd_count 9 [some (.ref M), some (.int (m_i x)), some (.int (m_i (a_sum (J (M + 18)) k))), some (.int (m_i (k : Int)))] [] (T, m_I J, P, L, z, w) Q := by
  intro n
  induction n with
  | zero =>
    intro k hk
    obtain rfl : k = 16 := by omega
    refine r_iln eMd_count_9 rfl ?_
    refine r_bip eMd_count_10 (by decide) ?_
    refine r_cge (tgt := 30) eMd_count_12 rfl ⟨(by omega), (by omega)⟩ ⟨(by omega), (by omega)⟩ (fun c12 => ?_) (fun c12 => ?_)
    · exact hnext
    · exfalso; omega
  | succ n ih =>
    intro k hk
    have hi := ih (k + 1) (by omega)
    have e : ((k : Int)).toNat = k := by omega
    refine r_iln eMd_count_9 rfl ?_
    refine r_bip eMd_count_10 (by decide) ?_
    refine r_cge (tgt := 30) eMd_count_12 rfl ⟨(by omega), (by omega)⟩ ⟨(by omega), (by omega)⟩ (fun c12 => ?_) (fun c12 => ?_)
    · exfalso; omega
    · refine r_iln eMd_count_15 rfl ?_
      refine r_aln eMd_count_16 rfl ?_
      refine m_getR eMd_count_17 rfl hM.2.1 (md_pile_p hM) ?_
      refine r_iln eMd_count_20 rfl ?_
      refine r_ialde (x := J (M + 18) (((k : Int)).toNat)) eMd_count_21 (md_pile_t hM) (by decide) (by omega) (by omega) rfl ?_
      refine r_add eMd_count_22 ?_
      refine r_isn (ls' := [some (.ref M), some (.int (m_i (x))), some (.int (m_i ((a_sum (J (M + 18)) k) + (J (M + 18) (((k : Int)).toNat))))), some (.int (m_i ((k : Int))))]) eMd_count_23 (Nat.le_of_ble_eq_true rfl) rfl ?_
      refine r_inc (ls' := [some (.ref M), some (.int (m_i (x))), some (.int (m_i ((a_sum (J (M + 18)) k) + (J (M + 18) (((k : Int)).toNat))))), some (.int (m_i ((k : Int) + 1)))]) eMd_count_24 rfl rfl ?_
      refine r_go (tgt := 9) eMd_count_27 rfl ?_
      exact hi
/-- what a count is -/
def a_cnt (J : Nat → Nat → Int) (M : Nat) (x : Int) : Int :=
  if x = 0 then J (M + 2) 0 else if x = 1 then J (M + 2) 1 else if x = 2 then J (M + 2) 2 else if x = 3 then J (M + 2) 3 else if x = 4 then J (M + 2) 4 else if x = 5 then J (M + 2) 5 else
  if x = 6 then J (M + 22) 4 else if x = 7 then J (M + 22) 1 else if x = 8 then J (M + 22) 6 else if x = 9 then J M 45 else if x = 10 then J M 2 else if x = 11 then J (M + 2) 11 else if x = 12 then a_sum (J (M + 18)) 16 else -1
theorem c_Md_count (hM : md_sh en M T P) (hJ : m_up J0 M 0 0 = J) {x : Int} (hx : m_in x) (hq : Q (some (.int (m_i (a_cnt J M x)))) (T, m_I J, P, L, z, w)) : m_call en (d + 1) mMd_count [.ref M, .int (m_i x)] (T, m_I J0, P, L, z, w) Q := by
  unfold m_in at hx
  unfold a_cnt at hq
  refine m_into (by decide) (Nat.le_of_ble_eq_true rfl) rfl ?_
  refine r_aln eMd_count_0 rfl ?_
  refine r_con eMd_count_1 ?_
  refine r_put eMd_count_2 rfl hM.2.1 hM.1 (Or.inl rfl) ?_
  rw [hJ]
  refine r_con eMd_count_5 ?_
  refine r_isn (ls' := [some (.ref M), some (.int (m_i (x))), some (.int (m_i (0))), none]) eMd_count_6 (Nat.le_of_ble_eq_true rfl) rfl ?_
  refine r_con eMd_count_7 ?_
  refine r_isn (ls' := [some (.ref M), some (.int (m_i (x))), some (.int (m_i (0))), some (.int (m_i (0)))]) eMd_count_8 (Nat.le_of_ble_eq_true rfl) rfl ?_
  refine l_Md_count hM ?_ 16 0 rfl
  refine r_iln eMd_count_30 rfl ?_
  rcases (show (x) = 0 ∨ (x) = 1 ∨ (x) = 2 ∨ (x) = 3 ∨ (x) = 4 ∨ (x) = 5 ∨ (x) = 6 ∨ (x) = 7 ∨ (x) = 8 ∨ (x) = 9 ∨ (x) = 10 ∨ (x) = 11 ∨ (x) = 12 ∨ ((x) < 0 ∨ 12 < (x)) by omega) with c31 | c31 | c31 | c31 | c31 | c31 | c31 | c31 | c31 | c31 | c31 | c31 | c31 | c31
  · refine r_tcase (v := 0) (tgt := 96) eMd_count_31 c31 ⟨by decide, by decide⟩ ⟨by decide, by decide⟩ rfl rfl ?_
    refine r_aln eMd_count_96 rfl ?_
    refine m_getR eMd_count_97 rfl hM.2.1 (md_number_p hM) ?_
    refine r_con eMd_count_100 ?_
    refine r_ialde (x := J (M + 2) 0) eMd_count_101 (md_number_t hM) (by decide) (by omega) (by omega) rfl ?_
    refine r_iret eMd_count_102 rfl ?_
    (repeat (first | rw [if_pos (by omega)] at hq | rw [if_neg (by omega)] at hq))
    exact hq
  · refine r_tcase (v := 1) (tgt := 103) eMd_count_31 c31 ⟨by decide, by decide⟩ ⟨by decide, by decide⟩ rfl rfl ?_
    refine r_aln eMd_count_103 rfl ?_
    refine m_getR eMd_count_104 rfl hM.2.1 (md_number_p hM) ?_
    refine r_con eMd_count_107 ?_
    refine r_ialde (x := J (M + 2) 1) eMd_count_108 (md_number_t hM) (by decide) (by omega) (by omega) rfl ?_
    refine r_iret eMd_count_109 rfl ?_
    (repeat (first | rw [if_pos (by omega)] at hq | rw [if_neg (by omega)] at hq))
    exact hq
  · refine r_tcase (v := 2) (tgt := 110) eMd_count_31 c31 ⟨by decide, by decide⟩ ⟨by decide, by decide⟩ rfl rfl ?_
    refine r_aln eMd_count_110 rfl ?_
    refine m_getR eMd_count_111 rfl hM.2.1 (md_number_p hM) ?_
    refine r_con eMd_count_114 ?_
    refine r_ialde (x := J (M + 2) 2) eMd_count_115 (md_number_t hM) (by decide) (by omega) (by omega) rfl ?_
    refine r_iret eMd_count_116 rfl ?_
    (repeat (first | rw [if_pos (by omega)] at hq | rw [if_neg (by omega)] at hq))
    exact hq
  · refine r_tcase (v := 3) (tgt := 117) eMd_count_31 c31 ⟨by decide, by decide⟩ ⟨by decide, by decide⟩ rfl rfl ?_
    refine r_aln eMd_count_117 rfl ?_
    refine m_getR eMd_count_118 rfl hM.2.1 (md_number_p hM) ?_
    refine r_con eMd_count_121 ?_
    refine r_ialde (x := J (M + 2) 3) eMd_count_122 (md_number_t hM) (by decide) (by omega) (by omega) rfl ?_
    refine r_iret eMd_count_123 rfl ?_
    (repeat (first | rw [if_pos (by omega)] at hq | rw [if_neg (by omega)] at hq))
    exact hq
  · refine r_tcase (v := 4) (tgt := 124) eMd_count_31 c31 ⟨by decide, by decide⟩ ⟨by decide, by decide⟩ rfl rfl ?_
    refine r_aln eMd_count_124 rfl ?_
    refine m_getR eMd_count_125 rfl hM.2.1 (md_number_p hM) ?_
    refine r_con eMd_count_128 ?_
    refine r_ialde (x := J (M + 2) 4) eMd_count_129 (md_number_t hM) (by decide) (by omega) (by omega) rfl ?_
    refine r_iret eMd_count_130 rfl ?_
    (repeat (first | rw [if_pos (by omega)] at hq | rw [if_neg (by omega)] at hq))
    exact hq
  · refine r_tcase (v := 5) (tgt := 131) eMd_count_31 c31 ⟨by decide, by decide⟩ ⟨by decide, by decide⟩ rfl rfl ?_
    refine r_aln eMd_count_131 rfl ?_
    refine m_getR eMd_count_132 rfl hM.2.1 (md_number_p hM) ?_
    refine r_con eMd_count_135 ?_
    refine r_ialde (x := J (M + 2) 5) eMd_count_136 (md_number_t hM) (by decide) (by omega) (by omega) rfl ?_
    refine r_iret eMd_count_137 rfl ?_
    (repeat (first | rw [if_pos (by omega)] at hq | rw [if_neg (by omega)] at hq))
    exact hq
  · refine r_tcase (v := 6) (tgt := 138) eMd_count_31 c31 ⟨by decide, by decide⟩ ⟨by decide, by decide⟩ rfl rfl ?_
    refine r_aln eMd_count_138 rfl ?_
    refine m_getR eMd_count_139 rfl hM.2.1 (md_s_p hM) ?_
    refine r_con eMd_count_142 ?_
    refine r_ialde (x := J (M + 22) 4) eMd_count_143 (md_s_t hM) (by decide) (by omega) (by omega) rfl ?_
    refine r_iret eMd_count_144 rfl ?_
    (repeat (first | rw [if_pos (by omega)] at hq | rw [if_neg (by omega)] at hq))
    exact hq
  · refine r_tcase (v := 7) (tgt := 145) eMd_count_31 c31 ⟨by decide, by decide⟩ ⟨by decide, by decide⟩ rfl rfl ?_
    refine r_aln eMd_count_145 rfl ?_
    refine m_getR eMd_count_146 rfl hM.2.1 (md_s_p hM) ?_
    refine r_con eMd_count_149 ?_
    refine r_ialde (x := J (M + 22) 1) eMd_count_150 (md_s_t hM) (by decide) (by omega) (by omega) rfl ?_
    refine r_iret eMd_count_151 rfl ?_
    (repeat (first | rw [if_pos (by omega)] at hq | rw [if_neg (by omega)] at hq))
    exact hq
  · refine r_tcase (v := 8) (tgt := 152) eMd_count_31 c31 ⟨by decide, by decide⟩ ⟨by decide, by decide⟩ rfl rfl ?_
    refine r_aln eMd_count_152 rfl ?_
    refine m_getR eMd_count_153 rfl hM.2.1 (md_s_p hM) ?_
    refine r_bip eMd_count_156 (by decide) ?_
    refine r_ialde (x := J (M + 22) 6) eMd_count_158 (md_s_t hM) (by decide) (by omega) (by omega) rfl ?_
    refine r_iret eMd_count_159 rfl ?_
    (repeat (first | rw [if_pos (by omega)] at hq | rw [if_neg (by omega)] at hq))
    exact hq
  · refine r_tcase (v := 9) (tgt := 160) eMd_count_31 c31 ⟨by decide, by decide⟩ ⟨by decide, by decide⟩ rfl rfl ?_
    refine r_aln eMd_count_160 rfl ?_
    refine r_gete (x := J M 45) eMd_count_161 rfl (by decide) hM.2.1 rfl ?_
    refine r_iret eMd_count_164 rfl ?_
    (repeat (first | rw [if_pos (by omega)] at hq | rw [if_neg (by omega)] at hq))
    exact hq
  · refine r_tcase (v := 10) (tgt := 165) eMd_count_31 c31 ⟨by decide, by decide⟩ ⟨by decide, by decide⟩ rfl rfl ?_
    refine r_aln eMd_count_165 rfl ?_
    refine r_gete (x := J M 2) eMd_count_166 rfl (by decide) hM.2.1 rfl ?_
    refine r_iret eMd_count_169 rfl ?_
    (repeat (first | rw [if_pos (by omega)] at hq | rw [if_neg (by omega)] at hq))
    exact hq
  · refine r_tcase (v := 11) (tgt := 170) eMd_count_31 c31 ⟨by decide, by decide⟩ ⟨by decide, by decide⟩ rfl rfl ?_
    refine r_aln eMd_count_170 rfl ?_
    refine m_getR eMd_count_171 rfl hM.2.1 (md_number_p hM) ?_
    refine r_bip eMd_count_174 (by decide) ?_
    refine r_ialde (x := J (M + 2) 11) eMd_count_176 (md_number_t hM) (by decide) (by omega) (by omega) rfl ?_
    refine r_iret eMd_count_177 rfl ?_
    (repeat (first | rw [if_pos (by omega)] at hq | rw [if_neg (by omega)] at hq))
    exact hq
  · refine r_tcase (v := 12) (tgt := 178) eMd_count_31 c31 ⟨by decide, by decide⟩ ⟨by decide, by decide⟩ rfl rfl ?_
    refine r_iln eMd_count_178 rfl ?_
    refine r_iret eMd_count_179 rfl ?_
    (repeat (first | rw [if_pos (by omega)] at hq | rw [if_neg (by omega)] at hq))
    exact hq
  · refine r_tdef (tgt := 180) eMd_count_31 c31 ⟨by omega, by omega⟩ rfl ?_
    refine r_con eMd_count_180 ?_
    refine r_iret eMd_count_181 rfl ?_
    (repeat (first | rw [if_pos (by omega)] at hq | rw [if_neg (by omega)] at hq))
    exact hq
end MDQ
