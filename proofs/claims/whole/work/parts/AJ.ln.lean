/-! the class's reader: a line, all lines -/
def rl_line (J : Nat → Nat → Int) (X : Nat) (ln a : Int) (y : a_Q) (J' : Nat → Nat → Int) (y' : a_Q) : Prop :=
  (ln = 0 ∧ ∃ r, (r, y') = re_nb (J (X + 2)) (J (X + 1) 6) 4 16 y ∧ J' = m_up J (X + 3) 0 r) ∨
  (ln = 1 ∧ ∃ r, (r, y') = re_nb (J (X + 2)) (J (X + 1) 6) 2 6 y ∧ J' = m_up J (X + 3) 1 r) ∨
  (ln = 2 ∧ ∃ r, (r, y') = re_nb (J (X + 2)) (J (X + 1) 6) 1 2 y ∧ J' = m_up J (X + 3) 2 r) ∨
  (ln = 3 ∧ ∃ r, (r, y') = re_nb (J (X + 2)) (J (X + 1) 6) 1 4 y ∧ J' = m_up J (X + 3) 3 r) ∨
  (ln = 4 ∧ rl_block J X y J' y') ∨ (ln = 5 ∧ rl_spot J X a y J' y') ∨
  (ln = 6 ∧ ∃ r1 r2 y1, (r1, y1) = re_nb (J (X + 2)) (J (X + 1) 6) 0 (J (X + 3) 0 - 1) y ∧ (r2, y') = re_nb (J (X + 2)) (J (X + 1) 6) 1 (J (X + 3) 1) y1 ∧ J' = m_up (m_up J (X + 3) 5 r1) (X + 3) 6 r2) ∨
  (ln = 7 ∧ rl_wind J X a y J' y') ∨ (ln = 8 ∧ rl_order J X a y J' y') ∨ (ln = 9 ∧ rl_pile J X y J' y') ∨ (ln = 10 ∧ rl_job J X a y J' y') ∨
  (ln = 11 ∧ ∃ r, (r, y') = re_nb (J (X + 2)) (J (X + 1) 6) 0 99999 y ∧ J' = m_up J (X + 3) 4 r)
section LN
variable {en : Nat → Nat} {d : Nat} {T : Nat → Option (Nat × Nat)} {J J0 J1 J' : Nat → Nat → Int} {P : Nat → Nat → Option Nat} {L : Nat → Nat → Int64} {z w X A : Nat} {Q : m_Q} {fk fp p b k v x n lo hi a ln : Int} {f : Nat → Int} {y y' : a_Q}
theorem c_Re_readLine (hX : cl_sh en X T P) (hok : re_ok en T J X) (hy : re_yb (J (X + 1) 6) y) (ha : 0 ≤ a ∧ a ≤ 16) (hln : 0 ≤ ln ∧ ln < 12) (hq : ∀ J' y', rl_line J X ln a y J' y' → re_yb (J (X + 1) 6) y' → Q none (T, m_I (re_q J' X y'.1 y'.2.1 y'.2.2.1 y'.2.2.2.1 y'.2.2.2.2.1 y'.2.2.2.2.2), P, L, z, w)) : m_call en (d + 6) mRe_readLine [.ref (X + 1), .int (m_i ln), .int (m_i a)] (T, m_I (re_q J X y.1 y.2.1 y.2.2.1 y.2.2.2.1 y.2.2.2.2.1 y.2.2.2.2.2), P, L, z, w) Q := by
  have hok0 := hok
  obtain ⟨hf, pok, hW, hst, ht, hwt, hss⟩ := hok0
  have k0 := pok.1
  have k1 := pok.2.1
  have h162 : ∀ y1 r1, ln = 6 → (r1, y1) = re_nb (J (X + 2)) (J (X + 1) 6) 0 (J (X + 3) 0 - 1) y → re_yb (J (X + 1) 6) y1 → m_wp en (d + 5) mRe_readLine 162 [some (.ref (X + 1)), some (.int (m_i ln)), some (.int (m_i a))] [] (T, m_I (re_q (m_up J (X + 3) 5 r1) X y1.1 y1.2.1 y1.2.2.1 y1.2.2.2.1 y1.2.2.2.2.1 y1.2.2.2.2.2), P, L, z, w) Q := fun y1 r1 q e1 h1 => by
    have ef : m_up J (X + 3) 5 r1 (X + 2) = J (X + 2) := funext (fun i => m_up_o (by omega))
    have e6 : m_up J (X + 3) 5 r1 (X + 1) 6 = J (X + 1) 6 := m_up_o (by omega)
    refine r_aln eRe_readLine_162 rfl ?_
    refine m_getR eRe_readLine_163 rfl (cl_t hX (i := 1) rfl) (cl_p hX (i := 12) rfl) ?_
    refine r_aln eRe_readLine_166 rfl ?_
    refine r_con eRe_readLine_167 ?_
    refine r_aln eRe_readLine_168 rfl ?_
    refine m_getR eRe_readLine_169 rfl (cl_t hX (i := 1) rfl) (cl_p hX (i := 12) rfl) ?_
    refine r_gete (x := J (X + 3) 1) eRe_readLine_172 rfl (by decide) (cl_t hX (i := 3) rfl) (by rw [re_q_o (by omega), m_up_at, if_neg (by omega)]) ?_
    refine r_vir eRe_readLine_175 rfl rfl rfl (cl_t hX (i := 1) rfl) rfl rfl ?_
    -- call of Re_number at 175: [(.ref (X + 1)), (.int (m_i (1))), (.int (m_i (J (X + 3) 1)))]
    refine c_Re_number hX (by rw [ef, e6]; exact hf) (by rw [e6]; exact h1) (by omega) (by omega) (fun y2 r2 e2 h2 b2 => ?_)
    rw [ef, e6] at e2
    rw [e6] at h2
    show m_wp en _ mRe_readLine 178 [some (.ref (X + 1)), some (.int (m_i (ln))), some (.int (m_i (a)))] [(.int (m_i (r2))), (.ref (X + 3))] (T, m_I ((re_q (m_up J (X + 3) 5 r1) X y2.1 y2.2.1 y2.2.2.1 y2.2.2.2.1 y2.2.2.2.2.1 y2.2.2.2.2.2)), P, L, z, w) Q
    refine r_put eRe_readLine_178 rfl (cl_t hX (i := 3) rfl) (cl_e hX 3) (Or.inl rfl) ?_
    rw [re_up (by omega)]
    refine r_go (tgt := 229) eRe_readLine_181 rfl ?_
    refine r_ret eRe_readLine_229 rfl ?_
    exact hq _ y2 (Or.inr (Or.inr (Or.inr (Or.inr (Or.inr (Or.inr (Or.inl ⟨q, r1, r2, y1, e1, e2, rfl⟩))))))) h2
  refine m_into (by decide) (Nat.le_of_ble_eq_true rfl) rfl ?_
  show m_wp en _ mRe_readLine 0 [some (.ref (X + 1)), some (.int (m_i (ln))), some (.int (m_i (a)))] [] (T, m_I ((re_q J X y.1 y.2.1 y.2.2.1 y.2.2.2.1 y.2.2.2.2.1 y.2.2.2.2.2)), P, L, z, w) Q
  refine r_iln eRe_readLine_0 rfl ?_
  rcases (show (ln) = 0 ∨ (ln) = 1 ∨ (ln) = 2 ∨ (ln) = 3 ∨ (ln) = 4 ∨ (ln) = 5 ∨ (ln) = 6 ∨ (ln) = 7 ∨ (ln) = 8 ∨ (ln) = 9 ∨ (ln) = 10 ∨ ((ln) < 0 ∨ 10 < (ln)) by omega) with c1 | c1 | c1 | c1 | c1 | c1 | c1 | c1 | c1 | c1 | c1 | c1
  · refine r_tcase (v := 0) (tgt := 60) eRe_readLine_1 c1 ⟨by decide, by decide⟩ ⟨by decide, by decide⟩ rfl rfl ?_
    refine r_aln eRe_readLine_60 rfl ?_
    refine m_getR eRe_readLine_61 rfl (cl_t hX (i := 1) rfl) (cl_p hX (i := 12) rfl) ?_
    refine r_aln eRe_readLine_64 rfl ?_
    refine r_con eRe_readLine_65 ?_
    refine r_bip eRe_readLine_66 (by decide) ?_
    refine r_vir eRe_readLine_68 rfl rfl rfl (cl_t hX (i := 1) rfl) rfl rfl ?_
    refine c_Re_number hX hf hy (by omega) (by omega) (fun y1 r1 e1 h1 b1 => ?_)
    show m_wp en _ mRe_readLine 71 [some (.ref (X + 1)), some (.int (m_i (ln))), some (.int (m_i (a)))] [(.int (m_i (r1))), (.ref (X + 3))] (T, m_I (((re_q J X y1.1 y1.2.1 y1.2.2.1 y1.2.2.2.1 y1.2.2.2.2.1 y1.2.2.2.2.2))), P, L, z, w) Q
    refine r_put eRe_readLine_71 rfl (cl_t hX (i := 3) rfl) (cl_e hX 3) (Or.inl rfl) ?_
    rw [re_up (by omega)]
    refine r_go (tgt := 229) eRe_readLine_74 rfl ?_
    refine r_ret eRe_readLine_229 rfl ?_
    first | exact hq _ y1 (Or.inl ⟨c1, r1, e1, rfl⟩) h1 | exact hq _ y1 (Or.inr (Or.inl ⟨c1, r1, e1, rfl⟩)) h1 | exact hq _ y1 (Or.inr (Or.inr (Or.inl ⟨c1, r1, e1, rfl⟩))) h1 | exact hq _ y1 (Or.inr (Or.inr (Or.inr (Or.inl ⟨c1, r1, e1, rfl⟩)))) h1 | exact hq _ y1 (Or.inr (Or.inr (Or.inr (Or.inr (Or.inl ⟨c1, e1⟩))))) h1 | exact hq _ y1 (Or.inr (Or.inr (Or.inr (Or.inr (Or.inr (Or.inl ⟨c1, e1⟩)))))) h1 | exact hq _ y1 (Or.inr (Or.inr (Or.inr (Or.inr (Or.inr (Or.inr (Or.inr (Or.inl ⟨c1, e1⟩)))))))) h1 | exact hq _ y1 (Or.inr (Or.inr (Or.inr (Or.inr (Or.inr (Or.inr (Or.inr (Or.inr (Or.inl ⟨c1, e1⟩))))))))) h1 | exact hq _ y1 (Or.inr (Or.inr (Or.inr (Or.inr (Or.inr (Or.inr (Or.inr (Or.inr (Or.inr (Or.inl ⟨c1, e1⟩)))))))))) h1 | exact hq _ y1 (Or.inr (Or.inr (Or.inr (Or.inr (Or.inr (Or.inr (Or.inr (Or.inr (Or.inr (Or.inr (Or.inl ⟨c1, e1⟩))))))))))) h1 | exact hq _ y1 (Or.inr (Or.inr (Or.inr (Or.inr (Or.inr (Or.inr (Or.inr (Or.inr (Or.inr (Or.inr (Or.inr ⟨by omega, r1, e1, rfl⟩))))))))))) h1
  · refine r_tcase (v := 1) (tgt := 77) eRe_readLine_1 c1 ⟨by decide, by decide⟩ ⟨by decide, by decide⟩ rfl rfl ?_
    refine r_aln eRe_readLine_77 rfl ?_
    refine m_getR eRe_readLine_78 rfl (cl_t hX (i := 1) rfl) (cl_p hX (i := 12) rfl) ?_
    refine r_aln eRe_readLine_81 rfl ?_
    refine r_con eRe_readLine_82 ?_
    refine r_bip eRe_readLine_83 (by decide) ?_
    refine r_vir eRe_readLine_85 rfl rfl rfl (cl_t hX (i := 1) rfl) rfl rfl ?_
    refine c_Re_number hX hf hy (by omega) (by omega) (fun y1 r1 e1 h1 b1 => ?_)
    show m_wp en _ mRe_readLine 88 [some (.ref (X + 1)), some (.int (m_i (ln))), some (.int (m_i (a)))] [(.int (m_i (r1))), (.ref (X + 3))] (T, m_I (((re_q J X y1.1 y1.2.1 y1.2.2.1 y1.2.2.2.1 y1.2.2.2.2.1 y1.2.2.2.2.2))), P, L, z, w) Q
    refine r_put eRe_readLine_88 rfl (cl_t hX (i := 3) rfl) (cl_e hX 3) (Or.inl rfl) ?_
    rw [re_up (by omega)]
    refine r_go (tgt := 229) eRe_readLine_91 rfl ?_
    refine r_ret eRe_readLine_229 rfl ?_
    first | exact hq _ y1 (Or.inl ⟨c1, r1, e1, rfl⟩) h1 | exact hq _ y1 (Or.inr (Or.inl ⟨c1, r1, e1, rfl⟩)) h1 | exact hq _ y1 (Or.inr (Or.inr (Or.inl ⟨c1, r1, e1, rfl⟩))) h1 | exact hq _ y1 (Or.inr (Or.inr (Or.inr (Or.inl ⟨c1, r1, e1, rfl⟩)))) h1 | exact hq _ y1 (Or.inr (Or.inr (Or.inr (Or.inr (Or.inl ⟨c1, e1⟩))))) h1 | exact hq _ y1 (Or.inr (Or.inr (Or.inr (Or.inr (Or.inr (Or.inl ⟨c1, e1⟩)))))) h1 | exact hq _ y1 (Or.inr (Or.inr (Or.inr (Or.inr (Or.inr (Or.inr (Or.inr (Or.inl ⟨c1, e1⟩)))))))) h1 | exact hq _ y1 (Or.inr (Or.inr (Or.inr (Or.inr (Or.inr (Or.inr (Or.inr (Or.inr (Or.inl ⟨c1, e1⟩))))))))) h1 | exact hq _ y1 (Or.inr (Or.inr (Or.inr (Or.inr (Or.inr (Or.inr (Or.inr (Or.inr (Or.inr (Or.inl ⟨c1, e1⟩)))))))))) h1 | exact hq _ y1 (Or.inr (Or.inr (Or.inr (Or.inr (Or.inr (Or.inr (Or.inr (Or.inr (Or.inr (Or.inr (Or.inl ⟨c1, e1⟩))))))))))) h1 | exact hq _ y1 (Or.inr (Or.inr (Or.inr (Or.inr (Or.inr (Or.inr (Or.inr (Or.inr (Or.inr (Or.inr (Or.inr ⟨by omega, r1, e1, rfl⟩))))))))))) h1
  · refine r_tcase (v := 2) (tgt := 94) eRe_readLine_1 c1 ⟨by decide, by decide⟩ ⟨by decide, by decide⟩ rfl rfl ?_
    refine r_aln eRe_readLine_94 rfl ?_
    refine m_getR eRe_readLine_95 rfl (cl_t hX (i := 1) rfl) (cl_p hX (i := 12) rfl) ?_
    refine r_aln eRe_readLine_98 rfl ?_
    refine r_con eRe_readLine_99 ?_
    refine r_con eRe_readLine_100 ?_
    refine r_vir eRe_readLine_101 rfl rfl rfl (cl_t hX (i := 1) rfl) rfl rfl ?_
    refine c_Re_number hX hf hy (by omega) (by omega) (fun y1 r1 e1 h1 b1 => ?_)
    show m_wp en _ mRe_readLine 104 [some (.ref (X + 1)), some (.int (m_i (ln))), some (.int (m_i (a)))] [(.int (m_i (r1))), (.ref (X + 3))] (T, m_I (((re_q J X y1.1 y1.2.1 y1.2.2.1 y1.2.2.2.1 y1.2.2.2.2.1 y1.2.2.2.2.2))), P, L, z, w) Q
    refine r_put eRe_readLine_104 rfl (cl_t hX (i := 3) rfl) (cl_e hX 3) (Or.inl rfl) ?_
    rw [re_up (by omega)]
    refine r_go (tgt := 229) eRe_readLine_107 rfl ?_
    refine r_ret eRe_readLine_229 rfl ?_
    first | exact hq _ y1 (Or.inl ⟨c1, r1, e1, rfl⟩) h1 | exact hq _ y1 (Or.inr (Or.inl ⟨c1, r1, e1, rfl⟩)) h1 | exact hq _ y1 (Or.inr (Or.inr (Or.inl ⟨c1, r1, e1, rfl⟩))) h1 | exact hq _ y1 (Or.inr (Or.inr (Or.inr (Or.inl ⟨c1, r1, e1, rfl⟩)))) h1 | exact hq _ y1 (Or.inr (Or.inr (Or.inr (Or.inr (Or.inl ⟨c1, e1⟩))))) h1 | exact hq _ y1 (Or.inr (Or.inr (Or.inr (Or.inr (Or.inr (Or.inl ⟨c1, e1⟩)))))) h1 | exact hq _ y1 (Or.inr (Or.inr (Or.inr (Or.inr (Or.inr (Or.inr (Or.inr (Or.inl ⟨c1, e1⟩)))))))) h1 | exact hq _ y1 (Or.inr (Or.inr (Or.inr (Or.inr (Or.inr (Or.inr (Or.inr (Or.inr (Or.inl ⟨c1, e1⟩))))))))) h1 | exact hq _ y1 (Or.inr (Or.inr (Or.inr (Or.inr (Or.inr (Or.inr (Or.inr (Or.inr (Or.inr (Or.inl ⟨c1, e1⟩)))))))))) h1 | exact hq _ y1 (Or.inr (Or.inr (Or.inr (Or.inr (Or.inr (Or.inr (Or.inr (Or.inr (Or.inr (Or.inr (Or.inl ⟨c1, e1⟩))))))))))) h1 | exact hq _ y1 (Or.inr (Or.inr (Or.inr (Or.inr (Or.inr (Or.inr (Or.inr (Or.inr (Or.inr (Or.inr (Or.inr ⟨by omega, r1, e1, rfl⟩))))))))))) h1
  · refine r_tcase (v := 3) (tgt := 110) eRe_readLine_1 c1 ⟨by decide, by decide⟩ ⟨by decide, by decide⟩ rfl rfl ?_
    refine r_aln eRe_readLine_110 rfl ?_
    refine m_getR eRe_readLine_111 rfl (cl_t hX (i := 1) rfl) (cl_p hX (i := 12) rfl) ?_
    refine r_aln eRe_readLine_114 rfl ?_
    refine r_con eRe_readLine_115 ?_
    refine r_con eRe_readLine_116 ?_
    refine r_vir eRe_readLine_117 rfl rfl rfl (cl_t hX (i := 1) rfl) rfl rfl ?_
    refine c_Re_number hX hf hy (by omega) (by omega) (fun y1 r1 e1 h1 b1 => ?_)
    show m_wp en _ mRe_readLine 120 [some (.ref (X + 1)), some (.int (m_i (ln))), some (.int (m_i (a)))] [(.int (m_i (r1))), (.ref (X + 3))] (T, m_I (((re_q J X y1.1 y1.2.1 y1.2.2.1 y1.2.2.2.1 y1.2.2.2.2.1 y1.2.2.2.2.2))), P, L, z, w) Q
    refine r_put eRe_readLine_120 rfl (cl_t hX (i := 3) rfl) (cl_e hX 3) (Or.inl rfl) ?_
    rw [re_up (by omega)]
    refine r_go (tgt := 229) eRe_readLine_123 rfl ?_
    refine r_ret eRe_readLine_229 rfl ?_
    first | exact hq _ y1 (Or.inl ⟨c1, r1, e1, rfl⟩) h1 | exact hq _ y1 (Or.inr (Or.inl ⟨c1, r1, e1, rfl⟩)) h1 | exact hq _ y1 (Or.inr (Or.inr (Or.inl ⟨c1, r1, e1, rfl⟩))) h1 | exact hq _ y1 (Or.inr (Or.inr (Or.inr (Or.inl ⟨c1, r1, e1, rfl⟩)))) h1 | exact hq _ y1 (Or.inr (Or.inr (Or.inr (Or.inr (Or.inl ⟨c1, e1⟩))))) h1 | exact hq _ y1 (Or.inr (Or.inr (Or.inr (Or.inr (Or.inr (Or.inl ⟨c1, e1⟩)))))) h1 | exact hq _ y1 (Or.inr (Or.inr (Or.inr (Or.inr (Or.inr (Or.inr (Or.inr (Or.inl ⟨c1, e1⟩)))))))) h1 | exact hq _ y1 (Or.inr (Or.inr (Or.inr (Or.inr (Or.inr (Or.inr (Or.inr (Or.inr (Or.inl ⟨c1, e1⟩))))))))) h1 | exact hq _ y1 (Or.inr (Or.inr (Or.inr (Or.inr (Or.inr (Or.inr (Or.inr (Or.inr (Or.inr (Or.inl ⟨c1, e1⟩)))))))))) h1 | exact hq _ y1 (Or.inr (Or.inr (Or.inr (Or.inr (Or.inr (Or.inr (Or.inr (Or.inr (Or.inr (Or.inr (Or.inl ⟨c1, e1⟩))))))))))) h1 | exact hq _ y1 (Or.inr (Or.inr (Or.inr (Or.inr (Or.inr (Or.inr (Or.inr (Or.inr (Or.inr (Or.inr (Or.inr ⟨by omega, r1, e1, rfl⟩))))))))))) h1
  · refine r_tcase (v := 4) (tgt := 126) eRe_readLine_1 c1 ⟨by decide, by decide⟩ ⟨by decide, by decide⟩ rfl rfl ?_
    refine r_aln eRe_readLine_126 rfl ?_
    refine r_vir eRe_readLine_127 rfl rfl rfl (cl_t hX (i := 1) rfl) rfl rfl ?_
    refine c_Re_readBlock hX hok hy (fun J1 y1 e1 h1 => ?_)
    show m_wp en _ mRe_readLine 130 [some (.ref (X + 1)), some (.int (m_i (ln))), some (.int (m_i (a)))] [] (T, m_I (((re_q J1 X y1.1 y1.2.1 y1.2.2.1 y1.2.2.2.1 y1.2.2.2.2.1 y1.2.2.2.2.2))), P, L, z, w) Q
    refine r_go (tgt := 229) eRe_readLine_130 rfl ?_
    refine r_ret eRe_readLine_229 rfl ?_
    first | exact hq _ y1 (Or.inl ⟨c1, r1, e1, rfl⟩) h1 | exact hq _ y1 (Or.inr (Or.inl ⟨c1, r1, e1, rfl⟩)) h1 | exact hq _ y1 (Or.inr (Or.inr (Or.inl ⟨c1, r1, e1, rfl⟩))) h1 | exact hq _ y1 (Or.inr (Or.inr (Or.inr (Or.inl ⟨c1, r1, e1, rfl⟩)))) h1 | exact hq _ y1 (Or.inr (Or.inr (Or.inr (Or.inr (Or.inl ⟨c1, e1⟩))))) h1 | exact hq _ y1 (Or.inr (Or.inr (Or.inr (Or.inr (Or.inr (Or.inl ⟨c1, e1⟩)))))) h1 | exact hq _ y1 (Or.inr (Or.inr (Or.inr (Or.inr (Or.inr (Or.inr (Or.inr (Or.inl ⟨c1, e1⟩)))))))) h1 | exact hq _ y1 (Or.inr (Or.inr (Or.inr (Or.inr (Or.inr (Or.inr (Or.inr (Or.inr (Or.inl ⟨c1, e1⟩))))))))) h1 | exact hq _ y1 (Or.inr (Or.inr (Or.inr (Or.inr (Or.inr (Or.inr (Or.inr (Or.inr (Or.inr (Or.inl ⟨c1, e1⟩)))))))))) h1 | exact hq _ y1 (Or.inr (Or.inr (Or.inr (Or.inr (Or.inr (Or.inr (Or.inr (Or.inr (Or.inr (Or.inr (Or.inl ⟨c1, e1⟩))))))))))) h1 | exact hq _ y1 (Or.inr (Or.inr (Or.inr (Or.inr (Or.inr (Or.inr (Or.inr (Or.inr (Or.inr (Or.inr (Or.inr ⟨by omega, r1, e1, rfl⟩))))))))))) h1
  · refine r_tcase (v := 5) (tgt := 133) eRe_readLine_1 c1 ⟨by decide, by decide⟩ ⟨by decide, by decide⟩ rfl rfl ?_
    refine r_aln eRe_readLine_133 rfl ?_
    refine r_iln eRe_readLine_134 rfl ?_
    refine r_vir eRe_readLine_135 rfl rfl rfl (cl_t hX (i := 1) rfl) rfl rfl ?_
    refine c_Re_readSpot hX hok hy ha (fun J1 y1 e1 h1 => ?_)
    show m_wp en _ mRe_readLine 138 [some (.ref (X + 1)), some (.int (m_i (ln))), some (.int (m_i (a)))] [] (T, m_I (((re_q J1 X y1.1 y1.2.1 y1.2.2.1 y1.2.2.2.1 y1.2.2.2.2.1 y1.2.2.2.2.2))), P, L, z, w) Q
    refine r_go (tgt := 229) eRe_readLine_138 rfl ?_
    refine r_ret eRe_readLine_229 rfl ?_
    first | exact hq _ y1 (Or.inl ⟨c1, r1, e1, rfl⟩) h1 | exact hq _ y1 (Or.inr (Or.inl ⟨c1, r1, e1, rfl⟩)) h1 | exact hq _ y1 (Or.inr (Or.inr (Or.inl ⟨c1, r1, e1, rfl⟩))) h1 | exact hq _ y1 (Or.inr (Or.inr (Or.inr (Or.inl ⟨c1, r1, e1, rfl⟩)))) h1 | exact hq _ y1 (Or.inr (Or.inr (Or.inr (Or.inr (Or.inl ⟨c1, e1⟩))))) h1 | exact hq _ y1 (Or.inr (Or.inr (Or.inr (Or.inr (Or.inr (Or.inl ⟨c1, e1⟩)))))) h1 | exact hq _ y1 (Or.inr (Or.inr (Or.inr (Or.inr (Or.inr (Or.inr (Or.inr (Or.inl ⟨c1, e1⟩)))))))) h1 | exact hq _ y1 (Or.inr (Or.inr (Or.inr (Or.inr (Or.inr (Or.inr (Or.inr (Or.inr (Or.inl ⟨c1, e1⟩))))))))) h1 | exact hq _ y1 (Or.inr (Or.inr (Or.inr (Or.inr (Or.inr (Or.inr (Or.inr (Or.inr (Or.inr (Or.inl ⟨c1, e1⟩)))))))))) h1 | exact hq _ y1 (Or.inr (Or.inr (Or.inr (Or.inr (Or.inr (Or.inr (Or.inr (Or.inr (Or.inr (Or.inr (Or.inl ⟨c1, e1⟩))))))))))) h1 | exact hq _ y1 (Or.inr (Or.inr (Or.inr (Or.inr (Or.inr (Or.inr (Or.inr (Or.inr (Or.inr (Or.inr (Or.inr ⟨by omega, r1, e1, rfl⟩))))))))))) h1
  · refine r_tcase (v := 6) (tgt := 141) eRe_readLine_1 c1 ⟨by decide, by decide⟩ ⟨by decide, by decide⟩ rfl rfl ?_
    refine r_aln eRe_readLine_141 rfl ?_
    refine m_getR eRe_readLine_142 rfl (cl_t hX (i := 1) rfl) (cl_p hX (i := 12) rfl) ?_
    refine r_aln eRe_readLine_145 rfl ?_
    refine r_con eRe_readLine_146 ?_
    refine r_aln eRe_readLine_147 rfl ?_
    refine m_getR eRe_readLine_148 rfl (cl_t hX (i := 1) rfl) (cl_p hX (i := 12) rfl) ?_
    refine r_gete (x := J (X + 3) 0) eRe_readLine_151 rfl (by decide) (cl_t hX (i := 3) rfl) (by rw [re_q_o (by omega)]) ?_
    refine r_con eRe_readLine_154 ?_
    refine r_sub eRe_readLine_155 ?_
    refine r_vir eRe_readLine_156 rfl rfl rfl (cl_t hX (i := 1) rfl) rfl rfl ?_
    refine c_Re_number hX hf hy (by omega) (by omega) (fun y1 r1 e1 h1 b1 => ?_)
    show m_wp en _ mRe_readLine 159 [some (.ref (X + 1)), some (.int (m_i (ln))), some (.int (m_i (a)))] [(.int (m_i (r1))), (.ref (X + 3))] (T, m_I (((re_q J X y1.1 y1.2.1 y1.2.2.1 y1.2.2.2.1 y1.2.2.2.2.1 y1.2.2.2.2.2))), P, L, z, w) Q
    refine r_put eRe_readLine_159 rfl (cl_t hX (i := 3) rfl) (cl_e hX 3) (Or.inl rfl) ?_
    rw [re_up (by omega)]
    exact h162 y1 r1 c1 e1 h1
  · refine r_tcase (v := 7) (tgt := 184) eRe_readLine_1 c1 ⟨by decide, by decide⟩ ⟨by decide, by decide⟩ rfl rfl ?_
    refine r_aln eRe_readLine_184 rfl ?_
    refine r_iln eRe_readLine_185 rfl ?_
    refine r_vir eRe_readLine_186 rfl rfl rfl (cl_t hX (i := 1) rfl) rfl rfl ?_
    refine c_Re_readWind hX hok hy ha (fun J1 y1 e1 h1 => ?_)
    show m_wp en _ mRe_readLine 189 [some (.ref (X + 1)), some (.int (m_i (ln))), some (.int (m_i (a)))] [] (T, m_I (((re_q J1 X y1.1 y1.2.1 y1.2.2.1 y1.2.2.2.1 y1.2.2.2.2.1 y1.2.2.2.2.2))), P, L, z, w) Q
    refine r_go (tgt := 229) eRe_readLine_189 rfl ?_
    refine r_ret eRe_readLine_229 rfl ?_
    first | exact hq _ y1 (Or.inl ⟨c1, r1, e1, rfl⟩) h1 | exact hq _ y1 (Or.inr (Or.inl ⟨c1, r1, e1, rfl⟩)) h1 | exact hq _ y1 (Or.inr (Or.inr (Or.inl ⟨c1, r1, e1, rfl⟩))) h1 | exact hq _ y1 (Or.inr (Or.inr (Or.inr (Or.inl ⟨c1, r1, e1, rfl⟩)))) h1 | exact hq _ y1 (Or.inr (Or.inr (Or.inr (Or.inr (Or.inl ⟨c1, e1⟩))))) h1 | exact hq _ y1 (Or.inr (Or.inr (Or.inr (Or.inr (Or.inr (Or.inl ⟨c1, e1⟩)))))) h1 | exact hq _ y1 (Or.inr (Or.inr (Or.inr (Or.inr (Or.inr (Or.inr (Or.inr (Or.inl ⟨c1, e1⟩)))))))) h1 | exact hq _ y1 (Or.inr (Or.inr (Or.inr (Or.inr (Or.inr (Or.inr (Or.inr (Or.inr (Or.inl ⟨c1, e1⟩))))))))) h1 | exact hq _ y1 (Or.inr (Or.inr (Or.inr (Or.inr (Or.inr (Or.inr (Or.inr (Or.inr (Or.inr (Or.inl ⟨c1, e1⟩)))))))))) h1 | exact hq _ y1 (Or.inr (Or.inr (Or.inr (Or.inr (Or.inr (Or.inr (Or.inr (Or.inr (Or.inr (Or.inr (Or.inl ⟨c1, e1⟩))))))))))) h1 | exact hq _ y1 (Or.inr (Or.inr (Or.inr (Or.inr (Or.inr (Or.inr (Or.inr (Or.inr (Or.inr (Or.inr (Or.inr ⟨by omega, r1, e1, rfl⟩))))))))))) h1
  · refine r_tcase (v := 8) (tgt := 192) eRe_readLine_1 c1 ⟨by decide, by decide⟩ ⟨by decide, by decide⟩ rfl rfl ?_
    refine r_aln eRe_readLine_192 rfl ?_
    refine r_iln eRe_readLine_193 rfl ?_
    refine r_vir eRe_readLine_194 rfl rfl rfl (cl_t hX (i := 1) rfl) rfl rfl ?_
    refine c_Re_readOrder hX hok hy ha (fun J1 y1 e1 h1 => ?_)
    show m_wp en _ mRe_readLine 197 [some (.ref (X + 1)), some (.int (m_i (ln))), some (.int (m_i (a)))] [] (T, m_I (((re_q J1 X y1.1 y1.2.1 y1.2.2.1 y1.2.2.2.1 y1.2.2.2.2.1 y1.2.2.2.2.2))), P, L, z, w) Q
    refine r_go (tgt := 229) eRe_readLine_197 rfl ?_
    refine r_ret eRe_readLine_229 rfl ?_
    first | exact hq _ y1 (Or.inl ⟨c1, r1, e1, rfl⟩) h1 | exact hq _ y1 (Or.inr (Or.inl ⟨c1, r1, e1, rfl⟩)) h1 | exact hq _ y1 (Or.inr (Or.inr (Or.inl ⟨c1, r1, e1, rfl⟩))) h1 | exact hq _ y1 (Or.inr (Or.inr (Or.inr (Or.inl ⟨c1, r1, e1, rfl⟩)))) h1 | exact hq _ y1 (Or.inr (Or.inr (Or.inr (Or.inr (Or.inl ⟨c1, e1⟩))))) h1 | exact hq _ y1 (Or.inr (Or.inr (Or.inr (Or.inr (Or.inr (Or.inl ⟨c1, e1⟩)))))) h1 | exact hq _ y1 (Or.inr (Or.inr (Or.inr (Or.inr (Or.inr (Or.inr (Or.inr (Or.inl ⟨c1, e1⟩)))))))) h1 | exact hq _ y1 (Or.inr (Or.inr (Or.inr (Or.inr (Or.inr (Or.inr (Or.inr (Or.inr (Or.inl ⟨c1, e1⟩))))))))) h1 | exact hq _ y1 (Or.inr (Or.inr (Or.inr (Or.inr (Or.inr (Or.inr (Or.inr (Or.inr (Or.inr (Or.inl ⟨c1, e1⟩)))))))))) h1 | exact hq _ y1 (Or.inr (Or.inr (Or.inr (Or.inr (Or.inr (Or.inr (Or.inr (Or.inr (Or.inr (Or.inr (Or.inl ⟨c1, e1⟩))))))))))) h1 | exact hq _ y1 (Or.inr (Or.inr (Or.inr (Or.inr (Or.inr (Or.inr (Or.inr (Or.inr (Or.inr (Or.inr (Or.inr ⟨by omega, r1, e1, rfl⟩))))))))))) h1
  · refine r_tcase (v := 9) (tgt := 200) eRe_readLine_1 c1 ⟨by decide, by decide⟩ ⟨by decide, by decide⟩ rfl rfl ?_
    refine r_aln eRe_readLine_200 rfl ?_
    refine r_vir eRe_readLine_201 rfl rfl rfl (cl_t hX (i := 1) rfl) rfl rfl ?_
    refine c_Re_readPile hX hok hy (fun J1 y1 e1 h1 => ?_)
    show m_wp en _ mRe_readLine 204 [some (.ref (X + 1)), some (.int (m_i (ln))), some (.int (m_i (a)))] [] (T, m_I (((re_q J1 X y1.1 y1.2.1 y1.2.2.1 y1.2.2.2.1 y1.2.2.2.2.1 y1.2.2.2.2.2))), P, L, z, w) Q
    refine r_go (tgt := 229) eRe_readLine_204 rfl ?_
    refine r_ret eRe_readLine_229 rfl ?_
    first | exact hq _ y1 (Or.inl ⟨c1, r1, e1, rfl⟩) h1 | exact hq _ y1 (Or.inr (Or.inl ⟨c1, r1, e1, rfl⟩)) h1 | exact hq _ y1 (Or.inr (Or.inr (Or.inl ⟨c1, r1, e1, rfl⟩))) h1 | exact hq _ y1 (Or.inr (Or.inr (Or.inr (Or.inl ⟨c1, r1, e1, rfl⟩)))) h1 | exact hq _ y1 (Or.inr (Or.inr (Or.inr (Or.inr (Or.inl ⟨c1, e1⟩))))) h1 | exact hq _ y1 (Or.inr (Or.inr (Or.inr (Or.inr (Or.inr (Or.inl ⟨c1, e1⟩)))))) h1 | exact hq _ y1 (Or.inr (Or.inr (Or.inr (Or.inr (Or.inr (Or.inr (Or.inr (Or.inl ⟨c1, e1⟩)))))))) h1 | exact hq _ y1 (Or.inr (Or.inr (Or.inr (Or.inr (Or.inr (Or.inr (Or.inr (Or.inr (Or.inl ⟨c1, e1⟩))))))))) h1 | exact hq _ y1 (Or.inr (Or.inr (Or.inr (Or.inr (Or.inr (Or.inr (Or.inr (Or.inr (Or.inr (Or.inl ⟨c1, e1⟩)))))))))) h1 | exact hq _ y1 (Or.inr (Or.inr (Or.inr (Or.inr (Or.inr (Or.inr (Or.inr (Or.inr (Or.inr (Or.inr (Or.inl ⟨c1, e1⟩))))))))))) h1 | exact hq _ y1 (Or.inr (Or.inr (Or.inr (Or.inr (Or.inr (Or.inr (Or.inr (Or.inr (Or.inr (Or.inr (Or.inr ⟨by omega, r1, e1, rfl⟩))))))))))) h1
  · refine r_tcase (v := 10) (tgt := 207) eRe_readLine_1 c1 ⟨by decide, by decide⟩ ⟨by decide, by decide⟩ rfl rfl ?_
    refine r_aln eRe_readLine_207 rfl ?_
    refine r_iln eRe_readLine_208 rfl ?_
    refine r_vir eRe_readLine_209 rfl rfl rfl (cl_t hX (i := 1) rfl) rfl rfl ?_
    refine c_Re_readJob hX hok hy ha (fun J1 y1 e1 h1 => ?_)
    show m_wp en _ mRe_readLine 212 [some (.ref (X + 1)), some (.int (m_i (ln))), some (.int (m_i (a)))] [] (T, m_I (((re_q J1 X y1.1 y1.2.1 y1.2.2.1 y1.2.2.2.1 y1.2.2.2.2.1 y1.2.2.2.2.2))), P, L, z, w) Q
    refine r_go (tgt := 229) eRe_readLine_212 rfl ?_
    refine r_ret eRe_readLine_229 rfl ?_
    first | exact hq _ y1 (Or.inl ⟨c1, r1, e1, rfl⟩) h1 | exact hq _ y1 (Or.inr (Or.inl ⟨c1, r1, e1, rfl⟩)) h1 | exact hq _ y1 (Or.inr (Or.inr (Or.inl ⟨c1, r1, e1, rfl⟩))) h1 | exact hq _ y1 (Or.inr (Or.inr (Or.inr (Or.inl ⟨c1, r1, e1, rfl⟩)))) h1 | exact hq _ y1 (Or.inr (Or.inr (Or.inr (Or.inr (Or.inl ⟨c1, e1⟩))))) h1 | exact hq _ y1 (Or.inr (Or.inr (Or.inr (Or.inr (Or.inr (Or.inl ⟨c1, e1⟩)))))) h1 | exact hq _ y1 (Or.inr (Or.inr (Or.inr (Or.inr (Or.inr (Or.inr (Or.inr (Or.inl ⟨c1, e1⟩)))))))) h1 | exact hq _ y1 (Or.inr (Or.inr (Or.inr (Or.inr (Or.inr (Or.inr (Or.inr (Or.inr (Or.inl ⟨c1, e1⟩))))))))) h1 | exact hq _ y1 (Or.inr (Or.inr (Or.inr (Or.inr (Or.inr (Or.inr (Or.inr (Or.inr (Or.inr (Or.inl ⟨c1, e1⟩)))))))))) h1 | exact hq _ y1 (Or.inr (Or.inr (Or.inr (Or.inr (Or.inr (Or.inr (Or.inr (Or.inr (Or.inr (Or.inr (Or.inl ⟨c1, e1⟩))))))))))) h1 | exact hq _ y1 (Or.inr (Or.inr (Or.inr (Or.inr (Or.inr (Or.inr (Or.inr (Or.inr (Or.inr (Or.inr (Or.inr ⟨by omega, r1, e1, rfl⟩))))))))))) h1
  · refine r_tdef (tgt := 215) eRe_readLine_1 c1 ⟨by omega, by omega⟩ rfl ?_
    refine r_aln eRe_readLine_215 rfl ?_
    refine m_getR eRe_readLine_216 rfl (cl_t hX (i := 1) rfl) (cl_p hX (i := 12) rfl) ?_
    refine r_aln eRe_readLine_219 rfl ?_
    refine r_con eRe_readLine_220 ?_
    refine r_ldc (x := 99999) eRe_readLine_221 rfl (by decide) ?_
    refine r_vir eRe_readLine_223 rfl rfl rfl (cl_t hX (i := 1) rfl) rfl rfl ?_
    refine c_Re_number hX hf hy (by omega) (by omega) (fun y1 r1 e1 h1 b1 => ?_)
    show m_wp en _ mRe_readLine 226 [some (.ref (X + 1)), some (.int (m_i (ln))), some (.int (m_i (a)))] [(.int (m_i (r1))), (.ref (X + 3))] (T, m_I (((re_q J X y1.1 y1.2.1 y1.2.2.1 y1.2.2.2.1 y1.2.2.2.2.1 y1.2.2.2.2.2))), P, L, z, w) Q
    refine r_put eRe_readLine_226 rfl (cl_t hX (i := 3) rfl) (cl_e hX 3) (Or.inl rfl) ?_
    rw [re_up (by omega)]
    refine r_ret eRe_readLine_229 rfl ?_
    first | exact hq _ y1 (Or.inl ⟨c1, r1, e1, rfl⟩) h1 | exact hq _ y1 (Or.inr (Or.inl ⟨c1, r1, e1, rfl⟩)) h1 | exact hq _ y1 (Or.inr (Or.inr (Or.inl ⟨c1, r1, e1, rfl⟩))) h1 | exact hq _ y1 (Or.inr (Or.inr (Or.inr (Or.inl ⟨c1, r1, e1, rfl⟩)))) h1 | exact hq _ y1 (Or.inr (Or.inr (Or.inr (Or.inr (Or.inl ⟨c1, e1⟩))))) h1 | exact hq _ y1 (Or.inr (Or.inr (Or.inr (Or.inr (Or.inr (Or.inl ⟨c1, e1⟩)))))) h1 | exact hq _ y1 (Or.inr (Or.inr (Or.inr (Or.inr (Or.inr (Or.inr (Or.inr (Or.inl ⟨c1, e1⟩)))))))) h1 | exact hq _ y1 (Or.inr (Or.inr (Or.inr (Or.inr (Or.inr (Or.inr (Or.inr (Or.inr (Or.inl ⟨c1, e1⟩))))))))) h1 | exact hq _ y1 (Or.inr (Or.inr (Or.inr (Or.inr (Or.inr (Or.inr (Or.inr (Or.inr (Or.inr (Or.inl ⟨c1, e1⟩)))))))))) h1 | exact hq _ y1 (Or.inr (Or.inr (Or.inr (Or.inr (Or.inr (Or.inr (Or.inr (Or.inr (Or.inr (Or.inr (Or.inl ⟨c1, e1⟩))))))))))) h1 | exact hq _ y1 (Or.inr (Or.inr (Or.inr (Or.inr (Or.inr (Or.inr (Or.inr (Or.inr (Or.inr (Or.inr (Or.inr ⟨by omega, r1, e1, rfl⟩))))))))))) h1
/-- bounds of what stands in a plan -/
def pl_bd (k i : Nat) (v : Int) : Prop := (k = 0 → i = 0 → 4 ≤ v ∧ v ≤ 16) ∧ (k = 0 → i = 1 → 2 ≤ v ∧ v ≤ 6) ∧ (k = 0 → i = 2 → 1 ≤ v ∧ v ≤ 2) ∧ (k = 0 → i = 3 → 1 ≤ v ∧ v ≤ 4) ∧ (k = 1 ∨ k = 2 → 0 ≤ v ∧ v ≤ 6) ∧ (k = 3 ∨ k = 6 ∨ k = 8 → -2147483648 ≤ v ∧ v < 2147483648) ∧ (k = 4 ∨ k = 10 ∨ k = 11 → 0 ≤ v ∧ v < 16) ∧ (k = 5 → 0 ≤ v ∧ v ≤ 6) ∧ (k = 7 → -100 ≤ v ∧ v ≤ 100) ∧ (k = 9 → 0 ≤ v ∧ v ≤ 30) ∧ (k = 12 → i = 5 → 0 ≤ v ∧ v ≤ 6) ∧ (k = 12 → i = 7 → 0 ≤ v ∧ v ≤ 8) ∧ (k = 12 → i = 8 → 0 ≤ v ∧ v ≤ 16) ∧ (k = 12 → i = 10 → 0 ≤ v ∧ v ≤ 3)
theorem pl_ok_up {k i : Nat} (h : pl_ok J A) (hk : k ≤ 12) (hb : pl_bd k i v) : pl_ok (m_up J (A + k) i v) A := by
  obtain ⟨h0, h1, h2, h3, h4, h5, h6, h7, h8, h9, h10, h11, h12⟩ := h
  obtain ⟨b0, b1, b2, b3, b4, b5, b6, b7, b8, b9, b10, b11, b12, b13⟩ := hb
  have val : ∀ c j, (m_up J (A + k) i v c j = v ∧ c = A + k ∧ j = i) ∨ (m_up J (A + k) i v c j = J c j ∧ ¬ (c = A + k ∧ j = i)) := fun c j => by
    rw [m_up_at]
    by_cases q : c = A + k ∧ j = i
    · rw [if_pos q]; exact Or.inl ⟨rfl, q⟩
    · rw [if_neg q]; exact Or.inr ⟨rfl, q⟩
  unfold m_in at h9 h10 h11
  refine ⟨?_, ?_, ?_, ?_, ?_, ?_, ?_, ?_, fun j hj => ⟨?_, ?_⟩, fun j hj => ⟨?_, ?_, ?_⟩, fun j hj => ⟨?_, ?_⟩, fun j hj => ⟨?_, ?_⟩, fun j hj => ⟨?_, ?_⟩⟩
  · rcases val A 0 with ⟨e, q⟩ | ⟨e, q⟩
    · rw [e]; exact b0 (by omega) (by omega)
    · rw [e]; exact h0
  · rcases val A 1 with ⟨e, q⟩ | ⟨e, q⟩
    · rw [e]; exact b1 (by omega) (by omega)
    · rw [e]; exact h1
  · rcases val A 2 with ⟨e, q⟩ | ⟨e, q⟩
    · rw [e]; exact b2 (by omega) (by omega)
    · rw [e]; exact h2
  · rcases val A 3 with ⟨e, q⟩ | ⟨e, q⟩
    · rw [e]; exact b3 (by omega) (by omega)
    · rw [e]; exact h3
  · rcases val (A + 12) 5 with ⟨e, q⟩ | ⟨e, q⟩
    · rw [e]; exact b10 (by omega) (by omega)
    · rw [e]; exact h4
  · rcases val (A + 12) 7 with ⟨e, q⟩ | ⟨e, q⟩
    · rw [e]; exact b11 (by omega) (by omega)
    · rw [e]; exact h5
  · rcases val (A + 12) 8 with ⟨e, q⟩ | ⟨e, q⟩
    · rw [e]; exact b12 (by omega) (by omega)
    · rw [e]; exact h6
  · rcases val (A + 12) 10 with ⟨e, q⟩ | ⟨e, q⟩
    · rw [e]; exact b13 (by omega) (by omega)
    · rw [e]; exact h7
  · rcases val (A + 1) j with ⟨e, q⟩ | ⟨e, q⟩
    · rw [e]; exact b4 (by omega)
    · rw [e]; exact (h8 j hj).1
  · rcases val (A + 2) j with ⟨e, q⟩ | ⟨e, q⟩
    · rw [e]; exact b4 (by omega)
    · rw [e]; exact (h8 j hj).2
  · rcases val (A + 3) j with ⟨e, q⟩ | ⟨e, q⟩
    · rw [e]; exact b5 (by omega)
    · rw [e]; exact (h9 j hj).1
  · rcases val (A + 4) j with ⟨e, q⟩ | ⟨e, q⟩
    · rw [e]; exact b6 (by omega)
    · rw [e]; exact (h9 j hj).2.1
  · rcases val (A + 5) j with ⟨e, q⟩ | ⟨e, q⟩
    · rw [e]; exact b7 (by omega)
    · rw [e]; exact (h9 j hj).2.2
  · rcases val (A + 6) j with ⟨e, q⟩ | ⟨e, q⟩
    · rw [e]; exact b5 (by omega)
    · rw [e]; exact (h10 j hj).1
  · rcases val (A + 7) j with ⟨e, q⟩ | ⟨e, q⟩
    · rw [e]; exact b8 (by omega)
    · rw [e]; exact (h10 j hj).2
  · rcases val (A + 8) j with ⟨e, q⟩ | ⟨e, q⟩
    · rw [e]; exact b5 (by omega)
    · rw [e]; exact (h11 j hj).1
  · rcases val (A + 9) j with ⟨e, q⟩ | ⟨e, q⟩
    · rw [e]; exact b9 (by omega)
    · rw [e]; exact (h11 j hj).2
  · rcases val (A + 10) j with ⟨e, q⟩ | ⟨e, q⟩
    · rw [e]; exact b6 (by omega)
    · rw [e]; exact (h12 j hj).1
  · rcases val (A + 11) j with ⟨e, q⟩ | ⟨e, q⟩
    · rw [e]; exact b6 (by omega)
    · rw [e]; exact (h12 j hj).2
end LN
