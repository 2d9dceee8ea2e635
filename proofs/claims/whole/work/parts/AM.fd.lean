/-! the class's reader: fed, read -/
def re_by (x : Int) (j : Nat) : Int := m_b8 (m_b8 (m_shr x (24 - 8 * (j : Int))))
def re_tn (J : Nat → Nat → Int) (X : Nat) (x : Int) : Nat → Nat → Int := m_up (m_fl J (X + 2) (J (X + 1) 1).toNat (re_by x) 4) (X + 1) 1 (J (X + 1) 1 + 4)
section FD
variable {en : Nat → Nat} {d : Nat} {T : Nat → Option (Nat × Nat)} {J J0 J1 J' : Nat → Nat → Int} {P : Nat → Nat → Option Nat} {L : Nat → Nat → Int64} {z w X A : Nat} {Q : m_Q} {fk fp p b k v x n lo hi a ln : Int} {f : Nat → Int} {y y' : a_Q}
theorem l_Re_takeNumber (hX : cl_sh en X T P) {F : Int} (hF : 0 ≤ F ∧ F + 4 ≤ 700) (hq : Q none (T, m_I (m_up (m_fl J (X + 2) F.toNat (re_by x) 4) (X + 1) 1 (F + 4)), P, L, z, w)) : ∀ (m j : Nat), j + m = 4 → m_wp en d mRe_takeNumber 3 [some (.ref (X + 1)), some (.int (m_i x)), some (.int (m_i (24 - 8 * (j : Int))))] [] (T, m_I (m_up (m_fl J (X + 2) F.toNat (re_by x) (j : Int)) (X + 1) 1 (F + (j : Int))), P, L, z, w) Q := by
  intro m
  induction m with
  | zero =>
    intro j hj
    obtain rfl : j = 4 := by omega
    refine r_iln eRe_takeNumber_3 rfl ?_
    refine r_zlt (tgt := 55) eRe_takeNumber_4 rfl ⟨(by omega), (by omega)⟩ (fun c4 => ?_) (fun c4 => ?_)
    · refine r_ret eRe_takeNumber_55 rfl ?_
      exact hq
    · exfalso; omega
  | succ m ih =>
    intro j hj
    have hi := ih (j + 1) (by omega)
    have e1 : m_up (m_up (m_up (m_fl J (X + 2) F.toNat (re_by x) (j : Int)) (X + 1) 1 (F + (j : Int))) (X + 2) (F + (j : Int)).toNat (m_b8 (m_b8 (m_shr x (24 - 8 * (j : Int)))))) (X + 1) 1 (F + (j : Int) + 1) = m_up (m_fl J (X + 2) F.toNat (re_by x) ((j + 1 : Nat) : Int)) (X + 1) 1 (F + ((j + 1 : Nat) : Int)) := by
      have e2 := m_fl_s (J := J) (A := X + 2) (o := F.toNat) (f := re_by x) (k := (j : Int)) (by omega) (n := (F + (j : Int)).toNat) (by omega) (v := m_b8 (m_b8 (m_shr x (24 - 8 * (j : Int))))) (by unfold re_by; rw [Int.toNat_natCast])
      rw [show ((j + 1 : Nat) : Int) = (j : Int) + 1 by omega, ← e2]
      funext b i
      simp only [m_up_at]
      by_cases q : b = X + 1 ∧ i = 1
      · rw [if_pos q, if_pos q]; omega
      · simp only [if_neg q]
    rw [← e1, show 24 - 8 * ((j + 1 : Nat) : Int) = 24 - 8 * (j : Int) + (-8) by omega] at hi
    refine r_iln eRe_takeNumber_3 rfl ?_
    refine r_zlt (tgt := 55) eRe_takeNumber_4 rfl ⟨(by omega), (by omega)⟩ (fun c4 => ?_) (fun c4 => ?_)
    · exfalso; omega
    · refine r_aln eRe_takeNumber_7 rfl ?_
      refine r_gete (x := (F + (j : Int))) eRe_takeNumber_8 rfl (by decide) (cl_t hX (i := 1) rfl) (by rw [m_up_same]) ?_
      refine r_zlt (tgt := 55) eRe_takeNumber_11 rfl ⟨(by omega), (by omega)⟩ (fun c11 => ?_) (fun c11 => ?_)
      · exfalso; omega
      · refine r_aln eRe_takeNumber_14 rfl ?_
        refine r_gete (x := (F + (j : Int))) eRe_takeNumber_15 rfl (by decide) (cl_t hX (i := 1) rfl) (by rw [m_up_same]) ?_
        refine r_aln eRe_takeNumber_18 rfl ?_
        refine m_getR eRe_takeNumber_19 rfl (cl_t hX (i := 1) rfl) (cl_p hX (i := 11) rfl) ?_
        refine r_alen eRe_takeNumber_22 (cl_t hX (i := 2) rfl) (by decide) ?_
        refine r_cge (tgt := 55) eRe_takeNumber_23 rfl ⟨(by omega), (by omega)⟩ ⟨(by omega), (by omega)⟩ (fun c23 => ?_) (fun c23 => ?_)
        · exfalso; omega
        · refine r_aln eRe_takeNumber_26 rfl ?_
          refine m_getR eRe_takeNumber_27 rfl (cl_t hX (i := 1) rfl) (cl_p hX (i := 11) rfl) ?_
          refine r_aln eRe_takeNumber_30 rfl ?_
          refine r_gete (x := (F + (j : Int))) eRe_takeNumber_31 rfl (by decide) (cl_t hX (i := 1) rfl) (by rw [m_up_same]) ?_
          refine r_iln eRe_takeNumber_34 rfl ?_
          refine r_iln eRe_takeNumber_35 rfl ?_
          refine r_shr eRe_takeNumber_36 ?_
          refine r_i2b eRe_takeNumber_37 ?_
          refine r_bast eRe_takeNumber_38 (cl_t hX (i := 2) rfl) (by decide) (by omega) (by omega) (cl_e hX 2) ?_
          refine r_aln eRe_takeNumber_39 rfl ?_
          refine r_dupr eRe_takeNumber_40 ?_
          refine r_gete (x := (F + (j : Int))) eRe_takeNumber_41 rfl (by decide) (cl_t hX (i := 1) rfl) (by rw [m_up_at, if_neg (by omega), m_up_same]) ?_
          refine r_con eRe_takeNumber_44 ?_
          refine r_add eRe_takeNumber_45 ?_
          refine r_put eRe_takeNumber_46 rfl (cl_t hX (i := 1) rfl) (cl_e hX 1) (Or.inl rfl) ?_
          refine r_inc (ls' := [some (.ref (X + 1)), some (.int (m_i (x))), some (.int (m_i (24 - 8 * (j : Int) + (-8))))]) eRe_takeNumber_49 rfl rfl ?_
          refine r_go (tgt := 3) eRe_takeNumber_52 rfl ?_
          exact hi
theorem m_up_re : m_up J A 1 (J A 1) = J := by
  funext b i
  rw [m_up_at]
  split
  · next q => rw [q.1, q.2]
  · rfl
theorem c_Re_takeNumber (hX : cl_sh en X T P) (hF : 0 ≤ J (X + 1) 1 ∧ J (X + 1) 1 + 4 ≤ 700) (hq : Q none (T, m_I (re_tn J X x), P, L, z, w)) : m_call en (d + 1) mRe_takeNumber [.ref (X + 1), .int (m_i x)] (T, m_I J, P, L, z, w) Q := by
  have h3 := l_Re_takeNumber (d := d) hX hF hq 4 0 (by omega)
  rw [show ((0 : Nat) : Int) = 0 from rfl, m_fl_0, Int.add_zero, m_up_re] at h3
  refine m_into (by decide) (Nat.le_of_ble_eq_true rfl) rfl ?_
  show m_wp en _ mRe_takeNumber 0 [some (.ref (X + 1)), some (.int (m_i (x))), none] [] (T, m_I J, P, L, z, w) Q
  refine r_bip eRe_takeNumber_0 (by decide) ?_
  refine r_isn (ls' := [some (.ref (X + 1)), some (.int (m_i (x))), some (.int (m_i (24)))]) eRe_takeNumber_2 (Nat.le_of_ble_eq_true rfl) rfl ?_
  exact h3
theorem re_tn_1 : re_tn J X x (X + 1) 1 = J (X + 1) 1 + 4 := m_up_same
theorem c_Re_takeBytes (hX : cl_sh en X T P) {q1 q2 q3 q4 q5 : Int} (hF : 0 ≤ J (X + 1) 1 ∧ J (X + 1) 1 ≤ 700) (h0 : 680 < J (X + 1) 1 → Q (some (.int (m_i (-1)))) (T, m_I J, P, L, z, w)) (h1 : J (X + 1) 1 ≤ 680 → Q (some (.int (m_i (J (X + 1) 1 + 20)))) (T, m_I (re_tn (re_tn (re_tn (re_tn (re_tn J X q1) X q2) X q3) X q4) X q5), P, L, z, w)) : m_call en (d + 2) mRe_takeBytes [.ref (X + 1), .int (m_i q1), .int (m_i q2), .int (m_i q3), .int (m_i q4), .int (m_i q5)] (T, m_I J, P, L, z, w) Q := by
  have n1 := re_tn_1 (J := J) (X := X) (x := q1)
  have n2 := re_tn_1 (J := re_tn J X q1) (X := X) (x := q2)
  have n3 := re_tn_1 (J := re_tn (re_tn J X q1) X q2) (X := X) (x := q3)
  have n4 := re_tn_1 (J := re_tn (re_tn (re_tn J X q1) X q2) X q3) (X := X) (x := q4)
  have n5 := re_tn_1 (J := re_tn (re_tn (re_tn (re_tn J X q1) X q2) X q3) X q4) (X := X) (x := q5)
  refine m_into (by decide) (Nat.le_of_ble_eq_true rfl) rfl ?_
  show m_wp en _ mRe_takeBytes 0 [some (.ref (X + 1)), some (.int (m_i (q1))), some (.int (m_i (q2))), some (.int (m_i (q3))), some (.int (m_i (q4))), some (.int (m_i (q5)))] [] (T, m_I J, P, L, z, w) Q
  refine r_aln eRe_takeBytes_0 rfl ?_
  refine r_gete (x := J (X + 1) 1) eRe_takeBytes_1 rfl (by decide) (cl_t hX (i := 1) rfl) rfl ?_
  refine r_bip eRe_takeBytes_4 (by decide) ?_
  refine r_add eRe_takeBytes_6 ?_
  refine r_aln eRe_takeBytes_7 rfl ?_
  refine m_getR eRe_takeBytes_8 rfl (cl_t hX (i := 1) rfl) (cl_p hX (i := 11) rfl) ?_
  refine r_alen eRe_takeBytes_11 (cl_t hX (i := 2) rfl) (by decide) ?_
  refine r_cle (tgt := 17) eRe_takeBytes_12 rfl ⟨(by omega), (by omega)⟩ ⟨(by omega), (by omega)⟩ (fun c12 => ?_) (fun c12 => ?_)
  · refine r_aln eRe_takeBytes_17 rfl ?_
    refine r_iln eRe_takeBytes_18 rfl ?_
    refine r_vir eRe_takeBytes_19 rfl rfl rfl (cl_t hX (i := 1) rfl) rfl rfl ?_
    refine c_Re_takeNumber hX (by omega) ?_
    refine r_aln eRe_takeBytes_22 rfl ?_
    refine r_iln eRe_takeBytes_23 rfl ?_
    refine r_vir eRe_takeBytes_24 rfl rfl rfl (cl_t hX (i := 1) rfl) rfl rfl ?_
    refine c_Re_takeNumber hX (by omega) ?_
    refine r_aln eRe_takeBytes_27 rfl ?_
    refine r_iln eRe_takeBytes_28 rfl ?_
    refine r_vir eRe_takeBytes_29 rfl rfl rfl (cl_t hX (i := 1) rfl) rfl rfl ?_
    refine c_Re_takeNumber hX (by omega) ?_
    refine r_aln eRe_takeBytes_32 rfl ?_
    refine r_il eRe_takeBytes_33 rfl ?_
    refine r_vir eRe_takeBytes_35 rfl rfl rfl (cl_t hX (i := 1) rfl) rfl rfl ?_
    refine c_Re_takeNumber hX (by omega) ?_
    refine r_aln eRe_takeBytes_38 rfl ?_
    refine r_il eRe_takeBytes_39 rfl ?_
    refine r_vir eRe_takeBytes_41 rfl rfl rfl (cl_t hX (i := 1) rfl) rfl rfl ?_
    refine c_Re_takeNumber hX (by omega) ?_
    refine r_aln eRe_takeBytes_44 rfl ?_
    refine r_gete (x := J (X + 1) 1 + 20) eRe_takeBytes_45 rfl (by decide) (cl_t hX (i := 1) rfl) (by omega) ?_
    refine r_iret eRe_takeBytes_48 rfl ?_
    exact h1 (by omega)
  · refine r_con eRe_takeBytes_15 ?_
    refine r_iret eRe_takeBytes_16 rfl ?_
    exact h0 (by omega)
theorem re_nt_b0 (ht : re_tb f n) (h1 : 0 ≤ y.1 ∧ y.1 ≤ 3) (h3 : 0 ≤ y.2.2.2.1 ∧ y.2.2.2.1 ≤ n) : re_yb n (re_nt f n y) :=
  re_nt_b (y := (y.1, y.2.1, 0, y.2.2.2.1, 0, 0)) ht ⟨h1, by have := ht.1; simp only; omega, h3, by simp only; omega, by simp only; exact ⟨by omega, by omega⟩, by simp only; omega⟩
theorem c_Re_nextToken0 (hX : cl_sh en X T P) (hf : re_tb (J (X + 2)) (J (X + 1) 6)) (h1 : 0 ≤ y.1 ∧ y.1 ≤ 3) (h3 : 0 ≤ y.2.2.2.1 ∧ y.2.2.2.1 ≤ J (X + 1) 6) (hq : ∀ y', y' = re_nt (J (X + 2)) (J (X + 1) 6) y → re_yb (J (X + 1) 6) y' → Q none (T, m_I (re_q J X y'.1 y'.2.1 y'.2.2.1 y'.2.2.2.1 y'.2.2.2.2.1 y'.2.2.2.2.2), P, L, z, w)) : m_call en (d + 3) mRe_nextToken [.ref (X + 1)] (T, m_I (re_q J X y.1 y.2.1 y.2.2.1 y.2.2.2.1 y.2.2.2.2.1 y.2.2.2.2.2), P, L, z, w) Q := by
  have e1 := a_end_bd (q := a_bk) (f := J (X + 2)) (n := J (X + 1) 6) (i := y.2.2.2.1) rfl h3.2
  have h9 := l5_Re_nextToken (d := d) (fk := y.1) (fp := y.2.1) (p := y.2.2.1) (b := y.2.2.2.1) (k := y.2.2.2.2.1) (v := y.2.2.2.2.2) hX hf (J (X + 1) 6 - y.2.2.2.1).toNat y.2.2.2.1 (by omega) h3.1 (l30_Re_nextToken (d := d) (q9 := a_end a_bk (J (X + 2)) (J (X + 1) 6) y.2.2.2.1) hX hf (by omega) (hq _ rfl (re_nt_b0 hf h1 h3)))
  refine m_into (by decide) (Nat.le_of_ble_eq_true rfl) rfl ?_
  show m_wp en _ mRe_nextToken 0 [some (.ref (X + 1)), none, none] [] (T, m_I ((re_q J X y.1 y.2.1 y.2.2.1 y.2.2.2.1 y.2.2.2.2.1 y.2.2.2.2.2)), P, L, z, w) Q
  refine r_aln eRe_nextToken_0 rfl ?_
  refine r_gete (x := y.2.2.2.1) eRe_nextToken_1 rfl (by decide) (cl_t hX (i := 1) rfl) (by rw [re_q_8]) ?_
  refine r_isn (ls' := [some (.ref (X + 1)), some (.int (m_i (y.2.2.2.1))), none]) eRe_nextToken_4 (Nat.le_of_ble_eq_true rfl) rfl ?_
  exact h9
/-- a plan laid bare -/
theorem pl_cl_v : (pl_cl J A A 0 = 16 ∧ pl_cl J A A 1 = 6 ∧ pl_cl J A A 2 = 2 ∧ pl_cl J A A 3 = 4 ∧ pl_cl J A A 4 = 0 ∧ pl_cl J A A 5 = 0 ∧ pl_cl J A A 6 = 1) ∧ (∀ i : Nat, i < 16 → pl_cl J A (A + 1) i = 6 ∧ pl_cl J A (A + 2) i = 0) ∧ (∀ i : Nat, i < 12 → pl_cl J A (A + 12) i = 0) ∧ ∀ b i, b ≠ A → b ≠ A + 1 → b ≠ A + 2 → b ≠ A + 12 → pl_cl J A b i = J b i := by
  unfold pl_cl pl_c7
  refine ⟨?_, fun i hi => ⟨?_, ?_⟩, fun i hi => ?_, fun b i q1 q2 q3 q4 => ?_⟩
  · refine ⟨?_, ?_, ?_, ?_, ?_, ?_, ?_⟩ <;> rw [m_fl_o (by omega), m_fl_o (by omega), m_fl_o (by omega)] <;> simp [m_up]
  · rw [m_fl_o (by omega), m_fl_o (by omega), m_fl_i (by omega)]
  · rw [m_fl_o (by omega), m_fl_i (by omega)]
  · rw [m_fl_i (by omega)]
  · rw [m_fl_o q4, m_fl_o q3, m_fl_o q2, m_up_o q1, m_up_o q1, m_up_o q1, m_up_o q1, m_up_o q1, m_up_o q1, m_up_o q1]
theorem pl_cl_ok (h : pl_ok J A) : pl_ok (pl_cl J A) A := by
  obtain ⟨⟨v0, v1, v2, v3, v4, v5, v6⟩, vr, vt, vo⟩ := pl_cl_v (J := J) (A := A)
  obtain ⟨h0, h1, h2, h3, h4, h5, h6, h7, h8, h9, h10, h11, h12⟩ := h
  refine ⟨by omega, by omega, by omega, by omega, ?_, ?_, ?_, ?_, fun j hj => ?_, fun j hj => ?_, fun j hj => ?_, fun j hj => ?_, fun j hj => ?_⟩
  · rw [vt 5 (by omega)]; omega
  · rw [vt 7 (by omega)]; omega
  · rw [vt 8 (by omega)]; omega
  · rw [vt 10 (by omega)]; omega
  · rw [(vr j hj).1, (vr j hj).2]; omega
  · rw [vo _ _ (by omega) (by omega) (by omega) (by omega), vo _ _ (by omega) (by omega) (by omega) (by omega), vo _ _ (by omega) (by omega) (by omega) (by omega)]; exact h9 j hj
  · rw [vo _ _ (by omega) (by omega) (by omega) (by omega), vo _ _ (by omega) (by omega) (by omega) (by omega)]; exact h10 j hj
  · rw [vo _ _ (by omega) (by omega) (by omega) (by omega), vo _ _ (by omega) (by omega) (by omega) (by omega)]; exact h11 j hj
  · rw [vo _ _ (by omega) (by omega) (by omega) (by omega), vo _ _ (by omega) (by omega) (by omega) (by omega)]; exact h12 j hj
/-- what holds of the reader between calls -/
def re_ok0 (en : Nat → Nat) (T : Nat → Option (Nat × Nat)) (J : Nat → Nat → Int) (X : Nat) : Prop := ((0 ≤ J (X + 1) 1 ∧ J (X + 1) 1 ≤ 700) ∧ ∀ i : Nat, i < 700 → -128 ≤ J (X + 2) i ∧ J (X + 2) i ≤ 127) ∧ pl_ok J (X + 3) ∧ re_Wb (J (X + 16)) ∧ re_st en T J ∧ (∀ i : Nat, i < 8 → 0 ≤ J (X + 9) i ∧ J (X + 9) i ≤ 1000 + (i : Int))
/-- the heap where reading begins -/
def re_r0 (J : Nat → Nat → Int) (X : Nat) (n : Int) : Nat → Nat → Int := m_up (m_up (pl_cl J (X + 3)) (X + 1) 6 n) (X + 1) 1 0
theorem re_r0_ok (hx0 : en 0 ≤ X) (h : re_ok0 en T J X) (hn : 0 ≤ n ∧ n ≤ 700) : re_ok en T (re_r0 J X n) X ∧ re_r0 J X n (X + 1) 6 = n ∧ ∀ b i, b < X + 3 ∨ X + 16 ≤ b → b ≠ X + 1 → re_r0 J X n b i = J b i := by
  obtain ⟨g1, g2, g3, g4, g5⟩ := h
  obtain ⟨⟨v0, v1, v2, v3, v4, v5, v6⟩, vr, vt, vo⟩ := pl_cl_v (J := J) (A := X + 3)
  have he2 := g4.1.2
  have o1 : ∀ b i, b ≠ X + 1 → re_r0 J X n b i = pl_cl J (X + 3) b i := fun b i q => by unfold re_r0; rw [m_up_o q, m_up_o q]
  have e6 : re_r0 J X n (X + 1) 6 = n := by unfold re_r0; rw [m_up_j (by omega), m_up_same]
  have fr : ∀ b i, b < X + 3 ∨ X + 16 ≤ b → b ≠ X + 1 → re_r0 J X n b i = J b i := fun b i q q2 => by rw [o1 b i q2]; exact vo b i (by omega) (by omega) (by omega) (by omega)
  refine ⟨⟨⟨by rw [e6]; exact hn, fun i hi => by rw [fr _ _ (by omega) (by omega)]; exact g1.2 i hi⟩, pl_ok_e (pl_cl_ok g2) (fun b i q1 q2 => o1 b i (by omega)), fun i hi => by rw [fr _ _ (by omega) (by omega)]; exact g3 i hi, ⟨g4.1, fun i hi => by rw [fr _ _ (by omega) (by omega)]; exact g4.2 i hi⟩, fun i hi => ?_, fun i hi => ?_, ?_, ?_, ?_⟩, e6, fr⟩
  · have := vt i hi
    rw [o1 _ _ (by omega), show X + 15 = X + 3 + 12 by omega, this]
    omega
  · rw [o1 _ _ (by omega), vo _ _ (by omega) (by omega) (by omega) (by omega)]; exact g5 i hi
  · rw [o1 _ _ (by omega), v5]; omega
  · rw [o1 _ _ (by omega), v6]; omega
  · rw [o1 _ _ (by omega), v4]; omega
theorem c_Re_readTape (hX : cl_sh en X T P) (h : re_ok0 en T J X) (hn : 0 ≤ n ∧ n ≤ 700) (hq : ∀ J' y' l', rl_rt X 700 (re_r0 J X n) (re_nt (J (X + 2)) n (0, -1, 0, 0, 0, 0)) 0 J' y' l' → re_ok en T J' X → re_yb n y' → (∀ b i, b < X + 3 ∨ X + 16 ≤ b → b ≠ X + 1 → J' b i = J b i) → (J' (X + 1) 1 = 0 ∧ J' (X + 1) 6 = n) → (0 ≤ l' ∧ l' ≤ 700) → Q (some (.int (m_i (if y'.1 = 0 then l' else -1)))) (T, m_I (re_q J' X y'.1 y'.2.1 y'.2.2.1 y'.2.2.2.1 y'.2.2.2.2.1 y'.2.2.2.2.2), P, L, z, w)) : m_call en (d + 7) mRe_readTape [.ref (X + 1), .int (m_i n)] (T, m_I J, P, L, z, w) Q := by
  obtain ⟨hok1, e6, fr⟩ := re_r0_ok hX.1 h hn
  have ef : re_r0 J X n (X + 2) = J (X + 2) := funext (fun i => fr _ i (by omega) (by omega))
  have key : ∀ y1 o3, y1 = re_nt (J (X + 2)) n (0, -1, 0, 0, 0, 0) → re_yb n y1 → m_wp en (d + 6) mRe_readTape 38 [some (.ref (X + 1)), some (.int (m_i n)), some (.int (m_i 0)), o3] [] (T, m_I (re_q (re_r0 J X n) X y1.1 y1.2.1 y1.2.2.1 y1.2.2.2.1 y1.2.2.2.2.1 y1.2.2.2.2.2), P, L, z, w) Q := fun y1 o3 e1 h1 => l_Re_readTape (d := d) hX 700 0 (re_r0 J X n) y1 o3 (by omega) (by omega) hok1 (by rw [e6]; exact h1) (fun J' y' l' a1 a2 a3 a4 a5 => hq J' y' l' (by rw [← e1]; exact a1) a2 (by rw [e6] at a3; exact a3) (fun b i q1 q2 => (a4 b i q1).trans (fr b i q1 q2)) ⟨by rw [a4 _ _ (by omega)]; exact m_up_same, by rw [a4 _ _ (by omega)]; exact e6⟩ a5)
  refine m_into (by decide) (Nat.le_of_ble_eq_true rfl) rfl ?_
  show m_wp en _ mRe_readTape 0 [some (.ref (X + 1)), some (.int (m_i (n))), none, none] [] (T, m_I J, P, L, z, w) Q
  refine r_aln eRe_readTape_0 rfl ?_
  refine m_getR eRe_readTape_1 rfl (cl_t hX (i := 1) rfl) (cl_p hX (i := 12) rfl) ?_
  refine r_vir eRe_readTape_4 rfl rfl rfl (cl_t hX (i := 3) rfl) rfl rfl ?_
  refine c_Pl_clear (cl_draft hX) ?_
  rw [← re_q_s (J := pl_cl J (X + 3)) (X := X)]
  show m_wp en _ mRe_readTape 7 [some (.ref (X + 1)), some (.int (m_i (n))), none, none] [] (T, m_I (((re_q (pl_cl J (X + 3)) X (pl_cl J (X + 3) (X + 1) 3) (pl_cl J (X + 3) (X + 1) 4) (pl_cl J (X + 3) (X + 1) 7) (pl_cl J (X + 3) (X + 1) 8) (pl_cl J (X + 3) (X + 1) 9) (pl_cl J (X + 3) (X + 1) 10)))), P, L, z, w) Q
  refine r_aln eRe_readTape_7 rfl ?_
  refine r_con eRe_readTape_8 ?_
  refine r_put eRe_readTape_9 rfl (cl_t hX (i := 1) rfl) (cl_e hX 1) (Or.inl rfl) ?_
  rw [re_p3]
  refine r_aln eRe_readTape_12 rfl ?_
  refine r_con eRe_readTape_13 ?_
  refine r_put eRe_readTape_14 rfl (cl_t hX (i := 1) rfl) (cl_e hX 1) (Or.inl rfl) ?_
  rw [re_p4]
  refine r_aln eRe_readTape_17 rfl ?_
  refine r_iln eRe_readTape_18 rfl ?_
  refine r_put eRe_readTape_19 rfl (cl_t hX (i := 1) rfl) (cl_e hX 1) (Or.inl rfl) ?_
  rw [re_up (by omega)]
  refine r_aln eRe_readTape_22 rfl ?_
  refine r_con eRe_readTape_23 ?_
  refine r_put eRe_readTape_24 rfl (cl_t hX (i := 1) rfl) (cl_e hX 1) (Or.inl rfl) ?_
  rw [re_p8]
  refine r_aln eRe_readTape_27 rfl ?_
  refine r_con eRe_readTape_28 ?_
  refine r_put eRe_readTape_29 rfl (cl_t hX (i := 1) rfl) (cl_e hX 1) (Or.inl rfl) ?_
  rw [re_up (by omega)]
  refine r_con eRe_readTape_32 ?_
  refine r_isn (ls' := [some (.ref (X + 1)), some (.int (m_i (n))), some (.int (m_i (0))), none]) eRe_readTape_33 (Nat.le_of_ble_eq_true rfl) rfl ?_
  refine r_aln eRe_readTape_34 rfl ?_
  refine r_vir eRe_readTape_35 rfl rfl rfl (cl_t hX (i := 1) rfl) rfl rfl ?_
  refine c_Re_nextToken0 (J := re_r0 J X n) (y := (0, -1, pl_cl J (X + 3) (X + 1) 7, 0, pl_cl J (X + 3) (X + 1) 9, pl_cl J (X + 3) (X + 1) 10)) hX hok1.1 (by simp only; omega) (by rw [e6]; simp only; omega) (fun y1 e1 h1 => ?_)
  show m_wp en _ mRe_readTape 38 [some (.ref (X + 1)), some (.int (m_i (n))), some (.int (m_i (0))), none] [] (T, m_I (((re_q (re_r0 J X n) X y1.1 y1.2.1 y1.2.2.1 y1.2.2.2.1 y1.2.2.2.2.1 y1.2.2.2.2.2))), P, L, z, w) Q
  rw [ef, e6] at e1
  rw [e6] at h1
  exact key y1 _ e1 h1
end FD
