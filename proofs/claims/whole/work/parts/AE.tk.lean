/-! the class's reader: tokens -/
def re_dv (f : Nat → Int) (n : Int) : Nat → Int → Int → Int
  | 0, _, v => v
  | k + 1, i, v => if a_dg (a_hr f n i) = true then re_dv f n k (i + 1) (min 1000000 (10 * v + a_hr f n i - 48)) else v
def re_wv (f : Nat → Int) (n p : Int) : Nat → Int → Int → Int
  | 0, _, v => v
  | k + 1, i, v => if a_sl (a_hr f n i) = true then re_wv f n p k (i + 1) (m_or v (re_lb (a_hr f n i) (i - p))) else v
/-- a token: its place, where it ends, its kind, its value -/
def re_tk (f : Nat → Int) (n a : Int) : Int × Int × Int × Int :=
  if n ≤ a_end a_bk f n a then (a_end a_bk f n a, a_end a_bk f n a, 0, 0)
  else if a_sl (a_hr f n (a_end a_bk f n a)) = true then (a_end a_bk f n a, a_end a_sl f n (a_end a_bk f n a), (if 6 < a_end a_sl f n (a_end a_bk f n a) - a_end a_bk f n a then 5 else 1), re_wv f n (a_end a_bk f n a) (n - a_end a_bk f n a).toNat (a_end a_bk f n a) 0)
  else if a_dg (a_hr f n (a_end a_bk f n a)) = true then (a_end a_bk f n a, a_end a_dg f n (a_end a_bk f n a), 2, re_dv f n (n - a_end a_bk f n a).toNat (a_end a_bk f n a) 0)
  else if a_hr f n (a_end a_bk f n a) = 45 ∧ a_dg (a_hr f n (a_end a_bk f n a + 1)) = true then (a_end a_bk f n a, a_end a_dg f n (a_end a_bk f n a + 1), 3, -(re_dv f n (n - (a_end a_bk f n a + 1)).toNat (a_end a_bk f n a + 1) 0))
  else (a_end a_bk f n a, a_end a_bk f n a + 1, (if a_hr f n (a_end a_bk f n a) = 59 then 4 else 5), 0)
section TKN
variable {en : Nat → Nat} {d : Nat} {T : Nat → Option (Nat × Nat)} {J J0 J1 : Nat → Nat → Int} {P : Nat → Nat → Option Nat} {L : Nat → Nat → Int64} {z w X : Nat} {Q : m_Q} {fk fp p b k v x n : Int} {f : Nat → Int}
theorem re_sg_h {i : Int} (h : 0 ≤ i) : re_sg f n i = a_hr f n i := by
  unfold re_sg a_hr
  by_cases q : i < n
  · rw [if_pos ⟨h, q⟩, if_pos q]
  · rw [if_neg (fun e => q e.2), if_neg q]
theorem a_hr_b {i : Int} (ht : re_tb f n) (h : 0 ≤ i) : -128 ≤ a_hr f n i ∧ a_hr f n i ≤ 127 ∧ (n ≤ i → a_hr f n i = -1) := by
  have := ht.1
  unfold a_hr
  by_cases q : i < n
  · rw [if_pos q]
    have := ht.2 i.toNat (by omega)
    omega
  · rw [if_neg q]
    omega
/-- a sign asked for, its kind -/
theorem c_sg (hX : cl_sh en X T P) (hf : re_tb (J (X + 2)) (J (X + 1) 6)) {i : Int} (hi : 0 ≤ i ∧ i ≤ 1000) (hq : Q (some (.int (m_i (a_hr (J (X + 2)) (J (X + 1) 6) i)))) (T, m_I (re_q J X fk fp p b k v), P, L, z, w)) : m_call en (d + 1) mRe_signAt [.ref (X + 1), .int (m_i i)] (T, m_I (re_q J X fk fp p b k v), P, L, z, w) Q := by
  have e1 : re_q J X fk fp p b k v (X + 2) = J (X + 2) := funext (fun j => re_q_o (by omega))
  have e2 : re_q J X fk fp p b k v (X + 1) 6 = J (X + 1) 6 := re_q_o (by omega)
  refine c_Re_signAt hX (by rw [e1, e2]; exact hf) (by omega) ?_
  rw [e1, e2, re_sg_h hi.1]
  exact hq
theorem a_b_c (b : Bool) : (a_b b = 1 ∧ b = true) ∨ (a_b b = 0 ∧ ¬ b = true) := by cases b <;> simp [a_b]
theorem l_Re_takeDigits (hX : cl_sh en X T P) (hf : re_tb (J (X + 2)) (J (X + 1) 6)) {o1 : Option Value} : ∀ (m : Nat) (i v : Int), i + m = J (X + 1) 6 → 0 ≤ i → (0 ≤ v ∧ v ≤ 1000000) → Q none (T, m_I (re_q J X fk fp p (a_run a_dg (J (X + 2)) (J (X + 1) 6) m i) k (re_dv (J (X + 2)) (J (X + 1) 6) m i v)), P, L, z, w) → m_wp en (d + 1) mRe_takeDigits 2 [some (.ref (X + 1)), o1, some (.int (m_i i))] [] (T, m_I (re_q J X fk fp p b k v), P, L, z, w) Q := by
  have hn := hf.1
  intro m
  induction m with
  | zero =>
    intro i v hi h0 hv hq
    unfold a_run re_dv at hq
    refine r_iln eRe_takeDigits_2 rfl ?_
    refine r_aln eRe_takeDigits_3 rfl ?_
    refine r_gete (x := J (X + 1) 6) eRe_takeDigits_4 rfl (by decide) (cl_t hX (i := 1) rfl) (by rw [re_q_o (by omega)]) ?_
    refine r_cge (tgt := 52) eRe_takeDigits_7 rfl ⟨(by omega), (by omega)⟩ ⟨(by omega), (by omega)⟩ (fun c7 => ?_) (fun c7 => ?_)
    · refine r_aln eRe_takeDigits_52 rfl ?_
      refine r_iln eRe_takeDigits_53 rfl ?_
      refine r_put eRe_takeDigits_54 rfl (cl_t hX (i := 1) rfl) (cl_e hX 1) (Or.inl rfl) ?_
      rw [re_p8]
      refine r_ret eRe_takeDigits_57 rfl ?_
      exact hq
    · exfalso; omega
  | succ m ih =>
    intro i v hi h0 hv hq
    obtain ⟨h9, eh⟩ : ∃ h9, h9 = a_hr (J (X + 2)) (J (X + 1) 6) i := ⟨_, rfl⟩
    have hb := a_hr_b (i := i) hf h0
    rw [← eh] at hb
    have hc := a_b_c (a_dg h9)
    have hdg : a_dg h9 = true → 48 ≤ h9 ∧ h9 ≤ 57 := fun q => of_decide_eq_true q
    unfold a_run re_dv at hq
    rw [← eh] at hq
    have hy : a_dg h9 = true → m_wp en (d + 1) mRe_takeDigits 2 [some (.ref (X + 1)), o1, some (.int (m_i (i + 1)))] [] (T, m_I (re_q J X fk fp p b k (min 1000000 (10 * v + h9 - 48))), P, L, z, w) Q := fun q => by
      rw [if_pos q, if_pos q] at hq
      exact ih (i + 1) _ (by omega) (by omega) (by have := hdg q; omega) hq
    have hn0 : ¬ a_dg h9 = true → Q none (T, m_I (re_q J X fk fp p i k v), P, L, z, w) := fun q => by
      rw [if_neg q, if_neg q] at hq
      exact hq
    have hy1 : a_b (a_dg h9) = 1 → a_dg h9 = true ∧ 48 ≤ h9 ∧ h9 ≤ 57 := fun q => by
      rcases hc with r | r
      · exact ⟨r.2, hdg r.2⟩
      · omega
    have hy0 : a_b (a_dg h9) = 0 → ¬ a_dg h9 = true := fun q => by
      rcases hc with r | r
      · omega
      · exact r.2
    have hc2 : 0 ≤ a_b (a_dg h9) ∧ a_b (a_dg h9) ≤ 1 := by omega
    clear hc
    refine r_iln eRe_takeDigits_2 rfl ?_
    refine r_aln eRe_takeDigits_3 rfl ?_
    refine r_gete (x := J (X + 1) 6) eRe_takeDigits_4 rfl (by decide) (cl_t hX (i := 1) rfl) (by rw [re_q_o (by omega)]) ?_
    refine r_cge (tgt := 52) eRe_takeDigits_7 rfl ⟨(by omega), (by omega)⟩ ⟨(by omega), (by omega)⟩ (fun c7 => ?_) (fun c7 => ?_)
    · refine r_aln eRe_takeDigits_52 rfl ?_
      refine r_iln eRe_takeDigits_53 rfl ?_
      refine r_put eRe_takeDigits_54 rfl (cl_t hX (i := 1) rfl) (cl_e hX 1) (Or.inl rfl) ?_
      rw [re_p8]
      refine r_ret eRe_takeDigits_57 rfl ?_
      first | (exfalso; omega) | exact hn0 (hy0 (by omega))
    · refine r_aln eRe_takeDigits_10 rfl ?_
      refine r_iln eRe_takeDigits_11 rfl ?_
      refine r_vir eRe_takeDigits_12 rfl rfl rfl (cl_t hX (i := 1) rfl) rfl rfl ?_
      refine c_sg hX hf (by omega) ?_
      rw [← eh]
      show m_wp en _ mRe_takeDigits 15 [some (.ref (X + 1)), o1, some (.int (m_i (i)))] [(.int (m_i (h9)))] (T, m_I ((((re_q J X fk fp p b k v)))), P, L, z, w) Q
      refine r_sta eRe_takeDigits_15 rfl rfl (by decide) rfl ?_
      refine c_Re_isDigit (by omega) ?_
      show m_wp en _ mRe_takeDigits 18 [some (.ref (X + 1)), o1, some (.int (m_i (i)))] [(.int (m_i ((a_b (a_dg h9)))))] (T, m_I ((((((re_q J X fk fp p b k v)))))), P, L, z, w) Q
      refine r_zeq (tgt := 52) eRe_takeDigits_18 rfl ⟨(by omega), (by omega)⟩ (fun c18 => ?_) (fun c18 => ?_)
      · refine r_aln eRe_takeDigits_52 rfl ?_
        refine r_iln eRe_takeDigits_53 rfl ?_
        refine r_put eRe_takeDigits_54 rfl (cl_t hX (i := 1) rfl) (cl_e hX 1) (Or.inl rfl) ?_
        rw [re_p8]
        refine r_ret eRe_takeDigits_57 rfl ?_
        first | (exfalso; omega) | exact hn0 (hy0 (by omega))
      · have hd9 := hy1 (by omega)
        refine r_aln eRe_takeDigits_21 rfl ?_
        refine r_ldc (x := 1000000) eRe_takeDigits_22 rfl (by decide) ?_
        refine r_bip eRe_takeDigits_24 (by decide) ?_
        refine r_aln eRe_takeDigits_26 rfl ?_
        refine r_gete (x := v) eRe_takeDigits_27 rfl (by decide) (cl_t hX (i := 1) rfl) (by rw [re_q_10]) ?_
        refine r_mul eRe_takeDigits_30 ?_
        refine r_aln eRe_takeDigits_31 rfl ?_
        refine r_iln eRe_takeDigits_32 rfl ?_
        refine r_vir eRe_takeDigits_33 rfl rfl rfl (cl_t hX (i := 1) rfl) rfl rfl ?_
        refine c_sg hX hf (by omega) ?_
        rw [← eh]
        show m_wp en _ mRe_takeDigits 36 [some (.ref (X + 1)), o1, some (.int (m_i (i)))] [(.int (m_i (h9))), (.int (m_i ((10) * (v)))), (.int (m_i (1000000))), (.ref (X + 1))] (T, m_I ((((((((re_q J X fk fp p b k v)))))))), P, L, z, w) Q
        refine r_add eRe_takeDigits_36 ?_
        refine r_bip eRe_takeDigits_37 (by decide) ?_
        refine r_sub eRe_takeDigits_39 ?_
        refine r_min eRe_takeDigits_40 rfl (Nat.le_of_ble_eq_true rfl) ⟨(by omega), (by omega)⟩ ⟨(by omega), (by omega)⟩ ?_
        refine r_put eRe_takeDigits_43 rfl (cl_t hX (i := 1) rfl) (cl_e hX 1) (Or.inl rfl) ?_
        rw [re_p10]
        refine r_inc (ls' := [some (.ref (X + 1)), o1, some (.int (m_i (i + 1)))]) eRe_takeDigits_46 rfl rfl ?_
        refine r_go (tgt := 2) eRe_takeDigits_49 rfl ?_
        exact hy hd9.1
theorem c_Re_takeDigits (hX : cl_sh en X T P) (hf : re_tb (J (X + 2)) (J (X + 1) 6)) {i : Int} (hi : 0 ≤ i ∧ i ≤ J (X + 1) 6) (hv : 0 ≤ v ∧ v ≤ 1000000) (hq : Q none (T, m_I (re_q J X fk fp p (a_end a_dg (J (X + 2)) (J (X + 1) 6) i) k (re_dv (J (X + 2)) (J (X + 1) 6) (J (X + 1) 6 - i).toNat i v)), P, L, z, w)) : m_call en (d + 2) mRe_takeDigits [.ref (X + 1), .int (m_i i)] (T, m_I (re_q J X fk fp p b k v), P, L, z, w) Q := by
  have h2 := l_Re_takeDigits (d := d) (b := b) (o1 := some (.int (m_i i))) hX hf (J (X + 1) 6 - i).toNat i v (by omega) hi.1 hv hq
  refine m_into (by decide) (Nat.le_of_ble_eq_true rfl) rfl ?_
  show m_wp en _ mRe_takeDigits 0 [some (.ref (X + 1)), some (.int (m_i (i))), none] [] (T, m_I ((re_q J X fk fp p b k v)), P, L, z, w) Q
  refine r_iln eRe_takeDigits_0 rfl ?_
  refine r_isn (ls' := [some (.ref (X + 1)), some (.int (m_i (i))), some (.int (m_i (i)))]) eRe_takeDigits_1 (Nat.le_of_ble_eq_true rfl) rfl ?_
  exact h2
theorem l_Re_takeWord (hX : cl_sh en X T P) (hf : re_tb (J (X + 2)) (J (X + 1) 6)) (hp : 0 ≤ p) : ∀ (m : Nat) (i v : Int), i + m = J (X + 1) 6 → p ≤ i → Q none (T, m_I (re_q J X fk fp p (a_run a_sl (J (X + 2)) (J (X + 1) 6) m i) (if 6 < a_run a_sl (J (X + 2)) (J (X + 1) 6) m i - p then 5 else 1) (re_wv (J (X + 2)) (J (X + 1) 6) p m i v)), P, L, z, w) → m_wp en (d + 1) mRe_takeWord 5 [some (.ref (X + 1)), some (.int (m_i i))] [] (T, m_I (re_q J X fk fp p b k v), P, L, z, w) Q := by
  have hn := hf.1
  intro m
  induction m with
  | zero =>
    intro i v hi h0 hq
    unfold a_run re_wv at hq
    refine r_iln eRe_takeWord_5 rfl ?_
    refine r_aln eRe_takeWord_6 rfl ?_
    refine r_gete (x := J (X + 1) 6) eRe_takeWord_7 rfl (by decide) (cl_t hX (i := 1) rfl) (by rw [re_q_o (by omega)]) ?_
    refine r_cge (tgt := 53) eRe_takeWord_10 rfl ⟨(by omega), (by omega)⟩ ⟨(by omega), (by omega)⟩ (fun c10 => ?_) (fun c10 => ?_)
    · refine r_aln eRe_takeWord_53 rfl ?_
      refine r_iln eRe_takeWord_54 rfl ?_
      refine r_aln eRe_takeWord_55 rfl ?_
      refine r_gete (x := p) eRe_takeWord_56 rfl (by decide) (cl_t hX (i := 1) rfl) (by rw [re_q_7]) ?_
      refine r_sub eRe_takeWord_59 ?_
      refine r_bip eRe_takeWord_60 (by decide) ?_
      refine r_cle (tgt := 69) eRe_takeWord_62 rfl ⟨(by omega), (by omega)⟩ ⟨(by omega), (by omega)⟩ (fun c62 => ?_) (fun c62 => ?_)
      · refine r_con eRe_takeWord_69 ?_
        refine r_put eRe_takeWord_70 rfl (cl_t hX (i := 1) rfl) (cl_e hX 1) (Or.inl rfl) ?_
        rw [re_p9]
        refine r_aln eRe_takeWord_73 rfl ?_
        refine r_iln eRe_takeWord_74 rfl ?_
        refine r_put eRe_takeWord_75 rfl (cl_t hX (i := 1) rfl) (cl_e hX 1) (Or.inl rfl) ?_
        rw [re_p8]
        refine r_ret eRe_takeWord_78 rfl ?_
        first | (rw [if_pos (by omega)] at hq; exact hq) | (rw [if_neg (by omega)] at hq; exact hq)
      · refine r_con eRe_takeWord_65 ?_
        refine r_go (tgt := 70) eRe_takeWord_66 rfl ?_
        refine r_put eRe_takeWord_70 rfl (cl_t hX (i := 1) rfl) (cl_e hX 1) (Or.inl rfl) ?_
        rw [re_p9]
        refine r_aln eRe_takeWord_73 rfl ?_
        refine r_iln eRe_takeWord_74 rfl ?_
        refine r_put eRe_takeWord_75 rfl (cl_t hX (i := 1) rfl) (cl_e hX 1) (Or.inl rfl) ?_
        rw [re_p8]
        refine r_ret eRe_takeWord_78 rfl ?_
        first | (rw [if_pos (by omega)] at hq; exact hq) | (rw [if_neg (by omega)] at hq; exact hq)
    · exfalso; omega
  | succ m ih =>
    intro i v hi h0 hq
    obtain ⟨h9, eh⟩ : ∃ h9, h9 = a_hr (J (X + 2)) (J (X + 1) 6) i := ⟨_, rfl⟩
    have hb := a_hr_b (i := i) hf (by omega)
    rw [← eh] at hb
    have hc := a_b_c (a_sl h9)
    unfold a_run re_wv at hq
    rw [← eh] at hq
    have hy : a_sl h9 = true → m_wp en (d + 1) mRe_takeWord 5 [some (.ref (X + 1)), some (.int (m_i (i + 1)))] [] (T, m_I (re_q J X fk fp p b k (m_or v (re_lb h9 (i - p)))), P, L, z, w) Q := fun q => by
      rw [if_pos q, if_pos q] at hq
      exact ih (i + 1) _ (by omega) (by omega) hq
    have hn0 : ¬ a_sl h9 = true → Q none (T, m_I (re_q J X fk fp p i (if 6 < i - p then 5 else 1) v), P, L, z, w) := fun q => by
      rw [if_neg q, if_neg q] at hq
      exact hq
    have hy1 : a_b (a_sl h9) = 1 → a_sl h9 = true := fun q => by
      rcases hc with r | r
      · exact r.2
      · omega
    have hy0 : a_b (a_sl h9) = 0 → ¬ a_sl h9 = true := fun q => by
      rcases hc with r | r
      · omega
      · exact r.2
    have hc2 : 0 ≤ a_b (a_sl h9) ∧ a_b (a_sl h9) ≤ 1 := by omega
    clear hc
    refine r_iln eRe_takeWord_5 rfl ?_
    refine r_aln eRe_takeWord_6 rfl ?_
    refine r_gete (x := J (X + 1) 6) eRe_takeWord_7 rfl (by decide) (cl_t hX (i := 1) rfl) (by rw [re_q_o (by omega)]) ?_
    refine r_cge (tgt := 53) eRe_takeWord_10 rfl ⟨(by omega), (by omega)⟩ ⟨(by omega), (by omega)⟩ (fun c10 => ?_) (fun c10 => ?_)
    · refine r_aln eRe_takeWord_53 rfl ?_
      refine r_iln eRe_takeWord_54 rfl ?_
      refine r_aln eRe_takeWord_55 rfl ?_
      refine r_gete (x := p) eRe_takeWord_56 rfl (by decide) (cl_t hX (i := 1) rfl) (by rw [re_q_7]) ?_
      refine r_sub eRe_takeWord_59 ?_
      refine r_bip eRe_takeWord_60 (by decide) ?_
      refine r_cle (tgt := 69) eRe_takeWord_62 rfl ⟨(by omega), (by omega)⟩ ⟨(by omega), (by omega)⟩ (fun c62 => ?_) (fun c62 => ?_)
      · refine r_con eRe_takeWord_69 ?_
        refine r_put eRe_takeWord_70 rfl (cl_t hX (i := 1) rfl) (cl_e hX 1) (Or.inl rfl) ?_
        rw [re_p9]
        refine r_aln eRe_takeWord_73 rfl ?_
        refine r_iln eRe_takeWord_74 rfl ?_
        refine r_put eRe_takeWord_75 rfl (cl_t hX (i := 1) rfl) (cl_e hX 1) (Or.inl rfl) ?_
        rw [re_p8]
        refine r_ret eRe_takeWord_78 rfl ?_
        first | (exfalso; omega) | (have hn1 := hn0 (hy0 (by omega)); rw [if_pos (by omega)] at hn1; exact hn1) | (have hn1 := hn0 (hy0 (by omega)); rw [if_neg (by omega)] at hn1; exact hn1)
      · refine r_con eRe_takeWord_65 ?_
        refine r_go (tgt := 70) eRe_takeWord_66 rfl ?_
        refine r_put eRe_takeWord_70 rfl (cl_t hX (i := 1) rfl) (cl_e hX 1) (Or.inl rfl) ?_
        rw [re_p9]
        refine r_aln eRe_takeWord_73 rfl ?_
        refine r_iln eRe_takeWord_74 rfl ?_
        refine r_put eRe_takeWord_75 rfl (cl_t hX (i := 1) rfl) (cl_e hX 1) (Or.inl rfl) ?_
        rw [re_p8]
        refine r_ret eRe_takeWord_78 rfl ?_
        first | (exfalso; omega) | (have hn1 := hn0 (hy0 (by omega)); rw [if_pos (by omega)] at hn1; exact hn1) | (have hn1 := hn0 (hy0 (by omega)); rw [if_neg (by omega)] at hn1; exact hn1)
    · refine r_aln eRe_takeWord_13 rfl ?_
      refine r_iln eRe_takeWord_14 rfl ?_
      refine r_vir eRe_takeWord_15 rfl rfl rfl (cl_t hX (i := 1) rfl) rfl rfl ?_
      refine c_sg hX hf (by omega) ?_
      rw [← eh]
      show m_wp en _ mRe_takeWord 18 [some (.ref (X + 1)), some (.int (m_i (i)))] [(.int (m_i (h9)))] (T, m_I ((((re_q J X fk fp p b k v)))), P, L, z, w) Q
      refine r_sta eRe_takeWord_18 rfl rfl (by decide) rfl ?_
      refine c_Re_isLetter (by omega) ?_
      show m_wp en _ mRe_takeWord 21 [some (.ref (X + 1)), some (.int (m_i (i)))] [(.int (m_i ((a_b (a_sl h9)))))] (T, m_I ((((((re_q J X fk fp p b k v)))))), P, L, z, w) Q
      refine r_zeq (tgt := 53) eRe_takeWord_21 rfl ⟨(by omega), (by omega)⟩ (fun c21 => ?_) (fun c21 => ?_)
      · refine r_aln eRe_takeWord_53 rfl ?_
        refine r_iln eRe_takeWord_54 rfl ?_
        refine r_aln eRe_takeWord_55 rfl ?_
        refine r_gete (x := p) eRe_takeWord_56 rfl (by decide) (cl_t hX (i := 1) rfl) (by rw [re_q_7]) ?_
        refine r_sub eRe_takeWord_59 ?_
        refine r_bip eRe_takeWord_60 (by decide) ?_
        refine r_cle (tgt := 69) eRe_takeWord_62 rfl ⟨(by omega), (by omega)⟩ ⟨(by omega), (by omega)⟩ (fun c62 => ?_) (fun c62 => ?_)
        · refine r_con eRe_takeWord_69 ?_
          refine r_put eRe_takeWord_70 rfl (cl_t hX (i := 1) rfl) (cl_e hX 1) (Or.inl rfl) ?_
          rw [re_p9]
          refine r_aln eRe_takeWord_73 rfl ?_
          refine r_iln eRe_takeWord_74 rfl ?_
          refine r_put eRe_takeWord_75 rfl (cl_t hX (i := 1) rfl) (cl_e hX 1) (Or.inl rfl) ?_
          rw [re_p8]
          refine r_ret eRe_takeWord_78 rfl ?_
          first | (exfalso; omega) | (have hn1 := hn0 (hy0 (by omega)); rw [if_pos (by omega)] at hn1; exact hn1) | (have hn1 := hn0 (hy0 (by omega)); rw [if_neg (by omega)] at hn1; exact hn1)
        · refine r_con eRe_takeWord_65 ?_
          refine r_go (tgt := 70) eRe_takeWord_66 rfl ?_
          refine r_put eRe_takeWord_70 rfl (cl_t hX (i := 1) rfl) (cl_e hX 1) (Or.inl rfl) ?_
          rw [re_p9]
          refine r_aln eRe_takeWord_73 rfl ?_
          refine r_iln eRe_takeWord_74 rfl ?_
          refine r_put eRe_takeWord_75 rfl (cl_t hX (i := 1) rfl) (cl_e hX 1) (Or.inl rfl) ?_
          rw [re_p8]
          refine r_ret eRe_takeWord_78 rfl ?_
          first | (exfalso; omega) | (have hn1 := hn0 (hy0 (by omega)); rw [if_pos (by omega)] at hn1; exact hn1) | (have hn1 := hn0 (hy0 (by omega)); rw [if_neg (by omega)] at hn1; exact hn1)
      · have hd9 := hy1 (by omega)
        refine r_aln eRe_takeWord_24 rfl ?_
        refine r_dupr eRe_takeWord_25 ?_
        refine r_gete (x := v) eRe_takeWord_26 rfl (by decide) (cl_t hX (i := 1) rfl) (by rw [re_q_10]) ?_
        refine r_aln eRe_takeWord_29 rfl ?_
        refine r_iln eRe_takeWord_30 rfl ?_
        refine r_vir eRe_takeWord_31 rfl rfl rfl (cl_t hX (i := 1) rfl) rfl rfl ?_
        refine c_sg hX hf (by omega) ?_
        rw [← eh]
        show m_wp en _ mRe_takeWord 34 [some (.ref (X + 1)), some (.int (m_i (i)))] [(.int (m_i (h9))), (.int (m_i (v))), (.ref (X + 1))] (T, m_I ((((((((re_q J X fk fp p b k v)))))))), P, L, z, w) Q
        refine r_iln eRe_takeWord_34 rfl ?_
        refine r_aln eRe_takeWord_35 rfl ?_
        refine r_gete (x := p) eRe_takeWord_36 rfl (by decide) (cl_t hX (i := 1) rfl) (by rw [re_q_7]) ?_
        refine r_sub eRe_takeWord_39 ?_
        refine r_sta eRe_takeWord_40 rfl rfl (by decide) rfl ?_
        refine c_Re_letterBits (by omega) ?_
        show m_wp en _ mRe_takeWord 43 [some (.ref (X + 1)), some (.int (m_i (i)))] [(.int (m_i ((re_lb h9 (i - p))))), (.int (m_i (v))), (.ref (X + 1))] (T, m_I ((((((((((re_q J X fk fp p b k v)))))))))), P, L, z, w) Q
        refine r_or eRe_takeWord_43 ?_
        refine r_put eRe_takeWord_44 rfl (cl_t hX (i := 1) rfl) (cl_e hX 1) (Or.inl rfl) ?_
        rw [re_p10]
        refine r_inc (ls' := [some (.ref (X + 1)), some (.int (m_i (i + 1)))]) eRe_takeWord_47 rfl rfl ?_
        refine r_go (tgt := 5) eRe_takeWord_50 rfl ?_
        exact hy hd9
theorem c_Re_takeWord (hX : cl_sh en X T P) (hf : re_tb (J (X + 2)) (J (X + 1) 6)) (hp : 0 ≤ p ∧ p ≤ J (X + 1) 6) (hq : Q none (T, m_I (re_q J X fk fp p (a_end a_sl (J (X + 2)) (J (X + 1) 6) p) (if 6 < a_end a_sl (J (X + 2)) (J (X + 1) 6) p - p then 5 else 1) (re_wv (J (X + 2)) (J (X + 1) 6) p (J (X + 1) 6 - p).toNat p v)), P, L, z, w)) : m_call en (d + 2) mRe_takeWord [.ref (X + 1)] (T, m_I (re_q J X fk fp p b k v), P, L, z, w) Q := by
  have h2 := l_Re_takeWord (d := d) (b := b) (k := k) hX hf hp.1 (J (X + 1) 6 - p).toNat p v (by omega) (by omega) hq
  refine m_into (by decide) (Nat.le_of_ble_eq_true rfl) rfl ?_
  show m_wp en _ mRe_takeWord 0 [some (.ref (X + 1)), none] [] (T, m_I ((re_q J X fk fp p b k v)), P, L, z, w) Q
  refine r_aln eRe_takeWord_0 rfl ?_
  refine r_gete (x := p) eRe_takeWord_1 rfl (by decide) (cl_t hX (i := 1) rfl) (by rw [re_q_7]) ?_
  refine r_isn (ls' := [some (.ref (X + 1)), some (.int (m_i (p)))]) eRe_takeWord_4 (Nat.le_of_ble_eq_true rfl) rfl ?_
  exact h2
end TKN
