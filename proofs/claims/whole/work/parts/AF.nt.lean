/-! the class's reader: the next token, numbers -/
/-- the token at a place -/
def re_t2 (f : Nat → Int) (n p : Int) : Int × Int × Int × Int :=
  if n ≤ p then (p, p, 0, 0)
  else if a_sl (a_hr f n p) = true then (p, a_end a_sl f n p, (if 6 < a_end a_sl f n p - p then 5 else 1), re_wv f n p (n - p).toNat p 0)
  else if a_dg (a_hr f n p) = true then (p, a_end a_dg f n p, 2, re_dv f n (n - p).toNat p 0)
  else if a_hr f n p = 45 ∧ a_dg (a_hr f n (p + 1)) = true then (p, a_end a_dg f n (p + 1), 3, -(re_dv f n (n - (p + 1)).toNat (p + 1) 0))
  else (p, p + 1, (if a_hr f n p = 59 then 4 else 5), 0)
/-- the reader's state: fault, its place, place, behind, kind, value -/
def re_nt (f : Nat → Int) (n : Int) (y : a_Q) : a_Q := (y.1, y.2.1, re_t2 f n (a_end a_bk f n y.2.2.2.1))
def re_yb (n : Int) (y : a_Q) : Prop := (0 ≤ y.1 ∧ y.1 ≤ 3) ∧ (0 ≤ y.2.2.1 ∧ y.2.2.1 ≤ n) ∧ (0 ≤ y.2.2.2.1 ∧ y.2.2.2.1 ≤ n) ∧ (0 ≤ y.2.2.2.2.1 ∧ y.2.2.2.2.1 ≤ 5) ∧ m_in y.2.2.2.2.2 ∧ (y.2.2.2.2.1 = 2 ∨ y.2.2.2.2.1 = 3 → -1000000 ≤ y.2.2.2.2.2 ∧ y.2.2.2.2.2 ≤ 1000000)
def re_rf (x : Int) (y : a_Q) : a_Q := if y.1 = 0 then (x, y.2.2.1, y.2.2) else y
def re_wi (lo hi : Int) (y : a_Q) : Int × a_Q := if y.2.2.2.2.2 < lo ∨ hi < y.2.2.2.2.2 then (lo, re_rf 2 y) else (y.2.2.2.2.2, y)
def re_nb (f : Nat → Int) (n lo hi : Int) (y : a_Q) : Int × a_Q := if y.1 ≠ 0 then (lo, y) else if (re_nt f n y).2.2.2.2.1 ≠ 2 then (lo, re_rf 1 (re_nt f n y)) else re_wi lo hi (re_nt f n y)
def re_sn (f : Nat → Int) (n : Int) (y : a_Q) : Int × a_Q := if y.1 ≠ 0 then (0, y) else if (re_nt f n y).2.2.2.2.1 ≠ 2 ∧ (re_nt f n y).2.2.2.2.1 ≠ 3 then (0, re_rf 1 (re_nt f n y)) else re_wi (-4) 4 (re_nt f n y)
def re_ns (f : Nat → Int) (n : Int) (y : a_Q) : a_Q := if y.1 ≠ 0 then y else if (re_nt f n y).2.2.2.2.1 ≠ 4 then re_rf 1 (re_nt f n y) else re_nt f n y
def re_wn (W : Nat → Int) (y : a_Q) : Int := if y.2.2.2.2.1 = 1 then a_find W y.2.2.2.2.2 0 18 0 else -1
section NTK
variable {en : Nat → Nat} {d : Nat} {T : Nat → Option (Nat × Nat)} {J J0 J1 : Nat → Nat → Int} {P : Nat → Nat → Option Nat} {L : Nat → Nat → Int64} {z w X : Nat} {Q : m_Q} {fk fp p b k v x n : Int} {f : Nat → Int} {y : a_Q}
theorem re_rf_b (h : re_yb n y) (hx : 1 ≤ x ∧ x ≤ 3) : re_yb n (re_rf x y) := by
  unfold re_rf
  split
  · obtain ⟨h1, h2⟩ := h
    exact ⟨by show 0 ≤ x ∧ x ≤ 3; omega, h2⟩
  · exact h
theorem re_dv_b (ht : re_tb f n) : ∀ (m : Nat) (i v : Int), 0 ≤ i → (0 ≤ v ∧ v ≤ 1000000) → 0 ≤ re_dv f n m i v ∧ re_dv f n m i v ≤ 1000000 := by
  intro m
  induction m with
  | zero => intro i v _ h; exact h
  | succ m ih =>
    intro i v h0 h
    unfold re_dv
    split
    · next q =>
      have := of_decide_eq_true q
      exact ih (i + 1) _ (by omega) (by omega)
    · exact h
theorem re_wv_b : ∀ (m : Nat) (i v : Int), m_in v → m_in (re_wv f n p m i v) := by
  intro m
  induction m with
  | zero => intro i v h; exact h
  | succ m ih =>
    intro i v h
    unfold re_wv
    split
    · exact ih (i + 1) _ (m_or_in _ _)
    · exact h
theorem re_nt_b (ht : re_tb f n) (h : re_yb n y) : re_yb n (re_nt f n y) := by
  have hn := ht.1
  obtain ⟨h1, h2, h3, h4, h5, h6⟩ := h
  have e1 := a_end_bd (q := a_bk) (f := f) (n := n) (i := y.2.2.2.1) rfl h3.2
  obtain ⟨q9, eq9⟩ : ∃ q9, q9 = a_end a_bk f n y.2.2.2.1 := ⟨_, rfl⟩
  rw [← eq9] at e1
  unfold re_nt
  rw [← eq9]
  refine ⟨h1, ?_⟩
  unfold re_t2
  by_cases c1 : n ≤ q9
  · rw [if_pos c1]
    refine ⟨?_, ?_, ?_, ?_, ?_⟩ <;> simp only <;> first | omega | exact ⟨by omega, by omega⟩
  · rw [if_neg c1]
    have e2 := a_end_bd (q := a_sl) (f := f) (n := n) (i := q9) rfl (by omega)
    have e3 := a_end_bd (q := a_dg) (f := f) (n := n) (i := q9) rfl (by omega)
    have e4 := a_end_bd (q := a_dg) (f := f) (n := n) (i := q9 + 1) rfl (by omega)
    by_cases c2 : a_sl (a_hr f n q9) = true
    · rw [if_pos c2]
      have h9 := re_wv_b (f := f) (n := n) (p := q9) (n - q9).toNat q9 0 ⟨by omega, by omega⟩
      refine ⟨?_, ?_, ?_, h9, ?_⟩
      · simp only; omega
      · simp only; omega
      · simp only; split <;> omega
      · simp only; intro q; split at q <;> omega
    · rw [if_neg c2]
      by_cases c3 : a_dg (a_hr f n q9) = true
      · rw [if_pos c3]
        have h9 := re_dv_b ht (n - q9).toNat q9 0 (by omega) (by omega)
        refine ⟨?_, ?_, ?_, ?_, ?_⟩ <;> simp only <;> first | omega | exact ⟨by omega, by omega⟩
      · rw [if_neg c3]
        by_cases c4 : a_hr f n q9 = 45 ∧ a_dg (a_hr f n (q9 + 1)) = true
        · rw [if_pos c4]
          have h9 := re_dv_b ht (n - (q9 + 1)).toNat (q9 + 1) 0 (by omega) (by omega)
          refine ⟨?_, ?_, ?_, ?_, ?_⟩ <;> simp only <;> first | omega | exact ⟨by omega, by omega⟩
        · rw [if_neg c4]
          refine ⟨?_, ?_, ?_, ?_, ?_⟩
          · simp only; omega
          · simp only; omega
          · simp only; split <;> omega
          · simp only; exact ⟨by omega, by omega⟩
          · simp only; omega
theorem l30_Re_nextToken (hX : cl_sh en X T P) (hf : re_tb (J (X + 2)) (J (X + 1) 6)) {q9 : Int} (hq9 : 0 ≤ q9 ∧ q9 ≤ J (X + 1) 6) {o2 : Option Value} (hq : Q none (T, m_I (re_q J X fk fp (re_t2 (J (X + 2)) (J (X + 1) 6) q9).1 (re_t2 (J (X + 2)) (J (X + 1) 6) q9).2.1 (re_t2 (J (X + 2)) (J (X + 1) 6) q9).2.2.1 (re_t2 (J (X + 2)) (J (X + 1) 6) q9).2.2.2), P, L, z, w)) : m_wp en (d + 2) mRe_nextToken 30 [some (.ref (X + 1)), some (.int (m_i q9)), o2] [] (T, m_I (re_q J X fk fp p b k v), P, L, z, w) Q := by
  have hn := hf.1
  have hb := a_hr_b (i := q9) hf hq9.1
  have hb1 := a_hr_b (i := q9 + 1) hf (by omega)
  have c1 := a_b_c (a_sl (a_hr (J (X + 2)) (J (X + 1) 6) q9))
  have c2 := a_b_c (a_dg (a_hr (J (X + 2)) (J (X + 1) 6) q9))
  have c3 := a_b_c (a_dg (a_hr (J (X + 2)) (J (X + 1) 6) (q9 + 1)))
  obtain ⟨z1, ez1⟩ : ∃ z1, z1 = a_b (a_sl (a_hr (J (X + 2)) (J (X + 1) 6) q9)) := ⟨_, rfl⟩
  obtain ⟨z2, ez2⟩ : ∃ z2, z2 = a_b (a_dg (a_hr (J (X + 2)) (J (X + 1) 6) q9)) := ⟨_, rfl⟩
  obtain ⟨z3, ez3⟩ : ∃ z3, z3 = a_b (a_dg (a_hr (J (X + 2)) (J (X + 1) 6) (q9 + 1))) := ⟨_, rfl⟩
  rw [← ez1] at c1
  rw [← ez2] at c2
  rw [← ez3] at c3
  have d1 : z1 ≠ 0 → a_sl (a_hr (J (X + 2)) (J (X + 1) 6) q9) = true := fun q => by rcases c1 with r | r; exact r.2; omega
  have d1' : z1 = 0 → ¬ a_sl (a_hr (J (X + 2)) (J (X + 1) 6) q9) = true := fun q => by rcases c1 with r | r; omega; exact r.2
  have d2 : z2 ≠ 0 → a_dg (a_hr (J (X + 2)) (J (X + 1) 6) q9) = true := fun q => by rcases c2 with r | r; exact r.2; omega
  have d2' : z2 = 0 → ¬ a_dg (a_hr (J (X + 2)) (J (X + 1) 6) q9) = true := fun q => by rcases c2 with r | r; omega; exact r.2
  have d3 : z3 ≠ 0 → a_dg (a_hr (J (X + 2)) (J (X + 1) 6) (q9 + 1)) = true := fun q => by rcases c3 with r | r; exact r.2; omega
  have d3' : z3 = 0 → ¬ a_dg (a_hr (J (X + 2)) (J (X + 1) 6) (q9 + 1)) = true := fun q => by rcases c3 with r | r; omega; exact r.2
  have r1 : 0 ≤ z1 ∧ z1 ≤ 1 := by omega
  have r2 : 0 ≤ z2 ∧ z2 ≤ 1 := by omega
  have r3 : 0 ≤ z3 ∧ z3 ≤ 1 := by omega
  clear c1 c2 c3
  have h0 : J (X + 1) 6 ≤ q9 → Q none (T, m_I (re_q J X fk fp q9 q9 0 0), P, L, z, w) := fun q => by
    unfold re_t2 at hq; rw [if_pos q] at hq; exact hq
  have h1 : ¬ J (X + 1) 6 ≤ q9 → z1 ≠ 0 → Q none (T, m_I (re_q J X fk fp q9 (a_end a_sl (J (X + 2)) (J (X + 1) 6) q9) (if 6 < a_end a_sl (J (X + 2)) (J (X + 1) 6) q9 - q9 then 5 else 1) (re_wv (J (X + 2)) (J (X + 1) 6) q9 (J (X + 1) 6 - q9).toNat q9 0)), P, L, z, w) := fun q a => by
    unfold re_t2 at hq; rw [if_neg q, if_pos (d1 a)] at hq; exact hq
  have h2 : ¬ J (X + 1) 6 ≤ q9 → z1 = 0 → z2 ≠ 0 → Q none (T, m_I (re_q J X fk fp q9 (a_end a_dg (J (X + 2)) (J (X + 1) 6) q9) 2 (re_dv (J (X + 2)) (J (X + 1) 6) (J (X + 1) 6 - q9).toNat q9 0)), P, L, z, w) := fun q a c => by
    unfold re_t2 at hq; rw [if_neg q, if_neg (d1' a), if_pos (d2 c)] at hq; exact hq
  have h3 : ¬ J (X + 1) 6 ≤ q9 → z1 = 0 → z2 = 0 → (a_hr (J (X + 2)) (J (X + 1) 6) q9 = 45 ∧ z3 ≠ 0) → Q none (T, m_I (re_q J X fk fp q9 (a_end a_dg (J (X + 2)) (J (X + 1) 6) (q9 + 1)) 3 (-(re_dv (J (X + 2)) (J (X + 1) 6) (J (X + 1) 6 - (q9 + 1)).toNat (q9 + 1) 0))), P, L, z, w) := fun q a c e => by
    unfold re_t2 at hq; rw [if_neg q, if_neg (d1' a), if_neg (d2' c), if_pos ⟨e.1, d3 e.2⟩] at hq; exact hq
  have h4 : ¬ J (X + 1) 6 ≤ q9 → z1 = 0 → z2 = 0 → (a_hr (J (X + 2)) (J (X + 1) 6) q9 ≠ 45 ∨ z3 = 0) → Q none (T, m_I (re_q J X fk fp q9 (q9 + 1) (if a_hr (J (X + 2)) (J (X + 1) 6) q9 = 59 then 4 else 5) 0), P, L, z, w) := fun q a c e => by
    unfold re_t2 at hq; rw [if_neg q, if_neg (d1' a), if_neg (d2' c), if_neg (fun g => by rcases e with e | e; exact e g.1; exact d3' e g.2)] at hq; exact hq
  refine r_aln eRe_nextToken_30 rfl ?_
  refine r_iln eRe_nextToken_31 rfl ?_
  refine r_put eRe_nextToken_32 rfl (cl_t hX (i := 1) rfl) (cl_e hX 1) (Or.inl rfl) ?_
  rw [re_p7]
  refine r_aln eRe_nextToken_35 rfl ?_
  refine r_iln eRe_nextToken_36 rfl ?_
  refine r_con eRe_nextToken_37 ?_
  refine r_add eRe_nextToken_38 ?_
  refine r_put eRe_nextToken_39 rfl (cl_t hX (i := 1) rfl) (cl_e hX 1) (Or.inl rfl) ?_
  rw [re_p8]
  refine r_aln eRe_nextToken_42 rfl ?_
  refine r_con eRe_nextToken_43 ?_
  refine r_put eRe_nextToken_44 rfl (cl_t hX (i := 1) rfl) (cl_e hX 1) (Or.inl rfl) ?_
  rw [re_p10]
  refine r_aln eRe_nextToken_47 rfl ?_
  refine r_iln eRe_nextToken_48 rfl ?_
  refine r_vir eRe_nextToken_49 rfl rfl rfl (cl_t hX (i := 1) rfl) rfl rfl ?_
  refine c_sg hX hf (by omega) ?_
  show m_wp en _ mRe_nextToken 52 [some (.ref (X + 1)), some (.int (m_i (q9))), o2] [(.int (m_i ((a_hr (J (X + 2)) (J (X + 1) 6) (q9)))))] (T, m_I ((((re_q J X fk fp q9 ((q9) + (1)) k 0)))), P, L, z, w) Q
  refine r_isn (ls' := [some (.ref (X + 1)), some (.int (m_i (q9))), some (.int (m_i ((a_hr (J (X + 2)) (J (X + 1) 6) (q9)))))]) eRe_nextToken_52 (Nat.le_of_ble_eq_true rfl) rfl ?_
  refine r_iln eRe_nextToken_53 rfl ?_
  refine r_aln eRe_nextToken_54 rfl ?_
  refine r_gete (x := J (X + 1) 6) eRe_nextToken_55 rfl (by decide) (cl_t hX (i := 1) rfl) (by rw [re_q_o (by omega)]) ?_
  refine r_clt (tgt := 74) eRe_nextToken_58 rfl ⟨(by omega), (by omega)⟩ ⟨(by omega), (by omega)⟩ (fun c58 => ?_) (fun c58 => ?_)
  · refine r_iln eRe_nextToken_74 rfl ?_
    refine r_sta eRe_nextToken_75 rfl rfl (by decide) rfl ?_
    refine c_Re_isLetter (by omega) ?_
    show m_wp en _ mRe_nextToken 78 [some (.ref (X + 1)), some (.int (m_i (q9))), some (.int (m_i ((a_hr (J (X + 2)) (J (X + 1) 6) (q9)))))] [(.int (m_i ((a_b (a_sl (((a_hr (J (X + 2)) (J (X + 1) 6) (q9)))))))))] (T, m_I ((((((re_q J X fk fp q9 ((q9) + (1)) k 0)))))), P, L, z, w) Q
    rw [← ez1]
    refine r_zeq (tgt := 88) eRe_nextToken_78 rfl ⟨(by omega), (by omega)⟩ (fun c78 => ?_) (fun c78 => ?_)
    · refine r_iln eRe_nextToken_88 rfl ?_
      refine r_sta eRe_nextToken_89 rfl rfl (by decide) rfl ?_
      refine c_Re_isDigit (by omega) ?_
      show m_wp en _ mRe_nextToken 92 [some (.ref (X + 1)), some (.int (m_i (q9))), some (.int (m_i ((a_hr (J (X + 2)) (J (X + 1) 6) (q9)))))] [(.int (m_i ((a_b (a_dg (((a_hr (J (X + 2)) (J (X + 1) 6) (q9)))))))))] (T, m_I ((((((((re_q J X fk fp q9 ((q9) + (1)) k 0)))))))), P, L, z, w) Q
      rw [← ez2]
      refine r_zeq (tgt := 108) eRe_nextToken_92 rfl ⟨(by omega), (by omega)⟩ (fun c92 => ?_) (fun c92 => ?_)
      · refine r_iln eRe_nextToken_108 rfl ?_
        refine r_bip eRe_nextToken_109 (by decide) ?_
        refine r_cne (tgt := 151) eRe_nextToken_111 rfl ⟨(by omega), (by omega)⟩ ⟨(by omega), (by omega)⟩ (fun c111 => ?_) (fun c111 => ?_)
        · refine r_aln eRe_nextToken_151 rfl ?_
          refine r_iln eRe_nextToken_152 rfl ?_
          refine r_bip eRe_nextToken_153 (by decide) ?_
          refine r_cne (tgt := 162) eRe_nextToken_155 rfl ⟨(by omega), (by omega)⟩ ⟨(by omega), (by omega)⟩ (fun c155 => ?_) (fun c155 => ?_)
          · refine r_con eRe_nextToken_162 ?_
            refine r_put eRe_nextToken_163 rfl (cl_t hX (i := 1) rfl) (cl_e hX 1) (Or.inl rfl) ?_
            rw [re_p9]
            refine r_ret eRe_nextToken_166 rfl ?_
            first | exact h0 (by omega) | exact h1 (by omega) (by omega) | exact h2 (by omega) (by omega) (by omega) | exact h3 (by omega) (by omega) (by omega) (by omega) | (have h5 := h4 (by omega) (by omega) (by omega) (by omega); rw [if_pos (by omega)] at h5; exact h5) | (have h5 := h4 (by omega) (by omega) (by omega) (by omega); rw [if_neg (by omega)] at h5; exact h5)
          · refine r_con eRe_nextToken_158 ?_
            refine r_go (tgt := 163) eRe_nextToken_159 rfl ?_
            refine r_put eRe_nextToken_163 rfl (cl_t hX (i := 1) rfl) (cl_e hX 1) (Or.inl rfl) ?_
            rw [re_p9]
            refine r_ret eRe_nextToken_166 rfl ?_
            first | exact h0 (by omega) | exact h1 (by omega) (by omega) | exact h2 (by omega) (by omega) (by omega) | exact h3 (by omega) (by omega) (by omega) (by omega) | (have h5 := h4 (by omega) (by omega) (by omega) (by omega); rw [if_pos (by omega)] at h5; exact h5) | (have h5 := h4 (by omega) (by omega) (by omega) (by omega); rw [if_neg (by omega)] at h5; exact h5)
        · refine r_aln eRe_nextToken_114 rfl ?_
          refine r_iln eRe_nextToken_115 rfl ?_
          refine r_con eRe_nextToken_116 ?_
          refine r_add eRe_nextToken_117 ?_
          refine r_vir eRe_nextToken_118 rfl rfl rfl (cl_t hX (i := 1) rfl) rfl rfl ?_
          refine c_sg hX hf (by omega) ?_
          show m_wp en _ mRe_nextToken 121 [some (.ref (X + 1)), some (.int (m_i (q9))), some (.int (m_i ((a_hr (J (X + 2)) (J (X + 1) 6) (q9)))))] [(.int (m_i ((a_hr (J (X + 2)) (J (X + 1) 6) (((q9) + (1)))))))] (T, m_I ((((((((((re_q J X fk fp q9 ((q9) + (1)) k 0)))))))))), P, L, z, w) Q
          refine r_sta eRe_nextToken_121 rfl rfl (by decide) rfl ?_
          refine c_Re_isDigit (by omega) ?_
          show m_wp en _ mRe_nextToken 124 [some (.ref (X + 1)), some (.int (m_i (q9))), some (.int (m_i ((a_hr (J (X + 2)) (J (X + 1) 6) (q9)))))] [(.int (m_i ((a_b (a_dg (((a_hr (J (X + 2)) (J (X + 1) 6) (((q9) + (1)))))))))))] (T, m_I ((((((((((((re_q J X fk fp q9 ((q9) + (1)) k 0)))))))))))), P, L, z, w) Q
          rw [← ez3]
          refine r_zeq (tgt := 151) eRe_nextToken_124 rfl ⟨(by omega), (by omega)⟩ (fun c124 => ?_) (fun c124 => ?_)
          · refine r_aln eRe_nextToken_151 rfl ?_
            refine r_iln eRe_nextToken_152 rfl ?_
            refine r_bip eRe_nextToken_153 (by decide) ?_
            refine r_cne (tgt := 162) eRe_nextToken_155 rfl ⟨(by omega), (by omega)⟩ ⟨(by omega), (by omega)⟩ (fun c155 => ?_) (fun c155 => ?_)
            · refine r_con eRe_nextToken_162 ?_
              refine r_put eRe_nextToken_163 rfl (cl_t hX (i := 1) rfl) (cl_e hX 1) (Or.inl rfl) ?_
              rw [re_p9]
              refine r_ret eRe_nextToken_166 rfl ?_
              first | exact h0 (by omega) | exact h1 (by omega) (by omega) | exact h2 (by omega) (by omega) (by omega) | exact h3 (by omega) (by omega) (by omega) (by omega) | (have h5 := h4 (by omega) (by omega) (by omega) (by omega); rw [if_pos (by omega)] at h5; exact h5) | (have h5 := h4 (by omega) (by omega) (by omega) (by omega); rw [if_neg (by omega)] at h5; exact h5)
            · refine r_con eRe_nextToken_158 ?_
              refine r_go (tgt := 163) eRe_nextToken_159 rfl ?_
              refine r_put eRe_nextToken_163 rfl (cl_t hX (i := 1) rfl) (cl_e hX 1) (Or.inl rfl) ?_
              rw [re_p9]
              refine r_ret eRe_nextToken_166 rfl ?_
              first | exact h0 (by omega) | exact h1 (by omega) (by omega) | exact h2 (by omega) (by omega) (by omega) | exact h3 (by omega) (by omega) (by omega) (by omega) | (have h5 := h4 (by omega) (by omega) (by omega) (by omega); rw [if_pos (by omega)] at h5; exact h5) | (have h5 := h4 (by omega) (by omega) (by omega) (by omega); rw [if_neg (by omega)] at h5; exact h5)
          · refine r_aln eRe_nextToken_127 rfl ?_
            refine r_con eRe_nextToken_128 ?_
            refine r_put eRe_nextToken_129 rfl (cl_t hX (i := 1) rfl) (cl_e hX 1) (Or.inl rfl) ?_
            rw [re_p9]
            refine r_aln eRe_nextToken_132 rfl ?_
            refine r_iln eRe_nextToken_133 rfl ?_
            refine r_con eRe_nextToken_134 ?_
            refine r_add eRe_nextToken_135 ?_
            refine r_vir eRe_nextToken_136 rfl rfl rfl (cl_t hX (i := 1) rfl) rfl rfl ?_
            refine c_Re_takeDigits hX hf (by omega) (by omega) ?_
            show m_wp en _ mRe_nextToken 139 [some (.ref (X + 1)), some (.int (m_i (q9))), some (.int (m_i ((a_hr (J (X + 2)) (J (X + 1) 6) (q9)))))] [] (T, m_I (((re_q J X fk fp q9 (a_end a_dg (J (X + 2)) (J (X + 1) 6) (((q9) + (1)))) 3 (re_dv (J (X + 2)) (J (X + 1) 6) (J (X + 1) 6 - (((q9) + (1)))).toNat (((q9) + (1))) 0)))), P, L, z, w) Q
            refine r_aln eRe_nextToken_139 rfl ?_
            refine r_aln eRe_nextToken_140 rfl ?_
            refine r_gete (x := (re_dv (J (X + 2)) (J (X + 1) 6) (J (X + 1) 6 - (((q9) + (1)))).toNat (((q9) + (1))) 0)) eRe_nextToken_141 rfl (by decide) (cl_t hX (i := 1) rfl) (by rw [re_q_10]) ?_
            refine r_neg eRe_nextToken_144 ?_
            refine r_put eRe_nextToken_145 rfl (cl_t hX (i := 1) rfl) (cl_e hX 1) (Or.inl rfl) ?_
            rw [re_p10]
            refine r_go (tgt := 166) eRe_nextToken_148 rfl ?_
            refine r_ret eRe_nextToken_166 rfl ?_
            first | exact h0 (by omega) | exact h1 (by omega) (by omega) | exact h2 (by omega) (by omega) (by omega) | exact h3 (by omega) (by omega) (by omega) (by omega) | (have h5 := h4 (by omega) (by omega) (by omega) (by omega); rw [if_pos (by omega)] at h5; exact h5) | (have h5 := h4 (by omega) (by omega) (by omega) (by omega); rw [if_neg (by omega)] at h5; exact h5)
      · refine r_aln eRe_nextToken_95 rfl ?_
        refine r_con eRe_nextToken_96 ?_
        refine r_put eRe_nextToken_97 rfl (cl_t hX (i := 1) rfl) (cl_e hX 1) (Or.inl rfl) ?_
        rw [re_p9]
        refine r_aln eRe_nextToken_100 rfl ?_
        refine r_iln eRe_nextToken_101 rfl ?_
        refine r_vir eRe_nextToken_102 rfl rfl rfl (cl_t hX (i := 1) rfl) rfl rfl ?_
        refine c_Re_takeDigits hX hf (by omega) (by omega) ?_
        show m_wp en _ mRe_nextToken 105 [some (.ref (X + 1)), some (.int (m_i (q9))), some (.int (m_i ((a_hr (J (X + 2)) (J (X + 1) 6) (q9)))))] [] (T, m_I (((re_q J X fk fp q9 (a_end a_dg (J (X + 2)) (J (X + 1) 6) (q9)) 2 (re_dv (J (X + 2)) (J (X + 1) 6) (J (X + 1) 6 - (q9)).toNat (q9) 0)))), P, L, z, w) Q
        refine r_go (tgt := 166) eRe_nextToken_105 rfl ?_
        refine r_ret eRe_nextToken_166 rfl ?_
        first | exact h0 (by omega) | exact h1 (by omega) (by omega) | exact h2 (by omega) (by omega) (by omega) | exact h3 (by omega) (by omega) (by omega) (by omega) | (have h5 := h4 (by omega) (by omega) (by omega) (by omega); rw [if_pos (by omega)] at h5; exact h5) | (have h5 := h4 (by omega) (by omega) (by omega) (by omega); rw [if_neg (by omega)] at h5; exact h5)
    · refine r_aln eRe_nextToken_81 rfl ?_
      refine r_vir eRe_nextToken_82 rfl rfl rfl (cl_t hX (i := 1) rfl) rfl rfl ?_
      refine c_Re_takeWord hX hf (by omega) ?_
      show m_wp en _ mRe_nextToken 85 [some (.ref (X + 1)), some (.int (m_i (q9))), some (.int (m_i ((a_hr (J (X + 2)) (J (X + 1) 6) (q9)))))] [] (T, m_I (((re_q J X fk fp q9 (a_end a_sl (J (X + 2)) (J (X + 1) 6) q9) (if 6 < a_end a_sl (J (X + 2)) (J (X + 1) 6) q9 - q9 then 5 else 1) (re_wv (J (X + 2)) (J (X + 1) 6) q9 (J (X + 1) 6 - q9).toNat q9 0)))), P, L, z, w) Q
      refine r_go (tgt := 166) eRe_nextToken_85 rfl ?_
      refine r_ret eRe_nextToken_166 rfl ?_
      first | exact h0 (by omega) | exact h1 (by omega) (by omega) | exact h2 (by omega) (by omega) (by omega) | exact h3 (by omega) (by omega) (by omega) (by omega) | (have h5 := h4 (by omega) (by omega) (by omega) (by omega); rw [if_pos (by omega)] at h5; exact h5) | (have h5 := h4 (by omega) (by omega) (by omega) (by omega); rw [if_neg (by omega)] at h5; exact h5)
  · refine r_aln eRe_nextToken_61 rfl ?_
    refine r_con eRe_nextToken_62 ?_
    refine r_put eRe_nextToken_63 rfl (cl_t hX (i := 1) rfl) (cl_e hX 1) (Or.inl rfl) ?_
    rw [re_p9]
    refine r_aln eRe_nextToken_66 rfl ?_
    refine r_iln eRe_nextToken_67 rfl ?_
    refine r_put eRe_nextToken_68 rfl (cl_t hX (i := 1) rfl) (cl_e hX 1) (Or.inl rfl) ?_
    rw [re_p8]
    refine r_go (tgt := 166) eRe_nextToken_71 rfl ?_
    refine r_ret eRe_nextToken_166 rfl ?_
    first | exact h0 (by omega) | exact h1 (by omega) (by omega) | exact h2 (by omega) (by omega) (by omega) | exact h3 (by omega) (by omega) (by omega) (by omega) | (have h5 := h4 (by omega) (by omega) (by omega) (by omega); rw [if_pos (by omega)] at h5; exact h5) | (have h5 := h4 (by omega) (by omega) (by omega) (by omega); rw [if_neg (by omega)] at h5; exact h5)
theorem l5_Re_nextToken (hX : cl_sh en X T P) (hf : re_tb (J (X + 2)) (J (X + 1) 6)) : ∀ (m : Nat) (i : Int), i + m = J (X + 1) 6 → 0 ≤ i → m_wp en (d + 2) mRe_nextToken 30 [some (.ref (X + 1)), some (.int (m_i (a_run a_bk (J (X + 2)) (J (X + 1) 6) m i))), none] [] (T, m_I (re_q J X fk fp p b k v), P, L, z, w) Q → m_wp en (d + 2) mRe_nextToken 5 [some (.ref (X + 1)), some (.int (m_i i)), none] [] (T, m_I (re_q J X fk fp p b k v), P, L, z, w) Q := by
  have hn := hf.1
  intro m
  induction m with
  | zero =>
    intro i hi h0 hq
    unfold a_run at hq
    refine r_iln eRe_nextToken_5 rfl ?_
    refine r_aln eRe_nextToken_6 rfl ?_
    refine r_gete (x := J (X + 1) 6) eRe_nextToken_7 rfl (by decide) (cl_t hX (i := 1) rfl) (by rw [re_q_o (by omega)]) ?_
    refine r_cge (tgt := 30) eRe_nextToken_10 rfl ⟨(by omega), (by omega)⟩ ⟨(by omega), (by omega)⟩ (fun c10 => ?_) (fun c10 => ?_)
    · exact hq
    · exfalso; omega
  | succ m ih =>
    intro i hi h0 hq
    obtain ⟨h9, eh⟩ : ∃ h9, h9 = a_hr (J (X + 2)) (J (X + 1) 6) i := ⟨_, rfl⟩
    have hb := a_hr_b (i := i) hf (by omega)
    rw [← eh] at hb
    have hc := a_b_c (a_bk h9)
    unfold a_run at hq
    rw [← eh] at hq
    have hy : a_b (a_bk h9) ≠ 0 → m_wp en (d + 2) mRe_nextToken 5 [some (.ref (X + 1)), some (.int (m_i (i + 1))), none] [] (T, m_I (re_q J X fk fp p b k v), P, L, z, w) Q := fun q => by
      rw [if_pos (by rcases hc with r | r; exact r.2; omega)] at hq
      exact ih (i + 1) (by omega) (by omega) hq
    have hn0 : a_b (a_bk h9) = 0 → m_wp en (d + 2) mRe_nextToken 30 [some (.ref (X + 1)), some (.int (m_i i)), none] [] (T, m_I (re_q J X fk fp p b k v), P, L, z, w) Q := fun q => by
      rw [if_neg (by rcases hc with r | r; omega; exact r.2)] at hq
      exact hq
    have hc2 : 0 ≤ a_b (a_bk h9) ∧ a_b (a_bk h9) ≤ 1 := by omega
    clear hc
    refine r_iln eRe_nextToken_5 rfl ?_
    refine r_aln eRe_nextToken_6 rfl ?_
    refine r_gete (x := J (X + 1) 6) eRe_nextToken_7 rfl (by decide) (cl_t hX (i := 1) rfl) (by rw [re_q_o (by omega)]) ?_
    refine r_cge (tgt := 30) eRe_nextToken_10 rfl ⟨(by omega), (by omega)⟩ ⟨(by omega), (by omega)⟩ (fun c10 => ?_) (fun c10 => ?_)
    · first | (exfalso; omega) | exact hn0 (by omega)
    · refine r_aln eRe_nextToken_13 rfl ?_
      refine r_iln eRe_nextToken_14 rfl ?_
      refine r_vir eRe_nextToken_15 rfl rfl rfl (cl_t hX (i := 1) rfl) rfl rfl ?_
      refine c_sg hX hf (by omega) ?_
      rw [← eh]
      show m_wp en _ mRe_nextToken 18 [some (.ref (X + 1)), some (.int (m_i (i))), none] [(.int (m_i (h9)))] (T, m_I ((((re_q J X fk fp p b k v)))), P, L, z, w) Q
      refine r_sta eRe_nextToken_18 rfl rfl (by decide) rfl ?_
      refine c_Re_isBlank (by omega) ?_
      show m_wp en _ mRe_nextToken 21 [some (.ref (X + 1)), some (.int (m_i (i))), none] [(.int (m_i ((a_b (a_bk h9)))))] (T, m_I ((((((re_q J X fk fp p b k v)))))), P, L, z, w) Q
      refine r_zeq (tgt := 30) eRe_nextToken_21 rfl ⟨(by omega), (by omega)⟩ (fun c21 => ?_) (fun c21 => ?_)
      · first | (exfalso; omega) | exact hn0 (by omega)
      · refine r_inc (ls' := [some (.ref (X + 1)), some (.int (m_i (i + 1))), none]) eRe_nextToken_24 rfl rfl ?_
        refine r_go (tgt := 5) eRe_nextToken_27 rfl ?_
        exact hy (by omega)
theorem c_Re_nextToken (hX : cl_sh en X T P) (hf : re_tb (J (X + 2)) (J (X + 1) 6)) (hy : re_yb (J (X + 1) 6) y) (hq : ∀ y', y' = re_nt (J (X + 2)) (J (X + 1) 6) y → re_yb (J (X + 1) 6) y' → Q none (T, m_I (re_q J X y'.1 y'.2.1 y'.2.2.1 y'.2.2.2.1 y'.2.2.2.2.1 y'.2.2.2.2.2), P, L, z, w)) : m_call en (d + 3) mRe_nextToken [.ref (X + 1)] (T, m_I (re_q J X y.1 y.2.1 y.2.2.1 y.2.2.2.1 y.2.2.2.2.1 y.2.2.2.2.2), P, L, z, w) Q := by
  have hy0 := hy
  obtain ⟨h1, h2, h3, h4, h5, h6⟩ := hy0
  have e1 := a_end_bd (q := a_bk) (f := J (X + 2)) (n := J (X + 1) 6) (i := y.2.2.2.1) rfl h3.2
  have h9 := l5_Re_nextToken (d := d) (fk := y.1) (fp := y.2.1) (p := y.2.2.1) (b := y.2.2.2.1) (k := y.2.2.2.2.1) (v := y.2.2.2.2.2) hX hf (J (X + 1) 6 - y.2.2.2.1).toNat y.2.2.2.1 (by omega) h3.1 (l30_Re_nextToken (d := d) (q9 := a_end a_bk (J (X + 2)) (J (X + 1) 6) y.2.2.2.1) hX hf (by omega) (hq _ rfl (re_nt_b hf hy)))
  refine m_into (by decide) (Nat.le_of_ble_eq_true rfl) rfl ?_
  show m_wp en _ mRe_nextToken 0 [some (.ref (X + 1)), none, none] [] (T, m_I ((re_q J X y.1 y.2.1 y.2.2.1 y.2.2.2.1 y.2.2.2.2.1 y.2.2.2.2.2)), P, L, z, w) Q
  refine r_aln eRe_nextToken_0 rfl ?_
  refine r_gete (x := y.2.2.2.1) eRe_nextToken_1 rfl (by decide) (cl_t hX (i := 1) rfl) (by rw [re_q_8]) ?_
  refine r_isn (ls' := [some (.ref (X + 1)), some (.int (m_i (y.2.2.2.1))), none]) eRe_nextToken_4 (Nat.le_of_ble_eq_true rfl) rfl ?_
  exact h9
end NTK
