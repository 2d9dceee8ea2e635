/-! the class's reader: its fields set apart -/
def re_q (J : Nat → Nat → Int) (X : Nat) (fk fp p b k v : Int) : Nat → Nat → Int := fun c i => if c = X + 1 ∧ i = 3 then fk else if c = X + 1 ∧ i = 4 then fp else if c = X + 1 ∧ i = 7 then p else if c = X + 1 ∧ i = 8 then b else if c = X + 1 ∧ i = 9 then k else if c = X + 1 ∧ i = 10 then v else J c i
section REQ
variable {J : Nat → Nat → Int} {X : Nat} {fk fp p b k v x : Int}
theorem re_q_3 : re_q J X fk fp p b k v (X + 1) 3 = fk := by simp [re_q]
theorem re_q_4 : re_q J X fk fp p b k v (X + 1) 4 = fp := by simp [re_q]
theorem re_q_7 : re_q J X fk fp p b k v (X + 1) 7 = p := by simp [re_q]
theorem re_q_8 : re_q J X fk fp p b k v (X + 1) 8 = b := by simp [re_q]
theorem re_q_9 : re_q J X fk fp p b k v (X + 1) 9 = k := by simp [re_q]
theorem re_q_10 : re_q J X fk fp p b k v (X + 1) 10 = v := by simp [re_q]
theorem re_q_o {c i : Nat} (h : ¬ (c = X + 1 ∧ (i = 3 ∨ i = 4 ∨ i = 7 ∨ i = 8 ∨ i = 9 ∨ i = 10))) : re_q J X fk fp p b k v c i = J c i := by
  unfold re_q
  rw [if_neg (by omega), if_neg (by omega), if_neg (by omega), if_neg (by omega), if_neg (by omega), if_neg (by omega)]
theorem re_p3 : m_up (re_q J X fk fp p b k v) (X + 1) 3 x = re_q J X x fp p b k v := by
  funext c i
  simp only [m_up, re_q]
  by_cases h : c = X + 1 <;> by_cases h2 : i = 3 <;> simp [h, h2]
theorem re_p4 : m_up (re_q J X fk fp p b k v) (X + 1) 4 x = re_q J X fk x p b k v := by
  funext c i
  simp only [m_up, re_q]
  by_cases h : c = X + 1 <;> by_cases h2 : i = 4 <;> simp [h, h2]
theorem re_p7 : m_up (re_q J X fk fp p b k v) (X + 1) 7 x = re_q J X fk fp x b k v := by
  funext c i
  simp only [m_up, re_q]
  by_cases h : c = X + 1 <;> by_cases h2 : i = 7 <;> simp [h, h2]
theorem re_p8 : m_up (re_q J X fk fp p b k v) (X + 1) 8 x = re_q J X fk fp p x k v := by
  funext c i
  simp only [m_up, re_q]
  by_cases h : c = X + 1 <;> by_cases h2 : i = 8 <;> simp [h, h2]
theorem re_p9 : m_up (re_q J X fk fp p b k v) (X + 1) 9 x = re_q J X fk fp p b x v := by
  funext c i
  simp only [m_up, re_q]
  by_cases h : c = X + 1 <;> by_cases h2 : i = 9 <;> simp [h, h2]
theorem re_p10 : m_up (re_q J X fk fp p b k v) (X + 1) 10 x = re_q J X fk fp p b k x := by
  funext c i
  simp only [m_up, re_q]
  by_cases h : c = X + 1 <;> by_cases h2 : i = 10 <;> simp [h, h2]
theorem re_up {a j : Nat} (h : ¬ (a = X + 1 ∧ (j = 3 ∨ j = 4 ∨ j = 7 ∨ j = 8 ∨ j = 9 ∨ j = 10))) : m_up (re_q J X fk fp p b k v) a j x = re_q (m_up J a j x) X fk fp p b k v := by
  funext c i
  by_cases q : c = X + 1 ∧ (i = 3 ∨ i = 4 ∨ i = 7 ∨ i = 8 ∨ i = 9 ∨ i = 10)
  · rw [m_up_at, if_neg (fun e => h (by obtain ⟨e1, e2⟩ := e; subst e1; subst e2; exact q))]
    obtain ⟨rfl, q⟩ := q
    rcases q with rfl | rfl | rfl | rfl | rfl | rfl
    · rw [re_q_3, re_q_3]
    · rw [re_q_4, re_q_4]
    · rw [re_q_7, re_q_7]
    · rw [re_q_8, re_q_8]
    · rw [re_q_9, re_q_9]
    · rw [re_q_10, re_q_10]
  · rw [re_q_o q, m_up_at, m_up_at, re_q_o q]
theorem re_q_s : re_q J X (J (X + 1) 3) (J (X + 1) 4) (J (X + 1) 7) (J (X + 1) 8) (J (X + 1) 9) (J (X + 1) 10) = J := by
  funext c i
  by_cases q : c = X + 1 ∧ (i = 3 ∨ i = 4 ∨ i = 7 ∨ i = 8 ∨ i = 9 ∨ i = 10)
  · obtain ⟨rfl, q⟩ := q
    rcases q with rfl | rfl | rfl | rfl | rfl | rfl
    · exact re_q_3
    · exact re_q_4
    · exact re_q_7
    · exact re_q_8
    · exact re_q_9
    · exact re_q_10
  · exact re_q_o q
end REQ
/-- a sign of the tape; -1 behind its end -/
def re_sg (f : Nat → Int) (n i : Int) : Int := if 0 ≤ i ∧ i < n then f i.toNat else -1
def re_tb (f : Nat → Int) (n : Int) : Prop := (0 ≤ n ∧ n ≤ 700) ∧ ∀ i : Nat, i < 700 → -128 ≤ f i ∧ f i ≤ 127
section REA
variable {en : Nat → Nat} {d : Nat} {me : m_Me} {pc : Nat} {ls : m_L} {st : List Value} {T : Nat → Option (Nat × Nat)} {J J0 J1 : Nat → Nat → Int} {P : Nat → Nat → Option Nat} {L : Nat → Nat → Int64} {z w X : Nat} {Q : m_Q} {fk fp p b k v x n : Int}
theorem r_gst {q k : Nat} {s : m_S} (hd : decode me.2.2.1 pc = .ok (.getstatic q, 3)) (hG : m_G me.1 q = some k) (kk : m_wp en d me (pc + 3) ls (.ref (en k) :: st) s Q) : m_wp en d me pc ls st s Q := m_next hd (by simp only [m_st, hG]; rfl) kk
theorem re_sg_b {f : Nat → Int} {i : Int} (h : re_tb f n) : -128 ≤ re_sg f n i ∧ re_sg f n i ≤ 127 := by
  unfold re_sg
  split
  · exact h.2 _ (by have := h.1; omega)
  · omega
theorem c_Re_isLetter (hx : -1000 ≤ x ∧ x ≤ 1000) (hq : Q (some (.int (m_i (a_b (a_sl x))))) (T, m_I J, P, L, z, w)) : m_call en (d + 1) mRe_isLetter [.int (m_i x)] (T, m_I J, P, L, z, w) Q := by
  unfold a_sl at hq
  refine m_into (by decide) (Nat.le_of_ble_eq_true rfl) rfl ?_
  show m_wp en _ mRe_isLetter 0 [some (.int (m_i (x)))] [] (T, m_I J, P, L, z, w) Q
  refine r_iln eRe_isLetter_0 rfl ?_
  refine r_bip eRe_isLetter_1 (by decide) ?_
  refine r_clt (tgt := 16) eRe_isLetter_3 rfl ⟨(by omega), (by omega)⟩ ⟨(by omega), (by omega)⟩ (fun c3 => ?_) (fun c3 => ?_)
  · refine r_con eRe_isLetter_16 ?_
    refine r_zret eRe_isLetter_17 rfl (by first | exact Or.inl rfl | exact Or.inr rfl | omega) ?_
    first | (rw [a_b_t (decide_eq_true (by omega))] at hq; exact hq) | (rw [a_b_f (by rw [decide_eq_true_eq]; omega)] at hq; exact hq)
  · refine r_iln eRe_isLetter_6 rfl ?_
    refine r_bip eRe_isLetter_7 (by decide) ?_
    refine r_cgt (tgt := 16) eRe_isLetter_9 rfl ⟨(by omega), (by omega)⟩ ⟨(by omega), (by omega)⟩ (fun c9 => ?_) (fun c9 => ?_)
    · refine r_con eRe_isLetter_16 ?_
      refine r_zret eRe_isLetter_17 rfl (by first | exact Or.inl rfl | exact Or.inr rfl | omega) ?_
      first | (rw [a_b_t (decide_eq_true (by omega))] at hq; exact hq) | (rw [a_b_f (by rw [decide_eq_true_eq]; omega)] at hq; exact hq)
    · refine r_con eRe_isLetter_12 ?_
      refine r_go (tgt := 17) eRe_isLetter_13 rfl ?_
      refine r_zret eRe_isLetter_17 rfl (by first | exact Or.inl rfl | exact Or.inr rfl | omega) ?_
      first | (rw [a_b_t (decide_eq_true (by omega))] at hq; exact hq) | (rw [a_b_f (by rw [decide_eq_true_eq]; omega)] at hq; exact hq)
theorem c_Re_isDigit (hx : -1000 ≤ x ∧ x ≤ 1000) (hq : Q (some (.int (m_i (a_b (a_dg x))))) (T, m_I J, P, L, z, w)) : m_call en (d + 1) mRe_isDigit [.int (m_i x)] (T, m_I J, P, L, z, w) Q := by
  unfold a_dg at hq
  refine m_into (by decide) (Nat.le_of_ble_eq_true rfl) rfl ?_
  show m_wp en _ mRe_isDigit 0 [some (.int (m_i (x)))] [] (T, m_I J, P, L, z, w) Q
  refine r_iln eRe_isDigit_0 rfl ?_
  refine r_bip eRe_isDigit_1 (by decide) ?_
  refine r_clt (tgt := 16) eRe_isDigit_3 rfl ⟨(by omega), (by omega)⟩ ⟨(by omega), (by omega)⟩ (fun c3 => ?_) (fun c3 => ?_)
  · refine r_con eRe_isDigit_16 ?_
    refine r_zret eRe_isDigit_17 rfl (by first | exact Or.inl rfl | exact Or.inr rfl | omega) ?_
    first | (rw [a_b_t (decide_eq_true (by omega))] at hq; exact hq) | (rw [a_b_f (by rw [decide_eq_true_eq]; omega)] at hq; exact hq)
  · refine r_iln eRe_isDigit_6 rfl ?_
    refine r_bip eRe_isDigit_7 (by decide) ?_
    refine r_cgt (tgt := 16) eRe_isDigit_9 rfl ⟨(by omega), (by omega)⟩ ⟨(by omega), (by omega)⟩ (fun c9 => ?_) (fun c9 => ?_)
    · refine r_con eRe_isDigit_16 ?_
      refine r_zret eRe_isDigit_17 rfl (by first | exact Or.inl rfl | exact Or.inr rfl | omega) ?_
      first | (rw [a_b_t (decide_eq_true (by omega))] at hq; exact hq) | (rw [a_b_f (by rw [decide_eq_true_eq]; omega)] at hq; exact hq)
    · refine r_con eRe_isDigit_12 ?_
      refine r_go (tgt := 17) eRe_isDigit_13 rfl ?_
      refine r_zret eRe_isDigit_17 rfl (by first | exact Or.inl rfl | exact Or.inr rfl | omega) ?_
      first | (rw [a_b_t (decide_eq_true (by omega))] at hq; exact hq) | (rw [a_b_f (by rw [decide_eq_true_eq]; omega)] at hq; exact hq)
theorem c_Re_isBlank (hx : -1000 ≤ x ∧ x ≤ 1000) (hq : Q (some (.int (m_i (a_b (a_bk x))))) (T, m_I J, P, L, z, w)) : m_call en (d + 1) mRe_isBlank [.int (m_i x)] (T, m_I J, P, L, z, w) Q := by
  unfold a_bk at hq
  refine m_into (by decide) (Nat.le_of_ble_eq_true rfl) rfl ?_
  show m_wp en _ mRe_isBlank 0 [some (.int (m_i (x)))] [] (T, m_I J, P, L, z, w) Q
  refine r_iln eRe_isBlank_0 rfl ?_
  refine r_bip eRe_isBlank_1 (by decide) ?_
  refine r_ceq (tgt := 12) eRe_isBlank_3 rfl ⟨(by omega), (by omega)⟩ ⟨(by omega), (by omega)⟩ (fun c3 => ?_) (fun c3 => ?_)
  · refine r_con eRe_isBlank_12 ?_
    refine r_go (tgt := 17) eRe_isBlank_13 rfl ?_
    refine r_zret eRe_isBlank_17 rfl (by first | exact Or.inl rfl | exact Or.inr rfl | omega) ?_
    first | (rw [a_b_t (decide_eq_true (by omega))] at hq; exact hq) | (rw [a_b_f (by rw [decide_eq_true_eq]; omega)] at hq; exact hq)
  · refine r_iln eRe_isBlank_6 rfl ?_
    refine r_bip eRe_isBlank_7 (by decide) ?_
    refine r_cne (tgt := 16) eRe_isBlank_9 rfl ⟨(by omega), (by omega)⟩ ⟨(by omega), (by omega)⟩ (fun c9 => ?_) (fun c9 => ?_)
    · refine r_con eRe_isBlank_16 ?_
      refine r_zret eRe_isBlank_17 rfl (by first | exact Or.inl rfl | exact Or.inr rfl | omega) ?_
      first | (rw [a_b_t (decide_eq_true (by omega))] at hq; exact hq) | (rw [a_b_f (by rw [decide_eq_true_eq]; omega)] at hq; exact hq)
    · refine r_con eRe_isBlank_12 ?_
      refine r_go (tgt := 17) eRe_isBlank_13 rfl ?_
      refine r_zret eRe_isBlank_17 rfl (by first | exact Or.inl rfl | exact Or.inr rfl | omega) ?_
      first | (rw [a_b_t (decide_eq_true (by omega))] at hq; exact hq) | (rw [a_b_f (by rw [decide_eq_true_eq]; omega)] at hq; exact hq)
def re_lb (x i : Int) : Int := if i < 6 then m_shl (x - 97 + 1) (5 * (5 - i)) else 0
theorem c_Re_letterBits {i : Int} (hi : -1000 ≤ i ∧ i ≤ 1000) (hq : Q (some (.int (m_i (re_lb x i)))) (T, m_I J, P, L, z, w)) : m_call en (d + 1) mRe_letterBits [.int (m_i x), .int (m_i i)] (T, m_I J, P, L, z, w) Q := by
  unfold re_lb at hq
  refine m_into (by decide) (Nat.le_of_ble_eq_true rfl) rfl ?_
  show m_wp en _ mRe_letterBits 0 [some (.int (m_i (x))), some (.int (m_i (i)))] [] (T, m_I J, P, L, z, w) Q
  refine r_iln eRe_letterBits_0 rfl ?_
  refine r_bip eRe_letterBits_1 (by decide) ?_
  refine r_cge (tgt := 21) eRe_letterBits_3 rfl ⟨(by omega), (by omega)⟩ ⟨(by omega), (by omega)⟩ (fun c3 => ?_) (fun c3 => ?_)
  · refine r_con eRe_letterBits_21 ?_
    refine r_iret eRe_letterBits_22 rfl ?_
    first | (rw [if_pos (by omega)] at hq; exact hq) | (rw [if_neg (by omega)] at hq; exact hq)
  · refine r_iln eRe_letterBits_6 rfl ?_
    refine r_bip eRe_letterBits_7 (by decide) ?_
    refine r_sub eRe_letterBits_9 ?_
    refine r_con eRe_letterBits_10 ?_
    refine r_add eRe_letterBits_11 ?_
    refine r_con eRe_letterBits_12 ?_
    refine r_con eRe_letterBits_13 ?_
    refine r_iln eRe_letterBits_14 rfl ?_
    refine r_sub eRe_letterBits_15 ?_
    refine r_mul eRe_letterBits_16 ?_
    refine r_shl eRe_letterBits_17 ?_
    refine r_go (tgt := 22) eRe_letterBits_18 rfl ?_
    refine r_iret eRe_letterBits_22 rfl ?_
    first | (rw [if_pos (by omega)] at hq; exact hq) | (rw [if_neg (by omega)] at hq; exact hq)
theorem c_Re_signAt (hX : cl_sh en X T P) (hf : re_tb (J (X + 2)) (J (X + 1) 6)) {i : Int} (hi : -1000 ≤ i ∧ i ≤ 1000) (hq : Q (some (.int (m_i (re_sg (J (X + 2)) (J (X + 1) 6) i)))) (T, m_I J, P, L, z, w)) : m_call en (d + 1) mRe_signAt [.ref (X + 1), .int (m_i i)] (T, m_I J, P, L, z, w) Q := by
  unfold re_sg at hq
  have h6 := hf.1
  refine m_into (by decide) (Nat.le_of_ble_eq_true rfl) rfl ?_
  show m_wp en _ mRe_signAt 0 [some (.ref (X + 1)), some (.int (m_i (i)))] [] (T, m_I J, P, L, z, w) Q
  refine r_iln eRe_signAt_0 rfl ?_
  refine r_zlt (tgt := 30) eRe_signAt_1 rfl ⟨(by omega), (by omega)⟩ (fun c1 => ?_) (fun c1 => ?_)
  · refine r_con eRe_signAt_30 ?_
    refine r_iret eRe_signAt_31 rfl ?_
    first | (rw [if_pos (by omega)] at hq; exact hq) | (rw [if_neg (by omega)] at hq; exact hq) | (exfalso; omega)
  · refine r_iln eRe_signAt_4 rfl ?_
    refine r_aln eRe_signAt_5 rfl ?_
    refine r_gete (x := J (X + 1) 6) eRe_signAt_6 rfl (by decide) (cl_t hX (i := 1) rfl) rfl ?_
    refine r_cge (tgt := 30) eRe_signAt_9 rfl ⟨(by omega), (by omega)⟩ ⟨(by omega), (by omega)⟩ (fun c9 => ?_) (fun c9 => ?_)
    · refine r_con eRe_signAt_30 ?_
      refine r_iret eRe_signAt_31 rfl ?_
      first | (rw [if_pos (by omega)] at hq; exact hq) | (rw [if_neg (by omega)] at hq; exact hq) | (exfalso; omega)
    · refine r_iln eRe_signAt_12 rfl ?_
      refine r_aln eRe_signAt_13 rfl ?_
      refine m_getR eRe_signAt_14 rfl (cl_t hX (i := 1) rfl) (cl_p hX (i := 11) rfl) ?_
      refine r_alen eRe_signAt_17 (cl_t hX (i := 2) rfl) (by decide) ?_
      refine r_cge (tgt := 30) eRe_signAt_18 rfl ⟨(by omega), (by omega)⟩ ⟨(by omega), (by omega)⟩ (fun c18 => ?_) (fun c18 => ?_)
      · refine r_con eRe_signAt_30 ?_
        refine r_iret eRe_signAt_31 rfl ?_
        first | (rw [if_pos (by omega)] at hq; exact hq) | (rw [if_neg (by omega)] at hq; exact hq) | (exfalso; omega)
      · refine r_aln eRe_signAt_21 rfl ?_
        refine m_getR eRe_signAt_22 rfl (cl_t hX (i := 1) rfl) (cl_p hX (i := 11) rfl) ?_
        refine r_iln eRe_signAt_25 rfl ?_
        refine r_balde (x := J (X + 2) ((i).toNat)) eRe_signAt_26 (cl_t hX (i := 2) rfl) (by decide) (by decide) (by omega) (by omega) rfl ?_
        refine r_go (tgt := 31) eRe_signAt_27 rfl ?_
        refine r_iret eRe_signAt_31 rfl ?_
        first | (rw [if_pos (by omega)] at hq; exact hq) | (rw [if_neg (by omega)] at hq; exact hq) | (exfalso; omega)
theorem c_Re_refuse (hX : cl_sh en X T P) (hk : 0 ≤ fk ∧ fk ≤ 3) (hq : Q none (T, m_I (re_q J X (if fk = 0 then x else fk) (if fk = 0 then p else fp) p b k v), P, L, z, w)) : m_call en (d + 1) mRe_refuse [.ref (X + 1), .int (m_i x)] (T, m_I (re_q J X fk fp p b k v), P, L, z, w) Q := by
  refine m_into (by decide) (Nat.le_of_ble_eq_true rfl) rfl ?_
  show m_wp en _ mRe_refuse 0 [some (.ref (X + 1)), some (.int (m_i (x)))] [] (T, m_I ((re_q J X fk fp p b k v)), P, L, z, w) Q
  refine r_aln eRe_refuse_0 rfl ?_
  refine r_gete (x := fk) eRe_refuse_1 rfl (by decide) (cl_t hX (i := 1) rfl) (by rw [re_q_3]) ?_
  refine r_zne (tgt := 20) eRe_refuse_4 rfl ⟨(by omega), (by omega)⟩ (fun c4 => ?_) (fun c4 => ?_)
  · refine r_ret eRe_refuse_20 rfl ?_
    first | (rw [if_pos (by omega), if_pos (by omega)] at hq; exact hq) | (rw [if_neg (by omega), if_neg (by omega)] at hq; exact hq)
  · refine r_aln eRe_refuse_7 rfl ?_
    refine r_iln eRe_refuse_8 rfl ?_
    refine r_put eRe_refuse_9 rfl (cl_t hX (i := 1) rfl) (cl_e hX 1) (Or.inl rfl) ?_
    rw [re_p3]
    refine r_aln eRe_refuse_12 rfl ?_
    refine r_aln eRe_refuse_13 rfl ?_
    refine r_gete (x := p) eRe_refuse_14 rfl (by decide) (cl_t hX (i := 1) rfl) (by rw [re_q_7]) ?_
    refine r_put eRe_refuse_17 rfl (cl_t hX (i := 1) rfl) (cl_e hX 1) (Or.inl rfl) ?_
    rw [re_p4]
    refine r_ret eRe_refuse_20 rfl ?_
    first | (rw [if_pos (by omega), if_pos (by omega)] at hq; exact hq) | (rw [if_neg (by omega), if_neg (by omega)] at hq; exact hq)
end REA
