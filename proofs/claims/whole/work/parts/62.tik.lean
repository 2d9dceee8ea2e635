/-! what a tick leaves -/
theorem md_row_c {r r' : Nat → Int} (e : ∀ i, i < 143 → r' i = r i) (h : md_row r) : md_row r' := by
  unfold md_row at h ⊢
  rw [e 0 (by omega), e 1 (by omega), e 2 (by omega), e 3 (by omega), e 4 (by omega), e 5 (by omega), e 6 (by omega)]
  exact ⟨h.1, h.2.1, h.2.2.1, h.2.2.2.1, h.2.2.2.2.1, h.2.2.2.2.2.1, fun i hi => by rw [e (7 + i) (by omega)]; exact h.2.2.2.2.2.2.1 i hi, fun i hi => by rw [e i hi]; exact h.2.2.2.2.2.2.2 i hi⟩
section TIK
variable {J J1 : Nat → Nat → Int} {M : Nat}
theorem md_re1_45 (J : Nat → Nat → Int) (M : Nat) : md_re1 J M M 45 = 29 := by
  unfold md_re1
  exact m_up_same
theorem md_re1_o (J : Nat → Nat → Int) (M : Nat) {b i : Nat} (h : b ≠ M) (h2 : b ≠ M + 23) : md_re1 J M b i = J b i := by
  unfold md_re1
  rw [m_up_at, if_neg (fun q => h q.1), m_fl_o h2]
theorem md_re1_k (J : Nat → Nat → Int) (M : Nat) (j : Nat) : md_re1 J M (M + 23) j = if j < 4147 then J (M + 23) (143 + j) else J (M + 23) j := by
  unfold md_re1
  rw [m_up_at, if_neg (by omega)]
  by_cases q : j < 4147
  · rw [if_pos q]
    exact m_fl_i (by omega)
  · rw [if_neg q]
    exact m_fl_x (by omega)
theorem md_rem_30 (h : J M 45 = 30) (i : Nat) : md_rem J M (M + 23) i = if i < 4147 then J (M + 23) (143 + i) else if i < 4290 then J (M + 22) (i - 4147) else J (M + 23) i := by
  have e : md_rem J M (M + 23) i = md_re2 (md_re1 J M) M (M + 23) i := by
    unfold md_rem
    rw [if_pos h]
  have e29 : ((143 : Int) * 29).toNat = 4147 := rfl
  rw [e]
  unfold md_re2
  rw [md_re1_45, e29, m_up_at, if_neg (by omega)]
  by_cases q : i < 4147
  · rw [m_fl_x (by omega), md_re1_k, if_pos q, if_pos q]
  · rw [if_neg q]
    by_cases q2 : i < 4290
    · rw [if_pos q2]
      refine (m_fl_i (by omega)).trans ?_
      exact md_re1_o J M (by omega) (by omega)
    · rw [m_fl_x (by omega), md_re1_k, if_neg q, if_neg q2]
theorem md_rem_n (hu : 0 ≤ J M 45 ∧ J M 45 < 30) (i : Nat) : md_rem J M (M + 23) i = if (143 * J M 45).toNat ≤ i ∧ i < (143 * J M 45).toNat + 143 then J (M + 22) (i - (143 * J M 45).toNat) else J (M + 23) i := by
  have e : md_rem J M (M + 23) i = md_re2 J M (M + 23) i := by
    unfold md_rem
    rw [if_neg (by omega)]
  rw [e]
  unfold md_re2
  rw [m_up_at, if_neg (by omega)]
  by_cases q : (143 * J M 45).toNat ≤ i ∧ i < (143 * J M 45).toNat + 143
  · rw [if_pos q]
    exact m_fl_i (by omega)
  · rw [if_neg q]
    exact m_fl_x (by omega)
theorem md_rem_45 (J : Nat → Nat → Int) (M : Nat) : md_rem J M M 45 = if J M 45 = 30 then 30 else J M 45 + 1 := by
  have e := md_re1_45 J M
  unfold md_rem
  by_cases h : J M 45 = 30
  · rw [if_pos h, if_pos h]
    simp [md_re2, m_up, e]
  · rw [if_neg h, if_neg h]
    simp [md_re2, m_up]
theorem md_rem_M (J : Nat → Nat → Int) (M : Nat) {i : Nat} (h : i ≠ 45) : md_rem J M M i = J M i := by
  unfold md_rem md_re2 md_re1
  split
  · rw [m_up_at, if_neg (fun q => h q.2), m_fl_o (by omega), m_up_at, if_neg (fun q => h q.2), m_fl_o (by omega)]
  · rw [m_up_at, if_neg (fun q => h q.2), m_fl_o (by omega)]
theorem md_rem_c (h45 : J1 M 45 = J M 45) (h22 : J1 (M + 22) = J (M + 22)) (h23 : J1 (M + 23) = J (M + 23)) (hu : 0 ≤ J M 45 ∧ J M 45 ≤ 30) (i : Nat) : md_rem J1 M (M + 23) i = md_rem J M (M + 23) i := by
  by_cases h : J M 45 = 30
  · rw [md_rem_30 h, md_rem_30 (h45.trans h), h22, h23]
  · rw [md_rem_n ⟨hu.1, by omega⟩, md_rem_n (J := J1) (by rw [h45]; omega), h22, h23, h45]
theorem md_kr_rem (h : md_kr J M) (hr : md_row (J (M + 22))) (e45 : J1 M 45 = if J M 45 = 30 then 30 else J M 45 + 1) (e46 : J1 M 46 = J M 46) (e23 : ∀ i, J1 (M + 23) i = md_rem J M (M + 23) i) : md_kr J1 M := by
  obtain ⟨h1, h2, h3, h4⟩ := h
  refine ⟨by rw [e45]; split <;> omega, by rw [e46]; exact h2, fun k hk => ?_, fun q => ?_⟩
  · rw [e45] at hk
    by_cases h30 : J M 45 = 30
    · rw [if_pos h30] at hk
      by_cases hk29 : k = 29
      · refine md_row_c (fun i hi => ?_) hr
        show J1 (M + 23) (143 * k + i) = J (M + 22) i
        rw [e23, md_rem_30 h30, if_neg (by omega), if_pos (by omega)]
        exact congrArg (J (M + 22)) (by omega)
      · refine md_row_c (fun i hi => ?_) (h3 (k + 1) (by omega))
        show J1 (M + 23) (143 * k + i) = J (M + 23) (143 * (k + 1) + i)
        rw [e23, md_rem_30 h30, if_pos (by omega)]
        exact congrArg (J (M + 23)) (by omega)
    · rw [if_neg h30] at hk
      by_cases hkk : (k : Int) = J M 45
      · refine md_row_c (fun i hi => ?_) hr
        show J1 (M + 23) (143 * k + i) = J (M + 22) i
        rw [e23, md_rem_n ⟨h1.1, by omega⟩, if_pos (by omega)]
        exact congrArg (J (M + 22)) (by omega)
      · refine md_row_c (fun i hi => ?_) (h3 k (by omega))
        show J1 (M + 23) (143 * k + i) = J (M + 23) (143 * k + i)
        rw [e23, md_rem_n ⟨h1.1, by omega⟩, if_neg (by omega)]
  · refine md_row_c (fun i hi => ?_) (h4 (by rw [← e46]; exact q))
    show J1 (M + 23) (4290 + i) = J (M + 23) (4290 + i)
    rw [e23]
    by_cases h30 : J M 45 = 30
    · rw [md_rem_30 h30, if_neg (by omega), if_neg (by omega)]
    · rw [md_rem_n ⟨h1.1, by omega⟩, if_neg (by omega)]
/-- the row behind a tick -/
def a_tik (r : Nat → Int) (c n : Int) (i : Nat) : Int := if i = 1 then r 1 + 1 else if i = 6 then (if r 6 < 40 then r 6 + 1 else 40) else if i = 103 then r 1 else if i = 63 then (if c % 3 = 0 then 1 else 0) else if i = 23 then a_let c else if (23 < i ∧ i ≤ 62) ∨ (63 < i ∧ i ≤ 102) ∨ (103 < i ∧ i ≤ 142) then r (i - 1) else if i = 0 then n else r i
theorem md_note_22 (B : Nat → Nat → Int) (M : Nat) (c : Int) (i : Nat) : md_note B M c (M + 22) i = if i = 6 then (if B (M + 22) 6 < 40 then B (M + 22) 6 + 1 else 40) else if i = 103 then B (M + 22) 1 else if i = 63 then (if c % 3 = 0 then 1 else 0) else if i = 23 then a_let c else if (23 < i ∧ i ≤ 62) ∨ (63 < i ∧ i ≤ 102) ∨ (103 < i ∧ i ≤ 142) then B (M + 22) (i - 1) else B (M + 22) i := by
  unfold md_note
  by_cases h6 : i = 6
  · rw [m_up_at, if_pos ⟨rfl, h6⟩, if_pos h6]
  · rw [m_up_at, if_neg (fun q => h6 q.2), if_neg h6]
    by_cases h103 : i = 103
    · rw [m_up_at, if_pos ⟨rfl, h103⟩, if_pos h103]
    · rw [m_up_at, if_neg (fun q => h103 q.2), if_neg h103]
      by_cases h63 : i = 63
      · rw [m_up_at, if_pos ⟨rfl, h63⟩, if_pos h63]
      · rw [m_up_at, if_neg (fun q => h63 q.2), if_neg h63]
        by_cases h23 : i = 23
        · rw [m_up_at, if_pos ⟨rfl, h23⟩, if_pos h23]
        · rw [m_up_at, if_neg (fun q => h23 q.2), if_neg h23]
          by_cases q : (23 < i ∧ i ≤ 62) ∨ (63 < i ∧ i ≤ 102) ∨ (103 < i ∧ i ≤ 142)
          · rw [if_pos q]
            exact if_pos ⟨rfl, by omega⟩
          · rw [if_neg q]
            exact if_neg (fun z => q (by have := z.2; omega))
theorem md_note_o (B : Nat → Nat → Int) (M : Nat) (c : Int) {b i : Nat} (h : b ≠ M + 22) : md_note B M c b i = B b i := by
  unfold md_note
  rw [m_up_at, if_neg (fun q => h q.1), m_up_at, if_neg (fun q => h q.1), m_up_at, if_neg (fun q => h q.1), m_up_at, if_neg (fun q => h q.1)]
  exact if_neg (fun q => h q.1)
theorem md_tik_o (J : Nat → Nat → Int) (M : Nat) (c : Int) {b i : Nat} (h : b ≠ M) (h2 : b ≠ M + 22) (h3 : b ≠ M + 23) : md_tik J M c b i = J b i := by
  unfold md_tik
  rw [m_up_at, if_neg (fun q => h2 q.1)]
  unfold md_tj
  rw [md_note_o _ _ _ h2, m_up_at, if_neg (fun q => h2 q.1), md_rem_o _ _ h h3, md_put_o _ _ _ h]
theorem md_tik_M (J : Nat → Nat → Int) (M : Nat) (c : Int) {i : Nat} (h : i < 33 ∨ 37 < i) (h2 : i ≠ 45) : md_tik J M c M i = J M i := by
  unfold md_tik
  rw [m_up_at, if_neg (by omega)]
  unfold md_tj
  rw [md_note_o _ _ _ (by omega), m_up_at, if_neg (by omega), md_rem_M _ _ h2, md_put_f _ _ _ h]
theorem md_tik_45 (J : Nat → Nat → Int) (M : Nat) (c : Int) : md_tik J M c M 45 = if J M 45 = 30 then 30 else J M 45 + 1 := by
  unfold md_tik
  rw [m_up_at, if_neg (by omega)]
  unfold md_tj
  rw [md_note_o _ _ _ (by omega), m_up_at, if_neg (by omega), md_rem_45, md_put_f _ _ _ (by omega)]
theorem md_tik_23 (c : Int) (hu : 0 ≤ J M 45 ∧ J M 45 ≤ 30) (i : Nat) : md_tik J M c (M + 23) i = md_rem J M (M + 23) i := by
  unfold md_tik
  rw [m_up_at, if_neg (by omega)]
  unfold md_tj
  rw [md_note_o _ _ _ (by omega), m_up_at, if_neg (by omega)]
  exact md_rem_c (md_put_f _ _ _ (by omega)) (md_put_r _ _ _ (by omega)) (md_put_r _ _ _ (by omega)) hu i
theorem md_tik_22 (J : Nat → Nat → Int) (M : Nat) (c : Int) (i : Nat) : md_tik J M c (M + 22) i = a_tik (J (M + 22)) c (a_no (md_sg J M c)) i := by
  have eB : ∀ i, m_up (md_rem (md_put J M (md_sg J M c)) M) (M + 22) 0 (a_no (md_sg J M c)) (M + 22) i = if i = 0 then a_no (md_sg J M c) else J (M + 22) i := by
    intro i
    rw [m_up_at]
    by_cases h : i = 0
    · rw [if_pos ⟨rfl, h⟩, if_pos h]
    · rw [if_neg (fun q => h q.2), if_neg h, md_rem_o _ _ (by omega) (by omega), md_put_o _ _ _ (by omega)]
  have hj : ∀ i, md_tj J M c (M + 22) i = _ := fun i => md_note_22 (m_up (md_rem (md_put J M (md_sg J M c)) M) (M + 22) 0 (a_no (md_sg J M c))) M c i
  unfold md_tik
  rw [m_up_at]
  unfold a_tik
  by_cases h1 : i = 1
  · rw [if_pos ⟨rfl, h1⟩, if_pos h1, hj 1, eB]
    simp [eB]
  · rw [if_neg (fun q => h1 q.2), if_neg h1, hj i]
    by_cases h6 : i = 6
    · rw [if_pos h6, if_pos h6, eB]
      simp
    · rw [if_neg h6, if_neg h6]
      by_cases h103 : i = 103
      · rw [if_pos h103, if_pos h103, eB]
        simp
      · rw [if_neg h103, if_neg h103]
        by_cases h63 : i = 63
        · rw [if_pos h63, if_pos h63]
        · rw [if_neg h63, if_neg h63]
          by_cases h23 : i = 23
          · rw [if_pos h23, if_pos h23]
          · rw [if_neg h23, if_neg h23]
            by_cases q : (23 < i ∧ i ≤ 62) ∨ (63 < i ∧ i ≤ 102) ∨ (103 < i ∧ i ≤ 142)
            · rw [if_pos q, if_pos q, eB, if_neg (by omega)]
            · rw [if_neg q, if_neg q, eB]
theorem a_let_bd (c : Int) : 60 ≤ a_let c ∧ a_let c ≤ 130 := by
  unfold a_let
  split <;> split <;> (try split) <;> omega
theorem md_cf_eq (h2 : J1 (M + 2) = J (M + 2)) (h19 : J1 (M + 19) = J (M + 19)) (h32 : J1 M 32 = J M 32) : md_cf J1 M = md_cf J M := by
  unfold md_cf
  rw [h2, h19, h32]
/-- other rows of the state, other rows that are kept -/
theorem md_inv.gen (h : md_inv J M) (eo : ∀ b i, b ≠ M → b ≠ M + 22 → b ≠ M + 23 → J1 b i = J b i) (eM : ∀ i, i < 33 ∨ 37 < i → i ≠ 45 → i ≠ 46 → J1 M i = J M i) (hkr : md_kr J1 M) (hr : md_row (J1 (M + 22))) (h5 : J1 (M + 22) 5 = J (M + 22) 5) (h7 : ∀ i : Nat, i < 16 → J1 (M + 22) (7 + i) = J (M + 22) (7 + i)) : md_inv J1 M := by
  have e : ∀ k, 0 < k → k ≠ 22 → k ≠ 23 → J1 (M + k) = J (M + k) := fun k a b c => funext (fun i => eo _ _ (by omega) (by omega) (by omega))
  have ef : md_fr J1 M = md_fr J M := by
    funext i
    unfold md_fr
    rw [e 17 (by omega) (by omega) (by omega), e 18 (by omega) (by omega) (by omega)]
  obtain ⟨⟨g1, g2, g3, g4⟩, g5, g6⟩ := h
  refine ⟨⟨?_, hr, hkr, by rw [eM 41 (by omega) (by omega) (by omega)]; exact g4.1, fun i hi => by rw [eo (M + 20) i (by omega) (by omega) (by omega)]; exact g4.2 i hi⟩, ⟨?_, fun i hi => ?_, fun i hi => ?_⟩, ?_⟩
  · unfold md_pl at g1 ⊢
    rw [e 2 (by omega) (by omega) (by omega), e 4 (by omega) (by omega) (by omega), e 5 (by omega) (by omega) (by omega), e 6 (by omega) (by omega) (by omega), e 10 (by omega) (by omega) (by omega), e 11 (by omega) (by omega) (by omega), e 12 (by omega) (by omega) (by omega), e 13 (by omega) (by omega) (by omega), e 14 (by omega) (by omega) (by omega), e 15 (by omega) (by omega) (by omega), e 17 (by omega) (by omega) (by omega)]
    exact g1
  · rw [eM 32 (by omega) (by omega) (by omega), h5]
    exact g5.1
  · rw [e 18 (by omega) (by omega) (by omega), h7 i hi]
    exact g5.2.1 i hi
  · rw [e 19 (by omega) (by omega) (by omega), ef]
    exact g5.2.2 i hi
  · exact md_kp_eq (e 20 (by omega) (by omega) (by omega)) (e 21 (by omega) (by omega) (by omega)) (eM 40 (by omega) (by omega) (by omega)) (eM 41 (by omega) (by omega) (by omega)) (eM 42 (by omega) (by omega) (by omega)) (md_cf_eq (e 2 (by omega) (by omega) (by omega)) (e 19 (by omega) (by omega) (by omega)) (eM 32 (by omega) (by omega) (by omega))) g6
theorem md_row_tik {r : Nat → Int} (h : md_row r) (h1 : r 1 ≠ 9999) {c n : Int} (hn : 0 ≤ n ∧ n < 38880) : md_row (a_tik r c n) := by
  obtain ⟨g0, g1, g2, g3, g5, g6, g7, g8⟩ := h
  have e : ∀ i : Nat, (2 ≤ i ∧ i ≤ 5) ∨ (7 ≤ i ∧ i ≤ 22) → a_tik r c n i = r i := fun i hi => by
    unfold a_tik
    rw [if_neg (by omega), if_neg (by omega), if_neg (by omega), if_neg (by omega), if_neg (by omega), if_neg (by omega), if_neg (by omega)]
  have e0 : a_tik r c n 0 = n := by simp [a_tik]
  have e1 : a_tik r c n 1 = r 1 + 1 := by simp [a_tik]
  have e6 : a_tik r c n 6 = if r 6 < 40 then r 6 + 1 else 40 := by simp [a_tik]
  unfold md_row
  rw [e0, e1, e6, e 2 (by omega), e 3 (by omega), e 4 (by omega), e 5 (by omega)]
  refine ⟨hn, by omega, g2, by omega, g5, by split <;> omega, fun i hi => by rw [e (7 + i) (by omega)]; exact g7 i hi, fun i hi => ?_⟩
  have q1 := g8 (i - 1) (by omega)
  have q2 := g8 i hi
  have q3 := a_let_bd c
  unfold a_tik
  split
  · omega
  · split
    · split <;> omega
    · split
      · omega
      · split
        · split <;> omega
        · split
          · omega
          · split
            · omega
            · split <;> omega
theorem md_sg_bd (h : md_inv J M) {c : Int} (ht : md_tok J M c) : 0 ≤ a_no (md_sg J M c) ∧ a_no (md_sg J M c) < 38880 := a_no_bd (a_why_bx h.ok h.hs.1 (by have := h.hs.2; omega) ht.2)
theorem md_inv.tik (h : md_inv J M) {c : Int} (ht : md_tok J M c) : md_inv (md_tik J M c) M := by
  have er : md_tik J M c (M + 22) = a_tik (J (M + 22)) c (a_no (md_sg J M c)) := funext (md_tik_22 J M c)
  refine h.gen (fun b i a1 a2 a3 => md_tik_o J M c a1 a2 a3) (fun i a1 a2 a3 => md_tik_M J M c a1 a2) (md_kr_rem h.kr h.row (md_tik_45 J M c) (md_tik_M J M c (by omega) (by omega)) (md_tik_23 c h.hu)) ?_ ?_ (fun i hi => ?_)
  · rw [er]
    exact md_row_tik h.row ht.1 (md_sg_bd h ht)
  · rw [er]
    simp [a_tik]
  · rw [er]
    unfold a_tik
    rw [if_neg (by omega), if_neg (by omega), if_neg (by omega), if_neg (by omega), if_neg (by omega), if_neg (by omega), if_neg (by omega)]
end TIK
