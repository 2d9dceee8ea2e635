/-! the law's own now -/
theorem m_st_T {en : Nat → Nat} {me : m_Me} {i : Instr} {pc : Nat} {ls : m_L} {st : List Value} {s : m_S} {q : Nat × m_L × List Value × m_S} (h : m_st en me i pc ls st s = some (.inl q)) : ∀ b, b < s.2.2.2.2.1 → q.2.2.2.1 b = s.1 b := by
  unfold m_st at h
  split at h <;> try simp only [m_nx, m_go, m_ldi, m_lda, m_sti, m_sta, m_b2, m_b1, m_gf, m_pf, m_al, m_as, m_bi, m_inv] at h
  all_goals (repeat' (split at h))
  all_goals first | (cases h; done) | (cases h; exact fun _ _ => rfl) | (cases h; exact fun b hb => if_neg (Nat.ne_of_lt hb))
theorem m_run_T {en : Nat → Nat} {C : m_Cl} {me : m_Me} {v1 : Option Value} {s1 : m_S} (hS : ∀ (m : m_Me) (as : List Value) (s t : m_S) (v : Option Value), C m as s (fun v' t' => v' = v ∧ t' = t) → s.2.2.2.2.1 ≤ t.2.2.2.2.1 ∧ s.2.2.2.2.2 ≤ t.2.2.2.2.2) (hC : ∀ (m : m_Me) (as : List Value) (s t : m_S) (v : Option Value), C m as s (fun v' t' => v' = v ∧ t' = t) → ∀ b, b < s.2.2.2.2.1 → t.1 b = s.1 b) (h1 : ∀ (m : m_Me) (as : List Value) (s : m_S) (q : m_Q), C m as s q → ∃ v t, q v t ∧ C m as s (fun v' t' => v' = v ∧ t' = t)) :
    ∀ (n pc : Nat) (ls : m_L) (st : List Value) (s : m_S), m_run en C me (fun v t => v = v1 ∧ t = s1) n pc ls st s → ∀ b, b < s.2.2.2.2.1 → s1.1 b = s.1 b := by
  intro n
  induction n with
  | zero => intro pc ls st s h; exact h.elim
  | succ n ih =>
    intro pc ls st s h b hb
    obtain ⟨i, len, hd, hk, r, hr, h⟩ := h
    match r, hr, h with
    | .inl (pc', ls', st', s'), hr, h =>
      exact (ih _ _ _ _ h b (Nat.lt_of_lt_of_le hb (m_st_le hr).2.1)).trans (m_st_T hr b hb)
    | .inr (.inl v), hr, h => rw [h.2]
    | .inr (.inr (m', as, st')), hr, h =>
      obtain ⟨v, t, h2, h3⟩ := h1 _ _ _ _ h
      exact (ih _ _ _ _ h2 b (Nat.lt_of_lt_of_le hb (hS _ _ _ _ _ h3).1)).trans (hC _ _ _ _ _ h3 b hb)
/-- what is there keeps its kind -/
theorem m_call_T {en : Nat → Nat} : ∀ (d : Nat) (me : m_Me) (as : List Value) (s t : m_S) (v : Option Value), m_call en d me as s (fun v' t' => v' = v ∧ t' = t) → ∀ b, b < s.2.2.2.2.1 → t.1 b = s.1 b := by
  intro d
  induction d with
  | zero => intro me as s t v h; exact h.elim
  | succ d ih =>
    intro me as s t v h
    unfold m_call at h
    split at h
    · obtain ⟨x, p, o, n, h1, h2, h3, h4, h5⟩ := h
      split at h5
      · rw [← h5.2]; exact fun _ _ => rfl
      · split at h5
        · rw [← h5.2]; exact fun _ _ => rfl
        · obtain ⟨v', t', ⟨y, e, e2, e3⟩, h6⟩ := m_call_one _ _ _ _ _ h5
          have := ih _ _ _ _ _ h6
          rw [← e3]
          exact this
    · obtain ⟨hl, n, h⟩ := h
      exact m_run_T (m_call_sz d) (fun m a s t v => ih m a s t v) (m_call_one d) n _ _ _ _ h
abbrev nw_hh : List (Nat × Nat × Nat × Nat) := [(0, 9, 12, 13), (0, 9, 15, 15)]
abbrev nw_y : MethodName := ⟨"SwingCraneLaw", "now", "(LSwingCrane;I[J)I"⟩
def nw_ws : List Cond := Cond.codeWith nw_y method_3_code 4 (some .int) nw_hh :: m_gw
set_option maxRecDepth 100000 in
theorem nw_w5 : (Cond.classLink "SwingCraneLaw" 13 nw_io ∈ tables_1 ∧ goodWord (Cond.classLink "SwingCraneLaw" 13 nw_io) = true) ∧ (Cond.classLink "SwingCraneLaw" 15 nw_no ∈ tables_1 ∧ goodWord (Cond.classLink "SwingCraneLaw" 15 nw_no) = true) ∧ (Cond.castable nw_io nw_io ∈ tables_1 ∧ Cond.castable nw_no nw_no ∈ tables_1) ∧ ∀ w ∈ va_wsS "SwingCraneLaw" 47 nw_y [Cond.codeWith nw_y method_3_code 4 (some .int) nw_hh], w ∈ tables_1 ∧ goodWord w = true := by decide +kernel
theorem nw_Nc {en : Nat → Nat} {H0 : Heap} {U : State} (h : m_s0 en H0 U) : va_Nc nw_no nw_io U := by
  obtain ⟨u, b, g1, g2, g3, g4, g5⟩ := h
  exact va_Nc.moved g5.alike (va_Nc.of (flat_of_before _ g2 _ nw_w4.2.2))
