/-! THE TIE: a line read by both, kind by kind -/
/-- bounds of the numbers read so far -/
def rd_b (B : Nat → Nat → Int) (M : Nat) : Prop := dr_n (B (M + 2)) ∧ ∀ i : Nat, i < 16 → 0 ≤ B (M + 10) i ∧ B (M + 10) i ≤ 999
/-- what a line leaves that both have read without a fault -/
def rd_L (A B A' B' : Nat → Nat → Int) (X M ln : Nat) : Prop := (rd_R (m_up A' (X + 15) ln (A' (X + 15) ln + 1)) (m_up (if 4 ≤ (ln : Int) ∧ (ln : Int) ≤ 10 then m_up B' M 18 1 else B') M 19 (B' M 19 + 1)) X M ∧ rd_b (m_up (if 4 ≤ (ln : Int) ∧ (ln : Int) ≤ 10 then m_up B' M 18 1 else B') M 19 (B' M 19 + 1)) M) ∧ (B' (M + 1) = B (M + 1) ∧ B' M 20 = B M 20 ∧ B' M 19 = B M 19) ∧ ∀ b i, b < X + 3 ∨ X + 15 ≤ b → A' b i = A b i
section LOB
variable {A B A' B' J1 : Nat → Nat → Int} {X M : Nat} {n : Int} {y x x1 y2 : a_Q}
theorem rd_b_u (h : rd_b B M) (hy : ∀ y, y < 13 → B' (M + 2) (13 + y) = B (M + 2) (13 + y) ∨ (dn_lo y ≤ B' (M + 2) (13 + y) ∧ B' (M + 2) (13 + y) ≤ dn_hi y)) (hw : ∀ i : Nat, i < 16 → B' (M + 10) i = B (M + 10) i ∨ (0 ≤ B' (M + 10) i ∧ B' (M + 10) i ≤ 999)) : rd_b B' M := by
  refine ⟨fun y q => ?_, fun i q => ?_⟩
  · rcases hy y q with e | e
    · rw [e]; exact h.1 y q
    · exact e
  · rcases hw i q with e | e
    · rw [e]; exact h.2 i q
    · exact e
theorem nu_ok {g : Nat → Int} {m lo hi r : Int} {x x' : a_Q} {c : Int} (h : s_nu g m c lo hi x r x') (hx : x'.2.2.2.2.1 = 0) : lo ≤ r ∧ r ≤ hi := by
  rcases h with ⟨h, -, e⟩ | ⟨-, h⟩
  · rw [e] at hx; exact absurd hx h
  · rcases h with ⟨-, -, e⟩ | ⟨-, h⟩
    · rw [e] at hx; exact absurd (show (1 : Int) = 0 from hx) (by decide)
    · rcases h with ⟨-, -, e⟩ | ⟨h, e, -⟩
      · rw [e] at hx; exact absurd (show (2 : Int) = 0 from hx) (by decide)
      · omega
theorem ok_do (hT : rd_T A B X M n) (hR : rd_R A B X M) (hb : rd_b B M) (hS : rs_S n y x) (hr : s_do B M x J1 x1) (hc : rl_order A X (A (X + 15) 8) (re_ms (A (X + 15)) 8 y) A' y2) : rs_B (A (X + 2)) n y2 x1 ∧ (A (X + 15) 8 < 16 → x1.2.2.2.2.1 = 0 → rd_L A B A' J1 X M 8) := by
  have b0 : 4 ≤ B (M + 2) 13 ∧ B (M + 2) 13 ≤ 16 := hb.1 0 (by omega)
  have b1 : 2 ≤ B (M + 2) 14 ∧ B (M + 2) 14 ≤ 6 := hb.1 1 (by omega)
  have bc : 0 ≤ B (M + 2) 18 ∧ B (M + 2) 18 ≤ 16 := hb.1 5 (by omega)
  have e15 : A (X + 15) 8 = B (M + 2) 18 := hR.2.1.1.2.1
  obtain ⟨k1, r1, r2, e1, e2⟩ := do_tie hT hR hS bc.2 hr hc
  refine ⟨k1, fun hlt hf => ?_⟩
  obtain ⟨e2, v1, v2⟩ := e2 hf
  rw [if_pos hf] at e1
  rw [if_pos hlt, e15] at e2
  obtain ⟨c, hcc⟩ := Int.eq_ofNat_of_zero_le bc.1
  rw [hcc, show (16 + (c : Int)).toNat = 16 + c by omega] at e1
  rw [hcc, show ((c : Int)).toNat = c by omega] at e2
  have fa : ∀ b i, ¬ (b = X + 11 ∧ i = c) → ¬ (b = X + 12 ∧ i = c) → A' b i = A b i := fun b i q11 q12 => by
    rw [e2, m_up_z (by omega), m_up_z (by omega)]
  have fb : ∀ b i, ¬ (b = M + 12 ∧ i = 16 + c) → ¬ (b = M + 13 ∧ i = 16 + c) → ¬ (b = M + 2 ∧ i = 18) → J1 b i = B b i := fun b i q12 q13 qc => by
    rw [e1, m_up_z (by omega), m_up_z (by omega), m_up_z (by omega)]
  have j18 : ∀ i, J1 M i = B M i := fun i => fb _ _ (by omega) (by omega) (by omega)
  have eb : ∀ b i, ¬ (b = M + 12 ∧ i = 16 + c) → ¬ (b = M + 13 ∧ i = 16 + c) → ¬ (b = M + 2 ∧ i = 18) → ¬ (b = M ∧ (i = 18 ∨ i = 19)) → m_up (m_up J1 M 18 1) M 19 (J1 M 19 + 1) b i = B b i := fun b i q12 q13 qc qm => by
    rw [m_up_z (by omega), m_up_z (by omega)]; exact fb b i q12 q13 qc
  have g24 : m_up (m_up J1 M 18 1) M 19 (J1 M 19 + 1) (M + 2) 18 = B (M + 2) 18 + 1 := by
    rw [m_up_z (by omega), m_up_z (by omega), e1, m_up_e, hcc]
  have eL : (if 4 ≤ ((8 : Nat) : Int) ∧ ((8 : Nat) : Int) ≤ 10 then m_up J1 M 18 1 else J1) = m_up J1 M 18 1 := if_pos (by omega)
  unfold rd_L
  rw [eL]
  refine ⟨⟨rd_do (A' := m_up A' (X + 15) 8 (A' (X + 15) 8 + 1)) (B' := m_up (m_up J1 M 18 1) M 19 (J1 M 19 + 1)) (c := c) hR hcc v1 v2 (fun b i q11 q12 q15 => ?_) ?_ ?_ ?_ (fun b i q12 q13 qc qm => ?_) ?_ ?_ ?_ ?_, rd_b_u hb (fun y q => ?_) (fun i q => ?_)⟩, ⟨funext (fun i => fb _ _ (by omega) (by omega) (by omega)), j18 20, j18 19⟩, fun b i q => fa b i (by omega) (by omega)⟩
  · rw [m_up_z q15]; exact fa b i q11 q12
  · rw [m_up_z (by omega), e2, m_up_z (by omega), m_up_e]
  · rw [m_up_z (by omega), e2, m_up_e]
  · rw [m_up_e, fa _ _ (by omega) (by omega)]
  · exact eb b i q12 q13 qc qm
  · rw [m_up_z (by omega), m_up_z (by omega), e1, m_up_z (by omega), m_up_z (by omega), m_up_e]
  · rw [m_up_z (by omega), m_up_z (by omega), e1, m_up_z (by omega), m_up_e]
  · exact g24
  · rw [m_up_z (by omega), m_up_e]; decide
  · by_cases q2 : y = 5
    · subst q2
      exact Or.inr ⟨by show (0 : Int) ≤ m_up (m_up J1 M 18 1) M 19 (J1 M 19 + 1) (M + 2) 18; omega, by show m_up (m_up J1 M 18 1) M 19 (J1 M 19 + 1) (M + 2) 18 ≤ (16 : Int); omega⟩
    · exact Or.inl (eb _ _ (by omega) (by omega) (by omega) (by omega))
  · exact Or.inl (eb _ _ (by omega) (by omega) (by omega) (by omega))
theorem ah_ok {lo hi r : Int} {x x' : a_Q} (h : s_ah lo hi x r x') (hx : x'.2.2.2.2.1 = 0) : x.2.2.2.2.1 = 0 ∧ lo ≤ r ∧ r ≤ hi := by
  rcases h with ⟨h, -, e⟩ | ⟨h0, h⟩
  · rw [e] at hx; exact absurd hx h
  · rcases h with ⟨-, -, e⟩ | ⟨-, h⟩
    · rw [e] at hx; exact absurd (show (1 : Int) = 0 from hx) (by decide)
    · rcases h with ⟨-, -, e⟩ | ⟨h, e, -⟩
      · rw [e] at hx; exact absurd (show (2 : Int) = 0 from hx) (by decide)
      · exact ⟨h0, by omega⟩
theorem go_ok {g : Nat → Int} {m : Int} {x x' : a_Q} (h : s_go g m x x') (hx : x'.2.2.2.2.1 = 0) : x.2.2.2.2.1 = 0 := by
  by_cases c : x.2.2.2.2.1 = 0
  · exact c
  · rw [go_f c h] at hx; exact hx
theorem wr_ok {b : Bool} {k : Int} {x : a_Q} (hk : k ≠ 0) (hx : (a_wr b k x).2.2.2.2.1 = 0) : b = false ∧ a_wr b k x = x := by
  unfold a_wr at hx ⊢
  by_cases c : b = true ∧ x.2.2.2.2.1 = 0
  · rw [if_pos c] at hx
    exact absurd hx hk
  · rw [if_neg c] at hx ⊢
    refine ⟨?_, rfl⟩
    cases hb : b
    · rfl
    · exact absurd ⟨hb, hx⟩ c
theorem jb_v (hT : rd_T A B X M n) (hR : rd_R A B X M) (hS : rs_S n y x) (hb : B (M + 2) 24 ≤ 3) (hw : B (M + 2) 13 ≤ 16) {a : Int} (hr : s_jb B M x J1 x1) (hc : rl_job A X a (re_ms (A (X + 15)) 10 y) A' y2) (hf : x1.2.2.2.2.1 = 0) : ∃ r1 r2, (J1 = m_up (m_up (m_up B (M + 14) (3 + B (M + 2) 24).toNat r1) (M + 15) (3 + B (M + 2) 24).toNat r2) (M + 2) 24 (B (M + 2) 24 + 1)) ∧ (A' = if a < 3 then m_up (m_up A (X + 13) a.toNat r1) (X + 14) a.toNat r2 else A) ∧ r1 < B (M + 2) 13 ∧ r2 < B (M + 2) 13 ∧ r1 ≠ r2 := by
  obtain ⟨x2, x3, x4, r1, r2, g1, g2, g3, g4, g5⟩ := hr
  obtain ⟨c1, c2, ya, yb, h1, h2, h3, h4⟩ := hc
  have e0 := hR.1.1
  have k1 := ms_mt hT hS (wd := 10) (c := B (M + 2) 24) (mx := 3) (by omega) rfl (by omega) hR.2.1.1.2.2.2.2.1 hb g1
  obtain ⟨a1, k2⟩ := nb_tie hT k1 (by omega) (by omega) g2 rfl (by rw [e0.1]) h1
  have k3 := ah_tie k2 (by omega) (by omega) g3
  rw [hT.2.1.1, e0.1] at h2
  rw [← h2] at k3
  have a2 : c2 = r2 := k3.1
  have f4 := go_ok g4 hf
  obtain ⟨f5, f6⟩ := wr_ok (by decide) f4
  rw [f6] at f4
  have f7 := ah_ok g3 f4
  have f8 := nu_ok g2 f7.1
  rw [if_pos hf] at g5
  subst a1 a2
  exact ⟨_, _, g5, h4, by omega, by omega, of_decide_eq_false f5⟩
theorem ok_jb (hT : rd_T A B X M n) (hR : rd_R A B X M) (hb : rd_b B M) (hS : rs_S n y x) (hr : s_jb B M x J1 x1) (hc : rl_job A X (A (X + 15) 10) (re_ms (A (X + 15)) 10 y) A' y2) : rs_B (A (X + 2)) n y2 x1 ∧ (A (X + 15) 10 < 3 → x1.2.2.2.2.1 = 0 → rd_L A B A' J1 X M 10) := by
  have b0 : 4 ≤ B (M + 2) 13 ∧ B (M + 2) 13 ≤ 16 := hb.1 0 (by omega)
  have b1 : 2 ≤ B (M + 2) 14 ∧ B (M + 2) 14 ≤ 6 := hb.1 1 (by omega)
  have bc : 0 ≤ B (M + 2) 24 ∧ B (M + 2) 24 ≤ 3 := hb.1 11 (by omega)
  have e15 : A (X + 15) 10 = B (M + 2) 24 := hR.2.1.1.2.2.2.2.1
  have hh := jb_tie hT hR hS bc.2 b0.2 hr hc
  obtain ⟨k1, -⟩ := hh
  refine ⟨k1, fun hlt hf => ?_⟩
  obtain ⟨r1, r2, e1, e2, v1, v2, v3⟩ := jb_v hT hR hS bc.2 b0.2 hr hc hf
  rw [if_pos hlt, e15] at e2
  obtain ⟨c, hcc⟩ := Int.eq_ofNat_of_zero_le bc.1
  rw [hcc, show (3 + (c : Int)).toNat = 3 + c by omega] at e1
  rw [hcc, show ((c : Int)).toNat = c by omega] at e2
  have fa : ∀ b i, ¬ (b = X + 13 ∧ i = c) → ¬ (b = X + 14 ∧ i = c) → A' b i = A b i := fun b i q13 q14 => by
    rw [e2, m_up_z (by omega), m_up_z (by omega)]
  have fb : ∀ b i, ¬ (b = M + 14 ∧ i = 3 + c) → ¬ (b = M + 15 ∧ i = 3 + c) → ¬ (b = M + 2 ∧ i = 24) → J1 b i = B b i := fun b i q14 q15 qc => by
    rw [e1, m_up_z (by omega), m_up_z (by omega), m_up_z (by omega)]
  have j18 : ∀ i, J1 M i = B M i := fun i => fb _ _ (by omega) (by omega) (by omega)
  have eb : ∀ b i, ¬ (b = M + 14 ∧ i = 3 + c) → ¬ (b = M + 15 ∧ i = 3 + c) → ¬ (b = M + 2 ∧ i = 24) → ¬ (b = M ∧ (i = 18 ∨ i = 19)) → m_up (m_up J1 M 18 1) M 19 (J1 M 19 + 1) b i = B b i := fun b i q14 q15 qc qm => by
    rw [m_up_z (by omega), m_up_z (by omega)]; exact fb b i q14 q15 qc
  have g24 : m_up (m_up J1 M 18 1) M 19 (J1 M 19 + 1) (M + 2) 24 = B (M + 2) 24 + 1 := by
    rw [m_up_z (by omega), m_up_z (by omega), e1, m_up_e, hcc]
  have eL : (if 4 ≤ ((10 : Nat) : Int) ∧ ((10 : Nat) : Int) ≤ 10 then m_up J1 M 18 1 else J1) = m_up J1 M 18 1 := if_pos (by omega)
  unfold rd_L
  rw [eL]
  refine ⟨⟨rd_jb (A' := m_up A' (X + 15) 10 (A' (X + 15) 10 + 1)) (B' := m_up (m_up J1 M 18 1) M 19 (J1 M 19 + 1)) (v := 0) (c := c) hR hcc v1 v2 v3 (fun b i q13 q14 q15 => ?_) ?_ ?_ ?_ (fun b i q14 q15 qc qm => ?_) ?_ ?_ ?_ ?_, rd_b_u hb (fun y q => ?_) (fun i q => ?_)⟩, ⟨funext (fun i => fb _ _ (by omega) (by omega) (by omega)), j18 20, j18 19⟩, fun b i q => fa b i (by omega) (by omega)⟩
  · rw [m_up_z q15]; exact fa b i q13 q14
  · rw [m_up_z (by omega), e2, m_up_z (by omega), m_up_e]
  · rw [m_up_z (by omega), e2, m_up_e]
  · rw [m_up_e, fa _ _ (by omega) (by omega)]
  · exact eb b i q14 q15 qc qm
  · rw [m_up_z (by omega), m_up_z (by omega), e1, m_up_z (by omega), m_up_z (by omega), m_up_e]
  · rw [m_up_z (by omega), m_up_z (by omega), e1, m_up_z (by omega), m_up_e]
  · exact g24
  · rw [m_up_z (by omega), m_up_e]; decide
  · by_cases q2 : y = 11
    · subst q2
      exact Or.inr ⟨by show (0 : Int) ≤ m_up (m_up J1 M 18 1) M 19 (J1 M 19 + 1) (M + 2) 24; omega, by show m_up (m_up J1 M 18 1) M 19 (J1 M 19 + 1) (M + 2) 24 ≤ (3 : Int); omega⟩
    · exact Or.inl (eb _ _ (by omega) (by omega) (by omega) (by omega))
  · exact Or.inl (eb _ _ (by omega) (by omega) (by omega) (by omega))
theorem ok_sq (hT : rd_T A B X M n) (hR : rd_R A B X M) (hb : rd_b B M) (hS : rs_S n y x) (hr : s_sq B M x J1 x1) (hc : rl_spot A X (A (X + 15) 5) (re_ms (A (X + 15)) 5 y) A' y2) : rs_B (A (X + 2)) n y2 x1 ∧ (A (X + 15) 5 < 6 → x1.2.2.2.2.1 = 0 → rd_L A B A' J1 X M 5) := by
  have b0 : 4 ≤ B (M + 2) 13 ∧ B (M + 2) 13 ≤ 16 := hb.1 0 (by omega)
  have b1 : 2 ≤ B (M + 2) 14 ∧ B (M + 2) 14 ≤ 6 := hb.1 1 (by omega)
  have bc : 0 ≤ B (M + 2) 17 ∧ B (M + 2) 17 ≤ 6 := hb.1 4 (by omega)
  have e15 : A (X + 15) 5 = B (M + 2) 17 := hR.2.1.1.1
  obtain ⟨k1, hh⟩ := sq_tie hT hR hS bc ⟨b0.2, b1.2⟩ hr hc
  refine ⟨k1, fun hlt hf => ?_⟩
  obtain ⟨v, r1, r2, e1, e2, v2⟩ := hh hf
  rw [if_pos hlt, e15] at e2
  obtain ⟨c, hcc⟩ := Int.eq_ofNat_of_zero_le bc.1
  rw [hcc, show (6 + (c : Int)).toNat = 6 + c by omega] at e1
  rw [hcc, show ((c : Int)).toNat = c by omega] at e2
  have fa : ∀ b i, ¬ (b = X + 6 ∧ i = c) → ¬ (b = X + 7 ∧ i = c) → ¬ (b = X + 8 ∧ i = c) → A' b i = A b i := fun b i q6 q7 q8 => by
    rw [e2, m_up_z (by omega), m_up_z (by omega), m_up_z (by omega)]
  have fb : ∀ b i, ¬ (b = M + 4 ∧ i = 6 + c) → ¬ (b = M + 5 ∧ i = 6 + c) → ¬ (b = M + 6 ∧ i = 6 + c) → ¬ (b = M + 2 ∧ i = 17) → J1 b i = B b i := fun b i q4 q5 q6 qc => by
    rw [e1, m_up_z (by omega), m_up_z (by omega), m_up_z (by omega), m_up_z (by omega)]
  have j18 : ∀ i, J1 M i = B M i := fun i => fb _ _ (by omega) (by omega) (by omega) (by omega)
  have eb : ∀ b i, ¬ (b = M + 4 ∧ i = 6 + c) → ¬ (b = M + 5 ∧ i = 6 + c) → ¬ (b = M + 6 ∧ i = 6 + c) → ¬ (b = M + 2 ∧ i = 17) → ¬ (b = M ∧ (i = 18 ∨ i = 19)) → m_up (m_up J1 M 18 1) M 19 (J1 M 19 + 1) b i = B b i := fun b i q4 q5 q6 qc qm => by
    rw [m_up_z (by omega), m_up_z (by omega)]; exact fb b i q4 q5 q6 qc
  have g24 : m_up (m_up J1 M 18 1) M 19 (J1 M 19 + 1) (M + 2) 17 = B (M + 2) 17 + 1 := by
    rw [m_up_z (by omega), m_up_z (by omega), e1, m_up_e, hcc]
  have eL : (if 4 ≤ ((5 : Nat) : Int) ∧ ((5 : Nat) : Int) ≤ 10 then m_up J1 M 18 1 else J1) = m_up J1 M 18 1 := if_pos (by omega)
  unfold rd_L
  rw [eL]
  refine ⟨⟨rd_sq (A' := m_up A' (X + 15) 5 (A' (X + 15) 5 + 1)) (B' := m_up (m_up J1 M 18 1) M 19 (J1 M 19 + 1)) (v := v) (r1 := r1) (r2 := r2) (c := c) hR hcc v2 (fun b i q6 q7 q8 q15 => ?_) ?_ ?_ ?_ ?_ (fun b i q4 q5 q6 qc qm => ?_) ?_ ?_ ?_ ?_ ?_, rd_b_u hb (fun y q => ?_) (fun i q => ?_)⟩, ⟨funext (fun i => fb _ _ (by omega) (by omega) (by omega) (by omega)), j18 20, j18 19⟩, fun b i q => fa b i (by omega) (by omega) (by omega)⟩
  · rw [m_up_z q15]; exact fa b i q6 q7 q8
  · rw [m_up_z (by omega), e2, m_up_z (by omega), m_up_z (by omega), m_up_e]
  · rw [m_up_z (by omega), e2, m_up_z (by omega), m_up_e]
  · rw [m_up_z (by omega), e2, m_up_e]
  · rw [m_up_e, fa _ _ (by omega) (by omega) (by omega)]
  · exact eb b i q4 q5 q6 qc qm
  · rw [m_up_z (by omega), m_up_z (by omega), e1, m_up_z (by omega), m_up_z (by omega), m_up_z (by omega), m_up_e]
  · rw [m_up_z (by omega), m_up_z (by omega), e1, m_up_z (by omega), m_up_z (by omega), m_up_e]
  · rw [m_up_z (by omega), m_up_z (by omega), e1, m_up_z (by omega), m_up_e]
  · exact g24
  · rw [m_up_z (by omega), m_up_e]; decide
  · by_cases q2 : y = 4
    · subst q2
      exact Or.inr ⟨by show (0 : Int) ≤ m_up (m_up J1 M 18 1) M 19 (J1 M 19 + 1) (M + 2) 17; omega, by show m_up (m_up J1 M 18 1) M 19 (J1 M 19 + 1) (M + 2) 17 ≤ (6 : Int); omega⟩
    · exact Or.inl (eb _ _ (by omega) (by omega) (by omega) (by omega) (by omega))
  · exact Or.inl (eb _ _ (by omega) (by omega) (by omega) (by omega) (by omega))
theorem wi_v (hb : rd_b B M) (hr : s_wi B M x J1 x1) (hf : x1.2.2.2.2.1 = 0) : ∀ i : Nat, i < 16 → 0 ≤ J1 (M + 10) i ∧ J1 (M + 10) i ≤ 999 := by
  obtain ⟨x2, x3, r1, r2, g1, g2, g3, g5⟩ := hr
  have f3 : x3.2.2.2.2.1 = 0 := by
    rcases g3 with ⟨g, -, e⟩ | ⟨g, -⟩
    · rw [e] at hf; exact absurd hf g
    · exact g
  have b := nu_ok g2 f3
  have f2 := nu_f g2 f3
  have bc : 0 ≤ B (M + 2) 19 ∧ B (M + 2) 19 ≤ 8 := hb.1 6 (by omega)
  have hr1 : 0 ≤ r1 ∧ r1 ≤ 999 := by
    by_cases c : B (M + 2) 19 = 0
    · rw [if_pos (Or.inr c)] at b; omega
    · rw [if_neg (fun q => q.elim (fun q => q f2) c)] at b
      have := hb.2 (8 + B (M + 2) 19 - 1).toNat (by omega)
      omega
  rw [if_pos hf] at g5
  intro i hi
  rw [g5, m_up_z (by omega), m_up_z (by omega), m_up_at]
  by_cases q : M + 10 = M + 10 ∧ i = (8 + B (M + 2) 19).toNat
  · rw [if_pos q]; exact hr1
  · rw [if_neg q]; exact hb.2 i hi
theorem ok_wi (hT : rd_T A B X M n) (hR : rd_R A B X M) (hb : rd_b B M) (hS : rs_S n y x) (hr : s_wi B M x J1 x1) (hc : rl_wind A X (A (X + 15) 7) (re_ms (A (X + 15)) 7 y) A' y2) : rs_B (A (X + 2)) n y2 x1 ∧ (A (X + 15) 7 < 8 → x1.2.2.2.2.1 = 0 → rd_L A B A' J1 X M 7) := by
  have b0 : 4 ≤ B (M + 2) 13 ∧ B (M + 2) 13 ≤ 16 := hb.1 0 (by omega)
  have b1 : 2 ≤ B (M + 2) 14 ∧ B (M + 2) 14 ≤ 6 := hb.1 1 (by omega)
  have bc : 0 ≤ B (M + 2) 19 ∧ B (M + 2) 19 ≤ 8 := hb.1 6 (by omega)
  have e15 : A (X + 15) 7 = B (M + 2) 19 := hR.2.1.1.2.2.1
  obtain ⟨k1, r1, r2, e1, e2, v1⟩ := wi_tie hT hR hS bc hb.2 hr hc
  refine ⟨k1, fun hlt hf => ?_⟩
  have e2 := e2 hf
  have v1 := v1 hf
  have vb := wi_v hb hr hf
  rw [if_pos hf] at e1
  rw [e15] at hlt
  rw [if_pos hlt] at e2
  obtain ⟨c, hcc⟩ := Int.eq_ofNat_of_zero_le bc.1
  rw [hcc, show (8 + (c : Int)).toNat = 8 + c by omega] at e1
  rw [hcc, show ((c : Int)).toNat = c by omega] at e2
  have v1' : c ≠ 0 → B (M + 10) (8 + c - 1) < r1 := fun q => by
    have := v1 (by omega)
    rw [hcc, show (8 + (c : Int) - 1).toNat = 8 + c - 1 by omega] at this
    exact this
  have fa : ∀ b i, ¬ (b = X + 9 ∧ i = c) → ¬ (b = X + 10 ∧ i = c) → A' b i = A b i := fun b i q9 q10 => by
    rw [e2, m_up_z (by omega), m_up_z (by omega)]
  have fb : ∀ b i, ¬ (b = M + 10 ∧ i = 8 + c) → ¬ (b = M + 11 ∧ i = 8 + c) → ¬ (b = M + 2 ∧ i = 19) → J1 b i = B b i := fun b i q10 q11 qc => by
    rw [e1, m_up_z (by omega), m_up_z (by omega), m_up_z (by omega)]
  have j18 : ∀ i, J1 M i = B M i := fun i => fb _ _ (by omega) (by omega) (by omega)
  have eb : ∀ b i, ¬ (b = M + 10 ∧ i = 8 + c) → ¬ (b = M + 11 ∧ i = 8 + c) → ¬ (b = M + 2 ∧ i = 19) → ¬ (b = M ∧ (i = 18 ∨ i = 19)) → m_up (m_up J1 M 18 1) M 19 (J1 M 19 + 1) b i = B b i := fun b i q10 q11 qc qm => by
    rw [m_up_z (by omega), m_up_z (by omega)]; exact fb b i q10 q11 qc
  have g24 : m_up (m_up J1 M 18 1) M 19 (J1 M 19 + 1) (M + 2) 19 = B (M + 2) 19 + 1 := by
    rw [m_up_z (by omega), m_up_z (by omega), e1, m_up_e, hcc]
  have eL : (if 4 ≤ ((7 : Nat) : Int) ∧ ((7 : Nat) : Int) ≤ 10 then m_up J1 M 18 1 else J1) = m_up J1 M 18 1 := if_pos (by omega)
  unfold rd_L
  rw [eL]
  refine ⟨⟨rd_wi (A' := m_up A' (X + 15) 7 (A' (X + 15) 7 + 1)) (B' := m_up (m_up J1 M 18 1) M 19 (J1 M 19 + 1)) (r1 := r1) (r2 := r2) (c := c) hR hcc v1' (fun b i q9 q10 q15 => ?_) ?_ ?_ ?_ (fun b i q10 q11 qc qm => ?_) ?_ ?_ ?_ ?_, rd_b_u hb (fun y q => ?_) (fun i q => ?_)⟩, ⟨funext (fun i => fb _ _ (by omega) (by omega) (by omega)), j18 20, j18 19⟩, fun b i q => fa b i (by omega) (by omega)⟩
  · rw [m_up_z q15]; exact fa b i q9 q10
  · rw [m_up_z (by omega), e2, m_up_z (by omega), m_up_e]
  · rw [m_up_z (by omega), e2, m_up_e]
  · rw [m_up_e, fa _ _ (by omega) (by omega)]
  · exact eb b i q10 q11 qc qm
  · rw [m_up_z (by omega), m_up_z (by omega), e1, m_up_z (by omega), m_up_z (by omega), m_up_e]
  · rw [m_up_z (by omega), m_up_z (by omega), e1, m_up_z (by omega), m_up_e]
  · exact g24
  · rw [m_up_z (by omega), m_up_e]; decide
  · by_cases q2 : y = 6
    · subst q2
      exact Or.inr ⟨by show (0 : Int) ≤ m_up (m_up J1 M 18 1) M 19 (J1 M 19 + 1) (M + 2) 19; omega, by show m_up (m_up J1 M 18 1) M 19 (J1 M 19 + 1) (M + 2) 19 ≤ (8 : Int); omega⟩
    · exact Or.inl (eb _ _ (by omega) (by omega) (by omega) (by omega))
  · rw [m_up_z (by omega), m_up_z (by omega)]; exact Or.inr (vb i q)
theorem ok_pi (hT : rd_T A B X M n) (hR : rd_R A B X M) (hb : rd_b B M) (hS : rs_S n y x) (hr : s_pi B M x J1 x1) (hc : rl_pile A X (re_ms (A (X + 15)) 9 y) A' y2) : rs_B (A (X + 2)) n y2 x1 ∧ (A (X + 15) 9 < 8 → x1.2.2.2.2.1 = 0 → rd_L A B A' J1 X M 9) := by
  have b0 : 4 ≤ B (M + 2) 13 ∧ B (M + 2) 13 ≤ 16 := hb.1 0 (by omega)
  have b1 : 2 ≤ B (M + 2) 14 ∧ B (M + 2) 14 ≤ 6 := hb.1 1 (by omega)
  have bc : 0 ≤ B (M + 2) 25 ∧ B (M + 2) 25 ≤ 8 := hb.1 12 (by omega)
  have e15 : A (X + 15) 9 = B (M + 2) 25 := hR.2.1.1.2.2.2.2.2
  obtain ⟨k1, p1, r2, pb, e1, e2⟩ := pi_tie hT hR hS bc.2 ⟨b0, b1.2⟩ hr hc
  refine ⟨k1, fun hlt hf => ?_⟩
  rw [if_pos hf] at e1
  rw [e15] at hlt
  obtain ⟨c, hcp⟩ := Int.eq_ofNat_of_zero_le pb.1
  have hcc : B (M + 2) 25 = B (M + 2) 25 := rfl
  rw [hcp, show (16 + (c : Int)).toNat = 16 + c by omega] at e1
  rw [hcp, show ((c : Int)).toNat = c by omega] at e2
  have fa : ∀ b i, ¬ (b = X + 5 ∧ i = c) → A' b i = A b i := fun b i q5 => by
    rw [e2, m_up_z (by omega)]
  have fb : ∀ b i, ¬ (b = M + 16 ∧ i = 16 + c) → ¬ (b = M + 2 ∧ i = 25) → J1 b i = B b i := fun b i q16 qc => by
    rw [e1, m_up_z (by omega), m_up_z (by omega)]
  have j18 : ∀ i, J1 M i = B M i := fun i => fb _ _ (by omega) (by omega)
  have eb : ∀ b i, ¬ (b = M + 16 ∧ i = 16 + c) → ¬ (b = M + 2 ∧ i = 25) → ¬ (b = M ∧ (i = 18 ∨ i = 19)) → m_up (m_up J1 M 18 1) M 19 (J1 M 19 + 1) b i = B b i := fun b i q16 qc qm => by
    rw [m_up_z (by omega), m_up_z (by omega)]; exact fb b i q16 qc
  have g24 : m_up (m_up J1 M 18 1) M 19 (J1 M 19 + 1) (M + 2) 25 = B (M + 2) 25 + 1 := by
    rw [m_up_z (by omega), m_up_z (by omega), e1, m_up_e]
  have eL : (if 4 ≤ ((9 : Nat) : Int) ∧ ((9 : Nat) : Int) ≤ 10 then m_up J1 M 18 1 else J1) = m_up J1 M 18 1 := if_pos (by omega)
  unfold rd_L
  rw [eL]
  refine ⟨⟨rd_pi (A' := m_up A' (X + 15) 9 (A' (X + 15) 9 + 1)) (B' := m_up (m_up J1 M 18 1) M 19 (J1 M 19 + 1)) (r2 := r2) (c := c) hR  (fun b i q5 q15 => ?_) ?_ ?_ (fun b i q16 qc qm => ?_) ?_ ?_ ?_, rd_b_u hb (fun y q => ?_) (fun i q => ?_)⟩, ⟨funext (fun i => fb _ _ (by omega) (by omega)), j18 20, j18 19⟩, fun b i q => fa b i (by omega)⟩
  · rw [m_up_z q15]; exact fa b i q5
  · rw [m_up_z (by omega), e2, m_up_e]
  · rw [m_up_e, fa _ _ (by omega)]
  · exact eb b i q16 qc qm
  · rw [m_up_z (by omega), m_up_z (by omega), e1, m_up_z (by omega), m_up_e]
  · exact g24
  · rw [m_up_z (by omega), m_up_e]; decide
  · by_cases q2 : y = 12
    · subst q2
      exact Or.inr ⟨by show (0 : Int) ≤ m_up (m_up J1 M 18 1) M 19 (J1 M 19 + 1) (M + 2) 25; omega, by show m_up (m_up J1 M 18 1) M 19 (J1 M 19 + 1) (M + 2) 25 ≤ (8 : Int); omega⟩
    · exact Or.inl (eb _ _ (by omega) (by omega) (by omega))
  · exact Or.inl (eb _ _ (by omega) (by omega) (by omega))
theorem ok_bl (hT : rd_T A B X M n) (hR : rd_R A B X M) (hb : rd_b B M) (hS : rs_S n y x) (hr : s_bl B M x J1 x1) (hc : rl_block A X (re_ms (A (X + 15)) 4 y) A' y2) : rs_B (A (X + 2)) n y2 x1 ∧ (A (X + 15) 4 < 6 → x1.2.2.2.2.1 = 0 → rd_L A B A' J1 X M 4) := by
  have b0 : 4 ≤ B (M + 2) 13 ∧ B (M + 2) 13 ≤ 16 := hb.1 0 (by omega)
  have b1 : 2 ≤ B (M + 2) 14 ∧ B (M + 2) 14 ≤ 6 := hb.1 1 (by omega)
  have bc : 0 ≤ B (M + 2) 20 ∧ B (M + 2) 20 ≤ 6 := hb.1 7 (by omega)
  have e15 : A (X + 15) 4 = B (M + 2) 20 := hR.2.1.1.2.2.2.1
  obtain ⟨k1, c1, c2, c3, e1, e2⟩ := bl_tie hT hR hS bc.2 ⟨b0.2, b1.2⟩ hr hc
  refine ⟨k1, fun hlt hf => ?_⟩
  rw [if_pos hf] at e1
  rw [e15] at hlt
  obtain ⟨c, hcc⟩ := Int.eq_ofNat_of_zero_le bc.1
  rw [hcc, show (6 + (c : Int)).toNat = 6 + c by omega] at e1
  have fa : ∀ b i, ¬ (b = X + 4) → A' b i = A b i := fun b i q4 => by
    rw [e2]; unfold rl_bk; rw [if_neg (fun p => q4 p.1)]
  have fb : ∀ b i, ¬ (b = M + 7 ∧ i = 6 + c) → ¬ (b = M + 8 ∧ i = 6 + c) → ¬ (b = M + 9 ∧ i = 6 + c) → ¬ (b = M + 2 ∧ i = 20) → J1 b i = B b i := fun b i q7 q8 q9 qc => by
    rw [e1, m_up_z (by omega), m_up_z (by omega), m_up_z (by omega), m_up_z (by omega)]
  have j18 : ∀ i, J1 M i = B M i := fun i => fb _ _ (by omega) (by omega) (by omega) (by omega)
  have eb : ∀ b i, ¬ (b = M + 7 ∧ i = 6 + c) → ¬ (b = M + 8 ∧ i = 6 + c) → ¬ (b = M + 9 ∧ i = 6 + c) → ¬ (b = M + 2 ∧ i = 20) → ¬ (b = M ∧ (i = 18 ∨ i = 19)) → m_up (m_up J1 M 18 1) M 19 (J1 M 19 + 1) b i = B b i := fun b i q7 q8 q9 qc qm => by
    rw [m_up_z (by omega), m_up_z (by omega)]; exact fb b i q7 q8 q9 qc
  have g24 : m_up (m_up J1 M 18 1) M 19 (J1 M 19 + 1) (M + 2) 20 = B (M + 2) 20 + 1 := by
    rw [m_up_z (by omega), m_up_z (by omega), e1, m_up_e, hcc]
  have eL : (if 4 ≤ ((4 : Nat) : Int) ∧ ((4 : Nat) : Int) ≤ 10 then m_up J1 M 18 1 else J1) = m_up J1 M 18 1 := if_pos (by omega)
  unfold rd_L
  rw [eL]
  refine ⟨⟨rd_bl (A' := m_up A' (X + 15) 4 (A' (X + 15) 4 + 1)) (B' := m_up (m_up J1 M 18 1) M 19 (J1 M 19 + 1)) (r1 := c1) (r2 := c2) (r3 := c3) (c := c) hR hcc (fun b i q4 q15 => ?_) (fun i => ?_) ?_ (fun b i q7 q8 q9 qc qm => ?_) ?_ ?_ ?_ ?_ ?_, rd_b_u hb (fun y q => ?_) (fun i q => ?_)⟩, ⟨funext (fun i => fb _ _ (by omega) (by omega) (by omega) (by omega)), j18 20, j18 19⟩, fun b i q => fa b i (by omega)⟩
  · rw [m_up_z q15]; exact fa b i q4
  · rw [m_up_z (by omega), e2]; unfold rl_bk
    by_cases q : (c1 ≤ (i : Int) ∧ (i : Int) < c2 + 1) ∧ c3 < A (X + 4) i
    · rw [if_pos q, if_pos ⟨rfl, q⟩]
    · rw [if_neg q, if_neg (fun p => q p.2)]
  · rw [m_up_e, fa _ _ (by omega)]
  · exact eb b i q7 q8 q9 qc qm
  · rw [m_up_z (by omega), m_up_z (by omega), e1, m_up_z (by omega), m_up_z (by omega), m_up_z (by omega), m_up_e]
  · rw [m_up_z (by omega), m_up_z (by omega), e1, m_up_z (by omega), m_up_z (by omega), m_up_e]
  · rw [m_up_z (by omega), m_up_z (by omega), e1, m_up_z (by omega), m_up_e]
  · exact g24
  · rw [m_up_z (by omega), m_up_e]; decide
  · by_cases q2 : y = 7
    · subst q2
      exact Or.inr ⟨by show (0 : Int) ≤ m_up (m_up J1 M 18 1) M 19 (J1 M 19 + 1) (M + 2) 20; omega, by show m_up (m_up J1 M 18 1) M 19 (J1 M 19 + 1) (M + 2) 20 ≤ (6 : Int); omega⟩
    · exact Or.inl (eb _ _ (by omega) (by omega) (by omega) (by omega) (by omega))
  · exact Or.inl (eb _ _ (by omega) (by omega) (by omega) (by omega) (by omega))
end LOB
