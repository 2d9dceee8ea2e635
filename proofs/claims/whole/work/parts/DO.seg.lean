/-! the columns that bear a still load, in chains by threes; deep ones join chains -/
section SEG
variable {C : a_C}
theorem v_g_is (ok : a_ok C) {c : Nat} (h : c_g C c = true) : a_is C (v_s (c : Int) 1) = true := by
  have h := of_decide_eq_true h
  have := ok.2.1
  exact v_s_is ok (by omega) (by omega) h.2
theorem v_H_is (ok : a_ok C) {c : Nat} (h : c_H C c = true) : a_is C (v_s (c : Int) 3) = true ∧ c_g C c = true := by
  have h := of_decide_eq_true h
  exact ⟨v_s_is ok (by omega) (by omega) h.2.1, decide_eq_true ⟨h.1, by omega⟩⟩
def v_rf (C : a_C) : Nat → Nat → Nat
  | 0, c => c
  | f + 1, c => if 3 ≤ c ∧ c_g C (c - 3) = true then v_rf C f (c - 3) else c
theorem v_rf_ok (ok : a_ok C) : ∀ (f c : Nat), c_g C c = true → v_rf C f c ≤ c ∧ c_g C (v_rf C f c) = true ∧ v_rf C f c % 3 = c % 3 ∧ (c < 3 * (f + 1) → v_rf C f c < 3 ∨ ¬ c_g C (v_rf C f c - 3) = true) ∧ v_nr C (4 * f) (v_s (c : Int) 1) (v_s (v_rf C f c : Int) 1) ∧ v_nr C (4 * f) (v_s (v_rf C f c : Int) 1) (v_s (c : Int) 1) := by
  intro f
  induction f with
  | zero =>
    intro c h
    exact ⟨Nat.le_refl _, h, rfl, fun q => Or.inl (by show c < 3; omega), v_nr_r, v_nr_r⟩
  | succ f ih =>
    intro c h
    unfold v_rf
    by_cases q : 3 ≤ c ∧ c_g C (c - 3) = true
    · rw [if_pos q]
      obtain ⟨i1, i2, i3, i4, i5, i6⟩ := ih (c - 3) q.2
      have e : ((c - 3 : Nat) : Int) + 3 = (c : Int) := by omega
      have l := v_l1 ok (v_g_is ok q.2) (by rw [e]; exact v_g_is ok h)
      rw [e] at l
      exact ⟨by omega, i2, by omega, fun hc => i4 (by omega), v_nr_m (v_nr_t l.2 i5) (by omega), v_nr_m (v_nr_t i6 l.1) (by omega)⟩
    · rw [if_neg q]
      refine ⟨Nat.le_refl _, h, rfl, fun _ => ?_, v_nr_r, v_nr_r⟩
      by_cases c3 : c < 3
      · exact Or.inl c3
      · exact Or.inr (fun g => q ⟨by omega, g⟩)
def v_rp (C : a_C) (c : Nat) : Nat := v_rf C 5 c
def v_ir (C : a_C) (r : Nat) : Bool := c_g C r && (decide (r < 3) || !c_g C (r - 3))
def v_Rl (C : a_C) : List Nat := q_16l.filter (v_ir C)
theorem v_16 (ok : a_ok C) {c : Nat} (h : c_g C c = true) : c < 16 := by
  have h := (of_decide_eq_true h).1
  have := ok.1
  omega
theorem v_rp_ok (ok : a_ok C) {c : Nat} (h : c_g C c = true) : v_rp C c ∈ v_Rl C ∧ v_rp C c % 3 = c % 3 ∧ v_nr C 20 (v_s (c : Int) 1) (v_s (v_rp C c : Int) 1) ∧ v_nr C 20 (v_s (v_rp C c : Int) 1) (v_s (c : Int) 1) := by
  obtain ⟨h1, h2, h3, h4, h5, h6⟩ := v_rf_ok ok 5 c h
  have hc := v_16 ok h
  refine ⟨List.mem_filter.mpr ⟨q_16 _ (by unfold v_rp; omega), ?_⟩, h3, h5, h6⟩
  unfold v_ir v_rp
  rw [Bool.and_eq_true, Bool.or_eq_true]
  refine ⟨h2, ?_⟩
  rcases h4 (by omega) with q | q
  · exact Or.inl (decide_eq_true q)
  · refine Or.inr ?_
    cases hq : c_g C (v_rf C 5 c - 3)
    · rfl
    · exact absurd hq q
theorem v_sm (ok : a_ok C) {c c' : Nat} (h : c_g C c = true) (h' : c_g C c' = true) (e : v_rp C c = v_rp C c') : v_nr C 40 (v_s (c : Int) 1) (v_s (c' : Int) 1) := by
  obtain ⟨-, -, a, -⟩ := v_rp_ok ok h
  obtain ⟨-, -, -, b⟩ := v_rp_ok ok h'
  rw [e] at a
  exact v_nr_t a b
/-- two deep columns by twos -/
theorem v_d8 (ok : a_ok C) {c : Nat} (h : c_H C c = true) (h' : c_H C (c + 2) = true) : v_nr C 8 (v_s (c : Int) 1) (v_s ((c + 2 : Nat) : Int) 1) ∧ v_nr C 8 (v_s ((c + 2 : Nat) : Int) 1) (v_s (c : Int) 1) := by
  have k1 := (v_H_is ok h).1
  have k2 := (v_H_is ok h').1
  have u1 := v_up ok 2 1 (c := (c : Int)) k1 (by omega)
  have u2 := v_up ok 2 1 (c := ((c + 2 : Nat) : Int)) k2 (by omega)
  have e : ((c + 2 : Nat) : Int) = (c : Int) + 2 := by omega
  have l := v_l2 ok k1 (by rw [← e]; exact k2)
  rw [← e] at l
  exact ⟨v_nr_t (v_nr_t ⟨2, Nat.le_refl 2, u1.2⟩ l.1) ⟨2, Nat.le_refl 2, u2.1⟩, v_nr_t (v_nr_t ⟨2, Nat.le_refl 2, u2.2⟩ l.2) ⟨2, Nat.le_refl 2, u1.1⟩⟩
theorem v_ne {a b : Nat} (h : a % 3 ≠ b % 3) : a ≠ b := fun e => h (by rw [e])
/-- one chain fewer -/
theorem v_t1 (ok : a_ok C) {k : Nat} (h : c_H C k = true) (h' : c_H C (k + 2) = true) : ∃ (comp : Nat → Nat) (Rl : List Nat), Rl.length + 1 ≤ (v_Rl C).length ∧ (∀ c, c_g C c = true → comp c ∈ Rl) ∧ ∀ c c', c_g C c = true → c_g C c' = true → comp c = comp c' → v_nr C 96 (v_s (c : Int) 1) (v_s (c' : Int) 1) := by
  have g1 := (v_H_is ok h).2
  have g2 := (v_H_is ok h').2
  obtain ⟨r1, m1, -, -⟩ := v_rp_ok ok g1
  obtain ⟨r2, m2, -, -⟩ := v_rp_ok ok g2
  have n12 : v_rp C k ≠ v_rp C (k + 2) := v_ne (by omega)
  obtain ⟨d1, d2⟩ := v_d8 ok h h'
  refine ⟨fun c => if v_rp C c = v_rp C (k + 2) then v_rp C k else v_rp C c, (v_Rl C).filter (fun r => decide (r ≠ v_rp C (k + 2))), ?_, fun c hc => ?_, fun c c' hc hc' e => ?_⟩
  · have := o_fl_lt (p := fun _ => true) (p' := fun r => decide (r ≠ v_rp C (k + 2))) (fun _ _ => rfl) (x := v_rp C (k + 2)) rfl (by simp) (v_Rl C) r2
    rw [List.filter_eq_self.mpr (fun _ _ => rfl : ∀ a ∈ v_Rl C, (fun _ => true) a = true)] at this
    exact this
  · show (if v_rp C c = v_rp C (k + 2) then v_rp C k else v_rp C c) ∈ _
    by_cases q : v_rp C c = v_rp C (k + 2)
    · rw [if_pos q]; exact List.mem_filter.mpr ⟨r1, decide_eq_true n12⟩
    · rw [if_neg q]; exact List.mem_filter.mpr ⟨(v_rp_ok ok hc).1, decide_eq_true q⟩
  · dsimp only at e
    by_cases q : v_rp C c = v_rp C (k + 2)
    · rw [if_pos q] at e
      by_cases q' : v_rp C c' = v_rp C (k + 2)
      · exact v_nr_m (v_sm ok hc hc' (q.trans q'.symm)) (by omega)
      · rw [if_neg q'] at e
        exact v_nr_m (v_nr_t (v_nr_t (v_sm ok hc g2 q) d2) (v_sm ok g1 hc' e)) (by omega)
    · rw [if_neg q] at e
      by_cases q' : v_rp C c' = v_rp C (k + 2)
      · rw [if_pos q'] at e
        exact v_nr_m (v_nr_t (v_nr_t (v_sm ok hc g1 e) d1) (v_sm ok g2 hc' q'.symm)) (by omega)
      · rw [if_neg q'] at e
        exact v_nr_m (v_sm ok hc hc' e) (by omega)
/-- two chains fewer -/
theorem v_t2 (ok : a_ok C) {k : Nat} (h : c_H C k = true) (h' : c_H C (k + 2) = true) (h2 : c_H C (k + 4) = true) : ∃ (comp : Nat → Nat) (Rl : List Nat), Rl.length + 2 ≤ (v_Rl C).length ∧ (∀ c, c_g C c = true → comp c ∈ Rl) ∧ ∀ c c', c_g C c = true → c_g C c' = true → comp c = comp c' → v_nr C 96 (v_s (c : Int) 1) (v_s (c' : Int) 1) := by
  have g1 := (v_H_is ok h).2
  have g2 := (v_H_is ok h').2
  have g3 := (v_H_is ok h2).2
  obtain ⟨r1, m1, -, -⟩ := v_rp_ok ok g1
  obtain ⟨r2, m2, -, -⟩ := v_rp_ok ok g2
  obtain ⟨r3, m3, -, -⟩ := v_rp_ok ok g3
  have n12 : v_rp C k ≠ v_rp C (k + 2) := v_ne (by omega)
  have n13 : v_rp C k ≠ v_rp C (k + 4) := v_ne (by omega)
  have n32 : v_rp C (k + 4) ≠ v_rp C (k + 2) := v_ne (by omega)
  obtain ⟨d1, d2⟩ := v_d8 ok h h'
  obtain ⟨d3, d4⟩ := v_d8 ok h' h2
  refine ⟨fun c => if v_rp C c = v_rp C (k + 2) ∨ v_rp C c = v_rp C (k + 4) then v_rp C k else v_rp C c, ((v_Rl C).filter (fun r => decide (r ≠ v_rp C (k + 2)))).filter (fun r => decide (r ≠ v_rp C (k + 4))), ?_, fun c hc => ?_, fun c c' hc hc' e => ?_⟩
  · have a := o_fl_lt (p := fun _ => true) (p' := fun r => decide (r ≠ v_rp C (k + 2))) (fun _ _ => rfl) (x := v_rp C (k + 2)) rfl (by simp) (v_Rl C) r2
    have b := o_fl_lt (p := fun _ => true) (p' := fun r => decide (r ≠ v_rp C (k + 4))) (fun _ _ => rfl) (x := v_rp C (k + 4)) rfl (by simp) ((v_Rl C).filter (fun r => decide (r ≠ v_rp C (k + 2)))) (List.mem_filter.mpr ⟨r3, decide_eq_true n32⟩)
    rw [List.filter_eq_self.mpr (fun _ _ => rfl : ∀ a ∈ v_Rl C, (fun _ => true) a = true)] at a
    rw [List.filter_eq_self.mpr (fun _ _ => rfl : ∀ a ∈ (v_Rl C).filter (fun r => decide (r ≠ v_rp C (k + 2))), (fun _ => true) a = true)] at b
    omega
  · show (if v_rp C c = v_rp C (k + 2) ∨ v_rp C c = v_rp C (k + 4) then v_rp C k else v_rp C c) ∈ _
    by_cases q : v_rp C c = v_rp C (k + 2) ∨ v_rp C c = v_rp C (k + 4)
    · rw [if_pos q]; exact List.mem_filter.mpr ⟨List.mem_filter.mpr ⟨r1, decide_eq_true n12⟩, decide_eq_true n13⟩
    · rw [if_neg q]; exact List.mem_filter.mpr ⟨List.mem_filter.mpr ⟨(v_rp_ok ok hc).1, decide_eq_true (fun e => q (Or.inl e))⟩, decide_eq_true (fun e => q (Or.inr e))⟩
  · have key : ∀ c, c_g C c = true → (if v_rp C c = v_rp C (k + 2) ∨ v_rp C c = v_rp C (k + 4) then v_rp C k else v_rp C c) = v_rp C k → v_rp C c = v_rp C k ∨ v_rp C c = v_rp C (k + 2) ∨ v_rp C c = v_rp C (k + 4) := fun c hc e => by
      by_cases q : v_rp C c = v_rp C (k + 2) ∨ v_rp C c = v_rp C (k + 4)
      · exact Or.inr q
      · rw [if_neg q] at e; exact Or.inl e
    dsimp only at e
    have fin : (v_rp C c = v_rp C k ∨ v_rp C c = v_rp C (k + 2) ∨ v_rp C c = v_rp C (k + 4)) → (v_rp C c' = v_rp C k ∨ v_rp C c' = v_rp C (k + 2) ∨ v_rp C c' = v_rp C (k + 4)) → v_nr C 96 (v_s (c : Int) 1) (v_s (c' : Int) 1) := fun a b => by
      rcases a with a | a | a <;> rcases b with b | b | b
      · exact v_nr_m (v_sm ok hc hc' (a.trans b.symm)) (by omega)
      · exact v_nr_m (v_nr_t (v_nr_t (v_sm ok hc g1 a) d1) (v_sm ok g2 hc' b.symm)) (by omega)
      · exact v_nr_m (v_nr_t (v_nr_t (v_nr_t (v_sm ok hc g1 a) d1) d3) (v_sm ok g3 hc' b.symm)) (by omega)
      · exact v_nr_m (v_nr_t (v_nr_t (v_sm ok hc g2 a) d2) (v_sm ok g1 hc' b.symm)) (by omega)
      · exact v_nr_m (v_sm ok hc hc' (a.trans b.symm)) (by omega)
      · exact v_nr_m (v_nr_t (v_nr_t (v_sm ok hc g2 a) d3) (v_sm ok g3 hc' b.symm)) (by omega)
      · exact v_nr_m (v_nr_t (v_nr_t (v_nr_t (v_sm ok hc g3 a) d4) d2) (v_sm ok g1 hc' b.symm)) (by omega)
      · exact v_nr_m (v_nr_t (v_nr_t (v_sm ok hc g3 a) d4) (v_sm ok g2 hc' b.symm)) (by omega)
      · exact v_nr_m (v_sm ok hc hc' (a.trans b.symm)) (by omega)
    by_cases q : v_rp C c = v_rp C (k + 2) ∨ v_rp C c = v_rp C (k + 4)
    · rw [if_pos q] at e
      exact fin (Or.inr q) (key c' hc' e.symm)
    · rw [if_neg q] at e
      by_cases q' : v_rp C c' = v_rp C (k + 2) ∨ v_rp C c' = v_rp C (k + 4)
      · rw [if_pos q'] at e
        exact fin (Or.inl e) (Or.inr q')
      · rw [if_neg q'] at e
        exact v_nr_m (v_sm ok hc hc' e) (by omega)
/-- a mask of booleans -/
def q_mk : List Bool → Nat
  | [] => 0
  | b :: l => cond b 1 0 + 2 * q_mk l
theorem q_mk_bit : ∀ (l : List Bool) (i : Nat), Nat.testBit (q_mk l) i = l.getD i false
  | [], i => by show Nat.testBit 0 i = false; exact Nat.zero_testBit i
  | b :: l, 0 => by
    rw [Nat.testBit_zero]
    show decide ((cond b 1 0 + 2 * q_mk l) % 2 = 1) = b
    cases b
    · exact decide_eq_false (by show ¬ (0 + 2 * q_mk l) % 2 = 1; omega)
    · exact decide_eq_true (by show (1 + 2 * q_mk l) % 2 = 1; omega)
  | b :: l, i + 1 => by
    rw [Nat.testBit_succ]
    show Nat.testBit ((cond b 1 0 + 2 * q_mk l) / 2) i = l.getD i false
    rw [show (cond b 1 0 + 2 * q_mk l) / 2 = q_mk l by cases b <;> simp <;> omega]
    exact q_mk_bit l i
def v_gl (C : a_C) : List Bool := [c_g C 3, c_g C 4, c_g C 5, c_g C 6, c_g C 7, c_g C 8, c_g C 9, c_g C 10, c_g C 11, c_g C 12]
theorem q_mk_lt : ∀ l : List Bool, q_mk l < 2 ^ l.length
  | [] => by decide
  | b :: l => by
    have := q_mk_lt l
    show cond b 1 0 + 2 * q_mk l < 2 ^ (l.length + 1)
    rw [Nat.pow_succ]
    cases b <;> simp <;> omega
theorem v_gm_bit : ∀ k, k < 16 → Nat.testBit (q_gm (q_mk (v_gl C))) k = c_gB C k := by
  have e : q_gm (q_mk (v_gl C)) = q_mk (true :: true :: true :: (v_gl C ++ [true, true, true])) := by
    show 57351 + 8 * q_mk (v_gl C) = _
    simp only [v_gl, q_mk, List.cons_append, List.nil_append, cond_true]
    omega
  intro k hk
  rw [e, q_mk_bit]
  match k, hk with
  | 0, _ => rfl
  | 1, _ => rfl
  | 2, _ => rfl
  | 3, _ => rfl
  | 4, _ => rfl
  | 5, _ => rfl
  | 6, _ => rfl
  | 7, _ => rfl
  | 8, _ => rfl
  | 9, _ => rfl
  | 10, _ => rfl
  | 11, _ => rfl
  | 12, _ => rfl
  | 13, _ => rfl
  | 14, _ => rfl
  | 15, _ => rfl
  | k + 16, h => exact absurd h (by omega)
theorem q_pc_s {b : Bool} {n m : Nat} : q_pc (n + 1) (cond b 1 0 + 2 * m) = cond b 1 0 + q_pc n m := by
  show (cond b 1 0 + 2 * m) % 2 + q_pc n ((cond b 1 0 + 2 * m) / 2) = _
  have e1 : (cond b 1 0 + 2 * m) % 2 = cond b 1 0 := by cases b <;> simp <;> omega
  have e2 : (cond b 1 0 + 2 * m) / 2 = m := by cases b <;> simp <;> omega
  rw [e1, e2]
theorem v_fl_sm {p : Nat → Bool} : ∀ l : List Nat, (l.filter p).length = q_sm l (fun i => cond (p i) 1 0)
  | [] => rfl
  | a :: l => by
    show ((a :: l).filter p).length = cond (p a) 1 0 + q_sm l _
    rw [List.filter_cons, ← v_fl_sm l]
    cases h : p a
    · rw [if_neg (by decide)]; show _ = 0 + _; omega
    · rw [if_pos rfl]; show _ + 1 = 1 + _; omega
/-- how many chains -/
theorem v_Rl_len : (v_Rl C).length ≤ 3 + q_be (q_mk (v_gl C)) := by
  unfold v_Rl
  rw [v_fl_sm]
  have hb : q_be (q_mk (v_gl C)) = 10 - (cond (c_g C 3) 1 0 + (cond (c_g C 4) 1 0 + (cond (c_g C 5) 1 0 + (cond (c_g C 6) 1 0 + (cond (c_g C 7) 1 0 + (cond (c_g C 8) 1 0 + (cond (c_g C 9) 1 0 + (cond (c_g C 10) 1 0 + (cond (c_g C 11) 1 0 + (cond (c_g C 12) 1 0 + 0)))))))))) := by
    show 10 - q_pc 10 (q_mk (v_gl C)) = _
    simp only [v_gl, q_mk, q_pc_s]
    rfl
  rw [hb]
  have h1 : ∀ i, cond (c_g C i) 1 0 ≤ 1 := fun i => by cases c_g C i <;> decide
  have h2 : ∀ i, cond (v_ir C i) 1 0 ≤ cond (c_g C i) 1 0 := fun i => by
    unfold v_ir
    cases c_g C i
    · exact Nat.le_refl _
    · cases (decide (i < 3) || !c_g C (i - 3)) <;> decide
  have h3 : ∀ i, 3 ≤ i → cond (v_ir C i) 1 0 + cond (c_g C (i - 3)) 1 0 ≤ 1 := fun i hi => by
    unfold v_ir
    rw [decide_eq_false (by omega)]
    cases c_g C i <;> cases c_g C (i - 3) <;> decide
  have a0 := h2 0; have a1 := h2 1; have a2 := h2 2
  have b3 := h3 3 (by omega); have b4 := h3 4 (by omega); have b5 := h3 5 (by omega); have b6 := h3 6 (by omega); have b7 := h3 7 (by omega); have b8 := h3 8 (by omega); have b9 := h3 9 (by omega); have b10 := h3 10 (by omega); have b11 := h3 11 (by omega); have b12 := h3 12 (by omega); have b13 := h3 13 (by omega); have b14 := h3 14 (by omega); have b15 := h3 15 (by omega)
  simp only [q_sm]
  simp only [Nat.reduceSub] at b3 b4 b5 b6 b7 b8 b9 b10 b11 b12 b13 b14 b15
  have c3 := h1 3; have c4 := h1 4; have c5 := h1 5; have c6 := h1 6; have c7 := h1 7; have c8 := h1 8; have c9 := h1 9; have c10 := h1 10; have c11 := h1 11; have c12 := h1 12
  omega
end SEG
