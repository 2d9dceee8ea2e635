/-! the class's world: its objects and rows at fixed places behind it -/
def cl_ob : List (Nat × Nat × Nat) := [(0, 11, 0), (1, 6, 0), (2, 21, 700), (3, 4, 0), (4, 20, 16), (5, 20, 16), (6, 20, 6), (7, 20, 6), (8, 20, 6), (9, 20, 8), (10, 20, 8), (11, 20, 16), (12, 20, 16), (13, 20, 3), (14, 20, 3), (15, 20, 12), (16, 20, 18), (17, 4, 0), (18, 20, 16), (19, 20, 16), (20, 20, 6), (21, 20, 6), (22, 20, 6), (23, 20, 8), (24, 20, 8), (25, 20, 16), (26, 20, 16), (27, 20, 3), (28, 20, 3), (29, 20, 12), (30, 2, 0), (31, 5, 0), (32, 20, 16), (33, 1, 0), (34, 20, 70), (35, 3, 0), (36, 25, 30), (37, 2, 0), (38, 5, 0), (39, 20, 16), (40, 2, 0), (41, 5, 0), (42, 20, 16), (43, 2, 0), (44, 5, 0), (45, 20, 16), (46, 2, 0), (47, 5, 0), (48, 20, 16), (49, 2, 0), (50, 5, 0), (51, 20, 16), (52, 2, 0), (53, 5, 0), (54, 20, 16), (55, 2, 0), (56, 5, 0), (57, 20, 16), (58, 2, 0), (59, 5, 0), (60, 20, 16), (61, 2, 0), (62, 5, 0), (63, 20, 16), (64, 2, 0), (65, 5, 0), (66, 20, 16), (67, 2, 0), (68, 5, 0), (69, 20, 16), (70, 2, 0), (71, 5, 0), (72, 20, 16), (73, 2, 0), (74, 5, 0), (75, 20, 16), (76, 2, 0), (77, 5, 0), (78, 20, 16), (79, 2, 0), (80, 5, 0), (81, 20, 16), (82, 2, 0), (83, 5, 0), (84, 20, 16), (85, 2, 0), (86, 5, 0), (87, 20, 16), (88, 2, 0), (89, 5, 0), (90, 20, 16), (91, 2, 0), (92, 5, 0), (93, 20, 16), (94, 2, 0), (95, 5, 0), (96, 20, 16), (97, 2, 0), (98, 5, 0), (99, 20, 16), (100, 2, 0), (101, 5, 0), (102, 20, 16), (103, 2, 0), (104, 5, 0), (105, 20, 16), (106, 2, 0), (107, 5, 0), (108, 20, 16), (109, 2, 0), (110, 5, 0), (111, 20, 16), (112, 2, 0), (113, 5, 0), (114, 20, 16), (115, 2, 0), (116, 5, 0), (117, 20, 16), (118, 2, 0), (119, 5, 0), (120, 20, 16), (121, 2, 0), (122, 5, 0), (123, 20, 16), (124, 2, 0), (125, 5, 0), (126, 20, 16), (127, 2, 0), (128, 5, 0), (129, 20, 16), (130, 1, 0), (131, 20, 70), (132, 10, 0), (133, 9, 0), (134, 20, 16), (135, 22, 864), (136, 9, 0), (137, 20, 16), (138, 22, 864), (139, 8, 0), (142, 5, 0), (143, 5, 0), (144, 8, 0), (147, 5, 0), (148, 5, 0), (149, 8, 0), (152, 5, 0), (153, 5, 0), (154, 20, 36), (155, 5, 0), (156, 5, 0), (157, 7, 0), (158, 20, 6), (159, 20, 6), (160, 0, 0), (161, 20, 16), (162, 20, 3), (163, 20, 3), (164, 5, 0)]
def cl_fd : List (Nat × Nat × Nat) := [(0, 0, 1), (0, 1, 17), (0, 2, 30), (0, 3, 33), (0, 4, 35), (0, 5, 127), (0, 6, 130), (0, 8, 132), (0, 9, 157), (0, 10, 160), (0, 11, 164), (1, 0, 2), (1, 2, 3), (1, 5, 16), (3, 7, 4), (3, 8, 5), (3, 9, 6), (3, 10, 7), (3, 11, 8), (3, 12, 9), (3, 13, 10), (3, 14, 11), (3, 15, 12), (3, 16, 13), (3, 17, 14), (3, 18, 15), (17, 7, 18), (17, 8, 19), (17, 9, 20), (17, 10, 21), (17, 11, 22), (17, 12, 23), (17, 13, 24), (17, 14, 25), (17, 15, 26), (17, 16, 27), (17, 17, 28), (17, 18, 29), (30, 0, 31), (30, 1, 32), (33, 0, 34), (35, 0, 36), (37, 0, 38), (37, 1, 39), (40, 0, 41), (40, 1, 42), (43, 0, 44), (43, 1, 45), (46, 0, 47), (46, 1, 48), (49, 0, 50), (49, 1, 51), (52, 0, 53), (52, 1, 54), (55, 0, 56), (55, 1, 57), (58, 0, 59), (58, 1, 60), (61, 0, 62), (61, 1, 63), (64, 0, 65), (64, 1, 66), (67, 0, 68), (67, 1, 69), (70, 0, 71), (70, 1, 72), (73, 0, 74), (73, 1, 75), (76, 0, 77), (76, 1, 78), (79, 0, 80), (79, 1, 81), (82, 0, 83), (82, 1, 84), (85, 0, 86), (85, 1, 87), (88, 0, 89), (88, 1, 90), (91, 0, 92), (91, 1, 93), (94, 0, 95), (94, 1, 96), (97, 0, 98), (97, 1, 99), (100, 0, 101), (100, 1, 102), (103, 0, 104), (103, 1, 105), (106, 0, 107), (106, 1, 108), (109, 0, 110), (109, 1, 111), (112, 0, 113), (112, 1, 114), (115, 0, 116), (115, 1, 117), (118, 0, 119), (118, 1, 120), (121, 0, 122), (121, 1, 123), (124, 0, 125), (124, 1, 126), (127, 0, 128), (127, 1, 129), (130, 0, 131), (132, 0, 17), (132, 1, 30), (132, 2, 133), (132, 3, 136), (132, 4, 139), (132, 5, 144), (132, 6, 149), (132, 7, 154), (132, 11, 155), (132, 12, 156), (133, 9, 134), (133, 10, 135), (136, 9, 137), (136, 10, 138), (139, 8, 142), (139, 9, 143), (144, 8, 147), (144, 9, 148), (149, 8, 152), (149, 9, 153), (157, 0, 17), (157, 1, 132), (157, 2, 158), (157, 3, 159), (160, 0, 17), (160, 1, 30), (160, 2, 132), (160, 3, 161), (160, 4, 162), (160, 5, 163)]
def cl_sh (en : Nat → Nat) (X : Nat) (T : Nat → Option (Nat × Nat)) (P : Nat → Nat → Option Nat) : Prop := en 0 ≤ X ∧ (∀ q ∈ cl_ob, T (X + q.1) = some (q.2.1, q.2.2)) ∧ (∀ q ∈ cl_fd, P (X + q.1) q.2.1 = some (X + q.2.2)) ∧ ∀ i : Nat, i < 30 → P (X + 36) i = some (X + 37 + 3 * i)
section CLX
variable {en : Nat → Nat} {d : Nat} {T : Nat → Option (Nat × Nat)} {J J0 K H : Nat → Nat → Int} {P : Nat → Nat → Option Nat} {L : Nat → Nat → Int64} {z w A B R X : Nat} {Q : m_Q} {σ : a_S} {C : a_C} {h : Int}
theorem cl_t (hX : cl_sh en X T P) {i o t n : Nat} (hi : cl_ob[i]? = some (o, t, n)) : T (X + o) = some (t, n) := hX.2.1 _ (List.mem_of_getElem? hi)
theorem cl_p (hX : cl_sh en X T P) {i o j t : Nat} (hi : cl_fd[i]? = some (o, j, t)) : P (X + o) j = some (X + t) := hX.2.2.1 _ (List.mem_of_getElem? hi)
theorem cl_e (hX : cl_sh en X T P) (k : Nat) : en 0 ≤ X + k := Nat.le_trans hX.1 (Nat.le_add_right X k)
theorem cl_plan (hX : cl_sh en X T P) : pl_sh en (X + 17) T P := by
  refine ⟨cl_e hX 17, hX.2.1 (17, 4, 0) (by decide), fun q hq => ?_⟩
  have h1 : (17, q.1, 17 + q.2.1) ∈ cl_fd ∧ (17 + q.2.1, q.2.2.1, q.2.2.2) ∈ cl_ob := by
    have : ∀ q ∈ pl_tab, (17, q.1, 17 + q.2.1) ∈ cl_fd ∧ (17 + q.2.1, q.2.2.1, q.2.2.2) ∈ cl_ob := by decide
    exact this q hq
  rw [Nat.add_assoc]
  exact ⟨hX.2.2.1 _ h1.1, hX.2.1 _ h1.2⟩
theorem cl_moment (hX : cl_sh en X T P) : mo_sh en (X + 30) T P := by
  refine ⟨cl_e hX 30, hX.2.1 (30, 2, 0) (by decide), fun q hq => ?_⟩
  have h1 : (30, q.1, 30 + q.2.1) ∈ cl_fd ∧ (30 + q.2.1, q.2.2.1, q.2.2.2) ∈ cl_ob := by
    have : ∀ q ∈ mo_tab, (30, q.1, 30 + q.2.1) ∈ cl_fd ∧ (30 + q.2.1, q.2.2.1, q.2.2.2) ∈ cl_ob := by decide
    exact this q hq
  rw [Nat.add_assoc]
  exact ⟨hX.2.2.1 _ h1.1, hX.2.1 _ h1.2⟩
theorem c_Sc_wind (hX : cl_sh en X T P) (ok : pl_ok J (X + 17)) {x : Int} (hx : m_in x) (hq : Q (some (.int (m_i (a_w1 (J (X + 17 + 6)) (J (X + 17 + 7)) x (J (X + 17 + 12) 7).toNat 0)))) (T, m_I J, P, L, z, w)) : m_call en (d + 2) mSc_wind [.ref X, .int (m_i x)] (T, m_I J, P, L, z, w) Q := by
  refine m_into (by decide) (Nat.le_of_ble_eq_true rfl) rfl ?_
  show m_wp en _ mSc_wind 0 [some (.ref X), some (.int (m_i (x)))] [] (T, m_I J, P, L, z, w) Q
  refine r_aln eSc_wind_0 rfl ?_
  refine m_getR eSc_wind_1 rfl (cl_t hX (i := 0) rfl) (cl_p hX (i := 1) rfl) ?_
  refine r_iln eSc_wind_4 rfl ?_
  refine r_vir eSc_wind_5 rfl rfl rfl (cl_t hX (i := 17) rfl) rfl rfl ?_
  refine c_Pl_windAt (cl_plan hX) ok hx ?_
  show m_wp en _ mSc_wind 8 [some (.ref X), some (.int (m_i (x)))] [(.int (m_i ((a_w1 (J (X + 17 + 6)) (J (X + 17 + 7)) x (J (X + 17 + 12) 7).toNat 0))))] (T, m_I J, P, L, z, w) Q
  refine r_iret eSc_wind_8 rfl ?_
  exact hq
theorem c_Sc_named (hX : cl_sh en X T P) (ok : pl_ok J (X + 17)) {x : Int} (hx : m_in x) (hq : Q (some (.int (m_i (a_find (J (X + 17 + 3)) x 0 (J (X + 17 + 12) 5).toNat 0)))) (T, m_I J, P, L, z, w)) : m_call en (d + 2) mSc_named [.ref X, .int (m_i x)] (T, m_I J, P, L, z, w) Q := by
  refine m_into (by decide) (Nat.le_of_ble_eq_true rfl) rfl ?_
  show m_wp en _ mSc_named 0 [some (.ref X), some (.int (m_i (x)))] [] (T, m_I J, P, L, z, w) Q
  refine r_aln eSc_named_0 rfl ?_
  refine m_getR eSc_named_1 rfl (cl_t hX (i := 0) rfl) (cl_p hX (i := 1) rfl) ?_
  refine r_iln eSc_named_4 rfl ?_
  refine r_vir eSc_named_5 rfl rfl rfl (cl_t hX (i := 17) rfl) rfl rfl ?_
  refine c_Pl_spotNamed (cl_plan hX) ok hx ?_
  show m_wp en _ mSc_named 8 [some (.ref X), some (.int (m_i (x)))] [(.int (m_i ((a_find (J (X + 17 + 3)) x 0 (J (X + 17 + 12) 5).toNat 0))))] (T, m_I J, P, L, z, w) Q
  refine r_iret eSc_named_8 rfl ?_
  exact hq
theorem c_Sc_pile (hX : cl_sh en X T P) (ok : pl_ok J (X + 17)) {x : Int} (hx0 : m_in x) (hq : Q (some (.int (m_i (if 0 ≤ x ∧ x < J (X + 17) 0 then J (X + 32) x.toNat else -1)))) (T, m_I J, P, L, z, w)) : m_call en (d + 2) mSc_pile [.ref X, .int (m_i x)] (T, m_I J, P, L, z, w) Q := by
  have k0 := ok.1
  have hb : (a_b (decide (0 ≤ x ∧ x < J (X + 17) 0)) = 1 ∧ (0 ≤ x ∧ x < J (X + 17) 0)) ∨ (a_b (decide (0 ≤ x ∧ x < J (X + 17) 0)) = 0 ∧ ¬ (0 ≤ x ∧ x < J (X + 17) 0)) := by
    by_cases q : 0 ≤ x ∧ x < J (X + 17) 0
    · exact Or.inl ⟨a_b_t (decide_eq_true q), q⟩
    · exact Or.inr ⟨a_b_f (by rw [decide_eq_true_eq]; exact q), q⟩
  refine m_into (by decide) (Nat.le_of_ble_eq_true rfl) rfl ?_
  show m_wp en _ mSc_pile 0 [some (.ref X), some (.int (m_i (x)))] [] (T, m_I J, P, L, z, w) Q
  refine r_aln eSc_pile_0 rfl ?_
  refine m_getR eSc_pile_1 rfl (cl_t hX (i := 0) rfl) (cl_p hX (i := 1) rfl) ?_
  refine r_iln eSc_pile_4 rfl ?_
  refine r_vir eSc_pile_5 rfl rfl rfl (cl_t hX (i := 17) rfl) rfl rfl ?_
  refine c_Pl_hasColumn (cl_plan hX) ok hx0 ?_
  show m_wp en _ mSc_pile 8 [some (.ref X), some (.int (m_i (x)))] [(.int (m_i ((a_b (decide (0 ≤ x ∧ x < J (X + 17) 0))))))] (T, m_I J, P, L, z, w) Q
  refine r_zeq (tgt := 23) eSc_pile_8 rfl ⟨(by omega), (by omega)⟩ (fun c8 => ?_) (fun c8 => ?_)
  · refine r_con eSc_pile_23 ?_
    refine r_iret eSc_pile_24 rfl ?_
    first | (rw [if_pos (by omega)] at hq; exact hq) | (rw [if_neg (by omega)] at hq; exact hq)
  · refine r_aln eSc_pile_11 rfl ?_
    refine m_getR eSc_pile_12 rfl (cl_t hX (i := 0) rfl) (cl_p hX (i := 2) rfl) ?_
    refine m_getR eSc_pile_15 rfl (cl_t hX (i := 30) rfl) (cl_p hX (i := 39) rfl) ?_
    refine r_iln eSc_pile_18 rfl ?_
    refine r_ialde (x := J (X + 32) ((x).toNat)) eSc_pile_19 (cl_t hX (i := 32) rfl) (by decide) (by omega) (by omega) rfl ?_
    refine r_go (tgt := 24) eSc_pile_20 rfl ?_
    refine r_iret eSc_pile_24 rfl ?_
    first | (rw [if_pos (by omega)] at hq; exact hq) | (rw [if_neg (by omega)] at hq; exact hq)
theorem c_Sc_free (hX : cl_sh en X T P) (ok : pl_ok J (X + 17)) (hr : ∀ i : Nat, i < 16 → -1000 ≤ J (X + 32) i ∧ J (X + 32) i ≤ 1000) {x : Int} (hx0 : m_in x) (hq : Q (some (.int (m_i (if 0 ≤ x ∧ x < J (X + 17) 0 then pl_fr J (X + 17) (J (X + 32)) x else -1)))) (T, m_I J, P, L, z, w)) : m_call en (d + 3) mSc_free [.ref X, .int (m_i x)] (T, m_I J, P, L, z, w) Q := by
  have k0 := ok.1
  have hb : (a_b (decide (0 ≤ x ∧ x < J (X + 17) 0)) = 1 ∧ (0 ≤ x ∧ x < J (X + 17) 0)) ∨ (a_b (decide (0 ≤ x ∧ x < J (X + 17) 0)) = 0 ∧ ¬ (0 ≤ x ∧ x < J (X + 17) 0)) := by
    by_cases q : 0 ≤ x ∧ x < J (X + 17) 0
    · exact Or.inl ⟨a_b_t (decide_eq_true q), q⟩
    · exact Or.inr ⟨a_b_f (by rw [decide_eq_true_eq]; exact q), q⟩
  refine m_into (by decide) (Nat.le_of_ble_eq_true rfl) rfl ?_
  show m_wp en _ mSc_free 0 [some (.ref X), some (.int (m_i (x)))] [] (T, m_I J, P, L, z, w) Q
  refine r_aln eSc_free_0 rfl ?_
  refine m_getR eSc_free_1 rfl (cl_t hX (i := 0) rfl) (cl_p hX (i := 1) rfl) ?_
  refine r_iln eSc_free_4 rfl ?_
  refine r_vir eSc_free_5 rfl rfl rfl (cl_t hX (i := 17) rfl) rfl rfl ?_
  refine c_Pl_hasColumn (cl_plan hX) ok hx0 ?_
  show m_wp en _ mSc_free 8 [some (.ref X), some (.int (m_i (x)))] [(.int (m_i ((a_b (decide (0 ≤ x ∧ x < J (X + 17) 0))))))] (T, m_I J, P, L, z, w) Q
  refine r_zeq (tgt := 29) eSc_free_8 rfl ⟨(by omega), (by omega)⟩ (fun c8 => ?_) (fun c8 => ?_)
  · refine r_con eSc_free_29 ?_
    refine r_iret eSc_free_30 rfl ?_
    first | (rw [if_pos (by omega)] at hq; exact hq) | (rw [if_neg (by omega)] at hq; exact hq)
  · refine r_aln eSc_free_11 rfl ?_
    refine m_getR eSc_free_12 rfl (cl_t hX (i := 0) rfl) (cl_p hX (i := 1) rfl) ?_
    refine r_aln eSc_free_15 rfl ?_
    refine m_getR eSc_free_16 rfl (cl_t hX (i := 0) rfl) (cl_p hX (i := 2) rfl) ?_
    refine m_getR eSc_free_19 rfl (cl_t hX (i := 30) rfl) (cl_p hX (i := 39) rfl) ?_
    refine r_iln eSc_free_22 rfl ?_
    refine r_vir eSc_free_23 rfl rfl rfl (cl_t hX (i := 17) rfl) rfl rfl ?_
    refine c_Pl_freeOf (cl_plan hX) ok (cl_t hX (i := 32) rfl) hr hx0 ?_
    show m_wp en _ mSc_free 26 [some (.ref X), some (.int (m_i (x)))] [(.int (m_i ((pl_fr J (X + 17) (J (X + 32)) x))))] (T, m_I J, P, L, z, w) Q
    refine r_go (tgt := 30) eSc_free_26 rfl ?_
    refine r_iret eSc_free_30 rfl ?_
    first | (rw [if_pos (by omega)] at hq; exact hq) | (rw [if_neg (by omega)] at hq; exact hq)
end CLX
