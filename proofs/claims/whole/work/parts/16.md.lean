/-! rules that name what is read; the reference's object: where its rows are -/
section RE
variable {en : Nat → Nat} {d : Nat} {me : m_Me} {pc : Nat} {ls : m_L} {st : List Value} {T : Nat → Option (Nat × Nat)} {J : Nat → Nat → Int} {P : Nat → Nat → Option Nat} {L : Nat → Nat → Int64} {z w : Nat} {Q : m_Q} {a c j q n : Nat} {i v x : Int}
theorem r_gete {f : Nat} (hd : decode me.2.2.1 pc = .ok (.getfield q, 3)) (hf : m_fx me.1 q = some (f, c, j)) (h2 : f ≠ 2) (hT : T a = some (c, n)) (hv : J a j = x) (kk : m_wp en d me (pc + 3) ls (.int (m_i x) :: st) (T, m_I J, P, L, z, w) Q) : m_wp en d me pc ls (.ref a :: st) (T, m_I J, P, L, z, w) Q := r_get hd hf h2 hT (by rw [hv]; exact kk)
theorem r_ialde (hd : decode me.2.2.1 pc = .ok (.iaload, 1)) (hT : T a = some (20, n)) (hn : n < 2147483648) (h0 : 0 ≤ i) (h1 : i < n) (hv : J a i.toNat = x) (kk : m_wp en d me (pc + 1) ls (.int (m_i x) :: st) (T, m_I J, P, L, z, w) Q) : m_wp en d me pc ls (.int (m_i i) :: .ref a :: st) (T, m_I J, P, L, z, w) Q := r_iald hd hT hn h0 h1 (by rw [hv]; exact kk)
theorem r_salde (hd : decode me.2.2.1 pc = .ok (.saload, 1)) (hT : T a = some (23, n)) (hn : n < 2147483648) (h0 : 0 ≤ i) (h1 : i < n) (hv : J a i.toNat = x) (kk : m_wp en d me (pc + 1) ls (.int (m_i x) :: st) (T, m_I J, P, L, z, w) Q) : m_wp en d me pc ls (.int (m_i i) :: .ref a :: st) (T, m_I J, P, L, z, w) Q := r_sald hd hT hn h0 h1 (by rw [hv]; exact kk)
theorem r_balde {t : Nat} (hd : decode me.2.2.1 pc = .ok (.baload, 1)) (hT : T a = some (t, n)) (ht : t = 21 ∨ t = 22) (hn : n < 2147483648) (h0 : 0 ≤ i) (h1 : i < n) (hv : J a i.toNat = x) (kk : m_wp en d me (pc + 1) ls (.int (m_i x) :: st) (T, m_I J, P, L, z, w) Q) : m_wp en d me pc ls (.int (m_i i) :: .ref a :: st) (T, m_I J, P, L, z, w) Q := r_bald hd hT ht hn h0 h1 (by rw [hv]; exact kk)
end RE
theorem m_s16_id {v : Int} (h : -32768 ≤ v ∧ v < 32768) : m_s16 v = v := by
  unfold m_s16
  have h2 : (m_i v).toInt16.toInt = v := by
    rw [Int32.toInt_toInt16, m_i_toInt ⟨by omega, by omega⟩]
    exact Int.bmod_eq_of_le (by omega) (by omega)
  rw [Int16.toInt_toInt32, h2]
def md_tab : List (Nat × Nat × Nat × Nat) := [(1, 1, 20, 700), (3, 2, 20, 26), (4, 3, 22, 18), (5, 4, 20, 12), (6, 5, 20, 12), (7, 6, 20, 12), (8, 7, 20, 12), (9, 8, 20, 12), (10, 9, 20, 12), (11, 10, 20, 16), (12, 11, 20, 16), (13, 12, 20, 32), (14, 13, 20, 32), (15, 14, 20, 8), (16, 15, 20, 8), (17, 16, 20, 32), (29, 17, 20, 16), (30, 18, 20, 16), (31, 19, 20, 16), (38, 20, 23, 38880), (39, 21, 20, 38880), (43, 22, 20, 143), (44, 23, 20, 4433), (47, 24, 20, 42), (48, 25, 20, 448), (50, 26, 20, 4)]
/-- the reference stands at M: its object, behind it its rows -/
def md_sh (en : Nat → Nat) (M : Nat) (T : Nat → Option (Nat × Nat)) (P : Nat → Nat → Option Nat) : Prop := en 0 ≤ M ∧ T M = some (12, 0) ∧ ∀ q ∈ md_tab, P M q.1 = some (M + q.2.1) ∧ T (M + q.2.1) = some (q.2.2.1, q.2.2.2)
section MDS
variable {en : Nat → Nat} {M : Nat} {T : Nat → Option (Nat × Nat)} {P : Nat → Nat → Option Nat}
theorem md_tape_p (h : md_sh en M T P) : P M 1 = some (M + 1) := (h.2.2 (1, 1, 20, 700) (List.mem_of_getElem? (i := 0) rfl)).1
theorem md_tape_t (h : md_sh en M T P) : T (M + 1) = some (20, 700) := (h.2.2 (1, 1, 20, 700) (List.mem_of_getElem? (i := 0) rfl)).2
theorem md_number_p (h : md_sh en M T P) : P M 3 = some (M + 2) := (h.2.2 (3, 2, 20, 26) (List.mem_of_getElem? (i := 1) rfl)).1
theorem md_number_t (h : md_sh en M T P) : T (M + 2) = some (20, 26) := (h.2.2 (3, 2, 20, 26) (List.mem_of_getElem? (i := 1) rfl)).2
theorem md_isTold_p (h : md_sh en M T P) : P M 4 = some (M + 3) := (h.2.2 (4, 3, 22, 18) (List.mem_of_getElem? (i := 2) rfl)).1
theorem md_isTold_t (h : md_sh en M T P) : T (M + 3) = some (22, 18) := (h.2.2 (4, 3, 22, 18) (List.mem_of_getElem? (i := 2) rfl)).2
theorem md_spotName_p (h : md_sh en M T P) : P M 5 = some (M + 4) := (h.2.2 (5, 4, 20, 12) (List.mem_of_getElem? (i := 3) rfl)).1
theorem md_spotName_t (h : md_sh en M T P) : T (M + 4) = some (20, 12) := (h.2.2 (5, 4, 20, 12) (List.mem_of_getElem? (i := 3) rfl)).2
theorem md_spotColumn_p (h : md_sh en M T P) : P M 6 = some (M + 5) := (h.2.2 (6, 5, 20, 12) (List.mem_of_getElem? (i := 4) rfl)).1
theorem md_spotColumn_t (h : md_sh en M T P) : T (M + 5) = some (20, 12) := (h.2.2 (6, 5, 20, 12) (List.mem_of_getElem? (i := 4) rfl)).2
theorem md_spotDepth_p (h : md_sh en M T P) : P M 7 = some (M + 6) := (h.2.2 (7, 6, 20, 12) (List.mem_of_getElem? (i := 5) rfl)).1
theorem md_spotDepth_t (h : md_sh en M T P) : T (M + 6) = some (20, 12) := (h.2.2 (7, 6, 20, 12) (List.mem_of_getElem? (i := 5) rfl)).2
theorem md_blockFrom_p (h : md_sh en M T P) : P M 8 = some (M + 7) := (h.2.2 (8, 7, 20, 12) (List.mem_of_getElem? (i := 6) rfl)).1
theorem md_blockFrom_t (h : md_sh en M T P) : T (M + 7) = some (20, 12) := (h.2.2 (8, 7, 20, 12) (List.mem_of_getElem? (i := 6) rfl)).2
theorem md_blockTo_p (h : md_sh en M T P) : P M 9 = some (M + 8) := (h.2.2 (9, 8, 20, 12) (List.mem_of_getElem? (i := 7) rfl)).1
theorem md_blockTo_t (h : md_sh en M T P) : T (M + 8) = some (20, 12) := (h.2.2 (9, 8, 20, 12) (List.mem_of_getElem? (i := 7) rfl)).2
theorem md_blockFree_p (h : md_sh en M T P) : P M 10 = some (M + 9) := (h.2.2 (10, 9, 20, 12) (List.mem_of_getElem? (i := 8) rfl)).1
theorem md_blockFree_t (h : md_sh en M T P) : T (M + 9) = some (20, 12) := (h.2.2 (10, 9, 20, 12) (List.mem_of_getElem? (i := 8) rfl)).2
theorem md_windAt_p (h : md_sh en M T P) : P M 11 = some (M + 10) := (h.2.2 (11, 10, 20, 16) (List.mem_of_getElem? (i := 9) rfl)).1
theorem md_windAt_t (h : md_sh en M T P) : T (M + 10) = some (20, 16) := (h.2.2 (11, 10, 20, 16) (List.mem_of_getElem? (i := 9) rfl)).2
theorem md_windBy_p (h : md_sh en M T P) : P M 12 = some (M + 11) := (h.2.2 (12, 11, 20, 16) (List.mem_of_getElem? (i := 10) rfl)).1
theorem md_windBy_t (h : md_sh en M T P) : T (M + 11) = some (20, 16) := (h.2.2 (12, 11, 20, 16) (List.mem_of_getElem? (i := 10) rfl)).2
theorem md_order_p (h : md_sh en M T P) : P M 13 = some (M + 12) := (h.2.2 (13, 12, 20, 32) (List.mem_of_getElem? (i := 11) rfl)).1
theorem md_order_t (h : md_sh en M T P) : T (M + 12) = some (20, 32) := (h.2.2 (13, 12, 20, 32) (List.mem_of_getElem? (i := 11) rfl)).2
theorem md_orderTimes_p (h : md_sh en M T P) : P M 14 = some (M + 13) := (h.2.2 (14, 13, 20, 32) (List.mem_of_getElem? (i := 12) rfl)).1
theorem md_orderTimes_t (h : md_sh en M T P) : T (M + 13) = some (20, 32) := (h.2.2 (14, 13, 20, 32) (List.mem_of_getElem? (i := 12) rfl)).2
theorem md_jobFrom_p (h : md_sh en M T P) : P M 15 = some (M + 14) := (h.2.2 (15, 14, 20, 8) (List.mem_of_getElem? (i := 13) rfl)).1
theorem md_jobFrom_t (h : md_sh en M T P) : T (M + 14) = some (20, 8) := (h.2.2 (15, 14, 20, 8) (List.mem_of_getElem? (i := 13) rfl)).2
theorem md_jobTo_p (h : md_sh en M T P) : P M 16 = some (M + 15) := (h.2.2 (16, 15, 20, 8) (List.mem_of_getElem? (i := 14) rfl)).1
theorem md_jobTo_t (h : md_sh en M T P) : T (M + 15) = some (20, 8) := (h.2.2 (16, 15, 20, 8) (List.mem_of_getElem? (i := 14) rfl)).2
theorem md_pileTold_p (h : md_sh en M T P) : P M 17 = some (M + 16) := (h.2.2 (17, 16, 20, 32) (List.mem_of_getElem? (i := 15) rfl)).1
theorem md_pileTold_t (h : md_sh en M T P) : T (M + 16) = some (20, 32) := (h.2.2 (17, 16, 20, 32) (List.mem_of_getElem? (i := 15) rfl)).2
theorem md_clear_p (h : md_sh en M T P) : P M 29 = some (M + 17) := (h.2.2 (29, 17, 20, 16) (List.mem_of_getElem? (i := 16) rfl)).1
theorem md_clear_t (h : md_sh en M T P) : T (M + 17) = some (20, 16) := (h.2.2 (29, 17, 20, 16) (List.mem_of_getElem? (i := 16) rfl)).2
theorem md_pile_p (h : md_sh en M T P) : P M 30 = some (M + 18) := (h.2.2 (30, 18, 20, 16) (List.mem_of_getElem? (i := 17) rfl)).1
theorem md_pile_t (h : md_sh en M T P) : T (M + 18) = some (20, 16) := (h.2.2 (30, 18, 20, 16) (List.mem_of_getElem? (i := 17) rfl)).2
theorem md_freeIn_p (h : md_sh en M T P) : P M 31 = some (M + 19) := (h.2.2 (31, 19, 20, 16) (List.mem_of_getElem? (i := 18) rfl)).1
theorem md_freeIn_t (h : md_sh en M T P) : T (M + 19) = some (20, 16) := (h.2.2 (31, 19, 20, 16) (List.mem_of_getElem? (i := 18) rfl)).2
theorem md_far_p (h : md_sh en M T P) : P M 38 = some (M + 20) := (h.2.2 (38, 20, 23, 38880) (List.mem_of_getElem? (i := 19) rfl)).1
theorem md_far_t (h : md_sh en M T P) : T (M + 20) = some (23, 38880) := (h.2.2 (38, 20, 23, 38880) (List.mem_of_getElem? (i := 19) rfl)).2
theorem md_line_p (h : md_sh en M T P) : P M 39 = some (M + 21) := (h.2.2 (39, 21, 20, 38880) (List.mem_of_getElem? (i := 20) rfl)).1
theorem md_line_t (h : md_sh en M T P) : T (M + 21) = some (20, 38880) := (h.2.2 (39, 21, 20, 38880) (List.mem_of_getElem? (i := 20) rfl)).2
theorem md_s_p (h : md_sh en M T P) : P M 43 = some (M + 22) := (h.2.2 (43, 22, 20, 143) (List.mem_of_getElem? (i := 21) rfl)).1
theorem md_s_t (h : md_sh en M T P) : T (M + 22) = some (20, 143) := (h.2.2 (43, 22, 20, 143) (List.mem_of_getElem? (i := 21) rfl)).2
theorem md_kept_p (h : md_sh en M T P) : P M 44 = some (M + 23) := (h.2.2 (44, 23, 20, 4433) (List.mem_of_getElem? (i := 22) rfl)).1
theorem md_kept_t (h : md_sh en M T P) : T (M + 23) = some (20, 4433) := (h.2.2 (44, 23, 20, 4433) (List.mem_of_getElem? (i := 22) rfl)).2
theorem md_steps2_p (h : md_sh en M T P) : P M 47 = some (M + 24) := (h.2.2 (47, 24, 20, 42) (List.mem_of_getElem? (i := 23) rfl)).1
theorem md_steps2_t (h : md_sh en M T P) : T (M + 24) = some (20, 42) := (h.2.2 (47, 24, 20, 42) (List.mem_of_getElem? (i := 23) rfl)).2
theorem md_left_p (h : md_sh en M T P) : P M 48 = some (M + 25) := (h.2.2 (48, 25, 20, 448) (List.mem_of_getElem? (i := 24) rfl)).1
theorem md_left_t (h : md_sh en M T P) : T (M + 25) = some (20, 448) := (h.2.2 (48, 25, 20, 448) (List.mem_of_getElem? (i := 24) rfl)).2
theorem md_jobOrder_p (h : md_sh en M T P) : P M 50 = some (M + 26) := (h.2.2 (50, 26, 20, 4) (List.mem_of_getElem? (i := 25) rfl)).1
theorem md_jobOrder_t (h : md_sh en M T P) : T (M + 26) = some (20, 4) := (h.2.2 (50, 26, 20, 4) (List.mem_of_getElem? (i := 25) rfl)).2
theorem md_b (h : md_sh en M T P) (k : Nat) : en 0 ≤ M + k := Nat.le_trans h.1 (Nat.le_add_right _ _)
end MDS
/-- k places of a row, from o on, hold what f says -/
def m_fl (J : Nat → Nat → Int) (A o : Nat) (f : Nat → Int) (k : Int) : Nat → Nat → Int := fun b i => if b = A ∧ o ≤ i ∧ (i : Int) < o + k then f (i - o) else J b i
theorem m_fl_s {J : Nat → Nat → Int} {A o : Nat} {f : Nat → Int} {k : Int} (h0 : 0 ≤ k) {n : Nat} (hn : n = o + k.toNat) {v : Int} (hv : v = f k.toNat) : m_up (m_fl J A o f k) A n v = m_fl J A o f (k + 1) := by
  funext b i
  simp only [m_up, m_fl]
  by_cases hb : b = A
  · by_cases hi : i = n
    · rw [if_pos ⟨hb, hi⟩, if_pos ⟨hb, by omega, by omega⟩, hv, show i - o = k.toNat by omega]
    · rw [if_neg (fun q => hi q.2)]
      by_cases h : o ≤ i ∧ (i : Int) < o + k
      · rw [if_pos ⟨hb, h⟩, if_pos ⟨hb, h.1, by omega⟩]
      · rw [if_neg (fun q => h q.2), if_neg (fun q => by have := q.2; omega)]
  · rw [if_neg (fun q => hb q.1), if_neg (fun q => hb q.1), if_neg (fun q => hb q.1)]
theorem m_fl_o {J : Nat → Nat → Int} {A o : Nat} {f : Nat → Int} {k : Int} {b i : Nat} (h : b ≠ A) : m_fl J A o f k b i = J b i := if_neg (fun q => h q.1)
theorem m_fl_x {J : Nat → Nat → Int} {A o : Nat} {f : Nat → Int} {k : Int} {b i : Nat} (h : ¬ (o ≤ i ∧ (i : Int) < o + k)) : m_fl J A o f k b i = J b i := if_neg (fun q => h q.2)
theorem m_fl_i {J : Nat → Nat → Int} {A o : Nat} {f : Nat → Int} {k : Int} {i : Nat} (h : o ≤ i ∧ (i : Int) < o + k) : m_fl J A o f k A i = f (i - o) := if_pos ⟨rfl, h⟩
theorem m_fl_0 {J : Nat → Nat → Int} {A o : Nat} {f : Nat → Int} : m_fl J A o f 0 = J := by
  funext b i
  exact if_neg (fun q => by have := q.2; omega)
