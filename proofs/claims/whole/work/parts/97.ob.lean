/-! the class's objects: where their rows are; a pose -/
def ob_sh (c : Nat) (tab : List (Nat × Nat × Nat × Nat)) (en : Nat → Nat) (A : Nat) (T : Nat → Option (Nat × Nat)) (P : Nat → Nat → Option Nat) : Prop := en 0 ≤ A ∧ T A = some (c, 0) ∧ ∀ q ∈ tab, P A q.1 = some (A + q.2.1) ∧ T (A + q.2.1) = some (q.2.2.1, q.2.2.2)
def pl_tab : List (Nat × Nat × Nat × Nat) := [(7, 1, 20, 16), (8, 2, 20, 16), (9, 3, 20, 6), (10, 4, 20, 6), (11, 5, 20, 6), (12, 6, 20, 8), (13, 7, 20, 8), (14, 8, 20, 16), (15, 9, 20, 16), (16, 10, 20, 3), (17, 11, 20, 3), (18, 12, 20, 12)]
def mo_tab : List (Nat × Nat × Nat × Nat) := [(0, 1, 5, 0), (1, 2, 20, 16)]
def lo_tab : List (Nat × Nat × Nat × Nat) := [(0, 1, 20, 70)]
def sp_tab : List (Nat × Nat × Nat × Nat) := [(9, 1, 20, 16), (10, 2, 22, 864)]
abbrev po_sh := ob_sh 5 []
abbrev pl_sh := ob_sh 4 pl_tab
abbrev mo_sh := ob_sh 2 mo_tab
abbrev lo_sh := ob_sh 1 lo_tab
abbrev sp_sh := ob_sh 9 sp_tab
theorem ob_p {c : Nat} {tab : List (Nat × Nat × Nat × Nat)} {en : Nat → Nat} {A : Nat} {T : Nat → Option (Nat × Nat)} {P : Nat → Nat → Option Nat} (h : ob_sh c tab en A T P) {i j o t n : Nat} (hi : tab[i]? = some (j, o, t, n)) : P A j = some (A + o) := (h.2.2 _ (List.mem_of_getElem? hi)).1
theorem ob_t {c : Nat} {tab : List (Nat × Nat × Nat × Nat)} {en : Nat → Nat} {A : Nat} {T : Nat → Option (Nat × Nat)} {P : Nat → Nat → Option Nat} (h : ob_sh c tab en A T P) {i j o t n : Nat} (hi : tab[i]? = some (j, o, t, n)) : T (A + o) = some (t, n) := (h.2.2 _ (List.mem_of_getElem? hi)).2
theorem ob_b {c : Nat} {tab : List (Nat × Nat × Nat × Nat)} {en : Nat → Nat} {A : Nat} {T : Nat → Option (Nat × Nat)} {P : Nat → Nat → Option Nat} (h : ob_sh c tab en A T P) (k : Nat) : en 0 ≤ A + k := Nat.le_trans h.1 (Nat.le_add_right A k)
def po_get (J : Nat → Nat → Int) (A : Nat) : a_S := (J A 0, J A 1, J A 2, J A 3, J A 4)
def po_put (J : Nat → Nat → Int) (A : Nat) (σ : a_S) : Nat → Nat → Int := fun b i => if b = A ∧ i = 0 then σ.1 else if b = A ∧ i = 1 then σ.2.1 else if b = A ∧ i = 2 then σ.2.2.1 else if b = A ∧ i = 3 then σ.2.2.2.1 else if b = A ∧ i = 4 then σ.2.2.2.2 else J b i
section PO
variable {J : Nat → Nat → Int} {A : Nat} {σ τ : a_S}
theorem po_put_0 : po_put J A σ A 0 = σ.1 := if_pos ⟨rfl, rfl⟩
theorem po_put_1 : po_put J A σ A 1 = σ.2.1 := by simp [po_put]
theorem po_put_2 : po_put J A σ A 2 = σ.2.2.1 := by simp [po_put]
theorem po_put_3 : po_put J A σ A 3 = σ.2.2.2.1 := by simp [po_put]
theorem po_put_4 : po_put J A σ A 4 = σ.2.2.2.2 := by simp [po_put]
theorem po_put_o {b i : Nat} (h : ¬ (b = A ∧ i < 5)) : po_put J A σ b i = J b i := by
  unfold po_put
  rw [if_neg (by omega), if_neg (by omega), if_neg (by omega), if_neg (by omega), if_neg (by omega)]
theorem po_get_put : po_get (po_put J A σ) A = σ := by
  unfold po_get
  rw [po_put_0, po_put_1, po_put_2, po_put_3, po_put_4]
/-- a heap is the put one if its five numbers are so and all else is as it was -/
theorem po_put_eq {K : Nat → Nat → Int} (h0 : K A 0 = σ.1) (h1 : K A 1 = σ.2.1) (h2 : K A 2 = σ.2.2.1) (h3 : K A 3 = σ.2.2.2.1) (h4 : K A 4 = σ.2.2.2.2) (h : ∀ b i, ¬ (b = A ∧ i < 5) → K b i = J b i) : K = po_put J A σ := by
  funext b i
  by_cases q : b = A ∧ i < 5
  · obtain ⟨rfl, q2⟩ := q
    have : i = 0 ∨ i = 1 ∨ i = 2 ∨ i = 3 ∨ i = 4 := by omega
    rcases this with rfl | rfl | rfl | rfl | rfl
    · rw [po_put_0, h0]
    · rw [po_put_1, h1]
    · rw [po_put_2, h2]
    · rw [po_put_3, h3]
    · rw [po_put_4, h4]
  · rw [po_put_o q, h b i q]
theorem po_put_put : po_put (po_put J A σ) A τ = po_put J A τ := po_put_eq po_put_0 po_put_1 po_put_2 po_put_3 po_put_4 (fun b i q => by rw [po_put_o q, po_put_o q])
theorem po_put_get : po_put J A (po_get J A) = J := (po_put_eq rfl rfl rfl rfl rfl (fun _ _ _ => rfl)).symm
end PO
theorem a_gr_m (e t : Int) : (e < 3 ∧ a_gr e * t = -t) ∨ ((3 ≤ e ∧ e < 5) ∧ a_gr e * t = 0) ∨ (5 ≤ e ∧ a_gr e * t = t) := by
  unfold a_gr
  by_cases h : e < 3
  · rw [if_pos h]
    exact Or.inl ⟨h, by omega⟩
  · rw [if_neg h]
    by_cases h2 : e < 5
    · rw [if_pos h2]
      exact Or.inr (Or.inl ⟨by omega, by omega⟩)
    · rw [if_neg h2]
      exact Or.inr (Or.inr ⟨by omega, by omega⟩)
section PO2
variable {en : Nat → Nat} {d : Nat} {T : Nat → Option (Nat × Nat)} {J : Nat → Nat → Int} {P : Nat → Nat → Option Nat} {L : Nat → Nat → Int64} {z w A B : Nat} {Q : m_Q} {σ : a_S}
theorem c_Po_isStill (hA : po_sh en A T P) (hs : a_sm (po_get J A)) (hq : Q (some (.int (m_i (a_b (decide (J A 1 = 0 ∧ J A 2 = 0 ∧ J A 3 = 0)))))) (T, m_I J, P, L, z, w)) : m_call en (d + 1) mPo_isStill [.ref A] (T, m_I J, P, L, z, w) Q := by
  have h1 : -100000 ≤ J A 1 ∧ J A 1 ≤ 100000 := hs.2.1
  have h2 : -100000 ≤ J A 2 ∧ J A 2 ≤ 100000 := hs.2.2.1
  have h3 : -100000 ≤ J A 3 ∧ J A 3 ≤ 100000 := hs.2.2.2.1
  refine m_into (by decide) (Nat.le_of_ble_eq_true rfl) rfl ?_
  show m_wp en _ mPo_isStill 0 [some (.ref A)] [] (T, m_I J, P, L, z, w) Q
  refine r_aln ePo_isStill_0 rfl ?_
  refine r_gete (x := J A 1) ePo_isStill_1 rfl (by decide) hA.2.1 rfl ?_
  refine r_zne (tgt := 25) ePo_isStill_4 rfl ⟨(by omega), (by omega)⟩ (fun c4 => ?_) (fun c4 => ?_)
  · refine r_con ePo_isStill_25 ?_
    refine r_zret ePo_isStill_26 rfl (by first | exact Or.inl rfl | exact Or.inr rfl | omega) ?_
    first | (rw [a_b_t (decide_eq_true (by omega))] at hq; exact hq) | (rw [a_b_f (by rw [decide_eq_true_eq]; omega)] at hq; exact hq)
  · refine r_aln ePo_isStill_7 rfl ?_
    refine r_gete (x := J A 2) ePo_isStill_8 rfl (by decide) hA.2.1 rfl ?_
    refine r_zne (tgt := 25) ePo_isStill_11 rfl ⟨(by omega), (by omega)⟩ (fun c11 => ?_) (fun c11 => ?_)
    · refine r_con ePo_isStill_25 ?_
      refine r_zret ePo_isStill_26 rfl (by first | exact Or.inl rfl | exact Or.inr rfl | omega) ?_
      first | (rw [a_b_t (decide_eq_true (by omega))] at hq; exact hq) | (rw [a_b_f (by rw [decide_eq_true_eq]; omega)] at hq; exact hq)
    · refine r_aln ePo_isStill_14 rfl ?_
      refine r_gete (x := J A 3) ePo_isStill_15 rfl (by decide) hA.2.1 rfl ?_
      refine r_zne (tgt := 25) ePo_isStill_18 rfl ⟨(by omega), (by omega)⟩ (fun c18 => ?_) (fun c18 => ?_)
      · refine r_con ePo_isStill_25 ?_
        refine r_zret ePo_isStill_26 rfl (by first | exact Or.inl rfl | exact Or.inr rfl | omega) ?_
        first | (rw [a_b_t (decide_eq_true (by omega))] at hq; exact hq) | (rw [a_b_f (by rw [decide_eq_true_eq]; omega)] at hq; exact hq)
      · refine r_con ePo_isStill_21 ?_
        refine r_go (tgt := 26) ePo_isStill_22 rfl ?_
        refine r_zret ePo_isStill_26 rfl (by first | exact Or.inl rfl | exact Or.inr rfl | omega) ?_
        first | (rw [a_b_t (decide_eq_true (by omega))] at hq; exact hq) | (rw [a_b_f (by rw [decide_eq_true_eq]; omega)] at hq; exact hq)
theorem c_Po_load (hA : po_sh en A T P) (hq : Q (some (.int (m_i (J A 0 + J A 2)))) (T, m_I J, P, L, z, w)) : m_call en (d + 1) mPo_load [.ref A] (T, m_I J, P, L, z, w) Q := by
  refine m_into (by decide) (Nat.le_of_ble_eq_true rfl) rfl ?_
  show m_wp en _ mPo_load 0 [some (.ref A)] [] (T, m_I J, P, L, z, w) Q
  refine r_aln ePo_load_0 rfl ?_
  refine r_gete (x := J A 0) ePo_load_1 rfl (by decide) hA.2.1 rfl ?_
  refine r_aln ePo_load_4 rfl ?_
  refine r_gete (x := J A 2) ePo_load_5 rfl (by decide) hA.2.1 rfl ?_
  refine r_add ePo_load_8 ?_
  refine r_iret ePo_load_9 rfl ?_
  exact hq
theorem c_Po_set (hA : po_sh en A T P) (hB : po_sh en B T P) (hAB : A ≠ B) (hq : Q none (T, m_I (po_put J A (po_get J B)), P, L, z, w)) : m_call en (d + 1) mPo_set [.ref A, .ref B] (T, m_I J, P, L, z, w) Q := by
  refine m_into (by decide) (Nat.le_of_ble_eq_true rfl) rfl ?_
  show m_wp en _ mPo_set 0 [some (.ref A), some (.ref B)] [] (T, m_I J, P, L, z, w) Q
  refine r_aln ePo_set_0 rfl ?_
  refine r_aln ePo_set_1 rfl ?_
  refine r_gete (x := J B 0) ePo_set_2 rfl (by decide) hB.2.1 rfl ?_
  refine r_put ePo_set_5 rfl hA.2.1 hA.1 (Or.inl rfl) ?_
  refine r_aln ePo_set_8 rfl ?_
  refine r_aln ePo_set_9 rfl ?_
  refine r_gete (x := J B 1) ePo_set_10 rfl (by decide) hB.2.1 (by rw [m_up_at, if_neg (by omega)]) ?_
  refine r_put ePo_set_13 rfl hA.2.1 hA.1 (Or.inl rfl) ?_
  refine r_aln ePo_set_16 rfl ?_
  refine r_aln ePo_set_17 rfl ?_
  refine r_gete (x := J B 2) ePo_set_18 rfl (by decide) hB.2.1 (by rw [m_up_at, if_neg (by omega), m_up_at, if_neg (by omega)]) ?_
  refine r_put ePo_set_21 rfl hA.2.1 hA.1 (Or.inl rfl) ?_
  refine r_aln ePo_set_24 rfl ?_
  refine r_aln ePo_set_25 rfl ?_
  refine r_gete (x := J B 3) ePo_set_26 rfl (by decide) hB.2.1 (by rw [m_up_at, if_neg (by omega), m_up_at, if_neg (by omega), m_up_at, if_neg (by omega)]) ?_
  refine r_put ePo_set_29 rfl hA.2.1 hA.1 (Or.inl rfl) ?_
  refine r_aln ePo_set_32 rfl ?_
  refine r_aln ePo_set_33 rfl ?_
  refine r_gete (x := J B 4) ePo_set_34 rfl (by decide) hB.2.1 (by rw [m_up_at, if_neg (by omega), m_up_at, if_neg (by omega), m_up_at, if_neg (by omega), m_up_at, if_neg (by omega)]) ?_
  refine r_put ePo_set_37 rfl hA.2.1 hA.1 (Or.inl rfl) ?_
  rw [po_put_eq (K := ((m_up (m_up (m_up (m_up (m_up J A 0 (J B 0)) A 1 (J B 1)) A 2 (J B 2)) A 3 (J B 3)) A 4 (J B 4)))) (J := J) (A := A) (σ := po_get J B) (by simp [m_up, po_get]) (by simp [m_up, po_get]) (by simp [m_up, po_get]) (by simp [m_up, po_get]) (by simp [m_up, po_get]) (fun b i q => by rw [m_up_at, if_neg (by omega), m_up_at, if_neg (by omega), m_up_at, if_neg (by omega), m_up_at, if_neg (by omega), m_up_at, if_neg (by omega)])]
  refine r_ret ePo_set_40 rfl ?_
  exact hq
theorem c_Po_hang (hA : po_sh en A T P) {x e : Int} (hq : Q none (T, m_I (po_put J A (x, 0, 0, 0, e)), P, L, z, w)) : m_call en (d + 1) mPo_hang [.ref A, .int (m_i x), .int (m_i e)] (T, m_I J, P, L, z, w) Q := by
  refine m_into (by decide) (Nat.le_of_ble_eq_true rfl) rfl ?_
  show m_wp en _ mPo_hang 0 [some (.ref A), some (.int (m_i (x))), some (.int (m_i (e)))] [] (T, m_I J, P, L, z, w) Q
  refine r_aln ePo_hang_0 rfl ?_
  refine r_iln ePo_hang_1 rfl ?_
  refine r_put ePo_hang_2 rfl hA.2.1 hA.1 (Or.inl rfl) ?_
  refine r_aln ePo_hang_5 rfl ?_
  refine r_iln ePo_hang_6 rfl ?_
  refine r_put ePo_hang_7 rfl hA.2.1 hA.1 (Or.inl rfl) ?_
  refine r_aln ePo_hang_10 rfl ?_
  refine r_con ePo_hang_11 ?_
  refine r_put ePo_hang_12 rfl hA.2.1 hA.1 (Or.inl rfl) ?_
  refine r_aln ePo_hang_15 rfl ?_
  refine r_con ePo_hang_16 ?_
  refine r_put ePo_hang_17 rfl hA.2.1 hA.1 (Or.inl rfl) ?_
  refine r_aln ePo_hang_20 rfl ?_
  refine r_con ePo_hang_21 ?_
  refine r_put ePo_hang_22 rfl hA.2.1 hA.1 (Or.inl rfl) ?_
  rw [po_put_eq (K := ((m_up (m_up (m_up (m_up (m_up J A 0 (x)) A 4 (e)) A 1 (0)) A 2 (0)) A 3 (0)))) (J := J) (A := A) (σ := (x, 0, 0, 0, e)) (by simp [m_up]) (by simp [m_up]) (by simp [m_up]) (by simp [m_up]) (by simp [m_up]) (fun b i q => by rw [m_up_at, if_neg (by omega), m_up_at, if_neg (by omega), m_up_at, if_neg (by omega), m_up_at, if_neg (by omega), m_up_at, if_neg (by omega)])]
  refine r_ret ePo_hang_25 rfl ?_
  exact hq
theorem c_Po_move (hA : po_sh en A T P) (hs : a_sm (po_get J A)) {k v : Int} (hk : 0 ≤ k ∧ k < 9) (hv : -1000 ≤ v ∧ v ≤ 1000) (hq : Q none (T, m_I (po_put J A (a_step (po_get J A) k v)), P, L, z, w)) : m_call en (d + 1) mPo_move [.ref A, .int (m_i k), .int (m_i v)] (T, m_I J, P, L, z, w) Q := by
  have h0 : -100000 ≤ J A 0 ∧ J A 0 ≤ 100000 := hs.1
  have h1 : -100000 ≤ J A 1 ∧ J A 1 ≤ 100000 := hs.2.1
  have h2 : -100000 ≤ J A 2 ∧ J A 2 ≤ 100000 := hs.2.2.1
  have h3 : -100000 ≤ J A 3 ∧ J A 3 ≤ 100000 := hs.2.2.2.1
  have h4 : -100000 ≤ J A 4 ∧ J A 4 ≤ 100000 := hs.2.2.2.2
  have hg := a_gr_m (J A 4 + (k % 3 - 1)) (J A 2)
  refine m_into (by decide) (Nat.le_of_ble_eq_true rfl) rfl ?_
  show m_wp en _ mPo_move 0 [some (.ref A), some (.int (m_i (k))), some (.int (m_i (v))), none, none] [] (T, m_I J, P, L, z, w) Q
  refine r_iln ePo_move_0 rfl ?_
  refine r_con ePo_move_1 ?_
  refine r_div ePo_move_2 ⟨(by omega), (by omega)⟩ ⟨(by omega), (by omega)⟩ ?_
  refine r_con ePo_move_3 ?_
  refine r_sub ePo_move_4 ?_
  refine r_isn (ls' := [some (.ref A), some (.int (m_i (k))), some (.int (m_i (v))), some (.int (m_i (((k) / (3)) - (1)))), none]) ePo_move_5 (Nat.le_of_ble_eq_true rfl) rfl ?_
  refine r_aln ePo_move_6 rfl ?_
  refine r_dupr ePo_move_7 ?_
  refine r_gete (x := J A 1) ePo_move_8 rfl (by decide) hA.2.1 rfl ?_
  refine r_iln ePo_move_11 rfl ?_
  refine r_add ePo_move_12 ?_
  refine r_put ePo_move_13 rfl hA.2.1 hA.1 (Or.inl rfl) ?_
  refine r_aln ePo_move_16 rfl ?_
  refine r_dupr ePo_move_17 ?_
  refine r_gete (x := J A 0) ePo_move_18 rfl (by decide) hA.2.1 (by rw [m_up_at, if_neg (by omega)]) ?_
  refine r_aln ePo_move_21 rfl ?_
  refine r_gete (x := (J A 1) + (((k) / (3)) - (1))) ePo_move_22 rfl (by decide) hA.2.1 (by rw [m_up_same]) ?_
  refine r_add ePo_move_25 ?_
  refine r_put ePo_move_26 rfl hA.2.1 hA.1 (Or.inl rfl) ?_
  refine r_aln ePo_move_29 rfl ?_
  refine r_dupr ePo_move_30 ?_
  refine r_gete (x := J A 4) ePo_move_31 rfl (by decide) hA.2.1 (by rw [m_up_at, if_neg (by omega), m_up_at, if_neg (by omega)]) ?_
  refine r_iln ePo_move_34 rfl ?_
  refine r_con ePo_move_35 ?_
  refine r_rem ePo_move_36 ⟨(by omega), (by omega)⟩ ⟨(by omega), (by omega)⟩ ?_
  refine r_con ePo_move_37 ?_
  refine r_sub ePo_move_38 ?_
  refine r_add ePo_move_39 ?_
  refine r_put ePo_move_40 rfl hA.2.1 hA.1 (Or.inl rfl) ?_
  refine r_iln ePo_move_43 rfl ?_
  refine r_iln ePo_move_44 rfl ?_
  refine r_sub ePo_move_45 ?_
  refine r_aln ePo_move_46 rfl ?_
  refine r_gete (x := J A 3) ePo_move_47 rfl (by decide) hA.2.1 (by rw [m_up_at, if_neg (by omega), m_up_at, if_neg (by omega), m_up_at, if_neg (by omega)]) ?_
  refine r_sub ePo_move_50 ?_
  refine r_is (ls' := [some (.ref A), some (.int (m_i (k))), some (.int (m_i (v))), some (.int (m_i (((k) / (3)) - (1)))), some (.int (m_i (((v) - (((k) / (3)) - (1))) - (J A 3))))]) ePo_move_51 (Nat.le_of_ble_eq_true rfl) rfl ?_
  refine r_aln ePo_move_53 rfl ?_
  refine r_gete (x := (J A 4) + (((k) % (3)) - (1))) ePo_move_54 rfl (by decide) hA.2.1 (by rw [m_up_same]) ?_
  refine r_con ePo_move_57 ?_
  refine r_cgt (tgt := 73) ePo_move_58 rfl ⟨(by omega), (by omega)⟩ ⟨(by omega), (by omega)⟩ (fun c58 => ?_) (fun c58 => ?_)
  · refine r_aln ePo_move_73 rfl ?_
    refine r_gete (x := (J A 4) + (((k) % (3)) - (1))) ePo_move_74 rfl (by decide) hA.2.1 (by rw [m_up_same]) ?_
    refine r_con ePo_move_77 ?_
    refine r_cle (tgt := 90) ePo_move_78 rfl ⟨(by omega), (by omega)⟩ ⟨(by omega), (by omega)⟩ (fun c78 => ?_) (fun c78 => ?_)
    · refine r_aln ePo_move_90 rfl ?_
      refine r_aln ePo_move_91 rfl ?_
      refine r_gete (x := J A 2) ePo_move_92 rfl (by decide) hA.2.1 (by rw [m_up_at, if_neg (by omega), m_up_at, if_neg (by omega), m_up_at, if_neg (by omega)]) ?_
      refine r_put ePo_move_95 rfl hA.2.1 hA.1 (Or.inl rfl) ?_
      refine r_aln ePo_move_98 rfl ?_
      refine r_il ePo_move_99 rfl ?_
      refine r_put ePo_move_101 rfl hA.2.1 hA.1 (Or.inl rfl) ?_
      rw [po_put_eq (K := ((m_up (m_up (m_up (m_up (m_up J A 1 ((J A 1) + (((k) / (3)) - (1)))) A 0 ((J A 0) + ((J A 1) + (((k) / (3)) - (1))))) A 4 ((J A 4) + (((k) % (3)) - (1)))) A 3 (J A 2)) A 2 (((v) - (((k) / (3)) - (1))) - (J A 3))))) (J := J) (A := A) (σ := a_step (po_get J A) k v) (by simp [m_up, a_step, po_get]) (by simp [m_up, a_step, po_get]) (m_up_same.trans (by unfold a_step po_get; simp only; omega)) (by simp [m_up, a_step, po_get]) (by simp [m_up, a_step, po_get]) (fun b i q => by rw [m_up_at, if_neg (by omega), m_up_at, if_neg (by omega), m_up_at, if_neg (by omega), m_up_at, if_neg (by omega), m_up_at, if_neg (by omega)])]
      refine r_ret ePo_move_104 rfl ?_
      exact hq
    · refine r_il ePo_move_81 rfl ?_
      refine r_aln ePo_move_83 rfl ?_
      refine r_gete (x := J A 2) ePo_move_84 rfl (by decide) hA.2.1 (by rw [m_up_at, if_neg (by omega), m_up_at, if_neg (by omega), m_up_at, if_neg (by omega)]) ?_
      refine r_add ePo_move_87 ?_
      refine r_is (ls' := [some (.ref A), some (.int (m_i (k))), some (.int (m_i (v))), some (.int (m_i (((k) / (3)) - (1)))), some (.int (m_i ((((v) - (((k) / (3)) - (1))) - (J A 3)) + (J A 2))))]) ePo_move_88 (Nat.le_of_ble_eq_true rfl) rfl ?_
      refine r_aln ePo_move_90 rfl ?_
      refine r_aln ePo_move_91 rfl ?_
      refine r_gete (x := J A 2) ePo_move_92 rfl (by decide) hA.2.1 (by rw [m_up_at, if_neg (by omega), m_up_at, if_neg (by omega), m_up_at, if_neg (by omega)]) ?_
      refine r_put ePo_move_95 rfl hA.2.1 hA.1 (Or.inl rfl) ?_
      refine r_aln ePo_move_98 rfl ?_
      refine r_il ePo_move_99 rfl ?_
      refine r_put ePo_move_101 rfl hA.2.1 hA.1 (Or.inl rfl) ?_
      rw [po_put_eq (K := ((m_up (m_up (m_up (m_up (m_up J A 1 ((J A 1) + (((k) / (3)) - (1)))) A 0 ((J A 0) + ((J A 1) + (((k) / (3)) - (1))))) A 4 ((J A 4) + (((k) % (3)) - (1)))) A 3 (J A 2)) A 2 ((((v) - (((k) / (3)) - (1))) - (J A 3)) + (J A 2))))) (J := J) (A := A) (σ := a_step (po_get J A) k v) (by simp [m_up, a_step, po_get]) (by simp [m_up, a_step, po_get]) (m_up_same.trans (by unfold a_step po_get; simp only; omega)) (by simp [m_up, a_step, po_get]) (by simp [m_up, a_step, po_get]) (fun b i q => by rw [m_up_at, if_neg (by omega), m_up_at, if_neg (by omega), m_up_at, if_neg (by omega), m_up_at, if_neg (by omega), m_up_at, if_neg (by omega)])]
      refine r_ret ePo_move_104 rfl ?_
      exact hq
  · refine r_il ePo_move_61 rfl ?_
    refine r_aln ePo_move_63 rfl ?_
    refine r_gete (x := J A 2) ePo_move_64 rfl (by decide) hA.2.1 (by rw [m_up_at, if_neg (by omega), m_up_at, if_neg (by omega), m_up_at, if_neg (by omega)]) ?_
    refine r_sub ePo_move_67 ?_
    refine r_is (ls' := [some (.ref A), some (.int (m_i (k))), some (.int (m_i (v))), some (.int (m_i (((k) / (3)) - (1)))), some (.int (m_i ((((v) - (((k) / (3)) - (1))) - (J A 3)) - (J A 2))))]) ePo_move_68 (Nat.le_of_ble_eq_true rfl) rfl ?_
    refine r_go (tgt := 90) ePo_move_70 rfl ?_
    refine r_aln ePo_move_90 rfl ?_
    refine r_aln ePo_move_91 rfl ?_
    refine r_gete (x := J A 2) ePo_move_92 rfl (by decide) hA.2.1 (by rw [m_up_at, if_neg (by omega), m_up_at, if_neg (by omega), m_up_at, if_neg (by omega)]) ?_
    refine r_put ePo_move_95 rfl hA.2.1 hA.1 (Or.inl rfl) ?_
    refine r_aln ePo_move_98 rfl ?_
    refine r_il ePo_move_99 rfl ?_
    refine r_put ePo_move_101 rfl hA.2.1 hA.1 (Or.inl rfl) ?_
    rw [po_put_eq (K := ((m_up (m_up (m_up (m_up (m_up J A 1 ((J A 1) + (((k) / (3)) - (1)))) A 0 ((J A 0) + ((J A 1) + (((k) / (3)) - (1))))) A 4 ((J A 4) + (((k) % (3)) - (1)))) A 3 (J A 2)) A 2 ((((v) - (((k) / (3)) - (1))) - (J A 3)) - (J A 2))))) (J := J) (A := A) (σ := a_step (po_get J A) k v) (by simp [m_up, a_step, po_get]) (by simp [m_up, a_step, po_get]) (m_up_same.trans (by unfold a_step po_get; simp only; omega)) (by simp [m_up, a_step, po_get]) (by simp [m_up, a_step, po_get]) (fun b i q => by rw [m_up_at, if_neg (by omega), m_up_at, if_neg (by omega), m_up_at, if_neg (by omega), m_up_at, if_neg (by omega), m_up_at, if_neg (by omega)])]
    refine r_ret ePo_move_104 rfl ?_
    exact hq
theorem c_Po_moveBack (hA : po_sh en A T P) (hs : a_sm (po_get J A)) {k : Int} (hk : 0 ≤ k ∧ k < 9) (hq : Q none (T, m_I (po_put J A (a_back (po_get J A) k)), P, L, z, w)) : m_call en (d + 1) mPo_moveBack [.ref A, .int (m_i k)] (T, m_I J, P, L, z, w) Q := by
  have h0 : -100000 ≤ J A 0 ∧ J A 0 ≤ 100000 := hs.1
  have h1 : -100000 ≤ J A 1 ∧ J A 1 ≤ 100000 := hs.2.1
  have h2 : -100000 ≤ J A 2 ∧ J A 2 ≤ 100000 := hs.2.2.1
  have h3 : -100000 ≤ J A 3 ∧ J A 3 ≤ 100000 := hs.2.2.2.1
  have h4 : -100000 ≤ J A 4 ∧ J A 4 ≤ 100000 := hs.2.2.2.2
  have hg := a_gr_m (J A 4) (J A 3)
  refine m_into (by decide) (Nat.le_of_ble_eq_true rfl) rfl ?_
  show m_wp en _ mPo_moveBack 0 [some (.ref A), some (.int (m_i (k))), none, none] [] (T, m_I J, P, L, z, w) Q
  refine r_iln ePo_moveBack_0 rfl ?_
  refine r_con ePo_moveBack_1 ?_
  refine r_div ePo_moveBack_2 ⟨(by omega), (by omega)⟩ ⟨(by omega), (by omega)⟩ ?_
  refine r_con ePo_moveBack_3 ?_
  refine r_sub ePo_moveBack_4 ?_
  refine r_isn (ls' := [some (.ref A), some (.int (m_i (k))), some (.int (m_i (((k) / (3)) - (1)))), none]) ePo_moveBack_5 (Nat.le_of_ble_eq_true rfl) rfl ?_
  refine r_iln ePo_moveBack_6 rfl ?_
  refine r_neg ePo_moveBack_7 ?_
  refine r_aln ePo_moveBack_8 rfl ?_
  refine r_gete (x := J A 2) ePo_moveBack_9 rfl (by decide) hA.2.1 rfl ?_
  refine r_sub ePo_moveBack_12 ?_
  refine r_isn (ls' := [some (.ref A), some (.int (m_i (k))), some (.int (m_i (((k) / (3)) - (1)))), some (.int (m_i ((-(((k) / (3)) - (1))) - (J A 2))))]) ePo_moveBack_13 (Nat.le_of_ble_eq_true rfl) rfl ?_
  refine r_aln ePo_moveBack_14 rfl ?_
  refine r_gete (x := J A 4) ePo_moveBack_15 rfl (by decide) hA.2.1 rfl ?_
  refine r_con ePo_moveBack_18 ?_
  refine r_cgt (tgt := 32) ePo_moveBack_19 rfl ⟨(by omega), (by omega)⟩ ⟨(by omega), (by omega)⟩ (fun c19 => ?_) (fun c19 => ?_)
  · refine r_aln ePo_moveBack_32 rfl ?_
    refine r_gete (x := J A 4) ePo_moveBack_33 rfl (by decide) hA.2.1 rfl ?_
    refine r_con ePo_moveBack_36 ?_
    refine r_cle (tgt := 47) ePo_moveBack_37 rfl ⟨(by omega), (by omega)⟩ ⟨(by omega), (by omega)⟩ (fun c37 => ?_) (fun c37 => ?_)
    · refine r_aln ePo_moveBack_47 rfl ?_
      refine r_dupr ePo_moveBack_48 ?_
      refine r_gete (x := J A 4) ePo_moveBack_49 rfl (by decide) hA.2.1 rfl ?_
      refine r_iln ePo_moveBack_52 rfl ?_
      refine r_con ePo_moveBack_53 ?_
      refine r_rem ePo_moveBack_54 ⟨(by omega), (by omega)⟩ ⟨(by omega), (by omega)⟩ ?_
      refine r_con ePo_moveBack_55 ?_
      refine r_sub ePo_moveBack_56 ?_
      refine r_sub ePo_moveBack_57 ?_
      refine r_put ePo_moveBack_58 rfl hA.2.1 hA.1 (Or.inl rfl) ?_
      refine r_aln ePo_moveBack_61 rfl ?_
      refine r_dupr ePo_moveBack_62 ?_
      refine r_gete (x := J A 0) ePo_moveBack_63 rfl (by decide) hA.2.1 (by rw [m_up_at, if_neg (by omega)]) ?_
      refine r_aln ePo_moveBack_66 rfl ?_
      refine r_gete (x := J A 1) ePo_moveBack_67 rfl (by decide) hA.2.1 (by rw [m_up_at, if_neg (by omega)]) ?_
      refine r_sub ePo_moveBack_70 ?_
      refine r_put ePo_moveBack_71 rfl hA.2.1 hA.1 (Or.inl rfl) ?_
      refine r_aln ePo_moveBack_74 rfl ?_
      refine r_dupr ePo_moveBack_75 ?_
      refine r_gete (x := J A 1) ePo_moveBack_76 rfl (by decide) hA.2.1 (by rw [m_up_at, if_neg (by omega), m_up_at, if_neg (by omega)]) ?_
      refine r_iln ePo_moveBack_79 rfl ?_
      refine r_sub ePo_moveBack_80 ?_
      refine r_put ePo_moveBack_81 rfl hA.2.1 hA.1 (Or.inl rfl) ?_
      refine r_aln ePo_moveBack_84 rfl ?_
      refine r_aln ePo_moveBack_85 rfl ?_
      refine r_gete (x := J A 3) ePo_moveBack_86 rfl (by decide) hA.2.1 (by rw [m_up_at, if_neg (by omega), m_up_at, if_neg (by omega), m_up_at, if_neg (by omega)]) ?_
      refine r_put ePo_moveBack_89 rfl hA.2.1 hA.1 (Or.inl rfl) ?_
      refine r_aln ePo_moveBack_92 rfl ?_
      refine r_iln ePo_moveBack_93 rfl ?_
      refine r_put ePo_moveBack_94 rfl hA.2.1 hA.1 (Or.inl rfl) ?_
      rw [po_put_eq (K := ((m_up (m_up (m_up (m_up (m_up J A 4 ((J A 4) - (((k) % (3)) - (1)))) A 0 ((J A 0) - (J A 1))) A 1 ((J A 1) - (((k) / (3)) - (1)))) A 2 (J A 3)) A 3 ((-(((k) / (3)) - (1))) - (J A 2))))) (J := J) (A := A) (σ := a_back (po_get J A) k) (by simp [m_up, a_back, po_get]) (by simp [m_up, a_back, po_get]) (by simp [m_up, a_back, po_get]) (m_up_same.trans (by unfold a_back po_get; simp only; omega)) (by simp [m_up, a_back, po_get]) (fun b i q => by rw [m_up_at, if_neg (by omega), m_up_at, if_neg (by omega), m_up_at, if_neg (by omega), m_up_at, if_neg (by omega), m_up_at, if_neg (by omega)])]
      refine r_ret ePo_moveBack_97 rfl ?_
      exact hq
    · refine r_iln ePo_moveBack_40 rfl ?_
      refine r_aln ePo_moveBack_41 rfl ?_
      refine r_gete (x := J A 3) ePo_moveBack_42 rfl (by decide) hA.2.1 rfl ?_
      refine r_add ePo_moveBack_45 ?_
      refine r_isn (ls' := [some (.ref A), some (.int (m_i (k))), some (.int (m_i (((k) / (3)) - (1)))), some (.int (m_i (((-(((k) / (3)) - (1))) - (J A 2)) + (J A 3))))]) ePo_moveBack_46 (Nat.le_of_ble_eq_true rfl) rfl ?_
      refine r_aln ePo_moveBack_47 rfl ?_
      refine r_dupr ePo_moveBack_48 ?_
      refine r_gete (x := J A 4) ePo_moveBack_49 rfl (by decide) hA.2.1 rfl ?_
      refine r_iln ePo_moveBack_52 rfl ?_
      refine r_con ePo_moveBack_53 ?_
      refine r_rem ePo_moveBack_54 ⟨(by omega), (by omega)⟩ ⟨(by omega), (by omega)⟩ ?_
      refine r_con ePo_moveBack_55 ?_
      refine r_sub ePo_moveBack_56 ?_
      refine r_sub ePo_moveBack_57 ?_
      refine r_put ePo_moveBack_58 rfl hA.2.1 hA.1 (Or.inl rfl) ?_
      refine r_aln ePo_moveBack_61 rfl ?_
      refine r_dupr ePo_moveBack_62 ?_
      refine r_gete (x := J A 0) ePo_moveBack_63 rfl (by decide) hA.2.1 (by rw [m_up_at, if_neg (by omega)]) ?_
      refine r_aln ePo_moveBack_66 rfl ?_
      refine r_gete (x := J A 1) ePo_moveBack_67 rfl (by decide) hA.2.1 (by rw [m_up_at, if_neg (by omega)]) ?_
      refine r_sub ePo_moveBack_70 ?_
      refine r_put ePo_moveBack_71 rfl hA.2.1 hA.1 (Or.inl rfl) ?_
      refine r_aln ePo_moveBack_74 rfl ?_
      refine r_dupr ePo_moveBack_75 ?_
      refine r_gete (x := J A 1) ePo_moveBack_76 rfl (by decide) hA.2.1 (by rw [m_up_at, if_neg (by omega), m_up_at, if_neg (by omega)]) ?_
      refine r_iln ePo_moveBack_79 rfl ?_
      refine r_sub ePo_moveBack_80 ?_
      refine r_put ePo_moveBack_81 rfl hA.2.1 hA.1 (Or.inl rfl) ?_
      refine r_aln ePo_moveBack_84 rfl ?_
      refine r_aln ePo_moveBack_85 rfl ?_
      refine r_gete (x := J A 3) ePo_moveBack_86 rfl (by decide) hA.2.1 (by rw [m_up_at, if_neg (by omega), m_up_at, if_neg (by omega), m_up_at, if_neg (by omega)]) ?_
      refine r_put ePo_moveBack_89 rfl hA.2.1 hA.1 (Or.inl rfl) ?_
      refine r_aln ePo_moveBack_92 rfl ?_
      refine r_iln ePo_moveBack_93 rfl ?_
      refine r_put ePo_moveBack_94 rfl hA.2.1 hA.1 (Or.inl rfl) ?_
      rw [po_put_eq (K := ((m_up (m_up (m_up (m_up (m_up J A 4 ((J A 4) - (((k) % (3)) - (1)))) A 0 ((J A 0) - (J A 1))) A 1 ((J A 1) - (((k) / (3)) - (1)))) A 2 (J A 3)) A 3 (((-(((k) / (3)) - (1))) - (J A 2)) + (J A 3))))) (J := J) (A := A) (σ := a_back (po_get J A) k) (by simp [m_up, a_back, po_get]) (by simp [m_up, a_back, po_get]) (by simp [m_up, a_back, po_get]) (m_up_same.trans (by unfold a_back po_get; simp only; omega)) (by simp [m_up, a_back, po_get]) (fun b i q => by rw [m_up_at, if_neg (by omega), m_up_at, if_neg (by omega), m_up_at, if_neg (by omega), m_up_at, if_neg (by omega), m_up_at, if_neg (by omega)])]
      refine r_ret ePo_moveBack_97 rfl ?_
      exact hq
  · refine r_iln ePo_moveBack_22 rfl ?_
    refine r_aln ePo_moveBack_23 rfl ?_
    refine r_gete (x := J A 3) ePo_moveBack_24 rfl (by decide) hA.2.1 rfl ?_
    refine r_sub ePo_moveBack_27 ?_
    refine r_isn (ls' := [some (.ref A), some (.int (m_i (k))), some (.int (m_i (((k) / (3)) - (1)))), some (.int (m_i (((-(((k) / (3)) - (1))) - (J A 2)) - (J A 3))))]) ePo_moveBack_28 (Nat.le_of_ble_eq_true rfl) rfl ?_
    refine r_go (tgt := 47) ePo_moveBack_29 rfl ?_
    refine r_aln ePo_moveBack_47 rfl ?_
    refine r_dupr ePo_moveBack_48 ?_
    refine r_gete (x := J A 4) ePo_moveBack_49 rfl (by decide) hA.2.1 rfl ?_
    refine r_iln ePo_moveBack_52 rfl ?_
    refine r_con ePo_moveBack_53 ?_
    refine r_rem ePo_moveBack_54 ⟨(by omega), (by omega)⟩ ⟨(by omega), (by omega)⟩ ?_
    refine r_con ePo_moveBack_55 ?_
    refine r_sub ePo_moveBack_56 ?_
    refine r_sub ePo_moveBack_57 ?_
    refine r_put ePo_moveBack_58 rfl hA.2.1 hA.1 (Or.inl rfl) ?_
    refine r_aln ePo_moveBack_61 rfl ?_
    refine r_dupr ePo_moveBack_62 ?_
    refine r_gete (x := J A 0) ePo_moveBack_63 rfl (by decide) hA.2.1 (by rw [m_up_at, if_neg (by omega)]) ?_
    refine r_aln ePo_moveBack_66 rfl ?_
    refine r_gete (x := J A 1) ePo_moveBack_67 rfl (by decide) hA.2.1 (by rw [m_up_at, if_neg (by omega)]) ?_
    refine r_sub ePo_moveBack_70 ?_
    refine r_put ePo_moveBack_71 rfl hA.2.1 hA.1 (Or.inl rfl) ?_
    refine r_aln ePo_moveBack_74 rfl ?_
    refine r_dupr ePo_moveBack_75 ?_
    refine r_gete (x := J A 1) ePo_moveBack_76 rfl (by decide) hA.2.1 (by rw [m_up_at, if_neg (by omega), m_up_at, if_neg (by omega)]) ?_
    refine r_iln ePo_moveBack_79 rfl ?_
    refine r_sub ePo_moveBack_80 ?_
    refine r_put ePo_moveBack_81 rfl hA.2.1 hA.1 (Or.inl rfl) ?_
    refine r_aln ePo_moveBack_84 rfl ?_
    refine r_aln ePo_moveBack_85 rfl ?_
    refine r_gete (x := J A 3) ePo_moveBack_86 rfl (by decide) hA.2.1 (by rw [m_up_at, if_neg (by omega), m_up_at, if_neg (by omega), m_up_at, if_neg (by omega)]) ?_
    refine r_put ePo_moveBack_89 rfl hA.2.1 hA.1 (Or.inl rfl) ?_
    refine r_aln ePo_moveBack_92 rfl ?_
    refine r_iln ePo_moveBack_93 rfl ?_
    refine r_put ePo_moveBack_94 rfl hA.2.1 hA.1 (Or.inl rfl) ?_
    rw [po_put_eq (K := ((m_up (m_up (m_up (m_up (m_up J A 4 ((J A 4) - (((k) % (3)) - (1)))) A 0 ((J A 0) - (J A 1))) A 1 ((J A 1) - (((k) / (3)) - (1)))) A 2 (J A 3)) A 3 (((-(((k) / (3)) - (1))) - (J A 2)) - (J A 3))))) (J := J) (A := A) (σ := a_back (po_get J A) k) (by simp [m_up, a_back, po_get]) (by simp [m_up, a_back, po_get]) (by simp [m_up, a_back, po_get]) (m_up_same.trans (by unfold a_back po_get; simp only; omega)) (by simp [m_up, a_back, po_get]) (fun b i q => by rw [m_up_at, if_neg (by omega), m_up_at, if_neg (by omega), m_up_at, if_neg (by omega), m_up_at, if_neg (by omega), m_up_at, if_neg (by omega)])]
    refine r_ret ePo_moveBack_97 rfl ?_
    exact hq
end PO2
