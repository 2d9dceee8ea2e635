/-! the class: what can be, how it sways, drifts -/
def cl_wd (J : Nat → Nat → Int) (X : Nat) (t : Int) : Int := a_w1 (J (X + 23)) (J (X + 24)) t (J (X + 29) 7).toNat 0
section SCA
variable {en : Nat → Nat} {d : Nat} {T T' T2 T0 : Nat → Option (Nat × Nat)} {J J' J0 J1 J2 J3 K H : Nat → Nat → Int} {P P' P2 P0 : Nat → Nat → Option Nat} {L L' L2 L0 : Nat → Nat → Int64} {z w z' w' z0 w0 A B R U S n X N zb wb : Nat} {Q : m_Q} {σ τ γ π ρ : a_S} {C : a_C} {x e st : Int}
theorem a_bx_t (h : a_bx σ) : a_t σ := by
  unfold a_bx at h
  unfold a_t
  omega
theorem sp_po2 {k : Nat} (hk : 136 ≤ k) (hC : sp_is J (X + 133) C) : sp_is (po_put J (X + k) τ) (X + 133) C := sp_is_e hC (fun i => po_put_o (by omega)) (fun i => po_put_o (by omega)) (fun i => po_put_o (by omega))
/-- only the trial pose changed -/
theorem cl_W_tr (h : cl_W en X N zb wb C T J P z w) : cl_W en X N zb wb C T (po_put J (X + 164) τ) P z w := cl_W_po h (by omega)
def tr_E (X b i : Nat) : Prop := b = X + 156 ∨ b = X + 164
theorem cl_qe_tr : cl_qe X N (tr_E X) T J P L T (po_put J (X + 164) τ) P L := cl_qe_J (fun b i _ q => po_put_o (fun e => q (Or.inr e.1)))
theorem c_Sc_whyNot (hX : cl_sh en X T P) (ok : a_ok C) (hC : sp_is J (X + 133) C) (hbx : a_bx (po_get J (X + 31))) {k : Int} (hk : 0 ≤ k ∧ k < 9) (hq : Q (some (.int (m_i (a_why C (a_step (po_get J (X + 31)) k 0))))) (T, m_I (po_put J (X + 164) (a_step (po_get J (X + 31)) k 0)), P, L, z, w)) : m_call en (d + 4) mSc_whyNot [.ref X, .int (m_i k)] (T, m_I J, P, L, z, w) Q := by
  refine m_into (by decide) (Nat.le_of_ble_eq_true rfl) rfl ?_
  show m_wp en _ mSc_whyNot 0 [some (.ref X), some (.int (m_i (k)))] [] (T, m_I J, P, L, z, w) Q
  refine r_aln eSc_whyNot_0 rfl ?_
  refine m_getR eSc_whyNot_1 rfl (cl_t hX (i := 0) rfl) (cl_p hX (i := 10) rfl) ?_
  refine r_aln eSc_whyNot_4 rfl ?_
  refine m_getR eSc_whyNot_5 rfl (cl_t hX (i := 0) rfl) (cl_p hX (i := 2) rfl) ?_
  refine m_getR eSc_whyNot_8 rfl (cl_t hX (i := 30) rfl) (cl_p hX (i := 38) rfl) ?_
  refine r_vir eSc_whyNot_11 rfl rfl rfl (cl_t hX (i := 158) rfl) rfl rfl ?_
  refine c_Po_set (cl_po hX (k := 164) (by decide)) (cl_po hX (k := 31) (by decide)) (by omega) ?_
  show m_wp en _ mSc_whyNot 14 [some (.ref X), some (.int (m_i (k)))] [] (T, m_I (((po_put J (X + 164) (po_get J (X + 31))))), P, L, z, w) Q
  refine r_aln eSc_whyNot_14 rfl ?_
  refine m_getR eSc_whyNot_15 rfl (cl_t hX (i := 0) rfl) (cl_p hX (i := 10) rfl) ?_
  refine r_iln eSc_whyNot_18 rfl ?_
  refine r_con eSc_whyNot_19 ?_
  refine r_vir eSc_whyNot_20 rfl rfl rfl (cl_t hX (i := 158) rfl) rfl rfl ?_
  refine c_Po_move (cl_po hX (k := 164) (by decide)) (by rw [po_get_put]; exact a_bx_sm hbx) hk ⟨by omega, by omega⟩ ?_
  rw [po_get_put, po_put_put]
  show m_wp en _ mSc_whyNot 23 [some (.ref X), some (.int (m_i (k)))] [] (T, m_I (((po_put J (X + 164) (a_step (po_get J (X + 31)) k 0)))), P, L, z, w) Q
  refine r_aln eSc_whyNot_23 rfl ?_
  refine m_getR eSc_whyNot_24 rfl (cl_t hX (i := 0) rfl) (cl_p hX (i := 7) rfl) ?_
  refine m_getR eSc_whyNot_27 rfl (cl_t hX (i := 132) rfl) (cl_p hX (i := 107) rfl) ?_
  refine r_aln eSc_whyNot_30 rfl ?_
  refine m_getR eSc_whyNot_31 rfl (cl_t hX (i := 0) rfl) (cl_p hX (i := 10) rfl) ?_
  refine r_vir eSc_whyNot_34 rfl rfl rfl (cl_t hX (i := 133) rfl) rfl rfl ?_
  refine c_Sp_whyNot (cl_sp hX (Or.inl rfl)) (cl_po hX (k := 164) (by decide)) (sp_po2 (by omega) hC).1 ok (by rw [po_get_put]; exact a_step_sm (a_bx_t hbx) hk (by omega)) ?_
  rw [po_get_put]
  show m_wp en _ mSc_whyNot 37 [some (.ref X), some (.int (m_i (k)))] [(.int (m_i ((a_why C (a_step (po_get J (X + 31)) k 0)))))] (T, m_I (((((po_put J (X + 164) (a_step (po_get J (X + 31)) k 0)))))), P, L, z, w) Q
  refine r_iret eSc_whyNot_37 rfl ?_
  exact hq
theorem c_Sc_why (h : cl_W en X N zb wb C T J P z w) {k : Int} (hk : m_in k) (h0 : ¬ (0 ≤ k ∧ k < 9) → Q (some (.int (m_i (-1)))) (T, m_I J, P, L, z, w)) (h1 : (0 ≤ k ∧ k < 9) → Q (some (.int (m_i (a_why C (a_step (po_get J (X + 31)) k 0))))) (T, m_I (po_put J (X + 164) (a_step (po_get J (X + 31)) k 0)), P, L, z, w)) : m_call en (d + 5) mSc_why [.ref X, .int (m_i k)] (T, m_I J, P, L, z, w) Q := by
  obtain ⟨hV, ⟨p1, hmo, ok, h4, hC⟩, -⟩ := h
  have hX := hV.1
  have hbx := hmo.2.2.2.2
  unfold m_in at hk
  refine m_into (by decide) (Nat.le_of_ble_eq_true rfl) rfl ?_
  show m_wp en _ mSc_why 0 [some (.ref X), some (.int (m_i (k)))] [] (T, m_I J, P, L, z, w) Q
  refine r_iln eSc_why_0 rfl ?_
  refine r_zlt (tgt := 10) eSc_why_1 rfl ⟨(by omega), (by omega)⟩ (fun c1 => ?_) (fun c1 => ?_)
  · refine r_con eSc_why_10 ?_
    refine r_go (tgt := 19) eSc_why_11 rfl ?_
    refine r_iret eSc_why_19 rfl ?_
    first | exact h0 (by omega) | exact h1 (by omega)
  · refine r_iln eSc_why_4 rfl ?_
    refine r_bip eSc_why_5 (by decide) ?_
    refine r_clt (tgt := 14) eSc_why_7 rfl ⟨(by omega), (by omega)⟩ ⟨(by omega), (by omega)⟩ (fun c7 => ?_) (fun c7 => ?_)
    · refine r_aln eSc_why_14 rfl ?_
      refine r_iln eSc_why_15 rfl ?_
      refine r_vir eSc_why_16 rfl rfl rfl (cl_t hX (i := 0) rfl) rfl rfl ?_
      refine c_Sc_whyNot hX ok hC hbx (by omega) ?_
      show m_wp en _ mSc_why 19 [some (.ref X), some (.int (m_i (k)))] [(.int (m_i ((a_why C (a_step (po_get J (X + 31)) k 0)))))] (T, m_I (((po_put J (X + 164) (a_step (po_get J (X + 31)) k 0)))), P, L, z, w) Q
      refine r_iret eSc_why_19 rfl ?_
      first | exact h0 (by omega) | exact h1 (by omega)
    · refine r_con eSc_why_10 ?_
      refine r_go (tgt := 19) eSc_why_11 rfl ?_
      refine r_iret eSc_why_19 rfl ?_
      first | exact h0 (by omega) | exact h1 (by omega)
theorem l_Sc_can (hX : cl_sh en X T P) (ok : a_ok C) (hC : sp_is J (X + 133) C) (hbx : a_bx (po_get J (X + 31))) (hq : ∀ J', (∀ b i, b ≠ X + 164 → J' b i = J b i) → Q (some (.int (m_i (a_can C (a_no (po_get J (X + 31))) 9)))) (T, m_I J', P, L, z, w)) :
    ∀ (r k : Nat) (J4 : Nat → Nat → Int), k + r = 9 → (∀ b i, b ≠ X + 164 → J4 b i = J b i) → m_wp en (d + 4) mSc_can 4 [some (.ref X), some (.int (m_i (a_can C (a_no (po_get J (X + 31))) k))), some (.int (m_i (k : Int)))] [] (T, m_I J4, P, L, z, w) Q := by
  have eo := a_of_no hbx
  intro r
  induction r with
  | zero =>
    intro k J4 hk h4
    obtain rfl : k = 9 := by omega
    refine r_iln eSc_can_4 rfl ?_
    refine r_bip eSc_can_5 (by decide) ?_
    refine r_cge (tgt := 30) eSc_can_7 rfl ⟨(by omega), (by omega)⟩ ⟨(by omega), (by omega)⟩ (fun c7 => ?_) (fun c7 => ?_)
    · refine r_iln eSc_can_30 rfl ?_
      refine r_iret eSc_can_31 rfl ?_
      exact hq J4 h4
    · exfalso; omega
  | succ r ih =>
    intro k J4 hk h4
    have e31 : po_get J4 (X + 31) = po_get J (X + 31) := po_get_e (fun i => h4 _ i (by omega))
    have hi := ih (k + 1) (po_put J4 (X + 164) (a_step (po_get J (X + 31)) (k : Int) 0)) (by omega) (fun b i q => by rw [po_put_o (fun e => q e.1)]; exact h4 b i q)
    rw [show ((k + 1 : Nat) : Int) = (k : Int) + 1 by omega] at hi
    unfold a_can at hi
    rw [eo] at hi
    have hwb := a_why_bd C (a_step (po_get J (X + 31)) (k : Int) 0)
    refine r_iln eSc_can_4 rfl ?_
    refine r_bip eSc_can_5 (by decide) ?_
    refine r_cge (tgt := 30) eSc_can_7 rfl ⟨(by omega), (by omega)⟩ ⟨(by omega), (by omega)⟩ (fun c7 => ?_) (fun c7 => ?_)
    · exfalso; omega
    · refine r_aln eSc_can_10 rfl ?_
      refine r_iln eSc_can_11 rfl ?_
      refine r_vir eSc_can_12 rfl rfl rfl (cl_t hX (i := 0) rfl) rfl rfl ?_
      refine c_Sc_whyNot hX ok (sp_is_e hC (fun i => h4 _ i (by omega)) (fun i => h4 _ i (by omega)) (fun i => h4 _ i (by omega))) (by rw [e31]; exact hbx) ⟨by omega, by omega⟩ ?_
      rw [e31]
      show m_wp en _ mSc_can 15 [some (.ref X), some (.int (m_i (a_can C (a_no (po_get J (X + 31))) k))), some (.int (m_i ((k : Int))))] [(.int (m_i ((a_why C (a_step (po_get J (X + 31)) (k : Int) 0)))))] (T, m_I (((po_put J4 (X + 164) (a_step (po_get J (X + 31)) (k : Int) 0)))), P, L, z, w) Q
      refine r_zne (tgt := 24) eSc_can_15 rfl ⟨(by omega), (by omega)⟩ (fun c15 => ?_) (fun c15 => ?_)
      · refine r_inc (ls' := [some (.ref X), some (.int (m_i (a_can C (a_no (po_get J (X + 31))) k))), some (.int (m_i ((k : Int) + 1)))]) eSc_can_24 rfl rfl ?_
        refine r_go (tgt := 4) eSc_can_27 rfl ?_
        first | (rw [if_pos (by omega)] at hi; exact hi) | (rw [if_neg (by omega)] at hi; exact hi)
      · refine r_iln eSc_can_18 rfl ?_
        refine r_con eSc_can_19 ?_
        refine r_iln eSc_can_20 rfl ?_
        refine r_shl eSc_can_21 ?_
        refine r_or eSc_can_22 ?_
        refine r_isn (ls' := [some (.ref X), some (.int (m_i (m_or (a_can C (a_no (po_get J (X + 31))) k) (m_shl (1) ((k : Int)))))), some (.int (m_i ((k : Int))))]) eSc_can_23 (Nat.le_of_ble_eq_true rfl) rfl ?_
        refine r_inc (ls' := [some (.ref X), some (.int (m_i (m_or (a_can C (a_no (po_get J (X + 31))) k) (m_shl (1) ((k : Int)))))), some (.int (m_i ((k : Int) + 1)))]) eSc_can_24 rfl rfl ?_
        refine r_go (tgt := 4) eSc_can_27 rfl ?_
        first | (rw [if_pos (by omega)] at hi; exact hi) | (rw [if_neg (by omega)] at hi; exact hi)
theorem c_Sc_can (h : cl_W en X N zb wb C T J P z w) (hq : ∀ J', (∀ b i, b ≠ X + 164 → J' b i = J b i) → Q (some (.int (m_i (a_can C (a_no (po_get J (X + 31))) 9)))) (T, m_I J', P, L, z, w)) : m_call en (d + 5) mSc_can [.ref X] (T, m_I J, P, L, z, w) Q := by
  obtain ⟨hV, ⟨p1, hmo, ok, h4, hC⟩, -⟩ := h
  have hX := hV.1
  have h9 := l_Sc_can (d := d) (L := L) (z := z) (w := w) hX ok hC hmo.2.2.2.2 hq 9 0 J (by omega) (fun _ _ _ => rfl)
  refine m_into (by decide) (Nat.le_of_ble_eq_true rfl) rfl ?_
  show m_wp en _ mSc_can 0 [some (.ref X), none, none] [] (T, m_I J, P, L, z, w) Q
  refine r_con eSc_can_0 ?_
  refine r_isn (ls' := [some (.ref X), some (.int (m_i (0))), none]) eSc_can_1 (Nat.le_of_ble_eq_true rfl) rfl ?_
  refine r_con eSc_can_2 ?_
  refine r_isn (ls' := [some (.ref X), some (.int (m_i (0))), some (.int (m_i (0)))]) eSc_can_3 (Nat.le_of_ble_eq_true rfl) rfl ?_
  exact h9
theorem c_Sc_hangsStill (hX : cl_sh en X T P) (ok : a_ok C) (hC : sp_is J (X + 133) C) (hbx : a_bx (po_get J (X + 31))) (hq : Q (some (.int (m_i (a_b (decide ((J (X + 31) 1 = 0 ∧ J (X + 31) 2 = 0 ∧ J (X + 31) 3 = 0) ∧ a_why C (po_get J (X + 31)) = 0)))))) (T, m_I J, P, L, z, w)) : m_call en (d + 4) mSc_hangsStill [.ref X] (T, m_I J, P, L, z, w) Q := by
  have hwb := a_why_bd C (po_get J (X + 31))
  obtain ⟨is, ei⟩ : ∃ is, is = a_b (decide (J (X + 31) 1 = 0 ∧ J (X + 31) 2 = 0 ∧ J (X + 31) 3 = 0)) := ⟨_, rfl⟩
  have hi : (is = 1 ∧ w_rs (po_get J (X + 31))) ∨ (is = 0 ∧ ¬ w_rs (po_get J (X + 31))) := by
    rw [ei]
    by_cases q : J (X + 31) 1 = 0 ∧ J (X + 31) 2 = 0 ∧ J (X + 31) 3 = 0
    · exact Or.inl ⟨a_b_t (decide_eq_true q), q⟩
    · exact Or.inr ⟨a_b_f (by rw [decide_eq_true_eq]; exact q), q⟩
  have hi2 : 0 ≤ is ∧ is ≤ 1 := by rcases hi with r | r <;> omega
  have h1 : is ≠ 0 → a_why C (po_get J (X + 31)) = 0 → Q (some (.int (m_i 1))) (T, m_I J, P, L, z, w) := fun a b => by
    rw [a_b_t (decide_eq_true ⟨by rcases hi with r | r; exact r.2; omega, b⟩)] at hq; exact hq
  have h0 : (is = 0 ∨ a_why C (po_get J (X + 31)) ≠ 0) → Q (some (.int (m_i 0))) (T, m_I J, P, L, z, w) := fun a => by
    have hne : ¬ ((J (X + 31) 1 = 0 ∧ J (X + 31) 2 = 0 ∧ J (X + 31) 3 = 0) ∧ a_why C (po_get J (X + 31)) = 0) := fun e => by
      rcases a with a | a
      · rcases hi with r | r
        · omega
        · exact r.2 e.1
      · exact a e.2
    rw [a_b_f (by rw [decide_eq_true_eq]; exact hne)] at hq
    exact hq
  clear hi
  refine m_into (by decide) (Nat.le_of_ble_eq_true rfl) rfl ?_
  show m_wp en _ mSc_hangsStill 0 [some (.ref X)] [] (T, m_I J, P, L, z, w) Q
  refine r_aln eSc_hangsStill_0 rfl ?_
  refine m_getR eSc_hangsStill_1 rfl (cl_t hX (i := 0) rfl) (cl_p hX (i := 2) rfl) ?_
  refine m_getR eSc_hangsStill_4 rfl (cl_t hX (i := 30) rfl) (cl_p hX (i := 38) rfl) ?_
  refine r_vir eSc_hangsStill_7 rfl rfl rfl (cl_t hX (i := 31) rfl) rfl rfl ?_
  refine c_Po_isStill (cl_po hX (k := 31) (by decide)) (a_bx_sm hbx) ?_
  rw [← ei]
  show m_wp en _ mSc_hangsStill 10 [some (.ref X)] [(.int (m_i (is)))] (T, m_I J, P, L, z, w) Q
  refine r_zeq (tgt := 37) eSc_hangsStill_10 rfl ⟨(by omega), (by omega)⟩ (fun c10 => ?_) (fun c10 => ?_)
  · refine r_con eSc_hangsStill_37 ?_
    refine r_zret eSc_hangsStill_38 rfl (by first | exact Or.inl rfl | exact Or.inr rfl | omega) ?_
    first | exact h1 (by omega) (by omega) | exact h0 (by omega)
  · refine r_aln eSc_hangsStill_13 rfl ?_
    refine m_getR eSc_hangsStill_14 rfl (cl_t hX (i := 0) rfl) (cl_p hX (i := 7) rfl) ?_
    refine m_getR eSc_hangsStill_17 rfl (cl_t hX (i := 132) rfl) (cl_p hX (i := 107) rfl) ?_
    refine r_aln eSc_hangsStill_20 rfl ?_
    refine m_getR eSc_hangsStill_21 rfl (cl_t hX (i := 0) rfl) (cl_p hX (i := 2) rfl) ?_
    refine m_getR eSc_hangsStill_24 rfl (cl_t hX (i := 30) rfl) (cl_p hX (i := 38) rfl) ?_
    refine r_vir eSc_hangsStill_27 rfl rfl rfl (cl_t hX (i := 133) rfl) rfl rfl ?_
    refine c_Sp_whyNot (cl_sp hX (Or.inl rfl)) (cl_po hX (k := 31) (by decide)) hC.1 ok (a_bx_sm hbx) ?_
    show m_wp en _ mSc_hangsStill 30 [some (.ref X)] [(.int (m_i ((a_why C (po_get J (X + 31))))))] (T, m_I J, P, L, z, w) Q
    refine r_zne (tgt := 37) eSc_hangsStill_30 rfl ⟨(by omega), (by omega)⟩ (fun c30 => ?_) (fun c30 => ?_)
    · refine r_con eSc_hangsStill_37 ?_
      refine r_zret eSc_hangsStill_38 rfl (by first | exact Or.inl rfl | exact Or.inr rfl | omega) ?_
      first | exact h1 (by omega) (by omega) | exact h0 (by omega)
    · refine r_con eSc_hangsStill_33 ?_
      refine r_go (tgt := 38) eSc_hangsStill_34 rfl ?_
      refine r_zret eSc_hangsStill_38 rfl (by first | exact Or.inl rfl | exact Or.inr rfl | omega) ?_
      first | exact h1 (by omega) (by omega) | exact h0 (by omega)
end SCA
