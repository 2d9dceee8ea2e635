/-! the class: bears -/
section SCP
variable {en : Nat → Nat} {d : Nat} {T T' T0 : Nat → Option (Nat × Nat)} {J J' J0 K H : Nat → Nat → Int} {P P' P0 : Nat → Nat → Option Nat} {L L' L0 : Nat → Nat → Int64} {z w z' w' A B R X N zb wb n : Nat} {Q : m_Q} {σ τ : a_S} {C : a_C} {v s f : Int}
theorem c_Sc_bearsWind (h : cl_W en X N zb wb C T J P z w) (hf : -8 ≤ f ∧ f ≤ 8) (hq : ∀ T' J' P' L' z' w' r, cl_W en X N zb wb C T' J' P' z' w' → cl_qe X N (tr_E X) T J P L T' J' P' L' → cl_fh C (a_step (po_get J (X + 31)) 4 f) r → Q (some (.int (m_i (a_b (decide (0 ≤ r)))))) (T', m_I J', P', L', z', w')) : m_call en (d + 5) mSc_bearsWind [.ref X, .int (m_i f)] (T, m_I J, P, L, z, w) Q := by
  have h0 := h
  obtain ⟨hV, ⟨pok, hmo, ok, h4, hC⟩, h6, h7, h8⟩ := h
  have hX := hV.1
  have hsm : a_sm (a_step (po_get J (X + 31)) 4 f) := a_step_sm (a_bx_t hmo.2.2.2.2) (by omega) (by omega)
  have hWe : ∀ K, K = po_put J (X + 164) (a_step (po_get J (X + 31)) 4 f) → cl_W en X N zb wb C T K P z w := fun K e => by rw [e]; exact cl_W_tr h0
  refine m_into (by decide) (Nat.le_of_ble_eq_true rfl) rfl ?_
  show m_wp en _ mSc_bearsWind 0 [some (.ref X), some (.int (m_i (f)))] [] (T, m_I J, P, L, z, w) Q
  refine r_aln eSc_bearsWind_0 rfl ?_
  refine m_getR eSc_bearsWind_1 rfl (cl_t hX (i := 0) rfl) (cl_p hX (i := 10) rfl) ?_
  refine r_aln eSc_bearsWind_4 rfl ?_
  refine m_getR eSc_bearsWind_5 rfl (cl_t hX (i := 0) rfl) (cl_p hX (i := 2) rfl) ?_
  refine m_getR eSc_bearsWind_8 rfl (cl_t hX (i := 30) rfl) (cl_p hX (i := 38) rfl) ?_
  refine r_vir eSc_bearsWind_11 rfl rfl rfl (cl_t hX (i := 158) rfl) rfl rfl ?_
  refine k_Po_set (cl_po hX (by decide)) (cl_po hX (by decide)) (by omega) (fun K1 e1 => ?_)
  show m_wp en _ mSc_bearsWind 14 [some (.ref X), some (.int (m_i (f)))] [] (T, m_I K1, P, L, z, w) Q
  refine r_aln eSc_bearsWind_14 rfl ?_
  refine m_getR eSc_bearsWind_15 rfl (cl_t hX (i := 0) rfl) (cl_p hX (i := 10) rfl) ?_
  refine r_con eSc_bearsWind_18 ?_
  refine r_iln eSc_bearsWind_19 rfl ?_
  refine r_vir eSc_bearsWind_20 rfl rfl rfl (cl_t hX (i := 158) rfl) rfl rfl ?_
  refine k_Po_move hX e1 hmo.2.2.2.2 ⟨by omega, by omega⟩ (by omega) (fun K2 e2 => ?_)
  show m_wp en _ mSc_bearsWind 23 [some (.ref X), some (.int (m_i (f)))] [] (T, m_I K2, P, L, z, w) Q
  refine r_aln eSc_bearsWind_23 rfl ?_
  refine m_getR eSc_bearsWind_24 rfl (cl_t hX (i := 0) rfl) (cl_p hX (i := 7) rfl) ?_
  refine r_aln eSc_bearsWind_27 rfl ?_
  refine m_getR eSc_bearsWind_28 rfl (cl_t hX (i := 0) rfl) (cl_p hX (i := 10) rfl) ?_
  refine r_vir eSc_bearsWind_31 rfl rfl rfl (cl_t hX (i := 132) rfl) rfl rfl ?_
  refine c_Wa_stepsHome (hWe _ e2) (k := 164) (by decide) (by rw [e2, po_get_put]; exact hsm) (fun T J2 P L z w r k1 k2 k3 k4 k5 k6 k7 => ?_)
  rw [e2, po_get_put] at k4
  rw [e2] at k2
  have hb := a_bd2 (p := 0 ≤ r)
  show m_wp en _ mSc_bearsWind 34 [some (.ref X), some (.int (m_i (f)))] [(.int (m_i (r)))] (T, m_I J2, P, L, z, w) Q
  refine r_zlt (tgt := 41) eSc_bearsWind_34 rfl ⟨(by omega), (by omega)⟩ (fun c34 => ?_) (fun c34 => ?_)
  · refine r_con eSc_bearsWind_41 ?_
    refine r_zret eSc_bearsWind_42 rfl (by first | exact Or.inl rfl | exact Or.inr rfl | omega) ?_
    have h9 := hq T J2 P L z w r k1 (cl_qe_t cl_qe_tr (cl_qe_q k2)) k4
    rcases hb with hb | hb
    · (rw [hb.1] at h9; first | exact h9 | (exfalso; omega))
    · (rw [hb.1] at h9; first | exact h9 | (exfalso; omega))
  · refine r_con eSc_bearsWind_37 ?_
    refine r_go (tgt := 42) eSc_bearsWind_38 rfl ?_
    refine r_zret eSc_bearsWind_42 rfl (by first | exact Or.inl rfl | exact Or.inr rfl | omega) ?_
    have h9 := hq T J2 P L z w r k1 (cl_qe_t cl_qe_tr (cl_qe_q k2)) k4
    rcases hb with hb | hb
    · (rw [hb.1] at h9; first | exact h9 | (exfalso; omega))
    · (rw [hb.1] at h9; first | exact h9 | (exfalso; omega))
theorem cl_qe_p (hc : cl_qe X N (tr_E X) T J P L T' J' P' L') : po_get J' (X + 31) = po_get J (X + 31) := po_get_e (fun i => hc.2.1 _ _ (by omega) (fun q => by rcases q with q | q <;> omega))
theorem l_Sc_bears (hq : ∀ T' J' P' L' z' w' (m : Nat), cl_W en X N zb wb C T' J' P' z' w' → cl_qe X N (tr_E X) T0 J0 P0 L0 T' J' P' L' → m ≤ 9 → (∀ j, j < m → (∃ r, cl_fh C (a_step (po_get J0 (X + 31)) 4 (j : Int)) r ∧ 0 ≤ r) ∧ ∃ r, cl_fh C (a_step (po_get J0 (X + 31)) 4 (-(j : Int))) r ∧ 0 ≤ r) → (m < 9 → (∃ r, cl_fh C (a_step (po_get J0 (X + 31)) 4 (m : Int)) r ∧ r < 0) ∨ ∃ r, cl_fh C (a_step (po_get J0 (X + 31)) 4 (-(m : Int))) r ∧ r < 0) → Q (some (.int (m_i (if (m : Int) = 0 then -2 else (m : Int) - 1)))) (T', m_I J', P', L', z', w')) :
    ∀ (m k : Nat) (T : Nat → Option (Nat × Nat)) (J : Nat → Nat → Int) (P : Nat → Nat → Option Nat) (L : Nat → Nat → Int64) (z w : Nat), k + m = 9 → cl_W en X N zb wb C T J P z w → cl_qe X N (tr_E X) T0 J0 P0 L0 T J P L → (∀ j, j < k → (∃ r, cl_fh C (a_step (po_get J0 (X + 31)) 4 (j : Int)) r ∧ 0 ≤ r) ∧ ∃ r, cl_fh C (a_step (po_get J0 (X + 31)) 4 (-(j : Int))) r ∧ 0 ≤ r) → m_wp en (d + 5) mSc_bears 25 [some (.ref X), some (.int (m_i (k : Int)))] [] (T, m_I J, P, L, z, w) Q := by
  intro m
  induction m with
  | zero =>
    intro k T J P L z w hk hW hc hr
    obtain rfl : k = 9 := by omega
    have h9 := hq T J P L z w 9 hW hc (by omega) hr (fun q => absurd q (by omega))
    rw [if_neg (by omega)] at h9
    have hX := hW.1.1
    refine r_iln eSc_bears_25 rfl ?_
    refine r_bip eSc_bears_26 (by decide) ?_
    refine r_cgt (tgt := 67) eSc_bears_28 rfl ⟨(by omega), (by omega)⟩ ⟨(by omega), (by omega)⟩ (fun c28 => ?_) (fun c28 => ?_)
    · refine r_bip eSc_bears_67 (by decide) ?_
      refine r_iret eSc_bears_69 rfl ?_
      exact h9
    · exfalso; omega
  | succ m ih =>
    intro k T J P L z w hk hW hc hr
    have hX := hW.1.1
    have ek : ((k + 1 : Nat) : Int) = (k : Int) + 1 := by omega
    have hfin : ∀ T' J' P' L' z' w', cl_W en X N zb wb C T' J' P' z' w' → cl_qe X N (tr_E X) T0 J0 P0 L0 T' J' P' L' → ((∃ r, cl_fh C (a_step (po_get J0 (X + 31)) 4 (k : Int)) r ∧ r < 0) ∨ ∃ r, cl_fh C (a_step (po_get J0 (X + 31)) 4 (-(k : Int))) r ∧ r < 0) → Q (some (.int (m_i (if (k : Int) = 0 then -2 else (k : Int) - 1)))) (T', m_I J', P', L', z', w') := fun T' J' P' L' z' w' a b c => hq T' J' P' L' z' w' k a b (by omega) hr (fun _ => c)
    have hgo : ∀ T' J' P' L' z' w' r r', cl_W en X N zb wb C T' J' P' z' w' → cl_qe X N (tr_E X) T0 J0 P0 L0 T' J' P' L' → cl_fh C (a_step (po_get J0 (X + 31)) 4 (k : Int)) r → 0 ≤ r → cl_fh C (a_step (po_get J0 (X + 31)) 4 (-(k : Int))) r' → 0 ≤ r' → m_wp en (d + 5) mSc_bears 25 [some (.ref X), some (.int (m_i ((k : Int) + 1)))] [] (T', m_I J', P', L', z', w') Q := fun T' J' P' L' z' w' r r' a b c e f g => by
      have := ih (k + 1) T' J' P' L' z' w' (by omega) a b (fun j hj => by
        by_cases q : j = k
        · subst q; exact ⟨⟨r, c, e⟩, r', f, g⟩
        · exact hr j (by omega))
      rw [ek] at this
      exact this
    refine r_iln eSc_bears_25 rfl ?_
    refine r_bip eSc_bears_26 (by decide) ?_
    refine r_cgt (tgt := 67) eSc_bears_28 rfl ⟨(by omega), (by omega)⟩ ⟨(by omega), (by omega)⟩ (fun c28 => ?_) (fun c28 => ?_)
    · exfalso; omega
    · refine r_aln eSc_bears_31 rfl ?_
      refine r_iln eSc_bears_32 rfl ?_
      refine r_vir eSc_bears_33 rfl rfl rfl (cl_t hX (i := 0) rfl) rfl rfl ?_
      refine c_Sc_bearsWind hW (by omega) (fun T J2 P L z w r33 k1 k2 k3 => ?_)
      rw [cl_qe_p hc] at k3
      have hX := k1.1.1
      have hW := k1
      have hc := cl_qe_t hc k2
      have p33 := k3
      have hb33 := a_bd2 (p := 0 ≤ r33)
      show m_wp en _ mSc_bears 36 [some (.ref X), some (.int (m_i ((k : Int))))] [(.int (m_i ((a_b (decide (0 ≤ r33))))))] (T, m_I J2, P, L, z, w) Q
      refine r_zeq (tgt := 48) eSc_bears_36 rfl ⟨(by omega), (by omega)⟩ (fun c36 => ?_) (fun c36 => ?_)
      · refine r_iln eSc_bears_48 rfl ?_
        refine r_zne (tgt := 57) eSc_bears_49 rfl ⟨(by omega), (by omega)⟩ (fun c49 => ?_) (fun c49 => ?_)
        · refine r_iln eSc_bears_57 rfl ?_
          refine r_con eSc_bears_58 ?_
          refine r_sub eSc_bears_59 ?_
          refine r_iret eSc_bears_60 rfl ?_
          first | (have h9 := hfin T J2 P L z w hW hc (Or.inr ⟨r42, p42, by omega⟩); first | (rw [if_pos (by omega)] at h9; exact h9) | (rw [if_neg (by omega)] at h9; exact h9)) | (have h9 := hfin T J2 P L z w hW hc (Or.inl ⟨r33, p33, by omega⟩); first | (rw [if_pos (by omega)] at h9; exact h9) | (rw [if_neg (by omega)] at h9; exact h9))
        · refine r_bip eSc_bears_52 (by decide) ?_
          refine r_go (tgt := 60) eSc_bears_54 rfl ?_
          refine r_iret eSc_bears_60 rfl ?_
          first | (have h9 := hfin T J2 P L z w hW hc (Or.inr ⟨r42, p42, by omega⟩); first | (rw [if_pos (by omega)] at h9; exact h9) | (rw [if_neg (by omega)] at h9; exact h9)) | (have h9 := hfin T J2 P L z w hW hc (Or.inl ⟨r33, p33, by omega⟩); first | (rw [if_pos (by omega)] at h9; exact h9) | (rw [if_neg (by omega)] at h9; exact h9))
      · refine r_aln eSc_bears_39 rfl ?_
        refine r_iln eSc_bears_40 rfl ?_
        refine r_neg eSc_bears_41 ?_
        refine r_vir eSc_bears_42 rfl rfl rfl (cl_t hX (i := 0) rfl) rfl rfl ?_
        refine c_Sc_bearsWind hW (by omega) (fun T J2 P L z w r42 k1 k2 k3 => ?_)
        rw [cl_qe_p hc] at k3
        have hX := k1.1.1
        have hW := k1
        have hc := cl_qe_t hc k2
        have p42 := k3
        have hb42 := a_bd2 (p := 0 ≤ r42)
        show m_wp en _ mSc_bears 45 [some (.ref X), some (.int (m_i ((k : Int))))] [(.int (m_i ((a_b (decide (0 ≤ r42))))))] (T, m_I J2, P, L, z, w) Q
        refine r_zne (tgt := 61) eSc_bears_45 rfl ⟨(by omega), (by omega)⟩ (fun c45 => ?_) (fun c45 => ?_)
        · refine r_inc (ls' := [some (.ref X), some (.int (m_i ((k : Int) + 1)))]) eSc_bears_61 rfl rfl ?_
          refine r_go (tgt := 25) eSc_bears_64 rfl ?_
          exact hgo T J2 P L z w r33 r42 hW hc p33 (by omega) p42 (by omega)
        · refine r_iln eSc_bears_48 rfl ?_
          refine r_zne (tgt := 57) eSc_bears_49 rfl ⟨(by omega), (by omega)⟩ (fun c49 => ?_) (fun c49 => ?_)
          · refine r_iln eSc_bears_57 rfl ?_
            refine r_con eSc_bears_58 ?_
            refine r_sub eSc_bears_59 ?_
            refine r_iret eSc_bears_60 rfl ?_
            first | (have h9 := hfin T J2 P L z w hW hc (Or.inr ⟨r42, p42, by omega⟩); first | (rw [if_pos (by omega)] at h9; exact h9) | (rw [if_neg (by omega)] at h9; exact h9)) | (have h9 := hfin T J2 P L z w hW hc (Or.inl ⟨r33, p33, by omega⟩); first | (rw [if_pos (by omega)] at h9; exact h9) | (rw [if_neg (by omega)] at h9; exact h9))
          · refine r_bip eSc_bears_52 (by decide) ?_
            refine r_go (tgt := 60) eSc_bears_54 rfl ?_
            refine r_iret eSc_bears_60 rfl ?_
            first | (have h9 := hfin T J2 P L z w hW hc (Or.inr ⟨r42, p42, by omega⟩); first | (rw [if_pos (by omega)] at h9; exact h9) | (rw [if_neg (by omega)] at h9; exact h9)) | (have h9 := hfin T J2 P L z w hW hc (Or.inl ⟨r33, p33, by omega⟩); first | (rw [if_pos (by omega)] at h9; exact h9) | (rw [if_neg (by omega)] at h9; exact h9))
theorem c_Sc_bears (h : cl_W en X N zb wb C T J P z w) (h0' : a_why C (po_get J (X + 31)) ≠ 0 → Q (some (.int (m_i (-2)))) (T, m_I J, P, L, z, w)) (hq : a_why C (po_get J (X + 31)) = 0 → ∀ T' J' P' L' z' w' (m : Nat), cl_W en X N zb wb C T' J' P' z' w' → cl_qe X N (tr_E X) T J P L T' J' P' L' → m ≤ 9 → (∀ j, j < m → (∃ r, cl_fh C (a_step (po_get J (X + 31)) 4 (j : Int)) r ∧ 0 ≤ r) ∧ ∃ r, cl_fh C (a_step (po_get J (X + 31)) 4 (-(j : Int))) r ∧ 0 ≤ r) → (m < 9 → (∃ r, cl_fh C (a_step (po_get J (X + 31)) 4 (m : Int)) r ∧ r < 0) ∨ ∃ r, cl_fh C (a_step (po_get J (X + 31)) 4 (-(m : Int))) r ∧ r < 0) → Q (some (.int (m_i (if (m : Int) = 0 then -2 else (m : Int) - 1)))) (T', m_I J', P', L', z', w')) : m_call en (d + 6) mSc_bears [.ref X] (T, m_I J, P, L, z, w) Q := by
  have h0 := h
  obtain ⟨hV, ⟨pok, hmo, ok, h4, hC⟩, h6, h7, h8⟩ := h
  have hX := hV.1
  have hwb := a_why_bd C (po_get J (X + 31))
  have h25 : a_why C (po_get J (X + 31)) = 0 → m_wp en (d + 5) mSc_bears 25 [some (.ref X), some (.int (m_i 0))] [] (T, m_I J, P, L, z, w) Q := fun q => l_Sc_bears (d := d) (hq q) 9 0 T J P L z w (by omega) h0 cl_qe_r (fun j hj => absurd hj (by omega))
  refine m_into (by decide) (Nat.le_of_ble_eq_true rfl) rfl ?_
  show m_wp en _ mSc_bears 0 [some (.ref X), none] [] (T, m_I J, P, L, z, w) Q
  refine r_aln eSc_bears_0 rfl ?_
  refine m_getR eSc_bears_1 rfl (cl_t hX (i := 0) rfl) (cl_p hX (i := 7) rfl) ?_
  refine m_getR eSc_bears_4 rfl (cl_t hX (i := 132) rfl) (cl_p hX (i := 107) rfl) ?_
  refine r_aln eSc_bears_7 rfl ?_
  refine m_getR eSc_bears_8 rfl (cl_t hX (i := 0) rfl) (cl_p hX (i := 2) rfl) ?_
  refine m_getR eSc_bears_11 rfl (cl_t hX (i := 30) rfl) (cl_p hX (i := 38) rfl) ?_
  refine r_vir eSc_bears_14 rfl rfl rfl (cl_t hX (i := 133) rfl) rfl rfl ?_
  refine c_Sp_whyNot (cl_sp hX (Or.inl rfl)) (cl_po hX (k := 31) (by decide)) hC.1 ok (a_bx_sm hmo.2.2.2.2) ?_
  show m_wp en _ mSc_bears 17 [some (.ref X), none] [(.int (m_i ((a_why C (po_get J (X + 31))))))] (T, m_I J, P, L, z, w) Q
  refine r_zeq (tgt := 23) eSc_bears_17 rfl ⟨(by omega), (by omega)⟩ (fun c17 => ?_) (fun c17 => ?_)
  · refine r_con eSc_bears_23 ?_
    refine r_isn (ls' := [some (.ref X), some (.int (m_i (0)))]) eSc_bears_24 (Nat.le_of_ble_eq_true rfl) rfl ?_
    exact h25 (by omega)
  · refine r_bip eSc_bears_20 (by decide) ?_
    refine r_iret eSc_bears_22 rfl ?_
    exact h0' (by omega)
end SCP
