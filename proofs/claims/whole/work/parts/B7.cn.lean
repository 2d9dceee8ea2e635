/-! the class: a tick by chance -/
section SCCN
variable {en : Nat → Nat} {d : Nat} {T T' T0 : Nat → Option (Nat × Nat)} {J J' J0 K H : Nat → Nat → Int} {P P' P0 : Nat → Nat → Option Nat} {L L' L0 : Nat → Nat → Int64} {z w z' w' A B R X N zb wb : Nat} {Q : m_Q} {σ τ : a_S} {C : a_C} {f : Int}
theorem k_Po_m6 (hX : cl_sh en X T P) {k f : Int} (eσ : po_get J (X + 156) = σ) (hs : a_bx σ) (hk : 0 ≤ k ∧ k < 9) (hf : -1000 ≤ f ∧ f ≤ 1000) (hq : ∀ K, K = po_put J (X + 156) (a_step σ k f) → Q none (T, m_I K, P, L, z, w)) : m_call en (d + 1) mPo_move [.ref (X + 156), .int (m_i k), .int (m_i f)] (T, m_I J, P, L, z, w) Q := by
  subst eσ
  exact c_Po_move (cl_po hX (k := 156) (by decide)) (a_bx_sm hs) hk hf (hq _ rfl)
theorem cl_qe_t6 : cl_qe X N (tr_E X) T J P L T (po_put J (X + 156) τ) P L := cl_qe_J (fun b i _ q => po_put_o (fun e => q (Or.inl e.1)))
theorem c_Sc_chanceTick (h : cl_W en X N zb wb C T J P z w) (eσ : po_get J (X + 164) = σ) (hbx : a_bx σ) (hf : -1 ≤ f ∧ f ≤ 1) (h0 : ∀ T' J' P' L' z' w' k, cl_W en X N zb wb C T' J' P' z' w' → cl_qe X N (tr_E X) T J P L T' J' P' L' → s_stl C (a_no σ) k → (0 ≤ k ∧ k < 9) → a_why C (a_step σ k f) ≠ 0 → po_get J' (X + 164) = σ → Q (some (.int (m_i 0))) (T', m_I J', P', L', z', w')) (h1 : ∀ T' J' P' L' z' w' k, cl_W en X N zb wb C T' J' P' z' w' → cl_qe X N (tr_E X) T J P L T' J' P' L' → s_stl C (a_no σ) k → (0 ≤ k ∧ k < 9) → a_why C (a_step σ k f) = 0 → po_get J' (X + 164) = a_step σ k f → Q (some (.int (m_i 1))) (T', m_I J', P', L', z', w')) : m_call en (d + 6) mSc_chanceTick [.ref X, .int (m_i f)] (T, m_I J, P, L, z, w) Q := by
  have hX := h.1.1
  have hN := h.1.2.1
  have ok := h.2.1.2.2.1
  have hWe : ∀ K, K = po_put J (X + 156) (po_get J (X + 164)) → cl_W en X N zb wb C T K P z w ∧ po_get K (X + 164) = σ ∧ po_get K (X + 156) = σ := fun K e => by
    subst e
    exact ⟨cl_W_po h (by omega), (po_get_e (fun i => po_put_o (by omega))).trans eσ, by rw [po_get_put]; exact eσ⟩
  refine m_into (by decide) (Nat.le_of_ble_eq_true rfl) rfl ?_
  show m_wp en _ mSc_chanceTick 0 [some (.ref X), some (.int (m_i (f)))] [] (T, m_I J, P, L, z, w) Q
  refine r_aln eSc_chanceTick_0 rfl ?_
  refine m_getR eSc_chanceTick_1 rfl (cl_t hX (i := 0) rfl) (cl_p hX (i := 7) rfl) ?_
  refine m_getR eSc_chanceTick_4 rfl (cl_t hX (i := 132) rfl) (cl_p hX (i := 114) rfl) ?_
  refine r_aln eSc_chanceTick_7 rfl ?_
  refine m_getR eSc_chanceTick_8 rfl (cl_t hX (i := 0) rfl) (cl_p hX (i := 10) rfl) ?_
  refine r_vir eSc_chanceTick_11 rfl rfl rfl (cl_t hX (i := 150) rfl) rfl rfl ?_
  refine k_Po_set (cl_po hX (by decide)) (cl_po hX (by decide)) (by omega) (fun K11 e11 => ?_)
  show m_wp en _ mSc_chanceTick 14 [some (.ref X), some (.int (m_i (f)))] [] (T, m_I K11, P, L, z, w) Q
  refine r_aln eSc_chanceTick_14 rfl ?_
  refine m_getR eSc_chanceTick_15 rfl (cl_t hX (i := 0) rfl) (cl_p hX (i := 7) rfl) ?_
  refine m_getR eSc_chanceTick_18 rfl (cl_t hX (i := 132) rfl) (cl_p hX (i := 114) rfl) ?_
  refine r_aln eSc_chanceTick_21 rfl ?_
  refine m_getR eSc_chanceTick_22 rfl (cl_t hX (i := 0) rfl) (cl_p hX (i := 7) rfl) ?_
  refine r_aln eSc_chanceTick_25 rfl ?_
  refine m_getR eSc_chanceTick_26 rfl (cl_t hX (i := 0) rfl) (cl_p hX (i := 10) rfl) ?_
  refine r_vir eSc_chanceTick_29 rfl rfl rfl (cl_t hX (i := 132) rfl) rfl rfl ?_
  refine c_Wa_codeHome (d := d) (hWe _ e11).1 (k := 164) (by decide) (Or.inr rfl) (hWe _ e11).2.1 hbx (fun T J2 P L z w r k1 k2 k3 k4 k5 => ?_)
  have hX := k1.1.1
  have e156 : po_get J2 (X + 156) = σ := (po_get_e (fun i => k2.2.1 _ _ (Or.inr (Or.inl ⟨by omega, by omega⟩)))).trans (hWe _ e11).2.2
  have e164 : po_get J2 (X + 164) = σ := (po_get_e k3).trans (hWe _ e11).2.1
  rw [e11] at k2
  have hwb := a_why_bd C (a_step σ r f)
  show m_wp en _ mSc_chanceTick 32 [some (.ref X), some (.int (m_i (f)))] [(.int (m_i (r))), (.ref (X + 156))] (T, m_I J2, P, L, z, w) Q
  refine r_iln eSc_chanceTick_32 rfl ?_
  refine r_vir eSc_chanceTick_33 rfl rfl rfl (cl_t hX (i := 150) rfl) rfl rfl ?_
  refine k_Po_m6 hX e156 hbx k5 (by omega) (fun K33 e33 => ?_)
  show m_wp en _ mSc_chanceTick 36 [some (.ref X), some (.int (m_i (f)))] [] (T, m_I K33, P, L, z, w) Q
  refine r_aln eSc_chanceTick_36 rfl ?_
  refine m_getR eSc_chanceTick_37 rfl (cl_t hX (i := 0) rfl) (cl_p hX (i := 7) rfl) ?_
  refine m_getR eSc_chanceTick_40 rfl (cl_t hX (i := 132) rfl) (cl_p hX (i := 107) rfl) ?_
  refine r_aln eSc_chanceTick_43 rfl ?_
  refine m_getR eSc_chanceTick_44 rfl (cl_t hX (i := 0) rfl) (cl_p hX (i := 7) rfl) ?_
  refine m_getR eSc_chanceTick_47 rfl (cl_t hX (i := 132) rfl) (cl_p hX (i := 114) rfl) ?_
  refine r_vir eSc_chanceTick_50 rfl rfl rfl (cl_t hX (i := 133) rfl) rfl rfl ?_
  refine c_Sp_whyNot (cl_sp hX (Or.inl rfl)) (cl_po hX (k := 156) (by decide)) (by rw [e33]; exact (sp_po2 (by omega) k1.2.1.2.2.2.2).1) ok (by rw [e33, po_get_put]; exact a_step_sm (a_bx_t hbx) k5 (by omega)) ?_
  rw [show po_get K33 (X + 156) = a_step σ r f from by rw [e33, po_get_put]]
  show m_wp en _ mSc_chanceTick 53 [some (.ref X), some (.int (m_i (f)))] [(.int (m_i ((a_why C (a_step σ r f)))))] (T, m_I K33, P, L, z, w) Q
  refine r_zeq (tgt := 58) eSc_chanceTick_53 rfl ⟨(by omega), (by omega)⟩ (fun c53 => ?_) (fun c53 => ?_)
  · refine r_aln eSc_chanceTick_58 rfl ?_
    refine m_getR eSc_chanceTick_59 rfl (cl_t hX (i := 0) rfl) (cl_p hX (i := 10) rfl) ?_
    refine r_aln eSc_chanceTick_62 rfl ?_
    refine m_getR eSc_chanceTick_63 rfl (cl_t hX (i := 0) rfl) (cl_p hX (i := 7) rfl) ?_
    refine m_getR eSc_chanceTick_66 rfl (cl_t hX (i := 132) rfl) (cl_p hX (i := 114) rfl) ?_
    refine r_vir eSc_chanceTick_69 rfl rfl rfl (cl_t hX (i := 158) rfl) rfl rfl ?_
    refine k_Po_set (cl_po hX (by decide)) (cl_po hX (by decide)) (by omega) (fun K69 e69 => ?_)
    show m_wp en _ mSc_chanceTick 72 [some (.ref X), some (.int (m_i (f)))] [] (T, m_I K69, P, L, z, w) Q
    refine r_con eSc_chanceTick_72 ?_
    refine r_zret eSc_chanceTick_73 rfl (by first | exact Or.inl rfl | exact Or.inr rfl | omega) ?_
    refine h1 T K69 P L z w r (by rw [e69, e33]; exact cl_W_tr (cl_W_po k1 (by omega))) (by rw [e69, e33]; exact cl_qe_t (cl_qe_t (cl_qe_t cl_qe_t6 (cl_qe_q k2)) cl_qe_t6) cl_qe_tr) k4 k5 (by omega) ?_
    rw [e69, po_get_put, e33, po_get_put]
  · refine r_con eSc_chanceTick_56 ?_
    refine r_zret eSc_chanceTick_57 rfl (by first | exact Or.inl rfl | exact Or.inr rfl | omega) ?_
    refine h0 T K33 P L z w r (by rw [e33]; exact cl_W_po k1 (by omega)) (by rw [e33]; exact cl_qe_t (cl_qe_t cl_qe_t6 (cl_qe_q k2)) cl_qe_t6) k4 k5 (by omega) ?_
    rw [e33, ← e164]
    exact po_get_e (fun i => po_put_o (by omega))
end SCCN
