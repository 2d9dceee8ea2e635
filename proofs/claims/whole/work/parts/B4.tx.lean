/-! the class: text -/
def mo_bg (J : Nat → Nat → Int) (A B : Nat) : Nat → Nat → Int := m_up (m_up (m_up (m_fl (po_put J (A + 1) (J B 5, 0, 0, 0, J B 6)) (A + 2) 0 (J (B + 2)) 16) A 2 0) A 3 0) A 4 0
/-- the heap behind a text that was taken, before the ways are made anew -/
def cl_tx (K : Nat → Nat → Int) (X : Nat) : Nat → Nat → Int := m_up (m_up (m_up (m_up (m_up (mo_bg K (X + 30) (X + 17)) (X + 33) 1 0) (X + 33) 2 0) (X + 35) 1 0) (X + 35) 2 0) X 7 0
/-- what was read -/
def cl_rd (en : Nat → Nat) (T : Nat → Option (Nat × Nat)) (J : Nat → Nat → Int) (X : Nat) (n : Int) (J1 : Nat → Nat → Int) (y : a_Q) (l : Int) : Prop := rl_rt X 700 (re_r0 J X n) (re_nt (J (X + 2)) n (0, -1, 0, 0, 0, 0)) 0 J1 y l ∧ re_ok en T J1 X ∧ re_yb n y ∧ (∀ b i, b < X + 3 ∨ X + 16 ≤ b → b ≠ X + 1 → J1 b i = J b i) ∧ (J1 (X + 1) 1 = 0 ∧ J1 (X + 1) 6 = n) ∧ 0 ≤ l ∧ l ≤ 700
section SCTX
variable {en : Nat → Nat} {d : Nat} {T : Nat → Option (Nat × Nat)} {J J' J0 K H : Nat → Nat → Int} {P : Nat → Nat → Option Nat} {L : Nat → Nat → Int64} {z w A B R X N zb wb : Nat} {Q : m_Q} {σ τ : a_S} {C : a_C} {n : Int}
theorem cl_drf (hX : cl_sh en X T P) : pl_sh en (X + 3) T P := by
  refine ⟨cl_e hX 3, hX.2.1 (3, 4, 0) (by decide), fun q hq => ?_⟩
  have h1 : (3, q.1, 3 + q.2.1) ∈ cl_fd ∧ (3 + q.2.1, q.2.2.1, q.2.2.2) ∈ cl_ob := by
    have : ∀ q ∈ pl_tab, (3, q.1, 3 + q.2.1) ∈ cl_fd ∧ (3 + q.2.1, q.2.2.1, q.2.2.2) ∈ cl_ob := by decide
    exact this q hq
  rw [Nat.add_assoc]
  exact ⟨hX.2.2.1 _ h1.1, hX.2.1 _ h1.2⟩
theorem k_Mo_begin (hA : mo_sh en A T P) (hB : pl_sh en B T P) (hAB : A + 3 ≤ B ∨ B + 13 ≤ A) (hq : ∀ K, K = mo_bg J A B → Q none (T, m_I K, P, L, z, w)) : m_call en (d + 2) mMo_begin [.ref A, .ref B] (T, m_I J, P, L, z, w) Q := c_Mo_begin hA hB hAB (hq _ rfl)
theorem k_Lo_clear (hA : lo_sh en A T P) (hq : ∀ K, K = m_up (m_up J A 1 0) A 2 0 → Q none (T, m_I K, P, L, z, w)) : m_call en (d + 1) mLo_clear [.ref A] (T, m_I J, P, L, z, w) Q := c_Lo_clear hA (hq _ rfl)
theorem k_Re_readTape (hX : cl_sh en X T P) (h : re_ok0 en T J X) (hn : 0 ≤ n ∧ n ≤ 700) (hq : ∀ J1 y l K1 rv, cl_rd en T J X n J1 y l → K1 = re_q J1 X y.1 y.2.1 y.2.2.1 y.2.2.2.1 y.2.2.2.2.1 y.2.2.2.2.2 → ((y.1 = 0 ∧ rv = l ∧ 0 ≤ l ∧ l ≤ 700) ∨ (y.1 ≠ 0 ∧ rv = -1)) → Q (some (.int (m_i rv))) (T, m_I K1, P, L, z, w)) : m_call en (d + 7) mRe_readTape [.ref (X + 1), .int (m_i n)] (T, m_I J, P, L, z, w) Q := by
  refine c_Re_readTape hX h hn (fun J1 y l a1 a2 a3 a4 a5 a6 => hq J1 y l _ _ ⟨a1, a2, a3, a4, a5, a6⟩ rfl ?_)
  by_cases q : y.1 = 0
  · rw [if_pos q]; exact Or.inl ⟨q, rfl, a6⟩
  · rw [if_neg q]; exact Or.inr ⟨q, rfl⟩
theorem c_Sc_text (hX : cl_sh en X T P) (ho : re_ok0 en T J X) (hn : m_in n)
    (hmo : (0 ≤ n ∧ n ≤ J (X + 1) 1) → ∀ J1 y l K1 K2, cl_rd en T J X n J1 y l → K1 = re_q J1 X y.1 y.2.1 y.2.2.1 y.2.2.2.1 y.2.2.2.2.1 y.2.2.2.2.2 → y.1 = 0 → pl_cq K1 K2 (X + 17) (X + 3) → pl_ok (cl_tx K2 X) (X + 17) ∧ cl_mo (cl_tx K2 X) X)
    (h0 : ¬ (0 ≤ n ∧ n ≤ J (X + 1) 1) → Q (some (.int (m_i (-2)))) (T, m_I J, P, L, z, w))
    (h1 : (0 ≤ n ∧ n ≤ J (X + 1) 1) → ∀ J1 y l K1, cl_rd en T J X n J1 y l → K1 = re_q J1 X y.1 y.2.1 y.2.2.1 y.2.2.2.1 y.2.2.2.2.1 y.2.2.2.2.2 → y.1 ≠ 0 → Q (some (.int (m_i (-1)))) (T, m_I K1, P, L, z, w))
    (h2 : (0 ≤ n ∧ n ≤ J (X + 1) 1) → ∀ J1 y l K1 K2, cl_rd en T J X n J1 y l → K1 = re_q J1 X y.1 y.2.1 y.2.2.1 y.2.2.2.1 y.2.2.2.2.1 y.2.2.2.2.2 → y.1 = 0 → pl_cq K1 K2 (X + 17) (X + 3) → ∀ J', (∀ b i, ¬ (X + 132 ≤ b ∧ b ≤ X + 135) → J' b i = cl_tx K2 X b i) → sp_is J' (X + 133) (cl_cf (cl_tx K2 X) X) → J' (X + 132) 9 = 0 → J' (X + 132) 10 = 0 → J' (X + 132) 8 = 0 → J' (X + 132) 13 = cl_tx K2 X (X + 132) 13 + 1 → Q (some (.int (m_i l))) (T, m_I J', P, L, z, w)) : m_call en (d + 8) mSc_text [.ref X, .int (m_i n)] (T, m_I J, P, L, z, w) Q := by
  unfold m_in at hn
  have hF := ho.1.1
  refine m_into (by decide) (Nat.le_of_ble_eq_true rfl) rfl ?_
  show m_wp en _ mSc_text 0 [some (.ref X), some (.int (m_i (n))), none] [] (T, m_I J, P, L, z, w) Q
  refine r_iln eSc_text_0 rfl ?_
  refine r_zlt (tgt := 15) eSc_text_1 rfl ⟨(by omega), (by omega)⟩ (fun c1 => ?_) (fun c1 => ?_)
  · refine r_bip eSc_text_15 (by decide) ?_
    refine r_iret eSc_text_17 rfl ?_
    exact h0 (by omega)
  · refine r_iln eSc_text_4 rfl ?_
    refine r_aln eSc_text_5 rfl ?_
    refine m_getR eSc_text_6 rfl (cl_t hX (i := 0) rfl) (cl_p hX (i := 0) rfl) ?_
    refine r_gete (x := J (X + 1) 1) eSc_text_9 rfl (by decide) (cl_t hX (i := 1) rfl) rfl ?_
    refine r_cle (tgt := 18) eSc_text_12 rfl ⟨(by omega), (by omega)⟩ ⟨(by omega), (by omega)⟩ (fun c12 => ?_) (fun c12 => ?_)
    · refine r_aln eSc_text_18 rfl ?_
      refine m_getR eSc_text_19 rfl (cl_t hX (i := 0) rfl) (cl_p hX (i := 0) rfl) ?_
      refine r_iln eSc_text_22 rfl ?_
      refine r_vir eSc_text_23 rfl rfl rfl (cl_t hX (i := 1) rfl) rfl rfl ?_
      refine k_Re_readTape (d := d) hX ho ⟨by omega, by omega⟩ (fun J1 y l K1 rv a1 a2 a3 => ?_)
      show m_wp en _ mSc_text 26 [some (.ref X), some (.int (m_i (n))), none] [(.int (m_i (rv)))] (T, m_I K1, P, L, z, w) Q
      refine r_isn (ls' := [some (.ref X), some (.int (m_i (n))), some (.int (m_i (rv)))]) eSc_text_26 (Nat.le_of_ble_eq_true rfl) rfl ?_
      refine r_iln eSc_text_27 rfl ?_
      refine r_con eSc_text_28 ?_
      refine r_cne (tgt := 34) eSc_text_29 rfl ⟨(by omega), (by omega)⟩ ⟨(by omega), (by omega)⟩ (fun c29 => ?_) (fun c29 => ?_)
      · refine r_aln eSc_text_34 rfl ?_
        refine m_getR eSc_text_35 rfl (cl_t hX (i := 0) rfl) (cl_p hX (i := 1) rfl) ?_
        refine r_aln eSc_text_38 rfl ?_
        refine m_getR eSc_text_39 rfl (cl_t hX (i := 0) rfl) (cl_p hX (i := 0) rfl) ?_
        refine m_getR eSc_text_42 rfl (cl_t hX (i := 1) rfl) (cl_p hX (i := 12) rfl) ?_
        refine r_vir eSc_text_45 rfl rfl rfl (cl_t hX (i := 17) rfl) rfl rfl ?_
        refine c_Pl_set (cl_plan hX) (cl_drf hX) (by omega) (fun K2 a4 => ?_)
        have hl : y.1 = 0 ∧ rv = l ∧ 0 ≤ l ∧ l ≤ 700 := a3.elim id (fun q => absurd q.2 (by omega))
        obtain ⟨hp, hm⟩ := hmo (by omega) J1 y l K1 K2 a1 a2 hl.1 a4
        show m_wp en _ mSc_text 48 [some (.ref X), some (.int (m_i (n))), some (.int (m_i (rv)))] [] (T, m_I K2, P, L, z, w) Q
        refine r_aln eSc_text_48 rfl ?_
        refine m_getR eSc_text_49 rfl (cl_t hX (i := 0) rfl) (cl_p hX (i := 2) rfl) ?_
        refine r_aln eSc_text_52 rfl ?_
        refine m_getR eSc_text_53 rfl (cl_t hX (i := 0) rfl) (cl_p hX (i := 1) rfl) ?_
        refine r_vir eSc_text_56 rfl rfl rfl (cl_t hX (i := 30) rfl) rfl rfl ?_
        refine k_Mo_begin (cl_moment hX) (cl_plan hX) (by omega) (fun K3 e3 => ?_)
        show m_wp en _ mSc_text 59 [some (.ref X), some (.int (m_i (n))), some (.int (m_i (rv)))] [] (T, m_I K3, P, L, z, w) Q
        refine r_aln eSc_text_59 rfl ?_
        refine m_getR eSc_text_60 rfl (cl_t hX (i := 0) rfl) (cl_p hX (i := 3) rfl) ?_
        refine r_vir eSc_text_63 rfl rfl rfl (cl_t hX (i := 33) rfl) rfl rfl ?_
        refine k_Lo_clear (cl_hist hX) (fun K4 e4 => ?_)
        show m_wp en _ mSc_text 66 [some (.ref X), some (.int (m_i (n))), some (.int (m_i (rv)))] [] (T, m_I K4, P, L, z, w) Q
        refine r_aln eSc_text_66 rfl ?_
        refine m_getR eSc_text_67 rfl (cl_t hX (i := 0) rfl) (cl_p hX (i := 4) rfl) ?_
        refine r_vir eSc_text_70 rfl rfl rfl (cl_t hX (i := 35) rfl) rfl rfl ?_
        refine k_Pa_clear hX (fun K5 e5 => ?_)
        show m_wp en _ mSc_text 73 [some (.ref X), some (.int (m_i (n))), some (.int (m_i (rv)))] [] (T, m_I K5, P, L, z, w) Q
        refine r_aln eSc_text_73 rfl ?_
        refine r_con eSc_text_74 ?_
        refine r_puz eSc_text_75 rfl (cl_t hX (i := 0) rfl) (cl_e hX 0) (Or.inl rfl) (by first | exact Or.inl rfl | exact Or.inr rfl | omega) ?_
        refine r_aln eSc_text_78 rfl ?_
        refine m_getR eSc_text_79 rfl (cl_t hX (i := 0) rfl) (cl_p hX (i := 7) rfl) ?_
        refine r_vir eSc_text_82 rfl rfl rfl (cl_t hX (i := 132) rfl) rfl rfl ?_
        have e : ((m_up K5 X 7 (0))) = cl_tx K2 X := (by rw [e5, e4, e3]; rfl)
        rw [e]
        refine c_Wa_changed hX hp hm (fun J6 k1 k2 k3 k4 k5 k6 => ?_)
        show m_wp en _ mSc_text 85 [some (.ref X), some (.int (m_i (n))), some (.int (m_i (rv)))] [] (T, m_I J6, P, L, z, w) Q
        refine r_iln eSc_text_85 rfl ?_
        refine r_iret eSc_text_86 rfl ?_
        rw [hl.2.1]
        exact h2 (by omega) J1 y l K1 K2 a1 a2 hl.1 a4 J6 k1 k2 k3 k4 k5 k6
      · refine r_con eSc_text_32 ?_
        refine r_iret eSc_text_33 rfl ?_
        exact h1 (by omega) J1 y l K1 a1 a2 (a3.elim (fun q => absurd q.2.1 (by omega)) (fun q => q.1))
    · refine r_bip eSc_text_15 (by decide) ?_
      refine r_iret eSc_text_17 rfl ?_
      exact h0 (by omega)
end SCTX
