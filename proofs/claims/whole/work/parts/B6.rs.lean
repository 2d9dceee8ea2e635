/-! the class: rests -/
section SCRS
variable {en : Nat → Nat} {d : Nat} {T T' T0 : Nat → Option (Nat × Nat)} {J J' J0 K H : Nat → Nat → Int} {P P' P0 : Nat → Nat → Option Nat} {L L' L0 : Nat → Nat → Int64} {z w z' w' A B R X N zb wb : Nat} {Q : m_Q} {σ τ : a_S} {C : a_C} {q : Int}
theorem k_Po_mv (hX : cl_sh en X T P) {k f : Int} (eσ : po_get J (X + 164) = σ) (hs : a_bx σ) (hk : 0 ≤ k ∧ k < 9) (hf : -1000 ≤ f ∧ f ≤ 1000) (hq : ∀ K, K = po_put J (X + 164) (a_step σ k f) → Q none (T, m_I K, P, L, z, w)) : m_call en (d + 1) mPo_move [.ref (X + 164), .int (m_i k), .int (m_i f)] (T, m_I J, P, L, z, w) Q := by
  subst eσ
  exact c_Po_move (cl_po hX (k := 164) (by decide)) (a_bx_sm hs) hk hf (hq _ rfl)
theorem l_Sc_rests {t : Nat} (ht : t < 100000) (hq : 0 ≤ q ∧ q ≤ 1) {I : Nat → a_S → Prop} (hbx : ∀ j σ, I j σ → a_bx σ) (hI : ∀ j σ k, I j σ → j < t → s_stl C (a_no σ) k → (0 ≤ k ∧ k < 9) → I (j + 1) (a_step σ k 0))
    (hQ : ∀ T' J' P' L' z' w' σ, cl_W en X N zb wb C T' J' P' z' w' → cl_qe X N (tr_E X) T0 J0 P0 L0 T' J' P' L' → I t σ → Q (some (.int (m_i (if q = 0 then σ.1 else σ.2.2.2.2)))) (T', m_I J', P', L', z', w')) :
    ∀ (m j : Nat) (σ : a_S) (T : Nat → Option (Nat × Nat)) (J : Nat → Nat → Int) (P : Nat → Nat → Option Nat) (L : Nat → Nat → Int64) (z w : Nat), j + m = t → cl_W en X N zb wb C T J P z w → cl_qe X N (tr_E X) T0 J0 P0 L0 T J P L → po_get J (X + 164) = σ → I j σ → m_wp en (d + 5) mSc_rests 49 [some (.ref X), some (.int (m_i q)), some (.int (m_i (t : Int))), some (.int (m_i (j : Int)))] [] (T, m_I J, P, L, z, w) Q := by
  intro m
  induction m with
  | zero =>
    intro j σ T J P L z w hj hW hc eσ hi
    obtain rfl : j = t := by omega
    have hX := hW.1.1
    have h9 := hQ T J P L z w σ hW hc hi
    have e0 : σ.1 = J (X + 164) 0 := by rw [← eσ]; rfl
    have e4 : σ.2.2.2.2 = J (X + 164) 4 := by rw [← eσ]; rfl
    rw [e0, e4] at h9
    refine r_iln eSc_rests_49 rfl ?_
    refine r_iln eSc_rests_50 rfl ?_
    refine r_cge (tgt := 79) eSc_rests_51 rfl ⟨(by omega), (by omega)⟩ ⟨(by omega), (by omega)⟩ (fun c51 => ?_) (fun c51 => ?_)
    · refine r_iln eSc_rests_79 rfl ?_
      refine r_zne (tgt := 93) eSc_rests_80 rfl ⟨(by omega), (by omega)⟩ (fun c80 => ?_) (fun c80 => ?_)
      · refine r_aln eSc_rests_93 rfl ?_
        refine m_getR eSc_rests_94 rfl (cl_t hX (i := 0) rfl) (cl_p hX (i := 10) rfl) ?_
        refine r_gete (x := J (X + 164) 4) eSc_rests_97 rfl (by decide) (cl_t hX (i := 158) rfl) rfl ?_
        refine r_iret eSc_rests_100 rfl ?_
        first | (rw [if_pos (by omega)] at h9; exact h9) | (rw [if_neg (by omega)] at h9; exact h9)
      · refine r_aln eSc_rests_83 rfl ?_
        refine m_getR eSc_rests_84 rfl (cl_t hX (i := 0) rfl) (cl_p hX (i := 10) rfl) ?_
        refine r_gete (x := J (X + 164) 0) eSc_rests_87 rfl (by decide) (cl_t hX (i := 158) rfl) rfl ?_
        refine r_go (tgt := 100) eSc_rests_90 rfl ?_
        refine r_iret eSc_rests_100 rfl ?_
        first | (rw [if_pos (by omega)] at h9; exact h9) | (rw [if_neg (by omega)] at h9; exact h9)
    · exfalso; omega
  | succ m ih =>
    intro j σ T J P L z w hj hW hc eσ hi
    have hX := hW.1.1
    have ek : ((j + 1 : Nat) : Int) = (j : Int) + 1 := by omega
    have hnx : ∀ T' J' P' L' z' w' r K, cl_W en X N zb wb C T' J' P' z' w' → cl_q X N T J P L T' J' P' L' → s_stl C (a_no σ) r → (0 ≤ r ∧ r < 9) → K = po_put J' (X + 164) (a_step σ r 0) → m_wp en (d + 5) mSc_rests 49 [some (.ref X), some (.int (m_i q)), some (.int (m_i (t : Int))), some (.int (m_i ((j : Int) + 1)))] [] (T', m_I K, P', L', z', w') Q := fun T' J' P' L' z' w' r K g1 g2 g3 g4 g5 => by
      have := ih (j + 1) (a_step σ r 0) T' K P' L' z' w' (by omega) (by rw [g5]; exact cl_W_tr g1) (by rw [g5]; exact cl_qe_t hc (cl_qe_t (cl_qe_q g2) cl_qe_tr)) (by rw [g5, po_get_put]) (hI j σ r hi (by omega) g3 g4)
      rw [ek] at this
      exact this
    refine r_iln eSc_rests_49 rfl ?_
    refine r_iln eSc_rests_50 rfl ?_
    refine r_cge (tgt := 79) eSc_rests_51 rfl ⟨(by omega), (by omega)⟩ ⟨(by omega), (by omega)⟩ (fun c51 => ?_) (fun c51 => ?_)
    · exfalso; omega
    · refine r_aln eSc_rests_54 rfl ?_
      refine m_getR eSc_rests_55 rfl (cl_t hX (i := 0) rfl) (cl_p hX (i := 10) rfl) ?_
      refine r_aln eSc_rests_58 rfl ?_
      refine m_getR eSc_rests_59 rfl (cl_t hX (i := 0) rfl) (cl_p hX (i := 7) rfl) ?_
      refine r_aln eSc_rests_62 rfl ?_
      refine m_getR eSc_rests_63 rfl (cl_t hX (i := 0) rfl) (cl_p hX (i := 10) rfl) ?_
      refine r_vir eSc_rests_66 rfl rfl rfl (cl_t hX (i := 132) rfl) rfl rfl ?_
      refine c_Wa_codeHome (d := d) hW (k := 164) (by decide) (Or.inr rfl) eσ (hbx j σ hi) (fun T J2 P L z w r k1 k2 k3 k4 k5 => ?_)
      have hX := k1.1.1
      show m_wp en _ mSc_rests 69 [some (.ref X), some (.int (m_i (q))), some (.int (m_i ((t : Int)))), some (.int (m_i ((j : Int))))] [(.int (m_i (r))), (.ref (X + 164))] (T, m_I J2, P, L, z, w) Q
      refine r_con eSc_rests_69 ?_
      refine r_vir eSc_rests_70 rfl rfl rfl (cl_t hX (i := 158) rfl) rfl rfl ?_
      refine k_Po_mv hX ((po_get_e k3).trans eσ) (hbx j σ hi) k5 ⟨by omega, by omega⟩ (fun K9 e9 => ?_)
      have hn := hnx T J2 P L z w r K9 k1 k2 k4 k5 e9
      show m_wp en _ mSc_rests 73 [some (.ref X), some (.int (m_i (q))), some (.int (m_i ((t : Int)))), some (.int (m_i ((j : Int))))] [] (T, m_I K9, P, L, z, w) Q
      refine r_inc (ls' := [some (.ref X), some (.int (m_i (q))), some (.int (m_i ((t : Int)))), some (.int (m_i ((j : Int) + 1)))]) eSc_rests_73 rfl rfl ?_
      refine r_go (tgt := 49) eSc_rests_76 rfl ?_
      exact hn
theorem c_Sc_rests (h : cl_W en X N zb wb C T J P z w) (hq : m_in q) (h0 : ¬ (0 ≤ q ∧ q ≤ 1) → Q (some (.int (m_i (-1)))) (T, m_I J, P, L, z, w)) (h1 : (0 ≤ q ∧ q ≤ 1) → ∀ T' J' P' L' z' w' r, cl_W en X N zb wb C T' J' P' z' w' → cl_q X N T J P L T' J' P' L' → cl_fh C (po_get J (X + 31)) r → r < 0 → Q (some (.int (m_i (-2)))) (T', m_I J', P', L', z', w'))
    (h2 : (0 ≤ q ∧ q ≤ 1) → ∀ t : Nat, cl_fh C (po_get J (X + 31)) (t : Int) → ∃ I : Nat → a_S → Prop, I 0 (po_get J (X + 31)) ∧ (∀ j σ, I j σ → a_bx σ) ∧ (∀ j σ k, I j σ → j < t → s_stl C (a_no σ) k → (0 ≤ k ∧ k < 9) → I (j + 1) (a_step σ k 0)) ∧ ∀ T' J' P' L' z' w' σ, cl_W en X N zb wb C T' J' P' z' w' → cl_qe X N (tr_E X) T J P L T' J' P' L' → I t σ → Q (some (.int (m_i (if q = 0 then σ.1 else σ.2.2.2.2)))) (T', m_I J', P', L', z', w')) : m_call en (d + 6) mSc_rests [.ref X, .int (m_i q)] (T, m_I J, P, L, z, w) Q := by
  have hX := h.1.1
  have hmo := h.2.1.2.1
  unfold m_in at hq
  have hgo : (0 ≤ q ∧ q ≤ 1) → ∀ T' J' P' L' z' w' r, cl_W en X N zb wb C T' J' P' z' w' → cl_q X N T J P L T' J' P' L' → cl_fh C (po_get J (X + 31)) r → (-2 ≤ r ∧ r < 100000) → 0 ≤ r → ∀ K, K = po_put J' (X + 164) (po_get J' (X + 31)) → m_wp en (d + 5) mSc_rests 49 [some (.ref X), some (.int (m_i q)), some (.int (m_i r)), some (.int (m_i 0))] [] (T', m_I K, P', L', z', w') Q := fun g T' J' P' L' z' w' r g1 g2 g3 g4 g5 K g6 => by
    have er : ((r.toNat : Nat) : Int) = r := by omega
    obtain ⟨I, i0, i1, i2, i3⟩ := h2 g r.toNat (by rw [er]; exact g3)
    have e31 : po_get J' (X + 31) = po_get J (X + 31) := po_get_e (fun i => g2.2.1 _ _ (by omega))
    have := l_Sc_rests (d := d) (t := r.toNat) (by omega) g i1 i2 i3 r.toNat 0 (po_get J (X + 31)) T' K P' L' z' w' (by omega) (by rw [g6]; exact cl_W_tr g1) (by rw [g6]; exact cl_qe_t (cl_qe_q g2) cl_qe_tr) (by rw [g6, po_get_put]; exact e31) i0
    rw [er] at this
    exact this
  refine m_into (by decide) (Nat.le_of_ble_eq_true rfl) rfl ?_
  show m_wp en _ mSc_rests 0 [some (.ref X), some (.int (m_i (q))), none, none] [] (T, m_I J, P, L, z, w) Q
  refine r_iln eSc_rests_0 rfl ?_
  refine r_zlt (tgt := 9) eSc_rests_1 rfl ⟨(by omega), (by omega)⟩ (fun c1 => ?_) (fun c1 => ?_)
  · refine r_con eSc_rests_9 ?_
    refine r_iret eSc_rests_10 rfl ?_
    exact h0 (by omega)
  · refine r_iln eSc_rests_4 rfl ?_
    refine r_con eSc_rests_5 ?_
    refine r_cle (tgt := 11) eSc_rests_6 rfl ⟨(by omega), (by omega)⟩ ⟨(by omega), (by omega)⟩ (fun c6 => ?_) (fun c6 => ?_)
    · refine r_aln eSc_rests_11 rfl ?_
      refine m_getR eSc_rests_12 rfl (cl_t hX (i := 0) rfl) (cl_p hX (i := 7) rfl) ?_
      refine r_aln eSc_rests_15 rfl ?_
      refine m_getR eSc_rests_16 rfl (cl_t hX (i := 0) rfl) (cl_p hX (i := 2) rfl) ?_
      refine m_getR eSc_rests_19 rfl (cl_t hX (i := 30) rfl) (cl_p hX (i := 38) rfl) ?_
      refine r_vir eSc_rests_22 rfl rfl rfl (cl_t hX (i := 132) rfl) rfl rfl ?_
      refine m_call_le (by omega) (c_Wa_stepsHome (d := d) h (k := 31) (by decide) (a_bx_sm hmo.2.2.2.2) (fun T J2 P L z w r k1 k2 k3 k4 k5' k6 k7 => ?_))
      have hX := k1.1.1
      have h49 := fun g => hgo g T J2 P L z w r k1 k2 k4 k7
      show m_wp en _ mSc_rests 25 [some (.ref X), some (.int (m_i (q))), none, none] [(.int (m_i (r)))] (T, m_I J2, P, L, z, w) Q
      refine r_isn (ls' := [some (.ref X), some (.int (m_i (q))), some (.int (m_i (r))), none]) eSc_rests_25 (Nat.le_of_ble_eq_true rfl) rfl ?_
      refine r_iln eSc_rests_26 rfl ?_
      refine r_zge (tgt := 33) eSc_rests_27 rfl ⟨(by omega), (by omega)⟩ (fun c27 => ?_) (fun c27 => ?_)
      · refine r_aln eSc_rests_33 rfl ?_
        refine m_getR eSc_rests_34 rfl (cl_t hX (i := 0) rfl) (cl_p hX (i := 10) rfl) ?_
        refine r_aln eSc_rests_37 rfl ?_
        refine m_getR eSc_rests_38 rfl (cl_t hX (i := 0) rfl) (cl_p hX (i := 2) rfl) ?_
        refine m_getR eSc_rests_41 rfl (cl_t hX (i := 30) rfl) (cl_p hX (i := 38) rfl) ?_
        refine r_vir eSc_rests_44 rfl rfl rfl (cl_t hX (i := 158) rfl) rfl rfl ?_
        refine k_Po_set (cl_po hX (by decide)) (cl_po hX (by decide)) (by omega) (fun K1 e1 => ?_)
        show m_wp en _ mSc_rests 47 [some (.ref X), some (.int (m_i (q))), some (.int (m_i (r))), none] [] (T, m_I K1, P, L, z, w) Q
        refine r_con eSc_rests_47 ?_
        refine r_isn (ls' := [some (.ref X), some (.int (m_i (q))), some (.int (m_i (r))), some (.int (m_i (0)))]) eSc_rests_48 (Nat.le_of_ble_eq_true rfl) rfl ?_
        exact h49 (by omega) (by omega) K1 e1
      · refine r_bip eSc_rests_30 (by decide) ?_
        refine r_iret eSc_rests_32 rfl ?_
        exact h1 (by omega) T J2 P L z w r k1 k2 k4 (by omega)
    · refine r_con eSc_rests_9 ?_
      refine r_iret eSc_rests_10 rfl ?_
      exact h0 (by omega)
end SCRS
