/-! the class: home begun, asked -/
def cl_fh (C : a_C) (γ : a_S) (r : Int) : Prop := (a_is C γ = true ∧ b_ans (w_sh C) (g_E C 1 4 511) γ r) ∨ (¬ a_is C γ = true ∧ r = -2)
section HO
variable {en : Nat → Nat} {d : Nat} {T T' T2 T0 : Nat → Option (Nat × Nat)} {J J' J0 J1 J2 J3 K H : Nat → Nat → Int} {P P' P2 P0 : Nat → Nat → Option Nat} {L L' L2 L0 : Nat → Nat → Int64} {z w z' w' z0 w0 A B R U S n X N zb wb o o' A0 R' U' n' : Nat} {Q : m_Q} {σ τ γ π ρ : a_S} {C : a_C} {bw most by_ gl : Int} {Sd : a_S → Prop} {g : g_T} {x e : Int}
/-- a heap but for one cell -/
def m_bt (J J3 : Nat → Nat → Int) (a : Nat) : Nat → Nat → Int := fun b i => if b = a then J b i else J3 b i
theorem cl_W_home (h : cl_W en X N zb wb C T0 J0 P0 z0 w0) (hbn : se_bn en (X + 144) (X + 133) C 1 511 4 (sR P0 (X + 144)) (sU P0 (X + 144)) (sN T0 P0 (X + 144)) T0 J0 P0 L0 z0 w0 R' U' n' T J P L z w) (hI : hm_I C J J3 X R' U' n' C.1 1) :
    cl_W en X N zb wb C T (m_up J3 (X + 132) 10 1) P z w ∧ cl_q X N T0 J0 P0 L0 T (m_up J3 (X + 132) 10 1) P L ∧ ∀ i, m_up J3 (X + 132) 10 1 (X + 164) i = J0 (X + 164) i := by
  have h0 := h
  obtain ⟨hV0, ⟨h1, h2, ok, h4, hC⟩, h6, h7, h8⟩ := h0
  have hszb := a_sz_b ok
  obtain ⟨hV, ⟨eR, eU, eN⟩, hoth, hq⟩ := cl_V_bn hV0 (Or.inr (Or.inl rfl)) (Or.inl rfl) hbn hszb.1
  have hN := hV0.2.1
  have hz := cl_z hV (o := 144) (Or.inr (Or.inl rfl))
  rw [eR, eU] at hz
  obtain ⟨i1, i2, i3, i4⟩ := hI
  obtain ⟨J4, e4⟩ : ∃ J4, J4 = m_bt J J3 (X + 155) := ⟨_, rfl⟩
  have o4 : ∀ b i, b ≠ X + 155 → J4 b i = J3 b i := fun b i q => by rw [e4]; exact if_neg q
  have s1 : se_fr J J4 (X + 144) R' U' := fun b i a1 a2 a3 a4 a5 => by
    by_cases q : b = X + 155
    · rw [e4]; exact if_pos q
    · rw [o4 b i q]; exact i1 b i a1 a2 a3 a4 a5 q
  obtain ⟨fb, fs⟩ := cl_bs hV0 (Or.inr (Or.inl rfl)) (Or.inl rfl) hszb.1 hbn s1
  have hne := se_at_ne hbn.1
  have f5 : ∀ i, i ≠ 2 → i ≠ 3 → J4 (X + 144) i = J (X + 144) i := fun i i2 i3 => s1 _ i (fun e => hne.1 e.symm) (fun e => hne.2.2.2.1 e.symm) (by omega) (by omega) (by omega)
  obtain ⟨b1, b2, -, -, -, -, -, -, b9, b10, b11, b12, b13⟩ := hbn
  have fR : m_up J4 (X + 132) 10 1 R' = J3 R' := funext (fun i => by rw [m_up_o (by omega), o4 _ _ (by omega)])
  have fU : m_up J4 (X + 132) 10 1 U' = J3 U' := funext (fun i => by rw [m_up_o (by omega), o4 _ _ (by omega)])
  have f139 : ∀ i, m_up J4 (X + 132) 10 1 (X + 144) i = J4 (X + 144) i := fun i => m_up_o (by omega)
  have hW4 : cl_W en X N zb wb C T (m_up J4 (X + 132) 10 1) P z w := by
    refine cl_W_g h hV (fun b i q1 q2 => ?_) (cl_ch_e h6 ?_ (fun i => ?_) (cl_sm_up hV0 (Or.inl rfl) (by omega) (fs 139 (Or.inl rfl) (by omega)))) ?_ (cl_cl_e h8 ?_ (fun b i q1 => ?_) (fun i => ?_))
    · rw [m_up_o q2]; exact fb b i (by omega) (by omega)
    · rw [m_up_j (by omega)]; exact fb _ _ (by omega) (by omega)
    · rw [m_up_o (by omega)]; exact fb _ _ (by omega) (by omega)
    · refine Or.inr ⟨m_up_same, b1.2.2.2.1.1, ?_, ?_, ?_, by rw [eN]; exact b2, ?_, (J3 (X + 144) 3).toNat, fun _ => 0, fun _ => 0, ?_⟩
      · rw [f139, f5 5 (by omega) (by omega)]; exact b11
      · rw [f139, f5 6 (by omega) (by omega)]; exact b12
      · rw [f139, f5 7 (by omega) (by omega)]; exact b13
      · rw [f139, o4 _ _ (by omega), i2]; omega
      · have eg : se_g (m_up J4 (X + 132) 10 1) (X + 144) R' U' = se_g J3 (X + 144) R' U' := by unfold se_g; rw [fR, fU, f139, o4 _ _ (by omega)]
        rw [eR, eU, eN, f139, o4 _ _ (by omega), i2, eg]
        exact g_Z_I i3 (fun σ => by rw [← w_hs_W]; exact i4 σ)
    · rw [m_up_j (by omega)]; exact fb _ _ (by omega) (by omega)
    · rw [m_up_o (by omega)]; exact fb _ _ (by omega) (by omega)
    · rw [m_up_o (by omega)]; exact fb _ _ (by omega) (by omega)
  have o5 : ∀ b i, b ≠ X + 155 → m_up J3 (X + 132) 10 1 b i = m_up J4 (X + 132) 10 1 b i := fun b i q => by
    rw [m_up_at, m_up_at, o4 b i q]
  refine ⟨cl_W_z hW4 (fun b i q => o5 b i (by omega)), cl_q_t hq ⟨fun _ _ => rfl, fun b i q1 => ?_, fun _ _ _ => rfl, fun _ _ _ => rfl⟩, fun i => ?_⟩
  · rw [m_up_at, if_neg (by omega), ← o4 b i (by omega), fb b i (by omega) (by omega)]; exact (hq.2.1 b i q1).symm
  · rw [m_up_o (by omega), ← o4 _ i (by omega)]; exact fb _ _ (by omega) (by omega)
theorem c_Wa_toHome (h : cl_W en X N zb wb C T J P z w)
    (hq : ∀ T' J' P' L' z' w', cl_W en X N zb wb C T' J' P' z' w' → cl_q X N T J P L T' J' P' L' → J' (X + 132) 10 = 1 → (∀ i, J' (X + 164) i = J (X + 164) i) → Q (some (.ref (X + 144))) (T', m_I J', P', L', z', w')) :
    m_call en (d + 3) mWa_toHome [.ref (X + 132)] (T, m_I J, P, L, z, w) Q := by
  have h0 := h
  obtain ⟨hV, ⟨h1, h2, ok, h4, hC⟩, h6, h7, h8⟩ := h0
  have hX := hV.1
  have hN := hV.2.1
  have hszb := a_sz_b ok
  obtain ⟨A0, hA0, hS0⟩ := cl_at0 hV (o := 144) (Or.inr (Or.inl rfl))
  have h10 : J (X + 132) 10 = 0 ∨ J (X + 132) 10 = 1 := by
    rcases h7 with q | q
    · exact Or.inl q
    · exact Or.inr q.1
  refine m_into (by decide) (Nat.le_of_ble_eq_true rfl) rfl ?_
  show m_wp en _ mWa_toHome 0 [some (.ref (X + 132)), none, none] [] (T, m_I J, P, L, z, w) Q
  refine r_aln eWa_toHome_0 rfl ?_
  refine r_gete (x := J (X + 132) 10) eWa_toHome_1 rfl (by decide) (cl_t hX (i := 132) rfl) rfl ?_
  refine r_zne (tgt := 86) eWa_toHome_4 rfl ⟨(by omega), (by omega)⟩ (fun c4 => ?_) (fun c4 => ?_)
  · refine r_aln eWa_toHome_86 rfl ?_
    refine m_getR eWa_toHome_87 rfl (cl_t hX (i := 132) rfl) (cl_p hX (i := 110) rfl) ?_
    refine r_aret eWa_toHome_90 rfl ?_
    exact hq T J P L z w h cl_q_r (by omega) (fun _ => rfl)
  · refine r_aln eWa_toHome_7 rfl ?_
    refine m_getR eWa_toHome_8 rfl (cl_t hX (i := 132) rfl) (cl_p hX (i := 110) rfl) ?_
    refine r_aln eWa_toHome_11 rfl ?_
    refine m_getR eWa_toHome_12 rfl (cl_t hX (i := 132) rfl) (cl_p hX (i := 107) rfl) ?_
    refine r_con eWa_toHome_15 ?_
    refine r_sip eWa_toHome_16 (by decide) ?_
    refine r_con eWa_toHome_19 ?_
    refine r_vir eWa_toHome_20 rfl rfl rfl (cl_t hX (i := 142) rfl) rfl rfl ?_
    refine c_Se_begin hS0 (cl_sp hX (Or.inl rfl)) (by omega) ok hC (cl_z hV (Or.inr (Or.inl rfl))).1 (Or.inr rfl) (fun R' U' n' T J2 P L z w hbn => ?_)
    obtain ⟨hV2, ⟨eR, eU, eN⟩, hoth, hq2⟩ := cl_V_bn hV (Or.inr (Or.inl rfl)) (Or.inl rfl) hbn hszb.1
    have hX := hV2.1
    have hz2 := cl_z hV2 (o := 144) (Or.inr (Or.inl rfl))
    rw [eR, eU] at hz2
    have hC2 := se_bn_sp hbn (by omega) hC
    have hN2 := hV2.2.1
    show m_wp en _ mWa_toHome 23 [some (.ref (X + 132)), none, none] [] (T, m_I J2, P, L, z, w) Q
    refine r_con eWa_toHome_23 ?_
    refine r_isn (ls' := [some (.ref (X + 132)), some (.int (m_i (0))), none]) eWa_toHome_24 (Nat.le_of_ble_eq_true rfl) rfl ?_
    refine l25_Wa_toHome hX ok hC2 ⟨by rw [hq2.2.1 _ _ (by omega)]; exact h4.1, by rw [hq2.2.1 _ _ (by omega)]; exact h4.2.1⟩ hbn (by omega) (by omega) (fun J3 o1 o2 hI => ?_) C.1.toNat 0 J2 none (by have := ok.1; omega) ⟨fun _ _ _ _ _ _ _ _ => rfl, hbn.2.2.2.2.2.2.2.2.1, g_Z_0 ok (fun i hi => hbn.2.2.2.2.2.2.2.1 i hi) hbn.2.2.2.2.2.2.2.2.2.1, fun σ => ⟨fun q => absurd q w_hs_0, fun q => by obtain ⟨i, a1, -⟩ := q; have a2 := hbn.2.2.2.2.2.2.2.2.2.1; omega⟩⟩
    obtain ⟨y1, y2, y3⟩ := cl_W_home h hbn hI
    refine r_aln eWa_toHome_81 rfl ?_
    refine r_con eWa_toHome_82 ?_
    refine r_puz eWa_toHome_83 rfl (cl_t hX (i := 132) rfl) (cl_e hX 132) (Or.inl rfl) (Or.inr rfl) ?_
    refine r_aln eWa_toHome_86 rfl ?_
    refine m_getR eWa_toHome_87 rfl (cl_t hX (i := 132) rfl) (cl_p hX (i := 110) rfl) ?_
    refine r_aret eWa_toHome_90 rfl ?_
    exact hq T _ P L z w y1 y2 m_up_same y3
/-- asked from home -/
theorem c_hm (h : cl_W en X N zb wb C T J P z w) (h9 : J (X + 132) 10 = 1) (hgl : gl = a_nb C γ)
    (hq : ∀ J' r, cl_W en X N zb wb C T J' P z w → cl_q X N T J P L T J' P L → J' (X + 132) 10 = 1 → cl_fh C γ r → (a_is C γ = true → r = a_met (J' (sR P (X + 144))) (sN T P (X + 144)) (a_nb C γ)) → (∀ i, J' (X + 164) i = J (X + 164) i) → (-2 ≤ r ∧ r < 100000) → Q (some (.int (m_i r))) (T, m_I J', P, L, z, w)) :
    m_call en (d + 3) mSe_stepsTo [.ref (X + 144), .int (m_i gl)] (T, m_I J, P, L, z, w) Q := by
  have h0 := h
  obtain ⟨hV, ⟨h1, h2, ok, h4, hC⟩, h6, h7, h8⟩ := h0
  have hN := hV.2.1
  have hg : cl_g T J P X 144 (X + 133) C 1 511 4 (w_sh C) := by
    rcases h7 with q | q
    · omega
    · exact q.2
  obtain ⟨g4, g5, g6, g7, gsz, g2, s, par, cod, gI⟩ := hg
  have hS := cl_at hV (Or.inr (Or.inl rfl)) (Or.inl rfl) g4
  by_cases q : a_is C γ = true
  · have hnb := a_nb_b ok q
    refine c_Se_stepsTo hS ok hC g5 (Or.inr rfl) g6 (by omega) g7 (by omega) gsz gI g2 (γ := γ) (Or.inr ⟨q, hgl⟩) (fun e => by omega) (fun J' par' cod' r a1 a2 a3 a4 a5 a6 a7 => ?_)
    have fb := cl_fr_b hV (Or.inr (Or.inl rfl)) a3
    have e9 : J' (X + 132) 10 = J (X + 132) 10 := fb _ _ (by omega) (by omega)
    refine hq J' r (cl_W_g h hV (fun b i q1 q2 => fb b i (by omega) (by omega)) (cl_ch_e h6 (fb _ _ (by omega) (by omega)) (fun i => fb _ _ (by omega) (by omega)) (cl_sm_fr hV (Or.inr (Or.inl rfl)) (Or.inl rfl) (by omega) a3)) ?_ (cl_cl_e h8 (fb _ _ (by omega) (by omega)) (fun b i q1 => fb b i (by omega) (by omega)) (fun i => fb _ i (by omega) (by omega)))) (cl_q_fr hV (Or.inr (Or.inl rfl)) a3) (by rw [e9]; exact h9) (Or.inl ⟨q, a6⟩) (fun _ => by rw [← hgl]; exact a7) (fun i => fb _ i (by omega) (by omega)) (by rw [a7, hgl]; exact g_met_b a4.1 hS.2.2.2.2.2.2.1 gsz ok q)
    have hne := se_at_ne hS
    have f5 : ∀ i, i ≠ 2 → i ≠ 3 → J' (X + 144) i = J (X + 144) i := fun i i2 i3 => a3 _ i (fun e => hne.1 e.symm) (fun e => hne.2.2.2.1 e.symm) (by omega) (by omega) (by omega)
    exact Or.inr ⟨by rw [e9]; exact h9, g4, (f5 5 (by omega) (by omega)).trans g5, (f5 6 (by omega) (by omega)).trans g6, (f5 7 (by omega) (by omega)).trans g7, gsz, a5, s, par', cod', a4⟩
  · have e1 : gl = -1 := by rw [hgl]; unfold a_nb; rw [if_neg q]
    refine c_Se_stepsTo hS ok hC g5 (Or.inr rfl) g6 (by omega) g7 (by omega) gsz gI g2 (γ := γ) (Or.inl e1) (fun _ => ?_) (fun J' par' cod' r a1 => absurd a1 q)
    exact hq J (-2) h cl_q_r h9 (Or.inr ⟨q, rfl⟩) (fun e => absurd e q) (fun _ => rfl) (by omega)
theorem c_Wa_stepsHome (h : cl_W en X N zb wb C T J P z w) {k : Nat} (hB : (k, 5, 0) ∈ cl_ob) (hsm : a_sm (po_get J (X + k)))
    (hq : ∀ T' J' P' L' z' w' r, cl_W en X N zb wb C T' J' P' z' w' → cl_q X N T J P L T' J' P' L' → J' (X + 132) 10 = 1 → cl_fh C (po_get J (X + k)) r → (a_is C (po_get J (X + k)) = true → r = a_met (J' (sR P' (X + 144))) (sN T' P' (X + 144)) (a_nb C (po_get J (X + k)))) → (∀ i, J' (X + 164) i = J (X + 164) i) → (-2 ≤ r ∧ r < 100000) → Q (some (.int (m_i r))) (T', m_I J', P', L', z', w')) :
    m_call en (d + 4) mWa_stepsHome [.ref (X + 132), .ref (X + k)] (T, m_I J, P, L, z, w) Q := by
  have h0 := h
  obtain ⟨hV, ⟨h1, h2, ok, h4, hC⟩, h6, h7, h8⟩ := h0
  have hX := hV.1
  refine m_into (by decide) (Nat.le_of_ble_eq_true rfl) rfl ?_
  show m_wp en _ mWa_stepsHome 0 [some (.ref (X + 132)), some (.ref (X + k)), none] [] (T, m_I J, P, L, z, w) Q
  refine r_aln eWa_stepsHome_0 rfl ?_
  refine m_getR eWa_stepsHome_1 rfl (cl_t hX (i := 132) rfl) (cl_p hX (i := 107) rfl) ?_
  refine r_aln eWa_stepsHome_4 rfl ?_
  refine r_vir eWa_stepsHome_5 rfl rfl rfl (cl_t hX (i := 133) rfl) rfl rfl ?_
  refine c_Sp_numberOf (cl_sp hX (Or.inl rfl)) (cl_po hX hB) hC ok hsm ?_
  show m_wp en _ mWa_stepsHome 8 [some (.ref (X + 132)), some (.ref (X + k)), none] [(.int (m_i ((a_nb C (po_get J (X + k))))))] (T, m_I J, P, L, z, w) Q
  refine r_isn (ls' := [some (.ref (X + 132)), some (.ref (X + k)), some (.int (m_i ((a_nb C (po_get J (X + k))))))]) eWa_stepsHome_8 (Nat.le_of_ble_eq_true rfl) rfl ?_
  refine r_aln eWa_stepsHome_9 rfl ?_
  refine r_vir eWa_stepsHome_10 rfl rfl rfl (cl_t hX (i := 132) rfl) rfl rfl ?_
  refine c_Wa_toHome h (fun T J2 P L z w k1 k2 k3 k4 => ?_)
  have hX := k1.1.1
  show m_wp en _ mWa_stepsHome 13 [some (.ref (X + 132)), some (.ref (X + k)), some (.int (m_i ((a_nb C (po_get J (X + k))))))] [(.ref (X + 144))] (T, m_I J2, P, L, z, w) Q
  refine r_iln eWa_stepsHome_13 rfl ?_
  refine r_vir eWa_stepsHome_14 rfl rfl rfl (cl_t hX (i := 142) rfl) rfl rfl ?_
  refine c_hm k1 k3 (γ := po_get J (X + k)) rfl (fun J3 r m1 m2 m3 m4 m5 m6 m7 => ?_)
  show m_wp en _ mWa_stepsHome 17 [some (.ref (X + 132)), some (.ref (X + k)), some (.int (m_i ((a_nb C (po_get J (X + k))))))] [(.int (m_i (r)))] (T, m_I J3, P, L, z, w) Q
  refine r_iret eWa_stepsHome_17 rfl ?_
  exact hq T J3 P L z w r m1 (cl_q_t k2 m2) m3 m4 m5 (fun i => (m6 i).trans (k4 i)) m7
end HO
