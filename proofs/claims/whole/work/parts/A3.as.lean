/-! the class: searches aside -/
def cl_fx (C : a_C) (by_ most : Int) (ρ γ : a_S) (r : Int) : Prop := (a_is C γ = true ∧ b_ans (w_sd C ρ) (g_E C 0 most by_) γ r) ∨ (¬ a_is C γ = true ∧ r = -2)
section ASD
variable {en : Nat → Nat} {d : Nat} {T T' T2 T0 : Nat → Option (Nat × Nat)} {J J' J0 J1 J2 J3 K H : Nat → Nat → Int} {P P' P2 P0 : Nat → Nat → Option Nat} {L L' L2 L0 : Nat → Nat → Int64} {z w z' w' z0 w0 A B R U S n X N zb wb o o' A0 R' U' n' : Nat} {Q : m_Q} {σ τ γ π ρ : a_S} {C C2 : a_C} {bw most by_ gl : Int} {Sd : a_S → Prop} {g : g_T} {x e st : Int}
theorem cl_o149 : cl_o 149 := Or.inr (Or.inr rfl)
/-- the world behind a search aside that was begun and seeded -/
theorem cl_W_as (h : cl_W en X N zb wb C T0 J0 P0 z0 w0) (hA : A = X + 133 ∨ A = X + 136) (ok2 : a_ok C2) (hbn : se_bn en (X + 149) A C2 0 by_ most (sR P0 (X + 149)) (sU P0 (X + 149)) (sN T0 P0 (X + 149)) T0 J0 P0 L0 z0 w0 R' U' n' T J P L z w) (s1 : se_fr J J3 (X + 149) R' U') (s2 : J3 (X + 149) 2 = 0) (s3 : g_Z C2 n' (se_g J3 (X + 149) R' U')) (s4 : ∀ x, w_sd C2 ρ x ↔ ∃ i, i < (J3 (X + 149) 3).toNat ∧ g_q (se_g J3 (X + 149) R' U') i = x) :
    cl_W en X N zb wb C T J3 P z w ∧ cl_g T J3 P X 149 A C2 0 by_ most (w_sd C2 ρ) ∧ cl_q X N T0 J0 P0 L0 T J3 P L ∧ (∀ b i, b < N → ¬ (X + 149 ≤ b ∧ b < X + 149 + 5) → J3 b i = J0 b i) ∧ g_Z C2 (sN T P (X + 149)) (se_g J3 (X + 149) (sR P (X + 149)) (sU P (X + 149))) := by
  have h0 := h
  obtain ⟨hV0, ⟨h1, h2, ok, h4, hC⟩, h6, h7, h8⟩ := h0
  have hszb := a_sz_b ok2
  obtain ⟨hV, ⟨eR, eU, eN⟩, hoth, hq⟩ := cl_V_bn hV0 cl_o149 hA hbn hszb.1
  obtain ⟨fb, fs⟩ := cl_bs hV0 cl_o149 hA hszb.1 hbn s1
  have hN := hV0.2.1
  have hne := se_at_ne hbn.1
  have f5 : ∀ i, i ≠ 2 → i ≠ 3 → J3 (X + 149) i = J (X + 149) i := fun i i2 i3 => s1 _ i (fun e => hne.1 e.symm) (fun e => hne.2.2.2.1 e.symm) (by omega) (by omega) (by omega)
  obtain ⟨b1, b2, -, -, -, -, -, -, b9, b10, b11, b12, b13⟩ := hbn
  refine ⟨cl_W_e h hV (fun b i q => fb b i (by omega) (by omega)) (fun i => fb _ i (by omega) (by omega)) (fs 139 (Or.inl rfl) (by omega)) (fs 144 (Or.inr (Or.inl rfl)) (by omega)), ⟨b1.2.2.2.1.1, (f5 5 (by omega) (by omega)).trans b11, (f5 6 (by omega) (by omega)).trans b12, (f5 7 (by omega) (by omega)).trans b13, by rw [eN]; exact b2, by omega, (J3 (X + 149) 3).toNat, fun _ => 0, fun _ => 0, ?_⟩, ⟨hq.1, fun b i q => fb b i (by omega) (by omega), hq.2.2.1, hq.2.2.2⟩, fb, by rw [eR, eU, eN]; exact s3⟩
  rw [eR, eU, eN, s2]
  exact g_Z_I s3 s4
/-- asked aside -/
theorem c_as (h : cl_W en X N zb wb C T J P z w) (hA : A = X + 133 ∨ A = X + 136) (ok2 : a_ok C2) (hC2 : sp_is J A C2) (hby : 0 ≤ by_ ∧ by_ < 1000) (hmo : 0 ≤ most ∧ most ≤ 100) (hg : cl_g T J P X 149 A C2 0 by_ most (w_sd C2 ρ)) (hgl : gl = a_nb C2 γ)
    (hq : ∀ J' r, cl_W en X N zb wb C T J' P z w → cl_q X N T J P L T J' P L → cl_g T J' P X 149 A C2 0 by_ most (w_sd C2 ρ) → cl_fx C2 by_ most ρ γ r → (-2 ≤ r ∧ r < 100000) → (∀ b i, b < N → ¬ (X + 149 ≤ b ∧ b < X + 149 + 5) → J' b i = J b i) → Q (some (.int (m_i r))) (T, m_I J', P, L, z, w)) :
    m_call en (d + 3) mSe_stepsTo [.ref (X + 149), .int (m_i gl)] (T, m_I J, P, L, z, w) Q := by
  have h0 := h
  obtain ⟨hV, ⟨h1, h2, ok, h4, hC⟩, h6, h7, h8⟩ := h0
  have hN := hV.2.1
  have hg0 := hg
  obtain ⟨g4, g5, g6, g7, gsz, g2, s, par, cod, gI⟩ := hg
  have hS := cl_at hV cl_o149 hA g4
  by_cases q : a_is C2 γ = true
  · have hnb := a_nb_b ok2 q
    refine c_Se_stepsTo hS ok2 hC2 g5 (Or.inl rfl) g6 hby g7 hmo gsz gI g2 (γ := γ) (Or.inr ⟨q, hgl⟩) (fun e => by omega) (fun J' par' cod' r a1 a2 a3 a4 a5 a6 a7 => ?_)
    have fb := cl_fr_b hV cl_o149 a3
    have hne := se_at_ne hS
    have f5 : ∀ i, i ≠ 2 → i ≠ 3 → J' (X + 149) i = J (X + 149) i := fun i i2 i3 => a3 _ i (fun e => hne.1 e.symm) (fun e => hne.2.2.2.1 e.symm) (by omega) (by omega) (by omega)
    exact hq J' r (cl_W_e h hV (fun b i q => fb b i (by omega) (by omega)) (fun i => fb _ i (by omega) (by omega)) (cl_sm_fr hV cl_o149 (Or.inl rfl) (by omega) a3) (cl_sm_fr hV cl_o149 (Or.inr (Or.inl rfl)) (by omega) a3)) (cl_q_fr hV cl_o149 a3) ⟨g4, (f5 5 (by omega) (by omega)).trans g5, (f5 6 (by omega) (by omega)).trans g6, (f5 7 (by omega) (by omega)).trans g7, gsz, a5, s, par', cod', a4⟩ (Or.inl ⟨q, a6⟩) (by rw [a7, hgl]; exact g_met_b a4.1 hS.2.2.2.2.2.2.1 gsz ok2 q) fb
  · have e1 : gl = -1 := by rw [hgl]; unfold a_nb; rw [if_neg q]
    refine c_Se_stepsTo hS ok2 hC2 g5 (Or.inl rfl) g6 hby g7 hmo gsz gI g2 (γ := γ) (Or.inl e1) (fun _ => ?_) (fun J' par' cod' r a1 => absurd a1 q)
    exact hq J (-2) h cl_q_r hg0 (Or.inr ⟨q, rfl⟩) (by omega) (fun _ _ _ _ => rfl)
theorem cl_g_po (hV : cl_V en X N zb wb T P z w) (ho : cl_o o) {k : Nat} (hk : 154 ≤ k ∧ k < 165) (hg : cl_g T J P X o A C bw by_ most Sd) : cl_g T (po_put J (X + k) τ) P X o A C bw by_ most Sd := cl_g_sm (cl_sm_z hV ho (fun b i q => po_put_o (by omega))) hg
theorem sp_po {k : Nat} (hA : A = X + 133 ∨ A = X + 136) (hk : 139 ≤ k) (hC : sp_is J A C) : sp_is (po_put J (X + k) τ) A C := sp_is_e hC (fun i => po_put_o (by omega)) (fun i => po_put_o (by omega)) (fun i => po_put_o (by omega))
theorem c_Wa_stepsBySome (h : cl_W en X N zb wb C T J P z w) {s : Int} (hs : 0 ≤ s ∧ s < J (X + 29) 5) (hby : 0 ≤ by_ ∧ by_ < 1000) (hmo : 0 ≤ most ∧ most ≤ 100)
    (hq : ∀ T' J' P' L' z' w' r, cl_W en X N zb wb C T' J' P' z' w' → cl_q X N T J P L T' J' P' L' → cl_fx C by_ most (po_get J (X + 31)) (cl_spt J X s.toNat) r → (-2 ≤ r ∧ r < 100000) → Q (some (.int (m_i r))) (T', m_I J', P', L', z', w')) :
    m_call en (d + 4) mWa_stepsBySome [.ref (X + 132), .int (m_i s), .int (m_i by_), .int (m_i most)] (T, m_I J, P, L, z, w) Q := by
  have h0 := h
  obtain ⟨hV, ⟨h1, h2, ok, h4, hC⟩, h6, h7, h8⟩ := h0
  have hX := hV.1
  have hN := hV.2.1
  have hbx := h2.2.2.2.2
  have hszb := a_sz_b ok
  have k5 : 0 ≤ J (X + 29) 5 ∧ J (X + 29) 5 ≤ 6 := h1.2.2.2.2.1
  obtain ⟨A0, hA0, hS0⟩ := cl_at0 hV (o := 149) cl_o149
  refine m_into (by decide) (Nat.le_of_ble_eq_true rfl) rfl ?_
  show m_wp en _ mWa_stepsBySome 0 [some (.ref (X + 132)), some (.int (m_i (s))), some (.int (m_i (by_))), some (.int (m_i (most)))] [] (T, m_I J, P, L, z, w) Q
  refine r_aln eWa_stepsBySome_0 rfl ?_
  refine m_getR eWa_stepsBySome_1 rfl (cl_t hX (i := 132) rfl) (cl_p hX (i := 111) rfl) ?_
  refine r_aln eWa_stepsBySome_4 rfl ?_
  refine m_getR eWa_stepsBySome_5 rfl (cl_t hX (i := 132) rfl) (cl_p hX (i := 107) rfl) ?_
  refine r_con eWa_stepsBySome_8 ?_
  refine r_iln eWa_stepsBySome_9 rfl ?_
  refine r_iln eWa_stepsBySome_10 rfl ?_
  refine r_vir eWa_stepsBySome_11 rfl rfl rfl (cl_t hX (i := 145) rfl) rfl rfl ?_
  refine c_Se_begin hS0 (cl_sp hX (Or.inl rfl)) (by omega) ok hC (cl_z hV cl_o149).1 (Or.inl rfl) (fun R' U' n' T J2 P L z w hbn => ?_)
  obtain ⟨hV2, ⟨eR, eU, eN⟩, hoth, hq2⟩ := cl_V_bn hV cl_o149 (Or.inl rfl) hbn hszb.1
  have hX := hV2.1
  have hz2 := cl_z hV2 (o := 149) cl_o149
  rw [eR, eU] at hz2
  have hC2 := se_bn_sp hbn (by omega) hC
  have e31 : ∀ i, J2 (X + 31) i = J (X + 31) i := fun i => hq2.2.1 _ i (by omega)
  have hN2 := hV2.2.1
  show m_wp en _ mWa_stepsBySome 14 [some (.ref (X + 132)), some (.int (m_i (s))), some (.int (m_i (by_))), some (.int (m_i (most)))] [] (T, m_I J2, P, L, z, w) Q
  refine r_aln eWa_stepsBySome_14 rfl ?_
  refine m_getR eWa_stepsBySome_15 rfl (cl_t hX (i := 132) rfl) (cl_p hX (i := 111) rfl) ?_
  refine r_aln eWa_stepsBySome_18 rfl ?_
  refine m_getR eWa_stepsBySome_19 rfl (cl_t hX (i := 132) rfl) (cl_p hX (i := 106) rfl) ?_
  refine m_getR eWa_stepsBySome_22 rfl (cl_t hX (i := 30) rfl) (cl_p hX (i := 38) rfl) ?_
  refine r_vir eWa_stepsBySome_25 rfl rfl rfl (cl_t hX (i := 145) rfl) rfl rfl ?_
  refine c_Se_seed1 hbn ok hC2 (cl_po hX (k := 31) (by decide)) (by rw [po_get_e e31]; exact a_bx_sm hbx) (by omega) (by omega) (by omega) (fun J3 s1 s2 s3 s4 => ?_)
  rw [po_get_e e31] at s4
  obtain ⟨w1, w2, w3, w4, -⟩ := cl_W_as h (Or.inl rfl) ok hbn s1 s2 s3 s4
  have e29 : J3 (X + 29) 5 = J (X + 29) 5 := w3.2.1 _ _ (by omega)
  show m_wp en _ mWa_stepsBySome 28 [some (.ref (X + 132)), some (.int (m_i (s))), some (.int (m_i (by_))), some (.int (m_i (most)))] [] (T, m_I J3, P, L, z, w) Q
  refine r_aln eWa_stepsBySome_28 rfl ?_
  refine m_getR eWa_stepsBySome_29 rfl (cl_t hX (i := 132) rfl) (cl_p hX (i := 111) rfl) ?_
  refine r_aln eWa_stepsBySome_32 rfl ?_
  refine r_aln eWa_stepsBySome_33 rfl ?_
  refine m_getR eWa_stepsBySome_34 rfl (cl_t hX (i := 132) rfl) (cl_p hX (i := 107) rfl) ?_
  refine r_iln eWa_stepsBySome_37 rfl ?_
  refine r_vir eWa_stepsBySome_38 rfl rfl rfl (cl_t hX (i := 132) rfl) rfl rfl ?_
  refine c_Wa_spotNumber hX (Or.inl rfl) ok w1.2.1.2.2.2.2 w1.2.1.1 ⟨by omega, by omega⟩ (fun q9 => by omega) (fun q9 => ?_)
  rw [cl_spt_e (fun b i q => w3.2.1 b i (by omega))]
  show m_wp en _ mWa_stepsBySome 41 [some (.ref (X + 132)), some (.int (m_i (s))), some (.int (m_i (by_))), some (.int (m_i (most)))] [(.int (m_i ((a_nb C (cl_spt J X s.toNat))))), (.ref (X + 149))] (T, m_I (((po_put J3 (X + 155) (cl_spt J X s.toNat)))), P, L, z, w) Q
  refine r_vir eWa_stepsBySome_41 rfl rfl rfl (cl_t hX (i := 145) rfl) rfl rfl ?_
  refine c_as (cl_W_po w1 (by omega)) (Or.inl rfl) ok (sp_po (Or.inl rfl) (by omega) w1.2.1.2.2.2.2) hby hmo (cl_g_po w1.1 cl_o149 (by omega) w2) (γ := cl_spt J X s.toNat) rfl (fun J4 r m1 m2 m3 m4 m5 m6 => ?_)
  show m_wp en _ mWa_stepsBySome 44 [some (.ref (X + 132)), some (.int (m_i (s))), some (.int (m_i (by_))), some (.int (m_i (most)))] [(.int (m_i (r)))] (T, m_I J4, P, L, z, w) Q
  refine r_iret eWa_stepsBySome_44 rfl ?_
  exact hq T J4 P L z w r m1 (cl_q_t (cl_q_t w3 (cl_q_po (by omega))) m2) m4 m5
theorem se_bn_po (hbn : se_bn en (X + 149) A C2 0 by_ most R U n T0 J0 P0 L0 z0 w0 R' U' n' T J P L z w) (hR : R' ≠ X + 155) (hU : U' ≠ X + 155) (hz : X + 155 < z0) (hR2 : ¬ (X + 155 = X + 149)) : se_bn en (X + 149) A C2 0 by_ most R U n T0 (po_put J0 (X + 155) τ) P0 L0 z0 w0 R' U' n' T (po_put J (X + 155) τ) P L z w := by
  obtain ⟨b1, b2, b3, b4, b5, b6, b7, b8, b9, b10, b11, b12, b13⟩ := hbn
  refine ⟨b1, b2, b3, b4, b5, b6, fun b i q1 q2 q3 => ?_, fun i hi => ?_, ?_, ?_, ?_, ?_, ?_⟩
  · by_cases q : b = X + 155 ∧ i < 5
    · obtain ⟨rfl, q⟩ := q
      have : i = 0 ∨ i = 1 ∨ i = 2 ∨ i = 3 ∨ i = 4 := by omega
      rcases this with rfl | rfl | rfl | rfl | rfl
      · rw [po_put_0, po_put_0]
      · rw [po_put_1, po_put_1]
      · rw [po_put_2, po_put_2]
      · rw [po_put_3, po_put_3]
      · rw [po_put_4, po_put_4]
    · rw [po_put_o q, po_put_o q]; exact b7 b i q1 q2 q3
  · rw [po_put_o (fun q => hR q.1)]; exact b8 i hi
  · rw [po_put_o (by omega)]; exact b9
  · rw [po_put_o (by omega)]; exact b10
  · rw [po_put_o (by omega)]; exact b11
  · rw [po_put_o (by omega)]; exact b12
  · rw [po_put_o (by omega)]; exact b13
theorem c_Wa_stepsBehindWind (h : cl_W en X N zb wb C T J P z w) {s f : Int} (hs : 0 ≤ s ∧ s < J (X + 29) 5) (hf : -8 ≤ f ∧ f ≤ 8)
    (hq : ∀ T' J' P' L' z' w' r, cl_W en X N zb wb C T' J' P' z' w' → cl_q X N T J P L T' J' P' L' → cl_fx C 511 4 (a_step (po_get J (X + 31)) 4 f) (cl_spt J X s.toNat) r → (-2 ≤ r ∧ r < 100000) → Q (some (.int (m_i r))) (T', m_I J', P', L', z', w')) :
    m_call en (d + 4) mWa_stepsBehindWind [.ref (X + 132), .int (m_i s), .int (m_i f)] (T, m_I J, P, L, z, w) Q := by
  have h0 := h
  obtain ⟨hV, ⟨h1, h2, ok, h4, hC⟩, h6, h7, h8⟩ := h0
  have hX := hV.1
  have hN := hV.2.1
  have hbx := h2.2.2.2.2
  have hszb := a_sz_b ok
  have hsm : a_sm (a_step (po_get J (X + 31)) 4 f) := a_step_sm (by have := hbx; unfold a_bx at this; unfold a_t; omega) (by omega) (by omega)
  have k5 : 0 ≤ J (X + 29) 5 ∧ J (X + 29) 5 ≤ 6 := h1.2.2.2.2.1
  obtain ⟨A0, hA0, hS0⟩ := cl_at0 hV (o := 149) cl_o149
  refine m_into (by decide) (Nat.le_of_ble_eq_true rfl) rfl ?_
  show m_wp en _ mWa_stepsBehindWind 0 [some (.ref (X + 132)), some (.int (m_i (s))), some (.int (m_i (f)))] [] (T, m_I J, P, L, z, w) Q
  refine r_aln eWa_stepsBehindWind_0 rfl ?_
  refine m_getR eWa_stepsBehindWind_1 rfl (cl_t hX (i := 132) rfl) (cl_p hX (i := 111) rfl) ?_
  refine r_aln eWa_stepsBehindWind_4 rfl ?_
  refine m_getR eWa_stepsBehindWind_5 rfl (cl_t hX (i := 132) rfl) (cl_p hX (i := 107) rfl) ?_
  refine r_con eWa_stepsBehindWind_8 ?_
  refine r_sip eWa_stepsBehindWind_9 (by decide) ?_
  refine r_con eWa_stepsBehindWind_12 ?_
  refine r_vir eWa_stepsBehindWind_13 rfl rfl rfl (cl_t hX (i := 145) rfl) rfl rfl ?_
  refine c_Se_begin hS0 (cl_sp hX (Or.inl rfl)) (by omega) ok hC (cl_z hV cl_o149).1 (Or.inl rfl) (fun R' U' n' T J2 P L z w hbn => ?_)
  obtain ⟨hV2, ⟨eR, eU, eN⟩, hoth, hq2⟩ := cl_V_bn hV cl_o149 (Or.inl rfl) hbn hszb.1
  have hX := hV2.1
  have hz2 := cl_z hV2 (o := 149) cl_o149
  rw [eR, eU] at hz2
  have hC2 := se_bn_sp hbn (by omega) hC
  have e31 : ∀ i, J2 (X + 31) i = J (X + 31) i := fun i => hq2.2.1 _ i (by omega)
  have hN2 := hV2.2.1
  show m_wp en _ mWa_stepsBehindWind 16 [some (.ref (X + 132)), some (.int (m_i (s))), some (.int (m_i (f)))] [] (T, m_I J2, P, L, z, w) Q
  refine r_aln eWa_stepsBehindWind_16 rfl ?_
  refine m_getR eWa_stepsBehindWind_17 rfl (cl_t hX (i := 132) rfl) (cl_p hX (i := 113) rfl) ?_
  refine r_aln eWa_stepsBehindWind_20 rfl ?_
  refine m_getR eWa_stepsBehindWind_21 rfl (cl_t hX (i := 132) rfl) (cl_p hX (i := 106) rfl) ?_
  refine m_getR eWa_stepsBehindWind_24 rfl (cl_t hX (i := 30) rfl) (cl_p hX (i := 38) rfl) ?_
  refine r_vir eWa_stepsBehindWind_27 rfl rfl rfl (cl_t hX (i := 149) rfl) rfl rfl ?_
  refine c_Po_set (cl_po hX (k := 155) (by decide)) (cl_po hX (k := 31) (by decide)) (by omega) ?_
  rw [po_get_e e31]
  show m_wp en _ mWa_stepsBehindWind 30 [some (.ref (X + 132)), some (.int (m_i (s))), some (.int (m_i (f)))] [] (T, m_I (((po_put J2 (X + 155) (po_get J (X + 31))))), P, L, z, w) Q
  refine r_aln eWa_stepsBehindWind_30 rfl ?_
  refine m_getR eWa_stepsBehindWind_31 rfl (cl_t hX (i := 132) rfl) (cl_p hX (i := 113) rfl) ?_
  refine r_con eWa_stepsBehindWind_34 ?_
  refine r_iln eWa_stepsBehindWind_35 rfl ?_
  refine r_vir eWa_stepsBehindWind_36 rfl rfl rfl (cl_t hX (i := 149) rfl) rfl rfl ?_
  refine c_Po_move (cl_po hX (k := 155) (by decide)) (by rw [po_get_put]; exact a_bx_sm hbx) ⟨by omega, by omega⟩ ⟨by omega, by omega⟩ ?_
  rw [po_get_put, po_put_put]
  have hbn2 := se_bn_po (τ := a_step (po_get J (X + 31)) 4 f) hbn (by omega) (by omega) (by omega) (by omega)
  show m_wp en _ mWa_stepsBehindWind 39 [some (.ref (X + 132)), some (.int (m_i (s))), some (.int (m_i (f)))] [] (T, m_I (((po_put J2 (X + 155) (a_step (po_get J (X + 31)) 4 f)))), P, L, z, w) Q
  refine r_aln eWa_stepsBehindWind_39 rfl ?_
  refine m_getR eWa_stepsBehindWind_40 rfl (cl_t hX (i := 132) rfl) (cl_p hX (i := 111) rfl) ?_
  refine r_aln eWa_stepsBehindWind_43 rfl ?_
  refine m_getR eWa_stepsBehindWind_44 rfl (cl_t hX (i := 132) rfl) (cl_p hX (i := 113) rfl) ?_
  refine r_vir eWa_stepsBehindWind_47 rfl rfl rfl (cl_t hX (i := 145) rfl) rfl rfl ?_
  refine c_Se_seed1 hbn2 ok (sp_po (Or.inl rfl) (by omega) hC2) (cl_po hX (k := 155) (by decide)) (by rw [po_get_put]; exact hsm) (by omega) (by omega) (by omega) (fun J3 s1 s2 s3 s4 => ?_)
  rw [po_get_put] at s4
  obtain ⟨w1, w2, w3, w4, -⟩ := cl_W_as (cl_W_po (τ := a_step (po_get J (X + 31)) 4 f) h (by omega)) (Or.inl rfl) ok hbn2 s1 s2 s3 s4
  have w3 := cl_q_t (cl_q_po (τ := a_step (po_get J (X + 31)) 4 f) (by omega)) w3
  have e29 : J3 (X + 29) 5 = J (X + 29) 5 := w3.2.1 _ _ (by omega)
  show m_wp en _ mWa_stepsBehindWind 50 [some (.ref (X + 132)), some (.int (m_i (s))), some (.int (m_i (f)))] [] (T, m_I J3, P, L, z, w) Q
  refine r_aln eWa_stepsBehindWind_50 rfl ?_
  refine m_getR eWa_stepsBehindWind_51 rfl (cl_t hX (i := 132) rfl) (cl_p hX (i := 111) rfl) ?_
  refine r_aln eWa_stepsBehindWind_54 rfl ?_
  refine r_aln eWa_stepsBehindWind_55 rfl ?_
  refine m_getR eWa_stepsBehindWind_56 rfl (cl_t hX (i := 132) rfl) (cl_p hX (i := 107) rfl) ?_
  refine r_iln eWa_stepsBehindWind_59 rfl ?_
  refine r_vir eWa_stepsBehindWind_60 rfl rfl rfl (cl_t hX (i := 132) rfl) rfl rfl ?_
  refine c_Wa_spotNumber hX (Or.inl rfl) ok w1.2.1.2.2.2.2 w1.2.1.1 ⟨by omega, by omega⟩ (fun q9 => by omega) (fun q9 => ?_)
  rw [cl_spt_e (fun b i q => w3.2.1 b i (by omega))]
  show m_wp en _ mWa_stepsBehindWind 63 [some (.ref (X + 132)), some (.int (m_i (s))), some (.int (m_i (f)))] [(.int (m_i ((a_nb C (cl_spt J X s.toNat))))), (.ref (X + 149))] (T, m_I (((po_put J3 (X + 155) (cl_spt J X s.toNat)))), P, L, z, w) Q
  refine r_vir eWa_stepsBehindWind_63 rfl rfl rfl (cl_t hX (i := 145) rfl) rfl rfl ?_
  refine c_as (cl_W_po w1 (by omega)) (Or.inl rfl) ok (sp_po (Or.inl rfl) (by omega) w1.2.1.2.2.2.2) (by omega) (by omega) (cl_g_po w1.1 cl_o149 (by omega) w2) (γ := cl_spt J X s.toNat) rfl (fun J4 r m1 m2 m3 m4 m5 m6 => ?_)
  show m_wp en _ mWa_stepsBehindWind 66 [some (.ref (X + 132)), some (.int (m_i (s))), some (.int (m_i (f)))] [(.int (m_i (r)))] (T, m_I J4, P, L, z, w) Q
  refine r_iret eWa_stepsBehindWind_66 rfl ?_
  exact hq T J4 P L z w r m1 (cl_q_t (cl_q_t w3 (cl_q_po (by omega))) m2) m4 m5
end ASD
