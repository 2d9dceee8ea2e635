/-! the class: supposed steps, pushes -/
section SPD
variable {en : Nat → Nat} {d : Nat} {T T' T2 T0 : Nat → Option (Nat × Nat)} {J J' J0 J1 J2 J3 K H : Nat → Nat → Int} {P P' P2 P0 : Nat → Nat → Option Nat} {L L' L2 L0 : Nat → Nat → Int64} {z w z' w' z0 w0 A B R U S n X N zb wb o o' A0 R' U' n' : Nat} {Q : m_Q} {σ τ γ π ρ : a_S} {C C2 : a_C} {bw most by_ gl : Int} {Sd : a_S → Prop} {g : g_T} {x e st : Int}
/-- only the supposed space changes -/
theorem cl_W_sp (h : cl_W en X N zb wb C T J P z w) (hf : ∀ b i, ¬ (X + 136 ≤ b ∧ b ≤ X + 138) → J' b i = J b i) : cl_W en X N zb wb C T J' P z w := by
  have hN := h.1.2.1
  have sm : ∀ o, cl_o o → cl_sm X o T J P T J' P := fun o ho => by
    obtain ⟨z1, z2, z3⟩ := cl_z h.1 ho
    unfold cl_o at ho
    exact ⟨⟨rfl, rfl, rfl, rfl⟩, fun i => hf _ i (by omega), funext (fun i => hf _ i (by omega)), funext (fun i => hf _ i (by omega))⟩
  exact cl_W_e h h.1 (fun b i q => hf b i (by omega)) (fun i => hf _ i (by omega)) (sm 139 (Or.inl rfl)) (sm 144 (Or.inr (Or.inl rfl)))
theorem kc_Z (h : g_Z C n g) (hS : ∀ σ, Sd σ ↔ ∃ i, i < g.2.2.toNat ∧ g_q g i = σ) : kc_I C n Sd g 0 0 0 0 0 := by
  obtain ⟨hw, hz⟩ := h
  have lv0 : ∀ i, i < g.2.2.toNat → g_lv C g i = 0 := fun i hi => by unfold g_lv; rw [hz i hi]; rfl
  exact ⟨hw, fun i hi => ⟨0, (hS _).mpr ⟨i, hi, rfl⟩, lv0 i hi⟩, fun i hi => ⟨fun q => by omega, fun _ => lv0 i hi⟩, fun i hi => by omega, fun i hi => by omega, fun i hi => by omega, by omega, fun σ h1 _ => by
    obtain ⟨i, hi, e⟩ := (hS σ).mp h1
    exact ⟨i, hi, e, lv0 i hi⟩⟩
theorem c_Wa_supposedSteps (h : cl_W en X N zb wb C T J P z w) (ok2 : a_ok C2) (hC2 : sp_is J (X + 136) C2) {tx te : Int} (hx : -1000 ≤ x ∧ x ≤ 1000) (he : -1000 ≤ e ∧ e ≤ 1000) (htx : -1000 ≤ tx ∧ tx ≤ 1000) (hte : -1000 ≤ te ∧ te ≤ 1000)
    (hq : ∀ T' J' P' L' z' w' r, cl_W en X N zb wb C T' J' P' z' w' → cl_q X N T J P L T' J' P' L' → (∀ b i, X + 156 ≤ b → b < X + 165 → J' b i = J b i) → cl_fx C2 511 4 (x, 0, 0, 0, e) (tx, 0, 0, 0, te) r → (-2 ≤ r ∧ r < 100000) → Q (some (.int (m_i r))) (T', m_I J', P', L', z', w')) :
    m_call en (d + 4) mWa_supposedSteps [.ref (X + 132), .int (m_i x), .int (m_i e), .int (m_i tx), .int (m_i te)] (T, m_I J, P, L, z, w) Q := by
  have h0 := h
  obtain ⟨hV, ⟨h1, h2, ok, h4, hC⟩, h6, h7, h8⟩ := h0
  have hX := hV.1
  have hN := hV.2.1
  have hszb := a_sz_b ok2
  obtain ⟨A0, hA0, hS0⟩ := cl_at0 hV (o := 149) cl_o149
  refine m_into (by decide) (Nat.le_of_ble_eq_true rfl) rfl ?_
  show m_wp en _ mWa_supposedSteps 0 [some (.ref (X + 132)), some (.int (m_i (x))), some (.int (m_i (e))), some (.int (m_i (tx))), some (.int (m_i (te)))] [] (T, m_I J, P, L, z, w) Q
  refine r_aln eWa_supposedSteps_0 rfl ?_
  refine m_getR eWa_supposedSteps_1 rfl (cl_t hX (i := 132) rfl) (cl_p hX (i := 111) rfl) ?_
  refine r_aln eWa_supposedSteps_4 rfl ?_
  refine m_getR eWa_supposedSteps_5 rfl (cl_t hX (i := 132) rfl) (cl_p hX (i := 108) rfl) ?_
  refine r_con eWa_supposedSteps_8 ?_
  refine r_sip eWa_supposedSteps_9 (by decide) ?_
  refine r_con eWa_supposedSteps_12 ?_
  refine r_vir eWa_supposedSteps_13 rfl rfl rfl (cl_t hX (i := 145) rfl) rfl rfl ?_
  refine c_Se_begin hS0 (cl_sp hX (Or.inr rfl)) (by omega) ok2 hC2 (cl_z hV cl_o149).1 (Or.inl rfl) (fun R' U' n' T J2 P L z w hbn => ?_)
  obtain ⟨hV2, ⟨eR, eU, eN⟩, hoth, hq2⟩ := cl_V_bn hV cl_o149 (Or.inr rfl) hbn hszb.1
  have hX := hV2.1
  have hz2 := cl_z hV2 (o := 149) cl_o149
  rw [eR, eU] at hz2
  have hC3 := se_bn_sp hbn (by omega) hC2
  have hN2 := hV2.2.1
  show m_wp en _ mWa_supposedSteps 16 [some (.ref (X + 132)), some (.int (m_i (x))), some (.int (m_i (e))), some (.int (m_i (tx))), some (.int (m_i (te)))] [] (T, m_I J2, P, L, z, w) Q
  refine r_aln eWa_supposedSteps_16 rfl ?_
  refine m_getR eWa_supposedSteps_17 rfl (cl_t hX (i := 132) rfl) (cl_p hX (i := 113) rfl) ?_
  refine r_iln eWa_supposedSteps_20 rfl ?_
  refine r_iln eWa_supposedSteps_21 rfl ?_
  refine r_vir eWa_supposedSteps_22 rfl rfl rfl (cl_t hX (i := 149) rfl) rfl rfl ?_
  refine c_Po_hang (cl_po hX (k := 155) (by decide)) ?_
  have hbn2 := se_bn_po (τ := (x, 0, 0, 0, e)) hbn (by omega) (by omega) (by omega) (by omega)
  show m_wp en _ mWa_supposedSteps 25 [some (.ref (X + 132)), some (.int (m_i (x))), some (.int (m_i (e))), some (.int (m_i (tx))), some (.int (m_i (te)))] [] (T, m_I (((po_put J2 (X + 155) (x, 0, 0, 0, e)))), P, L, z, w) Q
  refine r_aln eWa_supposedSteps_25 rfl ?_
  refine m_getR eWa_supposedSteps_26 rfl (cl_t hX (i := 132) rfl) (cl_p hX (i := 111) rfl) ?_
  refine r_aln eWa_supposedSteps_29 rfl ?_
  refine m_getR eWa_supposedSteps_30 rfl (cl_t hX (i := 132) rfl) (cl_p hX (i := 113) rfl) ?_
  refine r_vir eWa_supposedSteps_33 rfl rfl rfl (cl_t hX (i := 145) rfl) rfl rfl ?_
  refine c_Se_seed1 hbn2 ok2 (sp_po (Or.inr rfl) (by omega) hC3) (cl_po hX (k := 155) (by decide)) (by rw [po_get_put]; exact ⟨by simp only; omega, by simp only; omega, by simp only; omega, by simp only; omega, by simp only; omega⟩) (by omega) (by omega) (by omega) (fun J3 s1 s2 s3 s4 => ?_)
  rw [po_get_put] at s4
  obtain ⟨w1, w2, w3, w4, -⟩ := cl_W_as (cl_W_po (τ := (x, 0, 0, 0, e)) h (by omega)) (Or.inr rfl) ok2 hbn2 s1 s2 s3 s4
  have w3 := cl_q_t (cl_q_po (τ := (x, 0, 0, 0, e)) (by omega)) w3
  have hC4 : sp_is J3 (X + 136) C2 := sp_is_e (sp_po (τ := (x, 0, 0, 0, e)) (k := 155) (Or.inr rfl) (by omega) hC2) (fun i => w4 _ i (by omega) (by omega)) (fun i => w4 _ i (by omega) (by omega)) (fun i => w4 _ i (by omega) (by omega))
  show m_wp en _ mWa_supposedSteps 36 [some (.ref (X + 132)), some (.int (m_i (x))), some (.int (m_i (e))), some (.int (m_i (tx))), some (.int (m_i (te)))] [] (T, m_I J3, P, L, z, w) Q
  refine r_aln eWa_supposedSteps_36 rfl ?_
  refine m_getR eWa_supposedSteps_37 rfl (cl_t hX (i := 132) rfl) (cl_p hX (i := 111) rfl) ?_
  refine r_aln eWa_supposedSteps_40 rfl ?_
  refine r_aln eWa_supposedSteps_41 rfl ?_
  refine m_getR eWa_supposedSteps_42 rfl (cl_t hX (i := 132) rfl) (cl_p hX (i := 108) rfl) ?_
  refine r_iln eWa_supposedSteps_45 rfl ?_
  refine r_il eWa_supposedSteps_46 rfl ?_
  refine r_vir eWa_supposedSteps_48 rfl rfl rfl (cl_t hX (i := 132) rfl) rfl rfl ?_
  refine c_Wa_restNumber hX (Or.inr rfl) ok2 hC4 htx hte ?_
  show m_wp en _ mWa_supposedSteps 51 [some (.ref (X + 132)), some (.int (m_i (x))), some (.int (m_i (e))), some (.int (m_i (tx))), some (.int (m_i (te)))] [(.int (m_i ((a_nb C2 (tx, 0, 0, 0, te))))), (.ref (X + 149))] (T, m_I (((po_put J3 (X + 155) (tx, 0, 0, 0, te)))), P, L, z, w) Q
  refine r_vir eWa_supposedSteps_51 rfl rfl rfl (cl_t hX (i := 145) rfl) rfl rfl ?_
  refine c_as (cl_W_po w1 (by omega)) (Or.inr rfl) ok2 (sp_po (Or.inr rfl) (by omega) hC4) (by omega) (by omega) (cl_g_po w1.1 cl_o149 (by omega) w2) (γ := (tx, 0, 0, 0, te)) rfl (fun J4 r m1 m2 m3 m4 m5 m6 => ?_)
  show m_wp en _ mWa_supposedSteps 54 [some (.ref (X + 132)), some (.int (m_i (x))), some (.int (m_i (e))), some (.int (m_i (tx))), some (.int (m_i (te)))] [(.int (m_i (r)))] (T, m_I J4, P, L, z, w) Q
  refine r_iret eWa_supposedSteps_54 rfl ?_
  exact hq T J4 P L z w r m1 (cl_q_t (cl_q_t w3 (cl_q_po (by omega))) m2) (fun b i q1 q2 => by rw [m6 b i (by omega) (by omega), po_put_o (by omega), w4 b i (by omega) (by omega), po_put_o (by omega)]) m4 m5
theorem c_asc (h : cl_W en X N zb wb C T J P z w) (ok : a_ok C) (hI : kc_I C (sN T P (X + 149)) (w_sd C ρ) (se_g J (X + 149) (sR P (X + 149)) (sU P (X + 149))) 0 0 0 0 0) (hg : cl_g T J P X 149 (X + 133) C 0 511 4 (w_sd C ρ)) (hgl : gl = a_nb C γ)
    (hq : ∀ J' r, cl_W en X N zb wb C T J' P z w → cl_q X N T J P L T J' P L → ((a_is C γ = true ∧ b_kan (w_sd C ρ) (g_E C 0 4 16) (g_E C 0 4 170) (g_E C 0 4 325) γ r) ∨ (¬ a_is C γ = true ∧ r = -2)) → True → Q (some (.int (m_i r))) (T, m_I J', P, L, z, w)) :
    m_call en (d + 5) mSe_costTo [.ref (X + 149), .int (m_i gl)] (T, m_I J, P, L, z, w) Q := by
  have h0 := h
  obtain ⟨hV, ⟨h1, h2, -, h4, hC⟩, h6, h7, h8⟩ := h0
  have hN := hV.2.1
  obtain ⟨g4, g5, g6, g7, gsz, g2, s, par, cod, gI⟩ := hg
  have hS := cl_at hV cl_o149 (Or.inl rfl) g4
  have hSd : ∀ σ, w_sd C ρ σ → a_is C σ = true := fun σ q => by rw [q.2]; exact q.1
  by_cases q : a_is C γ = true
  · have hnb := a_nb_b ok q
    refine c_Se_costTo hS ok hC g5 g7 gsz hSd hI (γ := γ) (Or.inr ⟨q, hgl⟩) (fun e => by omega) (fun J' r a1 a2 a3 a4 => ?_)
    have fb := cl_fr_b hV cl_o149 a3
    exact hq J' r (cl_W_e h hV (fun b i q => fb b i (by omega) (by omega)) (fun i => fb _ i (by omega) (by omega)) (cl_sm_fr hV cl_o149 (Or.inl rfl) (by omega) a3) (cl_sm_fr hV cl_o149 (Or.inr (Or.inl rfl)) (by omega) a3)) (cl_q_fr hV cl_o149 a3) (Or.inl ⟨q, a4⟩) trivial
  · have e1 : gl = -1 := by rw [hgl]; unfold a_nb; rw [if_neg q]
    refine c_Se_costTo hS ok hC g5 g7 gsz hSd hI (γ := γ) (Or.inl e1) (fun _ => ?_) (fun J' r a1 => absurd a1 q)
    exact hq J (-2) h cl_q_r (Or.inr ⟨q, rfl⟩) trivial
theorem c_Wa_pushesTo (h : cl_W en X N zb wb C T J P z w) {s : Int} (hs : 0 ≤ s ∧ s < J (X + 29) 5)
    (hq : ∀ T' J' P' L' z' w' r, cl_W en X N zb wb C T' J' P' z' w' → cl_q X N T J P L T' J' P' L' → ((a_is C (cl_spt J X s.toNat) = true ∧ b_kan (w_sd C (po_get J (X + 31))) (g_E C 0 4 16) (g_E C 0 4 170) (g_E C 0 4 325) (cl_spt J X s.toNat) r) ∨ (¬ a_is C (cl_spt J X s.toNat) = true ∧ r = -2)) → Q (some (.int (m_i r))) (T', m_I J', P', L', z', w')) :
    m_call en (d + 6) mWa_pushesTo [.ref (X + 132), .int (m_i s)] (T, m_I J, P, L, z, w) Q := by
  have h0 := h
  obtain ⟨hV, ⟨h1, h2, ok, h4, hC⟩, h6, h7, h8⟩ := h0
  have hX := hV.1
  have hN := hV.2.1
  have hbx := h2.2.2.2.2
  have hszb := a_sz_b ok
  have k5 : 0 ≤ J (X + 29) 5 ∧ J (X + 29) 5 ≤ 6 := h1.2.2.2.2.1
  obtain ⟨A0, hA0, hS0⟩ := cl_at0 hV (o := 149) cl_o149
  refine m_into (by decide) (Nat.le_of_ble_eq_true rfl) rfl ?_
  show m_wp en _ mWa_pushesTo 0 [some (.ref (X + 132)), some (.int (m_i (s)))] [] (T, m_I J, P, L, z, w) Q
  refine r_aln eWa_pushesTo_0 rfl ?_
  refine m_getR eWa_pushesTo_1 rfl (cl_t hX (i := 132) rfl) (cl_p hX (i := 111) rfl) ?_
  refine r_aln eWa_pushesTo_4 rfl ?_
  refine m_getR eWa_pushesTo_5 rfl (cl_t hX (i := 132) rfl) (cl_p hX (i := 107) rfl) ?_
  refine r_con eWa_pushesTo_8 ?_
  refine r_sip eWa_pushesTo_9 (by decide) ?_
  refine r_con eWa_pushesTo_12 ?_
  refine r_vir eWa_pushesTo_13 rfl rfl rfl (cl_t hX (i := 145) rfl) rfl rfl ?_
  refine c_Se_begin hS0 (cl_sp hX (Or.inl rfl)) (by omega) ok hC (cl_z hV cl_o149).1 (Or.inl rfl) (fun R' U' n' T J2 P L z w hbn => ?_)
  obtain ⟨hV2, ⟨eR, eU, eN⟩, hoth, hq2⟩ := cl_V_bn hV cl_o149 (Or.inl rfl) hbn hszb.1
  have hX := hV2.1
  have hz2 := cl_z hV2 (o := 149) cl_o149
  rw [eR, eU] at hz2
  have hC2 := se_bn_sp hbn (by omega) hC
  have e31 : ∀ i, J2 (X + 31) i = J (X + 31) i := fun i => hq2.2.1 _ i (by omega)
  have hN2 := hV2.2.1
  show m_wp en _ mWa_pushesTo 16 [some (.ref (X + 132)), some (.int (m_i (s)))] [] (T, m_I J2, P, L, z, w) Q
  refine r_aln eWa_pushesTo_16 rfl ?_
  refine m_getR eWa_pushesTo_17 rfl (cl_t hX (i := 132) rfl) (cl_p hX (i := 111) rfl) ?_
  refine r_aln eWa_pushesTo_20 rfl ?_
  refine m_getR eWa_pushesTo_21 rfl (cl_t hX (i := 132) rfl) (cl_p hX (i := 106) rfl) ?_
  refine m_getR eWa_pushesTo_24 rfl (cl_t hX (i := 30) rfl) (cl_p hX (i := 38) rfl) ?_
  refine r_vir eWa_pushesTo_27 rfl rfl rfl (cl_t hX (i := 145) rfl) rfl rfl ?_
  refine c_Se_seed1 hbn ok hC2 (cl_po hX (k := 31) (by decide)) (by rw [po_get_e e31]; exact a_bx_sm hbx) (by omega) (by omega) (by omega) (fun J3 s1 s2 s3 s4 => ?_)
  rw [po_get_e e31] at s4
  obtain ⟨w1, w2, w3, w4, w5⟩ := cl_W_as h (Or.inl rfl) ok hbn s1 s2 s3 s4
  have e29 : J3 (X + 29) 5 = J (X + 29) 5 := w3.2.1 _ _ (by omega)
  show m_wp en _ mWa_pushesTo 30 [some (.ref (X + 132)), some (.int (m_i (s)))] [] (T, m_I J3, P, L, z, w) Q
  refine r_aln eWa_pushesTo_30 rfl ?_
  refine m_getR eWa_pushesTo_31 rfl (cl_t hX (i := 132) rfl) (cl_p hX (i := 111) rfl) ?_
  refine r_aln eWa_pushesTo_34 rfl ?_
  refine r_aln eWa_pushesTo_35 rfl ?_
  refine m_getR eWa_pushesTo_36 rfl (cl_t hX (i := 132) rfl) (cl_p hX (i := 107) rfl) ?_
  refine r_iln eWa_pushesTo_39 rfl ?_
  refine r_vir eWa_pushesTo_40 rfl rfl rfl (cl_t hX (i := 132) rfl) rfl rfl ?_
  refine c_Wa_spotNumber hX (Or.inl rfl) ok w1.2.1.2.2.2.2 w1.2.1.1 ⟨by omega, by omega⟩ (fun q9 => by omega) (fun q9 => ?_)
  rw [cl_spt_e (fun b i q => w3.2.1 b i (by omega))]
  have w6 := cl_W_po (τ := cl_spt J X s.toNat) w1 (k := 155) (by omega)
  have w7 := cl_sm_z (J' := po_put J3 (X + 155) (cl_spt J X s.toNat)) w1.1 cl_o149 (fun b i q => po_put_o (by omega))
  have w8 := cl_g_sm w7 w2
  have w9 : se_g (po_put J3 (X + 155) (cl_spt J X s.toNat)) (X + 149) (sR P (X + 149)) (sU P (X + 149)) = se_g J3 (X + 149) (sR P (X + 149)) (sU P (X + 149)) := by unfold se_g; rw [w7.2.2.1, w7.2.2.2, w7.2.1]
  show m_wp en _ mWa_pushesTo 43 [some (.ref (X + 132)), some (.int (m_i (s)))] [(.int (m_i ((a_nb C (cl_spt J X s.toNat))))), (.ref (X + 149))] (T, m_I (((po_put J3 (X + 155) (cl_spt J X s.toNat)))), P, L, z, w) Q
  refine r_vir eWa_pushesTo_43 rfl rfl rfl (cl_t hX (i := 145) rfl) rfl rfl ?_
  refine c_asc w6 ok (by rw [w9]; exact kc_Z w5 (by rw [eR, eU]; exact s4)) w8 (γ := cl_spt J X s.toNat) rfl (fun J4 r m1 m2 m4 m5 => ?_)
  show m_wp en _ mWa_pushesTo 46 [some (.ref (X + 132)), some (.int (m_i (s)))] [(.int (m_i (r)))] (T, m_I J4, P, L, z, w) Q
  refine r_iret eWa_pushesTo_46 rfl ?_
  exact hq T J4 P L z w r m1 (cl_q_t (cl_q_t w3 (cl_q_po (by omega))) m2) m4
theorem c_Wa_moved (hX : cl_sh en X T P) (hq : Q none (T, m_I (m_up (m_up J (X + 132) 9 0) (X + 132) 13 (J (X + 132) 13 + 1)), P, L, z, w)) : m_call en (d + 1) mWa_moved [.ref (X + 132)] (T, m_I J, P, L, z, w) Q := by
  refine m_into (by decide) (Nat.le_of_ble_eq_true rfl) rfl ?_
  show m_wp en _ mWa_moved 0 [some (.ref (X + 132))] [] (T, m_I J, P, L, z, w) Q
  refine r_aln eWa_moved_0 rfl ?_
  refine r_con eWa_moved_1 ?_
  refine r_puz eWa_moved_2 rfl (cl_t hX (i := 132) rfl) (cl_e hX 132) (Or.inl rfl) (by first | exact Or.inl rfl | exact Or.inr rfl | omega) ?_
  refine r_aln eWa_moved_5 rfl ?_
  refine r_dupr eWa_moved_6 ?_
  refine r_gete (x := J (X + 132) 13) eWa_moved_7 rfl (by decide) (cl_t hX (i := 132) rfl) (by rw [m_up_at, if_neg (by omega)]) ?_
  refine r_con eWa_moved_10 ?_
  refine r_add eWa_moved_11 ?_
  refine r_put eWa_moved_12 rfl (cl_t hX (i := 132) rfl) (cl_e hX 132) (Or.inl rfl) ?_
  refine r_ret eWa_moved_15 rfl ?_
  exact hq
theorem c_Wa_changed (hX : cl_sh en X T P) (pok : pl_ok J (X + 17)) (hm : cl_mo J X) (hq : ∀ J', (∀ b i, ¬ (X + 132 ≤ b ∧ b ≤ X + 135) → J' b i = J b i) → sp_is J' (X + 133) (cl_cf J X) → J' (X + 132) 9 = 0 → J' (X + 132) 10 = 0 → J' (X + 132) 8 = 0 → J' (X + 132) 13 = J (X + 132) 13 + 1 → Q none (T, m_I J', P, L, z, w)) : m_call en (d + 5) mWa_changed [.ref (X + 132)] (T, m_I J, P, L, z, w) Q := by
  have eL : ∀ b i, ¬ (X + 133 ≤ b ∧ b ≤ X + 135) → sp_L J (X + 133) (X + 17) (X + 32) (J (X + 30) 2) b i = J b i := fun b i q => by
    unfold sp_L sp_h sp_c sp_b sp_a
    rw [m_up_o (by omega), m_fl_o (by omega), m_fl_o (by omega), m_up_o (by omega), m_fl_o (by omega), m_up_o (by omega), m_up_o (by omega), m_up_o (by omega), m_up_o (by omega), m_up_o (by omega), m_up_o (by omega), m_up_o (by omega), m_up_o (by omega)]
  have hL := sp_L_is (A := X + 133) (B := X + 17) (R := X + 32) (h := J (X + 30) 2) pok
  have hfin := hq (m_up (m_up (m_up (m_up (sp_L J (X + 133) (X + 17) (X + 32) (J (X + 30) 2)) (X + 132) 9 0) (X + 132) 10 0) (X + 132) 8 0) (X + 132) 13 (J (X + 132) 13 + 1)) (fun b i q => by rw [m_up_o (by omega), m_up_o (by omega), m_up_o (by omega), m_up_o (by omega)]; exact eL b i (by omega)) (sp_is_e hL (fun i => by rw [m_up_o (by omega), m_up_o (by omega), m_up_o (by omega), m_up_o (by omega)]) (fun i => by rw [m_up_o (by omega), m_up_o (by omega), m_up_o (by omega), m_up_o (by omega)]) (fun i => by rw [m_up_o (by omega), m_up_o (by omega), m_up_o (by omega), m_up_o (by omega)])) (by rw [m_up_j (by omega), m_up_j (by omega), m_up_j (by omega), m_up_same]) (by rw [m_up_j (by omega), m_up_j (by omega), m_up_same]) (by rw [m_up_j (by omega), m_up_same]) m_up_same
  have e13 : sp_L J (X + 133) (X + 17) (X + 32) (J (X + 30) 2) (X + 132) 13 = J (X + 132) 13 := eL _ _ (by omega)
  rw [← e13] at hfin
  refine m_into (by decide) (Nat.le_of_ble_eq_true rfl) rfl ?_
  show m_wp en _ mWa_changed 0 [some (.ref (X + 132))] [] (T, m_I J, P, L, z, w) Q
  refine r_aln eWa_changed_0 rfl ?_
  refine m_getR eWa_changed_1 rfl (cl_t hX (i := 132) rfl) (cl_p hX (i := 107) rfl) ?_
  refine r_aln eWa_changed_4 rfl ?_
  refine m_getR eWa_changed_5 rfl (cl_t hX (i := 132) rfl) (cl_p hX (i := 105) rfl) ?_
  refine r_aln eWa_changed_8 rfl ?_
  refine m_getR eWa_changed_9 rfl (cl_t hX (i := 132) rfl) (cl_p hX (i := 106) rfl) ?_
  refine m_getR eWa_changed_12 rfl (cl_t hX (i := 30) rfl) (cl_p hX (i := 39) rfl) ?_
  refine r_aln eWa_changed_15 rfl ?_
  refine m_getR eWa_changed_16 rfl (cl_t hX (i := 132) rfl) (cl_p hX (i := 106) rfl) ?_
  refine r_gete (x := J (X + 30) 2) eWa_changed_19 rfl (by decide) (cl_t hX (i := 30) rfl) rfl ?_
  refine r_vir eWa_changed_22 rfl rfl rfl (cl_t hX (i := 133) rfl) rfl rfl ?_
  refine c_Sp_lay (cl_sp hX (Or.inl rfl)) (cl_plan hX) (cl_t hX (i := 32) rfl) pok (fun i hi => ⟨(hm.1 i hi).1, by have := (hm.1 i hi).2; omega⟩) (by omega) (by omega) hm.2.1 ?_
  show m_wp en _ mWa_changed 25 [some (.ref (X + 132))] [] (T, m_I (((sp_L J (X + 133) (X + 17) (X + 32) (J (X + 30) 2)))), P, L, z, w) Q
  refine r_aln eWa_changed_25 rfl ?_
  refine r_con eWa_changed_26 ?_
  refine r_puz eWa_changed_27 rfl (cl_t hX (i := 132) rfl) (cl_e hX 132) (Or.inl rfl) (by first | exact Or.inl rfl | exact Or.inr rfl | omega) ?_
  refine r_aln eWa_changed_30 rfl ?_
  refine r_con eWa_changed_31 ?_
  refine r_puz eWa_changed_32 rfl (cl_t hX (i := 132) rfl) (cl_e hX 132) (Or.inl rfl) (by first | exact Or.inl rfl | exact Or.inr rfl | omega) ?_
  refine r_aln eWa_changed_35 rfl ?_
  refine r_con eWa_changed_36 ?_
  refine r_put eWa_changed_37 rfl (cl_t hX (i := 132) rfl) (cl_e hX 132) (Or.inl rfl) ?_
  refine r_aln eWa_changed_40 rfl ?_
  refine r_dupr eWa_changed_41 ?_
  refine r_gete (x := ((sp_L J (X + 133) (X + 17) (X + 32) (J (X + 30) 2))) (X + 132) 13) eWa_changed_42 rfl (by decide) (cl_t hX (i := 132) rfl) (by rw [m_up_at, if_neg (by omega), m_up_at, if_neg (by omega), m_up_at, if_neg (by omega)]) ?_
  refine r_con eWa_changed_45 ?_
  refine r_add eWa_changed_46 ?_
  refine r_put eWa_changed_47 rfl (cl_t hX (i := 132) rfl) (cl_e hX 132) (Or.inl rfl) ?_
  refine r_ret eWa_changed_50 rfl ?_
  exact hfin
end SPD
