/-! the class: steps under a pile -/
section UPL
variable {en : Nat → Nat} {d : Nat} {T T' T2 T0 : Nat → Option (Nat × Nat)} {J J' J0 J1 J2 J3 K H : Nat → Nat → Int} {P P' P2 P0 : Nat → Nat → Option Nat} {L L' L2 L0 : Nat → Nat → Int64} {z w z' w' z0 w0 A B R U S n X N zb wb o o' A0 R' U' n' : Nat} {Q : m_Q} {σ τ γ π ρ : a_S} {C C2 : a_C} {bw most by_ gl : Int} {Sd : a_S → Prop} {g : g_T} {x e st : Int}
theorem sp_L_o {h : Int} {b i : Nat} (q : b < A ∨ A + 3 ≤ b) : sp_L J A B R h b i = J b i := by
  unfold sp_L sp_h sp_c sp_b sp_a
  rw [m_up_o (by omega), m_fl_o (by omega), m_fl_o (by omega), m_up_o (by omega), m_fl_o (by omega), m_up_o (by omega), m_up_o (by omega), m_up_o (by omega), m_up_o (by omega), m_up_o (by omega), m_up_o (by omega), m_up_o (by omega), m_up_o (by omega)]
theorem c_Wa_stepsUnderPile (h : cl_W en X N zb wb C T J P z w) {s x : Int} (hs : 0 ≤ s ∧ s < J (X + 29) 5) (hx : 0 ≤ x ∧ x < J (X + 17) 0)
    (hq : ∀ T' J' P' L' z' w' r, cl_W en X N zb wb C T' J' P' z' w' → cl_q X N T J P L T' J' P' L' → cl_fx (pl_cf J (X + 17) (m_up J (X + 32) x.toNat (J (X + 32) x.toNat + 1) (X + 32)) (J (X + 30) 2)) 511 4 (po_get J (X + 31)) (cl_spt J X s.toNat) r → (-2 ≤ r ∧ r < 100000) → Q (some (.int (m_i r))) (T', m_I J', P', L', z', w')) :
    m_call en (d + 5) mWa_stepsUnderPile [.ref (X + 132), .int (m_i x), .int (m_i s)] (T, m_I J, P, L, z, w) Q := by
  have h0 := h
  obtain ⟨hV, ⟨h1, h2, ok, h4, hC⟩, h6, h7, h8⟩ := h0
  have hX := hV.1
  have hN := hV.2.1
  have hbx := h2.2.2.2.2
  have k0 := h1.1
  have k5 : 0 ≤ J (X + 29) 5 ∧ J (X + 29) 5 ≤ 6 := h1.2.2.2.2.1
  have hpx := h2.1 x.toNat (by omega)
  obtain ⟨A0, hA0, hS0⟩ := cl_at0 hV (o := 149) cl_o149
  obtain ⟨J1, eJ1⟩ : ∃ J1, J1 = m_up J (X + 32) x.toNat (J (X + 32) x.toNat + 1) := ⟨_, rfl⟩
  have o1 : ∀ b i, b ≠ X + 32 → J1 b i = J b i := fun b i q => by rw [eJ1]; exact m_up_o q
  have pok1 : pl_ok J1 (X + 17) := pl_ok_e h1 (fun b i _ _ => o1 b i (by omega))
  have hr1 : ∀ i : Nat, i < 16 → 0 ≤ J1 (X + 32) i ∧ J1 (X + 32) i ≤ 1000 := fun i hi => by
    have := h2.1 i hi
    rw [eJ1, m_up_at]
    split <;> omega
  have ec : pl_cf J (X + 17) (J1 (X + 32)) (J (X + 30) 2) = pl_cf J1 (X + 17) (J1 (X + 32)) (J (X + 30) 2) := by
    have f0 : J1 (X + 17) = J (X + 17) := funext (fun i => o1 _ i (by omega))
    have f1 : J1 (X + 17 + 1) = J (X + 17 + 1) := funext (fun i => o1 _ i (by omega))
    unfold pl_cf
    rw [f0]
    congr 5
    funext y
    unfold pl_fr
    rw [f0, f1]
  obtain ⟨C2, eC2⟩ : ∃ C2, C2 = pl_cf J1 (X + 17) (J1 (X + 32)) (J (X + 30) 2) := ⟨_, rfl⟩
  have ok2 : a_ok C2 := by rw [eC2]; exact pl_cf_ok pok1 (fun i hi => (hr1 i hi).1) h2.2.1
  have hszb := a_sz_b ok2
  obtain ⟨J2, eJ2⟩ : ∃ J2, J2 = m_up (sp_L J1 (X + 136) (X + 17) (X + 32) (J (X + 30) 2)) (X + 32) x.toNat (J (X + 32) x.toNat + 1 - 1) := ⟨_, rfl⟩
  have fr2 : ∀ b i, ¬ (X + 136 ≤ b ∧ b ≤ X + 138) → J2 b i = J b i := fun b i q => by
    rw [eJ2, m_up_at]
    by_cases q2 : b = X + 32 ∧ i = x.toNat
    · rw [if_pos q2, q2.1, q2.2]; omega
    · rw [if_neg q2, sp_L_o (by omega), eJ1, m_up_at, if_neg q2]
  have hC2 : sp_is J2 (X + 136) C2 := by
    rw [eC2]
    refine sp_is_e (sp_L_is (A := X + 136) (B := X + 17) (R := X + 32) (h := J (X + 30) 2) pok1) (fun i => ?_) (fun i => ?_) (fun i => ?_)
    · rw [eJ2, m_up_o (by omega)]
    · rw [eJ2, m_up_o (by omega)]
    · rw [eJ2, m_up_o (by omega)]
  have hW2 : cl_W en X N zb wb C T J2 P z w := cl_W_sp h fr2
  have hq0 : cl_q X N T J P L T J2 P L := cl_q_J (fun b i q => fr2 b i (by omega))
  have eL1 : sp_L J1 (X + 136) (X + 17) (X + 32) (J (X + 30) 2) (X + 32) x.toNat = J (X + 32) x.toNat + 1 := by rw [sp_L_o (by omega), eJ1, m_up_same]
  have eh : J1 (X + 30) 2 = J (X + 30) 2 := o1 _ _ (by omega)
  rw [show m_up J (X + 32) x.toNat (J (X + 32) x.toNat + 1) (X + 32) = J1 (X + 32) by rw [eJ1], ec, ← eC2] at hq
  refine m_into (by decide) (Nat.le_of_ble_eq_true rfl) rfl ?_
  show m_wp en _ mWa_stepsUnderPile 0 [some (.ref (X + 132)), some (.int (m_i (x))), some (.int (m_i (s)))] [] (T, m_I J, P, L, z, w) Q
  refine r_aln eWa_stepsUnderPile_0 rfl ?_
  refine m_getR eWa_stepsUnderPile_1 rfl (cl_t hX (i := 132) rfl) (cl_p hX (i := 105) rfl) ?_
  refine r_iln eWa_stepsUnderPile_4 rfl ?_
  refine r_vir eWa_stepsUnderPile_5 rfl rfl rfl (cl_t hX (i := 17) rfl) rfl rfl ?_
  refine c_Pl_hasColumn (cl_plan hX) h1 ⟨by omega, by omega⟩ ?_
  rw [a_b_t (decide_eq_true (show 0 ≤ x ∧ x < J (X + 17) 0 by omega))]
  show m_wp en _ mWa_stepsUnderPile 8 [some (.ref (X + 132)), some (.int (m_i (x))), some (.int (m_i (s)))] [(.int (m_i (1)))] (T, m_I J, P, L, z, w) Q
  refine r_zne (tgt := 14) eWa_stepsUnderPile_8 rfl ⟨(by omega), (by omega)⟩ (fun c8 => ?_) (fun c8 => ?_)
  · refine r_aln eWa_stepsUnderPile_14 rfl ?_
    refine m_getR eWa_stepsUnderPile_15 rfl (cl_t hX (i := 132) rfl) (cl_p hX (i := 106) rfl) ?_
    refine m_getR eWa_stepsUnderPile_18 rfl (cl_t hX (i := 30) rfl) (cl_p hX (i := 39) rfl) ?_
    refine r_iln eWa_stepsUnderPile_21 rfl ?_
    refine r_dup2 eWa_stepsUnderPile_22 ?_
    refine r_ialde (x := J (X + 32) ((x).toNat)) eWa_stepsUnderPile_23 (cl_t hX (i := 32) rfl) (by decide) (by omega) (by omega) rfl ?_
    refine r_con eWa_stepsUnderPile_24 ?_
    refine r_add eWa_stepsUnderPile_25 ?_
    refine r_iast eWa_stepsUnderPile_26 (cl_t hX (i := 32) rfl) (by decide) (by omega) (by omega) (cl_e hX 32) ?_
    rw [← eJ1]
    refine r_aln eWa_stepsUnderPile_27 rfl ?_
    refine m_getR eWa_stepsUnderPile_28 rfl (cl_t hX (i := 132) rfl) (cl_p hX (i := 108) rfl) ?_
    refine r_aln eWa_stepsUnderPile_31 rfl ?_
    refine m_getR eWa_stepsUnderPile_32 rfl (cl_t hX (i := 132) rfl) (cl_p hX (i := 105) rfl) ?_
    refine r_aln eWa_stepsUnderPile_35 rfl ?_
    refine m_getR eWa_stepsUnderPile_36 rfl (cl_t hX (i := 132) rfl) (cl_p hX (i := 106) rfl) ?_
    refine m_getR eWa_stepsUnderPile_39 rfl (cl_t hX (i := 30) rfl) (cl_p hX (i := 39) rfl) ?_
    refine r_aln eWa_stepsUnderPile_42 rfl ?_
    refine m_getR eWa_stepsUnderPile_43 rfl (cl_t hX (i := 132) rfl) (cl_p hX (i := 106) rfl) ?_
    refine r_gete (x := J1 (X + 30) 2) eWa_stepsUnderPile_46 rfl (by decide) (cl_t hX (i := 30) rfl) rfl ?_
    rw [eh]
    refine r_vir eWa_stepsUnderPile_49 rfl rfl rfl (cl_t hX (i := 136) rfl) rfl rfl ?_
    refine c_Sp_lay (cl_sp hX (Or.inr rfl)) (cl_plan hX) (cl_t hX (i := 32) rfl) pok1 hr1 (by omega) (by omega) h2.2.1 ?_
    show m_wp en _ mWa_stepsUnderPile 52 [some (.ref (X + 132)), some (.int (m_i (x))), some (.int (m_i (s)))] [] (T, m_I (((sp_L J1 (X + 136) (X + 17) (X + 32) (J (X + 30) 2)))), P, L, z, w) Q
    refine r_aln eWa_stepsUnderPile_52 rfl ?_
    refine m_getR eWa_stepsUnderPile_53 rfl (cl_t hX (i := 132) rfl) (cl_p hX (i := 106) rfl) ?_
    refine m_getR eWa_stepsUnderPile_56 rfl (cl_t hX (i := 30) rfl) (cl_p hX (i := 39) rfl) ?_
    refine r_iln eWa_stepsUnderPile_59 rfl ?_
    refine r_dup2 eWa_stepsUnderPile_60 ?_
    refine r_ialde (x := ((sp_L J1 (X + 136) (X + 17) (X + 32) (J (X + 30) 2))) (X + 32) ((x).toNat)) eWa_stepsUnderPile_61 (cl_t hX (i := 32) rfl) (by decide) (by omega) (by omega) rfl ?_
    rw [eL1]
    refine r_con eWa_stepsUnderPile_62 ?_
    refine r_sub eWa_stepsUnderPile_63 ?_
    refine r_iast eWa_stepsUnderPile_64 (cl_t hX (i := 32) rfl) (by decide) (by omega) (by omega) (cl_e hX 32) ?_
    rw [← eJ2]
    refine r_aln eWa_stepsUnderPile_65 rfl ?_
    refine m_getR eWa_stepsUnderPile_66 rfl (cl_t hX (i := 132) rfl) (cl_p hX (i := 111) rfl) ?_
    refine r_aln eWa_stepsUnderPile_69 rfl ?_
    refine m_getR eWa_stepsUnderPile_70 rfl (cl_t hX (i := 132) rfl) (cl_p hX (i := 108) rfl) ?_
    refine r_con eWa_stepsUnderPile_73 ?_
    refine r_sip eWa_stepsUnderPile_74 (by decide) ?_
    refine r_con eWa_stepsUnderPile_77 ?_
    refine r_vir eWa_stepsUnderPile_78 rfl rfl rfl (cl_t hX (i := 145) rfl) rfl rfl ?_
    refine c_Se_begin hS0 (cl_sp hX (Or.inr rfl)) (by omega) ok2 hC2 (cl_z hV cl_o149).1 (Or.inl rfl) (fun R' U' n' T J3 P L z w hbn => ?_)
    obtain ⟨hV2, ⟨eR, eU, eN⟩, hoth, hq2⟩ := cl_V_bn hV cl_o149 (Or.inr rfl) hbn hszb.1
    have hX := hV2.1
    have hz2 := cl_z hV2 (o := 149) cl_o149
    rw [eR, eU] at hz2
    have hC3 := se_bn_sp hbn (by omega) hC2
    have e31 : ∀ i, J3 (X + 31) i = J (X + 31) i := fun i => (hq2.2.1 _ i (by omega)).trans (fr2 _ i (by omega))
    have hN2 := hV2.2.1
    show m_wp en _ mWa_stepsUnderPile 81 [some (.ref (X + 132)), some (.int (m_i (x))), some (.int (m_i (s)))] [] (T, m_I J3, P, L, z, w) Q
    refine r_aln eWa_stepsUnderPile_81 rfl ?_
    refine m_getR eWa_stepsUnderPile_82 rfl (cl_t hX (i := 132) rfl) (cl_p hX (i := 111) rfl) ?_
    refine r_aln eWa_stepsUnderPile_85 rfl ?_
    refine m_getR eWa_stepsUnderPile_86 rfl (cl_t hX (i := 132) rfl) (cl_p hX (i := 106) rfl) ?_
    refine m_getR eWa_stepsUnderPile_89 rfl (cl_t hX (i := 30) rfl) (cl_p hX (i := 38) rfl) ?_
    refine r_vir eWa_stepsUnderPile_92 rfl rfl rfl (cl_t hX (i := 145) rfl) rfl rfl ?_
    refine c_Se_seed1 hbn ok2 hC3 (cl_po hX (k := 31) (by decide)) (by rw [po_get_e e31]; exact a_bx_sm hbx) (by omega) (by omega) (by omega) (fun J4 s1 s2 s3 s4 => ?_)
    rw [po_get_e e31] at s4
    obtain ⟨w1, w2, w3, w4, -⟩ := cl_W_as hW2 (Or.inr rfl) ok2 hbn s1 s2 s3 s4
    have w3 := cl_q_t hq0 w3
    have e29 : J4 (X + 29) 5 = J (X + 29) 5 := w3.2.1 _ _ (by omega)
    have hC4 : sp_is J4 (X + 136) C2 := sp_is_e hC2 (fun i => w4 _ i (by omega) (by omega)) (fun i => w4 _ i (by omega) (by omega)) (fun i => w4 _ i (by omega) (by omega))
    show m_wp en _ mWa_stepsUnderPile 95 [some (.ref (X + 132)), some (.int (m_i (x))), some (.int (m_i (s)))] [] (T, m_I J4, P, L, z, w) Q
    refine r_aln eWa_stepsUnderPile_95 rfl ?_
    refine m_getR eWa_stepsUnderPile_96 rfl (cl_t hX (i := 132) rfl) (cl_p hX (i := 111) rfl) ?_
    refine r_aln eWa_stepsUnderPile_99 rfl ?_
    refine r_aln eWa_stepsUnderPile_100 rfl ?_
    refine m_getR eWa_stepsUnderPile_101 rfl (cl_t hX (i := 132) rfl) (cl_p hX (i := 108) rfl) ?_
    refine r_iln eWa_stepsUnderPile_104 rfl ?_
    refine r_vir eWa_stepsUnderPile_105 rfl rfl rfl (cl_t hX (i := 132) rfl) rfl rfl ?_
    refine c_Wa_spotNumber hX (Or.inr rfl) ok2 hC4 w1.2.1.1 ⟨by omega, by omega⟩ (fun q9 => by omega) (fun q9 => ?_)
    rw [cl_spt_e (fun b i q => w3.2.1 b i (by omega))]
    show m_wp en _ mWa_stepsUnderPile 108 [some (.ref (X + 132)), some (.int (m_i (x))), some (.int (m_i (s)))] [(.int (m_i ((a_nb C2 (cl_spt J X s.toNat))))), (.ref (X + 149))] (T, m_I (((po_put J4 (X + 155) (cl_spt J X s.toNat)))), P, L, z, w) Q
    refine r_vir eWa_stepsUnderPile_108 rfl rfl rfl (cl_t hX (i := 145) rfl) rfl rfl ?_
    refine c_as (cl_W_po w1 (by omega)) (Or.inr rfl) ok2 (sp_po (Or.inr rfl) (by omega) hC4) (by omega) (by omega) (cl_g_po w1.1 cl_o149 (by omega) w2) (γ := cl_spt J X s.toNat) rfl (fun J5 r m1 m2 m3 m4 m5 m6 => ?_)
    show m_wp en _ mWa_stepsUnderPile 111 [some (.ref (X + 132)), some (.int (m_i (x))), some (.int (m_i (s)))] [(.int (m_i (r)))] (T, m_I J5, P, L, z, w) Q
    refine r_iret eWa_stepsUnderPile_111 rfl ?_
    exact hq T J5 P L z w r m1 (cl_q_t (cl_q_t w3 (cl_q_po (by omega))) m2) m4 m5
  · exfalso; omega
end UPL
