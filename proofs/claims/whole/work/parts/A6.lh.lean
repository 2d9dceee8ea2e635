/-! the class: legs asked, a pile supposed -/
section LEH
variable {en : Nat → Nat} {d : Nat} {T T' T2 T0 : Nat → Option (Nat × Nat)} {J J' J0 J1 J2 J3 K H : Nat → Nat → Int} {P P' P2 P0 : Nat → Nat → Option Nat} {L L' L2 L0 : Nat → Nat → Int64} {z w z' w' z0 w0 A B R U S n X N zb wb o o' A0 R' U' n' : Nat} {Q : m_Q} {σ τ γ π ρ : a_S} {C C2 : a_C} {bw most by_ gl : Int} {Sd : a_S → Prop} {g : g_T} {x e st : Int}
/-- begun aside, no seed -/
theorem cl_W_a0 (h : cl_W en X N zb wb C T0 J0 P0 z0 w0) (hA : A = X + 133 ∨ A = X + 136) (ok2 : a_ok C2) (hbn : se_bn en (X + 149) A C2 0 by_ most (sR P0 (X + 149)) (sU P0 (X + 149)) (sN T0 P0 (X + 149)) T0 J0 P0 L0 z0 w0 R' U' n' T J P L z w) (hρ : ¬ a_is C2 ρ = true) :
    cl_W en X N zb wb C T J P z w ∧ cl_g T J P X 149 A C2 0 by_ most (w_sd C2 ρ) ∧ cl_q X N T0 J0 P0 L0 T J P L ∧ ∀ b i, b < N → ¬ (X + 149 ≤ b ∧ b < X + 149 + 5) → J b i = J0 b i := by
  have b8 := hbn.2.2.2.2.2.2.2.1
  have b9 := hbn.2.2.2.2.2.2.2.2.1
  have b10 := hbn.2.2.2.2.2.2.2.2.2.1
  obtain ⟨w1, w2, w3, w4, -⟩ := cl_W_as (ρ := ρ) h hA ok2 hbn se_fr_r b9 (g_Z_0 ok2 (fun i hi => b8 i hi) b10) (fun x => ⟨fun q => absurd q.1 hρ, fun q => by obtain ⟨i, hi, -⟩ := q; omega⟩)
  exact ⟨w1, w2, w3, w4⟩
theorem c_Wa_searchLegs (h : cl_W en X N zb wb C T J P z w) {f : Nat} (hf : (f : Int) < J (X + 29) 5) (h80 : ¬ J (X + 132) 8 / ((2 ^ f : Nat) : Int) % 2 = 1)
    (hq : ∀ T' J' P' L' z' w', cl_W en X N zb wb C T' J' P' z' w' → cl_q X N T J P L T' J' P' L' → J' (X + 132) 8 = J (X + 132) 8 → (∀ t : Nat, t < 6 → cl_leg J X C f t (J' (X + 154) (6 * f + t))) → Q none (T', m_I J', P', L', z', w')) :
    m_call en (d + 4) mWa_searchLegs [.ref (X + 132), .int (m_i (f : Int))] (T, m_I J, P, L, z, w) Q := by
  have h0 := h
  obtain ⟨hV, ⟨h1, h2, ok, h4, hC⟩, h6, h7, h8⟩ := h0
  have hX := hV.1
  have hN := hV.2.1
  have hszb := a_sz_b ok
  have k5 : 0 ≤ J (X + 29) 5 ∧ J (X + 29) 5 ≤ 6 := h1.2.2.2.2.1
  have hsp : (0 ≤ J (X + 21) f ∧ J (X + 21) f < 16) ∧ 0 ≤ J (X + 22) f ∧ J (X + 22) f ≤ 6 := (h1.2.2.2.2.2.2.2.2.2.1 f (by omega)).2
  have hsm : a_sm (cl_spt J X f) := ⟨by unfold cl_spt; simp only; omega, by unfold cl_spt; simp only; omega, by unfold cl_spt; simp only; omega, by unfold cl_spt; simp only; omega, by unfold cl_spt; simp only; omega⟩
  obtain ⟨A0, hA0, hS0⟩ := cl_at0 hV (o := 149) cl_o149
  have hnb : -1 ≤ a_nb C (cl_spt J X f) ∧ a_nb C (cl_spt J X f) < 100000 := by
    by_cases q : a_is C (cl_spt J X f) = true
    · have := a_nb_b ok q; omega
    · have : a_nb C (cl_spt J X f) = -1 := by unfold a_nb; rw [if_neg q]
      omega
  have hneg : a_nb C (cl_spt J X f) < 0 → ¬ a_is C (cl_spt J X f) = true := fun q q2 => by
    have := a_nb_b ok q2; omega
  have key : ∀ T2 J3 P2 L2 z2 w2, cl_W en X N zb wb C T2 J3 P2 z2 w2 → cl_g T2 J3 P2 X 149 (X + 133) C 0 511 4 (w_sd C (cl_spt J X f)) → cl_q X N T J P L T2 J3 P2 L2 → J3 (X + 132) 8 = J (X + 132) 8 → m_wp en (d + 3) mWa_searchLegs 41 [some (.ref (X + 132)), some (.int (m_i (f : Int))), some (.int (m_i 0)), none] [] (T2, m_I J3, P2, L2, z2, w2) Q := fun T2 J3 P2 L2 z2 w2 a1 a2 a3 a4 => by
    have e29 : J3 (X + 29) 5 = J (X + 29) 5 := a3.2.1 _ _ (by omega)
    have es : ∀ k, cl_spt J3 X k = cl_spt J X k := fun k => cl_spt_e (fun b i q => a3.2.1 b i (by omega))
    refine l_Wa_searchLegs (J := J3) a1.1.1 ok (by omega) (by omega) hN.1 (by rw [a4]; exact h80) (fun J' y1 y2 y3 y4 => hq T2 J' P2 L2 z2 w2 y1 (cl_q_t a3 y2) (y3.trans a4) (fun t ht => (cl_leg_e (fun b i q => a3.2.1 b i (by omega))).mp (y4 t ht))) 6 0 J3 none (by omega) a1 cl_q_r (by rw [es]; exact a2) rfl (fun u hu => by omega)
  refine m_into (by decide) (Nat.le_of_ble_eq_true rfl) rfl ?_
  show m_wp en _ mWa_searchLegs 0 [some (.ref (X + 132)), some (.int (m_i ((f : Int)))), none, none] [] (T, m_I J, P, L, z, w) Q
  refine r_aln eWa_searchLegs_0 rfl ?_
  refine m_getR eWa_searchLegs_1 rfl (cl_t hX (i := 132) rfl) (cl_p hX (i := 111) rfl) ?_
  refine r_aln eWa_searchLegs_4 rfl ?_
  refine m_getR eWa_searchLegs_5 rfl (cl_t hX (i := 132) rfl) (cl_p hX (i := 107) rfl) ?_
  refine r_con eWa_searchLegs_8 ?_
  refine r_sip eWa_searchLegs_9 (by decide) ?_
  refine r_con eWa_searchLegs_12 ?_
  refine r_vir eWa_searchLegs_13 rfl rfl rfl (cl_t hX (i := 145) rfl) rfl rfl ?_
  refine c_Se_begin hS0 (cl_sp hX (Or.inl rfl)) (by omega) ok hC (cl_z hV cl_o149).1 (Or.inl rfl) (fun R' U' n' T J2 P L z w hbn => ?_)
  obtain ⟨hV2, ⟨eR, eU, eN⟩, hoth, hq2⟩ := cl_V_bn hV cl_o149 (Or.inl rfl) hbn hszb.1
  have hX := hV2.1
  have hz2 := cl_z hV2 (o := 149) cl_o149
  rw [eR, eU] at hz2
  have hC2 := se_bn_sp hbn (by omega) hC
  have hN2 := hV2.2.1
  obtain ⟨v1, v2, v3, v4⟩ := cl_W_a0 (ρ := (-1, 0, 0, 0, 0)) h (Or.inl rfl) ok hbn w_no.2
  have e29 : J2 (X + 29) 5 = J (X + 29) 5 := v3.2.1 _ _ (by omega)
  show m_wp en _ mWa_searchLegs 16 [some (.ref (X + 132)), some (.int (m_i ((f : Int)))), none, none] [] (T, m_I J2, P, L, z, w) Q
  refine r_aln eWa_searchLegs_16 rfl ?_
  refine r_aln eWa_searchLegs_17 rfl ?_
  refine m_getR eWa_searchLegs_18 rfl (cl_t hX (i := 132) rfl) (cl_p hX (i := 107) rfl) ?_
  refine r_iln eWa_searchLegs_21 rfl ?_
  refine r_vir eWa_searchLegs_22 rfl rfl rfl (cl_t hX (i := 132) rfl) rfl rfl ?_
  refine c_Wa_spotNumber hX (Or.inl rfl) ok v1.2.1.2.2.2.2 v1.2.1.1 ⟨by omega, by omega⟩ (fun q9 => by omega) (fun q9 => ?_)
  rw [Int.toNat_natCast, cl_spt_e (fun b i q => v3.2.1 b i (by omega))]
  have hbn2 := se_bn_po (τ := cl_spt J X f) hbn (by omega) (by omega) (by omega) (by omega)
  show m_wp en _ mWa_searchLegs 25 [some (.ref (X + 132)), some (.int (m_i ((f : Int)))), none, none] [(.int (m_i ((a_nb C (cl_spt J X f)))))] (T, m_I (((po_put J2 (X + 155) (cl_spt J X f)))), P, L, z, w) Q
  refine r_zlt (tgt := 39) eWa_searchLegs_25 rfl ⟨(by omega), (by omega)⟩ (fun c25 => ?_) (fun c25 => ?_)
  · refine r_con eWa_searchLegs_39 ?_
    refine r_isn (ls' := [some (.ref (X + 132)), some (.int (m_i ((f : Int)))), some (.int (m_i (0))), none]) eWa_searchLegs_40 (Nat.le_of_ble_eq_true rfl) rfl ?_
    first | exact key T J3 P L z w w1 w2 w3 ((w4 _ _ (by omega) (by omega)).trans (po_put_o (by omega))) | (obtain ⟨x1, x2, x3, x4⟩ := cl_W_a0 (ρ := cl_spt J X f) h (Or.inl rfl) ok hbn (hneg (by omega)); exact key T _ P L z w (cl_W_po x1 (by omega)) (cl_g_po x1.1 cl_o149 (by omega) x2) (cl_q_t x3 (cl_q_po (by omega))) ((po_put_o (by omega)).trans (x4 _ _ (by omega) (by omega))))
  · refine r_aln eWa_searchLegs_28 rfl ?_
    refine m_getR eWa_searchLegs_29 rfl (cl_t hX (i := 132) rfl) (cl_p hX (i := 111) rfl) ?_
    refine r_aln eWa_searchLegs_32 rfl ?_
    refine m_getR eWa_searchLegs_33 rfl (cl_t hX (i := 132) rfl) (cl_p hX (i := 113) rfl) ?_
    refine r_vir eWa_searchLegs_36 rfl rfl rfl (cl_t hX (i := 145) rfl) rfl rfl ?_
    refine c_Se_seed1 hbn2 ok (sp_po (Or.inl rfl) (by omega) hC2) (cl_po hX (k := 155) (by decide)) (by rw [po_get_put]; exact hsm) (by omega) (by omega) (by omega) (fun J3 s1 s2 s3 s4 => ?_)
    rw [po_get_put] at s4
    obtain ⟨w1, w2, w3, w4, -⟩ := cl_W_as (cl_W_po (τ := cl_spt J X f) h (by omega)) (Or.inl rfl) ok hbn2 s1 s2 s3 s4
    have w3 := cl_q_t (cl_q_po (τ := cl_spt J X f) (by omega)) w3
    show m_wp en _ mWa_searchLegs 39 [some (.ref (X + 132)), some (.int (m_i ((f : Int)))), none, none] [] (T, m_I J3, P, L, z, w) Q
    refine r_con eWa_searchLegs_39 ?_
    refine r_isn (ls' := [some (.ref (X + 132)), some (.int (m_i ((f : Int)))), some (.int (m_i (0))), none]) eWa_searchLegs_40 (Nat.le_of_ble_eq_true rfl) rfl ?_
    first | exact key T J3 P L z w w1 w2 w3 ((w4 _ _ (by omega) (by omega)).trans (po_put_o (by omega))) | (obtain ⟨x1, x2, x3, x4⟩ := cl_W_a0 (ρ := cl_spt J X f) h (Or.inl rfl) ok hbn (hneg (by omega)); exact key T _ P L z w (cl_W_po x1 (by omega)) (cl_g_po x1.1 cl_o149 (by omega) x2) (cl_q_t x3 (cl_q_po (by omega))) ((po_put_o (by omega)).trans (x4 _ _ (by omega) (by omega))))
/-- a row of legs is known -/
theorem cl_W_lk (h : cl_W en X N zb wb C T J P z w) {f : Nat} (hf : f < 6) (hl : ∀ t : Nat, t < 6 → cl_leg J X C f t (J (X + 154) (6 * f + t))) : cl_W en X N zb wb C T (m_up J (X + 132) 8 (a_set (J (X + 132) 8) (f : Int))) P z w := by
  obtain ⟨c1, c2⟩ := h.2.2.2.2
  have hs := w_set c1 hf
  have sm : ∀ o, cl_o o → cl_sm X o T J P T (m_up J (X + 132) 8 (a_set (J (X + 132) 8) (f : Int))) P := fun o ho => cl_sm_up h.1 ho (by omega) ⟨⟨rfl, rfl, rfl, rfl⟩, fun _ => rfl, rfl, rfl⟩
  have f0 : ∀ b i, b ≠ X + 132 → m_up J (X + 132) 8 (a_set (J (X + 132) 8) (f : Int)) b i = J b i := fun b i q => m_up_o q
  refine cl_W_g h h.1 (fun b i q q2 => f0 b i q2) (cl_ch_e h.2.2.1 (m_up_j (by omega)) (fun i => f0 _ i (by omega)) (sm 139 (Or.inl rfl))) (cl_cm_e h.2.2.2.1 (m_up_j (by omega)) (sm 144 (Or.inr (Or.inl rfl)))) ?_
  unfold cl_cl
  rw [m_up_same]
  refine ⟨hs.1, fun f' hf' hb t ht => ?_⟩
  rw [cl_leg_e (fun b i q => f0 b i (by omega)), f0 _ _ (by omega)]
  rcases (hs.2 f' hf').mp hb with q | q
  · subst q; exact hl t ht
  · exact c2 f' hf' q t ht
theorem c_Wa_legOf (h : cl_W en X N zb wb C T J P z w) {f t : Nat} (hf : (f : Int) < J (X + 29) 5) (ht : (t : Int) < J (X + 29) 5)
    (hq : ∀ T' J' P' L' z' w' r, cl_W en X N zb wb C T' J' P' z' w' → cl_q X N T J P L T' J' P' L' → cl_leg J X C f t r → Q (some (.int (m_i r))) (T', m_I J', P', L', z', w')) :
    m_call en (d + 5) mWa_legOf [.ref (X + 132), .int (m_i (f : Int)), .int (m_i (t : Int))] (T, m_I J, P, L, z, w) Q := by
  have h0 := h
  obtain ⟨hV, ⟨h1, h2, ok, h4, hC⟩, h6, h7, h8⟩ := h0
  have hX := hV.1
  have hN := hV.2.1
  have k5 : 0 ≤ J (X + 29) 5 ∧ J (X + 29) 5 ≤ 6 := h1.2.2.2.2.1
  have e29 : J (X + 29) 5 = J (X + 17 + 12) 5 := rfl
  obtain ⟨c1, c2⟩ := h8
  have hbit := m_bit (x := J (X + 132) 8) (k := (f : Int)) ⟨by omega, by omega⟩ f rfl (by omega)
  obtain ⟨bi, ebi⟩ : ∃ bi, bi = J (X + 132) 8 / ((2 ^ f : Nat) : Int) % 2 := ⟨_, rfl⟩
  rw [← ebi] at hbit
  have hbi : 0 ≤ bi ∧ bi ≤ 1 := by omega
  have ei : (6 * (f : Int) + (t : Int)).toNat = 6 * f + t := by omega
  have hkn : bi = 1 → Q (some (.int (m_i (J (X + 154) (6 * (f : Int) + (t : Int)).toNat)))) (T, m_I J, P, L, z, w) := fun q => by
    rw [ei]
    exact hq T J P L z w _ h cl_q_r (c2 f (by omega) (by omega) t (by omega))
  refine m_into (by decide) (Nat.le_of_ble_eq_true rfl) rfl ?_
  show m_wp en _ mWa_legOf 0 [some (.ref (X + 132)), some (.int (m_i ((f : Int)))), some (.int (m_i ((t : Int))))] [] (T, m_I J, P, L, z, w) Q
  refine r_aln eWa_legOf_0 rfl ?_
  refine m_getR eWa_legOf_1 rfl (cl_t hX (i := 132) rfl) (cl_p hX (i := 105) rfl) ?_
  refine r_iln eWa_legOf_4 rfl ?_
  refine r_vir eWa_legOf_5 rfl rfl rfl (cl_t hX (i := 17) rfl) rfl rfl ?_
  refine c_Pl_hasSpot (cl_plan hX) h1 ⟨by omega, by omega⟩ ?_
  rw [a_b_t (decide_eq_true (show 0 ≤ ((f : Int)) ∧ ((f : Int)) < J (X + 17 + 12) 5 by omega))]
  show m_wp en _ mWa_legOf 8 [some (.ref (X + 132)), some (.int (m_i ((f : Int)))), some (.int (m_i ((t : Int))))] [(.int (m_i (1)))] (T, m_I J, P, L, z, w) Q
  refine r_zeq (tgt := 22) eWa_legOf_8 rfl ⟨(by omega), (by omega)⟩ (fun c8 => ?_) (fun c8 => ?_)
  · exfalso; omega
  · refine r_aln eWa_legOf_11 rfl ?_
    refine m_getR eWa_legOf_12 rfl (cl_t hX (i := 132) rfl) (cl_p hX (i := 105) rfl) ?_
    refine r_iln eWa_legOf_15 rfl ?_
    refine r_vir eWa_legOf_16 rfl rfl rfl (cl_t hX (i := 17) rfl) rfl rfl ?_
    refine c_Pl_hasSpot (cl_plan hX) h1 ⟨by omega, by omega⟩ ?_
    rw [a_b_t (decide_eq_true (show 0 ≤ ((t : Int)) ∧ ((t : Int)) < J (X + 17 + 12) 5 by omega))]
    show m_wp en _ mWa_legOf 19 [some (.ref (X + 132)), some (.int (m_i ((f : Int)))), some (.int (m_i ((t : Int))))] [(.int (m_i (1)))] (T, m_I J, P, L, z, w) Q
    refine r_zne (tgt := 25) eWa_legOf_19 rfl ⟨(by omega), (by omega)⟩ (fun c19 => ?_) (fun c19 => ?_)
    · refine r_aln eWa_legOf_25 rfl ?_
      refine r_gete (x := J (X + 132) 8) eWa_legOf_26 rfl (by decide) (cl_t hX (i := 132) rfl) rfl ?_
      refine r_iln eWa_legOf_29 rfl ?_
      refine r_shr eWa_legOf_30 ?_
      refine r_con eWa_legOf_31 ?_
      refine r_and eWa_legOf_32 ?_
      rw [hbit]
      refine r_zne (tgt := 53) eWa_legOf_33 rfl ⟨(by omega), (by omega)⟩ (fun c33 => ?_) (fun c33 => ?_)
      · refine r_aln eWa_legOf_53 rfl ?_
        refine m_getR eWa_legOf_54 rfl (cl_t hX (i := 132) rfl) (cl_p hX (i := 112) rfl) ?_
        refine r_bip eWa_legOf_57 (by decide) ?_
        refine r_iln eWa_legOf_59 rfl ?_
        refine r_mul eWa_legOf_60 ?_
        refine r_iln eWa_legOf_61 rfl ?_
        refine r_add eWa_legOf_62 ?_
        refine r_ialde (x := J (X + 154) ((((6) * ((f : Int))) + ((t : Int))).toNat)) eWa_legOf_63 (cl_t hX (i := 148) rfl) (by decide) (by omega) (by omega) rfl ?_
        refine r_iret eWa_legOf_64 rfl ?_
        first | exact hkn (by omega) | (rw [ei]; exact hq T _ P L z w _ (cl_W_lk (f := f) k1 (by omega) (fun t ht => (cl_leg_e (fun b i q => k2.2.1 b i (by omega))).mpr (k4 t ht))) (cl_q_t k2 (cl_q_J (fun b i q => by rw [m_up_at, if_neg (by omega)]))) (k4 t (by omega)))
      · refine r_aln eWa_legOf_36 rfl ?_
        refine r_iln eWa_legOf_37 rfl ?_
        refine r_vir eWa_legOf_38 rfl rfl rfl (cl_t hX (i := 132) rfl) rfl rfl ?_
        refine c_Wa_searchLegs h (f := f) hf (by omega) (fun T J2 P L z w k1 k2 k3 k4 => ?_)
        have hX := k1.1.1
        show m_wp en _ mWa_legOf 41 [some (.ref (X + 132)), some (.int (m_i ((f : Int)))), some (.int (m_i ((t : Int))))] [] (T, m_I J2, P, L, z, w) Q
        refine r_aln eWa_legOf_41 rfl ?_
        refine r_dupr eWa_legOf_42 ?_
        refine r_gete (x := J2 (X + 132) 8) eWa_legOf_43 rfl (by decide) (cl_t hX (i := 132) rfl) rfl ?_
        refine r_con eWa_legOf_46 ?_
        refine r_iln eWa_legOf_47 rfl ?_
        refine r_shl eWa_legOf_48 ?_
        refine r_or eWa_legOf_49 ?_
        refine r_put eWa_legOf_50 rfl (cl_t hX (i := 132) rfl) (cl_e hX 132) (Or.inl rfl) ?_
        refine r_aln eWa_legOf_53 rfl ?_
        refine m_getR eWa_legOf_54 rfl (cl_t hX (i := 132) rfl) (cl_p hX (i := 112) rfl) ?_
        refine r_bip eWa_legOf_57 (by decide) ?_
        refine r_iln eWa_legOf_59 rfl ?_
        refine r_mul eWa_legOf_60 ?_
        refine r_iln eWa_legOf_61 rfl ?_
        refine r_add eWa_legOf_62 ?_
        refine r_ialde (x := J2 (X + 154) ((((6) * ((f : Int))) + ((t : Int))).toNat)) eWa_legOf_63 (cl_t hX (i := 148) rfl) (by decide) (by omega) (by omega) (by rw [m_up_at, if_neg (by omega)]) ?_
        refine r_iret eWa_legOf_64 rfl ?_
        first | exact hkn (by omega) | (rw [ei]; exact hq T _ P L z w _ (cl_W_lk (f := f) k1 (by omega) (fun t ht => (cl_leg_e (fun b i q => k2.2.1 b i (by omega))).mpr (k4 t ht))) (cl_q_t k2 (cl_q_J (fun b i q => by rw [m_up_at, if_neg (by omega)]))) (k4 t (by omega)))
    · exfalso; omega
end LEH
