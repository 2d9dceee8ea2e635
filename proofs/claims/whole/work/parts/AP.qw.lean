/-! the class: questions of ways -/
section SCW
variable {en : Nat → Nat} {d : Nat} {T T' T2 T0 : Nat → Option (Nat × Nat)} {J J' J0 J1 J2 J3 K H : Nat → Nat → Int} {P P' P2 P0 : Nat → Nat → Option Nat} {L L' L2 L0 : Nat → Nat → Int64} {z w z' w' z0 w0 A B R U S X N zb wb : Nat} {n : Nat} {Q : m_Q} {σ τ γ π ρ : a_S} {C : a_C} {x e st s : Int} {d0 : Nat → Int} {dl : Nat → Nat → Int} {sf : (Nat → Int) → Int → Int → Int → Int → Int}
theorem cl_fw_is {r : Int} (h : cl_fw C π γ r) (h0 : 0 ≤ r) : a_is C γ = true := by
  rcases h with a | a
  · exact a.1
  · omega
theorem c_leg10 (h : cl_W en X N zb wb C T J P z w) {f t : Int} (hf : 0 ≤ f ∧ f < J (X + 29) 5) (ht : 0 ≤ t ∧ t < J (X + 29) 5)
    (hq : ∀ T' J' P' L' z' w' r, cl_W en X N zb wb C T' J' P' z' w' → cl_q X N T J P L T' J' P' L' → cl_leg J X C f.toNat t.toNat r → Q (some (.int (m_i r))) (T', m_I J', P', L', z', w')) :
    m_call en (d + 5) mWa_legOf [.ref (X + 132), .int (m_i f), .int (m_i t)] (T, m_I J, P, L, z, w) Q := by
  have := c_Wa_legOf (d := d) (f := f.toNat) (t := t.toNat) h (by omega) (by omega) hq
  rw [show ((f.toNat : Nat) : Int) = f by omega, show ((t.toNat : Nat) : Int) = t by omega] at this
  exact this
theorem c_Sc_fewest (h : cl_W en X N zb wb C T J P z w) (hs : m_in s) (h0' : ¬ (0 ≤ s ∧ s < J (X + 29) 5) → Q (some (.int (m_i (-1)))) (T, m_I J, P, L, z, w)) (h1' : (0 ≤ s ∧ s < J (X + 29) 5) → ∀ T' J' P' L' z' w' r, cl_W en X N zb wb C T' J' P' z' w' → cl_q X N T J P L T' J' P' L' → cl_fw C (po_get J (X + 31)) (cl_spt J X s.toNat) r → Q (some (.int (m_i r))) (T', m_I J', P', L', z', w')) : m_call en (d + 5) mSc_fewest [.ref X, .int (m_i s)] (T, m_I J, P, L, z, w) Q := by
  have h0 := h
  obtain ⟨hV, ⟨pok, hmo, ok, h4, hC⟩, h6, h7, h8⟩ := h0
  have hX := hV.1
  have hN := hV.2.1
  have k0 := pok.1
  have k5 : 0 ≤ J (X + 17 + 12) 5 ∧ J (X + 17 + 12) 5 ≤ 6 := pok.2.2.2.2.1
  have e29 : J (X + 29) 5 = J (X + 17 + 12) 5 := rfl
  unfold m_in at hs
  have hb1 : (a_b (decide (0 ≤ s ∧ s < J (X + 17 + 12) 5)) = 1 ∧ (0 ≤ s ∧ s < J (X + 17 + 12) 5)) ∨ (a_b (decide (0 ≤ s ∧ s < J (X + 17 + 12) 5)) = 0 ∧ ¬ (0 ≤ s ∧ s < J (X + 17 + 12) 5)) := by
    by_cases q : 0 ≤ s ∧ s < J (X + 17 + 12) 5
    · exact Or.inl ⟨a_b_t (decide_eq_true q), q⟩
    · exact Or.inr ⟨a_b_f (by rw [decide_eq_true_eq]; exact q), q⟩
  refine m_into (by decide) (Nat.le_of_ble_eq_true rfl) rfl ?_
  show m_wp en _ mSc_fewest 0 [some (.ref X), some (.int (m_i (s)))] [] (T, m_I J, P, L, z, w) Q
  refine r_aln eSc_fewest_0 rfl ?_
  refine m_getR eSc_fewest_1 rfl (cl_t hX (i := 0) rfl) (cl_p hX (i := 1) rfl) ?_
  refine r_iln eSc_fewest_4 rfl ?_
  refine r_vir eSc_fewest_5 rfl rfl rfl (cl_t hX (i := 17) rfl) rfl rfl ?_
  refine c_Pl_hasSpot (cl_plan hX) pok ⟨by omega, by omega⟩ ?_
  show m_wp en _ mSc_fewest 8 [some (.ref X), some (.int (m_i (s)))] [(.int (m_i ((a_b (decide (0 ≤ s ∧ s < J (X + 17 + 12) 5))))))] (T, m_I J, P, L, z, w) Q
  refine r_zeq (tgt := 22) eSc_fewest_8 rfl ⟨(by omega), (by omega)⟩ (fun c8 => ?_) (fun c8 => ?_)
  · refine r_con eSc_fewest_22 ?_
    refine r_iret eSc_fewest_23 rfl ?_
    first | exact h1' (by omega) T J2 P L z w r k1 k2 k4 | exact h0' (by omega)
  · refine r_aln eSc_fewest_11 rfl ?_
    refine m_getR eSc_fewest_12 rfl (cl_t hX (i := 0) rfl) (cl_p hX (i := 7) rfl) ?_
    refine r_iln eSc_fewest_15 rfl ?_
    refine r_vir eSc_fewest_16 rfl rfl rfl (cl_t hX (i := 132) rfl) rfl rfl ?_
    refine c_Wa_stepsToSpot h (s := s) (by omega) (fun T J2 P L z w r k1 k2 k3 k4 k5' k6 => ?_)
    show m_wp en _ mSc_fewest 19 [some (.ref X), some (.int (m_i (s)))] [(.int (m_i (r)))] (T, m_I J2, P, L, z, w) Q
    refine r_go (tgt := 23) eSc_fewest_19 rfl ?_
    refine r_iret eSc_fewest_23 rfl ?_
    first | exact h1' (by omega) T J2 P L z w r k1 k2 k4 | exact h0' (by omega)
theorem c_Sc_level (h : cl_W en X N zb wb C T J P z w) (hs : m_in s) (h0' : ¬ (0 ≤ s ∧ s < J (X + 29) 5) → Q (some (.int (m_i (-1)))) (T, m_I J, P, L, z, w)) (h1' : (0 ≤ s ∧ s < J (X + 29) 5) → ∀ T' J' P' L' z' w' r, cl_W en X N zb wb C T' J' P' z' w' → cl_q X N T J P L T' J' P' L' → cl_fx C 146 4 (po_get J (X + 31)) (cl_spt J X s.toNat) r → Q (some (.int (m_i r))) (T', m_I J', P', L', z', w')) : m_call en (d + 5) mSc_level [.ref X, .int (m_i s)] (T, m_I J, P, L, z, w) Q := by
  have h0 := h
  obtain ⟨hV, ⟨pok, hmo, ok, h4, hC⟩, h6, h7, h8⟩ := h0
  have hX := hV.1
  have hN := hV.2.1
  have k0 := pok.1
  have k5 : 0 ≤ J (X + 17 + 12) 5 ∧ J (X + 17 + 12) 5 ≤ 6 := pok.2.2.2.2.1
  have e29 : J (X + 29) 5 = J (X + 17 + 12) 5 := rfl
  unfold m_in at hs
  have hb1 : (a_b (decide (0 ≤ s ∧ s < J (X + 17 + 12) 5)) = 1 ∧ (0 ≤ s ∧ s < J (X + 17 + 12) 5)) ∨ (a_b (decide (0 ≤ s ∧ s < J (X + 17 + 12) 5)) = 0 ∧ ¬ (0 ≤ s ∧ s < J (X + 17 + 12) 5)) := by
    by_cases q : 0 ≤ s ∧ s < J (X + 17 + 12) 5
    · exact Or.inl ⟨a_b_t (decide_eq_true q), q⟩
    · exact Or.inr ⟨a_b_f (by rw [decide_eq_true_eq]; exact q), q⟩
  refine m_into (by decide) (Nat.le_of_ble_eq_true rfl) rfl ?_
  show m_wp en _ mSc_level 0 [some (.ref X), some (.int (m_i (s)))] [] (T, m_I J, P, L, z, w) Q
  refine r_aln eSc_level_0 rfl ?_
  refine m_getR eSc_level_1 rfl (cl_t hX (i := 0) rfl) (cl_p hX (i := 1) rfl) ?_
  refine r_iln eSc_level_4 rfl ?_
  refine r_vir eSc_level_5 rfl rfl rfl (cl_t hX (i := 17) rfl) rfl rfl ?_
  refine c_Pl_hasSpot (cl_plan hX) pok ⟨by omega, by omega⟩ ?_
  show m_wp en _ mSc_level 8 [some (.ref X), some (.int (m_i (s)))] [(.int (m_i ((a_b (decide (0 ≤ s ∧ s < J (X + 17 + 12) 5))))))] (T, m_I J, P, L, z, w) Q
  refine r_zeq (tgt := 26) eSc_level_8 rfl ⟨(by omega), (by omega)⟩ (fun c8 => ?_) (fun c8 => ?_)
  · refine r_con eSc_level_26 ?_
    refine r_iret eSc_level_27 rfl ?_
    first | exact h1' (by omega) T J2 P L z w r k1 k2 k3 | exact h0' (by omega)
  · refine r_aln eSc_level_11 rfl ?_
    refine m_getR eSc_level_12 rfl (cl_t hX (i := 0) rfl) (cl_p hX (i := 7) rfl) ?_
    refine r_iln eSc_level_15 rfl ?_
    refine r_sip eSc_level_16 (by decide) ?_
    refine r_con eSc_level_19 ?_
    refine r_vir eSc_level_20 rfl rfl rfl (cl_t hX (i := 132) rfl) rfl rfl ?_
    refine c_Wa_stepsBySome h (s := s) (by omega) (by omega) (by omega) (fun T J2 P L z w r k1 k2 k3 k4 => ?_)
    show m_wp en _ mSc_level 23 [some (.ref X), some (.int (m_i (s)))] [(.int (m_i (r)))] (T, m_I J2, P, L, z, w) Q
    refine r_go (tgt := 27) eSc_level_23 rfl ?_
    refine r_iret eSc_level_27 rfl ?_
    first | exact h1' (by omega) T J2 P L z w r k1 k2 k3 | exact h0' (by omega)
theorem c_Sc_least (h : cl_W en X N zb wb C T J P z w) (hs : m_in s) (h0' : ¬ (0 ≤ s ∧ s < J (X + 29) 5) → Q (some (.int (m_i (-1)))) (T, m_I J, P, L, z, w)) (h1' : (0 ≤ s ∧ s < J (X + 29) 5) → ∀ T' J' P' L' z' w' r, cl_W en X N zb wb C T' J' P' z' w' → cl_q X N T J P L T' J' P' L' → ((a_is C (cl_spt J X s.toNat) = true ∧ b_kan (w_sd C (po_get J (X + 31))) (g_E C 0 4 16) (g_E C 0 4 170) (g_E C 0 4 325) (cl_spt J X s.toNat) r) ∨ (¬ a_is C (cl_spt J X s.toNat) = true ∧ r = -2)) → Q (some (.int (m_i r))) (T', m_I J', P', L', z', w')) : m_call en (d + 7) mSc_least [.ref X, .int (m_i s)] (T, m_I J, P, L, z, w) Q := by
  have h0 := h
  obtain ⟨hV, ⟨pok, hmo, ok, h4, hC⟩, h6, h7, h8⟩ := h0
  have hX := hV.1
  have hN := hV.2.1
  have k0 := pok.1
  have k5 : 0 ≤ J (X + 17 + 12) 5 ∧ J (X + 17 + 12) 5 ≤ 6 := pok.2.2.2.2.1
  have e29 : J (X + 29) 5 = J (X + 17 + 12) 5 := rfl
  unfold m_in at hs
  have hb1 : (a_b (decide (0 ≤ s ∧ s < J (X + 17 + 12) 5)) = 1 ∧ (0 ≤ s ∧ s < J (X + 17 + 12) 5)) ∨ (a_b (decide (0 ≤ s ∧ s < J (X + 17 + 12) 5)) = 0 ∧ ¬ (0 ≤ s ∧ s < J (X + 17 + 12) 5)) := by
    by_cases q : 0 ≤ s ∧ s < J (X + 17 + 12) 5
    · exact Or.inl ⟨a_b_t (decide_eq_true q), q⟩
    · exact Or.inr ⟨a_b_f (by rw [decide_eq_true_eq]; exact q), q⟩
  refine m_into (by decide) (Nat.le_of_ble_eq_true rfl) rfl ?_
  show m_wp en _ mSc_least 0 [some (.ref X), some (.int (m_i (s)))] [] (T, m_I J, P, L, z, w) Q
  refine r_aln eSc_least_0 rfl ?_
  refine m_getR eSc_least_1 rfl (cl_t hX (i := 0) rfl) (cl_p hX (i := 1) rfl) ?_
  refine r_iln eSc_least_4 rfl ?_
  refine r_vir eSc_least_5 rfl rfl rfl (cl_t hX (i := 17) rfl) rfl rfl ?_
  refine c_Pl_hasSpot (cl_plan hX) pok ⟨by omega, by omega⟩ ?_
  show m_wp en _ mSc_least 8 [some (.ref X), some (.int (m_i (s)))] [(.int (m_i ((a_b (decide (0 ≤ s ∧ s < J (X + 17 + 12) 5))))))] (T, m_I J, P, L, z, w) Q
  refine r_zeq (tgt := 22) eSc_least_8 rfl ⟨(by omega), (by omega)⟩ (fun c8 => ?_) (fun c8 => ?_)
  · refine r_con eSc_least_22 ?_
    refine r_iret eSc_least_23 rfl ?_
    first | exact h1' (by omega) T J2 P L z w r k1 k2 k3 | exact h0' (by omega)
  · refine r_aln eSc_least_11 rfl ?_
    refine m_getR eSc_least_12 rfl (cl_t hX (i := 0) rfl) (cl_p hX (i := 7) rfl) ?_
    refine r_iln eSc_least_15 rfl ?_
    refine r_vir eSc_least_16 rfl rfl rfl (cl_t hX (i := 132) rfl) rfl rfl ?_
    refine c_Wa_pushesTo h (s := s) (by omega) (fun T J2 P L z w r k1 k2 k3 => ?_)
    show m_wp en _ mSc_least 19 [some (.ref X), some (.int (m_i (s)))] [(.int (m_i (r)))] (T, m_I J2, P, L, z, w) Q
    refine r_go (tgt := 23) eSc_least_19 rfl ?_
    refine r_iret eSc_least_23 rfl ?_
    first | exact h1' (by omega) T J2 P L z w r k1 k2 k3 | exact h0' (by omega)
theorem c_Sc_ifWind (h : cl_W en X N zb wb C T J P z w) (hs : m_in s) (hx : m_in x) (h0' : ¬ ((0 ≤ s ∧ s < J (X + 29) 5) ∧ -8 ≤ x ∧ x ≤ 8) → Q (some (.int (m_i (-1)))) (T, m_I J, P, L, z, w)) (h1' : ((0 ≤ s ∧ s < J (X + 29) 5) ∧ -8 ≤ x ∧ x ≤ 8) → ∀ T' J' P' L' z' w' r, cl_W en X N zb wb C T' J' P' z' w' → cl_q X N T J P L T' J' P' L' → cl_fx C 511 4 (a_step (po_get J (X + 31)) 4 x) (cl_spt J X s.toNat) r → Q (some (.int (m_i r))) (T', m_I J', P', L', z', w')) : m_call en (d + 5) mSc_ifWind [.ref X, .int (m_i s), .int (m_i x)] (T, m_I J, P, L, z, w) Q := by
  have h0 := h
  obtain ⟨hV, ⟨pok, hmo, ok, h4, hC⟩, h6, h7, h8⟩ := h0
  have hX := hV.1
  have hN := hV.2.1
  have k0 := pok.1
  have k5 : 0 ≤ J (X + 17 + 12) 5 ∧ J (X + 17 + 12) 5 ≤ 6 := pok.2.2.2.2.1
  have e29 : J (X + 29) 5 = J (X + 17 + 12) 5 := rfl
  unfold m_in at hs hx
  have hb1 : (a_b (decide (0 ≤ s ∧ s < J (X + 17 + 12) 5)) = 1 ∧ (0 ≤ s ∧ s < J (X + 17 + 12) 5)) ∨ (a_b (decide (0 ≤ s ∧ s < J (X + 17 + 12) 5)) = 0 ∧ ¬ (0 ≤ s ∧ s < J (X + 17 + 12) 5)) := by
    by_cases q : 0 ≤ s ∧ s < J (X + 17 + 12) 5
    · exact Or.inl ⟨a_b_t (decide_eq_true q), q⟩
    · exact Or.inr ⟨a_b_f (by rw [decide_eq_true_eq]; exact q), q⟩
  refine m_into (by decide) (Nat.le_of_ble_eq_true rfl) rfl ?_
  show m_wp en _ mSc_ifWind 0 [some (.ref X), some (.int (m_i (s))), some (.int (m_i (x)))] [] (T, m_I J, P, L, z, w) Q
  refine r_aln eSc_ifWind_0 rfl ?_
  refine m_getR eSc_ifWind_1 rfl (cl_t hX (i := 0) rfl) (cl_p hX (i := 1) rfl) ?_
  refine r_iln eSc_ifWind_4 rfl ?_
  refine r_vir eSc_ifWind_5 rfl rfl rfl (cl_t hX (i := 17) rfl) rfl rfl ?_
  refine c_Pl_hasSpot (cl_plan hX) pok ⟨by omega, by omega⟩ ?_
  show m_wp en _ mSc_ifWind 8 [some (.ref X), some (.int (m_i (s))), some (.int (m_i (x)))] [(.int (m_i ((a_b (decide (0 ≤ s ∧ s < J (X + 17 + 12) 5))))))] (T, m_I J, P, L, z, w) Q
  refine r_zeq (tgt := 23) eSc_ifWind_8 rfl ⟨(by omega), (by omega)⟩ (fun c8 => ?_) (fun c8 => ?_)
  · refine r_con eSc_ifWind_23 ?_
    refine r_iret eSc_ifWind_24 rfl ?_
    exact h0' (by omega)
  · refine r_iln eSc_ifWind_11 rfl ?_
    refine r_bip eSc_ifWind_12 (by decide) ?_
    refine r_clt (tgt := 23) eSc_ifWind_14 rfl ⟨(by omega), (by omega)⟩ ⟨(by omega), (by omega)⟩ (fun c14 => ?_) (fun c14 => ?_)
    · refine r_con eSc_ifWind_23 ?_
      refine r_iret eSc_ifWind_24 rfl ?_
      exact h0' (by omega)
    · refine r_iln eSc_ifWind_17 rfl ?_
      refine r_bip eSc_ifWind_18 (by decide) ?_
      refine r_cle (tgt := 25) eSc_ifWind_20 rfl ⟨(by omega), (by omega)⟩ ⟨(by omega), (by omega)⟩ (fun c20 => ?_) (fun c20 => ?_)
      · refine r_aln eSc_ifWind_25 rfl ?_
        refine m_getR eSc_ifWind_26 rfl (cl_t hX (i := 0) rfl) (cl_p hX (i := 7) rfl) ?_
        refine r_iln eSc_ifWind_29 rfl ?_
        refine r_iln eSc_ifWind_30 rfl ?_
        refine r_vir eSc_ifWind_31 rfl rfl rfl (cl_t hX (i := 132) rfl) rfl rfl ?_
        refine c_Wa_stepsBehindWind h (s := s) (f := x) (by omega) (by omega) (fun T J2 P L z w r k1 k2 k3 k4 => ?_)
        show m_wp en _ mSc_ifWind 34 [some (.ref X), some (.int (m_i (s))), some (.int (m_i (x)))] [(.int (m_i (r)))] (T, m_I J2, P, L, z, w) Q
        refine r_iret eSc_ifWind_34 rfl ?_
        exact h1' (by omega) T J2 P L z w r k1 k2 k3
      · refine r_con eSc_ifWind_23 ?_
        refine r_iret eSc_ifWind_24 rfl ?_
        exact h0' (by omega)
theorem c_Sc_ifPile (h : cl_W en X N zb wb C T J P z w) (hs : m_in s) (hx : m_in x) (h0' : ¬ ((0 ≤ x ∧ x < J (X + 17) 0) ∧ 0 ≤ s ∧ s < J (X + 29) 5) → Q (some (.int (m_i (-1)))) (T, m_I J, P, L, z, w)) (h1' : ((0 ≤ x ∧ x < J (X + 17) 0) ∧ 0 ≤ s ∧ s < J (X + 29) 5) → ∀ T' J' P' L' z' w' r, cl_W en X N zb wb C T' J' P' z' w' → cl_q X N T J P L T' J' P' L' → cl_fx (pl_cf J (X + 17) (m_up J (X + 32) x.toNat (J (X + 32) x.toNat + 1) (X + 32)) (J (X + 30) 2)) 511 4 (po_get J (X + 31)) (cl_spt J X s.toNat) r → Q (some (.int (m_i r))) (T', m_I J', P', L', z', w')) : m_call en (d + 6) mSc_ifPile [.ref X, .int (m_i x), .int (m_i s)] (T, m_I J, P, L, z, w) Q := by
  have h0 := h
  obtain ⟨hV, ⟨pok, hmo, ok, h4, hC⟩, h6, h7, h8⟩ := h0
  have hX := hV.1
  have hN := hV.2.1
  have k0 := pok.1
  have k5 : 0 ≤ J (X + 17 + 12) 5 ∧ J (X + 17 + 12) 5 ≤ 6 := pok.2.2.2.2.1
  have e29 : J (X + 29) 5 = J (X + 17 + 12) 5 := rfl
  unfold m_in at hs hx
  have hb1 : (a_b (decide (0 ≤ s ∧ s < J (X + 17 + 12) 5)) = 1 ∧ (0 ≤ s ∧ s < J (X + 17 + 12) 5)) ∨ (a_b (decide (0 ≤ s ∧ s < J (X + 17 + 12) 5)) = 0 ∧ ¬ (0 ≤ s ∧ s < J (X + 17 + 12) 5)) := by
    by_cases q : 0 ≤ s ∧ s < J (X + 17 + 12) 5
    · exact Or.inl ⟨a_b_t (decide_eq_true q), q⟩
    · exact Or.inr ⟨a_b_f (by rw [decide_eq_true_eq]; exact q), q⟩
  have hb2 : (a_b (decide (0 ≤ x ∧ x < J (X + 17) 0)) = 1 ∧ (0 ≤ x ∧ x < J (X + 17) 0)) ∨ (a_b (decide (0 ≤ x ∧ x < J (X + 17) 0)) = 0 ∧ ¬ (0 ≤ x ∧ x < J (X + 17) 0)) := by
    by_cases q : 0 ≤ x ∧ x < J (X + 17) 0
    · exact Or.inl ⟨a_b_t (decide_eq_true q), q⟩
    · exact Or.inr ⟨a_b_f (by rw [decide_eq_true_eq]; exact q), q⟩
  refine m_into (by decide) (Nat.le_of_ble_eq_true rfl) rfl ?_
  show m_wp en _ mSc_ifPile 0 [some (.ref X), some (.int (m_i (x))), some (.int (m_i (s)))] [] (T, m_I J, P, L, z, w) Q
  refine r_aln eSc_ifPile_0 rfl ?_
  refine m_getR eSc_ifPile_1 rfl (cl_t hX (i := 0) rfl) (cl_p hX (i := 1) rfl) ?_
  refine r_iln eSc_ifPile_4 rfl ?_
  refine r_vir eSc_ifPile_5 rfl rfl rfl (cl_t hX (i := 17) rfl) rfl rfl ?_
  refine c_Pl_hasColumn (cl_plan hX) pok ⟨by omega, by omega⟩ ?_
  show m_wp en _ mSc_ifPile 8 [some (.ref X), some (.int (m_i (x))), some (.int (m_i (s)))] [(.int (m_i ((a_b (decide (0 ≤ x ∧ x < J (X + 17) 0))))))] (T, m_I J, P, L, z, w) Q
  refine r_zeq (tgt := 22) eSc_ifPile_8 rfl ⟨(by omega), (by omega)⟩ (fun c8 => ?_) (fun c8 => ?_)
  · refine r_con eSc_ifPile_22 ?_
    refine r_iret eSc_ifPile_23 rfl ?_
    exact h0' (by omega)
  · refine r_aln eSc_ifPile_11 rfl ?_
    refine m_getR eSc_ifPile_12 rfl (cl_t hX (i := 0) rfl) (cl_p hX (i := 1) rfl) ?_
    refine r_iln eSc_ifPile_15 rfl ?_
    refine r_vir eSc_ifPile_16 rfl rfl rfl (cl_t hX (i := 17) rfl) rfl rfl ?_
    refine c_Pl_hasSpot (cl_plan hX) pok ⟨by omega, by omega⟩ ?_
    show m_wp en _ mSc_ifPile 19 [some (.ref X), some (.int (m_i (x))), some (.int (m_i (s)))] [(.int (m_i ((a_b (decide (0 ≤ s ∧ s < J (X + 17 + 12) 5))))))] (T, m_I J, P, L, z, w) Q
    refine r_zne (tgt := 24) eSc_ifPile_19 rfl ⟨(by omega), (by omega)⟩ (fun c19 => ?_) (fun c19 => ?_)
    · refine r_aln eSc_ifPile_24 rfl ?_
      refine m_getR eSc_ifPile_25 rfl (cl_t hX (i := 0) rfl) (cl_p hX (i := 7) rfl) ?_
      refine r_iln eSc_ifPile_28 rfl ?_
      refine r_iln eSc_ifPile_29 rfl ?_
      refine r_vir eSc_ifPile_30 rfl rfl rfl (cl_t hX (i := 132) rfl) rfl rfl ?_
      refine c_Wa_stepsUnderPile h (s := s) (x := x) (by omega) (by omega) (fun T J2 P L z w r k1 k2 k3 k4 => ?_)
      show m_wp en _ mSc_ifPile 33 [some (.ref X), some (.int (m_i (x))), some (.int (m_i (s)))] [(.int (m_i (r)))] (T, m_I J2, P, L, z, w) Q
      refine r_iret eSc_ifPile_33 rfl ?_
      exact h1' (by omega) T J2 P L z w r k1 k2 k3
    · refine r_con eSc_ifPile_22 ?_
      refine r_iret eSc_ifPile_23 rfl ?_
      exact h0' (by omega)
theorem c_Sc_halt (h : cl_W en X N zb wb C T J P z w) (h1' : ∀ T' J' P' L' z' w' r, cl_W en X N zb wb C T' J' P' z' w' → cl_q X N T J P L T' J' P' L' → cl_fh C (po_get J (X + 31)) r → Q (some (.int (m_i r))) (T', m_I J', P', L', z', w')) : m_call en (d + 5) mSc_halt [.ref X] (T, m_I J, P, L, z, w) Q := by
  have h0 := h
  obtain ⟨hV, ⟨pok, hmo, ok, h4, hC⟩, h6, h7, h8⟩ := h0
  have hX := hV.1
  have hN := hV.2.1
  have k0 := pok.1
  have k5 : 0 ≤ J (X + 17 + 12) 5 ∧ J (X + 17 + 12) 5 ≤ 6 := pok.2.2.2.2.1
  have e29 : J (X + 29) 5 = J (X + 17 + 12) 5 := rfl
  refine m_into (by decide) (Nat.le_of_ble_eq_true rfl) rfl ?_
  show m_wp en _ mSc_halt 0 [some (.ref X)] [] (T, m_I J, P, L, z, w) Q
  refine r_aln eSc_halt_0 rfl ?_
  refine m_getR eSc_halt_1 rfl (cl_t hX (i := 0) rfl) (cl_p hX (i := 7) rfl) ?_
  refine r_aln eSc_halt_4 rfl ?_
  refine m_getR eSc_halt_5 rfl (cl_t hX (i := 0) rfl) (cl_p hX (i := 2) rfl) ?_
  refine m_getR eSc_halt_8 rfl (cl_t hX (i := 30) rfl) (cl_p hX (i := 38) rfl) ?_
  refine r_vir eSc_halt_11 rfl rfl rfl (cl_t hX (i := 132) rfl) rfl rfl ?_
  refine c_Wa_stepsHome h (k := 31) (by decide) (a_bx_sm hmo.2.2.2.2) (fun T J2 P L z w r k1 k2 k3 k4 k5' k6 k7 => ?_)
  show m_wp en _ mSc_halt 14 [some (.ref X)] [(.int (m_i (r)))] (T, m_I J2, P, L, z, w) Q
  refine r_iret eSc_halt_14 rfl ?_
  exact h1' T J2 P L z w r k1 k2 k4
theorem c_Sc_between (h : cl_W en X N zb wb C T J P z w) (hs : m_in s) (hx : m_in x) (h0' : ¬ ((0 ≤ s ∧ s < J (X + 29) 5) ∧ 0 ≤ x ∧ x < J (X + 29) 5) → Q (some (.int (m_i (-1)))) (T, m_I J, P, L, z, w)) (h1' : ((0 ≤ s ∧ s < J (X + 29) 5) ∧ 0 ≤ x ∧ x < J (X + 29) 5) → s = x → Q (some (.int (m_i 0))) (T, m_I J, P, L, z, w)) (h2' : ((0 ≤ s ∧ s < J (X + 29) 5) ∧ 0 ≤ x ∧ x < J (X + 29) 5) → s ≠ x → ∀ T' J' P' L' z' w' r, cl_W en X N zb wb C T' J' P' z' w' → cl_q X N T J P L T' J' P' L' → cl_leg J X C s.toNat x.toNat r → Q (some (.int (m_i r))) (T', m_I J', P', L', z', w')) : m_call en (d + 6) mSc_between [.ref X, .int (m_i s), .int (m_i x)] (T, m_I J, P, L, z, w) Q := by
  have h0 := h
  obtain ⟨hV, ⟨pok, hmo, ok, h4, hC⟩, h6, h7, h8⟩ := h0
  have hX := hV.1
  have hN := hV.2.1
  have k0 := pok.1
  have k5 : 0 ≤ J (X + 17 + 12) 5 ∧ J (X + 17 + 12) 5 ≤ 6 := pok.2.2.2.2.1
  have e29 : J (X + 29) 5 = J (X + 17 + 12) 5 := rfl
  unfold m_in at hs hx
  have hb1 : (a_b (decide (0 ≤ s ∧ s < J (X + 17 + 12) 5)) = 1 ∧ (0 ≤ s ∧ s < J (X + 17 + 12) 5)) ∨ (a_b (decide (0 ≤ s ∧ s < J (X + 17 + 12) 5)) = 0 ∧ ¬ (0 ≤ s ∧ s < J (X + 17 + 12) 5)) := by
    by_cases q : 0 ≤ s ∧ s < J (X + 17 + 12) 5
    · exact Or.inl ⟨a_b_t (decide_eq_true q), q⟩
    · exact Or.inr ⟨a_b_f (by rw [decide_eq_true_eq]; exact q), q⟩
  have hb2 : (a_b (decide (0 ≤ x ∧ x < J (X + 17 + 12) 5)) = 1 ∧ (0 ≤ x ∧ x < J (X + 17 + 12) 5)) ∨ (a_b (decide (0 ≤ x ∧ x < J (X + 17 + 12) 5)) = 0 ∧ ¬ (0 ≤ x ∧ x < J (X + 17 + 12) 5)) := by
    by_cases q : 0 ≤ x ∧ x < J (X + 17 + 12) 5
    · exact Or.inl ⟨a_b_t (decide_eq_true q), q⟩
    · exact Or.inr ⟨a_b_f (by rw [decide_eq_true_eq]; exact q), q⟩
  refine m_into (by decide) (Nat.le_of_ble_eq_true rfl) rfl ?_
  show m_wp en _ mSc_between 0 [some (.ref X), some (.int (m_i (s))), some (.int (m_i (x)))] [] (T, m_I J, P, L, z, w) Q
  refine r_aln eSc_between_0 rfl ?_
  refine m_getR eSc_between_1 rfl (cl_t hX (i := 0) rfl) (cl_p hX (i := 1) rfl) ?_
  refine r_iln eSc_between_4 rfl ?_
  refine r_vir eSc_between_5 rfl rfl rfl (cl_t hX (i := 17) rfl) rfl rfl ?_
  refine c_Pl_hasSpot (cl_plan hX) pok ⟨by omega, by omega⟩ ?_
  show m_wp en _ mSc_between 8 [some (.ref X), some (.int (m_i (s))), some (.int (m_i (x)))] [(.int (m_i ((a_b (decide (0 ≤ s ∧ s < J (X + 17 + 12) 5))))))] (T, m_I J, P, L, z, w) Q
  refine r_zeq (tgt := 22) eSc_between_8 rfl ⟨(by omega), (by omega)⟩ (fun c8 => ?_) (fun c8 => ?_)
  · refine r_con eSc_between_22 ?_
    refine r_iret eSc_between_23 rfl ?_
    exact h0' (by omega)
  · refine r_aln eSc_between_11 rfl ?_
    refine m_getR eSc_between_12 rfl (cl_t hX (i := 0) rfl) (cl_p hX (i := 1) rfl) ?_
    refine r_iln eSc_between_15 rfl ?_
    refine r_vir eSc_between_16 rfl rfl rfl (cl_t hX (i := 17) rfl) rfl rfl ?_
    refine c_Pl_hasSpot (cl_plan hX) pok ⟨by omega, by omega⟩ ?_
    show m_wp en _ mSc_between 19 [some (.ref X), some (.int (m_i (s))), some (.int (m_i (x)))] [(.int (m_i ((a_b (decide (0 ≤ x ∧ x < J (X + 17 + 12) 5))))))] (T, m_I J, P, L, z, w) Q
    refine r_zne (tgt := 24) eSc_between_19 rfl ⟨(by omega), (by omega)⟩ (fun c19 => ?_) (fun c19 => ?_)
    · refine r_iln eSc_between_24 rfl ?_
      refine r_iln eSc_between_25 rfl ?_
      refine r_cne (tgt := 33) eSc_between_26 rfl ⟨(by omega), (by omega)⟩ ⟨(by omega), (by omega)⟩ (fun c26 => ?_) (fun c26 => ?_)
      · refine r_aln eSc_between_33 rfl ?_
        refine m_getR eSc_between_34 rfl (cl_t hX (i := 0) rfl) (cl_p hX (i := 7) rfl) ?_
        refine r_iln eSc_between_37 rfl ?_
        refine r_iln eSc_between_38 rfl ?_
        refine r_vir eSc_between_39 rfl rfl rfl (cl_t hX (i := 132) rfl) rfl rfl ?_
        refine c_leg10 (f := s) (t := x) h (by omega) (by omega) (fun T J2 P L z w r k1 k2 k3 => ?_)
        show m_wp en _ mSc_between 42 [some (.ref X), some (.int (m_i (s))), some (.int (m_i (x)))] [(.int (m_i (r)))] (T, m_I J2, P, L, z, w) Q
        refine r_iret eSc_between_42 rfl ?_
        first | exact h1' (by omega) (by omega) | exact h2' (by omega) (by omega) T J2 P L z w r k1 k2 k3
      · refine r_con eSc_between_29 ?_
        refine r_go (tgt := 42) eSc_between_30 rfl ?_
        refine r_iret eSc_between_42 rfl ?_
        first | exact h1' (by omega) (by omega) | exact h2' (by omega) (by omega) T J2 P L z w r k1 k2 k3
    · refine r_con eSc_between_22 ?_
      refine r_iret eSc_between_23 rfl ?_
      exact h0' (by omega)
theorem c_Sc_by (h : cl_W en X N zb wb C T J P z w) (hs : m_in s) (hx : m_in x) (h0' : ¬ ((0 ≤ s ∧ s < J (X + 29) 5) ∧ 0 ≤ x) → Q (some (.int (m_i (-1)))) (T, m_I J, P, L, z, w)) (h1' : ((0 ≤ s ∧ s < J (X + 29) 5) ∧ 0 ≤ x) → ∀ T' J' P' L' z' w' r, cl_W en X N zb wb C T' J' P' z' w' → cl_q X N T J P L T' J' P' L' → cl_fw C (po_get J (X + 31)) (cl_spt J X s.toNat) r → r ≤ x → Q (some (.int (m_i (-2)))) (T', m_I J', P', L', z', w')) (h2' : ((0 ≤ s ∧ s < J (X + 29) 5) ∧ 0 ≤ x) → ∀ T' J' P' L' z' w' r f c, cl_W en X N zb wb C T' J' P' z' w' → cl_q X N T J P L T' J' P' L' → cl_fw C (po_get J (X + 31)) (cl_spt J X s.toNat) r → x < r → cl_wy C (po_get J (X + 31)) (cl_spt J X s.toNat) f c r.toNat → Q (some (.int (m_i (c (r - 1 - x).toNat)))) (T', m_I J', P', L', z', w')) : m_call en (d + 5) mSc_by [.ref X, .int (m_i s), .int (m_i x)] (T, m_I J, P, L, z, w) Q := by
  have h0 := h
  obtain ⟨hV, ⟨pok, hmo, ok, h4, hC⟩, h6, h7, h8⟩ := h0
  have hX := hV.1
  have hN := hV.2.1
  have k0 := pok.1
  have k5 : 0 ≤ J (X + 17 + 12) 5 ∧ J (X + 17 + 12) 5 ≤ 6 := pok.2.2.2.2.1
  have e29 : J (X + 29) 5 = J (X + 17 + 12) 5 := rfl
  unfold m_in at hs hx
  have hb1 : (a_b (decide (0 ≤ s ∧ s < J (X + 17 + 12) 5)) = 1 ∧ (0 ≤ s ∧ s < J (X + 17 + 12) 5)) ∨ (a_b (decide (0 ≤ s ∧ s < J (X + 17 + 12) 5)) = 0 ∧ ¬ (0 ≤ s ∧ s < J (X + 17 + 12) 5)) := by
    by_cases q : 0 ≤ s ∧ s < J (X + 17 + 12) 5
    · exact Or.inl ⟨a_b_t (decide_eq_true q), q⟩
    · exact Or.inr ⟨a_b_f (by rw [decide_eq_true_eq]; exact q), q⟩
  refine m_into (by decide) (Nat.le_of_ble_eq_true rfl) rfl ?_
  show m_wp en _ mSc_by 0 [some (.ref X), some (.int (m_i (s))), some (.int (m_i (x))), none] [] (T, m_I J, P, L, z, w) Q
  refine r_aln eSc_by_0 rfl ?_
  refine m_getR eSc_by_1 rfl (cl_t hX (i := 0) rfl) (cl_p hX (i := 1) rfl) ?_
  refine r_iln eSc_by_4 rfl ?_
  refine r_vir eSc_by_5 rfl rfl rfl (cl_t hX (i := 17) rfl) rfl rfl ?_
  refine c_Pl_hasSpot (cl_plan hX) pok ⟨by omega, by omega⟩ ?_
  show m_wp en _ mSc_by 8 [some (.ref X), some (.int (m_i (s))), some (.int (m_i (x))), none] [(.int (m_i ((a_b (decide (0 ≤ s ∧ s < J (X + 17 + 12) 5))))))] (T, m_I J, P, L, z, w) Q
  refine r_zeq (tgt := 15) eSc_by_8 rfl ⟨(by omega), (by omega)⟩ (fun c8 => ?_) (fun c8 => ?_)
  · refine r_con eSc_by_15 ?_
    refine r_iret eSc_by_16 rfl ?_
    exact h0' (by omega)
  · refine r_iln eSc_by_11 rfl ?_
    refine r_zge (tgt := 17) eSc_by_12 rfl ⟨(by omega), (by omega)⟩ (fun c12 => ?_) (fun c12 => ?_)
    · refine r_aln eSc_by_17 rfl ?_
      refine m_getR eSc_by_18 rfl (cl_t hX (i := 0) rfl) (cl_p hX (i := 7) rfl) ?_
      refine r_iln eSc_by_21 rfl ?_
      refine r_vir eSc_by_22 rfl rfl rfl (cl_t hX (i := 132) rfl) rfl rfl ?_
      refine c_Wa_stepsToSpot h (s := s) (by omega) (fun T J2 P L z w r k1 k2 k3 k4 k5' k6 => ?_)
      have hX := k1.1.1
      have elo : ∀ b i, b < X + 132 → J2 b i = J b i := fun b i q => k2.2.1 b i (by omega)
      have espt := cl_spt_e (k := s.toNat) elo
      have e292 : J2 (X + 29) 5 = J (X + 29) 5 := elo _ _ (by omega)
      have his : 0 ≤ r → a_is C (cl_spt J X s.toNat) = true := cl_fw_is k4
      show m_wp en _ mSc_by 25 [some (.ref X), some (.int (m_i (s))), some (.int (m_i (x))), none] [(.int (m_i (r)))] (T, m_I J2, P, L, z, w) Q
      refine r_isn (ls' := [some (.ref X), some (.int (m_i (s))), some (.int (m_i (x))), some (.int (m_i (r)))]) eSc_by_25 (Nat.le_of_ble_eq_true rfl) rfl ?_
      refine r_iln eSc_by_26 rfl ?_
      refine r_iln eSc_by_27 rfl ?_
      refine r_clt (tgt := 36) eSc_by_28 rfl ⟨(by omega), (by omega)⟩ ⟨(by omega), (by omega)⟩ (fun c28 => ?_) (fun c28 => ?_)
      · refine r_aln eSc_by_36 rfl ?_
        refine m_getR eSc_by_37 rfl (cl_t hX (i := 0) rfl) (cl_p hX (i := 7) rfl) ?_
        refine r_iln eSc_by_40 rfl ?_
        refine r_iln eSc_by_41 rfl ?_
        refine r_con eSc_by_42 ?_
        refine r_sub eSc_by_43 ?_
        refine r_iln eSc_by_44 rfl ?_
        refine r_sub eSc_by_45 ?_
        refine r_vir eSc_by_46 rfl rfl rfl (cl_t hX (i := 132) rfl) rfl rfl ?_
        obtain ⟨sb, esb⟩ : ∃ sb : Nat, r - 1 - x = (sb : Int) := ⟨(r - 1 - x).toNat, by omega⟩
        rw [esb]
        refine c_Wa_codeOnWay k1 k3 (s := s) (r := r) (sb := sb) (by omega) (by rw [espt]; exact his (by omega)) (by rw [espt]; exact k5' (his (by omega))) (by omega) (fun J3 f c m1 m2 m3 => ?_)
        rw [espt, po_get_e (fun i => elo (X + 31) i (by omega))] at m3
        show m_wp en _ mSc_by 49 [some (.ref X), some (.int (m_i (s))), some (.int (m_i (x))), some (.int (m_i (r)))] [(.int (m_i ((c sb))))] (T, m_I J3, P, L, z, w) Q
        refine r_iret eSc_by_49 rfl ?_
        first | exact h1' (by omega) T J2 P L z w r k1 k2 k4 (by omega) | (have h9 := h2' (by omega) T J3 P L z w r f c m1 (cl_q_t k2 m2) k4 (by omega) m3; rw [show (r - 1 - x).toNat = sb by omega] at h9; exact h9)
      · refine r_bip eSc_by_31 (by decide) ?_
        refine r_go (tgt := 49) eSc_by_33 rfl ?_
        refine r_iret eSc_by_49 rfl ?_
        first | exact h1' (by omega) T J2 P L z w r k1 k2 k4 (by omega) | (have h9 := h2' (by omega) T J3 P L z w r f c m1 (cl_q_t k2 m2) k4 (by omega) m3; rw [show (r - 1 - x).toNat = sb by omega] at h9; exact h9)
    · refine r_con eSc_by_15 ?_
      refine r_iret eSc_by_16 rfl ?_
      exact h0' (by omega)
theorem c_Sc_along (h : cl_W en X N zb wb C T J P z w) (hs : m_in s) (hx : m_in x) (h0' : ¬ ((0 ≤ s ∧ s < J (X + 29) 5) ∧ 0 ≤ x ∧ x ≤ 4) → Q (some (.int (m_i (-99)))) (T, m_I J, P, L, z, w)) (h1' : ((0 ≤ s ∧ s < J (X + 29) 5) ∧ 0 ≤ x ∧ x ≤ 4) → ∀ T' J' P' L' z' w' r, cl_W en X N zb wb C T' J' P' z' w' → cl_q X N T J P L T' J' P' L' → cl_fw C (po_get J (X + 31)) (cl_spt J X s.toNat) r → r < 0 → Q (some (.int (m_i (-2)))) (T', m_I J', P', L', z', w')) (h2' : ((0 ≤ s ∧ s < J (X + 29) 5) ∧ 0 ≤ x ∧ x ≤ 4) → ∀ T' J' P' L' z' w' r f c, cl_W en X N zb wb C T' J' P' z' w' → cl_q X N T J P L T' J' P' L' → cl_fw C (po_get J (X + 31)) (cl_spt J X s.toNat) r → 0 ≤ r → cl_wy C (po_get J (X + 31)) (cl_spt J X s.toNat) f c r.toNat → Q (some (.int (m_i (cl_al C x f c r.toNat)))) (T', m_I J', P', L', z', w')) : m_call en (d + 5) mSc_along [.ref X, .int (m_i s), .int (m_i x)] (T, m_I J, P, L, z, w) Q := by
  have h0 := h
  obtain ⟨hV, ⟨pok, hmo, ok, h4, hC⟩, h6, h7, h8⟩ := h0
  have hX := hV.1
  have hN := hV.2.1
  have k0 := pok.1
  have k5 : 0 ≤ J (X + 17 + 12) 5 ∧ J (X + 17 + 12) 5 ≤ 6 := pok.2.2.2.2.1
  have e29 : J (X + 29) 5 = J (X + 17 + 12) 5 := rfl
  unfold m_in at hs hx
  have hb1 : (a_b (decide (0 ≤ s ∧ s < J (X + 17 + 12) 5)) = 1 ∧ (0 ≤ s ∧ s < J (X + 17 + 12) 5)) ∨ (a_b (decide (0 ≤ s ∧ s < J (X + 17 + 12) 5)) = 0 ∧ ¬ (0 ≤ s ∧ s < J (X + 17 + 12) 5)) := by
    by_cases q : 0 ≤ s ∧ s < J (X + 17 + 12) 5
    · exact Or.inl ⟨a_b_t (decide_eq_true q), q⟩
    · exact Or.inr ⟨a_b_f (by rw [decide_eq_true_eq]; exact q), q⟩
  refine m_into (by decide) (Nat.le_of_ble_eq_true rfl) rfl ?_
  show m_wp en _ mSc_along 0 [some (.ref X), some (.int (m_i (s))), some (.int (m_i (x)))] [] (T, m_I J, P, L, z, w) Q
  refine r_aln eSc_along_0 rfl ?_
  refine m_getR eSc_along_1 rfl (cl_t hX (i := 0) rfl) (cl_p hX (i := 1) rfl) ?_
  refine r_iln eSc_along_4 rfl ?_
  refine r_vir eSc_along_5 rfl rfl rfl (cl_t hX (i := 17) rfl) rfl rfl ?_
  refine c_Pl_hasSpot (cl_plan hX) pok ⟨by omega, by omega⟩ ?_
  show m_wp en _ mSc_along 8 [some (.ref X), some (.int (m_i (s))), some (.int (m_i (x)))] [(.int (m_i ((a_b (decide (0 ≤ s ∧ s < J (X + 17 + 12) 5))))))] (T, m_I J, P, L, z, w) Q
  refine r_zeq (tgt := 20) eSc_along_8 rfl ⟨(by omega), (by omega)⟩ (fun c8 => ?_) (fun c8 => ?_)
  · refine r_bip eSc_along_20 (by decide) ?_
    refine r_iret eSc_along_22 rfl ?_
    exact h0' (by omega)
  · refine r_iln eSc_along_11 rfl ?_
    refine r_zlt (tgt := 20) eSc_along_12 rfl ⟨(by omega), (by omega)⟩ (fun c12 => ?_) (fun c12 => ?_)
    · refine r_bip eSc_along_20 (by decide) ?_
      refine r_iret eSc_along_22 rfl ?_
      exact h0' (by omega)
    · refine r_iln eSc_along_15 rfl ?_
      refine r_con eSc_along_16 ?_
      refine r_cle (tgt := 23) eSc_along_17 rfl ⟨(by omega), (by omega)⟩ ⟨(by omega), (by omega)⟩ (fun c17 => ?_) (fun c17 => ?_)
      · refine r_aln eSc_along_23 rfl ?_
        refine m_getR eSc_along_24 rfl (cl_t hX (i := 0) rfl) (cl_p hX (i := 7) rfl) ?_
        refine r_iln eSc_along_27 rfl ?_
        refine r_vir eSc_along_28 rfl rfl rfl (cl_t hX (i := 132) rfl) rfl rfl ?_
        refine c_Wa_stepsToSpot h (s := s) (by omega) (fun T J2 P L z w r k1 k2 k3 k4 k5' k6 => ?_)
        have hX := k1.1.1
        have elo : ∀ b i, b < X + 132 → J2 b i = J b i := fun b i q => k2.2.1 b i (by omega)
        have espt := cl_spt_e (k := s.toNat) elo
        have e292 : J2 (X + 29) 5 = J (X + 29) 5 := elo _ _ (by omega)
        have his : 0 ≤ r → a_is C (cl_spt J X s.toNat) = true := cl_fw_is k4
        show m_wp en _ mSc_along 31 [some (.ref X), some (.int (m_i (s))), some (.int (m_i (x)))] [(.int (m_i (r)))] (T, m_I J2, P, L, z, w) Q
        refine r_zge (tgt := 39) eSc_along_31 rfl ⟨(by omega), (by omega)⟩ (fun c31 => ?_) (fun c31 => ?_)
        · refine r_aln eSc_along_39 rfl ?_
          refine m_getR eSc_along_40 rfl (cl_t hX (i := 0) rfl) (cl_p hX (i := 7) rfl) ?_
          refine r_iln eSc_along_43 rfl ?_
          refine r_iln eSc_along_44 rfl ?_
          refine r_vir eSc_along_45 rfl rfl rfl (cl_t hX (i := 132) rfl) rfl rfl ?_
          refine c_Wa_onWay k1 k3 (s := s) (r := r) (what := x) (by omega) (by rw [espt]; exact his (by omega)) (by rw [espt]; exact k5' (his (by omega))) (by omega) (by omega) (fun J3 f c m1 m2 m3 => ?_)
          rw [espt, po_get_e (fun i => elo (X + 31) i (by omega))] at m3
          show m_wp en _ mSc_along 48 [some (.ref X), some (.int (m_i (s))), some (.int (m_i (x)))] [(.int (m_i ((cl_al C x f c r.toNat))))] (T, m_I J3, P, L, z, w) Q
          refine r_iret eSc_along_48 rfl ?_
          first | exact h1' (by omega) T J2 P L z w r k1 k2 k4 (by omega) | exact h2' (by omega) T J3 P L z w r f c m1 (cl_q_t k2 m2) k4 (by omega) m3
        · refine r_bip eSc_along_34 (by decide) ?_
          refine r_go (tgt := 48) eSc_along_36 rfl ?_
          refine r_iret eSc_along_48 rfl ?_
          first | exact h1' (by omega) T J2 P L z w r k1 k2 k4 (by omega) | exact h2' (by omega) T J3 P L z w r f c m1 (cl_q_t k2 m2) k4 (by omega) m3
      · refine r_bip eSc_along_20 (by decide) ?_
        refine r_iret eSc_along_22 rfl ?_
        exact h0' (by omega)
end SCW
