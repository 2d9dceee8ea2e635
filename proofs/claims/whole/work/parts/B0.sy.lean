/-! the class: steadiest, bears, flow -/
section SCO
variable {en : Nat → Nat} {d : Nat} {T T' T0 : Nat → Option (Nat × Nat)} {J J' J0 K H : Nat → Nat → Int} {P P' P0 : Nat → Nat → Option Nat} {L L' L0 : Nat → Nat → Int64} {z w z' w' A B R X N zb wb n : Nat} {Q : m_Q} {σ τ : a_S} {C : a_C} {v s : Int}
theorem l_Sc_steadiest {r0 : Int} (hn : (n : Int) = J0 (X + 17) 3) (hn4 : n ≤ 4) (hs : 0 ≤ s ∧ s < J0 (X + 29) 5) (hq : ∀ T' J' P' L' z' w' (m : Nat), cl_W en X N zb wb C T' J' P' z' w' → cl_q X N T0 J0 P0 L0 T' J' P' L' → m ≤ n → (∀ j, j < m → ∃ r, cl_fx C 511 (j : Int) (po_get J0 (X + 31)) (cl_spt J0 X s.toNat) r ∧ r < 0) → (m < n → ∃ r, cl_fx C 511 (m : Int) (po_get J0 (X + 31)) (cl_spt J0 X s.toNat) r ∧ 0 ≤ r) → Q (some (.int (m_i (m : Int)))) (T', m_I J', P', L', z', w')) :
    ∀ (m k : Nat) (T : Nat → Option (Nat × Nat)) (J : Nat → Nat → Int) (P : Nat → Nat → Option Nat) (L : Nat → Nat → Int64) (z w : Nat), k + m = n → cl_W en X N zb wb C T J P z w → cl_q X N T0 J0 P0 L0 T J P L → (∀ j, j < k → ∃ r, cl_fx C 511 (j : Int) (po_get J0 (X + 31)) (cl_spt J0 X s.toNat) r ∧ r < 0) → m_wp en (d + 4) mSc_steadiest 30 [some (.ref X), some (.int (m_i s)), some (.int (m_i r0)), some (.int (m_i (k : Int)))] [] (T, m_I J, P, L, z, w) Q := by
  intro m
  induction m with
  | zero =>
    intro k T J P L z w hk hW hc hr
    obtain rfl : k = n := by omega
    have h9 := hq T J P L z w k hW hc (by omega) hr (fun q => absurd q (by omega))
    have hX := hW.1.1
    have e5 : J (X + 17) 3 = (k : Int) := by rw [hc.2.1 _ _ (by omega)]; omega
    rw [← e5] at h9
    refine r_iln eSc_steadiest_30 rfl ?_
    refine r_aln eSc_steadiest_31 rfl ?_
    refine m_getR eSc_steadiest_32 rfl (cl_t hX (i := 0) rfl) (cl_p hX (i := 1) rfl) ?_
    refine r_gete (x := J (X + 17) 3) eSc_steadiest_35 rfl (by decide) (cl_t hX (i := 17) rfl) rfl ?_
    refine r_cge (tgt := 64) eSc_steadiest_38 rfl ⟨(by omega), (by omega)⟩ ⟨(by omega), (by omega)⟩ (fun c38 => ?_) (fun c38 => ?_)
    · refine r_aln eSc_steadiest_64 rfl ?_
      refine m_getR eSc_steadiest_65 rfl (cl_t hX (i := 0) rfl) (cl_p hX (i := 1) rfl) ?_
      refine r_gete (x := J (X + 17) 3) eSc_steadiest_68 rfl (by decide) (cl_t hX (i := 17) rfl) rfl ?_
      refine r_iret eSc_steadiest_71 rfl ?_
      exact h9
    · exfalso; omega
  | succ m ih =>
    intro k T J P L z w hk hW hc hr
    have hX := hW.1.1
    have e5 : J (X + 17) 3 = (n : Int) := by rw [hc.2.1 _ _ (by omega)]; omega
    have e6 : J (X + 29) 5 = J0 (X + 29) 5 := hc.2.1 _ _ (by omega)
    have e31 : po_get J (X + 31) = po_get J0 (X + 31) := po_get_e (fun i => hc.2.1 _ _ (by omega))
    have est : cl_spt J X s.toNat = cl_spt J0 X s.toNat := cl_spt_e (fun b i q => hc.2.1 b i (by omega))
    have ek : ((k + 1 : Nat) : Int) = (k : Int) + 1 := by omega
    have hnx : ∀ T' J' P' L' z' w' r, cl_W en X N zb wb C T' J' P' z' w' → cl_q X N T J P L T' J' P' L' → cl_fx C 511 (k : Int) (po_get J (X + 31)) (cl_spt J X s.toNat) r → (0 ≤ r → Q (some (.int (m_i (k : Int)))) (T', m_I J', P', L', z', w')) ∧ (r < 0 → m_wp en (d + 4) mSc_steadiest 30 [some (.ref X), some (.int (m_i s)), some (.int (m_i r0)), some (.int (m_i ((k : Int) + 1)))] [] (T', m_I J', P', L', z', w') Q) := fun T' J' P' L' z' w' r g1 g2 g3 => by
      rw [e31, est] at g3
      refine ⟨fun q => hq T' J' P' L' z' w' k g1 (cl_q_t hc g2) (by omega) hr (fun _ => ⟨r, g3, q⟩), fun q => ?_⟩
      have := ih (k + 1) T' J' P' L' z' w' (by omega) g1 (cl_q_t hc g2) (fun j hj => by
        by_cases e : j = k
        · subst e; exact ⟨r, g3, q⟩
        · exact hr j (by omega))
      rw [ek] at this
      exact this
    refine r_iln eSc_steadiest_30 rfl ?_
    refine r_aln eSc_steadiest_31 rfl ?_
    refine m_getR eSc_steadiest_32 rfl (cl_t hX (i := 0) rfl) (cl_p hX (i := 1) rfl) ?_
    refine r_gete (x := J (X + 17) 3) eSc_steadiest_35 rfl (by decide) (cl_t hX (i := 17) rfl) rfl ?_
    refine r_cge (tgt := 64) eSc_steadiest_38 rfl ⟨(by omega), (by omega)⟩ ⟨(by omega), (by omega)⟩ (fun c38 => ?_) (fun c38 => ?_)
    · exfalso; omega
    · refine r_aln eSc_steadiest_41 rfl ?_
      refine m_getR eSc_steadiest_42 rfl (cl_t hX (i := 0) rfl) (cl_p hX (i := 7) rfl) ?_
      refine r_iln eSc_steadiest_45 rfl ?_
      refine r_sip eSc_steadiest_46 (by decide) ?_
      refine r_iln eSc_steadiest_49 rfl ?_
      refine r_vir eSc_steadiest_50 rfl rfl rfl (cl_t hX (i := 132) rfl) rfl rfl ?_
      refine c_Wa_stepsBySome hW (s := s) (by omega) ⟨by omega, by omega⟩ (by omega) (fun T J2 P L z w r k1 k2 k3 k4 => ?_)
      have hX := k1.1.1
      obtain ⟨hA, hB⟩ := hnx T J2 P L z w r k1 k2 k3
      show m_wp en _ mSc_steadiest 53 [some (.ref X), some (.int (m_i (s))), some (.int (m_i (r0))), some (.int (m_i ((k : Int))))] [(.int (m_i (r)))] (T, m_I J2, P, L, z, w) Q
      refine r_zlt (tgt := 58) eSc_steadiest_53 rfl ⟨(by omega), (by omega)⟩ (fun c53 => ?_) (fun c53 => ?_)
      · refine r_inc (ls' := [some (.ref X), some (.int (m_i (s))), some (.int (m_i (r0))), some (.int (m_i ((k : Int) + 1)))]) eSc_steadiest_58 rfl rfl ?_
        refine r_go (tgt := 30) eSc_steadiest_61 rfl ?_
        exact hB (by omega)
      · refine r_iln eSc_steadiest_56 rfl ?_
        refine r_iret eSc_steadiest_57 rfl ?_
        exact hA (by omega)
theorem c_Sc_steadiest (h : cl_W en X N zb wb C T J P z w) (hs : m_in s) (hn : (n : Int) = J (X + 17) 3) (h0' : ¬ (0 ≤ s ∧ s < J (X + 29) 5) → Q (some (.int (m_i (-1)))) (T, m_I J, P, L, z, w)) (h1' : (0 ≤ s ∧ s < J (X + 29) 5) → ∀ T' J' P' L' z' w' r, cl_W en X N zb wb C T' J' P' z' w' → cl_q X N T J P L T' J' P' L' → cl_fw C (po_get J (X + 31)) (cl_spt J X s.toNat) r → r ≤ 0 → Q (some (.int (m_i r))) (T', m_I J', P', L', z', w'))
    (h2' : (0 ≤ s ∧ s < J (X + 29) 5) → ∀ T' J' P' L' z' w' r (m : Nat), cl_W en X N zb wb C T' J' P' z' w' → cl_q X N T J P L T' J' P' L' → cl_fw C (po_get J (X + 31)) (cl_spt J X s.toNat) r → 0 < r → m ≤ n → (∀ j, j < m → ∃ r, cl_fx C 511 (j : Int) (po_get J (X + 31)) (cl_spt J X s.toNat) r ∧ r < 0) → (m < n → ∃ r, cl_fx C 511 (m : Int) (po_get J (X + 31)) (cl_spt J X s.toNat) r ∧ 0 ≤ r) → Q (some (.int (m_i (m : Int)))) (T', m_I J', P', L', z', w')) : m_call en (d + 5) mSc_steadiest [.ref X, .int (m_i s)] (T, m_I J, P, L, z, w) Q := by
  have h0 := h
  obtain ⟨hV, ⟨pok, hmo, ok, h4, hC⟩, h6, h7, h8⟩ := h
  have hX := hV.1
  have k0 := pok.2.2.2.1
  have k5 : 0 ≤ J (X + 17 + 12) 5 ∧ J (X + 17 + 12) 5 ≤ 6 := pok.2.2.2.2.1
  have e29 : J (X + 29) 5 = J (X + 17 + 12) 5 := rfl
  unfold m_in at hs
  have hb1 := a_bd2 (p := 0 ≤ s ∧ s < J (X + 17 + 12) 5)
  have h30 : (0 ≤ s ∧ s < J (X + 29) 5) → ∀ T' J' P' L' z' w' r, cl_W en X N zb wb C T' J' P' z' w' → cl_q X N T J P L T' J' P' L' → cl_fw C (po_get J (X + 31)) (cl_spt J X s.toNat) r → 0 < r → m_wp en (d + 4) mSc_steadiest 30 [some (.ref X), some (.int (m_i s)), some (.int (m_i r)), some (.int (m_i 0))] [] (T', m_I J', P', L', z', w') Q := fun q T' J' P' L' z' w' r g1 g2 g3 g4 => l_Sc_steadiest (d := d) hn (by omega) q (fun T2 J2 P2 L2 z2 w2 m a b c e f => h2' q T2 J2 P2 L2 z2 w2 r m a b g3 g4 c e f) n 0 T' J' P' L' z' w' (by omega) g1 g2 (fun j hj => absurd hj (by omega))
  refine m_into (by decide) (Nat.le_of_ble_eq_true rfl) rfl ?_
  show m_wp en _ mSc_steadiest 0 [some (.ref X), some (.int (m_i (s))), none, none] [] (T, m_I J, P, L, z, w) Q
  refine r_aln eSc_steadiest_0 rfl ?_
  refine m_getR eSc_steadiest_1 rfl (cl_t hX (i := 0) rfl) (cl_p hX (i := 1) rfl) ?_
  refine r_iln eSc_steadiest_4 rfl ?_
  refine r_vir eSc_steadiest_5 rfl rfl rfl (cl_t hX (i := 17) rfl) rfl rfl ?_
  refine c_Pl_hasSpot (cl_plan hX) pok ⟨by omega, by omega⟩ ?_
  show m_wp en _ mSc_steadiest 8 [some (.ref X), some (.int (m_i (s))), none, none] [(.int (m_i ((a_b (decide (0 ≤ s ∧ s < J (X + 17 + 12) 5))))))] (T, m_I J, P, L, z, w) Q
  refine r_zne (tgt := 13) eSc_steadiest_8 rfl ⟨(by omega), (by omega)⟩ (fun c8 => ?_) (fun c8 => ?_)
  · refine r_aln eSc_steadiest_13 rfl ?_
    refine m_getR eSc_steadiest_14 rfl (cl_t hX (i := 0) rfl) (cl_p hX (i := 7) rfl) ?_
    refine r_iln eSc_steadiest_17 rfl ?_
    refine r_vir eSc_steadiest_18 rfl rfl rfl (cl_t hX (i := 132) rfl) rfl rfl ?_
    refine c_Wa_stepsToSpot h0 (s := s) (by omega) (fun T J2 P L z w r k1 k2 k3 k4 k5' k6 => ?_)
    have hX := k1.1.1
    show m_wp en _ mSc_steadiest 21 [some (.ref X), some (.int (m_i (s))), none, none] [(.int (m_i (r)))] (T, m_I J2, P, L, z, w) Q
    refine r_isn (ls' := [some (.ref X), some (.int (m_i (s))), some (.int (m_i (r))), none]) eSc_steadiest_21 (Nat.le_of_ble_eq_true rfl) rfl ?_
    refine r_iln eSc_steadiest_22 rfl ?_
    refine r_zgt (tgt := 28) eSc_steadiest_23 rfl ⟨(by omega), (by omega)⟩ (fun c23 => ?_) (fun c23 => ?_)
    · refine r_con eSc_steadiest_28 ?_
      refine r_isn (ls' := [some (.ref X), some (.int (m_i (s))), some (.int (m_i (r))), some (.int (m_i (0)))]) eSc_steadiest_29 (Nat.le_of_ble_eq_true rfl) rfl ?_
      exact h30 (by omega) T J2 P L z w r k1 k2 k4 (by omega)
    · refine r_iln eSc_steadiest_26 rfl ?_
      refine r_iret eSc_steadiest_27 rfl ?_
      exact h1' (by omega) T J2 P L z w r k1 k2 k4 (by omega)
  · refine r_con eSc_steadiest_11 ?_
    refine r_iret eSc_steadiest_12 rfl ?_
    exact h0' (by omega)
end SCO
