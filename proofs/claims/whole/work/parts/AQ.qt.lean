/-! the class: tours, jobs, safety -/
section SCX
variable {en : Nat → Nat} {d : Nat} {T T' T2 T0 : Nat → Option (Nat × Nat)} {J J' J0 J1 J2 J3 K H : Nat → Nat → Int} {P P' P2 P0 : Nat → Nat → Option Nat} {L L' L2 L0 : Nat → Nat → Int64} {z w z' w' z0 w0 A B R U S X N zb wb : Nat} {n : Nat} {Q : m_Q} {σ τ γ π ρ : a_S} {C : a_C} {x e st s : Int} {d0 : Nat → Int} {dl : Nat → Nat → Int} {sf : (Nat → Int) → Int → Int → Int → Int → Int}
theorem ro_V_b {J : Nat → Nat → Int} (h0 : ∀ k, d0 k < 100000) (hl : ∀ f t, dl f t < 100000) (hn : n ≤ 6) (h : ro_V J X n d0 dl) : -2 ≤ J (X + 157) 4 ∧ J (X + 157) 4 ≤ 700000 := by
  obtain ⟨o, b, h1, -⟩ := h
  rw [h1]
  exact ro_go_b h0 hl (n + 1) 0 0 0 _ (by omega) (by omega) (by simp only; omega)
theorem ha_V_b {J : Nat → Nat → Int} (hs : ∀ p col dep fr to, sf p col dep fr to < 200000) (hn : n ≤ 3) (h : ha_V J X n sf) : -2 ≤ J (X + 160) 6 ∧ J (X + 160) 6 ≤ 700000 := by
  obtain ⟨o, b, p, -, h1, -⟩ := h
  rw [h1]
  exact ha_go_b hs (n + 1) 0 p 0 0 (-1) (-1) _ (by omega) (by omega) (by simp only; omega)
theorem c_Sc_tour (h : cl_W en X N zb wb C T J P z w) (hH : ro_H J X n C d0 dl) (hd0 : ∀ k, d0 k < 100000) (hdl : ∀ f t, dl f t < 100000) (hv : m_in (J (X + 157) 5) ∧ m_in (J (X + 132) 13)) (hc : J (X + 157) 5 = J (X + 132) 13 → ro_V J X n d0 dl) (h1' : ∀ T' J' P' L' z' w', cl_W en X N zb wb C T' J' P' z' w' → cl_qe X N (fun b i => b = X + 157 ∨ b = X + 158 ∨ b = X + 159) T J P L T' J' P' L' → J' (X + 157) 5 = J' (X + 132) 13 → ro_V J' X n d0 dl → Q (some (.int (m_i (J' (X + 157) 4)))) (T', m_I J', P', L', z', w')) : m_call en (d + n + 8) mSc_tour [.ref X] (T, m_I J, P, L, z, w) Q := by
  have h0 := h
  obtain ⟨hV, ⟨pok, hmo, ok, h4, hC⟩, h6, h7, h8⟩ := h0
  have hX := hV.1
  have hN := hV.2.1
  have k0 := pok.1
  have k5 : 0 ≤ J (X + 17 + 12) 5 ∧ J (X + 17 + 12) 5 ≤ 6 := pok.2.2.2.2.1
  have e29 : J (X + 29) 5 = J (X + 17 + 12) 5 := rfl
  refine m_into (by decide) (Nat.le_of_ble_eq_true rfl) rfl ?_
  show m_wp en _ mSc_tour 0 [some (.ref X)] [] (T, m_I J, P, L, z, w) Q
  refine r_aln eSc_tour_0 rfl ?_
  refine m_getR eSc_tour_1 rfl (cl_t hX (i := 0) rfl) (cl_p hX (i := 8) rfl) ?_
  refine r_vir eSc_tour_4 rfl rfl rfl (cl_t hX (i := 151) rfl) rfl rfl ?_
  refine c_Ro_fewestInAll (d := d) h hH hd0 hdl hv hc (fun T J2 P L z w k1 k2 k3 k4 => ?_)
  show m_wp en _ mSc_tour 7 [some (.ref X)] [(.int (m_i ((J2 (X + 157) 4))))] (T, m_I J2, P, L, z, w) Q
  refine r_iret eSc_tour_7 rfl ?_
  exact h1' T J2 P L z w k1 k2 k3 k4
theorem c_Sc_stop (h : cl_W en X N zb wb C T J P z w) (hs : m_in s) (hH : ro_H J X n C d0 dl) (hd0 : ∀ k, d0 k < 100000) (hdl : ∀ f t, dl f t < 100000) (hv : m_in (J (X + 157) 5) ∧ m_in (J (X + 132) 13)) (hc : J (X + 157) 5 = J (X + 132) 13 → ro_V J X n d0 dl) (h0' : ¬ (0 ≤ s ∧ s < J (X + 29) 5) → Q (some (.int (m_i (-1)))) (T, m_I J, P, L, z, w)) (h1' : (0 ≤ s ∧ s < J (X + 29) 5) → ∀ T' J' P' L' z' w', cl_W en X N zb wb C T' J' P' z' w' → cl_qe X N (fun b i => b = X + 157 ∨ b = X + 158 ∨ b = X + 159) T J P L T' J' P' L' → J' (X + 157) 5 = J' (X + 132) 13 → ro_V J' X n d0 dl → Q (some (.int (m_i (if J' (X + 157) 4 < 0 then -2 else J' (X + 159) s.toNat)))) (T', m_I J', P', L', z', w')) : m_call en (d + n + 8) mSc_stop [.ref X, .int (m_i s)] (T, m_I J, P, L, z, w) Q := by
  have h0 := h
  obtain ⟨hV, ⟨pok, hmo, ok, h4, hC⟩, h6, h7, h8⟩ := h0
  have hX := hV.1
  have hN := hV.2.1
  have k0 := pok.1
  have k5 : 0 ≤ J (X + 17 + 12) 5 ∧ J (X + 17 + 12) 5 ≤ 6 := pok.2.2.2.2.1
  have e29 : J (X + 29) 5 = J (X + 17 + 12) 5 := rfl
  unfold m_in at hs
  have hb1 : (a_b (decide (0 ≤ s ∧ s < J (X + 17 + 12) 5)) = 1 ∧ (0 ≤ s ∧ s < J (X + 17 + 12) 5)) ∨ (a_b (decide (0 ≤ s ∧ s < J (X + 17 + 12) 5)) = 0 ∧ ¬ (0 ≤ s ∧ s < J (X + 17 + 12) 5)) := by
    by_cases q : 0 ≤ s ∧ s < J (X + 17 + 12) 5
    · exact Or.inl ⟨a_b_t (decide_eq_true q), q⟩
    · exact Or.inr ⟨a_b_f (by rw [decide_eq_true_eq]; exact q), q⟩
  refine m_into (by decide) (Nat.le_of_ble_eq_true rfl) rfl ?_
  show m_wp en _ mSc_stop 0 [some (.ref X), some (.int (m_i (s)))] [] (T, m_I J, P, L, z, w) Q
  refine r_aln eSc_stop_0 rfl ?_
  refine m_getR eSc_stop_1 rfl (cl_t hX (i := 0) rfl) (cl_p hX (i := 1) rfl) ?_
  refine r_iln eSc_stop_4 rfl ?_
  refine r_vir eSc_stop_5 rfl rfl rfl (cl_t hX (i := 17) rfl) rfl rfl ?_
  refine c_Pl_hasSpot (cl_plan hX) pok ⟨by omega, by omega⟩ ?_
  show m_wp en _ mSc_stop 8 [some (.ref X), some (.int (m_i (s)))] [(.int (m_i ((a_b (decide (0 ≤ s ∧ s < J (X + 17 + 12) 5))))))] (T, m_I J, P, L, z, w) Q
  refine r_zne (tgt := 13) eSc_stop_8 rfl ⟨(by omega), (by omega)⟩ (fun c8 => ?_) (fun c8 => ?_)
  · refine r_aln eSc_stop_13 rfl ?_
    refine m_getR eSc_stop_14 rfl (cl_t hX (i := 0) rfl) (cl_p hX (i := 8) rfl) ?_
    refine r_vir eSc_stop_17 rfl rfl rfl (cl_t hX (i := 151) rfl) rfl rfl ?_
    refine c_Ro_fewestInAll (d := d) h hH hd0 hdl hv hc (fun T J2 P L z w k1 k2 k3 k4 => ?_)
    have hX := k1.1.1
    have hbb := ro_V_b hd0 hdl hH.2.1 k4
    show m_wp en _ mSc_stop 20 [some (.ref X), some (.int (m_i (s)))] [(.int (m_i ((J2 (X + 157) 4))))] (T, m_I J2, P, L, z, w) Q
    refine r_zge (tgt := 28) eSc_stop_20 rfl ⟨(by omega), (by omega)⟩ (fun c20 => ?_) (fun c20 => ?_)
    · refine r_aln eSc_stop_28 rfl ?_
      refine m_getR eSc_stop_29 rfl (cl_t hX (i := 0) rfl) (cl_p hX (i := 8) rfl) ?_
      refine m_getR eSc_stop_32 rfl (cl_t hX (i := 151) rfl) (cl_p hX (i := 128) rfl) ?_
      refine r_iln eSc_stop_35 rfl ?_
      refine r_ialde (x := J2 (X + 159) ((s).toNat)) eSc_stop_36 (cl_t hX (i := 153) rfl) (by decide) (by omega) (by omega) rfl ?_
      refine r_iret eSc_stop_37 rfl ?_
      have h9 := h1' (by omega) T J2 P L z w k1 k2 k3 k4
      first | (rw [if_pos (by omega)] at h9; exact h9) | (rw [if_neg (by omega)] at h9; exact h9)
    · refine r_bip eSc_stop_23 (by decide) ?_
      refine r_go (tgt := 37) eSc_stop_25 rfl ?_
      refine r_iret eSc_stop_37 rfl ?_
      have h9 := h1' (by omega) T J2 P L z w k1 k2 k3 k4
      first | (rw [if_pos (by omega)] at h9; exact h9) | (rw [if_neg (by omega)] at h9; exact h9)
  · refine r_con eSc_stop_11 ?_
    refine r_iret eSc_stop_12 rfl ?_
    exact h0' (by omega)
theorem c_Sc_jobs (h : cl_W en X N zb wb C T J P z w) (hH : ha_H J X n C sf) (hv : m_in (J (X + 160) 7) ∧ m_in (J (X + 132) 13)) (hc : J (X + 160) 7 = J (X + 132) 13 → ha_V J X n sf) (h0' : J (X + 30) 2 ≠ 0 → Q (some (.int (m_i (-3)))) (T, m_I J, P, L, z, w)) (h1' : J (X + 30) 2 = 0 → ∀ T' J' P' L' z' w', cl_W en X N zb wb C T' J' P' z' w' → cl_qe X N (fun b i => X + 160 ≤ b ∧ b ≤ X + 163) T J P L T' J' P' L' → J' (X + 160) 7 = J' (X + 132) 13 → ha_V J' X n sf → Q (some (.int (m_i (J' (X + 160) 6)))) (T', m_I J', P', L', z', w')) : m_call en (d + n + 9) mSc_jobs [.ref X] (T, m_I J, P, L, z, w) Q := by
  have h0 := h
  obtain ⟨hV, ⟨pok, hmo, ok, h4, hC⟩, h6, h7, h8⟩ := h0
  have hX := hV.1
  have hN := hV.2.1
  have k0 := pok.1
  have k5 : 0 ≤ J (X + 17 + 12) 5 ∧ J (X + 17 + 12) 5 ≤ 6 := pok.2.2.2.2.1
  have e29 : J (X + 29) 5 = J (X + 17 + 12) 5 := rfl
  have hho := hmo.2.1
  refine m_into (by decide) (Nat.le_of_ble_eq_true rfl) rfl ?_
  show m_wp en _ mSc_jobs 0 [some (.ref X)] [] (T, m_I J, P, L, z, w) Q
  refine r_aln eSc_jobs_0 rfl ?_
  refine m_getR eSc_jobs_1 rfl (cl_t hX (i := 0) rfl) (cl_p hX (i := 2) rfl) ?_
  refine r_gete (x := J (X + 30) 2) eSc_jobs_4 rfl (by decide) (cl_t hX (i := 30) rfl) rfl ?_
  refine r_zeq (tgt := 15) eSc_jobs_7 rfl ⟨(by omega), (by omega)⟩ (fun c7 => ?_) (fun c7 => ?_)
  · refine r_aln eSc_jobs_15 rfl ?_
    refine m_getR eSc_jobs_16 rfl (cl_t hX (i := 0) rfl) (cl_p hX (i := 9) rfl) ?_
    refine r_vir eSc_jobs_19 rfl rfl rfl (cl_t hX (i := 154) rfl) rfl rfl ?_
    refine c_Ha_fewestInAll (d := d) h hH hv hc (fun T J2 P L z w k1 k2 k3 k4 => ?_)
    show m_wp en _ mSc_jobs 22 [some (.ref X)] [(.int (m_i ((J2 (X + 160) 6))))] (T, m_I J2, P, L, z, w) Q
    refine r_iret eSc_jobs_22 rfl ?_
    first | exact h0' (by omega) | exact h1' (by omega) T J2 P L z w k1 k2 k3 k4
  · refine r_bip eSc_jobs_10 (by decide) ?_
    refine r_go (tgt := 22) eSc_jobs_12 rfl ?_
    refine r_iret eSc_jobs_22 rfl ?_
    first | exact h0' (by omega) | exact h1' (by omega) T J2 P L z w k1 k2 k3 k4
theorem c_Sc_job (h : cl_W en X N zb wb C T J P z w) (hs : m_in s) (hH : ha_H J X n C sf) (hv : m_in (J (X + 160) 7) ∧ m_in (J (X + 132) 13)) (hc : J (X + 160) 7 = J (X + 132) 13 → ha_V J X n sf) (h2' : ¬ (0 ≤ s ∧ s < J (X + 29) 10) → Q (some (.int (m_i (-1)))) (T, m_I J, P, L, z, w)) (h0' : (0 ≤ s ∧ s < J (X + 29) 10) → J (X + 30) 2 ≠ 0 → Q (some (.int (m_i (-3)))) (T, m_I J, P, L, z, w)) (h1' : (0 ≤ s ∧ s < J (X + 29) 10) → J (X + 30) 2 = 0 → ∀ T' J' P' L' z' w', cl_W en X N zb wb C T' J' P' z' w' → cl_qe X N (fun b i => X + 160 ≤ b ∧ b ≤ X + 163) T J P L T' J' P' L' → J' (X + 160) 7 = J' (X + 132) 13 → ha_V J' X n sf → Q (some (.int (m_i (if J' (X + 160) 6 < 0 then -2 else J' (X + 163) s.toNat)))) (T', m_I J', P', L', z', w')) : m_call en (d + n + 9) mSc_job [.ref X, .int (m_i s)] (T, m_I J, P, L, z, w) Q := by
  have h0 := h
  obtain ⟨hV, ⟨pok, hmo, ok, h4, hC⟩, h6, h7, h8⟩ := h0
  have hX := hV.1
  have hN := hV.2.1
  have k0 := pok.1
  have k5 : 0 ≤ J (X + 17 + 12) 5 ∧ J (X + 17 + 12) 5 ≤ 6 := pok.2.2.2.2.1
  have e29 : J (X + 29) 5 = J (X + 17 + 12) 5 := rfl
  unfold m_in at hs
  have hho := hmo.2.1
  have k10 : 0 ≤ J (X + 29) 10 ∧ J (X + 29) 10 ≤ 3 := pok.2.2.2.2.2.2.2.1
  refine m_into (by decide) (Nat.le_of_ble_eq_true rfl) rfl ?_
  show m_wp en _ mSc_job 0 [some (.ref X), some (.int (m_i (s)))] [] (T, m_I J, P, L, z, w) Q
  refine r_iln eSc_job_0 rfl ?_
  refine r_zlt (tgt := 23) eSc_job_1 rfl ⟨(by omega), (by omega)⟩ (fun c1 => ?_) (fun c1 => ?_)
  · refine r_con eSc_job_23 ?_
    refine r_iret eSc_job_24 rfl ?_
    exact h2' (by omega)
  · refine r_iln eSc_job_4 rfl ?_
    refine r_aln eSc_job_5 rfl ?_
    refine m_getR eSc_job_6 rfl (cl_t hX (i := 0) rfl) (cl_p hX (i := 1) rfl) ?_
    refine m_getR eSc_job_9 rfl (cl_t hX (i := 17) rfl) (cl_p hX (i := 37) rfl) ?_
    refine r_bip eSc_job_12 (by decide) ?_
    refine r_ialde (x := J (X + 29) 10) eSc_job_14 (cl_t hX (i := 29) rfl) (by decide) (by omega) (by omega) rfl ?_
    refine r_cge (tgt := 23) eSc_job_15 rfl ⟨(by omega), (by omega)⟩ ⟨(by omega), (by omega)⟩ (fun c15 => ?_) (fun c15 => ?_)
    · refine r_con eSc_job_23 ?_
      refine r_iret eSc_job_24 rfl ?_
      exact h2' (by omega)
    · refine r_iln eSc_job_18 rfl ?_
      refine r_con eSc_job_19 ?_
      refine r_clt (tgt := 25) eSc_job_20 rfl ⟨(by omega), (by omega)⟩ ⟨(by omega), (by omega)⟩ (fun c20 => ?_) (fun c20 => ?_)
      · refine r_aln eSc_job_25 rfl ?_
        refine m_getR eSc_job_26 rfl (cl_t hX (i := 0) rfl) (cl_p hX (i := 2) rfl) ?_
        refine r_gete (x := J (X + 30) 2) eSc_job_29 rfl (by decide) (cl_t hX (i := 30) rfl) rfl ?_
        refine r_zeq (tgt := 38) eSc_job_32 rfl ⟨(by omega), (by omega)⟩ (fun c32 => ?_) (fun c32 => ?_)
        · refine r_aln eSc_job_38 rfl ?_
          refine m_getR eSc_job_39 rfl (cl_t hX (i := 0) rfl) (cl_p hX (i := 9) rfl) ?_
          refine r_vir eSc_job_42 rfl rfl rfl (cl_t hX (i := 154) rfl) rfl rfl ?_
          refine c_Ha_fewestInAll (d := d) h hH hv hc (fun T J2 P L z w k1 k2 k3 k4 => ?_)
          have hX := k1.1.1
          have hbb := ha_V_b hH.2.2.2 hH.2.1 k4
          show m_wp en _ mSc_job 45 [some (.ref X), some (.int (m_i (s)))] [(.int (m_i ((J2 (X + 160) 6))))] (T, m_I J2, P, L, z, w) Q
          refine r_zge (tgt := 53) eSc_job_45 rfl ⟨(by omega), (by omega)⟩ (fun c45 => ?_) (fun c45 => ?_)
          · refine r_aln eSc_job_53 rfl ?_
            refine m_getR eSc_job_54 rfl (cl_t hX (i := 0) rfl) (cl_p hX (i := 9) rfl) ?_
            refine m_getR eSc_job_57 rfl (cl_t hX (i := 154) rfl) (cl_p hX (i := 134) rfl) ?_
            refine r_iln eSc_job_60 rfl ?_
            refine r_ialde (x := J2 (X + 163) ((s).toNat)) eSc_job_61 (cl_t hX (i := 157) rfl) (by decide) (by omega) (by omega) rfl ?_
            refine r_iret eSc_job_62 rfl ?_
            have h9 := h1' (by omega) (by omega) T J2 P L z w k1 k2 k3 k4
            first | (rw [if_pos (by omega)] at h9; exact h9) | (rw [if_neg (by omega)] at h9; exact h9)
          · refine r_bip eSc_job_48 (by decide) ?_
            refine r_go (tgt := 62) eSc_job_50 rfl ?_
            refine r_iret eSc_job_62 rfl ?_
            have h9 := h1' (by omega) (by omega) T J2 P L z w k1 k2 k3 k4
            first | (rw [if_pos (by omega)] at h9; exact h9) | (rw [if_neg (by omega)] at h9; exact h9)
        · refine r_bip eSc_job_35 (by decide) ?_
          refine r_iret eSc_job_37 rfl ?_
          exact h0' (by omega) (by omega)
      · refine r_con eSc_job_23 ?_
        refine r_iret eSc_job_24 rfl ?_
        exact h2' (by omega)
theorem c_Sc_carry (h : cl_W en X N zb wb C T J P z w) (hs : m_in s) (hx : m_in x) (h2' : ¬ (((0 ≤ s ∧ s < J (X + 17) 0) ∧ 0 ≤ x ∧ x < J (X + 17) 0) ∧ s ≠ x) → Q (some (.int (m_i (-1)))) (T, m_I J, P, L, z, w)) (h0' : (((0 ≤ s ∧ s < J (X + 17) 0) ∧ 0 ≤ x ∧ x < J (X + 17) 0) ∧ s ≠ x) → J (X + 30) 2 ≠ 0 → Q (some (.int (m_i (-3)))) (T, m_I J, P, L, z, w)) (h1' : (((0 ≤ s ∧ s < J (X + 17) 0) ∧ 0 ≤ x ∧ x < J (X + 17) 0) ∧ s ≠ x) → J (X + 30) 2 = 0 → ∀ T' J' P' L' z' w' r p, cl_W en X N zb wb C T' J' P' z' w' → cl_qe X N (fun b i => b = X + 161) T J P L T' J' P' L' → (∀ i : Nat, i < 16 → p i = J (X + 32) i) → ha_so J X C p (-1) (-1) s x r → Q (some (.int (m_i r))) (T', m_I J', P', L', z', w')) : m_call en (d + 8) mSc_carry [.ref X, .int (m_i s), .int (m_i x)] (T, m_I J, P, L, z, w) Q := by
  have h0 := h
  obtain ⟨hV, ⟨pok, hmo, ok, h4, hC⟩, h6, h7, h8⟩ := h0
  have hX := hV.1
  have hN := hV.2.1
  have k0 := pok.1
  have k5 : 0 ≤ J (X + 17 + 12) 5 ∧ J (X + 17 + 12) 5 ≤ 6 := pok.2.2.2.2.1
  have e29 : J (X + 29) 5 = J (X + 17 + 12) 5 := rfl
  unfold m_in at hs hx
  have hho := hmo.2.1
  have hb1 : (a_b (decide (0 ≤ s ∧ s < J (X + 17) 0)) = 1 ∧ (0 ≤ s ∧ s < J (X + 17) 0)) ∨ (a_b (decide (0 ≤ s ∧ s < J (X + 17) 0)) = 0 ∧ ¬ (0 ≤ s ∧ s < J (X + 17) 0)) := by
    by_cases q : 0 ≤ s ∧ s < J (X + 17) 0
    · exact Or.inl ⟨a_b_t (decide_eq_true q), q⟩
    · exact Or.inr ⟨a_b_f (by rw [decide_eq_true_eq]; exact q), q⟩
  have hb2 : (a_b (decide (0 ≤ x ∧ x < J (X + 17) 0)) = 1 ∧ (0 ≤ x ∧ x < J (X + 17) 0)) ∨ (a_b (decide (0 ≤ x ∧ x < J (X + 17) 0)) = 0 ∧ ¬ (0 ≤ x ∧ x < J (X + 17) 0)) := by
    by_cases q : 0 ≤ x ∧ x < J (X + 17) 0
    · exact Or.inl ⟨a_b_t (decide_eq_true q), q⟩
    · exact Or.inr ⟨a_b_f (by rw [decide_eq_true_eq]; exact q), q⟩
  refine m_into (by decide) (Nat.le_of_ble_eq_true rfl) rfl ?_
  show m_wp en _ mSc_carry 0 [some (.ref X), some (.int (m_i (s))), some (.int (m_i (x)))] [] (T, m_I J, P, L, z, w) Q
  refine r_aln eSc_carry_0 rfl ?_
  refine m_getR eSc_carry_1 rfl (cl_t hX (i := 0) rfl) (cl_p hX (i := 1) rfl) ?_
  refine r_iln eSc_carry_4 rfl ?_
  refine r_vir eSc_carry_5 rfl rfl rfl (cl_t hX (i := 17) rfl) rfl rfl ?_
  refine c_Pl_hasColumn (cl_plan hX) pok ⟨by omega, by omega⟩ ?_
  show m_wp en _ mSc_carry 8 [some (.ref X), some (.int (m_i (s))), some (.int (m_i (x)))] [(.int (m_i ((a_b (decide (0 ≤ s ∧ s < J (X + 17) 0))))))] (T, m_I J, P, L, z, w) Q
  refine r_zeq (tgt := 27) eSc_carry_8 rfl ⟨(by omega), (by omega)⟩ (fun c8 => ?_) (fun c8 => ?_)
  · refine r_con eSc_carry_27 ?_
    refine r_iret eSc_carry_28 rfl ?_
    exact h2' (by omega)
  · refine r_aln eSc_carry_11 rfl ?_
    refine m_getR eSc_carry_12 rfl (cl_t hX (i := 0) rfl) (cl_p hX (i := 1) rfl) ?_
    refine r_iln eSc_carry_15 rfl ?_
    refine r_vir eSc_carry_16 rfl rfl rfl (cl_t hX (i := 17) rfl) rfl rfl ?_
    refine c_Pl_hasColumn (cl_plan hX) pok ⟨by omega, by omega⟩ ?_
    show m_wp en _ mSc_carry 19 [some (.ref X), some (.int (m_i (s))), some (.int (m_i (x)))] [(.int (m_i ((a_b (decide (0 ≤ x ∧ x < J (X + 17) 0))))))] (T, m_I J, P, L, z, w) Q
    refine r_zeq (tgt := 27) eSc_carry_19 rfl ⟨(by omega), (by omega)⟩ (fun c19 => ?_) (fun c19 => ?_)
    · refine r_con eSc_carry_27 ?_
      refine r_iret eSc_carry_28 rfl ?_
      exact h2' (by omega)
    · refine r_iln eSc_carry_22 rfl ?_
      refine r_iln eSc_carry_23 rfl ?_
      refine r_cne (tgt := 29) eSc_carry_24 rfl ⟨(by omega), (by omega)⟩ ⟨(by omega), (by omega)⟩ (fun c24 => ?_) (fun c24 => ?_)
      · refine r_aln eSc_carry_29 rfl ?_
        refine m_getR eSc_carry_30 rfl (cl_t hX (i := 0) rfl) (cl_p hX (i := 2) rfl) ?_
        refine r_gete (x := J (X + 30) 2) eSc_carry_33 rfl (by decide) (cl_t hX (i := 30) rfl) rfl ?_
        refine r_zeq (tgt := 44) eSc_carry_36 rfl ⟨(by omega), (by omega)⟩ (fun c36 => ?_) (fun c36 => ?_)
        · refine r_aln eSc_carry_44 rfl ?_
          refine m_getR eSc_carry_45 rfl (cl_t hX (i := 0) rfl) (cl_p hX (i := 9) rfl) ?_
          refine r_iln eSc_carry_48 rfl ?_
          refine r_iln eSc_carry_49 rfl ?_
          refine r_vir eSc_carry_50 rfl rfl rfl (cl_t hX (i := 154) rfl) rfl rfl ?_
          refine c_Ha_fromNow (d := d) h (by omega) (by omega) (fun T J2 P L z w r p k1 k2 k3 k4 k6 => ?_)
          show m_wp en _ mSc_carry 53 [some (.ref X), some (.int (m_i (s))), some (.int (m_i (x)))] [(.int (m_i (r)))] (T, m_I J2, P, L, z, w) Q
          refine r_iret eSc_carry_53 rfl ?_
          first | exact h0' (by omega) (by omega) | exact h1' (by omega) (by omega) T J2 P L z w r p k1 k2 k3 k4
        · refine r_bip eSc_carry_39 (by decide) ?_
          refine r_go (tgt := 53) eSc_carry_41 rfl ?_
          refine r_iret eSc_carry_53 rfl ?_
          first | exact h0' (by omega) (by omega) | exact h1' (by omega) (by omega) T J2 P L z w r p k1 k2 k3 k4
      · refine r_con eSc_carry_27 ?_
        refine r_iret eSc_carry_28 rfl ?_
        exact h2' (by omega)
theorem c_Sc_safe (h : cl_W en X N zb wb C T J P z w) (hs : m_in s) (h0' : ¬ (0 ≤ s ∧ s ≤ 1) → Q (some (.int (m_i (-1)))) (T, m_I J, P, L, z, w)) (h1' : (0 ≤ s ∧ s ≤ 1) → ∀ T' J' P' L' z' w' (r : Nat) (q : Nat → a_S), cl_W en X N zb wb C T' J' P' z' w' → cl_q X N T J P L T' J' P' L' → r ≤ 38880 → (∀ i j, i < r → j < r → q i = q j → i = j) → (∀ σ, (∃ i, i < r ∧ q i = σ) ↔ ∃ t, b_D (w_sh C) (g_E C 1 4 511) t σ) → Q (some (.int (m_i (if s = 0 then (r : Int) else a_sum (fun i => sp_r C (i : Int)) (C.1 * C.2.1 * (2 * C.2.2.2.1 + 1)).toNat * (2 * C.2.2.1 + 1) * (2 * C.2.2.2.1 + 1) - (r : Int))))) (T', m_I J', P', L', z', w')) : m_call en (d + 5) mSc_safe [.ref X, .int (m_i s)] (T, m_I J, P, L, z, w) Q := by
  have h0 := h
  obtain ⟨hV, ⟨pok, hmo, ok, h4, hC⟩, h6, h7, h8⟩ := h0
  have hX := hV.1
  have hN := hV.2.1
  have k0 := pok.1
  have k5 : 0 ≤ J (X + 17 + 12) 5 ∧ J (X + 17 + 12) 5 ≤ 6 := pok.2.2.2.2.1
  have e29 : J (X + 29) 5 = J (X + 17 + 12) 5 := rfl
  unfold m_in at hs
  refine m_into (by decide) (Nat.le_of_ble_eq_true rfl) rfl ?_
  show m_wp en _ mSc_safe 0 [some (.ref X), some (.int (m_i (s))), none] [] (T, m_I J, P, L, z, w) Q
  refine r_iln eSc_safe_0 rfl ?_
  refine r_zlt (tgt := 9) eSc_safe_1 rfl ⟨(by omega), (by omega)⟩ (fun c1 => ?_) (fun c1 => ?_)
  · refine r_con eSc_safe_9 ?_
    refine r_iret eSc_safe_10 rfl ?_
    exact h0' (by omega)
  · refine r_iln eSc_safe_4 rfl ?_
    refine r_con eSc_safe_5 ?_
    refine r_cle (tgt := 11) eSc_safe_6 rfl ⟨(by omega), (by omega)⟩ ⟨(by omega), (by omega)⟩ (fun c6 => ?_) (fun c6 => ?_)
    · refine r_aln eSc_safe_11 rfl ?_
      refine m_getR eSc_safe_12 rfl (cl_t hX (i := 0) rfl) (cl_p hX (i := 7) rfl) ?_
      refine r_vir eSc_safe_15 rfl rfl rfl (cl_t hX (i := 132) rfl) rfl rfl ?_
      refine c_Wa_countHoming h (fun T J2 P L z w r q k1 k2 k3 k4 k6 => ?_)
      have hX := k1.1.1
      have hcs : J2 (X + 133) 6 = 2 * C.2.2.1 + 1 ∧ J2 (X + 133) 7 = 2 * C.2.2.2.1 + 1 := ⟨k1.2.1.2.2.2.2.2.1, k1.2.1.2.2.2.2.2.2.1⟩
      have hc8 := k1.2.1.2.2.2.2.2.2.2.2.2
      show m_wp en _ mSc_safe 18 [some (.ref X), some (.int (m_i (s))), none] [(.int (m_i ((r : Int))))] (T, m_I J2, P, L, z, w) Q
      refine r_isn (ls' := [some (.ref X), some (.int (m_i (s))), some (.int (m_i ((r : Int))))]) eSc_safe_18 (Nat.le_of_ble_eq_true rfl) rfl ?_
      refine r_iln eSc_safe_19 rfl ?_
      refine r_zne (tgt := 27) eSc_safe_20 rfl ⟨(by omega), (by omega)⟩ (fun c20 => ?_) (fun c20 => ?_)
      · refine r_aln eSc_safe_27 rfl ?_
        refine m_getR eSc_safe_28 rfl (cl_t hX (i := 0) rfl) (cl_p hX (i := 7) rfl) ?_
        refine m_getR eSc_safe_31 rfl (cl_t hX (i := 132) rfl) (cl_p hX (i := 107) rfl) ?_
        refine r_vir eSc_safe_34 rfl rfl rfl (cl_t hX (i := 133) rfl) rfl rfl ?_
        refine c_Sp_countStates (cl_sp hX (Or.inl rfl)) ?_
        rw [hcs.1, hcs.2, hc8]
        show m_wp en _ mSc_safe 37 [some (.ref X), some (.int (m_i (s))), some (.int (m_i ((r : Int))))] [(.int (m_i ((a_sum (fun i => sp_r C (i : Int)) (C.1 * C.2.1 * (2 * C.2.2.2.1 + 1)).toNat * (2 * C.2.2.1 + 1) * (2 * C.2.2.2.1 + 1)))))] (T, m_I J2, P, L, z, w) Q
        refine r_iln eSc_safe_37 rfl ?_
        refine r_sub eSc_safe_38 ?_
        refine r_iret eSc_safe_39 rfl ?_
        have h9 := h1' (by omega) T J2 P L z w r q k1 k2 k3 k4 k6
        first | (rw [if_pos (by omega)] at h9; exact h9) | (rw [if_neg (by omega)] at h9; exact h9)
      · refine r_iln eSc_safe_23 rfl ?_
        refine r_go (tgt := 39) eSc_safe_24 rfl ?_
        refine r_iret eSc_safe_39 rfl ?_
        have h9 := h1' (by omega) T J2 P L z w r q k1 k2 k3 k4 k6
        first | (rw [if_pos (by omega)] at h9; exact h9) | (rw [if_neg (by omega)] at h9; exact h9)
    · refine r_con eSc_safe_9 ?_
      refine r_iret eSc_safe_10 rfl ?_
      exact h0' (by omega)
end SCX
