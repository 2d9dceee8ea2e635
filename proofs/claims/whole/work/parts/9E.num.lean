/-! the number of a state in a space -/
def sp_is (J : Nat → Nat → Int) (A : Nat) (C : a_C) : Prop := sp_i0 J A C ∧ J A 6 = 2 * C.2.2.1 + 1 ∧ J A 7 = 2 * C.2.2.2.1 + 1 ∧ J A 4 = C.1 * C.2.1 * (2 * C.2.2.2.1 + 1) * (2 * C.2.2.1 + 1) * (2 * C.2.2.2.1 + 1) ∧ (∀ i : Nat, i < 864 → J (A + 2) i = sp_r C (i : Int)) ∧ J A 8 = a_sum (fun i => sp_r C (i : Int)) (C.1 * C.2.1 * (2 * C.2.2.2.1 + 1)).toNat
section SPQ
variable {en : Nat → Nat} {d : Nat} {T : Nat → Option (Nat × Nat)} {J K H : Nat → Nat → Int} {P : Nat → Nat → Option Nat} {L : Nat → Nat → Int64} {z w A B R : Nat} {Q : m_Q} {σ : a_S} {C : a_C} {h : Int}
theorem sp_L_is (ok : pl_ok J B) : sp_is (sp_L J A B R h) A (pl_cf J B (J R) h) := by
  have f : ∀ i, i ≠ 8 → sp_L J A B R h A i = sp_a J A B h A i := fun i hi => by
    unfold sp_L sp_h
    rw [m_up_at, if_neg (by omega), m_fl_o (by omega), sp_c_A hi]
  refine ⟨sp_i0_h sp_c_i0 _, ?_, ?_, ?_, fun i hi => ?_, ?_⟩
  · rw [f 6 (by omega)]; simp [sp_a, m_up, pl_cf]
  · rw [f 7 (by omega)]; simp [sp_a, m_up, pl_cf]
  · rw [f 4 (by omega)]; simp [sp_a, m_up, pl_cf]
  · unfold sp_L sp_h
    rw [m_up_at, if_neg (by omega)]
    by_cases q : (i : Int) < J B 0 * J B 1 * (2 * J B 3 + 1)
    · rw [m_fl_i (by omega), Nat.sub_zero]
    · rw [m_fl_x (by omega), sp_c_z i hi]
      unfold sp_r
      exact (if_neg q).symm
  · unfold sp_L sp_h
    exact m_up_same
theorem a_why_c {C : a_C} {σ : a_S} (h : a_why C σ = 0) : (0 ≤ σ.1 ∧ σ.1 < C.1) ∧ a_abs σ.2.1 ≤ C.2.2.1 ∧ (1 ≤ σ.2.2.2.2 ∧ σ.2.2.2.2 ≤ C.2.1) ∧ a_abs σ.2.2.1 ≤ C.2.2.2.1 ∧ (0 ≤ σ.1 + σ.2.2.1 ∧ σ.1 + σ.2.2.1 < C.1) ∧ a_cl C σ = true := by
  unfold a_why at h
  by_cases h1 : ¬ (0 ≤ σ.1 ∧ σ.1 < C.1)
  · rw [if_pos h1] at h; omega
  · rw [if_neg h1] at h
    by_cases h2 : C.2.2.1 < a_abs σ.2.1
    · rw [if_pos h2] at h; omega
    · rw [if_neg h2] at h
      by_cases h3 : σ.2.2.2.2 < 1 ∨ C.2.1 < σ.2.2.2.2
      · rw [if_pos h3] at h; omega
      · rw [if_neg h3] at h
        by_cases h4 : C.2.2.2.1 < a_abs σ.2.2.1
        · rw [if_pos h4] at h; omega
        · rw [if_neg h4] at h
          by_cases h5 : ¬ (0 ≤ σ.1 + σ.2.2.1 ∧ σ.1 + σ.2.2.1 < C.1)
          · rw [if_pos h5] at h; omega
          · rw [if_neg h5] at h
            by_cases h6 : a_cl C σ = true
            · exact ⟨by omega, by omega, by omega, by omega, by omega, h6⟩
            · rw [if_neg h6] at h; omega
theorem a_is_sd {C : a_C} {x v t l e : Int} : a_is C (x, v, t, l, e) = true ↔ (0 ≤ x ∧ x < C.1) ∧ a_abs v ≤ C.2.2.1 ∧ (1 ≤ e ∧ e ≤ C.2.1) ∧ a_abs t ≤ C.2.2.2.1 ∧ a_abs l ≤ C.2.2.2.1 ∧ a_sd C x e t = true := by
  have hcl : a_cl C (x, v, t, l, e) = a_cl C (x, 0, t, 0, e) := rfl
  unfold a_is
  rw [Bool.and_eq_true, decide_eq_true_eq, decide_eq_true_eq, a_sd_iff]
  constructor
  · rintro ⟨h1, h2⟩
    obtain ⟨g1, g2, g3, g4, g5, g6⟩ := a_why_c h1
    exact ⟨g1, g2, g3, g4, h2, g5, g6⟩
  · rintro ⟨g1, g2, g3, g4, g5, g6, g7⟩
    refine ⟨?_, g5⟩
    unfold a_why
    simp only
    rw [if_neg (by omega), if_neg (by omega), if_neg (by omega), if_neg (by omega), if_neg (by omega), hcl, if_pos g7]
/-- a state's number in a space -/
def a_nb (C : a_C) (σ : a_S) : Int := if a_is C σ = true then (((σ.1 * C.2.1 + σ.2.2.2.2 - 1) * (2 * C.2.2.2.1 + 1) + (σ.2.2.1 + C.2.2.2.1)) * (2 * C.2.2.1 + 1) + (σ.2.1 + C.2.2.1)) * (2 * C.2.2.2.1 + 1) + (σ.2.2.2.1 + C.2.2.2.1) else -1
theorem c_Sp_countStates (hA : sp_sh en A T P) (hq : Q (some (.int (m_i (J A 8 * J A 6 * J A 7)))) (T, m_I J, P, L, z, w)) : m_call en (d + 1) mSp_countStates [.ref A] (T, m_I J, P, L, z, w) Q := by
  refine m_into (by decide) (Nat.le_of_ble_eq_true rfl) rfl ?_
  show m_wp en _ mSp_countStates 0 [some (.ref A)] [] (T, m_I J, P, L, z, w) Q
  refine r_aln eSp_countStates_0 rfl ?_
  refine r_gete (x := J A 8) eSp_countStates_1 rfl (by decide) hA.2.1 rfl ?_
  refine r_aln eSp_countStates_4 rfl ?_
  refine r_gete (x := J A 6) eSp_countStates_5 rfl (by decide) hA.2.1 rfl ?_
  refine r_mul eSp_countStates_8 ?_
  refine r_aln eSp_countStates_9 rfl ?_
  refine r_gete (x := J A 7) eSp_countStates_10 rfl (by decide) hA.2.1 rfl ?_
  refine r_mul eSp_countStates_13 ?_
  refine r_iret eSp_countStates_14 rfl ?_
  exact hq
theorem c_Sp_numberOf (hA : sp_sh en A T P) (hB : po_sh en B T P) (hC : sp_is J A C) (ok : a_ok C) (hs : a_sm (po_get J B)) (hq : Q (some (.int (m_i (a_nb C (po_get J B))))) (T, m_I J, P, L, z, w)) : m_call en (d + 1) mSp_numberOf [.ref A, .ref B] (T, m_I J, P, L, z, w) Q := by
  have h0 : -100000 ≤ J B 0 ∧ J B 0 ≤ 100000 := hs.1
  have h1 : -100000 ≤ J B 1 ∧ J B 1 ≤ 100000 := hs.2.1
  have h2 : -100000 ≤ J B 2 ∧ J B 2 ≤ 100000 := hs.2.2.1
  have h3 : -100000 ≤ J B 3 ∧ J B 3 ≤ 100000 := hs.2.2.2.1
  have h4 : -100000 ≤ J B 4 ∧ J B 4 ≤ 100000 := hs.2.2.2.2
  obtain ⟨hC0, e6, e7, e4, hst, e8⟩ := hC
  have e0 : J A 0 = C.1 := hC0.1
  have e1 : J A 1 = C.2.1 := hC0.2.1
  have e2 : J A 2 = C.2.2.1 := hC0.2.2.1
  have e3 : J A 3 = C.2.2.2.1 := hC0.2.2.2.1
  have k0 := ok.1
  have k1 := ok.2.1
  have k2 := ok.2.2.1
  have k3 := ok.2.2.2.1
  have a1 : (0 ≤ J B 1 ∧ a_abs (J B 1) = J B 1) ∨ (J B 1 < 0 ∧ a_abs (J B 1) = -J B 1) := by unfold a_abs; split <;> omega
  have a2 : (0 ≤ J B 2 ∧ a_abs (J B 2) = J B 2) ∨ (J B 2 < 0 ∧ a_abs (J B 2) = -J B 2) := by unfold a_abs; split <;> omega
  have a3 : (0 ≤ J B 3 ∧ a_abs (J B 3) = J B 3) ∨ (J B 3 < 0 ∧ a_abs (J B 3) = -J B 3) := by unfold a_abs; split <;> omega
  have hiff := a_is_sd (C := C) (x := J B 0) (v := J B 1) (t := J B 2) (l := J B 3) (e := J B 4)
  have hno : ¬ a_is C (po_get J B) = true → Q (some (.int (m_i (-1)))) (T, m_I J, P, L, z, w) := fun q => by
    unfold a_nb at hq
    rw [if_neg q] at hq
    exact hq
  have hix : (0 ≤ J B 0 ∧ J B 0 < J A 0) → (1 ≤ J B 4 ∧ J B 4 ≤ J A 1) → (0 ≤ J B 2 + J A 3 ∧ J B 2 + J A 3 < J A 7) → (0 ≤ (J B 0 * J A 1 + J B 4 - 1) * J A 7 + (J B 2 + J A 3) ∧ (J B 0 * J A 1 + J B 4 - 1) * J A 7 + (J B 2 + J A 3) < 864) ∧ J (A + 2) ((J B 0 * J A 1 + J B 4 - 1) * J A 7 + (J B 2 + J A 3)).toNat = a_b (a_sd C (J B 0) (J B 4) (J B 2)) := fun p q r => by
    have g := sp_ix (W := J A 0) (D := J A 1) (S := J A 7) p q r
    have hw1 : J A 0 * J A 1 ≤ 16 * 6 := Int.mul_le_mul (by omega) (by omega) (by omega) (by omega)
    have hw0 : 0 ≤ J A 0 * J A 1 := Int.mul_nonneg (by omega) (by omega)
    have hw2 : J A 0 * J A 1 * J A 7 ≤ 16 * 6 * 9 := Int.mul_le_mul hw1 (by omega) (by omega) (by omega)
    have hb : 0 ≤ (J B 0 * J A 1 + J B 4 - 1) * J A 7 + (J B 2 + J A 3) ∧ (J B 0 * J A 1 + J B 4 - 1) * J A 7 + (J B 2 + J A 3) < 864 := by omega
    refine ⟨hb, ?_⟩
    rw [hst _ (by omega), Int.toNat_of_nonneg hb.1, e1, e7, e3]
    exact sp_r_e ok (by omega) (by omega) (by omega)
  have hcb := a_b_01 (a_sd C (J B 0) (J B 4) (J B 2))
  have hct : a_b (a_sd C (J B 0) (J B 4) (J B 2)) = 1 ↔ a_sd C (J B 0) (J B 4) (J B 2) = true := by
    cases a_sd C (J B 0) (J B 4) (J B 2) <;> simp [a_b]
  refine m_into (by decide) (Nat.le_of_ble_eq_true rfl) rfl ?_
  show m_wp en _ mSp_numberOf 0 [some (.ref A), some (.ref B), none, none, none, none] [] (T, m_I J, P, L, z, w) Q
  refine r_aln eSp_numberOf_0 rfl ?_
  refine r_gete (x := J B 0) eSp_numberOf_1 rfl (by decide) hB.2.1 rfl ?_
  refine r_zlt (tgt := 37) eSp_numberOf_4 rfl ⟨(by omega), (by omega)⟩ (fun c4 => ?_) (fun c4 => ?_)
  · refine r_con eSp_numberOf_37 ?_
    refine r_iret eSp_numberOf_38 rfl ?_
    exact hno (fun q => by have g := hiff.mp q; omega)
  · refine r_aln eSp_numberOf_7 rfl ?_
    refine r_gete (x := J B 0) eSp_numberOf_8 rfl (by decide) hB.2.1 rfl ?_
    refine r_aln eSp_numberOf_11 rfl ?_
    refine r_gete (x := J A 0) eSp_numberOf_12 rfl (by decide) hA.2.1 rfl ?_
    refine r_cge (tgt := 37) eSp_numberOf_15 rfl ⟨(by omega), (by omega)⟩ ⟨(by omega), (by omega)⟩ (fun c15 => ?_) (fun c15 => ?_)
    · refine r_con eSp_numberOf_37 ?_
      refine r_iret eSp_numberOf_38 rfl ?_
      exact hno (fun q => by have g := hiff.mp q; omega)
    · refine r_aln eSp_numberOf_18 rfl ?_
      refine r_gete (x := J B 4) eSp_numberOf_19 rfl (by decide) hB.2.1 rfl ?_
      refine r_con eSp_numberOf_22 ?_
      refine r_clt (tgt := 37) eSp_numberOf_23 rfl ⟨(by omega), (by omega)⟩ ⟨(by omega), (by omega)⟩ (fun c23 => ?_) (fun c23 => ?_)
      · refine r_con eSp_numberOf_37 ?_
        refine r_iret eSp_numberOf_38 rfl ?_
        exact hno (fun q => by have g := hiff.mp q; omega)
      · refine r_aln eSp_numberOf_26 rfl ?_
        refine r_gete (x := J B 4) eSp_numberOf_27 rfl (by decide) hB.2.1 rfl ?_
        refine r_aln eSp_numberOf_30 rfl ?_
        refine r_gete (x := J A 1) eSp_numberOf_31 rfl (by decide) hA.2.1 rfl ?_
        refine r_cle (tgt := 39) eSp_numberOf_34 rfl ⟨(by omega), (by omega)⟩ ⟨(by omega), (by omega)⟩ (fun c34 => ?_) (fun c34 => ?_)
        · refine r_aln eSp_numberOf_39 rfl ?_
          refine r_gete (x := J B 1) eSp_numberOf_40 rfl (by decide) hB.2.1 rfl ?_
          refine r_aln eSp_numberOf_43 rfl ?_
          refine r_gete (x := J A 2) eSp_numberOf_44 rfl (by decide) hA.2.1 rfl ?_
          refine r_add eSp_numberOf_47 ?_
          refine r_isn (ls' := [some (.ref A), some (.ref B), some (.int (m_i ((J B 1) + (J A 2)))), none, none, none]) eSp_numberOf_48 (Nat.le_of_ble_eq_true rfl) rfl ?_
          refine r_aln eSp_numberOf_49 rfl ?_
          refine r_gete (x := J B 2) eSp_numberOf_50 rfl (by decide) hB.2.1 rfl ?_
          refine r_aln eSp_numberOf_53 rfl ?_
          refine r_gete (x := J A 3) eSp_numberOf_54 rfl (by decide) hA.2.1 rfl ?_
          refine r_add eSp_numberOf_57 ?_
          refine r_isn (ls' := [some (.ref A), some (.ref B), some (.int (m_i ((J B 1) + (J A 2)))), some (.int (m_i ((J B 2) + (J A 3)))), none, none]) eSp_numberOf_58 (Nat.le_of_ble_eq_true rfl) rfl ?_
          refine r_aln eSp_numberOf_59 rfl ?_
          refine r_gete (x := J B 3) eSp_numberOf_60 rfl (by decide) hB.2.1 rfl ?_
          refine r_aln eSp_numberOf_63 rfl ?_
          refine r_gete (x := J A 3) eSp_numberOf_64 rfl (by decide) hA.2.1 rfl ?_
          refine r_add eSp_numberOf_67 ?_
          refine r_is (ls' := [some (.ref A), some (.ref B), some (.int (m_i ((J B 1) + (J A 2)))), some (.int (m_i ((J B 2) + (J A 3)))), some (.int (m_i ((J B 3) + (J A 3)))), none]) eSp_numberOf_68 (Nat.le_of_ble_eq_true rfl) rfl ?_
          refine r_iln eSp_numberOf_70 rfl ?_
          refine r_zlt (tgt := 108) eSp_numberOf_71 rfl ⟨(by omega), (by omega)⟩ (fun c71 => ?_) (fun c71 => ?_)
          · refine r_con eSp_numberOf_108 ?_
            refine r_iret eSp_numberOf_109 rfl ?_
            exact hno (fun q => by have g := hiff.mp q; omega)
          · refine r_iln eSp_numberOf_74 rfl ?_
            refine r_aln eSp_numberOf_75 rfl ?_
            refine r_gete (x := J A 6) eSp_numberOf_76 rfl (by decide) hA.2.1 rfl ?_
            refine r_cge (tgt := 108) eSp_numberOf_79 rfl ⟨(by omega), (by omega)⟩ ⟨(by omega), (by omega)⟩ (fun c79 => ?_) (fun c79 => ?_)
            · refine r_con eSp_numberOf_108 ?_
              refine r_iret eSp_numberOf_109 rfl ?_
              exact hno (fun q => by have g := hiff.mp q; omega)
            · refine r_iln eSp_numberOf_82 rfl ?_
              refine r_zlt (tgt := 108) eSp_numberOf_83 rfl ⟨(by omega), (by omega)⟩ (fun c83 => ?_) (fun c83 => ?_)
              · refine r_con eSp_numberOf_108 ?_
                refine r_iret eSp_numberOf_109 rfl ?_
                exact hno (fun q => by have g := hiff.mp q; omega)
              · refine r_iln eSp_numberOf_86 rfl ?_
                refine r_aln eSp_numberOf_87 rfl ?_
                refine r_gete (x := J A 7) eSp_numberOf_88 rfl (by decide) hA.2.1 rfl ?_
                refine r_cge (tgt := 108) eSp_numberOf_91 rfl ⟨(by omega), (by omega)⟩ ⟨(by omega), (by omega)⟩ (fun c91 => ?_) (fun c91 => ?_)
                · refine r_con eSp_numberOf_108 ?_
                  refine r_iret eSp_numberOf_109 rfl ?_
                  exact hno (fun q => by have g := hiff.mp q; omega)
                · refine r_il eSp_numberOf_94 rfl ?_
                  refine r_zlt (tgt := 108) eSp_numberOf_96 rfl ⟨(by omega), (by omega)⟩ (fun c96 => ?_) (fun c96 => ?_)
                  · refine r_con eSp_numberOf_108 ?_
                    refine r_iret eSp_numberOf_109 rfl ?_
                    exact hno (fun q => by have g := hiff.mp q; omega)
                  · refine r_il eSp_numberOf_99 rfl ?_
                    refine r_aln eSp_numberOf_101 rfl ?_
                    refine r_gete (x := J A 7) eSp_numberOf_102 rfl (by decide) hA.2.1 rfl ?_
                    refine r_clt (tgt := 110) eSp_numberOf_105 rfl ⟨(by omega), (by omega)⟩ ⟨(by omega), (by omega)⟩ (fun c105 => ?_) (fun c105 => ?_)
                    · refine r_aln eSp_numberOf_110 rfl ?_
                      refine r_gete (x := J B 0) eSp_numberOf_111 rfl (by decide) hB.2.1 rfl ?_
                      refine r_aln eSp_numberOf_114 rfl ?_
                      refine r_gete (x := J A 1) eSp_numberOf_115 rfl (by decide) hA.2.1 rfl ?_
                      refine r_mul eSp_numberOf_118 ?_
                      refine r_aln eSp_numberOf_119 rfl ?_
                      refine r_gete (x := J B 4) eSp_numberOf_120 rfl (by decide) hB.2.1 rfl ?_
                      refine r_add eSp_numberOf_123 ?_
                      refine r_con eSp_numberOf_124 ?_
                      refine r_sub eSp_numberOf_125 ?_
                      refine r_aln eSp_numberOf_126 rfl ?_
                      refine r_gete (x := J A 7) eSp_numberOf_127 rfl (by decide) hA.2.1 rfl ?_
                      refine r_mul eSp_numberOf_130 ?_
                      refine r_iln eSp_numberOf_131 rfl ?_
                      refine r_add eSp_numberOf_132 ?_
                      refine r_is (ls' := [some (.ref A), some (.ref B), some (.int (m_i ((J B 1) + (J A 2)))), some (.int (m_i ((J B 2) + (J A 3)))), some (.int (m_i ((J B 3) + (J A 3)))), some (.int (m_i ((((((J B 0) * (J A 1)) + (J B 4)) - (1)) * (J A 7)) + ((J B 2) + (J A 3)))))]) eSp_numberOf_133 (Nat.le_of_ble_eq_true rfl) rfl ?_
                      have hx9 := hix (by omega) (by omega) (by omega)
                      refine r_il eSp_numberOf_135 rfl ?_
                      refine r_zlt (tgt := 160) eSp_numberOf_137 rfl ⟨(by omega), (by omega)⟩ (fun c137 => ?_) (fun c137 => ?_)
                      · refine r_con eSp_numberOf_160 ?_
                        refine r_iret eSp_numberOf_161 rfl ?_
                        first | (exfalso; omega) | exact hno (fun q => by have g := hct.mpr (hiff.mp q).2.2.2.2.2; omega)
                      · refine r_il eSp_numberOf_140 rfl ?_
                        refine r_aln eSp_numberOf_142 rfl ?_
                        refine m_getR eSp_numberOf_143 rfl hA.2.1 (ob_p hA (i := 1) rfl) ?_
                        refine r_alen eSp_numberOf_146 (ob_t hA (i := 1) rfl) (by decide) ?_
                        refine r_cge (tgt := 160) eSp_numberOf_147 rfl ⟨(by omega), (by omega)⟩ ⟨(by omega), (by omega)⟩ (fun c147 => ?_) (fun c147 => ?_)
                        · refine r_con eSp_numberOf_160 ?_
                          refine r_iret eSp_numberOf_161 rfl ?_
                          first | (exfalso; omega) | exact hno (fun q => by have g := hct.mpr (hiff.mp q).2.2.2.2.2; omega)
                        · refine r_aln eSp_numberOf_150 rfl ?_
                          refine m_getR eSp_numberOf_151 rfl hA.2.1 (ob_p hA (i := 1) rfl) ?_
                          refine r_il eSp_numberOf_154 rfl ?_
                          refine r_balde (x := J (A + 2) (((((((J B 0) * (J A 1)) + (J B 4)) - (1)) * (J A 7)) + ((J B 2) + (J A 3))).toNat)) eSp_numberOf_156 (ob_t hA (i := 1) rfl) (by decide) (by decide) (by omega) (by omega) rfl ?_
                          rw [hx9.2]
                          refine r_zne (tgt := 162) eSp_numberOf_157 rfl ⟨(by omega), (by omega)⟩ (fun c157 => ?_) (fun c157 => ?_)
                          · refine r_il eSp_numberOf_162 rfl ?_
                            refine r_aln eSp_numberOf_164 rfl ?_
                            refine r_gete (x := J A 6) eSp_numberOf_165 rfl (by decide) hA.2.1 rfl ?_
                            refine r_mul eSp_numberOf_168 ?_
                            refine r_iln eSp_numberOf_169 rfl ?_
                            refine r_add eSp_numberOf_170 ?_
                            refine r_aln eSp_numberOf_171 rfl ?_
                            refine r_gete (x := J A 7) eSp_numberOf_172 rfl (by decide) hA.2.1 rfl ?_
                            refine r_mul eSp_numberOf_175 ?_
                            refine r_il eSp_numberOf_176 rfl ?_
                            refine r_add eSp_numberOf_178 ?_
                            refine r_iret eSp_numberOf_179 rfl ?_
                            have hy : a_is C (po_get J B) = true := hiff.mpr ⟨by omega, by omega, by omega, by omega, by omega, hct.mp (by omega)⟩
                            unfold a_nb at hq
                            rw [if_pos hy] at hq
                            rw [e1, e7, e6, e2, e3]
                            exact hq
                          · refine r_con eSp_numberOf_160 ?_
                            refine r_iret eSp_numberOf_161 rfl ?_
                            first | (exfalso; omega) | exact hno (fun q => by have g := hct.mpr (hiff.mp q).2.2.2.2.2; omega)
                    · refine r_con eSp_numberOf_108 ?_
                      refine r_iret eSp_numberOf_109 rfl ?_
                      exact hno (fun q => by have g := hiff.mp q; omega)
        · refine r_con eSp_numberOf_37 ?_
          refine r_iret eSp_numberOf_38 rfl ?_
          exact hno (fun q => by have g := hiff.mp q; omega)
end SPQ
