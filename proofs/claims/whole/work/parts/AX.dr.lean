/-! the class: drop -/
section SCH
variable {en : Nat → Nat} {d : Nat} {T : Nat → Option (Nat × Nat)} {J J' J0 K H : Nat → Nat → Int} {P : Nat → Nat → Option Nat} {L : Nat → Nat → Int64} {z w A B R X N zb wb : Nat} {Q : m_Q} {σ τ : a_S} {C : a_C} {k v : Int}
theorem c_Sc_drop (hX : cl_sh en X T P) (pok : pl_ok J (X + 17)) (hm : cl_mo J X) (ok : a_ok C) (hC : sp_is J (X + 133) C) (he : 0 ≤ J (X + 35) 1 ∧ J (X + 35) 1 < 30) (hs : 0 ≤ J (X + 35) 2 ∧ J (X + 35) 2 ≤ 30) {ps pc : Prop} (eps : ps ↔ ((J (X + 31) 1 = 0 ∧ J (X + 31) 2 = 0 ∧ J (X + 31) 3 = 0) ∧ a_why C (po_get J (X + 31)) = 0)) (epc : pc ↔ (0 ≤ J (X + 31) 0 ∧ J (X + 31) 0 < J (X + 17) 0))
    (hm' : (J (X + 30) 2 ≠ 0 ∧ ps ∧ pc ∧ J (X + 31) 4 + 1 = pl_fr J (X + 17) (J (X + 32)) (J (X + 31) 0)) → cl_mo (cl_gd J X (J (X + 31) 0) 1 0) X)
    (h0 : ¬ (J (X + 30) 2 ≠ 0 ∧ ps ∧ pc ∧ J (X + 31) 4 + 1 = pl_fr J (X + 17) (J (X + 32)) (J (X + 31) 0)) → Q (some (.int (m_i 0))) (T, m_I J, P, L, z, w))
    (h1 : (J (X + 30) 2 ≠ 0 ∧ ps ∧ pc ∧ J (X + 31) 4 + 1 = pl_fr J (X + 17) (J (X + 32)) (J (X + 31) 0)) → ∀ J', (∀ b i, ¬ (X + 132 ≤ b ∧ b ≤ X + 135) → J' b i = cl_gd J X (J (X + 31) 0) 1 0 b i) → sp_is J' (X + 133) (cl_cf (cl_gd J X (J (X + 31) 0) 1 0) X) → J' (X + 132) 9 = 0 → J' (X + 132) 10 = 0 → J' (X + 132) 8 = 0 → J' (X + 132) 13 = J (X + 132) 13 + 1 → Q (some (.int (m_i 1))) (T, m_I J', P, L, z, w)) : m_call en (d + 6) mSc_drop [.ref X] (T, m_I J, P, L, z, w) Q := by
  obtain ⟨hs1, ehs⟩ : ∃ y, y = a_b (decide ((J (X + 31) 1 = 0 ∧ J (X + 31) 2 = 0 ∧ J (X + 31) 3 = 0) ∧ a_why C (po_get J (X + 31)) = 0)) := ⟨_, rfl⟩
  obtain ⟨hc1, ehc⟩ : ∃ y, y = a_b (decide (0 ≤ J (X + 31) 0 ∧ J (X + 31) 0 < J (X + 17) 0)) := ⟨_, rfl⟩
  have hs2 : (hs1 = 1 ∧ ps) ∨ (hs1 = 0 ∧ ¬ ps) := by rw [ehs, eps]; exact a_bd2
  have hc2 : (hc1 = 1 ∧ pc) ∨ (hc1 = 0 ∧ ¬ pc) := by rw [ehc, epc]; exact a_bd2
  have hn : (hs1 = 0 ∨ hc1 = 0 ∨ J (X + 30) 2 = 0) → ¬ (J (X + 30) 2 ≠ 0 ∧ ps ∧ pc ∧ J (X + 31) 4 + 1 = pl_fr J (X + 17) (J (X + 32)) (J (X + 31) 0)) := fun o g => by
    rcases hs2 with q | q
    · rcases hc2 with q' | q'
      · exact g.1 (by omega)
      · exact q'.2 g.2.2.1
    · exact q.2 g.2.1
  have hy : hs1 ≠ 0 → hc1 ≠ 0 → J (X + 30) 2 ≠ 0 → J (X + 31) 4 + 1 = pl_fr J (X + 17) (J (X + 32)) (J (X + 31) 0) → (J (X + 30) 2 ≠ 0 ∧ ps ∧ pc ∧ J (X + 31) 4 + 1 = pl_fr J (X + 17) (J (X + 32)) (J (X + 31) 0)) := fun a b c f => by
    rcases hs2 with q | q
    · rcases hc2 with q' | q'
      · exact ⟨c, q.2, q'.2, f⟩
      · omega
    · omega
  have hbx := hm.2.2.2.2
  have hb0 : 0 ≤ J (X + 31) 0 ∧ J (X + 31) 0 < 16 := hbx.1
  have hb4 : 1 ≤ J (X + 31) 4 ∧ J (X + 31) 4 ≤ 6 := hbx.2.2.2.2
  have hh := hm.2.1
  have hpi := hm.1 (J (X + 31) 0).toNat (by omega)
  have hfr := pl_fr_b (p := J (X + 32)) (x := J (X + 31) 0) pok (fun i hi => (hm.1 i hi).1)
  have hfe : ∀ K, K = pa_pu J X (X + 30) → ∀ b i, b < X + 35 → K b i = J b i := fun K e b i q => by rw [e, pa_pu_o he (by omega)]
  have hge : ∀ K, K = pa_pu J X (X + 30) → m_up (m_up K (X + 32) (J (X + 31) 0).toNat (K (X + 32) (J (X + 31) 0).toNat + 1)) (X + 30) 2 0 = cl_gd J X (J (X + 31) 0) 1 0 := fun K e => by
    unfold cl_gd
    rw [hfe K e _ _ (by omega), e]
  refine m_into (by decide) (Nat.le_of_ble_eq_true rfl) rfl ?_
  show m_wp en _ mSc_drop 0 [some (.ref X), none] [] (T, m_I J, P, L, z, w) Q
  refine r_aln eSc_drop_0 rfl ?_
  refine m_getR eSc_drop_1 rfl (cl_t hX (i := 0) rfl) (cl_p hX (i := 2) rfl) ?_
  refine m_getR eSc_drop_4 rfl (cl_t hX (i := 30) rfl) (cl_p hX (i := 38) rfl) ?_
  refine r_gete (x := J (X + 31) 0) eSc_drop_7 rfl (by decide) (cl_t hX (i := 31) rfl) rfl ?_
  refine r_isn (ls' := [some (.ref X), some (.int (m_i (J (X + 31) 0)))]) eSc_drop_10 (Nat.le_of_ble_eq_true rfl) rfl ?_
  refine r_aln eSc_drop_11 rfl ?_
  refine m_getR eSc_drop_12 rfl (cl_t hX (i := 0) rfl) (cl_p hX (i := 2) rfl) ?_
  refine r_gete (x := J (X + 30) 2) eSc_drop_15 rfl (by decide) (cl_t hX (i := 30) rfl) rfl ?_
  refine r_zeq (tgt := 39) eSc_drop_18 rfl ⟨(by omega), (by omega)⟩ (fun c18 => ?_) (fun c18 => ?_)
  · refine r_con eSc_drop_39 ?_
    refine r_zret eSc_drop_40 rfl (by first | exact Or.inl rfl | exact Or.inr rfl | omega) ?_
    exact h0 (hn (by omega))
  · refine r_aln eSc_drop_21 rfl ?_
    refine r_vir eSc_drop_22 rfl rfl rfl (cl_t hX (i := 0) rfl) rfl rfl ?_
    refine c_Sc_hangsStill hX ok hC hm.2.2.2.2 ?_
    rw [← ehs]
    show m_wp en _ mSc_drop 25 [some (.ref X), some (.int (m_i (J (X + 31) 0)))] [(.int (m_i (hs1)))] (T, m_I J, P, L, z, w) Q
    refine r_zeq (tgt := 39) eSc_drop_25 rfl ⟨(by omega), (by omega)⟩ (fun c25 => ?_) (fun c25 => ?_)
    · refine r_con eSc_drop_39 ?_
      refine r_zret eSc_drop_40 rfl (by first | exact Or.inl rfl | exact Or.inr rfl | omega) ?_
      exact h0 (hn (by omega))
    · refine r_aln eSc_drop_28 rfl ?_
      refine m_getR eSc_drop_29 rfl (cl_t hX (i := 0) rfl) (cl_p hX (i := 1) rfl) ?_
      refine r_iln eSc_drop_32 rfl ?_
      refine r_vir eSc_drop_33 rfl rfl rfl (cl_t hX (i := 17) rfl) rfl rfl ?_
      refine c_Pl_hasColumn (cl_plan hX) pok ⟨by omega, by omega⟩ ?_
      rw [← ehc]
      show m_wp en _ mSc_drop 36 [some (.ref X), some (.int (m_i (J (X + 31) 0)))] [(.int (m_i (hc1)))] (T, m_I J, P, L, z, w) Q
      refine r_zne (tgt := 41) eSc_drop_36 rfl ⟨(by omega), (by omega)⟩ (fun c36 => ?_) (fun c36 => ?_)
      · refine r_aln eSc_drop_41 rfl ?_
        refine m_getR eSc_drop_42 rfl (cl_t hX (i := 0) rfl) (cl_p hX (i := 2) rfl) ?_
        refine m_getR eSc_drop_45 rfl (cl_t hX (i := 30) rfl) (cl_p hX (i := 38) rfl) ?_
        refine r_gete (x := J (X + 31) 4) eSc_drop_48 rfl (by decide) (cl_t hX (i := 31) rfl) rfl ?_
        refine r_con eSc_drop_51 ?_
        refine r_add eSc_drop_52 ?_
        refine r_aln eSc_drop_53 rfl ?_
        refine m_getR eSc_drop_54 rfl (cl_t hX (i := 0) rfl) (cl_p hX (i := 1) rfl) ?_
        refine r_aln eSc_drop_57 rfl ?_
        refine m_getR eSc_drop_58 rfl (cl_t hX (i := 0) rfl) (cl_p hX (i := 2) rfl) ?_
        refine m_getR eSc_drop_61 rfl (cl_t hX (i := 30) rfl) (cl_p hX (i := 39) rfl) ?_
        refine r_iln eSc_drop_64 rfl ?_
        refine r_vir eSc_drop_65 rfl rfl rfl (cl_t hX (i := 17) rfl) rfl rfl ?_
        refine c_Pl_freeOf (cl_plan hX) pok (cl_t hX (i := 32) rfl) (fun i hi => by have := hm.1 i hi; omega) ⟨by omega, by omega⟩ ?_
        show m_wp en _ mSc_drop 68 [some (.ref X), some (.int (m_i (J (X + 31) 0)))] [(.int (m_i ((pl_fr J (X + 17) (J (X + 32)) (J (X + 31) 0))))), (.int (m_i ((J (X + 31) 4) + (1))))] (T, m_I J, P, L, z, w) Q
        refine r_ceq (tgt := 73) eSc_drop_68 rfl ⟨(by omega), (by omega)⟩ ⟨(by omega), (by omega)⟩ (fun c68 => ?_) (fun c68 => ?_)
        · refine r_aln eSc_drop_73 rfl ?_
          refine m_getR eSc_drop_74 rfl (cl_t hX (i := 0) rfl) (cl_p hX (i := 4) rfl) ?_
          refine r_aln eSc_drop_77 rfl ?_
          refine m_getR eSc_drop_78 rfl (cl_t hX (i := 0) rfl) (cl_p hX (i := 2) rfl) ?_
          refine r_vir eSc_drop_81 rfl rfl rfl (cl_t hX (i := 35) rfl) rfl rfl ?_
          refine k_Pa_push hX he hs (fun K1 e1 => ?_)
          have f1 : ∀ b i, b < X + 35 → K1 b i = J b i := hfe _ e1
          show m_wp en _ mSc_drop 84 [some (.ref X), some (.int (m_i (J (X + 31) 0)))] [] (T, m_I K1, P, L, z, w) Q
          refine r_aln eSc_drop_84 rfl ?_
          refine m_getR eSc_drop_85 rfl (cl_t hX (i := 0) rfl) (cl_p hX (i := 2) rfl) ?_
          refine m_getR eSc_drop_88 rfl (cl_t hX (i := 30) rfl) (cl_p hX (i := 39) rfl) ?_
          refine r_iln eSc_drop_91 rfl ?_
          refine r_dup2 eSc_drop_92 ?_
          refine r_ialde (x := K1 (X + 32) ((J (X + 31) 0).toNat)) eSc_drop_93 (cl_t hX (i := 32) rfl) (by decide) (by omega) (by omega) rfl ?_
          refine r_con eSc_drop_94 ?_
          refine r_add eSc_drop_95 ?_
          refine r_iast eSc_drop_96 (cl_t hX (i := 32) rfl) (by decide) (by omega) (by omega) (cl_e hX 32) ?_
          refine r_aln eSc_drop_97 rfl ?_
          refine m_getR eSc_drop_98 rfl (cl_t hX (i := 0) rfl) (cl_p hX (i := 2) rfl) ?_
          refine r_con eSc_drop_101 ?_
          refine r_put eSc_drop_102 rfl (cl_t hX (i := 30) rfl) (cl_e hX 30) (Or.inl rfl) ?_
          refine r_aln eSc_drop_105 rfl ?_
          refine m_getR eSc_drop_106 rfl (cl_t hX (i := 0) rfl) (cl_p hX (i := 7) rfl) ?_
          refine r_vir eSc_drop_109 rfl rfl rfl (cl_t hX (i := 132) rfl) rfl rfl ?_
          have e : ((m_up (m_up K1 (X + 32) ((J (X + 31) 0).toNat) ((K1 (X + 32) ((J (X + 31) 0).toNat)) + (1))) (X + 30) 2 (0))) = cl_gd J X (J (X + 31) 0) 1 0 := hge _ e1
          rw [e]
          refine c_Wa_changed hX (pl_ok_e pok (fun b i q1 q2 => cl_gd_o he (by omega))) (hm' (hy (by omega) (by omega) (by omega) (by omega))) (fun J4 k1 k2 k3 k4 k5 k6 => ?_)
          show m_wp en _ mSc_drop 112 [some (.ref X), some (.int (m_i (J (X + 31) 0)))] [] (T, m_I J4, P, L, z, w) Q
          refine r_con eSc_drop_112 ?_
          refine r_zret eSc_drop_113 rfl (by first | exact Or.inl rfl | exact Or.inr rfl | omega) ?_
          exact h1 (hy (by omega) (by omega) (by omega) (by omega)) J4 k1 k2 k3 k4 k5 (by rw [k6, cl_gd_o he (by omega)])
        · refine r_con eSc_drop_71 ?_
          refine r_zret eSc_drop_72 rfl (by first | exact Or.inl rfl | exact Or.inr rfl | omega) ?_
          exact h0 (fun g => by have := g.2.2.2; omega)
      · refine r_con eSc_drop_39 ?_
        refine r_zret eSc_drop_40 rfl (by first | exact Or.inl rfl | exact Or.inr rfl | omega) ?_
        exact h0 (hn (by omega))
end SCH
