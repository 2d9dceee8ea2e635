/-! THE TIE: what a call leaves as it is -/
section FRA
variable {en : Nat → Nat} {T T' : Nat → Option (Nat × Nat)} {J J' J1 : Nat → Nat → Int} {P P' : Nat → Nat → Option Nat} {L L' : Nat → Nat → Int64} {z w z' w' X M N B k : Nat} {r : Nat → Int} {C : a_C}
theorem pl_R_e (h : pl_R J X M) (eX : ∀ k, k < 132 → J' (X + k) = J (X + k)) (eM : ∀ k, 1 ≤ k → k ≤ 17 → J' (M + k) = J (M + k)) : pl_R J' X M := by
  unfold pl_R at h ⊢
  rw [eX 17 (by omega), eX 18 (by omega), eX 20 (by omega), eX 21 (by omega), eX 22 (by omega), eX 23 (by omega), eX 24 (by omega), eX 25 (by omega), eX 26 (by omega), eX 27 (by omega), eX 28 (by omega), eX 29 (by omega), eM 2 (by omega) (by omega), eM 4 (by omega) (by omega), eM 5 (by omega) (by omega), eM 6 (by omega) (by omega), eM 10 (by omega) (by omega), eM 11 (by omega) (by omega), eM 12 (by omega) (by omega), eM 13 (by omega) (by omega), eM 14 (by omega) (by omega), eM 15 (by omega) (by omega), eM 17 (by omega) (by omega)]
  exact h
theorem mo_R_e (h : mo_R J M B r) (e0 : J' B = J B) (e1 : J' (B + 1) = J (B + 1)) (e2 : J' (B + 2) = J (B + 2)) (m2 : J' (M + 2) = J (M + 2)) (m13 : J' (M + 13) = J (M + 13)) : mo_R J' M B r := by
  unfold mo_R po_get at h ⊢
  rw [e0, e1, e2, m2, m13]
  exact h
theorem pa_ix_b {e n k : Int} (he : 0 ≤ e ∧ e < 30) (hn : n ≤ 30) (hk : 0 ≤ k ∧ k < n) : 0 ≤ pa_ix e n k ∧ pa_ix e n k < 30 := by unfold pa_ix; split <;> omega
theorem pa_R_e (h : pa_R J X M) (hn : J M 45 ≤ 30) (eX : ∀ k, k < 132 → J' (X + k) = J (X + k)) (m2 : J' (M + 2) = J (M + 2)) (m13 : J' (M + 13) = J (M + 13)) (m22 : J' (M + 22) = J (M + 22)) (m23 : J' (M + 23) = J (M + 23)) (m45 : J' M 45 = J M 45) : pa_R J' X M := by
  obtain ⟨h1, h2, h3, h4⟩ := h
  unfold pa_R
  rw [eX 35 (by omega), eX 34 (by omega), eX 33 (by omega), m22, m23, m45]
  refine ⟨h1, h2, fun k hk => ?_, h4⟩
  have hb := pa_ix_b h2 hn ⟨Int.natCast_nonneg k, hk⟩
  obtain ⟨a, b, c⟩ := h3 k hk
  refine ⟨mo_R_e a ?_ ?_ ?_ m2 m13, b, c⟩
  · rw [Nat.add_assoc X 37]; exact eX _ (by omega)
  · rw [Nat.add_assoc X 37, Nat.add_assoc X]; exact eX _ (by omega)
  · rw [Nat.add_assoc X 37, Nat.add_assoc X]; exact eX _ (by omega)
theorem cl_R_e (h : cl_R J X M) (hn : J M 45 ≤ 30) (eX0 : J' X = J X) (eX : ∀ k, k < 132 → J' (X + k) = J (X + k)) (eM : ∀ k, 1 ≤ k → k ≤ 17 ∨ k = 22 ∨ k = 23 → J' (M + k) = J (M + k)) (eF : ∀ i, i = 2 ∨ i = 27 ∨ i = 28 ∨ i = 45 ∨ i = 46 → J' M i = J M i) : cl_R J' X M := by
  obtain ⟨h1, ⟨h2, h3⟩, h4, h5, h6⟩ := h
  have m2 := eM 2 (by omega) (by omega)
  have m13 := eM 13 (by omega) (by omega)
  have m22 := eM 22 (by omega) (by omega)
  have m23 := eM 23 (by omega) (by omega)
  refine ⟨pl_R_e h1 eX (fun k a b => eM k a (Or.inl b)), ⟨?_, ?_⟩, pa_R_e h4 hn eX m2 m13 m22 m23 (eF 45 (by omega)), ?_, ?_⟩
  · rw [m22]
    exact mo_R_e h2 (eX 30 (by omega)) (eX 31 (by omega)) (eX 32 (by omega)) m2 m13
  · rw [m22, eX 33 (by omega), eX 34 (by omega)]
    exact h3
  · unfold im_R at h5 ⊢
    rw [eX0, eF 46 (by omega), m23, eX 130 (by omega), eX 131 (by omega)]
    exact ⟨h5.1, fun q => ⟨mo_R_e (h5.2 q).1 (eX 127 (by omega)) (eX 128 (by omega)) (eX 129 (by omega)) m2 m13, (h5.2 q).2⟩⟩
  · unfold re_R at h6 ⊢
    rw [eX 1 (by omega), eX 2 (by omega), eM 1 (by omega) (by omega), eF 2 (by omega), eF 27 (by omega), eF 28 (by omega)]
    exact h6
theorem cl_K_e (h : cl_K en X k T J) (hen : en 0 ≤ X) (hT : ∀ b, b < X → T' b = T b) (hl : ∀ b, b < X → J' b = J b) (eX : ∀ k, k < 132 → J' (X + k) = J (X + k)) (e1 : J' (X + 132) 13 = J (X + 132) 13) (e2 : J' (X + 157) 5 = J (X + 157) 5) (e3 : J' (X + 160) 7 = J (X + 160) 7) {k' : Nat} (hk : k ≤ k') : cl_K en X k' T' J' := by
  obtain ⟨⟨h1, h2, h3, h4, h5⟩, h6, ⟨h7, h8⟩, h9, h10, h11⟩ := h
  refine ⟨⟨?_, pl_ok_e h2 (fun b i p q => ?_), ?_, ?_, ?_⟩, ?_, ⟨?_, ?_⟩, ?_, ?_, ?_⟩
  · rw [eX 1 (by omega), eX 2 (by omega)]; exact h1
  · obtain ⟨j, rfl⟩ : ∃ j, b = X + j := ⟨b - X, by omega⟩
    rw [eX j (by omega)]
  · rw [eX 16 (by omega)]; exact h3
  · unfold re_st at h4 ⊢
    rw [hT _ (by have := h4.1.2; omega), hl _ (by have := h4.1.2; omega)]
    exact h4
  · rw [eX 9 (by omega)]; exact h5
  · unfold cl_os at h6 ⊢
    rw [hT _ (by have := h6.1.2; omega), hl _ (by have := h6.1.2; omega)]
    exact h6
  · unfold lo_ok at h7 ⊢
    rw [eX 33 (by omega), show J' (X + 33 + 1) = J (X + 33 + 1) from eX 34 (by omega)]
    exact h7
  · unfold lo_ok at h8 ⊢
    rw [eX 130 (by omega), show J' (X + 130 + 1) = J (X + 130 + 1) from eX 131 (by omega)]
    exact h8
  · rw [eX 16 (by omega)]; exact h9
  · rw [e1]; omega
  · rw [e1, e2, e3]; exact h11
theorem md_top_e (h : md_top J M) (e0 : J' M = J M) (e : ∀ k, k ≤ 26 → J' (M + k) = J (M + k)) : md_top J' M := by
  obtain ⟨⟨⟨h1, hrow, h3, h4⟩, h5, h6⟩, hr, htp, hv⟩ := h
  have ecf : md_cf J' M = md_cf J M := by
    unfold md_cf
    rw [e0, e 2 (by omega), e 19 (by omega)]
  have ef : md_fr J' M = md_fr J M := by
    funext i
    unfold md_fr
    rw [e 17 (by omega), e 18 (by omega)]
  have hr1 : dr_r J' M := fun k a b i hi => by rw [e k (by omega)]; exact hr k a b i hi
  have kp := md_kp_eq (J1 := J') (e 20 (by omega)) (e 21 (by omega)) (by rw [e0]) (by rw [e0]) (by rw [e0]) ecf h6
  refine ⟨⟨⟨dr_pl h1 hr1 (fun i _ => by rw [e 2 (by omega)]) (e 17 (by omega)), ?_, ?_, kp.1.2⟩, ?_, kp⟩, hr1, ?_, ?_⟩
  · rw [e 22 (by omega)]; exact hrow
  · unfold md_kr at h3 ⊢
    rw [e 23 (by omega), e0]
    exact h3
  · unfold md_co at h5 ⊢
    rw [e 22 (by omega), e 18 (by omega), e 19 (by omega), e0, ef]
    exact h5
  · rw [e 1 (by omega), e0]; exact htp
  · rw [e0]; exact hv
theorem md_sh_e (h : md_sh en M T P) (hT : ∀ b, M ≤ b → b ≤ M + 26 → T' b = T b) (hP : ∀ i, P' M i = P M i) : md_sh en M T' P' := by
  refine ⟨h.1, by rw [hT M (by omega) (by omega)]; exact h.2.1, fun q hq => ?_⟩
  have hb : q.2.1 ≤ 26 := by
    have : ∀ q ∈ md_tab, q.2.1 ≤ 26 := by decide
    exact this q hq
  rw [hP, hT _ (by omega) (by omega)]
  exact h.2.2 q hq
end FRA
