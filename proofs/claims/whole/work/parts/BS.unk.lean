/-! THE TIE: undo, keep, back -/
section TUK
variable {en : Nat → Nat} {X M N O z0 w0 : Nat} {T0 : Nat → Option (Nat × Nat)} {J0 : Nat → Nat → Int} {k : Nat} {T T' : Nat → Option (Nat × Nat)} {J J' J1 K : Nat → Nat → Int} {P P' : Nat → Nat → Option Nat} {L L' : Nat → Nat → Int64} {z w z' w' zb wb : Nat} {C : a_C}
/-- the class's moment is that of the ring's last slot; D: the class's heap -/
theorem to_un {D F : Nat → Nat → Int} {A : Nat} (h : to_I en X M N O z0 w0 T0 J0 k T J P L z w) (hn : 1 ≤ J M 45) (hA : A = X + 37 + 3 * (pa_en (J (X + 35) 1)).toNat)
    (hW : ∀ zb wb, cl_W en X N zb wb (cl_cf J X) T J P z w → cl_W en X N zb wb (cl_cf D X) T D P z w)
    (d0 : ∀ b, b < X + 30 → D b = J b) (d1 : ∀ b, (X + 36 ≤ b ∧ b < X + 132) → D b = J b) (d5 : D (X + 157) 5 = J (X + 157) 5) (d6 : D (X + 160) 7 = J (X + 160) 7) (dM : ∀ b, M ≤ b → b ≤ M + 26 → D b = J b)
    (dm : D (X + 30) 2 = J A 2 ∧ D (X + 30) 3 = J A 3 ∧ D (X + 30) 4 = J A 4) (dp : po_get D (X + 31) = po_get J (A + 1)) (ds : ∀ i : Nat, i < 16 → D (X + 32) i = J (A + 2) i) (d35 : D (X + 35) 1 = pa_en (J (X + 35) 1) ∧ D (X + 35) 2 = J (X + 35) 2 - 1) (d13 : D (X + 132) 13 = J (X + 132) 13 + 1) (dlo : lo_ok D (X + 33))
    (hL : ∀ t r, J (M + 22) 1 - J (M + 23) (143 * (J M 45 - 1).toNat + 1) ≤ t → t ≤ 30 → lo_R (J (X + 34)) (J (X + 33) 1) (J (X + 33) 2) t r → lo_R (D (X + 34)) (D (X + 33) 1) (D (X + 33) 2) (t - (J (M + 22) 1 - J (M + 23) (143 * (J M 45 - 1).toNat + 1))) r)
    (hF : F = md_as (md_bk (m_up (m_up D M 0 0) M 45 (m_up D M 0 0 M 45 - 1)) M (m_up D M 0 0 M 45 - 1)) M) : md_pb (md_bk (m_up (m_up D M 0 0) M 45 (m_up D M 0 0 M 45 - 1)) M (m_up D M 0 0 M 45 - 1)) M ∧ F M 45 = J M 45 - 1 ∧ to_I en X M N O z0 w0 T0 J0 (k + 1) T F P L z w := by
  have hb := h.2.1.1
  have hu := h.inv.hu
  obtain ⟨hp, ⟨hm, hlg⟩, ha, hi, hre⟩ := h.rel
  have e45 : m_up D M 0 0 M 45 = J M 45 := by rw [m_up_z (by omega), dM _ (by omega) (by omega)]
  rw [e45] at hF ⊢
  obtain ⟨G, hG⟩ : ∃ G, G = m_up (m_up D M 0 0) M 45 (J M 45 - 1) := ⟨_, rfl⟩
  rw [← hG] at hF ⊢
  have gM : ∀ b i, ¬ (b = M ∧ i = 45) → (M ≤ b ∧ b ≤ M + 26) → ¬ (b = M ∧ i = 0) → G b i = J b i := fun b i q1 q2 q3 => by rw [hG, m_up_z q1, m_up_z q3, dM _ q2.1 q2.2]
  have gX : ∀ b i, ¬ (M ≤ b ∧ b ≤ M + 26) → G b i = D b i := fun b i q => by rw [hG, m_up_z (by omega), m_up_z (by omega)]
  have g45 : G M 45 = J M 45 - 1 := by rw [hG, m_up_e]
  have hix : (143 * (J M 45 - 1)).toNat = 143 * (J M 45 - 1).toNat := by omega
  have hrow : md_row (fun i => J (M + 23) ((143 * (J M 45 - 1)).toNat + i)) := by rw [hix]; exact h.inv.kr.2.2.1 (J M 45 - 1).toNat (by omega)
  have hpre := bk_inv (k2 := J M 45 - 1) h.inv (by omega) hrow gM (by omega)
  have hinv := md_as_inv hpre
  have fX : ∀ b i, ¬ (M ≤ b ∧ b ≤ M + 26) → F b i = D b i := fun b i q => by rw [hF, md_as_o _ _ (by omega) (by omega) (by omega), bk_o (by omega), gX _ _ q]
  have fo : ∀ b i, M < b → b ≤ M + 26 → b ≠ M + 18 → b ≠ M + 19 → b ≠ M + 22 → F b i = J b i := fun b i q1 q2 q3 q4 q5 => by rw [hF, md_as_o _ _ (by omega) q3 q4, bk_o q5, gM _ _ (by omega) (by omega) (by omega)]
  have f22 : ∀ i, i < 143 → F (M + 22) i = J (M + 23) (143 * (J M 45 - 1).toNat + i) := fun i q => by rw [hF, md_as_o _ _ (by omega) (by omega) (by omega), bk_22 q, gM _ _ (by omega) (by omega) (by omega), hix]
  have f45 : F M 45 = J M 45 - 1 := by rw [hF, md_as_M _ _ (by omega) (by omega), bk_o (by omega), g45]
  have m1 : ∀ k, 1 ≤ k → k ≤ 17 → F (M + k) = J (M + k) := fun k q1 q2 => funext (fun i => fo _ _ (by omega) (by omega) (by omega) (by omega) (by omega))
  have m23 : F (M + 23) = J (M + 23) := funext (fun i => fo _ _ (by omega) (by omega) (by omega) (by omega) (by omega))
  have el : ∀ b, b < X + 30 → F b = J b := fun b q => (funext (fun i => fX b i (by omega))).trans (d0 b q)
  have e1 : ∀ b, (X + 36 ≤ b ∧ b < X + 132) → F b = J b := fun b q => (funext (fun i => fX b i (by omega))).trans (d1 b q)
  have hk := ha.2.2.1 (J M 45 - 1).toNat (by omega)
  have hixA : X + 37 + 3 * (pa_ix (J (X + 35) 1) (J M 45) (((J M 45 - 1).toNat : Nat) : Int)).toNat = A := by
    rw [hA]
    have he := ha.2.1
    have : pa_ix (J (X + 35) 1) (J M 45) (((J M 45 - 1).toNat : Nat) : Int) = pa_en (J (X + 35) 1) := by
      unfold pa_ix pa_en
      split <;> split <;> omega
    rw [this]
  rw [hixA] at hk
  have e33 : F (X + 33) = D (X + 33) := funext (fun i => fX _ _ (by omega))
  have e34 : F (X + 34) = D (X + 34) := funext (fun i => fX _ _ (by omega))
  have hL' : ∀ t r, J (M + 22) 1 - J (M + 23) (143 * (J M 45 - 1).toNat + 1) ≤ t → t ≤ 30 → lo_R (J (X + 34)) (J (X + 33) 1) (J (X + 33) 2) t r → lo_R (F (X + 34)) (F (X + 33) 1) (F (X + 33) 2) (t - (J (M + 22) 1 - J (M + 23) (143 * (J M 45 - 1).toNat + 1))) r := fun t r q1 q2 q3 => by rw [e33, e34]; exact hL t r q1 q2 q3
  refine ⟨md_row_pb hpre.1 hpre.2.1, f45, ?_⟩
  have ecf : cl_cf F X = cl_cf D X := cl_cf_e (fun b i q => fX b i (by omega))
  refine to_new h (fun zb wb hWJ => by rw [ecf]; exact cl_W_M (hW zb wb hWJ) (by omega) fX) (by rw [hF]; exact hinv) el (fun b q1 q2 => e1 b (by omega)) m1 (fun i q => by rw [hF, md_as_M _ _ (by omega) (by omega), bk_o (by omega), gM _ _ (by omega) (by omega) (by omega)]) (fun i => by rw [m23]) ?_ (by rw [fX _ _ (by omega)]; exact d13) (by rw [fX _ _ (by omega)]; exact d5) (by rw [fX _ _ (by omega)]; exact d6) ?_ ?_ ?_
  · unfold lo_ok at dlo ⊢
    rw [e33, show F (X + 33 + 1) = D (X + 33 + 1) from e34]
    exact dlo
  · refine mo_R_r (mo_R_cp hk.1 (by rw [fX _ _ (by omega)]; exact dm.1) (by rw [fX _ _ (by omega)]; exact dm.2.1) (by rw [fX _ _ (by omega)]; exact dm.2.2) ((po_get_e (fun i => fX _ _ (by omega))).trans dp) (fun i hi2 => by rw [fX _ _ (by omega)]; exact ds i hi2) (m1 2 (by omega) (by omega)) (m1 13 (by omega) (by omega))) (fun i hi2 => f22 i (by omega))
  · have := hL' _ _ (Int.le_refl _) (by have := hk.2.2; omega) hk.2.1
    rw [Int.sub_self] at this
    exact lo_R_r this (fun i hi2 => f22 i hi2)
  · exact pa_pop ha ⟨hn, hu.2⟩ (by rw [fX _ _ (by omega)]; exact d35.1) (by rw [fX _ _ (by omega)]; exact d35.2) (fun b q1 q2 => e1 b (by omega)) (m1 2 (by omega) (by omega)) (m1 13 (by omega) (by omega)) f45 m23 f22 hL'
theorem pa_po_f (he : 0 ≤ J (X + 35) 1 ∧ J (X + 35) 1 < 30) {A : Nat} (hA : A = X + 37 + 3 * (pa_en (J (X + 35) 1)).toNat) : (pa_po J X (X + 30) (X + 30) 2 = J A 2 ∧ pa_po J X (X + 30) (X + 30) 3 = J A 3 ∧ pa_po J X (X + 30) (X + 30) 4 = J A 4) ∧ po_get (pa_po J X (X + 30)) (X + 31) = po_get J (A + 1) ∧ (∀ i : Nat, i < 16 → pa_po J X (X + 30) (X + 32) i = J (A + 2) i) ∧ (∀ i : Nat, 16 ≤ i → pa_po J X (X + 30) (X + 32) i = J (X + 32) i) ∧ pa_po J X (X + 30) (X + 35) 1 = pa_en (J (X + 35) 1) ∧ pa_po J X (X + 30) (X + 35) 2 = J (X + 35) 2 - 1 := by
  have hen : 0 ≤ pa_en (J (X + 35) 1) ∧ pa_en (J (X + 35) 1) < 30 := by unfold pa_en; split <;> omega
  have hAb : X + 37 ≤ A ∧ A + 3 ≤ X + 127 := by omega
  have eo : ∀ b i, b ≠ X + 35 → m_up (m_up J (X + 35) 1 (pa_en (J (X + 35) 1))) (X + 35) 2 (J (X + 35) 2 - 1) b i = J b i := fun b i q => by rw [m_up_o q, m_up_o q]
  unfold pa_po
  rw [← hA]
  refine ⟨⟨?_, ?_, ?_⟩, ?_, fun i hi => ?_, fun i hi => ?_, ?_, ?_⟩
  · rw [mo_cp_2, eo _ _ (by omega)]
  · rw [mo_cp_3, eo _ _ (by omega)]
  · rw [mo_cp_4, eo _ _ (by omega)]
  · rw [show X + 31 = X + 30 + 1 from rfl, mo_cp_p]
    exact po_get_e (fun i => eo _ _ (by omega))
  · rw [show X + 32 = X + 30 + 2 from rfl, mo_cp_s hi, eo _ _ (by omega)]
  · unfold mo_cp
    rw [m_up_o (by omega), m_up_o (by omega), m_up_o (by omega), m_fl_x (by omega), po_put_o (by omega), eo _ _ (by omega)]
  · rw [mo_cp_x (by omega), m_up_z (by omega), m_up_e]
  · rw [mo_cp_x (by omega), m_up_e]
theorem t_undo (h : to_I en X M N O z0 w0 T0 J0 k T J P L z w) : m_call en 40 mSc_undo [.ref X] (T, m_I J, P, L, z, w) (to_C en X M N O z0 w0 T0 J0 k mMd_undo [.ref M]) := by
  have hb := h.2.1.1
  have hu := h.inv.hu
  obtain ⟨hp, ⟨hm, hlg⟩, ha, hi, hre⟩ := h.rel
  have he := ha.2.1
  have hlo := h.cK.2.2.1.1
  obtain ⟨A, hA⟩ : ∃ A, A = X + 37 + 3 * (pa_en (J (X + 35) 1)).toNat := ⟨_, rfl⟩
  obtain ⟨⟨a2, a3, a4⟩, a5, a6, a6', a7, a8⟩ := pa_po_f (J := J) he hA
  have hen : 0 ≤ pa_en (J (X + 35) 1) ∧ pa_en (J (X + 35) 1) < 30 := by unfold pa_en; split <;> omega
  have hixA : X + 37 + 3 * (pa_ix (J (X + 35) 1) (J M 45) (((J M 45 - 1).toNat : Nat) : Int)).toNat = A ∨ J M 45 < 1 := by
    by_cases c : J M 45 < 1
    · exact Or.inr c
    · refine Or.inl ?_
      rw [hA]
      have : pa_ix (J (X + 35) 1) (J M 45) (((J M 45 - 1).toNat : Nat) : Int) = pa_en (J (X + 35) 1) := by
        unfold pa_ix pa_en
        split <;> split <;> omega
      rw [this]
  have hkR : 1 ≤ J M 45 → mo_R J M A (fun i => J (M + 23) (143 * (J M 45 - 1).toNat + i)) ∧ lo_R (J (X + 34)) (J (X + 33) 1) (J (X + 33) 2) (J (M + 22) 1 - J (M + 23) (143 * (J M 45 - 1).toNat + 1)) (fun i => J (M + 23) (143 * (J M 45 - 1).toNat + i)) ∧ J (M + 22) 1 - J (M + 23) (143 * (J M 45 - 1).toNat + 1) ≤ 1 := fun q => by
    have := ha.2.2.1 (J M 45 - 1).toNat (by omega)
    rw [hixA.resolve_right (by omega)] at this
    exact ⟨this.1, this.2.1, by have := this.2.2; omega⟩
  have hmo : 1 ≤ J (X + 35) 2 → cl_mo (pa_po J X (X + 30)) X := fun q => by
    rw [ha.1] at q
    obtain ⟨b1, b2, b3, b4, b5⟩ := mo_R_b (hkR q).1 (h.inv.kr.2.2.1 (J M 45 - 1).toNat (by omega))
    refine ⟨fun i hi => ?_, ?_, ?_, ?_, ?_⟩
    · rw [a6 i hi]; exact b1 i hi
    · rw [a2]; exact b2
    · rw [a3]; exact b3
    · rw [a4]; exact b4
    · rw [a5]; exact b5
  refine c_Sc_undo h.csh h.pok h.mo hlo he (by rw [ha.1]; exact hu) hmo (fun q => ?_) (fun q q2 => ?_) (fun q q2 J2 k1 k2 k3 k4 k5 k6 => ?_)
  · refine to_mk h (fun K Q eK hK eX hQ => ?_)
    have e45 : K M 45 = J M 45 := by rw [← eK, m_up_z (by omega)]
    rw [ha.1] at q
    exact c_Md_undo hK.sh eK hK.inv.hu (fun c => by omega) (fun _ => hQ K (md_fy.refl K M) hK.inv.hkp) (fun c => by omega)
  · rw [ha.1] at q
    obtain ⟨r1, r2, r3⟩ := hkR q
    have ht0 : J (M + 22) 1 - J (M + 23) (143 * (J M 45 - 1).toNat + 1) = 1 := by
      have e1 : pa_po J X (X + 30) (X + 30) 3 = J (M + 23) (143 * (J M 45 - 1).toNat + 1) := a3.trans r1.2.2.1.2.1
      rw [e1, hm.2.2.1.2.1] at q2
      have := r2.1
      omega
    have hnx := (ha.2.2.2.2 (J M 45 - 1).toNat (by omega)).2 (show J (M + 22) 1 ≠ J (M + 23) (143 * (J M 45 - 1).toNat + 1) from by omega)
    have hsz : 0 < J (X + 33) 2 := by have := r2.1; omega
    have efg : ∀ b i, ¬ (b = X + 33 ∧ (i = 1 ∨ i = 2)) → cl_fg (pa_po J X (X + 30)) X b i = pa_po J X (X + 30) b i := fun b i q => by
      unfold cl_fg
      split
      · rw [m_up_z (by omega), m_up_z (by omega)]
      · rfl
    have e33 : ∀ i, pa_po J X (X + 30) (X + 33) i = J (X + 33) i := fun i => pa_po_o (by omega)
    have f1 : cl_fg (pa_po J X (X + 30)) X (X + 33) 1 = if 0 < J (X + 33) 1 then J (X + 33) 1 - 1 else 69 := by
      unfold cl_fg
      rw [e33, e33, if_pos hsz, m_up_z (by omega), m_up_e]
    have f2 : cl_fg (pa_po J X (X + 30)) X (X + 33) 2 = J (X + 33) 2 - 1 := by
      unfold cl_fg
      rw [e33, e33, if_pos hsz, m_up_e]
    have dO : ∀ b i, b ≠ X + 132 → ¬ (b = X + 33 ∧ (i = 1 ∨ i = 2)) → cl_mv (cl_fg (pa_po J X (X + 30)) X) X b i = pa_po J X (X + 30) b i := fun b i q1 q2 => by rw [cl_mv_o q1, efg _ _ q2]
    have dJ : ∀ b i, b ≠ X + 132 → b < X + 30 ∨ (X + 34 ≤ b ∧ b ≠ X + 35) → cl_mv (cl_fg (pa_po J X (X + 30)) X) X b i = J b i := fun b i q1 q2 => by rw [dO _ _ q1 (by omega), pa_po_o (by omega)]
    have d132 : ∀ i, cl_fg (pa_po J X (X + 30)) X (X + 132) i = J (X + 132) i := fun i => by rw [efg _ _ (by omega), pa_po_o (by omega)]
    have d9 : cl_mv (cl_fg (pa_po J X (X + 30)) X) X (X + 132) 9 = 0 := by unfold cl_mv; rw [m_up_z (by omega), m_up_e]
    have d13 : cl_mv (cl_fg (pa_po J X (X + 30)) X) X (X + 132) 13 = J (X + 132) 13 + 1 := by unfold cl_mv; rw [m_up_e, d132]
    have dx : ∀ i, i ≠ 9 → i ≠ 13 → cl_mv (cl_fg (pa_po J X (X + 30)) X) X (X + 132) i = J (X + 132) i := fun i q1 q2 => by unfold cl_mv; rw [m_up_z (by omega), m_up_z (by omega), d132]
    have d32 : ∀ i, cl_mv (cl_fg (pa_po J X (X + 30)) X) X (X + 32) i = J (X + 32) i := fun i => by
      rw [dO _ _ (by omega) (by omega)]
      by_cases c : i < 16
      · rw [a6 i c, r1.2.1 i c]
        exact ((hm.2.1 i c).trans (hnx.2 i c)).symm
      · exact a6' i (by omega)
    have d2 : cl_mv (cl_fg (pa_po J X (X + 30)) X) X (X + 30) 2 = J (X + 30) 2 := by
      rw [dO _ _ (by omega) (by omega), a2, r1.2.2.1.1, hm.2.2.1.1]
      exact hnx.1.symm
    have key := to_un (D := cl_mv (cl_fg (pa_po J X (X + 30)) X) X) h q hA (fun zb wb hWJ => (cl_W_mv hWJ (by
        obtain ⟨b1, b2, b3, b4, b5⟩ := hmo (by rw [ha.1]; exact q)
        refine ⟨fun i hi => ?_, ?_, ?_, ?_, ?_⟩
        · rw [dO _ _ (by omega) (by omega)]; exact b1 i hi
        · rw [dO _ _ (by omega) (by omega)]; exact b2
        · rw [dO _ _ (by omega) (by omega)]; exact b3
        · rw [dO _ _ (by omega) (by omega)]; exact b4
        · rw [po_get_e (fun i => dO _ i (by omega) (by omega))]; exact b5) (fun b i c => by
        by_cases c32 : b = X + 32
        · rw [c32]; exact d32 i
        · exact dJ b i (by have := hWJ.1.2.1; omega) (by have := hWJ.1.2.1; omega)) d2 d9 (dx 10 (by omega) (by omega)) (dx 8 (by omega) (by omega))).2) (fun b c => funext (fun i => dJ _ _ (by omega) (by omega))) (fun b c => funext (fun i => dJ _ _ (by omega) (by omega))) (dJ _ _ (by omega) (by omega)) (dJ _ _ (by omega) (by omega)) (fun b c c2 => funext (fun i => dJ _ _ (by omega) (by omega))) ⟨(dO _ _ (by omega) (by omega)).trans a2, (dO _ _ (by omega) (by omega)).trans a3, (dO _ _ (by omega) (by omega)).trans a4⟩ ((po_get_e (fun i => dO _ i (by omega) (by omega))).trans a5) (fun i hi => (dO _ _ (by omega) (by omega)).trans (a6 i hi)) ⟨(dO _ _ (by omega) (by omega)).trans a7, (dO _ _ (by omega) (by omega)).trans a8⟩ d13 (by
        refine ⟨?_, ?_, fun i hi => ?_⟩
        · rw [cl_mv_o (by omega), f1]; have := hlo.1; split <;> omega
        · rw [cl_mv_o (by omega), f2]; have := hlo.2.1; omega
        · rw [dJ _ _ (by omega) (by omega)]; exact hlo.2.2 i hi) (fun t r c1 c2 c3 => by
        rw [cl_mv_o (by omega), cl_mv_o (by omega), f1, f2, ht0, show cl_mv (cl_fg (pa_po J X (X + 30)) X) X (X + 34) = J (X + 34) from funext (fun i => dJ _ _ (by omega) (by omega))]
        exact lo_R_fg hlo.1 (by omega) c3) rfl
    have hdM : ∀ b, M ≤ b → b ≤ M + 26 → cl_mv (cl_fg (pa_po J X (X + 30)) X) X b = J b := fun b c c2 => funext (fun i => dJ _ _ (by omega) (by omega))
    have e45 : m_up (cl_mv (cl_fg (pa_po J X (X + 30)) X) X) M 0 0 M 45 = J M 45 := by rw [m_up_z (by omega), hdM _ (by omega) (by omega)]
    rw [ha.1]
    refine ⟨_, T, _, P, L, z, w, rfl, rfl, fun b c => ⟨(h.lo b c).1, (funext (fun i => dJ _ _ (by omega) (by omega))).trans (h.lo b c).2⟩, ?_⟩
    refine c_Md_undo h.sh rfl (by rw [e45]; exact hu) (fun _ => key.1) (fun c => by omega) (fun _ => ⟨_, ?_, rfl, key.2.2⟩)
    rw [key.2.1]
  · rw [ha.1] at q
    obtain ⟨r1, r2, r3⟩ := hkR q
    have ht0 : J (M + 22) 1 - J (M + 23) (143 * (J M 45 - 1).toNat + 1) = 0 := by
      have e1 : pa_po J X (X + 30) (X + 30) 3 = J (M + 23) (143 * (J M 45 - 1).toNat + 1) := a3.trans r1.2.2.1.2.1
      rw [e1, hm.2.2.1.2.1] at q2
      omega
    have dJ : ∀ b i, ¬ (X + 132 ≤ b ∧ b ≤ X + 135) → b < X + 30 ∨ (X + 33 ≤ b ∧ b ≠ X + 35) → J2 b i = J b i := fun b i q1 q2 => by rw [k1 _ _ q1, pa_po_o (by omega)]
    have key := to_un (D := J2) h q hA (fun zb wb hWJ => cl_W_0 hWJ (pl_ok_e h.pok (fun b i p c => dJ _ _ (by omega) (by omega))) (cl_mo_e (hmo (by rw [ha.1]; exact q)) (fun b i c => k1 _ _ (by omega))) (by rw [cl_cf_e (J := pa_po J X (X + 30)) (fun b i c => k1 _ _ (by omega))]; exact k2) k3 k4 k5) (fun b c => funext (fun i => dJ _ _ (by omega) (by omega))) (fun b c => funext (fun i => dJ _ _ (by omega) (by omega))) (dJ _ _ (by omega) (by omega)) (dJ _ _ (by omega) (by omega)) (fun b c c2 => funext (fun i => dJ _ _ (by omega) (by omega))) ⟨(k1 _ _ (by omega)).trans a2, (k1 _ _ (by omega)).trans a3, (k1 _ _ (by omega)).trans a4⟩ ((po_get_e (fun i => k1 _ i (by omega))).trans a5) (fun i hi => (k1 _ _ (by omega)).trans (a6 i hi)) ⟨(k1 _ _ (by omega)).trans a7, (k1 _ _ (by omega)).trans a8⟩ k6 (by
        unfold lo_ok at hlo ⊢
        rw [show J2 (X + 33) = J (X + 33) from funext (fun i => dJ _ _ (by omega) (by omega)), show J2 (X + 33 + 1) = J (X + 33 + 1) from funext (fun i => dJ _ _ (by omega) (by omega))]
        exact hlo) (fun t r c1 c2 c3 => by
        rw [ht0, show J2 (X + 33) = J (X + 33) from funext (fun i => dJ _ _ (by omega) (by omega)), show J2 (X + 34) = J (X + 34) from funext (fun i => dJ _ _ (by omega) (by omega)), Int.sub_zero]
        exact c3) rfl
    have e45 : m_up J2 M 0 0 M 45 = J M 45 := by rw [m_up_z (by omega), dJ _ _ (by omega) (by omega)]
    rw [ha.1]
    refine ⟨_, T, _, P, L, z, w, rfl, rfl, fun b c => ⟨(h.lo b c).1, (funext (fun i => dJ _ _ (by omega) (by omega))).trans (h.lo b c).2⟩, ?_⟩
    refine c_Md_undo h.sh rfl (by rw [e45]; exact hu) (fun _ => key.1) (fun c => by omega) (fun _ => ⟨_, ?_, rfl, key.2.2⟩)
    rw [key.2.1]
end TUK
