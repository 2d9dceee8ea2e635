/-! THE TIE: keep, back, feed -/
section TKB
variable {en : Nat → Nat} {X M N O z0 w0 : Nat} {T0 : Nat → Option (Nat × Nat)} {J0 : Nat → Nat → Int} {k : Nat} {T T' : Nat → Option (Nat × Nat)} {J J' J1 K : Nat → Nat → Int} {P P' : Nat → Nat → Option Nat} {L L' : Nat → Nat → Int64} {z w z' w' zb wb : Nat} {C : a_C}
theorem t_back (h : to_I en X M N O z0 w0 T0 J0 k T J P L z w) : m_call en 40 mSc_back [.ref X] (T, m_I J, P, L, z, w) (to_C en X M N O z0 w0 T0 J0 k mMd_back [.ref M]) := by
  have hb := h.2.1.1
  have hu := h.inv.hu
  have h46 := h.inv.kr.2.1
  obtain ⟨hp, ⟨hm, hlg⟩, ha, hi, hre⟩ := h.rel
  by_cases c : J X 7 = 0
  · refine z_Sc_back h.csh c ?_
    refine to_mk h (fun K Q eK hK eX hQ => ?_)
    have e46 : K M 46 = 0 := by rw [← hK.rel.2.2.2.1.1, eX X (by omega)]; exact c
    exact c_Md_back hK.sh eK hK.inv.kr.2.1 (fun q => absurd e46 q) (fun _ => hQ K (md_fy.refl K M) hK.inv.hkp) (fun q => absurd e46 q)
  · have c1 : J M 46 = 1 := by rw [hi.1] at c; omega
    have hJ7 : J X 7 = 1 := by rw [hi.1]; exact c1
    obtain ⟨hi1, hi2⟩ := hi.2 c1
    have hrow := h.inv.kr.2.2.2 c1
    obtain ⟨b1, b2, b3, b4, b5⟩ := mo_R_b hi1 hrow
    have q2 : ∀ b i, ¬ (X + 30 ≤ b ∧ b < X + 33) → ¬ (X + 33 ≤ b ∧ b < X + 36) → cl_back J X b i = J b i := fun b i q1 q2 => cl_back_o (by omega)
    have e0 : ∀ b i, b < X + 33 → cl_back J X b i = mo_cp J (X + 30) (X + 127) b i := fun b i q => by
      unfold cl_back
      rw [m_up_o (by omega), m_up_o (by omega), lo_cp_o (by omega)]
    have e2 : cl_back J X (X + 30) 2 = J (X + 127) 2 := by rw [e0 _ _ (by omega), mo_cp_2]
    have e3 : cl_back J X (X + 30) 3 = J (X + 127) 3 := by rw [e0 _ _ (by omega), mo_cp_3]
    have e4 : cl_back J X (X + 30) 4 = J (X + 127) 4 := by rw [e0 _ _ (by omega), mo_cp_4]
    have ep : po_get (cl_back J X) (X + 31) = po_get J (X + 128) := (po_get_e (J := mo_cp J (X + 30) (X + 127)) (fun i => e0 _ _ (by omega))).trans mo_cp_p
    have es : ∀ i : Nat, i < 16 → cl_back J X (X + 32) i = J (X + 129) i := fun i hi => by rw [e0 _ _ (by omega), show X + 32 = X + 30 + 2 from rfl, mo_cp_s hi]
    have e33 : ∀ i, i = 1 ∨ i = 2 → cl_back J X (X + 33) i = J (X + 130) i := fun i q => by
      unfold cl_back
      rw [m_up_o (by omega), m_up_o (by omega)]
      unfold lo_cp
      rcases q with q | q <;> subst q
      · rw [m_up_z (by omega), m_up_e, mo_cp_x (by omega)]
      · rw [m_up_e, mo_cp_x (by omega)]
    have e34 : ∀ i : Nat, i < 70 → cl_back J X (X + 34) i = J (X + 131) i := fun i hi => by
      unfold cl_back
      rw [m_up_o (by omega), m_up_o (by omega)]
      unfold lo_cp
      rw [m_up_o (by omega), m_up_o (by omega), show X + 34 = X + 33 + 1 from rfl, m_fl_i (by omega), Nat.sub_zero, mo_cp_x (by omega)]
    have e35 : cl_back J X (X + 35) 1 = 0 ∧ cl_back J X (X + 35) 2 = 0 := by
      unfold cl_back
      exact ⟨by rw [m_up_z (by omega), m_up_e], by rw [m_up_e]⟩
    have hmo : cl_mo (cl_back J X) X := by
      refine ⟨fun i hi => ?_, ?_, ?_, ?_, ?_⟩
      · rw [es i hi]; exact b1 i hi
      · rw [e2]; exact b2
      · rw [e3]; exact b3
      · rw [e4]; exact b4
      · rw [ep]; exact b5
    refine c_Sc_back h.csh h.pok hmo (Or.inr hJ7) (fun q => absurd q c) (fun _ J2 k1 k2 k3 k4 k5 k6 => ?_)
    have dJ : ∀ b i, ¬ (X + 132 ≤ b ∧ b ≤ X + 135) → b < X + 30 ∨ X + 36 ≤ b → J2 b i = J b i := fun b i q1 q2 => by rw [k1 _ _ q1, cl_back_o (by omega)]
    obtain ⟨G, hG⟩ : ∃ G, G = m_up J2 M 0 0 := ⟨_, rfl⟩
    have gM : ∀ b i, ¬ (b = M ∧ i = 45) → (M ≤ b ∧ b ≤ M + 26) → ¬ (b = M ∧ i = 0) → G b i = J b i := fun b i q1 q2 q3 => by rw [hG, m_up_z q3, dJ _ _ (by omega) (by omega)]
    have gX : ∀ b i, ¬ (M ≤ b ∧ b ≤ M + 26) → G b i = J2 b i := fun b i q => by rw [hG, m_up_z (by omega)]
    have g45 : G M 45 = J M 45 := by rw [hG, m_up_z (by omega), dJ _ _ (by omega) (by omega)]
    have hpre := bk_inv (G := G) (k2 := 30) h.inv (by omega) hrow gM (by omega)
    have hinv := md_as_inv hpre
    obtain ⟨F, hF⟩ : ∃ F, F = m_up (md_as (md_bk G M 30) M) M 45 0 := ⟨_, rfl⟩
    have fX : ∀ b i, ¬ (M ≤ b ∧ b ≤ M + 26) → F b i = J2 b i := fun b i q => by rw [hF, m_up_z (by omega), md_as_o _ _ (by omega) (by omega) (by omega), bk_o (by omega), gX _ _ q]
    have fo : ∀ b i, M < b → b ≤ M + 26 → b ≠ M + 18 → b ≠ M + 19 → b ≠ M + 22 → F b i = J b i := fun b i q1 q2 q3 q4 q5 => by rw [hF, m_up_z (by omega), md_as_o _ _ (by omega) q3 q4, bk_o q5, gM _ _ (by omega) (by omega) (by omega)]
    have f22 : ∀ i, i < 143 → F (M + 22) i = J (M + 23) (4290 + i) := fun i q => by rw [hF, m_up_z (by omega), md_as_o _ _ (by omega) (by omega) (by omega), bk_22 q, gM _ _ (by omega) (by omega) (by omega)]; rfl
    have fm : ∀ i, i ≠ 45 → F M i = md_as (md_bk G M 30) M M i := fun i q => by rw [hF, m_up_z (by omega)]
    have hinvF : md_inv F M := by
      have er : ∀ b i, ¬ (b = M ∧ i = 45) → F b i = md_as (md_bk G M 30) M b i := fun b i q => by rw [hF, m_up_z q]
      refine hinv.gen (fun b i q1 q2 q3 => er _ _ (by omega)) (fun i q1 q2 q3 => er _ _ (by omega)) ?_ (by rw [show F (M + 22) = md_as (md_bk G M 30) M (M + 22) from funext (fun i => er _ i (by omega))]; exact hinv.row) (er _ _ (by omega)) (fun i hi => er _ _ (by omega))
      obtain ⟨x1, x2, x3, x4⟩ := hinv.kr
      refine ⟨by rw [hF, m_up_e]; omega, by rw [er _ _ (by omega)]; exact x2, fun k hk => ?_, fun q => ?_⟩
      · rw [hF, m_up_e] at hk; omega
      · rw [er _ _ (by omega)] at q
        rw [show F (M + 23) = md_as (md_bk G M 30) M (M + 23) from funext (fun i => er _ i (by omega))]
        exact x4 q
    have m1 : ∀ k, 1 ≤ k → k ≤ 17 → F (M + k) = J (M + k) := fun k q1 q2 => funext (fun i => fo _ _ (by omega) (by omega) (by omega) (by omega) (by omega))
    have m23 : F (M + 23) = J (M + 23) := funext (fun i => fo _ _ (by omega) (by omega) (by omega) (by omega) (by omega))
    have ecf : cl_cf F X = cl_cf J2 X := cl_cf_e (fun b i q => fX b i (by omega))
    have f33 : ∀ i, F (X + 33) i = cl_back J X (X + 33) i := fun i => by rw [fX _ _ (by omega), k1 _ _ (by omega)]
    have f34 : ∀ i, F (X + 34) i = cl_back J X (X + 34) i := fun i => by rw [fX _ _ (by omega), k1 _ _ (by omega)]
    have hlo2 := h.cK.2.2.1.2
    have key : to_I en X M N O z0 w0 T0 J0 (k + 1) T F P L z w := by
      refine to_new h (fun zb wb hWJ => by
        rw [ecf]
        exact cl_W_M (cl_W_0 hWJ (pl_ok_e h.pok (fun b i p c => dJ _ _ (by omega) (by omega))) (cl_mo_e hmo (fun b i c => k1 _ _ (by omega))) (by rw [cl_cf_e (J := cl_back J X) (fun b i c => k1 _ _ (by omega))]; exact k2) k3 k4 k5) (by omega) fX) hinvF (fun b q => funext (fun i => by rw [fX _ _ (by omega), dJ _ _ (by omega) (by omega)])) (fun b q1 q2 => funext (fun i => by rw [fX _ _ (by omega), dJ _ _ (by omega) (by omega)])) m1 (fun i q => by rw [fm _ (by omega), md_as_M _ _ (by omega) (by omega), bk_o (by omega), gM _ _ (by omega) (by omega) (by omega)]) (fun i => by rw [m23]) ?_ (by rw [fX _ _ (by omega)]; exact k6) (by rw [fX _ _ (by omega), dJ _ _ (by omega) (by omega)]) (by rw [fX _ _ (by omega), dJ _ _ (by omega) (by omega)]) ?_ ?_ ?_
      · refine ⟨?_, ?_, fun i hi => ?_⟩
        · rw [f33, e33 1 (by omega)]; exact hlo2.1
        · rw [f33, e33 2 (by omega)]; exact hlo2.2.1
        · rw [show F (X + 33 + 1) i = F (X + 34) i from rfl, f34, e34 i hi]; exact hlo2.2.2 i hi
      · refine mo_R_r (mo_R_cp hi1 (by rw [fX _ _ (by omega), k1 _ _ (by omega)]; exact e2) (by rw [fX _ _ (by omega), k1 _ _ (by omega)]; exact e3) (by rw [fX _ _ (by omega), k1 _ _ (by omega)]; exact e4) ((po_get_e (J := cl_back J X) (fun i => by rw [fX _ _ (by omega), k1 _ _ (by omega)])).trans ep) (fun i hi2 => by rw [fX _ _ (by omega), k1 _ _ (by omega)]; exact es i hi2) (m1 2 (by omega) (by omega)) (m1 13 (by omega) (by omega))) (fun i hi2 => f22 i (by omega))
      · rw [f33, f33, e33 1 (by omega), e33 2 (by omega)]
        exact lo_R_r (lo_R_f hi2 hlo2.1 (by omega) (fun i hi3 => by rw [f34, e34 i hi3])) (fun i hi3 => f22 i hi3)
      · have f45 : F M 45 = 0 := by rw [hF, m_up_e]
        refine ⟨?_, ?_, fun k hk => ?_, fun k hk => ?_, fun k hk => ?_⟩
        · rw [fX _ _ (by omega), k1 _ _ (by omega), e35.2, f45]
        · rw [fX _ _ (by omega), k1 _ _ (by omega), e35.1]; omega
        · rw [f45] at hk; omega
        · rw [f45] at hk; omega
        · rw [f45] at hk; omega
    refine ⟨_, T, _, P, L, z, w, rfl, rfl, fun b c => ⟨(h.lo b c).1, (funext (fun i => dJ _ _ (by omega) (by omega))).trans (h.lo b c).2⟩, ?_⟩
    rw [hG] at hF hpre
    have g46 : m_up J2 M 0 0 M 46 = 1 := by rw [m_up_z (by omega), dJ _ _ (by omega) (by omega)]; exact c1
    refine c_Md_back h.sh rfl (Or.inr g46) (fun _ => md_row_pb hpre.1 hpre.2.1) (fun q => by omega) (fun _ => ⟨_, ?_, rfl, by rw [← hF]; exact key⟩)
    have : md_as (md_bk (m_up J2 M 0 0) M 30) M (M + 22) 1 = F (M + 22) 1 := by rw [hF, m_up_z (by omega)]
    rw [this, f22 1 (by omega), hi1.2.2.1.2.1]
end TKB
