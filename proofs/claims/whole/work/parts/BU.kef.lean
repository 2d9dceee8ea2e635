/-! THE TIE: keep, feed -/
section TKF
variable {en : Nat → Nat} {X M N O z0 w0 : Nat} {T0 : Nat → Option (Nat × Nat)} {J0 : Nat → Nat → Int} {k : Nat} {T T' : Nat → Option (Nat × Nat)} {J J' J1 K : Nat → Nat → Int} {P P' : Nat → Nat → Option Nat} {L L' : Nat → Nat → Int64} {z w z' w' zb wb : Nat} {C : a_C}
theorem pl_R_h (h : pl_R J X M) (eX : ∀ k, 17 ≤ k → k < 30 → J' (X + k) = J (X + k)) (eM : ∀ k, 2 ≤ k → k ≤ 17 → J' (M + k) = J (M + k)) : pl_R J' X M := by
  unfold pl_R at h ⊢
  rw [eX 17 (by omega) (by omega), eX 18 (by omega) (by omega), eX 20 (by omega) (by omega), eX 21 (by omega) (by omega), eX 22 (by omega) (by omega), eX 23 (by omega) (by omega), eX 24 (by omega) (by omega), eX 25 (by omega) (by omega), eX 26 (by omega) (by omega), eX 27 (by omega) (by omega), eX 28 (by omega) (by omega), eX 29 (by omega) (by omega), eM 2 (by omega) (by omega), eM 4 (by omega) (by omega), eM 5 (by omega) (by omega), eM 6 (by omega) (by omega), eM 10 (by omega) (by omega), eM 11 (by omega) (by omega), eM 12 (by omega) (by omega), eM 13 (by omega) (by omega), eM 14 (by omega) (by omega), eM 15 (by omega) (by omega), eM 17 (by omega) (by omega)]
  exact h
theorem cl_B_g (h : cl_B J X C) (eX : ∀ k, 17 ≤ k → k < 33 → J' (X + k) = J (X + k)) (e1 : J' (X + 132) 13 = J (X + 132) 13) (e2 : J' (X + 157) = J (X + 157)) (e3 : J' (X + 159) = J (X + 159)) (e4 : J' (X + 160) = J (X + 160)) (e5 : J' (X + 163) = J (X + 163)) : cl_B J' X C := by
  have ef : pl_fr J' (X + 17) = pl_fr J (X + 17) := by
    funext f x
    unfold pl_fr
    rw [eX 17 (by omega) (by omega), show J' (X + 17 + 1) = J (X + 17 + 1) from eX 18 (by omega) (by omega)]
  unfold cl_B
  rw [e1, e2, e4]
  refine ⟨fun q => ?_, fun q => ?_⟩
  · obtain ⟨n, d0, dl, a, b, c, d⟩ := h.1 q
    refine ⟨n, d0, dl, ?_, b, c, ro_V_e d (by rw [e2]) e3⟩
    unfold ro_H cl_leg cl_spt po_get at a ⊢
    rw [eX 29 (by omega) (by omega), eX 31 (by omega) (by omega), eX 21 (by omega) (by omega), eX 22 (by omega) (by omega)]
    exact a
  · obtain ⟨n, sf, a, b⟩ := h.2 q
    refine ⟨n, sf, ?_, ?_⟩
    · unfold ha_H ha_so pl_cf po_get at a ⊢
      rw [ef, eX 17 (by omega) (by omega), eX 29 (by omega) (by omega), eX 31 (by omega) (by omega)]
      exact a
    · have e : ha_dd J' X = ha_dd J X := by
        funext p t
        unfold ha_dd
        rw [ef]
      unfold ha_V at b ⊢
      rw [show J' (X + 160) 6 = J (X + 160) 6 from by rw [e4], e5, e, eX 27 (by omega) (by omega), eX 28 (by omega) (by omega), eX 32 (by omega) (by omega)]
      exact b
/-- the class's reader, its image, and the reference's have changed alone: X, X+1, X+2, X+127 to X+131 -/
theorem to_kf {F : Nat → Nat → Int} (h : to_I en X M N O z0 w0 T0 J0 k T J P L z w) (fX : ∀ b i, ¬ (b = X ∧ i = 7) → ¬ (b = X + 1 ∧ i = 1) → b ≠ X + 2 → ¬ (X + 127 ≤ b ∧ b < X + 132) → ¬ (M ≤ b ∧ b ≤ M + 26) → F b i = J b i) (fM : ∀ k, (2 ≤ k ∧ k ≤ 19) ∨ k = 22 → F (M + k) = J (M + k)) (fm : ∀ i, i = 24 ∨ i = 27 ∨ i = 28 ∨ i = 45 → F M i = J M i) (f23 : ∀ i, i < 4290 → F (M + 23) i = J (M + 23) i) (hinv : md_inv F M)
    (htp : a_tpb (F (M + 1)) (F M 2)) (hre : (0 ≤ F (X + 1) 1 ∧ F (X + 1) 1 ≤ 700) ∧ ∀ i : Nat, i < 700 → -128 ≤ F (X + 2) i ∧ F (X + 2) i ≤ 127) (hlo : lo_ok F (X + 130)) (him : im_R F X M) (hrr : F (X + 1) 1 = F M 2 ∧ ∀ i : Nat, (i : Int) < F M 2 → F (X + 2) i = a_sb (F (M + 1) i)) : to_I en X M N O z0 w0 T0 J0 (k + 1) T F P L z w := by
  have hen := h.en0
  have hu := h.inv.hu
  obtain ⟨⟨⟨zb, wb, hWJ, hz, hw⟩, hM, -, hr, -, hv⟩, hO, hK, hR, hB, hlw⟩ := h
  have hb := hO.1
  obtain ⟨⟨a1, a2, a3, a4, a5⟩, a6, ⟨a7, a8⟩, a9, a10, a11, a12⟩ := hK
  obtain ⟨hpl, ⟨hm, hl⟩, hp, hi, hre0⟩ := hR
  have er : ∀ k, 3 ≤ k → k < 127 → F (X + k) = J (X + k) := fun k q1 q2 => funext (fun i => fX _ _ (by omega) (by omega) (by omega) (by omega) (by omega))
  have eh : ∀ k, 132 ≤ k → k < 165 → F (X + k) = J (X + k) := fun k q1 q2 => funext (fun i => fX _ _ (by omega) (by omega) (by omega) (by omega) (by omega))
  have el : ∀ b, b < X → F b = J b := fun b q => funext (fun i => fX _ _ (by omega) (by omega) (by omega) (by omega) (by omega))
  have m2 := fM 2 (by omega)
  have m13 := fM 13 (by omega)
  have m22 := fM 22 (by omega)
  obtain ⟨ecf, hWF⟩ := cl_W_y hWJ (fun b i q => fX b i (by omega) (by omega) (by omega) (by omega) (by omega))
  refine ⟨⟨⟨zb, wb, hWF, by omega, by omega⟩, hM, hinv, fun k2 a b i hi2 => ?_, htp, ?_⟩, hO, ⟨⟨hre, ?_, ?_, ?_, ?_⟩, ?_, ⟨?_, hlo⟩, ?_, ?_, ?_, ?_⟩, ⟨pl_R_h hpl (fun k2 q1 q2 => er _ (by omega) (by omega)) (fun k2 q1 q2 => fM k2 (by omega)), ⟨?_, ?_⟩, ?_, him, ⟨hrr.1, hrr.2, ?_, ?_⟩⟩, ?_, fun b q => ⟨(hlw b q).1, by rw [el b q]; exact (hlw b q).2⟩⟩
  · rw [fM k2 (by omega)]; exact hr k2 a b i hi2
  · rw [fm 24 (by omega)]; exact hv
  · exact pl_ok_e a2 (fun b i p q => by
      obtain ⟨j, rfl⟩ : ∃ j, b = X + j := ⟨b - X, by omega⟩
      rw [er j (by omega) (by omega)])
  · rw [er 16 (by omega) (by omega)]; exact a3
  · unfold re_st at a4 ⊢
    rw [el _ (by have := a4.1.2; omega)]
    exact a4
  · rw [er 9 (by omega) (by omega)]; exact a5
  · unfold cl_os at a6 ⊢
    rw [el _ (by have := a6.1.2; omega)]
    exact a6
  · unfold lo_ok at a7 ⊢
    rw [er 33 (by omega) (by omega), show F (X + 33 + 1) = J (X + 33 + 1) from er 34 (by omega) (by omega)]
    exact a7
  · rw [er 16 (by omega) (by omega)]; exact a9
  · rw [eh 132 (by omega) (by omega), Int.natCast_add]; omega
  · rw [eh 132 (by omega) (by omega), eh 157 (by omega) (by omega)]; exact a11
  · rw [eh 132 (by omega) (by omega), eh 160 (by omega) (by omega)]; exact a12
  · rw [m22]
    exact mo_R_e hm (er 30 (by omega) (by omega)) (er 31 (by omega) (by omega)) (er 32 (by omega) (by omega)) m2 m13
  · rw [m22, er 33 (by omega) (by omega), er 34 (by omega) (by omega)]
    exact hl
  · obtain ⟨h1, h2, h3, h4, h5⟩ := hp
    have f45 := fm 45 (by omega)
    unfold pa_R
    rw [er 35 (by omega) (by omega), er 34 (by omega) (by omega), er 33 (by omega) (by omega), m22, f45]
    have r1 : ∀ k i : Nat, (k : Int) < J M 45 → i < 143 → F (M + 23) (143 * k + i) = J (M + 23) (143 * k + i) := fun k i q1 q2 => f23 _ (by omega)
    refine ⟨h1, h2, fun k2 hk => ?_, fun k2 hk => ?_, fun k2 hk => ?_⟩
    · have hbx := pa_ix_b h2 hu.2 ⟨Int.natCast_nonneg k2, hk⟩
      obtain ⟨x1, x2, x3⟩ := h3 k2 hk
      rw [r1 k2 1 hk (by omega)]
      refine ⟨mo_R_r (mo_R_e x1 ?_ ?_ ?_ m2 m13) (fun i q => r1 k2 i hk (by omega)), lo_R_r x2 (fun i q => r1 k2 i hk q), x3⟩
      · rw [Nat.add_assoc X 37]; exact er _ (by omega) (by omega)
      · rw [Nat.add_assoc X 37, Nat.add_assoc X]; exact er _ (by omega) (by omega)
      · rw [Nat.add_assoc X 37, Nat.add_assoc X]; exact er _ (by omega) (by omega)
    · exact pa_nx_c (h4 k2 hk) (fun i q => r1 k2 i (by omega) (by omega)) (fun i q => r1 (k2 + 1) i (by omega) (by omega))
    · exact pa_nx_c (h5 k2 hk) (fun i q => r1 k2 i (by omega) (by omega)) (fun i q => rfl)
  · rw [fX _ _ (by omega) (by omega) (by omega) (by omega) (by omega), fm 27 (by omega)]; exact hre0.2.2.1
  · rw [fX _ _ (by omega) (by omega) (by omega) (by omega) (by omega), fm 28 (by omega)]; exact hre0.2.2.2
  · rw [ecf]
    exact cl_B_g hB (fun k2 q1 q2 => er _ (by omega) (by omega)) (by rw [eh 132 (by omega) (by omega)]) (eh 157 (by omega) (by omega)) (eh 159 (by omega) (by omega)) (eh 160 (by omega) (by omega)) (eh 163 (by omega) (by omega))
theorem t_keep (h : to_I en X M N O z0 w0 T0 J0 k T J P L z w) : m_call en 40 mSc_keep [.ref X] (T, m_I J, P, L, z, w) (to_C en X M N O z0 w0 T0 J0 k mMd_keep [.ref M]) := by
  have hb := h.2.1.1
  obtain ⟨hp, ⟨hm, hlg⟩, ha, hi, hre⟩ := h.rel
  refine c_Sc_keep h.csh ?_
  have kO : ∀ b i, ¬ (b = X ∧ i = 7) → ¬ (X + 127 ≤ b ∧ b < X + 132) → cl_keep J X b i = J b i := fun b i q1 q2 => by
    unfold cl_keep
    rw [m_up_z q1, lo_cp_o (by omega), mo_cp_x (by omega)]
  have k7 : cl_keep J X X 7 = 1 := by unfold cl_keep; rw [m_up_e]
  have e0 : ∀ b i, X + 127 ≤ b → b < X + 130 → cl_keep J X b i = mo_cp J (X + 127) (X + 30) b i := fun b i q1 q2 => by
    unfold cl_keep
    rw [m_up_z (by omega), lo_cp_o (by omega)]
  have e33 : ∀ i, i = 1 ∨ i = 2 → cl_keep J X (X + 130) i = J (X + 33) i := fun i q => by
    unfold cl_keep
    rw [m_up_z (by omega)]
    unfold lo_cp
    rcases q with q | q <;> subst q
    · rw [m_up_z (by omega), m_up_e, mo_cp_x (by omega)]
    · rw [m_up_e, mo_cp_x (by omega)]
  have e34 : ∀ i : Nat, i < 70 → cl_keep J X (X + 131) i = J (X + 34) i := fun i hi => by
    unfold cl_keep
    rw [m_up_z (by omega)]
    unfold lo_cp
    rw [m_up_o (by omega), m_up_o (by omega), show X + 131 = X + 130 + 1 from rfl, m_fl_i (by omega), Nat.sub_zero, mo_cp_x (by omega)]
  have kM : ∀ b, M ≤ b → b ≤ M + 26 → cl_keep J X b = J b := fun b q1 q2 => funext (fun i => kO _ _ (by omega) (by omega))
  have ht2 := md_top_e h.top (kM M (by omega) (by omega)) (fun k q => kM _ (by omega) (by omega))
  obtain ⟨G, hG⟩ : ∃ G, G = m_up (cl_keep J X) M 0 0 := ⟨_, rfl⟩
  have hin : md_inv G M := by rw [hG]; exact ht2.1.fy md_fy_0 (md_kp_0 ht2.1.hkp)
  have gM : ∀ b i, (M ≤ b ∧ b ≤ M + 26) → ¬ (b = M ∧ i = 0) → G b i = J b i := fun b i q1 q2 => by rw [hG, m_up_z q2, kM _ q1.1 q1.2]
  obtain ⟨F, hF⟩ : ∃ F, F = m_up (m_fl G (M + 23) 4290 (G (M + 22)) 143) M 46 1 := ⟨_, rfl⟩
  have fX : ∀ b i, ¬ (M ≤ b ∧ b ≤ M + 26) → F b i = cl_keep J X b i := fun b i q => by rw [hF, m_up_z (by omega), m_fl_o (by omega), hG, m_up_z (by omega)]
  have fG : ∀ b i, b ≠ M + 23 → ¬ (b = M ∧ i = 46) → F b i = G b i := fun b i q1 q2 => by rw [hF, m_up_z q2, m_fl_o q1]
  have f23 : ∀ i, i < 4290 → F (M + 23) i = J (M + 23) i := fun i q => by rw [hF, m_up_z (by omega), m_fl_x (by omega), gM _ _ (by omega) (by omega)]
  have fim : ∀ i, i < 143 → F (M + 23) (4290 + i) = J (M + 22) i := fun i q => by rw [hF, m_up_z (by omega), m_fl_i (by omega), show 4290 + i - 4290 = i from by omega, gM _ _ (by omega) (by omega)]
  have f46 : F M 46 = 1 := by rw [hF, m_up_e]
  have hinvF : md_inv F M := by
    refine hin.gen (fun b i q1 q2 q3 => fG _ _ (by omega) (by omega)) (fun i q1 q2 q3 => fG _ _ (by omega) (by omega)) ?_ (by rw [show F (M + 22) = G (M + 22) from funext (fun i => fG _ _ (by omega) (by omega))]; exact hin.row) (fG _ _ (by omega) (by omega)) (fun i hi => fG _ _ (by omega) (by omega))
    obtain ⟨x1, x2, x3, x4⟩ := hin.kr
    have e45 : F M 45 = G M 45 := fG _ _ (by omega) (by omega)
    refine ⟨by rw [e45]; exact x1, by rw [f46]; exact Or.inr rfl, fun k hk => ?_, fun _ => ?_⟩
    · rw [e45] at hk
      refine md_row_c (fun i hi => ?_) (x3 k hk)
      rw [f23 _ (by omega), gM _ _ (by omega) (by omega)]
    · exact md_row_c (fun i hi => fim i hi) h.inv.row
  have m1 : ∀ k, (1 ≤ k ∧ k ≤ 19) ∨ k = 22 → F (M + k) = J (M + k) := fun k q => funext (fun i => by rw [fG _ _ (by omega) (by omega), gM _ _ (by omega) (by omega)])
  have key : to_I en X M N O z0 w0 T0 J0 (k + 1) T F P L z w := by
    refine to_kf h (fun b i q1 q2 q3 q4 q5 => by rw [fX _ _ q5, kO _ _ q1 q4]) (fun k q => m1 k (by omega)) (fun i q => by rw [fG _ _ (by omega) (by omega), gM _ _ (by omega) (by omega)]) f23 hinvF ?_ ?_ ?_ ?_ ⟨?_, fun i q => ?_⟩
    · rw [m1 1 (by omega), fG _ _ (by omega) (by omega), gM _ _ (by omega) (by omega)]; exact h.top.2.2.1
    · rw [show F (X + 1) = J (X + 1) from funext (fun i => by rw [fX _ _ (by omega), kO _ _ (by omega) (by omega)]), show F (X + 2) = J (X + 2) from funext (fun i => by rw [fX _ _ (by omega), kO _ _ (by omega) (by omega)])]
      exact h.cK.1.1
    · have hlo := h.cK.2.2.1.1
      refine ⟨?_, ?_, fun i hi => ?_⟩
      · rw [fX _ _ (by omega), e33 1 (by omega)]; exact hlo.1
      · rw [fX _ _ (by omega), e33 2 (by omega)]; exact hlo.2.1
      · rw [show F (X + 130 + 1) i = F (X + 131) i from rfl, fX _ _ (by omega), e34 i hi]; exact hlo.2.2 i hi
    · refine ⟨by rw [fX _ _ (by omega), k7, f46], fun _ => ⟨?_, ?_⟩⟩
      · refine mo_R_r (mo_R_cp hm (by rw [fX _ _ (by omega), e0 _ _ (by omega) (by omega), mo_cp_2]) (by rw [fX _ _ (by omega), e0 _ _ (by omega) (by omega), mo_cp_3]) (by rw [fX _ _ (by omega), e0 _ _ (by omega) (by omega), mo_cp_4]) ((po_get_e (J := mo_cp J (X + 127) (X + 30)) (fun i => by rw [fX _ _ (by omega), e0 _ _ (by omega) (by omega)])).trans mo_cp_p) (fun i hi2 => by rw [fX _ _ (by omega), e0 _ _ (by omega) (by omega), mo_cp_s hi2]) (m1 2 (by omega)) (m1 13 (by omega))) (fun i hi2 => fim i (by omega))
      · rw [fX _ _ (by omega), fX _ _ (by omega), e33 1 (by omega), e33 2 (by omega)]
        exact lo_R_r (lo_R_f hlg h.cK.2.2.1.1.1 (by omega) (fun i hi3 => by rw [fX _ _ (by omega), e34 i hi3])) (fun i hi3 => fim i hi3)
    · rw [fX _ _ (by omega), kO _ _ (by omega) (by omega), fG _ _ (by omega) (by omega), gM _ _ (by omega) (by omega)]; exact hre.1
    · rw [fG _ _ (by omega) (by omega), gM _ _ (by omega) (by omega)] at q
      rw [fX _ _ (by omega), kO _ _ (by omega) (by omega), m1 1 (by omega)]
      exact hre.2.1 i q
  refine ⟨_, T, _, P, L, z, w, rfl, rfl, fun b c => ⟨(h.lo b c).1, (funext (fun i => kO _ _ (by omega) (by omega))).trans (h.lo b c).2⟩, ?_⟩
  rw [hG] at hF
  refine c_Md_keep h.sh rfl ⟨_, ?_, rfl, by rw [← hF]; exact key⟩
  rw [m_up_z (by omega), kM _ (by omega) (by omega), hm.2.2.1.2.1]
theorem m_b8_v {y : Int} (hy : m_in y) : m_b8 y = a_sb (y % 256) := by
  unfold m_b8
  rw [Int8.toInt_toInt32, Int32.toInt_toInt8, m_i_toInt hy]
  show (if y % ((256 : Nat) : Int) < (((256 : Nat) : Int) + 1) / 2 then y % ((256 : Nat) : Int) else y % ((256 : Nat) : Int) - ((256 : Nat) : Int)) = a_sb (y % 256)
  unfold a_sb
  split <;> split <;> omega
theorem re_by_v {x : Int} {j : Nat} : re_by x j = a_sb (m_shr x (24 - 8 * (j : Int)) % 256) := by
  have h1 : m_in (m_shr x (24 - 8 * (j : Int))) := ⟨Int32.le_toInt _, Int32.toInt_lt _⟩
  unfold re_by
  rw [m_b8_v h1]
  have h2 : m_in (a_sb (m_shr x (24 - 8 * (j : Int)) % 256)) := by unfold a_sb; split <;> exact ⟨by omega, by omega⟩
  rw [m_b8_v h2]
  unfold a_sb
  split <;> split <;> omega
theorem a_sb_b {y : Int} : -128 ≤ a_sb (y % 256) ∧ a_sb (y % 256) ≤ 127 := by unfold a_sb; split <;> omega
theorem re_tn_x {x : Int} {b i : Nat} (h : ¬ (b = X + 1 ∧ i = 1)) (h2 : b ≠ X + 2) : re_tn J X x b i = J b i := by
  unfold re_tn
  rw [m_up_z h, m_fl_o h2]
theorem re_tn_y {x : Int} {i : Nat} : re_tn J X x (X + 2) i = if (J (X + 1) 1).toNat ≤ i ∧ i < (J (X + 1) 1).toNat + 4 then re_by x (i - (J (X + 1) 1).toNat) else J (X + 2) i := by
  unfold re_tn
  rw [m_up_z (by omega)]
  by_cases c : (J (X + 1) 1).toNat ≤ i ∧ i < (J (X + 1) 1).toNat + 4
  · rw [if_pos c, m_fl_i (by omega)]
  · rw [if_neg c, m_fl_x (by omega)]
theorem t_feed (h : to_I en X M N O z0 w0 T0 J0 k T J P L z w) {x1 x2 x3 x4 x5 : Int} : m_call en 40 mSc_feed [.ref X, .int (m_i x1), .int (m_i x2), .int (m_i x3), .int (m_i x4), .int (m_i x5)] (T, m_I J, P, L, z, w) (to_C en X M N O z0 w0 T0 J0 k mMd_feed [.ref M, .int (m_i x1), .int (m_i x2), .int (m_i x3), .int (m_i x4), .int (m_i x5)]) := by
  have hb := h.2.1.1
  obtain ⟨hp, hml, ha, hi, hre⟩ := h.rel
  have hK0 := h.cK.1.1
  have htp := h.top.2.2.1
  refine c_Sc_feed h.csh hK0.1 (fun q => ?_) (fun q => ?_)
  · refine to_mk h (fun K Q eK hK eX hQ => ?_)
    have e2 : K M 2 = J M 2 := by rw [← eK, m_up_z (by omega)]
    rw [hre.1] at q
    exact c_Md_feed hK.sh eK hK.top.2.2.1.1 (fun _ => hQ K (md_fy.refl K M) hK.inv.hkp) (fun c => by omega)
  · obtain ⟨n, hn⟩ : ∃ n, n = (J (X + 1) 1).toNat := ⟨_, rfl⟩
    obtain ⟨D, hD⟩ : ∃ D, D = re_tn (re_tn (re_tn (re_tn (re_tn J X x1) X x2) X x3) X x4) X x5 := ⟨_, rfl⟩
    rw [← hD]
    have dO : ∀ b i, ¬ (b = X + 1 ∧ i = 1) → b ≠ X + 2 → D b i = J b i := fun b i q1 q2 => by rw [hD, re_tn_x q1 q2, re_tn_x q1 q2, re_tn_x q1 q2, re_tn_x q1 q2, re_tn_x q1 q2]
    have d1 : D (X + 1) 1 = J (X + 1) 1 + 20 := by rw [hD, re_tn_1, re_tn_1, re_tn_1, re_tn_1, re_tn_1]; omega
    have d2 : ∀ i, D (X + 2) i = if n ≤ i ∧ i < n + 20 then a_sb (a_fb x1 x2 x3 x4 x5 ((i - n : Nat) : Int)) else J (X + 2) i := fun i => by
      rw [hD, re_tn_y, re_tn_y, re_tn_y, re_tn_y, re_tn_y, re_tn_1, re_tn_1, re_tn_1, re_tn_1]
      have t1 : (J (X + 1) 1 + 4).toNat = n + 4 := by omega
      have t2 : (J (X + 1) 1 + 4 + 4).toNat = n + 8 := by omega
      have t3 : (J (X + 1) 1 + 4 + 4 + 4).toNat = n + 12 := by omega
      have t4 : (J (X + 1) 1 + 4 + 4 + 4 + 4).toNat = n + 16 := by omega
      rw [t1, t2, t3, t4, ← hn]
      have key : ∀ (x : Int) (m : Nat), m ≤ i → i < m + 4 → (m - n) % 4 = 0 → n ≤ m → re_by x (i - m) = a_sb (m_and (m_shr x (24 - 8 * (((i - n : Nat) : Int) % 4))) 255) := fun x m q1 q2 q3 q4 => by
        rw [re_by_v, m_and_255, show (((i - n : Nat) : Int) % 4) = ((i - m : Nat) : Int) from by omega]
      by_cases c5 : n + 16 ≤ i ∧ i < n + 16 + 4
      · rw [if_pos c5, if_pos (by omega), key _ _ (by omega) (by omega) (by omega) (by omega)]
        unfold a_fb a_fv
        rw [if_neg (by omega), if_neg (by omega), if_neg (by omega), if_neg (by omega)]
      · rw [if_neg c5]
        by_cases c4 : n + 12 ≤ i ∧ i < n + 12 + 4
        · rw [if_pos c4, if_pos (by omega), key _ _ (by omega) (by omega) (by omega) (by omega)]
          unfold a_fb a_fv
          rw [if_neg (by omega), if_neg (by omega), if_neg (by omega), if_pos (by omega)]
        · rw [if_neg c4]
          by_cases c3 : n + 8 ≤ i ∧ i < n + 8 + 4
          · rw [if_pos c3, if_pos (by omega), key _ _ (by omega) (by omega) (by omega) (by omega)]
            unfold a_fb a_fv
            rw [if_neg (by omega), if_neg (by omega), if_pos (by omega)]
          · rw [if_neg c3]
            by_cases c2 : n + 4 ≤ i ∧ i < n + 4 + 4
            · rw [if_pos c2, if_pos (by omega), key _ _ (by omega) (by omega) (by omega) (by omega)]
              unfold a_fb a_fv
              rw [if_neg (by omega), if_pos (by omega)]
            · rw [if_neg c2]
              by_cases c1 : n ≤ i ∧ i < n + 4
              · rw [if_pos c1, if_pos (by omega), key _ _ (by omega) (by omega) (by omega) (by omega)]
                unfold a_fb a_fv
                rw [if_pos (by omega)]
              · rw [if_neg c1, if_neg (by omega)]
    have dM : ∀ b, M ≤ b → b ≤ M + 26 → D b = J b := fun b q1 q2 => funext (fun i => dO _ _ (by omega) (by omega))
    have ht2 := md_top_e h.top (dM M (by omega) (by omega)) (fun k q => dM _ (by omega) (by omega))
    obtain ⟨G, hG⟩ : ∃ G, G = m_up D M 0 0 := ⟨_, rfl⟩
    have hin : md_inv G M := by rw [hG]; exact ht2.1.fy md_fy_0 (md_kp_0 ht2.1.hkp)
    have gM : ∀ b i, (M ≤ b ∧ b ≤ M + 26) → ¬ (b = M ∧ i = 0) → G b i = J b i := fun b i q1 q2 => by rw [hG, m_up_z q2, dM _ q1.1 q1.2]
    have g2 : G M 2 = J M 2 := gM _ _ (by omega) (by omega)
    obtain ⟨F, hF⟩ : ∃ F, F = m_up (m_fl G (M + 1) (G M 2).toNat (fun i => a_fb x1 x2 x3 x4 x5 (i : Int)) 20) M 2 (G M 2 + 20) := ⟨_, rfl⟩
    have fX : ∀ b i, ¬ (M ≤ b ∧ b ≤ M + 26) → F b i = D b i := fun b i q => by rw [hF, m_up_z (by omega), m_fl_o (by omega), hG, m_up_z (by omega)]
    have fG : ∀ b i, b ≠ M + 1 → ¬ (b = M ∧ i = 2) → F b i = G b i := fun b i q1 q2 => by rw [hF, m_up_z q2, m_fl_o q1]
    have f2 : F M 2 = J M 2 + 20 := by rw [hF, m_up_e, g2]
    have hn2 : (G M 2).toNat = n := by rw [g2, ← hre.1, hn]
    have f1 : ∀ i, F (M + 1) i = if n ≤ i ∧ i < n + 20 then a_fb x1 x2 x3 x4 x5 ((i - n : Nat) : Int) else J (M + 1) i := fun i => by
      rw [hF, m_up_z (by omega), hn2]
      by_cases c : n ≤ i ∧ i < n + 20
      · rw [if_pos c, m_fl_i (by omega)]
      · rw [if_neg c, m_fl_x (by omega), gM _ _ (by omega) (by omega)]
    have m1 : ∀ k, (2 ≤ k ∧ k ≤ 26) → F (M + k) = J (M + k) := fun k q => funext (fun i => by rw [fG _ _ (by omega) (by omega), gM _ _ (by omega) (by omega)])
    have fm : ∀ i, i ≠ 0 → i ≠ 2 → F M i = J M i := fun i q1 q2 => by rw [fG _ _ (by omega) (by omega), gM _ _ (by omega) (by omega)]
    have hinvF : md_inv F M := by
      obtain ⟨⟨y1, y2, y3, y4⟩, y5, y6⟩ := h.inv
      have ecf : md_cf F M = md_cf J M := md_cf_eq (m1 2 (by omega)) (m1 19 (by omega)) (fm 32 (by omega) (by omega))
      have ef : md_fr F M = md_fr J M := by
        funext i
        unfold md_fr
        rw [m1 17 (by omega), m1 18 (by omega)]
      have kp := md_kp_eq (J1 := F) (m1 20 (by omega)) (m1 21 (by omega)) (fm 40 (by omega) (by omega)) (fm 41 (by omega) (by omega)) (fm 42 (by omega) (by omega)) ecf y6
      refine ⟨⟨?_, by rw [m1 22 (by omega)]; exact y2, ?_, kp.1.2⟩, ?_, kp⟩
      · unfold md_pl at y1 ⊢
        rw [m1 2 (by omega), m1 4 (by omega), m1 5 (by omega), m1 6 (by omega), m1 10 (by omega), m1 11 (by omega), m1 12 (by omega), m1 13 (by omega), m1 14 (by omega), m1 15 (by omega), m1 17 (by omega)]
        exact y1
      · unfold md_kr at y3 ⊢
        rw [m1 23 (by omega), fm 45 (by omega) (by omega), fm 46 (by omega) (by omega)]
        exact y3
      · unfold md_co at y5 ⊢
        rw [m1 22 (by omega), m1 18 (by omega), m1 19 (by omega), fm 32 (by omega) (by omega), ef]
        exact y5
    have hfb : ∀ j : Int, 0 ≤ a_fb x1 x2 x3 x4 x5 j ∧ a_fb x1 x2 x3 x4 x5 j ≤ 255 := fun j => by
      unfold a_fb
      rw [m_and_255]
      omega
    rw [hre.1] at q
    have key : to_I en X M N O z0 w0 T0 J0 (k + 1) T F P L z w := by
      refine to_kf h (fun b i q1 q2 q3 q4 q5 => by rw [fX _ _ q5, dO _ _ q2 q3]) (fun k q => m1 k (by omega)) (fun i q => fm _ (by omega) (by omega)) (fun i _ => by rw [m1 23 (by omega)]) hinvF ⟨by rw [f2]; have := htp.1; omega, fun i hi2 => ?_⟩ ⟨?_, fun i hi2 => ?_⟩ ?_ ?_ ⟨?_, fun i q2 => ?_⟩
      · rw [f1]
        split
        · exact hfb _
        · exact htp.2 i hi2
      · rw [fX _ _ (by omega), d1, hre.1]; have := htp.1; omega
      · rw [fX _ _ (by omega), d2]
        split
        · have := hfb ((i - n : Nat) : Int)
          unfold a_sb
          split <;> omega
        · exact hK0.2 i hi2
      · have := h.cK.2.2.1.2
        unfold lo_ok at this ⊢
        rw [show F (X + 130) = J (X + 130) from funext (fun i => by rw [fX _ _ (by omega), dO _ _ (by omega) (by omega)]), show F (X + 130 + 1) = J (X + 130 + 1) from funext (fun i => by rw [fX _ _ (by omega), dO _ _ (by omega) (by omega)])]
        exact this
      · have e : ∀ b, X + 127 ≤ b → b < X + 132 → F b = J b := fun b q1 q2 => funext (fun i => by rw [fX _ _ (by omega), dO _ _ (by omega) (by omega)])
        unfold im_R at hi ⊢
        rw [fX X 7 (by omega), dO X 7 (by omega) (by omega), fm 46 (by omega) (by omega), e (X + 130) (by omega) (by omega), e (X + 131) (by omega) (by omega), m1 23 (by omega)]
        exact ⟨hi.1, fun q => ⟨mo_R_e (hi.2 q).1 (e _ (by omega) (by omega)) (e _ (by omega) (by omega)) (e _ (by omega) (by omega)) (m1 2 (by omega)) (m1 13 (by omega)), (hi.2 q).2⟩⟩
      · rw [fX _ _ (by omega), d1, f2, hre.1]
      · rw [f2] at q2
        rw [fX _ _ (by omega), d2, f1]
        by_cases c : n ≤ i ∧ i < n + 20
        · rw [if_pos c, if_pos c]
        · rw [if_neg c, if_neg c]
          exact hre.2.1 i (by have := hre.1; omega)
    refine ⟨_, T, _, P, L, z, w, rfl, rfl, fun b c => ⟨(h.lo b c).1, (funext (fun i => dO _ _ (by omega) (by omega))).trans (h.lo b c).2⟩, ?_⟩
    rw [hG] at hF g2
    refine c_Md_feed h.sh rfl (by rw [g2]; exact htp.1) (fun c => by rw [g2] at c; omega) (fun _ => ⟨_, ?_, rfl, by rw [← hF]; exact key⟩)
    rw [g2, hre.1]
end TKF
