/-! the class is made -/
section CNX
variable {en : Nat → Nat} {d : Nat} {T : Nat → Option (Nat × Nat)} {J : Nat → Nat → Int} {P : Nat → Nat → Option Nat} {L : Nat → Nat → Int64} {z w A X : Nat} {Q : m_Q}
theorem xk_lt {k m : Nat} (h : k < m) : X + k < X + m := by omega
theorem x0_lt {m : Nat} (h : 0 < m) : X < X + m := by omega
theorem xk_ne {k : Nat} (h : 0 < k) : X + k ≠ X := by omega
theorem xk_nn {k m : Nat} (h : k ≠ m) : X + k ≠ X + m := by omega
theorem x0_ne {m : Nat} (h : 0 < m) : X ≠ X + m := by omega
theorem bx_01 : a_bx (0, 0, 0, 0, 1) := ⟨⟨(by decide : (0 : Int) ≤ 0), (by decide : (0 : Int) < 16)⟩, ⟨(by decide : (-2 : Int) ≤ 0), (by decide : (0 : Int) ≤ 2)⟩, ⟨(by decide : (-4 : Int) ≤ 0), (by decide : (0 : Int) ≤ 4)⟩, ⟨(by decide : (-4 : Int) ≤ 0), (by decide : (0 : Int) ≤ 4)⟩, (by decide : (1 : Int) ≤ 1), (by decide : (1 : Int) ≤ 6)⟩
theorem in_0 : m_in 0 := ⟨by omega, by omega⟩
theorem pl_ok_0 (h : J A 0 = 16 ∧ J A 1 = 6 ∧ J A 2 = 2 ∧ J A 3 = 4) (hr : ∀ i : Nat, i < 16 → J (A + 1) i = 6 ∧ J (A + 2) i = 0) (ht : ∀ i : Nat, i < 12 → J (A + 12) i = 0) (ho : ∀ b i, A + 3 ≤ b → b ≤ A + 11 → J b i = 0) : pl_ok J A := by
  obtain ⟨v0, v1, v2, v3⟩ := h
  refine ⟨by omega, by omega, by omega, by omega, ?_, ?_, ?_, ?_, fun j hj => ?_, fun j hj => ?_, fun j hj => ?_, fun j hj => ?_, fun j hj => ?_⟩
  · rw [ht 5 (by omega)]; omega
  · rw [ht 7 (by omega)]; omega
  · rw [ht 8 (by omega)]; omega
  · rw [ht 10 (by omega)]; omega
  · rw [(hr j hj).1, (hr j hj).2]; omega
  · rw [ho _ _ (by omega) (by omega), ho _ _ (by omega) (by omega), ho _ _ (by omega) (by omega)]; exact ⟨in_0, by omega⟩
  · rw [ho _ _ (by omega) (by omega), ho _ _ (by omega) (by omega)]; exact ⟨in_0, by omega⟩
  · rw [ho _ _ (by omega) (by omega), ho _ _ (by omega) (by omega)]; exact ⟨in_0, by omega⟩
  · rw [ho _ _ (by omega) (by omega), ho _ _ (by omega) (by omega)]; decide
def sc_s (X o : Nat) (T : Nat → Option (Nat × Nat)) (P : Nat → Nat → Option Nat) : Prop := P (X + o) 0 = some (X + (o + 1)) ∧ P (X + o) 1 = some (X + (o + 2)) ∧ P (X + o) 4 = some (X + 133) ∧ T (X + (o + 1)) = some (20, 0) ∧ T (X + (o + 2)) = some (20, 0)
/-- the class, made -/
def sc_N (en : Nat → Nat) (X : Nat) (T : Nat → Option (Nat × Nat)) (J : Nat → Nat → Int) (T' : Nat → Option (Nat × Nat)) (J' : Nat → Nat → Int) (P' : Nat → Nat → Option Nat) : Prop :=
  (∀ b, b < X → T' b = T b ∧ ∀ i, J' b i = J b i) ∧ cl_sh en X T' P' ∧ (sc_s X 139 T' P' ∧ sc_s X 144 T' P' ∧ sc_s X 149 T' P') ∧
  (((∀ i, i ≠ 4 → J' (X + 1) i = 0) ∧ J' (X + 1) 4 = -1 ∧ (∀ i, J' (X + 2) i = 0) ∧ ∀ i : Nat, i < 18 → J' (X + 16) i = re_W i) ∧ (J' (X + 3) 0 = 16 ∧ J' (X + 3) 1 = 6 ∧ J' (X + 3) 2 = 2 ∧ J' (X + 3) 3 = 4 ∧ J' (X + 3) 4 = 0 ∧ J' (X + 3) 5 = 0 ∧ J' (X + 3) 6 = 1) ∧ ((∀ i : Nat, i < 16 → J' (X + 4) i = 6 ∧ J' (X + 5) i = 0) ∧ ∀ i : Nat, i < 12 → J' (X + 15) i = 0) ∧ ∀ b i, X + 6 ≤ b → b ≤ X + 14 → J' b i = 0) ∧
  ((J' (X + 17) 0 = 16 ∧ J' (X + 17) 1 = 6 ∧ J' (X + 17) 2 = 2 ∧ J' (X + 17) 3 = 4 ∧ J' (X + 17) 4 = 0 ∧ J' (X + 17) 5 = 0 ∧ J' (X + 17) 6 = 1) ∧ ((∀ i : Nat, i < 16 → J' (X + 18) i = 6 ∧ J' (X + 19) i = 0) ∧ ∀ i : Nat, i < 12 → J' (X + 29) i = 0) ∧ ∀ b i, X + 20 ≤ b → b ≤ X + 28 → J' b i = 0) ∧
  ((∀ i, J' (X + 30) i = 0) ∧ po_get J' (X + 31) = (0, 0, 0, 0, 1) ∧ ∀ i : Nat, i < 16 → J' (X + 32) i = 0) ∧
  ((∀ i, J' (X + 33) i = 0) ∧ (∀ i, J' (X + 34) i = 0) ∧ (∀ i, J' (X + 35) i = 0) ∧ (∀ i, J' (X + 130) i = 0) ∧ (∀ i, J' (X + 131) i = 0) ∧ ∀ i, J' X i = 0) ∧
  (J' (X + 157) 5 = -1 ∧ J' (X + 160) 7 = -1) ∧ (J' (X + 132) 9 = 0 ∧ J' (X + 132) 10 = 0 ∧ J' (X + 132) 8 = 0 ∧ J' (X + 132) 13 = 1 ∧ sp_is J' (X + 133) (cl_cf J' X))
set_option maxHeartbeats 4000000 in
theorem c_Sc_init (hT : T X = some (11, 0)) (hX : en 0 ≤ X) (hz : ∀ i, J X i = 0) (hq : ∀ T' J' P' L', sc_N en X T J T' J' P' → Q none (T', m_I J', P', L', X + 165, w + m_W 6 + 700 + m_W 4 + 16 + 16 + 6 + 6 + 6 + 8 + 8 + 16 + 16 + 3 + 3 + 12 + 18 + m_W 4 + 16 + 16 + 6 + 6 + 6 + 8 + 8 + 16 + 16 + 3 + 3 + 12 + m_W 2 + m_W 5 + 16 + m_W 1 + 70 + m_W 3 + 30 + 30 * (m_W 2 + m_W 5 + 16) + m_W 2 + m_W 5 + 16 + m_W 1 + 70 + m_W 10 + m_W 9 + 16 + 864 + m_W 9 + 16 + 864 + m_W 8 + 0 + 0 + m_W 5 + m_W 5 + m_W 8 + 0 + 0 + m_W 5 + m_W 5 + m_W 8 + 0 + 0 + m_W 5 + m_W 5 + 36 + m_W 5 + m_W 5 + m_W 7 + 6 + 6 + m_W 0 + 16 + 3 + 3 + m_W 5)) : m_call en (d + 6) mSc_init [.ref X] (T, m_I J, P, L, X + 1, w) Q := by
  refine m_into (by decide) (Nat.le_of_ble_eq_true rfl) rfl ?_
  refine r_aln eSc_init_0 rfl ?_
  refine r_obj eSc_init_1 rfl (by decide) ?_
  refine r_aln eSc_init_4 rfl ?_
  refine r_nwo (c := 6) eSc_init_5 rfl ?_
  have hB1 : m_nT T (X + 1) (6, 0) X = some (11, 0) := by rw [nT_o (by omega)]; exact hT
  refine r_dupr eSc_init_8 ?_
  refine r_spe eSc_init_9 rfl rfl rfl (by decide) rfl ?_
  refine c_Re_init (A := X + 1) nT_e (by omega) (fun i => nw_e) (fun T1 J1 P1 L1 g1 => ?_)
  show m_wp en _ mSc_init 12 [some (.ref X)] [(.ref (X + 1)), (.ref X)] (T1, m_I J1, P1, L1, X + 17, _) Q
  have eT1 : ∀ b, b < X + 1 → T1 b = T b := fun b q => (g1.1.1 b q).1.trans (nT_o (by omega))
  have eJ1 : ∀ b k, b < X + 1 → J1 b k = J b k := fun b k q => ((g1.1.1 b q).2.1 k).trans (nw_o (by omega))
  have eP1 := fun b k (q : b < X + 1) => ((g1.1.1 b q).2.2 k).trans (nw_o (by omega))
  have eo1 : T1 (X + 1) = some (6, 0) := g1.1.2.trans nT_e
  have hA1 : T1 X = some (11, 0) := (eT1 X (by omega)).trans hT
  refine m_putR eSc_init_12 rfl hA1 hX (Or.inr ⟨rfl, rfl⟩) ?_
  refine r_aln eSc_init_15 rfl ?_
  refine r_nwo (c := 4) eSc_init_16 rfl ?_
  have hB2 : m_nT T1 (X + 17) (4, 0) X = some (11, 0) := by rw [nT_o (by omega)]; exact hA1
  refine r_dupr eSc_init_19 ?_
  refine r_spe eSc_init_20 rfl rfl rfl (by decide) rfl ?_
  refine c_Pl_init (A := X + 17) nT_e (by omega) (fun i => nw_e) (fun T2 J2 P2 L2 g2 => ?_)
  show m_wp en _ mSc_init 23 [some (.ref X)] [(.ref (X + 17)), (.ref X)] (T2, m_I J2, P2, L2, X + 30, _) Q
  have eT2 : ∀ b, b < X + 17 → T2 b = T1 b := fun b q => (g2.1.1 b q).1.trans (nT_o (by omega))
  have eJ2 : ∀ b k, b < X + 17 → J2 b k = J1 b k := fun b k q => ((g2.1.1 b q).2.1 k).trans (nw_o (by omega))
  have eP2 := fun b k (q : b < X + 17) => ((g2.1.1 b q).2.2 k).trans (nw_o (by omega))
  have eo2 : T2 (X + 17) = some (4, 0) := g2.1.2.trans nT_e
  have hA2 : T2 X = some (11, 0) := (eT2 X (by omega)).trans hA1
  refine m_putR eSc_init_23 rfl hA2 hX (Or.inr ⟨rfl, rfl⟩) ?_
  refine r_aln eSc_init_26 rfl ?_
  refine r_nwo (c := 2) eSc_init_27 rfl ?_
  have hB3 : m_nT T2 (X + 30) (2, 0) X = some (11, 0) := by rw [nT_o (by omega)]; exact hA2
  refine r_dupr eSc_init_30 ?_
  refine r_spe eSc_init_31 rfl rfl rfl (by decide) rfl ?_
  refine c_Mo_init (A := X + 30) nT_e (by omega) (fun i => nw_e) (fun T3 J3 P3 L3 g3 => ?_)
  show m_wp en _ mSc_init 34 [some (.ref X)] [(.ref (X + 30)), (.ref X)] (T3, m_I J3, P3, L3, X + 33, _) Q
  have eT3 : ∀ b, b < X + 30 → T3 b = T2 b := fun b q => (g3.1.1 b q).1.trans (nT_o (by omega))
  have eJ3 : ∀ b k, b < X + 30 → J3 b k = J2 b k := fun b k q => ((g3.1.1 b q).2.1 k).trans (nw_o (by omega))
  have eP3 := fun b k (q : b < X + 30) => ((g3.1.1 b q).2.2 k).trans (nw_o (by omega))
  have eo3 : T3 (X + 30) = some (2, 0) := g3.1.2.trans nT_e
  have hA3 : T3 X = some (11, 0) := (eT3 X (by omega)).trans hA2
  refine m_putR eSc_init_34 rfl hA3 hX (Or.inr ⟨rfl, rfl⟩) ?_
  refine r_aln eSc_init_37 rfl ?_
  refine m_getR (r := X + 30) eSc_init_38 rfl hA3 (by rw [up_e]) ?_
  refine r_aln eSc_init_41 rfl ?_
  refine m_getR (r := X + 17) eSc_init_42 rfl hA3 (by rw [up_z (fun q => absurd q.2 (by decide)), eP3 _ _ (x0_lt (by decide)), up_e]) ?_
  refine r_vir eSc_init_45 rfl rfl rfl (show T3 (X + 30) = some (2, 0) from eo3) rfl rfl ?_
  have hmo : mo_sh en (X + 30) T3 (m_up P3 X 2 (some (X + 30))) := by
    refine ⟨by omega, eo3, fun q hq2 => ?_⟩
    simp only [mo_tab, List.mem_cons, List.not_mem_nil, or_false] at hq2
    rcases hq2 with rfl | rfl
    · exact ⟨by rw [up_z (by omega)]; exact g3.2.2.1.1, g3.2.1.1⟩
    · exact ⟨by rw [up_z (by omega)]; exact g3.2.2.1.2, g3.2.1.2⟩
  have hpl : pl_sh en (X + 17) T3 (m_up P3 X 2 (some (X + 30))) := ob_sh_e (n := 13) g2.2.1 (by decide) (by omega) (fun b q1 q2 => eT3 b (by omega)) (fun i => by rw [up_z (by omega), eP3 _ _ (by omega), up_z (by omega)])
  refine k_Mo_begin hmo hpl (by omega) (fun K3 e3 => ?_)
  show m_wp en _ mSc_init 48 [some (.ref X)] [] (T3, m_I K3, _, L3, X + 33, _) Q
  refine r_aln eSc_init_48 rfl ?_
  refine r_nwo (c := 1) eSc_init_49 rfl ?_
  have hB4 : m_nT T3 (X + 33) (1, 0) X = some (11, 0) := by rw [nT_o (by omega)]; exact hA3
  refine r_dupr eSc_init_52 ?_
  refine r_spe eSc_init_53 rfl rfl rfl (by decide) rfl ?_
  refine c_Lo_init (A := X + 33) nT_e (by omega) (fun i => nw_e) (fun T4 J4 P4 L4 g4 => ?_)
  show m_wp en _ mSc_init 56 [some (.ref X)] [(.ref (X + 33)), (.ref X)] (T4, m_I J4, P4, L4, X + 35, _) Q
  have eT4 : ∀ b, b < X + 33 → T4 b = T3 b := fun b q => (g4.1.1 b q).1.trans (nT_o (by omega))
  have eJ4 : ∀ b k, b < X + 33 → J4 b k = K3 b k := fun b k q => ((g4.1.1 b q).2.1 k).trans (nw_o (by omega))
  have eP4 := fun b k (q : b < X + 33) => ((g4.1.1 b q).2.2 k).trans (nw_o (by omega))
  have eo4 : T4 (X + 33) = some (1, 0) := g4.1.2.trans nT_e
  have hA4 : T4 X = some (11, 0) := (eT4 X (by omega)).trans hA3
  refine m_putR eSc_init_56 rfl hA4 hX (Or.inr ⟨rfl, rfl⟩) ?_
  refine r_aln eSc_init_59 rfl ?_
  refine r_nwo (c := 3) eSc_init_60 rfl ?_
  have hB5 : m_nT T4 (X + 35) (3, 0) X = some (11, 0) := by rw [nT_o (by omega)]; exact hA4
  refine r_dupr eSc_init_63 ?_
  refine r_spe eSc_init_64 rfl rfl rfl (by decide) rfl ?_
  refine c_Pa_init (A := X + 35) nT_e (by omega) (fun i => nw_e) (fun T5 J5 P5 L5 g5 => ?_)
  show m_wp en _ mSc_init 67 [some (.ref X)] [(.ref (X + 35)), (.ref X)] (T5, m_I J5, P5, L5, X + 127, _) Q
  have eT5 : ∀ b, b < X + 35 → T5 b = T4 b := fun b q => (g5.1.1 b q).1.trans (nT_o (by omega))
  have eJ5 : ∀ b k, b < X + 35 → J5 b k = J4 b k := fun b k q => ((g5.1.1 b q).2.1 k).trans (nw_o (by omega))
  have eP5 := fun b k (q : b < X + 35) => ((g5.1.1 b q).2.2 k).trans (nw_o (by omega))
  have eo5 : T5 (X + 35) = some (3, 0) := g5.1.2.trans nT_e
  have hA5 : T5 X = some (11, 0) := (eT5 X (by omega)).trans hA4
  refine m_putR eSc_init_67 rfl hA5 hX (Or.inr ⟨rfl, rfl⟩) ?_
  refine r_aln eSc_init_70 rfl ?_
  refine r_nwo (c := 2) eSc_init_71 rfl ?_
  have hB6 : m_nT T5 (X + 127) (2, 0) X = some (11, 0) := by rw [nT_o (by omega)]; exact hA5
  refine r_dupr eSc_init_74 ?_
  refine r_spe eSc_init_75 rfl rfl rfl (by decide) rfl ?_
  refine c_Mo_init (A := X + 127) nT_e (by omega) (fun i => nw_e) (fun T6 J6 P6 L6 g6 => ?_)
  show m_wp en _ mSc_init 78 [some (.ref X)] [(.ref (X + 127)), (.ref X)] (T6, m_I J6, P6, L6, X + 130, _) Q
  have eT6 : ∀ b, b < X + 127 → T6 b = T5 b := fun b q => (g6.1.1 b q).1.trans (nT_o (by omega))
  have eJ6 : ∀ b k, b < X + 127 → J6 b k = J5 b k := fun b k q => ((g6.1.1 b q).2.1 k).trans (nw_o (by omega))
  have eP6 := fun b k (q : b < X + 127) => ((g6.1.1 b q).2.2 k).trans (nw_o (by omega))
  have eo6 : T6 (X + 127) = some (2, 0) := g6.1.2.trans nT_e
  have hA6 : T6 X = some (11, 0) := (eT6 X (by omega)).trans hA5
  refine m_putR eSc_init_78 rfl hA6 hX (Or.inr ⟨rfl, rfl⟩) ?_
  refine r_aln eSc_init_81 rfl ?_
  refine r_nwo (c := 1) eSc_init_82 rfl ?_
  have hB7 : m_nT T6 (X + 130) (1, 0) X = some (11, 0) := by rw [nT_o (by omega)]; exact hA6
  refine r_dupr eSc_init_85 ?_
  refine r_spe eSc_init_86 rfl rfl rfl (by decide) rfl ?_
  refine c_Lo_init (A := X + 130) nT_e (by omega) (fun i => nw_e) (fun T7 J7 P7 L7 g7 => ?_)
  show m_wp en _ mSc_init 89 [some (.ref X)] [(.ref (X + 130)), (.ref X)] (T7, m_I J7, P7, L7, X + 132, _) Q
  have eT7 : ∀ b, b < X + 130 → T7 b = T6 b := fun b q => (g7.1.1 b q).1.trans (nT_o (by omega))
  have eJ7 : ∀ b k, b < X + 130 → J7 b k = J6 b k := fun b k q => ((g7.1.1 b q).2.1 k).trans (nw_o (by omega))
  have eP7 := fun b k (q : b < X + 130) => ((g7.1.1 b q).2.2 k).trans (nw_o (by omega))
  have eo7 : T7 (X + 130) = some (1, 0) := g7.1.2.trans nT_e
  have hA7 : T7 X = some (11, 0) := (eT7 X (by omega)).trans hA6
  refine m_putR eSc_init_89 rfl hA7 hX (Or.inr ⟨rfl, rfl⟩) ?_
  refine r_aln eSc_init_92 rfl ?_
  refine r_nwo (c := 10) eSc_init_93 rfl ?_
  have hB8 : m_nT T7 (X + 132) (10, 0) X = some (11, 0) := by rw [nT_o (by omega)]; exact hA7
  refine r_dupr eSc_init_96 ?_
  refine r_aln eSc_init_97 rfl ?_
  refine m_getR (r := X + 17) eSc_init_98 rfl hB8 (by rw [nw_o (x0_ne (by decide)), up_z (fun q => absurd q.2 (by decide)), eP7 _ _ (x0_lt (by decide)), up_z (fun q => absurd q.2 (by decide)), eP6 _ _ (x0_lt (by decide)), up_z (fun q => absurd q.2 (by decide)), eP5 _ _ (x0_lt (by decide)), up_z (fun q => absurd q.2 (by decide)), eP4 _ _ (x0_lt (by decide)), up_z (fun q => absurd q.2 (by decide)), eP3 _ _ (x0_lt (by decide)), up_e]) ?_
  refine r_aln eSc_init_101 rfl ?_
  refine m_getR (r := X + 30) eSc_init_102 rfl hB8 (by rw [nw_o (x0_ne (by decide)), up_z (fun q => absurd q.2 (by decide)), eP7 _ _ (x0_lt (by decide)), up_z (fun q => absurd q.2 (by decide)), eP6 _ _ (x0_lt (by decide)), up_z (fun q => absurd q.2 (by decide)), eP5 _ _ (x0_lt (by decide)), up_z (fun q => absurd q.2 (by decide)), eP4 _ _ (x0_lt (by decide)), up_e]) ?_
  refine r_spe eSc_init_105 rfl rfl rfl (by decide) rfl ?_
  refine c_Wa_init (A := X + 132) nT_e (by omega) (fun i => nw_e) (fun T8 J8 P8 L8 g8 => ?_)
  show m_wp en _ mSc_init 108 [some (.ref X)] [(.ref (X + 132)), (.ref X)] (T8, m_I J8, P8, L8, X + 157, _) Q
  have eT8 : ∀ b, b < X + 132 → T8 b = T7 b := fun b q => (g8.1.1 b q).1.trans (nT_o (by omega))
  have eJ8 : ∀ b k, b < X + 132 → J8 b k = J7 b k := fun b k q => ((g8.1.1 b q).2.1 k).trans (nw_o (by omega))
  have eP8 := fun b k (q : b < X + 132) => ((g8.1.1 b q).2.2 k).trans (nw_o (by omega))
  have eo8 : T8 (X + 132) = some (10, 0) := g8.1.2.trans nT_e
  have hA8 : T8 X = some (11, 0) := (eT8 X (by omega)).trans hA7
  refine m_putR eSc_init_108 rfl hA8 hX (Or.inr ⟨rfl, rfl⟩) ?_
  refine r_aln eSc_init_111 rfl ?_
  refine r_nwo (c := 7) eSc_init_112 rfl ?_
  have hB9 : m_nT T8 (X + 157) (7, 0) X = some (11, 0) := by rw [nT_o (by omega)]; exact hA8
  refine r_dupr eSc_init_115 ?_
  refine r_aln eSc_init_116 rfl ?_
  refine m_getR (r := X + 17) eSc_init_117 rfl hB9 (by rw [nw_o (x0_ne (by decide)), up_z (fun q => absurd q.2 (by decide)), eP8 _ _ (x0_lt (by decide)), up_z (fun q => absurd q.2 (by decide)), eP7 _ _ (x0_lt (by decide)), up_z (fun q => absurd q.2 (by decide)), eP6 _ _ (x0_lt (by decide)), up_z (fun q => absurd q.2 (by decide)), eP5 _ _ (x0_lt (by decide)), up_z (fun q => absurd q.2 (by decide)), eP4 _ _ (x0_lt (by decide)), up_z (fun q => absurd q.2 (by decide)), eP3 _ _ (x0_lt (by decide)), up_e]) ?_
  refine r_aln eSc_init_120 rfl ?_
  refine m_getR (r := X + 132) eSc_init_121 rfl hB9 (by rw [nw_o (x0_ne (by decide)), up_e]) ?_
  refine r_spe eSc_init_124 rfl rfl rfl (by decide) rfl ?_
  refine c_Ro_init (A := X + 157) nT_e (by omega) (fun i => nw_e) (fun T9 J9 P9 L9 g9 => ?_)
  show m_wp en _ mSc_init 127 [some (.ref X)] [(.ref (X + 157)), (.ref X)] (T9, m_I J9, P9, L9, X + 160, _) Q
  have eT9 : ∀ b, b < X + 157 → T9 b = T8 b := fun b q => (g9.1.1 b q).1.trans (nT_o (by omega))
  have eJ9 : ∀ b k, b < X + 157 → J9 b k = J8 b k := fun b k q => ((g9.1.1 b q).2.1 k).trans (nw_o (by omega))
  have eP9 := fun b k (q : b < X + 157) => ((g9.1.1 b q).2.2 k).trans (nw_o (by omega))
  have eo9 : T9 (X + 157) = some (7, 0) := g9.1.2.trans nT_e
  have hA9 : T9 X = some (11, 0) := (eT9 X (by omega)).trans hA8
  refine m_putR eSc_init_127 rfl hA9 hX (Or.inr ⟨rfl, rfl⟩) ?_
  refine r_aln eSc_init_130 rfl ?_
  refine r_nwo (c := 0) eSc_init_131 rfl ?_
  have hB10 : m_nT T9 (X + 160) (0, 0) X = some (11, 0) := by rw [nT_o (by omega)]; exact hA9
  refine r_dupr eSc_init_134 ?_
  refine r_aln eSc_init_135 rfl ?_
  refine m_getR (r := X + 17) eSc_init_136 rfl hB10 (by rw [nw_o (x0_ne (by decide)), up_z (fun q => absurd q.2 (by decide)), eP9 _ _ (x0_lt (by decide)), up_z (fun q => absurd q.2 (by decide)), eP8 _ _ (x0_lt (by decide)), up_z (fun q => absurd q.2 (by decide)), eP7 _ _ (x0_lt (by decide)), up_z (fun q => absurd q.2 (by decide)), eP6 _ _ (x0_lt (by decide)), up_z (fun q => absurd q.2 (by decide)), eP5 _ _ (x0_lt (by decide)), up_z (fun q => absurd q.2 (by decide)), eP4 _ _ (x0_lt (by decide)), up_z (fun q => absurd q.2 (by decide)), eP3 _ _ (x0_lt (by decide)), up_e]) ?_
  refine r_aln eSc_init_139 rfl ?_
  refine m_getR (r := X + 30) eSc_init_140 rfl hB10 (by rw [nw_o (x0_ne (by decide)), up_z (fun q => absurd q.2 (by decide)), eP9 _ _ (x0_lt (by decide)), up_z (fun q => absurd q.2 (by decide)), eP8 _ _ (x0_lt (by decide)), up_z (fun q => absurd q.2 (by decide)), eP7 _ _ (x0_lt (by decide)), up_z (fun q => absurd q.2 (by decide)), eP6 _ _ (x0_lt (by decide)), up_z (fun q => absurd q.2 (by decide)), eP5 _ _ (x0_lt (by decide)), up_z (fun q => absurd q.2 (by decide)), eP4 _ _ (x0_lt (by decide)), up_e]) ?_
  refine r_aln eSc_init_143 rfl ?_
  refine m_getR (r := X + 132) eSc_init_144 rfl hB10 (by rw [nw_o (x0_ne (by decide)), up_z (fun q => absurd q.2 (by decide)), eP9 _ _ (x0_lt (by decide)), up_e]) ?_
  refine r_spe eSc_init_147 rfl rfl rfl (by decide) rfl ?_
  refine c_Ha_init (A := X + 160) nT_e (by omega) (fun i => nw_e) (fun T10 J10 P10 L10 g10 => ?_)
  show m_wp en _ mSc_init 150 [some (.ref X)] [(.ref (X + 160)), (.ref X)] (T10, m_I J10, P10, L10, X + 164, _) Q
  have eT10 : ∀ b, b < X + 160 → T10 b = T9 b := fun b q => (g10.1.1 b q).1.trans (nT_o (by omega))
  have eJ10 : ∀ b k, b < X + 160 → J10 b k = J9 b k := fun b k q => ((g10.1.1 b q).2.1 k).trans (nw_o (by omega))
  have eP10 := fun b k (q : b < X + 160) => ((g10.1.1 b q).2.2 k).trans (nw_o (by omega))
  have eo10 : T10 (X + 160) = some (0, 0) := g10.1.2.trans nT_e
  have hA10 : T10 X = some (11, 0) := (eT10 X (by omega)).trans hA9
  refine m_putR eSc_init_150 rfl hA10 hX (Or.inr ⟨rfl, rfl⟩) ?_
  refine r_aln eSc_init_153 rfl ?_
  refine r_nwo (c := 5) eSc_init_154 rfl ?_
  refine r_dupr eSc_init_157 ?_
  refine r_spe eSc_init_158 rfl rfl rfl (by decide) rfl ?_
  refine c_Po_init ?_
  have hA11 : m_nT T10 (X + 164) (5, 0) X = some (11, 0) := by rw [nT_o (by omega)]; exact hA10
  refine m_putR eSc_init_161 rfl hA11 hX (Or.inr ⟨rfl, rfl⟩) ?_
  obtain ⟨T11, eT11⟩ : ∃ T11, T11 = m_nT T10 (X + 164) (5, 0) := ⟨_, rfl⟩
  obtain ⟨P11, eP11⟩ : ∃ P11, P11 = m_up (m_nw (m_up P10 X 10 (some (X + 160))) (X + 164) none) X 11 (some (X + 164)) := ⟨_, rfl⟩
  obtain ⟨J11, eJ11⟩ : ∃ J11, J11 = m_nw J10 (X + 164) 0 := ⟨_, rfl⟩
  have hsh : cl_sh en X T11 P11 := by
    rw [eT11, eP11]
    refine ⟨hX, fun q hq2 => ?_, fun q hq2 => ?_, fun i hi => ?_⟩
    · simp only [cl_ob, List.mem_cons, List.not_mem_nil, or_false] at hq2
      rcases hq2 with rfl | rfl | rfl | rfl | rfl | rfl | rfl | rfl | rfl | rfl | rfl | rfl | rfl | rfl | rfl | rfl | rfl | rfl | rfl | rfl | rfl | rfl | rfl | rfl | rfl | rfl | rfl | rfl | rfl | rfl | rfl | rfl | rfl | rfl | rfl | rfl | rfl | rfl | rfl | rfl | rfl | rfl | rfl | rfl | rfl | rfl | rfl | rfl | rfl | rfl | rfl | rfl | rfl | rfl | rfl | rfl | rfl | rfl | rfl | rfl | rfl | rfl | rfl | rfl | rfl | rfl | rfl | rfl | rfl | rfl | rfl | rfl | rfl | rfl | rfl | rfl | rfl | rfl | rfl | rfl | rfl | rfl | rfl | rfl | rfl | rfl | rfl | rfl | rfl | rfl | rfl | rfl | rfl | rfl | rfl | rfl | rfl | rfl | rfl | rfl | rfl | rfl | rfl | rfl | rfl | rfl | rfl | rfl | rfl | rfl | rfl | rfl | rfl | rfl | rfl | rfl | rfl | rfl | rfl | rfl | rfl | rfl | rfl | rfl | rfl | rfl | rfl | rfl | rfl | rfl | rfl | rfl | rfl | rfl | rfl | rfl | rfl | rfl | rfl | rfl | rfl | rfl | rfl | rfl | rfl | rfl | rfl | rfl | rfl | rfl | rfl | rfl | rfl | rfl | rfl | rfl | rfl | rfl | rfl
      · dsimp only
        exact hA11
      · dsimp only
        rw [nT_o (xk_nn (by decide)), eT10 _ (xk_lt (by decide)), eT9 _ (xk_lt (by decide)), eT8 _ (xk_lt (by decide)), eT7 _ (xk_lt (by decide)), eT6 _ (xk_lt (by decide)), eT5 _ (xk_lt (by decide)), eT4 _ (xk_lt (by decide)), eT3 _ (xk_lt (by decide)), eT2 _ (xk_lt (by decide))]; exact eo1
      · dsimp only
        rw [nT_o (xk_nn (by decide)), eT10 _ (xk_lt (by decide)), eT9 _ (xk_lt (by decide)), eT8 _ (xk_lt (by decide)), eT7 _ (xk_lt (by decide)), eT6 _ (xk_lt (by decide)), eT5 _ (xk_lt (by decide)), eT4 _ (xk_lt (by decide)), eT3 _ (xk_lt (by decide)), eT2 _ (xk_lt (by decide))]; exact g1.2.2.1.1
      · dsimp only
        rw [nT_o (xk_nn (by decide)), eT10 _ (xk_lt (by decide)), eT9 _ (xk_lt (by decide)), eT8 _ (xk_lt (by decide)), eT7 _ (xk_lt (by decide)), eT6 _ (xk_lt (by decide)), eT5 _ (xk_lt (by decide)), eT4 _ (xk_lt (by decide)), eT3 _ (xk_lt (by decide)), eT2 _ (xk_lt (by decide))]; exact g1.2.1.2.1
      · dsimp only
        rw [nT_o (xk_nn (by decide)), eT10 _ (xk_lt (by decide)), eT9 _ (xk_lt (by decide)), eT8 _ (xk_lt (by decide)), eT7 _ (xk_lt (by decide)), eT6 _ (xk_lt (by decide)), eT5 _ (xk_lt (by decide)), eT4 _ (xk_lt (by decide)), eT3 _ (xk_lt (by decide)), eT2 _ (xk_lt (by decide))]; exact (g1.2.1.2.2 (7, 1, 20, 16) (by decide)).2
      · dsimp only
        rw [nT_o (xk_nn (by decide)), eT10 _ (xk_lt (by decide)), eT9 _ (xk_lt (by decide)), eT8 _ (xk_lt (by decide)), eT7 _ (xk_lt (by decide)), eT6 _ (xk_lt (by decide)), eT5 _ (xk_lt (by decide)), eT4 _ (xk_lt (by decide)), eT3 _ (xk_lt (by decide)), eT2 _ (xk_lt (by decide))]; exact (g1.2.1.2.2 (8, 2, 20, 16) (by decide)).2
      · dsimp only
        rw [nT_o (xk_nn (by decide)), eT10 _ (xk_lt (by decide)), eT9 _ (xk_lt (by decide)), eT8 _ (xk_lt (by decide)), eT7 _ (xk_lt (by decide)), eT6 _ (xk_lt (by decide)), eT5 _ (xk_lt (by decide)), eT4 _ (xk_lt (by decide)), eT3 _ (xk_lt (by decide)), eT2 _ (xk_lt (by decide))]; exact (g1.2.1.2.2 (9, 3, 20, 6) (by decide)).2
      · dsimp only
        rw [nT_o (xk_nn (by decide)), eT10 _ (xk_lt (by decide)), eT9 _ (xk_lt (by decide)), eT8 _ (xk_lt (by decide)), eT7 _ (xk_lt (by decide)), eT6 _ (xk_lt (by decide)), eT5 _ (xk_lt (by decide)), eT4 _ (xk_lt (by decide)), eT3 _ (xk_lt (by decide)), eT2 _ (xk_lt (by decide))]; exact (g1.2.1.2.2 (10, 4, 20, 6) (by decide)).2
      · dsimp only
        rw [nT_o (xk_nn (by decide)), eT10 _ (xk_lt (by decide)), eT9 _ (xk_lt (by decide)), eT8 _ (xk_lt (by decide)), eT7 _ (xk_lt (by decide)), eT6 _ (xk_lt (by decide)), eT5 _ (xk_lt (by decide)), eT4 _ (xk_lt (by decide)), eT3 _ (xk_lt (by decide)), eT2 _ (xk_lt (by decide))]; exact (g1.2.1.2.2 (11, 5, 20, 6) (by decide)).2
      · dsimp only
        rw [nT_o (xk_nn (by decide)), eT10 _ (xk_lt (by decide)), eT9 _ (xk_lt (by decide)), eT8 _ (xk_lt (by decide)), eT7 _ (xk_lt (by decide)), eT6 _ (xk_lt (by decide)), eT5 _ (xk_lt (by decide)), eT4 _ (xk_lt (by decide)), eT3 _ (xk_lt (by decide)), eT2 _ (xk_lt (by decide))]; exact (g1.2.1.2.2 (12, 6, 20, 8) (by decide)).2
      · dsimp only
        rw [nT_o (xk_nn (by decide)), eT10 _ (xk_lt (by decide)), eT9 _ (xk_lt (by decide)), eT8 _ (xk_lt (by decide)), eT7 _ (xk_lt (by decide)), eT6 _ (xk_lt (by decide)), eT5 _ (xk_lt (by decide)), eT4 _ (xk_lt (by decide)), eT3 _ (xk_lt (by decide)), eT2 _ (xk_lt (by decide))]; exact (g1.2.1.2.2 (13, 7, 20, 8) (by decide)).2
      · dsimp only
        rw [nT_o (xk_nn (by decide)), eT10 _ (xk_lt (by decide)), eT9 _ (xk_lt (by decide)), eT8 _ (xk_lt (by decide)), eT7 _ (xk_lt (by decide)), eT6 _ (xk_lt (by decide)), eT5 _ (xk_lt (by decide)), eT4 _ (xk_lt (by decide)), eT3 _ (xk_lt (by decide)), eT2 _ (xk_lt (by decide))]; exact (g1.2.1.2.2 (14, 8, 20, 16) (by decide)).2
      · dsimp only
        rw [nT_o (xk_nn (by decide)), eT10 _ (xk_lt (by decide)), eT9 _ (xk_lt (by decide)), eT8 _ (xk_lt (by decide)), eT7 _ (xk_lt (by decide)), eT6 _ (xk_lt (by decide)), eT5 _ (xk_lt (by decide)), eT4 _ (xk_lt (by decide)), eT3 _ (xk_lt (by decide)), eT2 _ (xk_lt (by decide))]; exact (g1.2.1.2.2 (15, 9, 20, 16) (by decide)).2
      · dsimp only
        rw [nT_o (xk_nn (by decide)), eT10 _ (xk_lt (by decide)), eT9 _ (xk_lt (by decide)), eT8 _ (xk_lt (by decide)), eT7 _ (xk_lt (by decide)), eT6 _ (xk_lt (by decide)), eT5 _ (xk_lt (by decide)), eT4 _ (xk_lt (by decide)), eT3 _ (xk_lt (by decide)), eT2 _ (xk_lt (by decide))]; exact (g1.2.1.2.2 (16, 10, 20, 3) (by decide)).2
      · dsimp only
        rw [nT_o (xk_nn (by decide)), eT10 _ (xk_lt (by decide)), eT9 _ (xk_lt (by decide)), eT8 _ (xk_lt (by decide)), eT7 _ (xk_lt (by decide)), eT6 _ (xk_lt (by decide)), eT5 _ (xk_lt (by decide)), eT4 _ (xk_lt (by decide)), eT3 _ (xk_lt (by decide)), eT2 _ (xk_lt (by decide))]; exact (g1.2.1.2.2 (17, 11, 20, 3) (by decide)).2
      · dsimp only
        rw [nT_o (xk_nn (by decide)), eT10 _ (xk_lt (by decide)), eT9 _ (xk_lt (by decide)), eT8 _ (xk_lt (by decide)), eT7 _ (xk_lt (by decide)), eT6 _ (xk_lt (by decide)), eT5 _ (xk_lt (by decide)), eT4 _ (xk_lt (by decide)), eT3 _ (xk_lt (by decide)), eT2 _ (xk_lt (by decide))]; exact (g1.2.1.2.2 (18, 12, 20, 12) (by decide)).2
      · dsimp only
        rw [nT_o (xk_nn (by decide)), eT10 _ (xk_lt (by decide)), eT9 _ (xk_lt (by decide)), eT8 _ (xk_lt (by decide)), eT7 _ (xk_lt (by decide)), eT6 _ (xk_lt (by decide)), eT5 _ (xk_lt (by decide)), eT4 _ (xk_lt (by decide)), eT3 _ (xk_lt (by decide)), eT2 _ (xk_lt (by decide))]; exact g1.2.2.1.2
      · dsimp only
        rw [nT_o (xk_nn (by decide)), eT10 _ (xk_lt (by decide)), eT9 _ (xk_lt (by decide)), eT8 _ (xk_lt (by decide)), eT7 _ (xk_lt (by decide)), eT6 _ (xk_lt (by decide)), eT5 _ (xk_lt (by decide)), eT4 _ (xk_lt (by decide)), eT3 _ (xk_lt (by decide))]; exact eo2
      · dsimp only
        rw [nT_o (xk_nn (by decide)), eT10 _ (xk_lt (by decide)), eT9 _ (xk_lt (by decide)), eT8 _ (xk_lt (by decide)), eT7 _ (xk_lt (by decide)), eT6 _ (xk_lt (by decide)), eT5 _ (xk_lt (by decide)), eT4 _ (xk_lt (by decide)), eT3 _ (xk_lt (by decide))]; exact (g2.2.1.2.2 (7, 1, 20, 16) (by decide)).2
      · dsimp only
        rw [nT_o (xk_nn (by decide)), eT10 _ (xk_lt (by decide)), eT9 _ (xk_lt (by decide)), eT8 _ (xk_lt (by decide)), eT7 _ (xk_lt (by decide)), eT6 _ (xk_lt (by decide)), eT5 _ (xk_lt (by decide)), eT4 _ (xk_lt (by decide)), eT3 _ (xk_lt (by decide))]; exact (g2.2.1.2.2 (8, 2, 20, 16) (by decide)).2
      · dsimp only
        rw [nT_o (xk_nn (by decide)), eT10 _ (xk_lt (by decide)), eT9 _ (xk_lt (by decide)), eT8 _ (xk_lt (by decide)), eT7 _ (xk_lt (by decide)), eT6 _ (xk_lt (by decide)), eT5 _ (xk_lt (by decide)), eT4 _ (xk_lt (by decide)), eT3 _ (xk_lt (by decide))]; exact (g2.2.1.2.2 (9, 3, 20, 6) (by decide)).2
      · dsimp only
        rw [nT_o (xk_nn (by decide)), eT10 _ (xk_lt (by decide)), eT9 _ (xk_lt (by decide)), eT8 _ (xk_lt (by decide)), eT7 _ (xk_lt (by decide)), eT6 _ (xk_lt (by decide)), eT5 _ (xk_lt (by decide)), eT4 _ (xk_lt (by decide)), eT3 _ (xk_lt (by decide))]; exact (g2.2.1.2.2 (10, 4, 20, 6) (by decide)).2
      · dsimp only
        rw [nT_o (xk_nn (by decide)), eT10 _ (xk_lt (by decide)), eT9 _ (xk_lt (by decide)), eT8 _ (xk_lt (by decide)), eT7 _ (xk_lt (by decide)), eT6 _ (xk_lt (by decide)), eT5 _ (xk_lt (by decide)), eT4 _ (xk_lt (by decide)), eT3 _ (xk_lt (by decide))]; exact (g2.2.1.2.2 (11, 5, 20, 6) (by decide)).2
      · dsimp only
        rw [nT_o (xk_nn (by decide)), eT10 _ (xk_lt (by decide)), eT9 _ (xk_lt (by decide)), eT8 _ (xk_lt (by decide)), eT7 _ (xk_lt (by decide)), eT6 _ (xk_lt (by decide)), eT5 _ (xk_lt (by decide)), eT4 _ (xk_lt (by decide)), eT3 _ (xk_lt (by decide))]; exact (g2.2.1.2.2 (12, 6, 20, 8) (by decide)).2
      · dsimp only
        rw [nT_o (xk_nn (by decide)), eT10 _ (xk_lt (by decide)), eT9 _ (xk_lt (by decide)), eT8 _ (xk_lt (by decide)), eT7 _ (xk_lt (by decide)), eT6 _ (xk_lt (by decide)), eT5 _ (xk_lt (by decide)), eT4 _ (xk_lt (by decide)), eT3 _ (xk_lt (by decide))]; exact (g2.2.1.2.2 (13, 7, 20, 8) (by decide)).2
      · dsimp only
        rw [nT_o (xk_nn (by decide)), eT10 _ (xk_lt (by decide)), eT9 _ (xk_lt (by decide)), eT8 _ (xk_lt (by decide)), eT7 _ (xk_lt (by decide)), eT6 _ (xk_lt (by decide)), eT5 _ (xk_lt (by decide)), eT4 _ (xk_lt (by decide)), eT3 _ (xk_lt (by decide))]; exact (g2.2.1.2.2 (14, 8, 20, 16) (by decide)).2
      · dsimp only
        rw [nT_o (xk_nn (by decide)), eT10 _ (xk_lt (by decide)), eT9 _ (xk_lt (by decide)), eT8 _ (xk_lt (by decide)), eT7 _ (xk_lt (by decide)), eT6 _ (xk_lt (by decide)), eT5 _ (xk_lt (by decide)), eT4 _ (xk_lt (by decide)), eT3 _ (xk_lt (by decide))]; exact (g2.2.1.2.2 (15, 9, 20, 16) (by decide)).2
      · dsimp only
        rw [nT_o (xk_nn (by decide)), eT10 _ (xk_lt (by decide)), eT9 _ (xk_lt (by decide)), eT8 _ (xk_lt (by decide)), eT7 _ (xk_lt (by decide)), eT6 _ (xk_lt (by decide)), eT5 _ (xk_lt (by decide)), eT4 _ (xk_lt (by decide)), eT3 _ (xk_lt (by decide))]; exact (g2.2.1.2.2 (16, 10, 20, 3) (by decide)).2
      · dsimp only
        rw [nT_o (xk_nn (by decide)), eT10 _ (xk_lt (by decide)), eT9 _ (xk_lt (by decide)), eT8 _ (xk_lt (by decide)), eT7 _ (xk_lt (by decide)), eT6 _ (xk_lt (by decide)), eT5 _ (xk_lt (by decide)), eT4 _ (xk_lt (by decide)), eT3 _ (xk_lt (by decide))]; exact (g2.2.1.2.2 (17, 11, 20, 3) (by decide)).2
      · dsimp only
        rw [nT_o (xk_nn (by decide)), eT10 _ (xk_lt (by decide)), eT9 _ (xk_lt (by decide)), eT8 _ (xk_lt (by decide)), eT7 _ (xk_lt (by decide)), eT6 _ (xk_lt (by decide)), eT5 _ (xk_lt (by decide)), eT4 _ (xk_lt (by decide)), eT3 _ (xk_lt (by decide))]; exact (g2.2.1.2.2 (18, 12, 20, 12) (by decide)).2
      · dsimp only
        rw [nT_o (xk_nn (by decide)), eT10 _ (xk_lt (by decide)), eT9 _ (xk_lt (by decide)), eT8 _ (xk_lt (by decide)), eT7 _ (xk_lt (by decide)), eT6 _ (xk_lt (by decide)), eT5 _ (xk_lt (by decide)), eT4 _ (xk_lt (by decide))]; exact eo3
      · dsimp only
        rw [nT_o (xk_nn (by decide)), eT10 _ (xk_lt (by decide)), eT9 _ (xk_lt (by decide)), eT8 _ (xk_lt (by decide)), eT7 _ (xk_lt (by decide)), eT6 _ (xk_lt (by decide)), eT5 _ (xk_lt (by decide)), eT4 _ (xk_lt (by decide))]; exact g3.2.1.1
      · dsimp only
        rw [nT_o (xk_nn (by decide)), eT10 _ (xk_lt (by decide)), eT9 _ (xk_lt (by decide)), eT8 _ (xk_lt (by decide)), eT7 _ (xk_lt (by decide)), eT6 _ (xk_lt (by decide)), eT5 _ (xk_lt (by decide)), eT4 _ (xk_lt (by decide))]; exact g3.2.1.2
      · dsimp only
        rw [nT_o (xk_nn (by decide)), eT10 _ (xk_lt (by decide)), eT9 _ (xk_lt (by decide)), eT8 _ (xk_lt (by decide)), eT7 _ (xk_lt (by decide)), eT6 _ (xk_lt (by decide)), eT5 _ (xk_lt (by decide))]; exact eo4
      · dsimp only
        rw [nT_o (xk_nn (by decide)), eT10 _ (xk_lt (by decide)), eT9 _ (xk_lt (by decide)), eT8 _ (xk_lt (by decide)), eT7 _ (xk_lt (by decide)), eT6 _ (xk_lt (by decide)), eT5 _ (xk_lt (by decide))]; exact g4.2.1
      · dsimp only
        rw [nT_o (xk_nn (by decide)), eT10 _ (xk_lt (by decide)), eT9 _ (xk_lt (by decide)), eT8 _ (xk_lt (by decide)), eT7 _ (xk_lt (by decide)), eT6 _ (xk_lt (by decide))]; exact eo5
      · dsimp only
        rw [nT_o (xk_nn (by decide)), eT10 _ (xk_lt (by decide)), eT9 _ (xk_lt (by decide)), eT8 _ (xk_lt (by decide)), eT7 _ (xk_lt (by decide)), eT6 _ (xk_lt (by decide))]; exact g5.2.1
      · dsimp only
        rw [nT_o (xk_nn (by decide)), eT10 _ (xk_lt (by decide)), eT9 _ (xk_lt (by decide)), eT8 _ (xk_lt (by decide)), eT7 _ (xk_lt (by decide)), eT6 _ (xk_lt (by decide))]; exact (g5.2.2.2.2 0 (by omega)).1.1
      · dsimp only
        rw [nT_o (xk_nn (by decide)), eT10 _ (xk_lt (by decide)), eT9 _ (xk_lt (by decide)), eT8 _ (xk_lt (by decide)), eT7 _ (xk_lt (by decide)), eT6 _ (xk_lt (by decide))]; exact (g5.2.2.2.2 0 (by omega)).1.2.1
      · dsimp only
        rw [nT_o (xk_nn (by decide)), eT10 _ (xk_lt (by decide)), eT9 _ (xk_lt (by decide)), eT8 _ (xk_lt (by decide)), eT7 _ (xk_lt (by decide)), eT6 _ (xk_lt (by decide))]; exact (g5.2.2.2.2 0 (by omega)).1.2.2
      · dsimp only
        rw [nT_o (xk_nn (by decide)), eT10 _ (xk_lt (by decide)), eT9 _ (xk_lt (by decide)), eT8 _ (xk_lt (by decide)), eT7 _ (xk_lt (by decide)), eT6 _ (xk_lt (by decide))]; exact (g5.2.2.2.2 1 (by omega)).1.1
      · dsimp only
        rw [nT_o (xk_nn (by decide)), eT10 _ (xk_lt (by decide)), eT9 _ (xk_lt (by decide)), eT8 _ (xk_lt (by decide)), eT7 _ (xk_lt (by decide)), eT6 _ (xk_lt (by decide))]; exact (g5.2.2.2.2 1 (by omega)).1.2.1
      · dsimp only
        rw [nT_o (xk_nn (by decide)), eT10 _ (xk_lt (by decide)), eT9 _ (xk_lt (by decide)), eT8 _ (xk_lt (by decide)), eT7 _ (xk_lt (by decide)), eT6 _ (xk_lt (by decide))]; exact (g5.2.2.2.2 1 (by omega)).1.2.2
      · dsimp only
        rw [nT_o (xk_nn (by decide)), eT10 _ (xk_lt (by decide)), eT9 _ (xk_lt (by decide)), eT8 _ (xk_lt (by decide)), eT7 _ (xk_lt (by decide)), eT6 _ (xk_lt (by decide))]; exact (g5.2.2.2.2 2 (by omega)).1.1
      · dsimp only
        rw [nT_o (xk_nn (by decide)), eT10 _ (xk_lt (by decide)), eT9 _ (xk_lt (by decide)), eT8 _ (xk_lt (by decide)), eT7 _ (xk_lt (by decide)), eT6 _ (xk_lt (by decide))]; exact (g5.2.2.2.2 2 (by omega)).1.2.1
      · dsimp only
        rw [nT_o (xk_nn (by decide)), eT10 _ (xk_lt (by decide)), eT9 _ (xk_lt (by decide)), eT8 _ (xk_lt (by decide)), eT7 _ (xk_lt (by decide)), eT6 _ (xk_lt (by decide))]; exact (g5.2.2.2.2 2 (by omega)).1.2.2
      · dsimp only
        rw [nT_o (xk_nn (by decide)), eT10 _ (xk_lt (by decide)), eT9 _ (xk_lt (by decide)), eT8 _ (xk_lt (by decide)), eT7 _ (xk_lt (by decide)), eT6 _ (xk_lt (by decide))]; exact (g5.2.2.2.2 3 (by omega)).1.1
      · dsimp only
        rw [nT_o (xk_nn (by decide)), eT10 _ (xk_lt (by decide)), eT9 _ (xk_lt (by decide)), eT8 _ (xk_lt (by decide)), eT7 _ (xk_lt (by decide)), eT6 _ (xk_lt (by decide))]; exact (g5.2.2.2.2 3 (by omega)).1.2.1
      · dsimp only
        rw [nT_o (xk_nn (by decide)), eT10 _ (xk_lt (by decide)), eT9 _ (xk_lt (by decide)), eT8 _ (xk_lt (by decide)), eT7 _ (xk_lt (by decide)), eT6 _ (xk_lt (by decide))]; exact (g5.2.2.2.2 3 (by omega)).1.2.2
      · dsimp only
        rw [nT_o (xk_nn (by decide)), eT10 _ (xk_lt (by decide)), eT9 _ (xk_lt (by decide)), eT8 _ (xk_lt (by decide)), eT7 _ (xk_lt (by decide)), eT6 _ (xk_lt (by decide))]; exact (g5.2.2.2.2 4 (by omega)).1.1
      · dsimp only
        rw [nT_o (xk_nn (by decide)), eT10 _ (xk_lt (by decide)), eT9 _ (xk_lt (by decide)), eT8 _ (xk_lt (by decide)), eT7 _ (xk_lt (by decide)), eT6 _ (xk_lt (by decide))]; exact (g5.2.2.2.2 4 (by omega)).1.2.1
      · dsimp only
        rw [nT_o (xk_nn (by decide)), eT10 _ (xk_lt (by decide)), eT9 _ (xk_lt (by decide)), eT8 _ (xk_lt (by decide)), eT7 _ (xk_lt (by decide)), eT6 _ (xk_lt (by decide))]; exact (g5.2.2.2.2 4 (by omega)).1.2.2
      · dsimp only
        rw [nT_o (xk_nn (by decide)), eT10 _ (xk_lt (by decide)), eT9 _ (xk_lt (by decide)), eT8 _ (xk_lt (by decide)), eT7 _ (xk_lt (by decide)), eT6 _ (xk_lt (by decide))]; exact (g5.2.2.2.2 5 (by omega)).1.1
      · dsimp only
        rw [nT_o (xk_nn (by decide)), eT10 _ (xk_lt (by decide)), eT9 _ (xk_lt (by decide)), eT8 _ (xk_lt (by decide)), eT7 _ (xk_lt (by decide)), eT6 _ (xk_lt (by decide))]; exact (g5.2.2.2.2 5 (by omega)).1.2.1
      · dsimp only
        rw [nT_o (xk_nn (by decide)), eT10 _ (xk_lt (by decide)), eT9 _ (xk_lt (by decide)), eT8 _ (xk_lt (by decide)), eT7 _ (xk_lt (by decide)), eT6 _ (xk_lt (by decide))]; exact (g5.2.2.2.2 5 (by omega)).1.2.2
      · dsimp only
        rw [nT_o (xk_nn (by decide)), eT10 _ (xk_lt (by decide)), eT9 _ (xk_lt (by decide)), eT8 _ (xk_lt (by decide)), eT7 _ (xk_lt (by decide)), eT6 _ (xk_lt (by decide))]; exact (g5.2.2.2.2 6 (by omega)).1.1
      · dsimp only
        rw [nT_o (xk_nn (by decide)), eT10 _ (xk_lt (by decide)), eT9 _ (xk_lt (by decide)), eT8 _ (xk_lt (by decide)), eT7 _ (xk_lt (by decide)), eT6 _ (xk_lt (by decide))]; exact (g5.2.2.2.2 6 (by omega)).1.2.1
      · dsimp only
        rw [nT_o (xk_nn (by decide)), eT10 _ (xk_lt (by decide)), eT9 _ (xk_lt (by decide)), eT8 _ (xk_lt (by decide)), eT7 _ (xk_lt (by decide)), eT6 _ (xk_lt (by decide))]; exact (g5.2.2.2.2 6 (by omega)).1.2.2
      · dsimp only
        rw [nT_o (xk_nn (by decide)), eT10 _ (xk_lt (by decide)), eT9 _ (xk_lt (by decide)), eT8 _ (xk_lt (by decide)), eT7 _ (xk_lt (by decide)), eT6 _ (xk_lt (by decide))]; exact (g5.2.2.2.2 7 (by omega)).1.1
      · dsimp only
        rw [nT_o (xk_nn (by decide)), eT10 _ (xk_lt (by decide)), eT9 _ (xk_lt (by decide)), eT8 _ (xk_lt (by decide)), eT7 _ (xk_lt (by decide)), eT6 _ (xk_lt (by decide))]; exact (g5.2.2.2.2 7 (by omega)).1.2.1
      · dsimp only
        rw [nT_o (xk_nn (by decide)), eT10 _ (xk_lt (by decide)), eT9 _ (xk_lt (by decide)), eT8 _ (xk_lt (by decide)), eT7 _ (xk_lt (by decide)), eT6 _ (xk_lt (by decide))]; exact (g5.2.2.2.2 7 (by omega)).1.2.2
      · dsimp only
        rw [nT_o (xk_nn (by decide)), eT10 _ (xk_lt (by decide)), eT9 _ (xk_lt (by decide)), eT8 _ (xk_lt (by decide)), eT7 _ (xk_lt (by decide)), eT6 _ (xk_lt (by decide))]; exact (g5.2.2.2.2 8 (by omega)).1.1
      · dsimp only
        rw [nT_o (xk_nn (by decide)), eT10 _ (xk_lt (by decide)), eT9 _ (xk_lt (by decide)), eT8 _ (xk_lt (by decide)), eT7 _ (xk_lt (by decide)), eT6 _ (xk_lt (by decide))]; exact (g5.2.2.2.2 8 (by omega)).1.2.1
      · dsimp only
        rw [nT_o (xk_nn (by decide)), eT10 _ (xk_lt (by decide)), eT9 _ (xk_lt (by decide)), eT8 _ (xk_lt (by decide)), eT7 _ (xk_lt (by decide)), eT6 _ (xk_lt (by decide))]; exact (g5.2.2.2.2 8 (by omega)).1.2.2
      · dsimp only
        rw [nT_o (xk_nn (by decide)), eT10 _ (xk_lt (by decide)), eT9 _ (xk_lt (by decide)), eT8 _ (xk_lt (by decide)), eT7 _ (xk_lt (by decide)), eT6 _ (xk_lt (by decide))]; exact (g5.2.2.2.2 9 (by omega)).1.1
      · dsimp only
        rw [nT_o (xk_nn (by decide)), eT10 _ (xk_lt (by decide)), eT9 _ (xk_lt (by decide)), eT8 _ (xk_lt (by decide)), eT7 _ (xk_lt (by decide)), eT6 _ (xk_lt (by decide))]; exact (g5.2.2.2.2 9 (by omega)).1.2.1
      · dsimp only
        rw [nT_o (xk_nn (by decide)), eT10 _ (xk_lt (by decide)), eT9 _ (xk_lt (by decide)), eT8 _ (xk_lt (by decide)), eT7 _ (xk_lt (by decide)), eT6 _ (xk_lt (by decide))]; exact (g5.2.2.2.2 9 (by omega)).1.2.2
      · dsimp only
        rw [nT_o (xk_nn (by decide)), eT10 _ (xk_lt (by decide)), eT9 _ (xk_lt (by decide)), eT8 _ (xk_lt (by decide)), eT7 _ (xk_lt (by decide)), eT6 _ (xk_lt (by decide))]; exact (g5.2.2.2.2 10 (by omega)).1.1
      · dsimp only
        rw [nT_o (xk_nn (by decide)), eT10 _ (xk_lt (by decide)), eT9 _ (xk_lt (by decide)), eT8 _ (xk_lt (by decide)), eT7 _ (xk_lt (by decide)), eT6 _ (xk_lt (by decide))]; exact (g5.2.2.2.2 10 (by omega)).1.2.1
      · dsimp only
        rw [nT_o (xk_nn (by decide)), eT10 _ (xk_lt (by decide)), eT9 _ (xk_lt (by decide)), eT8 _ (xk_lt (by decide)), eT7 _ (xk_lt (by decide)), eT6 _ (xk_lt (by decide))]; exact (g5.2.2.2.2 10 (by omega)).1.2.2
      · dsimp only
        rw [nT_o (xk_nn (by decide)), eT10 _ (xk_lt (by decide)), eT9 _ (xk_lt (by decide)), eT8 _ (xk_lt (by decide)), eT7 _ (xk_lt (by decide)), eT6 _ (xk_lt (by decide))]; exact (g5.2.2.2.2 11 (by omega)).1.1
      · dsimp only
        rw [nT_o (xk_nn (by decide)), eT10 _ (xk_lt (by decide)), eT9 _ (xk_lt (by decide)), eT8 _ (xk_lt (by decide)), eT7 _ (xk_lt (by decide)), eT6 _ (xk_lt (by decide))]; exact (g5.2.2.2.2 11 (by omega)).1.2.1
      · dsimp only
        rw [nT_o (xk_nn (by decide)), eT10 _ (xk_lt (by decide)), eT9 _ (xk_lt (by decide)), eT8 _ (xk_lt (by decide)), eT7 _ (xk_lt (by decide)), eT6 _ (xk_lt (by decide))]; exact (g5.2.2.2.2 11 (by omega)).1.2.2
      · dsimp only
        rw [nT_o (xk_nn (by decide)), eT10 _ (xk_lt (by decide)), eT9 _ (xk_lt (by decide)), eT8 _ (xk_lt (by decide)), eT7 _ (xk_lt (by decide)), eT6 _ (xk_lt (by decide))]; exact (g5.2.2.2.2 12 (by omega)).1.1
      · dsimp only
        rw [nT_o (xk_nn (by decide)), eT10 _ (xk_lt (by decide)), eT9 _ (xk_lt (by decide)), eT8 _ (xk_lt (by decide)), eT7 _ (xk_lt (by decide)), eT6 _ (xk_lt (by decide))]; exact (g5.2.2.2.2 12 (by omega)).1.2.1
      · dsimp only
        rw [nT_o (xk_nn (by decide)), eT10 _ (xk_lt (by decide)), eT9 _ (xk_lt (by decide)), eT8 _ (xk_lt (by decide)), eT7 _ (xk_lt (by decide)), eT6 _ (xk_lt (by decide))]; exact (g5.2.2.2.2 12 (by omega)).1.2.2
      · dsimp only
        rw [nT_o (xk_nn (by decide)), eT10 _ (xk_lt (by decide)), eT9 _ (xk_lt (by decide)), eT8 _ (xk_lt (by decide)), eT7 _ (xk_lt (by decide)), eT6 _ (xk_lt (by decide))]; exact (g5.2.2.2.2 13 (by omega)).1.1
      · dsimp only
        rw [nT_o (xk_nn (by decide)), eT10 _ (xk_lt (by decide)), eT9 _ (xk_lt (by decide)), eT8 _ (xk_lt (by decide)), eT7 _ (xk_lt (by decide)), eT6 _ (xk_lt (by decide))]; exact (g5.2.2.2.2 13 (by omega)).1.2.1
      · dsimp only
        rw [nT_o (xk_nn (by decide)), eT10 _ (xk_lt (by decide)), eT9 _ (xk_lt (by decide)), eT8 _ (xk_lt (by decide)), eT7 _ (xk_lt (by decide)), eT6 _ (xk_lt (by decide))]; exact (g5.2.2.2.2 13 (by omega)).1.2.2
      · dsimp only
        rw [nT_o (xk_nn (by decide)), eT10 _ (xk_lt (by decide)), eT9 _ (xk_lt (by decide)), eT8 _ (xk_lt (by decide)), eT7 _ (xk_lt (by decide)), eT6 _ (xk_lt (by decide))]; exact (g5.2.2.2.2 14 (by omega)).1.1
      · dsimp only
        rw [nT_o (xk_nn (by decide)), eT10 _ (xk_lt (by decide)), eT9 _ (xk_lt (by decide)), eT8 _ (xk_lt (by decide)), eT7 _ (xk_lt (by decide)), eT6 _ (xk_lt (by decide))]; exact (g5.2.2.2.2 14 (by omega)).1.2.1
      · dsimp only
        rw [nT_o (xk_nn (by decide)), eT10 _ (xk_lt (by decide)), eT9 _ (xk_lt (by decide)), eT8 _ (xk_lt (by decide)), eT7 _ (xk_lt (by decide)), eT6 _ (xk_lt (by decide))]; exact (g5.2.2.2.2 14 (by omega)).1.2.2
      · dsimp only
        rw [nT_o (xk_nn (by decide)), eT10 _ (xk_lt (by decide)), eT9 _ (xk_lt (by decide)), eT8 _ (xk_lt (by decide)), eT7 _ (xk_lt (by decide)), eT6 _ (xk_lt (by decide))]; exact (g5.2.2.2.2 15 (by omega)).1.1
      · dsimp only
        rw [nT_o (xk_nn (by decide)), eT10 _ (xk_lt (by decide)), eT9 _ (xk_lt (by decide)), eT8 _ (xk_lt (by decide)), eT7 _ (xk_lt (by decide)), eT6 _ (xk_lt (by decide))]; exact (g5.2.2.2.2 15 (by omega)).1.2.1
      · dsimp only
        rw [nT_o (xk_nn (by decide)), eT10 _ (xk_lt (by decide)), eT9 _ (xk_lt (by decide)), eT8 _ (xk_lt (by decide)), eT7 _ (xk_lt (by decide)), eT6 _ (xk_lt (by decide))]; exact (g5.2.2.2.2 15 (by omega)).1.2.2
      · dsimp only
        rw [nT_o (xk_nn (by decide)), eT10 _ (xk_lt (by decide)), eT9 _ (xk_lt (by decide)), eT8 _ (xk_lt (by decide)), eT7 _ (xk_lt (by decide)), eT6 _ (xk_lt (by decide))]; exact (g5.2.2.2.2 16 (by omega)).1.1
      · dsimp only
        rw [nT_o (xk_nn (by decide)), eT10 _ (xk_lt (by decide)), eT9 _ (xk_lt (by decide)), eT8 _ (xk_lt (by decide)), eT7 _ (xk_lt (by decide)), eT6 _ (xk_lt (by decide))]; exact (g5.2.2.2.2 16 (by omega)).1.2.1
      · dsimp only
        rw [nT_o (xk_nn (by decide)), eT10 _ (xk_lt (by decide)), eT9 _ (xk_lt (by decide)), eT8 _ (xk_lt (by decide)), eT7 _ (xk_lt (by decide)), eT6 _ (xk_lt (by decide))]; exact (g5.2.2.2.2 16 (by omega)).1.2.2
      · dsimp only
        rw [nT_o (xk_nn (by decide)), eT10 _ (xk_lt (by decide)), eT9 _ (xk_lt (by decide)), eT8 _ (xk_lt (by decide)), eT7 _ (xk_lt (by decide)), eT6 _ (xk_lt (by decide))]; exact (g5.2.2.2.2 17 (by omega)).1.1
      · dsimp only
        rw [nT_o (xk_nn (by decide)), eT10 _ (xk_lt (by decide)), eT9 _ (xk_lt (by decide)), eT8 _ (xk_lt (by decide)), eT7 _ (xk_lt (by decide)), eT6 _ (xk_lt (by decide))]; exact (g5.2.2.2.2 17 (by omega)).1.2.1
      · dsimp only
        rw [nT_o (xk_nn (by decide)), eT10 _ (xk_lt (by decide)), eT9 _ (xk_lt (by decide)), eT8 _ (xk_lt (by decide)), eT7 _ (xk_lt (by decide)), eT6 _ (xk_lt (by decide))]; exact (g5.2.2.2.2 17 (by omega)).1.2.2
      · dsimp only
        rw [nT_o (xk_nn (by decide)), eT10 _ (xk_lt (by decide)), eT9 _ (xk_lt (by decide)), eT8 _ (xk_lt (by decide)), eT7 _ (xk_lt (by decide)), eT6 _ (xk_lt (by decide))]; exact (g5.2.2.2.2 18 (by omega)).1.1
      · dsimp only
        rw [nT_o (xk_nn (by decide)), eT10 _ (xk_lt (by decide)), eT9 _ (xk_lt (by decide)), eT8 _ (xk_lt (by decide)), eT7 _ (xk_lt (by decide)), eT6 _ (xk_lt (by decide))]; exact (g5.2.2.2.2 18 (by omega)).1.2.1
      · dsimp only
        rw [nT_o (xk_nn (by decide)), eT10 _ (xk_lt (by decide)), eT9 _ (xk_lt (by decide)), eT8 _ (xk_lt (by decide)), eT7 _ (xk_lt (by decide)), eT6 _ (xk_lt (by decide))]; exact (g5.2.2.2.2 18 (by omega)).1.2.2
      · dsimp only
        rw [nT_o (xk_nn (by decide)), eT10 _ (xk_lt (by decide)), eT9 _ (xk_lt (by decide)), eT8 _ (xk_lt (by decide)), eT7 _ (xk_lt (by decide)), eT6 _ (xk_lt (by decide))]; exact (g5.2.2.2.2 19 (by omega)).1.1
      · dsimp only
        rw [nT_o (xk_nn (by decide)), eT10 _ (xk_lt (by decide)), eT9 _ (xk_lt (by decide)), eT8 _ (xk_lt (by decide)), eT7 _ (xk_lt (by decide)), eT6 _ (xk_lt (by decide))]; exact (g5.2.2.2.2 19 (by omega)).1.2.1
      · dsimp only
        rw [nT_o (xk_nn (by decide)), eT10 _ (xk_lt (by decide)), eT9 _ (xk_lt (by decide)), eT8 _ (xk_lt (by decide)), eT7 _ (xk_lt (by decide)), eT6 _ (xk_lt (by decide))]; exact (g5.2.2.2.2 19 (by omega)).1.2.2
      · dsimp only
        rw [nT_o (xk_nn (by decide)), eT10 _ (xk_lt (by decide)), eT9 _ (xk_lt (by decide)), eT8 _ (xk_lt (by decide)), eT7 _ (xk_lt (by decide)), eT6 _ (xk_lt (by decide))]; exact (g5.2.2.2.2 20 (by omega)).1.1
      · dsimp only
        rw [nT_o (xk_nn (by decide)), eT10 _ (xk_lt (by decide)), eT9 _ (xk_lt (by decide)), eT8 _ (xk_lt (by decide)), eT7 _ (xk_lt (by decide)), eT6 _ (xk_lt (by decide))]; exact (g5.2.2.2.2 20 (by omega)).1.2.1
      · dsimp only
        rw [nT_o (xk_nn (by decide)), eT10 _ (xk_lt (by decide)), eT9 _ (xk_lt (by decide)), eT8 _ (xk_lt (by decide)), eT7 _ (xk_lt (by decide)), eT6 _ (xk_lt (by decide))]; exact (g5.2.2.2.2 20 (by omega)).1.2.2
      · dsimp only
        rw [nT_o (xk_nn (by decide)), eT10 _ (xk_lt (by decide)), eT9 _ (xk_lt (by decide)), eT8 _ (xk_lt (by decide)), eT7 _ (xk_lt (by decide)), eT6 _ (xk_lt (by decide))]; exact (g5.2.2.2.2 21 (by omega)).1.1
      · dsimp only
        rw [nT_o (xk_nn (by decide)), eT10 _ (xk_lt (by decide)), eT9 _ (xk_lt (by decide)), eT8 _ (xk_lt (by decide)), eT7 _ (xk_lt (by decide)), eT6 _ (xk_lt (by decide))]; exact (g5.2.2.2.2 21 (by omega)).1.2.1
      · dsimp only
        rw [nT_o (xk_nn (by decide)), eT10 _ (xk_lt (by decide)), eT9 _ (xk_lt (by decide)), eT8 _ (xk_lt (by decide)), eT7 _ (xk_lt (by decide)), eT6 _ (xk_lt (by decide))]; exact (g5.2.2.2.2 21 (by omega)).1.2.2
      · dsimp only
        rw [nT_o (xk_nn (by decide)), eT10 _ (xk_lt (by decide)), eT9 _ (xk_lt (by decide)), eT8 _ (xk_lt (by decide)), eT7 _ (xk_lt (by decide)), eT6 _ (xk_lt (by decide))]; exact (g5.2.2.2.2 22 (by omega)).1.1
      · dsimp only
        rw [nT_o (xk_nn (by decide)), eT10 _ (xk_lt (by decide)), eT9 _ (xk_lt (by decide)), eT8 _ (xk_lt (by decide)), eT7 _ (xk_lt (by decide)), eT6 _ (xk_lt (by decide))]; exact (g5.2.2.2.2 22 (by omega)).1.2.1
      · dsimp only
        rw [nT_o (xk_nn (by decide)), eT10 _ (xk_lt (by decide)), eT9 _ (xk_lt (by decide)), eT8 _ (xk_lt (by decide)), eT7 _ (xk_lt (by decide)), eT6 _ (xk_lt (by decide))]; exact (g5.2.2.2.2 22 (by omega)).1.2.2
      · dsimp only
        rw [nT_o (xk_nn (by decide)), eT10 _ (xk_lt (by decide)), eT9 _ (xk_lt (by decide)), eT8 _ (xk_lt (by decide)), eT7 _ (xk_lt (by decide)), eT6 _ (xk_lt (by decide))]; exact (g5.2.2.2.2 23 (by omega)).1.1
      · dsimp only
        rw [nT_o (xk_nn (by decide)), eT10 _ (xk_lt (by decide)), eT9 _ (xk_lt (by decide)), eT8 _ (xk_lt (by decide)), eT7 _ (xk_lt (by decide)), eT6 _ (xk_lt (by decide))]; exact (g5.2.2.2.2 23 (by omega)).1.2.1
      · dsimp only
        rw [nT_o (xk_nn (by decide)), eT10 _ (xk_lt (by decide)), eT9 _ (xk_lt (by decide)), eT8 _ (xk_lt (by decide)), eT7 _ (xk_lt (by decide)), eT6 _ (xk_lt (by decide))]; exact (g5.2.2.2.2 23 (by omega)).1.2.2
      · dsimp only
        rw [nT_o (xk_nn (by decide)), eT10 _ (xk_lt (by decide)), eT9 _ (xk_lt (by decide)), eT8 _ (xk_lt (by decide)), eT7 _ (xk_lt (by decide)), eT6 _ (xk_lt (by decide))]; exact (g5.2.2.2.2 24 (by omega)).1.1
      · dsimp only
        rw [nT_o (xk_nn (by decide)), eT10 _ (xk_lt (by decide)), eT9 _ (xk_lt (by decide)), eT8 _ (xk_lt (by decide)), eT7 _ (xk_lt (by decide)), eT6 _ (xk_lt (by decide))]; exact (g5.2.2.2.2 24 (by omega)).1.2.1
      · dsimp only
        rw [nT_o (xk_nn (by decide)), eT10 _ (xk_lt (by decide)), eT9 _ (xk_lt (by decide)), eT8 _ (xk_lt (by decide)), eT7 _ (xk_lt (by decide)), eT6 _ (xk_lt (by decide))]; exact (g5.2.2.2.2 24 (by omega)).1.2.2
      · dsimp only
        rw [nT_o (xk_nn (by decide)), eT10 _ (xk_lt (by decide)), eT9 _ (xk_lt (by decide)), eT8 _ (xk_lt (by decide)), eT7 _ (xk_lt (by decide)), eT6 _ (xk_lt (by decide))]; exact (g5.2.2.2.2 25 (by omega)).1.1
      · dsimp only
        rw [nT_o (xk_nn (by decide)), eT10 _ (xk_lt (by decide)), eT9 _ (xk_lt (by decide)), eT8 _ (xk_lt (by decide)), eT7 _ (xk_lt (by decide)), eT6 _ (xk_lt (by decide))]; exact (g5.2.2.2.2 25 (by omega)).1.2.1
      · dsimp only
        rw [nT_o (xk_nn (by decide)), eT10 _ (xk_lt (by decide)), eT9 _ (xk_lt (by decide)), eT8 _ (xk_lt (by decide)), eT7 _ (xk_lt (by decide)), eT6 _ (xk_lt (by decide))]; exact (g5.2.2.2.2 25 (by omega)).1.2.2
      · dsimp only
        rw [nT_o (xk_nn (by decide)), eT10 _ (xk_lt (by decide)), eT9 _ (xk_lt (by decide)), eT8 _ (xk_lt (by decide)), eT7 _ (xk_lt (by decide)), eT6 _ (xk_lt (by decide))]; exact (g5.2.2.2.2 26 (by omega)).1.1
      · dsimp only
        rw [nT_o (xk_nn (by decide)), eT10 _ (xk_lt (by decide)), eT9 _ (xk_lt (by decide)), eT8 _ (xk_lt (by decide)), eT7 _ (xk_lt (by decide)), eT6 _ (xk_lt (by decide))]; exact (g5.2.2.2.2 26 (by omega)).1.2.1
      · dsimp only
        rw [nT_o (xk_nn (by decide)), eT10 _ (xk_lt (by decide)), eT9 _ (xk_lt (by decide)), eT8 _ (xk_lt (by decide)), eT7 _ (xk_lt (by decide)), eT6 _ (xk_lt (by decide))]; exact (g5.2.2.2.2 26 (by omega)).1.2.2
      · dsimp only
        rw [nT_o (xk_nn (by decide)), eT10 _ (xk_lt (by decide)), eT9 _ (xk_lt (by decide)), eT8 _ (xk_lt (by decide)), eT7 _ (xk_lt (by decide)), eT6 _ (xk_lt (by decide))]; exact (g5.2.2.2.2 27 (by omega)).1.1
      · dsimp only
        rw [nT_o (xk_nn (by decide)), eT10 _ (xk_lt (by decide)), eT9 _ (xk_lt (by decide)), eT8 _ (xk_lt (by decide)), eT7 _ (xk_lt (by decide)), eT6 _ (xk_lt (by decide))]; exact (g5.2.2.2.2 27 (by omega)).1.2.1
      · dsimp only
        rw [nT_o (xk_nn (by decide)), eT10 _ (xk_lt (by decide)), eT9 _ (xk_lt (by decide)), eT8 _ (xk_lt (by decide)), eT7 _ (xk_lt (by decide)), eT6 _ (xk_lt (by decide))]; exact (g5.2.2.2.2 27 (by omega)).1.2.2
      · dsimp only
        rw [nT_o (xk_nn (by decide)), eT10 _ (xk_lt (by decide)), eT9 _ (xk_lt (by decide)), eT8 _ (xk_lt (by decide)), eT7 _ (xk_lt (by decide)), eT6 _ (xk_lt (by decide))]; exact (g5.2.2.2.2 28 (by omega)).1.1
      · dsimp only
        rw [nT_o (xk_nn (by decide)), eT10 _ (xk_lt (by decide)), eT9 _ (xk_lt (by decide)), eT8 _ (xk_lt (by decide)), eT7 _ (xk_lt (by decide)), eT6 _ (xk_lt (by decide))]; exact (g5.2.2.2.2 28 (by omega)).1.2.1
      · dsimp only
        rw [nT_o (xk_nn (by decide)), eT10 _ (xk_lt (by decide)), eT9 _ (xk_lt (by decide)), eT8 _ (xk_lt (by decide)), eT7 _ (xk_lt (by decide)), eT6 _ (xk_lt (by decide))]; exact (g5.2.2.2.2 28 (by omega)).1.2.2
      · dsimp only
        rw [nT_o (xk_nn (by decide)), eT10 _ (xk_lt (by decide)), eT9 _ (xk_lt (by decide)), eT8 _ (xk_lt (by decide)), eT7 _ (xk_lt (by decide)), eT6 _ (xk_lt (by decide))]; exact (g5.2.2.2.2 29 (by omega)).1.1
      · dsimp only
        rw [nT_o (xk_nn (by decide)), eT10 _ (xk_lt (by decide)), eT9 _ (xk_lt (by decide)), eT8 _ (xk_lt (by decide)), eT7 _ (xk_lt (by decide)), eT6 _ (xk_lt (by decide))]; exact (g5.2.2.2.2 29 (by omega)).1.2.1
      · dsimp only
        rw [nT_o (xk_nn (by decide)), eT10 _ (xk_lt (by decide)), eT9 _ (xk_lt (by decide)), eT8 _ (xk_lt (by decide)), eT7 _ (xk_lt (by decide)), eT6 _ (xk_lt (by decide))]; exact (g5.2.2.2.2 29 (by omega)).1.2.2
      · dsimp only
        rw [nT_o (xk_nn (by decide)), eT10 _ (xk_lt (by decide)), eT9 _ (xk_lt (by decide)), eT8 _ (xk_lt (by decide)), eT7 _ (xk_lt (by decide))]; exact eo6
      · dsimp only
        rw [nT_o (xk_nn (by decide)), eT10 _ (xk_lt (by decide)), eT9 _ (xk_lt (by decide)), eT8 _ (xk_lt (by decide)), eT7 _ (xk_lt (by decide))]; exact g6.2.1.1
      · dsimp only
        rw [nT_o (xk_nn (by decide)), eT10 _ (xk_lt (by decide)), eT9 _ (xk_lt (by decide)), eT8 _ (xk_lt (by decide)), eT7 _ (xk_lt (by decide))]; exact g6.2.1.2
      · dsimp only
        rw [nT_o (xk_nn (by decide)), eT10 _ (xk_lt (by decide)), eT9 _ (xk_lt (by decide)), eT8 _ (xk_lt (by decide))]; exact eo7
      · dsimp only
        rw [nT_o (xk_nn (by decide)), eT10 _ (xk_lt (by decide)), eT9 _ (xk_lt (by decide)), eT8 _ (xk_lt (by decide))]; exact g7.2.1
      · dsimp only
        rw [nT_o (xk_nn (by decide)), eT10 _ (xk_lt (by decide)), eT9 _ (xk_lt (by decide))]; exact g8.2.1 (0, 10, 0) (by decide)
      · dsimp only
        rw [nT_o (xk_nn (by decide)), eT10 _ (xk_lt (by decide)), eT9 _ (xk_lt (by decide))]; exact g8.2.1 (1, 9, 0) (by decide)
      · dsimp only
        rw [nT_o (xk_nn (by decide)), eT10 _ (xk_lt (by decide)), eT9 _ (xk_lt (by decide))]; exact g8.2.1 (2, 20, 16) (by decide)
      · dsimp only
        rw [nT_o (xk_nn (by decide)), eT10 _ (xk_lt (by decide)), eT9 _ (xk_lt (by decide))]; exact g8.2.1 (3, 22, 864) (by decide)
      · dsimp only
        rw [nT_o (xk_nn (by decide)), eT10 _ (xk_lt (by decide)), eT9 _ (xk_lt (by decide))]; exact g8.2.1 (4, 9, 0) (by decide)
      · dsimp only
        rw [nT_o (xk_nn (by decide)), eT10 _ (xk_lt (by decide)), eT9 _ (xk_lt (by decide))]; exact g8.2.1 (5, 20, 16) (by decide)
      · dsimp only
        rw [nT_o (xk_nn (by decide)), eT10 _ (xk_lt (by decide)), eT9 _ (xk_lt (by decide))]; exact g8.2.1 (6, 22, 864) (by decide)
      · dsimp only
        rw [nT_o (xk_nn (by decide)), eT10 _ (xk_lt (by decide)), eT9 _ (xk_lt (by decide))]; exact g8.2.1 (7, 8, 0) (by decide)
      · dsimp only
        rw [nT_o (xk_nn (by decide)), eT10 _ (xk_lt (by decide)), eT9 _ (xk_lt (by decide))]; exact g8.2.1 (10, 5, 0) (by decide)
      · dsimp only
        rw [nT_o (xk_nn (by decide)), eT10 _ (xk_lt (by decide)), eT9 _ (xk_lt (by decide))]; exact g8.2.1 (11, 5, 0) (by decide)
      · dsimp only
        rw [nT_o (xk_nn (by decide)), eT10 _ (xk_lt (by decide)), eT9 _ (xk_lt (by decide))]; exact g8.2.1 (12, 8, 0) (by decide)
      · dsimp only
        rw [nT_o (xk_nn (by decide)), eT10 _ (xk_lt (by decide)), eT9 _ (xk_lt (by decide))]; exact g8.2.1 (15, 5, 0) (by decide)
      · dsimp only
        rw [nT_o (xk_nn (by decide)), eT10 _ (xk_lt (by decide)), eT9 _ (xk_lt (by decide))]; exact g8.2.1 (16, 5, 0) (by decide)
      · dsimp only
        rw [nT_o (xk_nn (by decide)), eT10 _ (xk_lt (by decide)), eT9 _ (xk_lt (by decide))]; exact g8.2.1 (17, 8, 0) (by decide)
      · dsimp only
        rw [nT_o (xk_nn (by decide)), eT10 _ (xk_lt (by decide)), eT9 _ (xk_lt (by decide))]; exact g8.2.1 (20, 5, 0) (by decide)
      · dsimp only
        rw [nT_o (xk_nn (by decide)), eT10 _ (xk_lt (by decide)), eT9 _ (xk_lt (by decide))]; exact g8.2.1 (21, 5, 0) (by decide)
      · dsimp only
        rw [nT_o (xk_nn (by decide)), eT10 _ (xk_lt (by decide)), eT9 _ (xk_lt (by decide))]; exact g8.2.1 (22, 20, 36) (by decide)
      · dsimp only
        rw [nT_o (xk_nn (by decide)), eT10 _ (xk_lt (by decide)), eT9 _ (xk_lt (by decide))]; exact g8.2.1 (23, 5, 0) (by decide)
      · dsimp only
        rw [nT_o (xk_nn (by decide)), eT10 _ (xk_lt (by decide)), eT9 _ (xk_lt (by decide))]; exact g8.2.1 (24, 5, 0) (by decide)
      · dsimp only
        rw [nT_o (xk_nn (by decide)), eT10 _ (xk_lt (by decide))]; exact eo9
      · dsimp only
        rw [nT_o (xk_nn (by decide)), eT10 _ (xk_lt (by decide))]; exact g9.2.1.1
      · dsimp only
        rw [nT_o (xk_nn (by decide)), eT10 _ (xk_lt (by decide))]; exact g9.2.1.2
      · dsimp only
        rw [nT_o (xk_nn (by decide))]; exact eo10
      · dsimp only
        rw [nT_o (xk_nn (by decide))]; exact g10.2.1.1
      · dsimp only
        rw [nT_o (xk_nn (by decide))]; exact g10.2.1.2.1
      · dsimp only
        rw [nT_o (xk_nn (by decide))]; exact g10.2.1.2.2
      · dsimp only
        rw [nT_e]
    · simp only [cl_fd, List.mem_cons, List.not_mem_nil, or_false] at hq2
      rcases hq2 with rfl | rfl | rfl | rfl | rfl | rfl | rfl | rfl | rfl | rfl | rfl | rfl | rfl | rfl | rfl | rfl | rfl | rfl | rfl | rfl | rfl | rfl | rfl | rfl | rfl | rfl | rfl | rfl | rfl | rfl | rfl | rfl | rfl | rfl | rfl | rfl | rfl | rfl | rfl | rfl | rfl | rfl | rfl | rfl | rfl | rfl | rfl | rfl | rfl | rfl | rfl | rfl | rfl | rfl | rfl | rfl | rfl | rfl | rfl | rfl | rfl | rfl | rfl | rfl | rfl | rfl | rfl | rfl | rfl | rfl | rfl | rfl | rfl | rfl | rfl | rfl | rfl | rfl | rfl | rfl | rfl | rfl | rfl | rfl | rfl | rfl | rfl | rfl | rfl | rfl | rfl | rfl | rfl | rfl | rfl | rfl | rfl | rfl | rfl | rfl | rfl | rfl | rfl | rfl | rfl | rfl | rfl | rfl | rfl | rfl | rfl | rfl | rfl | rfl | rfl | rfl | rfl | rfl | rfl | rfl | rfl | rfl | rfl | rfl | rfl | rfl | rfl | rfl | rfl | rfl | rfl | rfl | rfl | rfl | rfl
      · dsimp only
        rw [Nat.add_zero X, up_z (fun q => absurd q.2 (by decide)), nw_o (x0_ne (by decide)), up_z (fun q => absurd q.2 (by decide)), eP10 _ _ (x0_lt (by decide)), up_z (fun q => absurd q.2 (by decide)), eP9 _ _ (x0_lt (by decide)), up_z (fun q => absurd q.2 (by decide)), eP8 _ _ (x0_lt (by decide)), up_z (fun q => absurd q.2 (by decide)), eP7 _ _ (x0_lt (by decide)), up_z (fun q => absurd q.2 (by decide)), eP6 _ _ (x0_lt (by decide)), up_z (fun q => absurd q.2 (by decide)), eP5 _ _ (x0_lt (by decide)), up_z (fun q => absurd q.2 (by decide)), eP4 _ _ (x0_lt (by decide)), up_z (fun q => absurd q.2 (by decide)), eP3 _ _ (x0_lt (by decide)), up_z (fun q => absurd q.2 (by decide)), eP2 _ _ (x0_lt (by decide)), up_e]
      · dsimp only
        rw [Nat.add_zero X, up_z (fun q => absurd q.2 (by decide)), nw_o (x0_ne (by decide)), up_z (fun q => absurd q.2 (by decide)), eP10 _ _ (x0_lt (by decide)), up_z (fun q => absurd q.2 (by decide)), eP9 _ _ (x0_lt (by decide)), up_z (fun q => absurd q.2 (by decide)), eP8 _ _ (x0_lt (by decide)), up_z (fun q => absurd q.2 (by decide)), eP7 _ _ (x0_lt (by decide)), up_z (fun q => absurd q.2 (by decide)), eP6 _ _ (x0_lt (by decide)), up_z (fun q => absurd q.2 (by decide)), eP5 _ _ (x0_lt (by decide)), up_z (fun q => absurd q.2 (by decide)), eP4 _ _ (x0_lt (by decide)), up_z (fun q => absurd q.2 (by decide)), eP3 _ _ (x0_lt (by decide)), up_e]
      · dsimp only
        rw [Nat.add_zero X, up_z (fun q => absurd q.2 (by decide)), nw_o (x0_ne (by decide)), up_z (fun q => absurd q.2 (by decide)), eP10 _ _ (x0_lt (by decide)), up_z (fun q => absurd q.2 (by decide)), eP9 _ _ (x0_lt (by decide)), up_z (fun q => absurd q.2 (by decide)), eP8 _ _ (x0_lt (by decide)), up_z (fun q => absurd q.2 (by decide)), eP7 _ _ (x0_lt (by decide)), up_z (fun q => absurd q.2 (by decide)), eP6 _ _ (x0_lt (by decide)), up_z (fun q => absurd q.2 (by decide)), eP5 _ _ (x0_lt (by decide)), up_z (fun q => absurd q.2 (by decide)), eP4 _ _ (x0_lt (by decide)), up_e]
      · dsimp only
        rw [Nat.add_zero X, up_z (fun q => absurd q.2 (by decide)), nw_o (x0_ne (by decide)), up_z (fun q => absurd q.2 (by decide)), eP10 _ _ (x0_lt (by decide)), up_z (fun q => absurd q.2 (by decide)), eP9 _ _ (x0_lt (by decide)), up_z (fun q => absurd q.2 (by decide)), eP8 _ _ (x0_lt (by decide)), up_z (fun q => absurd q.2 (by decide)), eP7 _ _ (x0_lt (by decide)), up_z (fun q => absurd q.2 (by decide)), eP6 _ _ (x0_lt (by decide)), up_z (fun q => absurd q.2 (by decide)), eP5 _ _ (x0_lt (by decide)), up_e]
      · dsimp only
        rw [Nat.add_zero X, up_z (fun q => absurd q.2 (by decide)), nw_o (x0_ne (by decide)), up_z (fun q => absurd q.2 (by decide)), eP10 _ _ (x0_lt (by decide)), up_z (fun q => absurd q.2 (by decide)), eP9 _ _ (x0_lt (by decide)), up_z (fun q => absurd q.2 (by decide)), eP8 _ _ (x0_lt (by decide)), up_z (fun q => absurd q.2 (by decide)), eP7 _ _ (x0_lt (by decide)), up_z (fun q => absurd q.2 (by decide)), eP6 _ _ (x0_lt (by decide)), up_e]
      · dsimp only
        rw [Nat.add_zero X, up_z (fun q => absurd q.2 (by decide)), nw_o (x0_ne (by decide)), up_z (fun q => absurd q.2 (by decide)), eP10 _ _ (x0_lt (by decide)), up_z (fun q => absurd q.2 (by decide)), eP9 _ _ (x0_lt (by decide)), up_z (fun q => absurd q.2 (by decide)), eP8 _ _ (x0_lt (by decide)), up_z (fun q => absurd q.2 (by decide)), eP7 _ _ (x0_lt (by decide)), up_e]
      · dsimp only
        rw [Nat.add_zero X, up_z (fun q => absurd q.2 (by decide)), nw_o (x0_ne (by decide)), up_z (fun q => absurd q.2 (by decide)), eP10 _ _ (x0_lt (by decide)), up_z (fun q => absurd q.2 (by decide)), eP9 _ _ (x0_lt (by decide)), up_z (fun q => absurd q.2 (by decide)), eP8 _ _ (x0_lt (by decide)), up_e]
      · dsimp only
        rw [Nat.add_zero X, up_z (fun q => absurd q.2 (by decide)), nw_o (x0_ne (by decide)), up_z (fun q => absurd q.2 (by decide)), eP10 _ _ (x0_lt (by decide)), up_z (fun q => absurd q.2 (by decide)), eP9 _ _ (x0_lt (by decide)), up_e]
      · dsimp only
        rw [Nat.add_zero X, up_z (fun q => absurd q.2 (by decide)), nw_o (x0_ne (by decide)), up_z (fun q => absurd q.2 (by decide)), eP10 _ _ (x0_lt (by decide)), up_e]
      · dsimp only
        rw [Nat.add_zero X, up_z (fun q => absurd q.2 (by decide)), nw_o (x0_ne (by decide)), up_e]
      · dsimp only
        rw [Nat.add_zero X, up_e]
      · dsimp only
        rw [up_z (fun q => xk_ne (by decide) q.1), nw_o (xk_nn (by decide)), up_z (fun q => xk_ne (by decide) q.1), eP10 _ _ (xk_lt (by decide)), up_z (fun q => xk_ne (by decide) q.1), eP9 _ _ (xk_lt (by decide)), up_z (fun q => xk_ne (by decide) q.1), eP8 _ _ (xk_lt (by decide)), up_z (fun q => xk_ne (by decide) q.1), eP7 _ _ (xk_lt (by decide)), up_z (fun q => xk_ne (by decide) q.1), eP6 _ _ (xk_lt (by decide)), up_z (fun q => xk_ne (by decide) q.1), eP5 _ _ (xk_lt (by decide)), up_z (fun q => xk_ne (by decide) q.1), eP4 _ _ (xk_lt (by decide)), up_z (fun q => xk_ne (by decide) q.1), eP3 _ _ (xk_lt (by decide)), up_z (fun q => xk_ne (by decide) q.1), eP2 _ _ (xk_lt (by decide)), up_z (fun q => xk_ne (by decide) q.1)]; exact g1.2.2.2.1.1
      · dsimp only
        rw [up_z (fun q => xk_ne (by decide) q.1), nw_o (xk_nn (by decide)), up_z (fun q => xk_ne (by decide) q.1), eP10 _ _ (xk_lt (by decide)), up_z (fun q => xk_ne (by decide) q.1), eP9 _ _ (xk_lt (by decide)), up_z (fun q => xk_ne (by decide) q.1), eP8 _ _ (xk_lt (by decide)), up_z (fun q => xk_ne (by decide) q.1), eP7 _ _ (xk_lt (by decide)), up_z (fun q => xk_ne (by decide) q.1), eP6 _ _ (xk_lt (by decide)), up_z (fun q => xk_ne (by decide) q.1), eP5 _ _ (xk_lt (by decide)), up_z (fun q => xk_ne (by decide) q.1), eP4 _ _ (xk_lt (by decide)), up_z (fun q => xk_ne (by decide) q.1), eP3 _ _ (xk_lt (by decide)), up_z (fun q => xk_ne (by decide) q.1), eP2 _ _ (xk_lt (by decide)), up_z (fun q => xk_ne (by decide) q.1)]; exact g1.2.2.2.1.2.1
      · dsimp only
        rw [up_z (fun q => xk_ne (by decide) q.1), nw_o (xk_nn (by decide)), up_z (fun q => xk_ne (by decide) q.1), eP10 _ _ (xk_lt (by decide)), up_z (fun q => xk_ne (by decide) q.1), eP9 _ _ (xk_lt (by decide)), up_z (fun q => xk_ne (by decide) q.1), eP8 _ _ (xk_lt (by decide)), up_z (fun q => xk_ne (by decide) q.1), eP7 _ _ (xk_lt (by decide)), up_z (fun q => xk_ne (by decide) q.1), eP6 _ _ (xk_lt (by decide)), up_z (fun q => xk_ne (by decide) q.1), eP5 _ _ (xk_lt (by decide)), up_z (fun q => xk_ne (by decide) q.1), eP4 _ _ (xk_lt (by decide)), up_z (fun q => xk_ne (by decide) q.1), eP3 _ _ (xk_lt (by decide)), up_z (fun q => xk_ne (by decide) q.1), eP2 _ _ (xk_lt (by decide)), up_z (fun q => xk_ne (by decide) q.1)]; exact g1.2.2.2.1.2.2
      · dsimp only
        rw [up_z (fun q => xk_ne (by decide) q.1), nw_o (xk_nn (by decide)), up_z (fun q => xk_ne (by decide) q.1), eP10 _ _ (xk_lt (by decide)), up_z (fun q => xk_ne (by decide) q.1), eP9 _ _ (xk_lt (by decide)), up_z (fun q => xk_ne (by decide) q.1), eP8 _ _ (xk_lt (by decide)), up_z (fun q => xk_ne (by decide) q.1), eP7 _ _ (xk_lt (by decide)), up_z (fun q => xk_ne (by decide) q.1), eP6 _ _ (xk_lt (by decide)), up_z (fun q => xk_ne (by decide) q.1), eP5 _ _ (xk_lt (by decide)), up_z (fun q => xk_ne (by decide) q.1), eP4 _ _ (xk_lt (by decide)), up_z (fun q => xk_ne (by decide) q.1), eP3 _ _ (xk_lt (by decide)), up_z (fun q => xk_ne (by decide) q.1), eP2 _ _ (xk_lt (by decide)), up_z (fun q => xk_ne (by decide) q.1)]; exact (g1.2.1.2.2 (7, 1, 20, 16) (by decide)).1
      · dsimp only
        rw [up_z (fun q => xk_ne (by decide) q.1), nw_o (xk_nn (by decide)), up_z (fun q => xk_ne (by decide) q.1), eP10 _ _ (xk_lt (by decide)), up_z (fun q => xk_ne (by decide) q.1), eP9 _ _ (xk_lt (by decide)), up_z (fun q => xk_ne (by decide) q.1), eP8 _ _ (xk_lt (by decide)), up_z (fun q => xk_ne (by decide) q.1), eP7 _ _ (xk_lt (by decide)), up_z (fun q => xk_ne (by decide) q.1), eP6 _ _ (xk_lt (by decide)), up_z (fun q => xk_ne (by decide) q.1), eP5 _ _ (xk_lt (by decide)), up_z (fun q => xk_ne (by decide) q.1), eP4 _ _ (xk_lt (by decide)), up_z (fun q => xk_ne (by decide) q.1), eP3 _ _ (xk_lt (by decide)), up_z (fun q => xk_ne (by decide) q.1), eP2 _ _ (xk_lt (by decide)), up_z (fun q => xk_ne (by decide) q.1)]; exact (g1.2.1.2.2 (8, 2, 20, 16) (by decide)).1
      · dsimp only
        rw [up_z (fun q => xk_ne (by decide) q.1), nw_o (xk_nn (by decide)), up_z (fun q => xk_ne (by decide) q.1), eP10 _ _ (xk_lt (by decide)), up_z (fun q => xk_ne (by decide) q.1), eP9 _ _ (xk_lt (by decide)), up_z (fun q => xk_ne (by decide) q.1), eP8 _ _ (xk_lt (by decide)), up_z (fun q => xk_ne (by decide) q.1), eP7 _ _ (xk_lt (by decide)), up_z (fun q => xk_ne (by decide) q.1), eP6 _ _ (xk_lt (by decide)), up_z (fun q => xk_ne (by decide) q.1), eP5 _ _ (xk_lt (by decide)), up_z (fun q => xk_ne (by decide) q.1), eP4 _ _ (xk_lt (by decide)), up_z (fun q => xk_ne (by decide) q.1), eP3 _ _ (xk_lt (by decide)), up_z (fun q => xk_ne (by decide) q.1), eP2 _ _ (xk_lt (by decide)), up_z (fun q => xk_ne (by decide) q.1)]; exact (g1.2.1.2.2 (9, 3, 20, 6) (by decide)).1
      · dsimp only
        rw [up_z (fun q => xk_ne (by decide) q.1), nw_o (xk_nn (by decide)), up_z (fun q => xk_ne (by decide) q.1), eP10 _ _ (xk_lt (by decide)), up_z (fun q => xk_ne (by decide) q.1), eP9 _ _ (xk_lt (by decide)), up_z (fun q => xk_ne (by decide) q.1), eP8 _ _ (xk_lt (by decide)), up_z (fun q => xk_ne (by decide) q.1), eP7 _ _ (xk_lt (by decide)), up_z (fun q => xk_ne (by decide) q.1), eP6 _ _ (xk_lt (by decide)), up_z (fun q => xk_ne (by decide) q.1), eP5 _ _ (xk_lt (by decide)), up_z (fun q => xk_ne (by decide) q.1), eP4 _ _ (xk_lt (by decide)), up_z (fun q => xk_ne (by decide) q.1), eP3 _ _ (xk_lt (by decide)), up_z (fun q => xk_ne (by decide) q.1), eP2 _ _ (xk_lt (by decide)), up_z (fun q => xk_ne (by decide) q.1)]; exact (g1.2.1.2.2 (10, 4, 20, 6) (by decide)).1
      · dsimp only
        rw [up_z (fun q => xk_ne (by decide) q.1), nw_o (xk_nn (by decide)), up_z (fun q => xk_ne (by decide) q.1), eP10 _ _ (xk_lt (by decide)), up_z (fun q => xk_ne (by decide) q.1), eP9 _ _ (xk_lt (by decide)), up_z (fun q => xk_ne (by decide) q.1), eP8 _ _ (xk_lt (by decide)), up_z (fun q => xk_ne (by decide) q.1), eP7 _ _ (xk_lt (by decide)), up_z (fun q => xk_ne (by decide) q.1), eP6 _ _ (xk_lt (by decide)), up_z (fun q => xk_ne (by decide) q.1), eP5 _ _ (xk_lt (by decide)), up_z (fun q => xk_ne (by decide) q.1), eP4 _ _ (xk_lt (by decide)), up_z (fun q => xk_ne (by decide) q.1), eP3 _ _ (xk_lt (by decide)), up_z (fun q => xk_ne (by decide) q.1), eP2 _ _ (xk_lt (by decide)), up_z (fun q => xk_ne (by decide) q.1)]; exact (g1.2.1.2.2 (11, 5, 20, 6) (by decide)).1
      · dsimp only
        rw [up_z (fun q => xk_ne (by decide) q.1), nw_o (xk_nn (by decide)), up_z (fun q => xk_ne (by decide) q.1), eP10 _ _ (xk_lt (by decide)), up_z (fun q => xk_ne (by decide) q.1), eP9 _ _ (xk_lt (by decide)), up_z (fun q => xk_ne (by decide) q.1), eP8 _ _ (xk_lt (by decide)), up_z (fun q => xk_ne (by decide) q.1), eP7 _ _ (xk_lt (by decide)), up_z (fun q => xk_ne (by decide) q.1), eP6 _ _ (xk_lt (by decide)), up_z (fun q => xk_ne (by decide) q.1), eP5 _ _ (xk_lt (by decide)), up_z (fun q => xk_ne (by decide) q.1), eP4 _ _ (xk_lt (by decide)), up_z (fun q => xk_ne (by decide) q.1), eP3 _ _ (xk_lt (by decide)), up_z (fun q => xk_ne (by decide) q.1), eP2 _ _ (xk_lt (by decide)), up_z (fun q => xk_ne (by decide) q.1)]; exact (g1.2.1.2.2 (12, 6, 20, 8) (by decide)).1
      · dsimp only
        rw [up_z (fun q => xk_ne (by decide) q.1), nw_o (xk_nn (by decide)), up_z (fun q => xk_ne (by decide) q.1), eP10 _ _ (xk_lt (by decide)), up_z (fun q => xk_ne (by decide) q.1), eP9 _ _ (xk_lt (by decide)), up_z (fun q => xk_ne (by decide) q.1), eP8 _ _ (xk_lt (by decide)), up_z (fun q => xk_ne (by decide) q.1), eP7 _ _ (xk_lt (by decide)), up_z (fun q => xk_ne (by decide) q.1), eP6 _ _ (xk_lt (by decide)), up_z (fun q => xk_ne (by decide) q.1), eP5 _ _ (xk_lt (by decide)), up_z (fun q => xk_ne (by decide) q.1), eP4 _ _ (xk_lt (by decide)), up_z (fun q => xk_ne (by decide) q.1), eP3 _ _ (xk_lt (by decide)), up_z (fun q => xk_ne (by decide) q.1), eP2 _ _ (xk_lt (by decide)), up_z (fun q => xk_ne (by decide) q.1)]; exact (g1.2.1.2.2 (13, 7, 20, 8) (by decide)).1
      · dsimp only
        rw [up_z (fun q => xk_ne (by decide) q.1), nw_o (xk_nn (by decide)), up_z (fun q => xk_ne (by decide) q.1), eP10 _ _ (xk_lt (by decide)), up_z (fun q => xk_ne (by decide) q.1), eP9 _ _ (xk_lt (by decide)), up_z (fun q => xk_ne (by decide) q.1), eP8 _ _ (xk_lt (by decide)), up_z (fun q => xk_ne (by decide) q.1), eP7 _ _ (xk_lt (by decide)), up_z (fun q => xk_ne (by decide) q.1), eP6 _ _ (xk_lt (by decide)), up_z (fun q => xk_ne (by decide) q.1), eP5 _ _ (xk_lt (by decide)), up_z (fun q => xk_ne (by decide) q.1), eP4 _ _ (xk_lt (by decide)), up_z (fun q => xk_ne (by decide) q.1), eP3 _ _ (xk_lt (by decide)), up_z (fun q => xk_ne (by decide) q.1), eP2 _ _ (xk_lt (by decide)), up_z (fun q => xk_ne (by decide) q.1)]; exact (g1.2.1.2.2 (14, 8, 20, 16) (by decide)).1
      · dsimp only
        rw [up_z (fun q => xk_ne (by decide) q.1), nw_o (xk_nn (by decide)), up_z (fun q => xk_ne (by decide) q.1), eP10 _ _ (xk_lt (by decide)), up_z (fun q => xk_ne (by decide) q.1), eP9 _ _ (xk_lt (by decide)), up_z (fun q => xk_ne (by decide) q.1), eP8 _ _ (xk_lt (by decide)), up_z (fun q => xk_ne (by decide) q.1), eP7 _ _ (xk_lt (by decide)), up_z (fun q => xk_ne (by decide) q.1), eP6 _ _ (xk_lt (by decide)), up_z (fun q => xk_ne (by decide) q.1), eP5 _ _ (xk_lt (by decide)), up_z (fun q => xk_ne (by decide) q.1), eP4 _ _ (xk_lt (by decide)), up_z (fun q => xk_ne (by decide) q.1), eP3 _ _ (xk_lt (by decide)), up_z (fun q => xk_ne (by decide) q.1), eP2 _ _ (xk_lt (by decide)), up_z (fun q => xk_ne (by decide) q.1)]; exact (g1.2.1.2.2 (15, 9, 20, 16) (by decide)).1
      · dsimp only
        rw [up_z (fun q => xk_ne (by decide) q.1), nw_o (xk_nn (by decide)), up_z (fun q => xk_ne (by decide) q.1), eP10 _ _ (xk_lt (by decide)), up_z (fun q => xk_ne (by decide) q.1), eP9 _ _ (xk_lt (by decide)), up_z (fun q => xk_ne (by decide) q.1), eP8 _ _ (xk_lt (by decide)), up_z (fun q => xk_ne (by decide) q.1), eP7 _ _ (xk_lt (by decide)), up_z (fun q => xk_ne (by decide) q.1), eP6 _ _ (xk_lt (by decide)), up_z (fun q => xk_ne (by decide) q.1), eP5 _ _ (xk_lt (by decide)), up_z (fun q => xk_ne (by decide) q.1), eP4 _ _ (xk_lt (by decide)), up_z (fun q => xk_ne (by decide) q.1), eP3 _ _ (xk_lt (by decide)), up_z (fun q => xk_ne (by decide) q.1), eP2 _ _ (xk_lt (by decide)), up_z (fun q => xk_ne (by decide) q.1)]; exact (g1.2.1.2.2 (16, 10, 20, 3) (by decide)).1
      · dsimp only
        rw [up_z (fun q => xk_ne (by decide) q.1), nw_o (xk_nn (by decide)), up_z (fun q => xk_ne (by decide) q.1), eP10 _ _ (xk_lt (by decide)), up_z (fun q => xk_ne (by decide) q.1), eP9 _ _ (xk_lt (by decide)), up_z (fun q => xk_ne (by decide) q.1), eP8 _ _ (xk_lt (by decide)), up_z (fun q => xk_ne (by decide) q.1), eP7 _ _ (xk_lt (by decide)), up_z (fun q => xk_ne (by decide) q.1), eP6 _ _ (xk_lt (by decide)), up_z (fun q => xk_ne (by decide) q.1), eP5 _ _ (xk_lt (by decide)), up_z (fun q => xk_ne (by decide) q.1), eP4 _ _ (xk_lt (by decide)), up_z (fun q => xk_ne (by decide) q.1), eP3 _ _ (xk_lt (by decide)), up_z (fun q => xk_ne (by decide) q.1), eP2 _ _ (xk_lt (by decide)), up_z (fun q => xk_ne (by decide) q.1)]; exact (g1.2.1.2.2 (17, 11, 20, 3) (by decide)).1
      · dsimp only
        rw [up_z (fun q => xk_ne (by decide) q.1), nw_o (xk_nn (by decide)), up_z (fun q => xk_ne (by decide) q.1), eP10 _ _ (xk_lt (by decide)), up_z (fun q => xk_ne (by decide) q.1), eP9 _ _ (xk_lt (by decide)), up_z (fun q => xk_ne (by decide) q.1), eP8 _ _ (xk_lt (by decide)), up_z (fun q => xk_ne (by decide) q.1), eP7 _ _ (xk_lt (by decide)), up_z (fun q => xk_ne (by decide) q.1), eP6 _ _ (xk_lt (by decide)), up_z (fun q => xk_ne (by decide) q.1), eP5 _ _ (xk_lt (by decide)), up_z (fun q => xk_ne (by decide) q.1), eP4 _ _ (xk_lt (by decide)), up_z (fun q => xk_ne (by decide) q.1), eP3 _ _ (xk_lt (by decide)), up_z (fun q => xk_ne (by decide) q.1), eP2 _ _ (xk_lt (by decide)), up_z (fun q => xk_ne (by decide) q.1)]; exact (g1.2.1.2.2 (18, 12, 20, 12) (by decide)).1
      · dsimp only
        rw [up_z (fun q => xk_ne (by decide) q.1), nw_o (xk_nn (by decide)), up_z (fun q => xk_ne (by decide) q.1), eP10 _ _ (xk_lt (by decide)), up_z (fun q => xk_ne (by decide) q.1), eP9 _ _ (xk_lt (by decide)), up_z (fun q => xk_ne (by decide) q.1), eP8 _ _ (xk_lt (by decide)), up_z (fun q => xk_ne (by decide) q.1), eP7 _ _ (xk_lt (by decide)), up_z (fun q => xk_ne (by decide) q.1), eP6 _ _ (xk_lt (by decide)), up_z (fun q => xk_ne (by decide) q.1), eP5 _ _ (xk_lt (by decide)), up_z (fun q => xk_ne (by decide) q.1), eP4 _ _ (xk_lt (by decide)), up_z (fun q => xk_ne (by decide) q.1), eP3 _ _ (xk_lt (by decide)), up_z (fun q => xk_ne (by decide) q.1)]; exact (g2.2.1.2.2 (7, 1, 20, 16) (by decide)).1
      · dsimp only
        rw [up_z (fun q => xk_ne (by decide) q.1), nw_o (xk_nn (by decide)), up_z (fun q => xk_ne (by decide) q.1), eP10 _ _ (xk_lt (by decide)), up_z (fun q => xk_ne (by decide) q.1), eP9 _ _ (xk_lt (by decide)), up_z (fun q => xk_ne (by decide) q.1), eP8 _ _ (xk_lt (by decide)), up_z (fun q => xk_ne (by decide) q.1), eP7 _ _ (xk_lt (by decide)), up_z (fun q => xk_ne (by decide) q.1), eP6 _ _ (xk_lt (by decide)), up_z (fun q => xk_ne (by decide) q.1), eP5 _ _ (xk_lt (by decide)), up_z (fun q => xk_ne (by decide) q.1), eP4 _ _ (xk_lt (by decide)), up_z (fun q => xk_ne (by decide) q.1), eP3 _ _ (xk_lt (by decide)), up_z (fun q => xk_ne (by decide) q.1)]; exact (g2.2.1.2.2 (8, 2, 20, 16) (by decide)).1
      · dsimp only
        rw [up_z (fun q => xk_ne (by decide) q.1), nw_o (xk_nn (by decide)), up_z (fun q => xk_ne (by decide) q.1), eP10 _ _ (xk_lt (by decide)), up_z (fun q => xk_ne (by decide) q.1), eP9 _ _ (xk_lt (by decide)), up_z (fun q => xk_ne (by decide) q.1), eP8 _ _ (xk_lt (by decide)), up_z (fun q => xk_ne (by decide) q.1), eP7 _ _ (xk_lt (by decide)), up_z (fun q => xk_ne (by decide) q.1), eP6 _ _ (xk_lt (by decide)), up_z (fun q => xk_ne (by decide) q.1), eP5 _ _ (xk_lt (by decide)), up_z (fun q => xk_ne (by decide) q.1), eP4 _ _ (xk_lt (by decide)), up_z (fun q => xk_ne (by decide) q.1), eP3 _ _ (xk_lt (by decide)), up_z (fun q => xk_ne (by decide) q.1)]; exact (g2.2.1.2.2 (9, 3, 20, 6) (by decide)).1
      · dsimp only
        rw [up_z (fun q => xk_ne (by decide) q.1), nw_o (xk_nn (by decide)), up_z (fun q => xk_ne (by decide) q.1), eP10 _ _ (xk_lt (by decide)), up_z (fun q => xk_ne (by decide) q.1), eP9 _ _ (xk_lt (by decide)), up_z (fun q => xk_ne (by decide) q.1), eP8 _ _ (xk_lt (by decide)), up_z (fun q => xk_ne (by decide) q.1), eP7 _ _ (xk_lt (by decide)), up_z (fun q => xk_ne (by decide) q.1), eP6 _ _ (xk_lt (by decide)), up_z (fun q => xk_ne (by decide) q.1), eP5 _ _ (xk_lt (by decide)), up_z (fun q => xk_ne (by decide) q.1), eP4 _ _ (xk_lt (by decide)), up_z (fun q => xk_ne (by decide) q.1), eP3 _ _ (xk_lt (by decide)), up_z (fun q => xk_ne (by decide) q.1)]; exact (g2.2.1.2.2 (10, 4, 20, 6) (by decide)).1
      · dsimp only
        rw [up_z (fun q => xk_ne (by decide) q.1), nw_o (xk_nn (by decide)), up_z (fun q => xk_ne (by decide) q.1), eP10 _ _ (xk_lt (by decide)), up_z (fun q => xk_ne (by decide) q.1), eP9 _ _ (xk_lt (by decide)), up_z (fun q => xk_ne (by decide) q.1), eP8 _ _ (xk_lt (by decide)), up_z (fun q => xk_ne (by decide) q.1), eP7 _ _ (xk_lt (by decide)), up_z (fun q => xk_ne (by decide) q.1), eP6 _ _ (xk_lt (by decide)), up_z (fun q => xk_ne (by decide) q.1), eP5 _ _ (xk_lt (by decide)), up_z (fun q => xk_ne (by decide) q.1), eP4 _ _ (xk_lt (by decide)), up_z (fun q => xk_ne (by decide) q.1), eP3 _ _ (xk_lt (by decide)), up_z (fun q => xk_ne (by decide) q.1)]; exact (g2.2.1.2.2 (11, 5, 20, 6) (by decide)).1
      · dsimp only
        rw [up_z (fun q => xk_ne (by decide) q.1), nw_o (xk_nn (by decide)), up_z (fun q => xk_ne (by decide) q.1), eP10 _ _ (xk_lt (by decide)), up_z (fun q => xk_ne (by decide) q.1), eP9 _ _ (xk_lt (by decide)), up_z (fun q => xk_ne (by decide) q.1), eP8 _ _ (xk_lt (by decide)), up_z (fun q => xk_ne (by decide) q.1), eP7 _ _ (xk_lt (by decide)), up_z (fun q => xk_ne (by decide) q.1), eP6 _ _ (xk_lt (by decide)), up_z (fun q => xk_ne (by decide) q.1), eP5 _ _ (xk_lt (by decide)), up_z (fun q => xk_ne (by decide) q.1), eP4 _ _ (xk_lt (by decide)), up_z (fun q => xk_ne (by decide) q.1), eP3 _ _ (xk_lt (by decide)), up_z (fun q => xk_ne (by decide) q.1)]; exact (g2.2.1.2.2 (12, 6, 20, 8) (by decide)).1
      · dsimp only
        rw [up_z (fun q => xk_ne (by decide) q.1), nw_o (xk_nn (by decide)), up_z (fun q => xk_ne (by decide) q.1), eP10 _ _ (xk_lt (by decide)), up_z (fun q => xk_ne (by decide) q.1), eP9 _ _ (xk_lt (by decide)), up_z (fun q => xk_ne (by decide) q.1), eP8 _ _ (xk_lt (by decide)), up_z (fun q => xk_ne (by decide) q.1), eP7 _ _ (xk_lt (by decide)), up_z (fun q => xk_ne (by decide) q.1), eP6 _ _ (xk_lt (by decide)), up_z (fun q => xk_ne (by decide) q.1), eP5 _ _ (xk_lt (by decide)), up_z (fun q => xk_ne (by decide) q.1), eP4 _ _ (xk_lt (by decide)), up_z (fun q => xk_ne (by decide) q.1), eP3 _ _ (xk_lt (by decide)), up_z (fun q => xk_ne (by decide) q.1)]; exact (g2.2.1.2.2 (13, 7, 20, 8) (by decide)).1
      · dsimp only
        rw [up_z (fun q => xk_ne (by decide) q.1), nw_o (xk_nn (by decide)), up_z (fun q => xk_ne (by decide) q.1), eP10 _ _ (xk_lt (by decide)), up_z (fun q => xk_ne (by decide) q.1), eP9 _ _ (xk_lt (by decide)), up_z (fun q => xk_ne (by decide) q.1), eP8 _ _ (xk_lt (by decide)), up_z (fun q => xk_ne (by decide) q.1), eP7 _ _ (xk_lt (by decide)), up_z (fun q => xk_ne (by decide) q.1), eP6 _ _ (xk_lt (by decide)), up_z (fun q => xk_ne (by decide) q.1), eP5 _ _ (xk_lt (by decide)), up_z (fun q => xk_ne (by decide) q.1), eP4 _ _ (xk_lt (by decide)), up_z (fun q => xk_ne (by decide) q.1), eP3 _ _ (xk_lt (by decide)), up_z (fun q => xk_ne (by decide) q.1)]; exact (g2.2.1.2.2 (14, 8, 20, 16) (by decide)).1
      · dsimp only
        rw [up_z (fun q => xk_ne (by decide) q.1), nw_o (xk_nn (by decide)), up_z (fun q => xk_ne (by decide) q.1), eP10 _ _ (xk_lt (by decide)), up_z (fun q => xk_ne (by decide) q.1), eP9 _ _ (xk_lt (by decide)), up_z (fun q => xk_ne (by decide) q.1), eP8 _ _ (xk_lt (by decide)), up_z (fun q => xk_ne (by decide) q.1), eP7 _ _ (xk_lt (by decide)), up_z (fun q => xk_ne (by decide) q.1), eP6 _ _ (xk_lt (by decide)), up_z (fun q => xk_ne (by decide) q.1), eP5 _ _ (xk_lt (by decide)), up_z (fun q => xk_ne (by decide) q.1), eP4 _ _ (xk_lt (by decide)), up_z (fun q => xk_ne (by decide) q.1), eP3 _ _ (xk_lt (by decide)), up_z (fun q => xk_ne (by decide) q.1)]; exact (g2.2.1.2.2 (15, 9, 20, 16) (by decide)).1
      · dsimp only
        rw [up_z (fun q => xk_ne (by decide) q.1), nw_o (xk_nn (by decide)), up_z (fun q => xk_ne (by decide) q.1), eP10 _ _ (xk_lt (by decide)), up_z (fun q => xk_ne (by decide) q.1), eP9 _ _ (xk_lt (by decide)), up_z (fun q => xk_ne (by decide) q.1), eP8 _ _ (xk_lt (by decide)), up_z (fun q => xk_ne (by decide) q.1), eP7 _ _ (xk_lt (by decide)), up_z (fun q => xk_ne (by decide) q.1), eP6 _ _ (xk_lt (by decide)), up_z (fun q => xk_ne (by decide) q.1), eP5 _ _ (xk_lt (by decide)), up_z (fun q => xk_ne (by decide) q.1), eP4 _ _ (xk_lt (by decide)), up_z (fun q => xk_ne (by decide) q.1), eP3 _ _ (xk_lt (by decide)), up_z (fun q => xk_ne (by decide) q.1)]; exact (g2.2.1.2.2 (16, 10, 20, 3) (by decide)).1
      · dsimp only
        rw [up_z (fun q => xk_ne (by decide) q.1), nw_o (xk_nn (by decide)), up_z (fun q => xk_ne (by decide) q.1), eP10 _ _ (xk_lt (by decide)), up_z (fun q => xk_ne (by decide) q.1), eP9 _ _ (xk_lt (by decide)), up_z (fun q => xk_ne (by decide) q.1), eP8 _ _ (xk_lt (by decide)), up_z (fun q => xk_ne (by decide) q.1), eP7 _ _ (xk_lt (by decide)), up_z (fun q => xk_ne (by decide) q.1), eP6 _ _ (xk_lt (by decide)), up_z (fun q => xk_ne (by decide) q.1), eP5 _ _ (xk_lt (by decide)), up_z (fun q => xk_ne (by decide) q.1), eP4 _ _ (xk_lt (by decide)), up_z (fun q => xk_ne (by decide) q.1), eP3 _ _ (xk_lt (by decide)), up_z (fun q => xk_ne (by decide) q.1)]; exact (g2.2.1.2.2 (17, 11, 20, 3) (by decide)).1
      · dsimp only
        rw [up_z (fun q => xk_ne (by decide) q.1), nw_o (xk_nn (by decide)), up_z (fun q => xk_ne (by decide) q.1), eP10 _ _ (xk_lt (by decide)), up_z (fun q => xk_ne (by decide) q.1), eP9 _ _ (xk_lt (by decide)), up_z (fun q => xk_ne (by decide) q.1), eP8 _ _ (xk_lt (by decide)), up_z (fun q => xk_ne (by decide) q.1), eP7 _ _ (xk_lt (by decide)), up_z (fun q => xk_ne (by decide) q.1), eP6 _ _ (xk_lt (by decide)), up_z (fun q => xk_ne (by decide) q.1), eP5 _ _ (xk_lt (by decide)), up_z (fun q => xk_ne (by decide) q.1), eP4 _ _ (xk_lt (by decide)), up_z (fun q => xk_ne (by decide) q.1), eP3 _ _ (xk_lt (by decide)), up_z (fun q => xk_ne (by decide) q.1)]; exact (g2.2.1.2.2 (18, 12, 20, 12) (by decide)).1
      · dsimp only
        rw [up_z (fun q => xk_ne (by decide) q.1), nw_o (xk_nn (by decide)), up_z (fun q => xk_ne (by decide) q.1), eP10 _ _ (xk_lt (by decide)), up_z (fun q => xk_ne (by decide) q.1), eP9 _ _ (xk_lt (by decide)), up_z (fun q => xk_ne (by decide) q.1), eP8 _ _ (xk_lt (by decide)), up_z (fun q => xk_ne (by decide) q.1), eP7 _ _ (xk_lt (by decide)), up_z (fun q => xk_ne (by decide) q.1), eP6 _ _ (xk_lt (by decide)), up_z (fun q => xk_ne (by decide) q.1), eP5 _ _ (xk_lt (by decide)), up_z (fun q => xk_ne (by decide) q.1), eP4 _ _ (xk_lt (by decide)), up_z (fun q => xk_ne (by decide) q.1)]; exact g3.2.2.1.1
      · dsimp only
        rw [up_z (fun q => xk_ne (by decide) q.1), nw_o (xk_nn (by decide)), up_z (fun q => xk_ne (by decide) q.1), eP10 _ _ (xk_lt (by decide)), up_z (fun q => xk_ne (by decide) q.1), eP9 _ _ (xk_lt (by decide)), up_z (fun q => xk_ne (by decide) q.1), eP8 _ _ (xk_lt (by decide)), up_z (fun q => xk_ne (by decide) q.1), eP7 _ _ (xk_lt (by decide)), up_z (fun q => xk_ne (by decide) q.1), eP6 _ _ (xk_lt (by decide)), up_z (fun q => xk_ne (by decide) q.1), eP5 _ _ (xk_lt (by decide)), up_z (fun q => xk_ne (by decide) q.1), eP4 _ _ (xk_lt (by decide)), up_z (fun q => xk_ne (by decide) q.1)]; exact g3.2.2.1.2
      · dsimp only
        rw [up_z (fun q => xk_ne (by decide) q.1), nw_o (xk_nn (by decide)), up_z (fun q => xk_ne (by decide) q.1), eP10 _ _ (xk_lt (by decide)), up_z (fun q => xk_ne (by decide) q.1), eP9 _ _ (xk_lt (by decide)), up_z (fun q => xk_ne (by decide) q.1), eP8 _ _ (xk_lt (by decide)), up_z (fun q => xk_ne (by decide) q.1), eP7 _ _ (xk_lt (by decide)), up_z (fun q => xk_ne (by decide) q.1), eP6 _ _ (xk_lt (by decide)), up_z (fun q => xk_ne (by decide) q.1), eP5 _ _ (xk_lt (by decide)), up_z (fun q => xk_ne (by decide) q.1)]; exact g4.2.2.1
      · dsimp only
        rw [up_z (fun q => xk_ne (by decide) q.1), nw_o (xk_nn (by decide)), up_z (fun q => xk_ne (by decide) q.1), eP10 _ _ (xk_lt (by decide)), up_z (fun q => xk_ne (by decide) q.1), eP9 _ _ (xk_lt (by decide)), up_z (fun q => xk_ne (by decide) q.1), eP8 _ _ (xk_lt (by decide)), up_z (fun q => xk_ne (by decide) q.1), eP7 _ _ (xk_lt (by decide)), up_z (fun q => xk_ne (by decide) q.1), eP6 _ _ (xk_lt (by decide)), up_z (fun q => xk_ne (by decide) q.1)]; exact g5.2.2.1
      · dsimp only
        rw [up_z (fun q => xk_ne (by decide) q.1), nw_o (xk_nn (by decide)), up_z (fun q => xk_ne (by decide) q.1), eP10 _ _ (xk_lt (by decide)), up_z (fun q => xk_ne (by decide) q.1), eP9 _ _ (xk_lt (by decide)), up_z (fun q => xk_ne (by decide) q.1), eP8 _ _ (xk_lt (by decide)), up_z (fun q => xk_ne (by decide) q.1), eP7 _ _ (xk_lt (by decide)), up_z (fun q => xk_ne (by decide) q.1), eP6 _ _ (xk_lt (by decide)), up_z (fun q => xk_ne (by decide) q.1)]; exact (g5.2.2.2.2 0 (by omega)).2.1.1
      · dsimp only
        rw [up_z (fun q => xk_ne (by decide) q.1), nw_o (xk_nn (by decide)), up_z (fun q => xk_ne (by decide) q.1), eP10 _ _ (xk_lt (by decide)), up_z (fun q => xk_ne (by decide) q.1), eP9 _ _ (xk_lt (by decide)), up_z (fun q => xk_ne (by decide) q.1), eP8 _ _ (xk_lt (by decide)), up_z (fun q => xk_ne (by decide) q.1), eP7 _ _ (xk_lt (by decide)), up_z (fun q => xk_ne (by decide) q.1), eP6 _ _ (xk_lt (by decide)), up_z (fun q => xk_ne (by decide) q.1)]; exact (g5.2.2.2.2 0 (by omega)).2.1.2
      · dsimp only
        rw [up_z (fun q => xk_ne (by decide) q.1), nw_o (xk_nn (by decide)), up_z (fun q => xk_ne (by decide) q.1), eP10 _ _ (xk_lt (by decide)), up_z (fun q => xk_ne (by decide) q.1), eP9 _ _ (xk_lt (by decide)), up_z (fun q => xk_ne (by decide) q.1), eP8 _ _ (xk_lt (by decide)), up_z (fun q => xk_ne (by decide) q.1), eP7 _ _ (xk_lt (by decide)), up_z (fun q => xk_ne (by decide) q.1), eP6 _ _ (xk_lt (by decide)), up_z (fun q => xk_ne (by decide) q.1)]; exact (g5.2.2.2.2 1 (by omega)).2.1.1
      · dsimp only
        rw [up_z (fun q => xk_ne (by decide) q.1), nw_o (xk_nn (by decide)), up_z (fun q => xk_ne (by decide) q.1), eP10 _ _ (xk_lt (by decide)), up_z (fun q => xk_ne (by decide) q.1), eP9 _ _ (xk_lt (by decide)), up_z (fun q => xk_ne (by decide) q.1), eP8 _ _ (xk_lt (by decide)), up_z (fun q => xk_ne (by decide) q.1), eP7 _ _ (xk_lt (by decide)), up_z (fun q => xk_ne (by decide) q.1), eP6 _ _ (xk_lt (by decide)), up_z (fun q => xk_ne (by decide) q.1)]; exact (g5.2.2.2.2 1 (by omega)).2.1.2
      · dsimp only
        rw [up_z (fun q => xk_ne (by decide) q.1), nw_o (xk_nn (by decide)), up_z (fun q => xk_ne (by decide) q.1), eP10 _ _ (xk_lt (by decide)), up_z (fun q => xk_ne (by decide) q.1), eP9 _ _ (xk_lt (by decide)), up_z (fun q => xk_ne (by decide) q.1), eP8 _ _ (xk_lt (by decide)), up_z (fun q => xk_ne (by decide) q.1), eP7 _ _ (xk_lt (by decide)), up_z (fun q => xk_ne (by decide) q.1), eP6 _ _ (xk_lt (by decide)), up_z (fun q => xk_ne (by decide) q.1)]; exact (g5.2.2.2.2 2 (by omega)).2.1.1
      · dsimp only
        rw [up_z (fun q => xk_ne (by decide) q.1), nw_o (xk_nn (by decide)), up_z (fun q => xk_ne (by decide) q.1), eP10 _ _ (xk_lt (by decide)), up_z (fun q => xk_ne (by decide) q.1), eP9 _ _ (xk_lt (by decide)), up_z (fun q => xk_ne (by decide) q.1), eP8 _ _ (xk_lt (by decide)), up_z (fun q => xk_ne (by decide) q.1), eP7 _ _ (xk_lt (by decide)), up_z (fun q => xk_ne (by decide) q.1), eP6 _ _ (xk_lt (by decide)), up_z (fun q => xk_ne (by decide) q.1)]; exact (g5.2.2.2.2 2 (by omega)).2.1.2
      · dsimp only
        rw [up_z (fun q => xk_ne (by decide) q.1), nw_o (xk_nn (by decide)), up_z (fun q => xk_ne (by decide) q.1), eP10 _ _ (xk_lt (by decide)), up_z (fun q => xk_ne (by decide) q.1), eP9 _ _ (xk_lt (by decide)), up_z (fun q => xk_ne (by decide) q.1), eP8 _ _ (xk_lt (by decide)), up_z (fun q => xk_ne (by decide) q.1), eP7 _ _ (xk_lt (by decide)), up_z (fun q => xk_ne (by decide) q.1), eP6 _ _ (xk_lt (by decide)), up_z (fun q => xk_ne (by decide) q.1)]; exact (g5.2.2.2.2 3 (by omega)).2.1.1
      · dsimp only
        rw [up_z (fun q => xk_ne (by decide) q.1), nw_o (xk_nn (by decide)), up_z (fun q => xk_ne (by decide) q.1), eP10 _ _ (xk_lt (by decide)), up_z (fun q => xk_ne (by decide) q.1), eP9 _ _ (xk_lt (by decide)), up_z (fun q => xk_ne (by decide) q.1), eP8 _ _ (xk_lt (by decide)), up_z (fun q => xk_ne (by decide) q.1), eP7 _ _ (xk_lt (by decide)), up_z (fun q => xk_ne (by decide) q.1), eP6 _ _ (xk_lt (by decide)), up_z (fun q => xk_ne (by decide) q.1)]; exact (g5.2.2.2.2 3 (by omega)).2.1.2
      · dsimp only
        rw [up_z (fun q => xk_ne (by decide) q.1), nw_o (xk_nn (by decide)), up_z (fun q => xk_ne (by decide) q.1), eP10 _ _ (xk_lt (by decide)), up_z (fun q => xk_ne (by decide) q.1), eP9 _ _ (xk_lt (by decide)), up_z (fun q => xk_ne (by decide) q.1), eP8 _ _ (xk_lt (by decide)), up_z (fun q => xk_ne (by decide) q.1), eP7 _ _ (xk_lt (by decide)), up_z (fun q => xk_ne (by decide) q.1), eP6 _ _ (xk_lt (by decide)), up_z (fun q => xk_ne (by decide) q.1)]; exact (g5.2.2.2.2 4 (by omega)).2.1.1
      · dsimp only
        rw [up_z (fun q => xk_ne (by decide) q.1), nw_o (xk_nn (by decide)), up_z (fun q => xk_ne (by decide) q.1), eP10 _ _ (xk_lt (by decide)), up_z (fun q => xk_ne (by decide) q.1), eP9 _ _ (xk_lt (by decide)), up_z (fun q => xk_ne (by decide) q.1), eP8 _ _ (xk_lt (by decide)), up_z (fun q => xk_ne (by decide) q.1), eP7 _ _ (xk_lt (by decide)), up_z (fun q => xk_ne (by decide) q.1), eP6 _ _ (xk_lt (by decide)), up_z (fun q => xk_ne (by decide) q.1)]; exact (g5.2.2.2.2 4 (by omega)).2.1.2
      · dsimp only
        rw [up_z (fun q => xk_ne (by decide) q.1), nw_o (xk_nn (by decide)), up_z (fun q => xk_ne (by decide) q.1), eP10 _ _ (xk_lt (by decide)), up_z (fun q => xk_ne (by decide) q.1), eP9 _ _ (xk_lt (by decide)), up_z (fun q => xk_ne (by decide) q.1), eP8 _ _ (xk_lt (by decide)), up_z (fun q => xk_ne (by decide) q.1), eP7 _ _ (xk_lt (by decide)), up_z (fun q => xk_ne (by decide) q.1), eP6 _ _ (xk_lt (by decide)), up_z (fun q => xk_ne (by decide) q.1)]; exact (g5.2.2.2.2 5 (by omega)).2.1.1
      · dsimp only
        rw [up_z (fun q => xk_ne (by decide) q.1), nw_o (xk_nn (by decide)), up_z (fun q => xk_ne (by decide) q.1), eP10 _ _ (xk_lt (by decide)), up_z (fun q => xk_ne (by decide) q.1), eP9 _ _ (xk_lt (by decide)), up_z (fun q => xk_ne (by decide) q.1), eP8 _ _ (xk_lt (by decide)), up_z (fun q => xk_ne (by decide) q.1), eP7 _ _ (xk_lt (by decide)), up_z (fun q => xk_ne (by decide) q.1), eP6 _ _ (xk_lt (by decide)), up_z (fun q => xk_ne (by decide) q.1)]; exact (g5.2.2.2.2 5 (by omega)).2.1.2
      · dsimp only
        rw [up_z (fun q => xk_ne (by decide) q.1), nw_o (xk_nn (by decide)), up_z (fun q => xk_ne (by decide) q.1), eP10 _ _ (xk_lt (by decide)), up_z (fun q => xk_ne (by decide) q.1), eP9 _ _ (xk_lt (by decide)), up_z (fun q => xk_ne (by decide) q.1), eP8 _ _ (xk_lt (by decide)), up_z (fun q => xk_ne (by decide) q.1), eP7 _ _ (xk_lt (by decide)), up_z (fun q => xk_ne (by decide) q.1), eP6 _ _ (xk_lt (by decide)), up_z (fun q => xk_ne (by decide) q.1)]; exact (g5.2.2.2.2 6 (by omega)).2.1.1
      · dsimp only
        rw [up_z (fun q => xk_ne (by decide) q.1), nw_o (xk_nn (by decide)), up_z (fun q => xk_ne (by decide) q.1), eP10 _ _ (xk_lt (by decide)), up_z (fun q => xk_ne (by decide) q.1), eP9 _ _ (xk_lt (by decide)), up_z (fun q => xk_ne (by decide) q.1), eP8 _ _ (xk_lt (by decide)), up_z (fun q => xk_ne (by decide) q.1), eP7 _ _ (xk_lt (by decide)), up_z (fun q => xk_ne (by decide) q.1), eP6 _ _ (xk_lt (by decide)), up_z (fun q => xk_ne (by decide) q.1)]; exact (g5.2.2.2.2 6 (by omega)).2.1.2
      · dsimp only
        rw [up_z (fun q => xk_ne (by decide) q.1), nw_o (xk_nn (by decide)), up_z (fun q => xk_ne (by decide) q.1), eP10 _ _ (xk_lt (by decide)), up_z (fun q => xk_ne (by decide) q.1), eP9 _ _ (xk_lt (by decide)), up_z (fun q => xk_ne (by decide) q.1), eP8 _ _ (xk_lt (by decide)), up_z (fun q => xk_ne (by decide) q.1), eP7 _ _ (xk_lt (by decide)), up_z (fun q => xk_ne (by decide) q.1), eP6 _ _ (xk_lt (by decide)), up_z (fun q => xk_ne (by decide) q.1)]; exact (g5.2.2.2.2 7 (by omega)).2.1.1
      · dsimp only
        rw [up_z (fun q => xk_ne (by decide) q.1), nw_o (xk_nn (by decide)), up_z (fun q => xk_ne (by decide) q.1), eP10 _ _ (xk_lt (by decide)), up_z (fun q => xk_ne (by decide) q.1), eP9 _ _ (xk_lt (by decide)), up_z (fun q => xk_ne (by decide) q.1), eP8 _ _ (xk_lt (by decide)), up_z (fun q => xk_ne (by decide) q.1), eP7 _ _ (xk_lt (by decide)), up_z (fun q => xk_ne (by decide) q.1), eP6 _ _ (xk_lt (by decide)), up_z (fun q => xk_ne (by decide) q.1)]; exact (g5.2.2.2.2 7 (by omega)).2.1.2
      · dsimp only
        rw [up_z (fun q => xk_ne (by decide) q.1), nw_o (xk_nn (by decide)), up_z (fun q => xk_ne (by decide) q.1), eP10 _ _ (xk_lt (by decide)), up_z (fun q => xk_ne (by decide) q.1), eP9 _ _ (xk_lt (by decide)), up_z (fun q => xk_ne (by decide) q.1), eP8 _ _ (xk_lt (by decide)), up_z (fun q => xk_ne (by decide) q.1), eP7 _ _ (xk_lt (by decide)), up_z (fun q => xk_ne (by decide) q.1), eP6 _ _ (xk_lt (by decide)), up_z (fun q => xk_ne (by decide) q.1)]; exact (g5.2.2.2.2 8 (by omega)).2.1.1
      · dsimp only
        rw [up_z (fun q => xk_ne (by decide) q.1), nw_o (xk_nn (by decide)), up_z (fun q => xk_ne (by decide) q.1), eP10 _ _ (xk_lt (by decide)), up_z (fun q => xk_ne (by decide) q.1), eP9 _ _ (xk_lt (by decide)), up_z (fun q => xk_ne (by decide) q.1), eP8 _ _ (xk_lt (by decide)), up_z (fun q => xk_ne (by decide) q.1), eP7 _ _ (xk_lt (by decide)), up_z (fun q => xk_ne (by decide) q.1), eP6 _ _ (xk_lt (by decide)), up_z (fun q => xk_ne (by decide) q.1)]; exact (g5.2.2.2.2 8 (by omega)).2.1.2
      · dsimp only
        rw [up_z (fun q => xk_ne (by decide) q.1), nw_o (xk_nn (by decide)), up_z (fun q => xk_ne (by decide) q.1), eP10 _ _ (xk_lt (by decide)), up_z (fun q => xk_ne (by decide) q.1), eP9 _ _ (xk_lt (by decide)), up_z (fun q => xk_ne (by decide) q.1), eP8 _ _ (xk_lt (by decide)), up_z (fun q => xk_ne (by decide) q.1), eP7 _ _ (xk_lt (by decide)), up_z (fun q => xk_ne (by decide) q.1), eP6 _ _ (xk_lt (by decide)), up_z (fun q => xk_ne (by decide) q.1)]; exact (g5.2.2.2.2 9 (by omega)).2.1.1
      · dsimp only
        rw [up_z (fun q => xk_ne (by decide) q.1), nw_o (xk_nn (by decide)), up_z (fun q => xk_ne (by decide) q.1), eP10 _ _ (xk_lt (by decide)), up_z (fun q => xk_ne (by decide) q.1), eP9 _ _ (xk_lt (by decide)), up_z (fun q => xk_ne (by decide) q.1), eP8 _ _ (xk_lt (by decide)), up_z (fun q => xk_ne (by decide) q.1), eP7 _ _ (xk_lt (by decide)), up_z (fun q => xk_ne (by decide) q.1), eP6 _ _ (xk_lt (by decide)), up_z (fun q => xk_ne (by decide) q.1)]; exact (g5.2.2.2.2 9 (by omega)).2.1.2
      · dsimp only
        rw [up_z (fun q => xk_ne (by decide) q.1), nw_o (xk_nn (by decide)), up_z (fun q => xk_ne (by decide) q.1), eP10 _ _ (xk_lt (by decide)), up_z (fun q => xk_ne (by decide) q.1), eP9 _ _ (xk_lt (by decide)), up_z (fun q => xk_ne (by decide) q.1), eP8 _ _ (xk_lt (by decide)), up_z (fun q => xk_ne (by decide) q.1), eP7 _ _ (xk_lt (by decide)), up_z (fun q => xk_ne (by decide) q.1), eP6 _ _ (xk_lt (by decide)), up_z (fun q => xk_ne (by decide) q.1)]; exact (g5.2.2.2.2 10 (by omega)).2.1.1
      · dsimp only
        rw [up_z (fun q => xk_ne (by decide) q.1), nw_o (xk_nn (by decide)), up_z (fun q => xk_ne (by decide) q.1), eP10 _ _ (xk_lt (by decide)), up_z (fun q => xk_ne (by decide) q.1), eP9 _ _ (xk_lt (by decide)), up_z (fun q => xk_ne (by decide) q.1), eP8 _ _ (xk_lt (by decide)), up_z (fun q => xk_ne (by decide) q.1), eP7 _ _ (xk_lt (by decide)), up_z (fun q => xk_ne (by decide) q.1), eP6 _ _ (xk_lt (by decide)), up_z (fun q => xk_ne (by decide) q.1)]; exact (g5.2.2.2.2 10 (by omega)).2.1.2
      · dsimp only
        rw [up_z (fun q => xk_ne (by decide) q.1), nw_o (xk_nn (by decide)), up_z (fun q => xk_ne (by decide) q.1), eP10 _ _ (xk_lt (by decide)), up_z (fun q => xk_ne (by decide) q.1), eP9 _ _ (xk_lt (by decide)), up_z (fun q => xk_ne (by decide) q.1), eP8 _ _ (xk_lt (by decide)), up_z (fun q => xk_ne (by decide) q.1), eP7 _ _ (xk_lt (by decide)), up_z (fun q => xk_ne (by decide) q.1), eP6 _ _ (xk_lt (by decide)), up_z (fun q => xk_ne (by decide) q.1)]; exact (g5.2.2.2.2 11 (by omega)).2.1.1
      · dsimp only
        rw [up_z (fun q => xk_ne (by decide) q.1), nw_o (xk_nn (by decide)), up_z (fun q => xk_ne (by decide) q.1), eP10 _ _ (xk_lt (by decide)), up_z (fun q => xk_ne (by decide) q.1), eP9 _ _ (xk_lt (by decide)), up_z (fun q => xk_ne (by decide) q.1), eP8 _ _ (xk_lt (by decide)), up_z (fun q => xk_ne (by decide) q.1), eP7 _ _ (xk_lt (by decide)), up_z (fun q => xk_ne (by decide) q.1), eP6 _ _ (xk_lt (by decide)), up_z (fun q => xk_ne (by decide) q.1)]; exact (g5.2.2.2.2 11 (by omega)).2.1.2
      · dsimp only
        rw [up_z (fun q => xk_ne (by decide) q.1), nw_o (xk_nn (by decide)), up_z (fun q => xk_ne (by decide) q.1), eP10 _ _ (xk_lt (by decide)), up_z (fun q => xk_ne (by decide) q.1), eP9 _ _ (xk_lt (by decide)), up_z (fun q => xk_ne (by decide) q.1), eP8 _ _ (xk_lt (by decide)), up_z (fun q => xk_ne (by decide) q.1), eP7 _ _ (xk_lt (by decide)), up_z (fun q => xk_ne (by decide) q.1), eP6 _ _ (xk_lt (by decide)), up_z (fun q => xk_ne (by decide) q.1)]; exact (g5.2.2.2.2 12 (by omega)).2.1.1
      · dsimp only
        rw [up_z (fun q => xk_ne (by decide) q.1), nw_o (xk_nn (by decide)), up_z (fun q => xk_ne (by decide) q.1), eP10 _ _ (xk_lt (by decide)), up_z (fun q => xk_ne (by decide) q.1), eP9 _ _ (xk_lt (by decide)), up_z (fun q => xk_ne (by decide) q.1), eP8 _ _ (xk_lt (by decide)), up_z (fun q => xk_ne (by decide) q.1), eP7 _ _ (xk_lt (by decide)), up_z (fun q => xk_ne (by decide) q.1), eP6 _ _ (xk_lt (by decide)), up_z (fun q => xk_ne (by decide) q.1)]; exact (g5.2.2.2.2 12 (by omega)).2.1.2
      · dsimp only
        rw [up_z (fun q => xk_ne (by decide) q.1), nw_o (xk_nn (by decide)), up_z (fun q => xk_ne (by decide) q.1), eP10 _ _ (xk_lt (by decide)), up_z (fun q => xk_ne (by decide) q.1), eP9 _ _ (xk_lt (by decide)), up_z (fun q => xk_ne (by decide) q.1), eP8 _ _ (xk_lt (by decide)), up_z (fun q => xk_ne (by decide) q.1), eP7 _ _ (xk_lt (by decide)), up_z (fun q => xk_ne (by decide) q.1), eP6 _ _ (xk_lt (by decide)), up_z (fun q => xk_ne (by decide) q.1)]; exact (g5.2.2.2.2 13 (by omega)).2.1.1
      · dsimp only
        rw [up_z (fun q => xk_ne (by decide) q.1), nw_o (xk_nn (by decide)), up_z (fun q => xk_ne (by decide) q.1), eP10 _ _ (xk_lt (by decide)), up_z (fun q => xk_ne (by decide) q.1), eP9 _ _ (xk_lt (by decide)), up_z (fun q => xk_ne (by decide) q.1), eP8 _ _ (xk_lt (by decide)), up_z (fun q => xk_ne (by decide) q.1), eP7 _ _ (xk_lt (by decide)), up_z (fun q => xk_ne (by decide) q.1), eP6 _ _ (xk_lt (by decide)), up_z (fun q => xk_ne (by decide) q.1)]; exact (g5.2.2.2.2 13 (by omega)).2.1.2
      · dsimp only
        rw [up_z (fun q => xk_ne (by decide) q.1), nw_o (xk_nn (by decide)), up_z (fun q => xk_ne (by decide) q.1), eP10 _ _ (xk_lt (by decide)), up_z (fun q => xk_ne (by decide) q.1), eP9 _ _ (xk_lt (by decide)), up_z (fun q => xk_ne (by decide) q.1), eP8 _ _ (xk_lt (by decide)), up_z (fun q => xk_ne (by decide) q.1), eP7 _ _ (xk_lt (by decide)), up_z (fun q => xk_ne (by decide) q.1), eP6 _ _ (xk_lt (by decide)), up_z (fun q => xk_ne (by decide) q.1)]; exact (g5.2.2.2.2 14 (by omega)).2.1.1
      · dsimp only
        rw [up_z (fun q => xk_ne (by decide) q.1), nw_o (xk_nn (by decide)), up_z (fun q => xk_ne (by decide) q.1), eP10 _ _ (xk_lt (by decide)), up_z (fun q => xk_ne (by decide) q.1), eP9 _ _ (xk_lt (by decide)), up_z (fun q => xk_ne (by decide) q.1), eP8 _ _ (xk_lt (by decide)), up_z (fun q => xk_ne (by decide) q.1), eP7 _ _ (xk_lt (by decide)), up_z (fun q => xk_ne (by decide) q.1), eP6 _ _ (xk_lt (by decide)), up_z (fun q => xk_ne (by decide) q.1)]; exact (g5.2.2.2.2 14 (by omega)).2.1.2
      · dsimp only
        rw [up_z (fun q => xk_ne (by decide) q.1), nw_o (xk_nn (by decide)), up_z (fun q => xk_ne (by decide) q.1), eP10 _ _ (xk_lt (by decide)), up_z (fun q => xk_ne (by decide) q.1), eP9 _ _ (xk_lt (by decide)), up_z (fun q => xk_ne (by decide) q.1), eP8 _ _ (xk_lt (by decide)), up_z (fun q => xk_ne (by decide) q.1), eP7 _ _ (xk_lt (by decide)), up_z (fun q => xk_ne (by decide) q.1), eP6 _ _ (xk_lt (by decide)), up_z (fun q => xk_ne (by decide) q.1)]; exact (g5.2.2.2.2 15 (by omega)).2.1.1
      · dsimp only
        rw [up_z (fun q => xk_ne (by decide) q.1), nw_o (xk_nn (by decide)), up_z (fun q => xk_ne (by decide) q.1), eP10 _ _ (xk_lt (by decide)), up_z (fun q => xk_ne (by decide) q.1), eP9 _ _ (xk_lt (by decide)), up_z (fun q => xk_ne (by decide) q.1), eP8 _ _ (xk_lt (by decide)), up_z (fun q => xk_ne (by decide) q.1), eP7 _ _ (xk_lt (by decide)), up_z (fun q => xk_ne (by decide) q.1), eP6 _ _ (xk_lt (by decide)), up_z (fun q => xk_ne (by decide) q.1)]; exact (g5.2.2.2.2 15 (by omega)).2.1.2
      · dsimp only
        rw [up_z (fun q => xk_ne (by decide) q.1), nw_o (xk_nn (by decide)), up_z (fun q => xk_ne (by decide) q.1), eP10 _ _ (xk_lt (by decide)), up_z (fun q => xk_ne (by decide) q.1), eP9 _ _ (xk_lt (by decide)), up_z (fun q => xk_ne (by decide) q.1), eP8 _ _ (xk_lt (by decide)), up_z (fun q => xk_ne (by decide) q.1), eP7 _ _ (xk_lt (by decide)), up_z (fun q => xk_ne (by decide) q.1), eP6 _ _ (xk_lt (by decide)), up_z (fun q => xk_ne (by decide) q.1)]; exact (g5.2.2.2.2 16 (by omega)).2.1.1
      · dsimp only
        rw [up_z (fun q => xk_ne (by decide) q.1), nw_o (xk_nn (by decide)), up_z (fun q => xk_ne (by decide) q.1), eP10 _ _ (xk_lt (by decide)), up_z (fun q => xk_ne (by decide) q.1), eP9 _ _ (xk_lt (by decide)), up_z (fun q => xk_ne (by decide) q.1), eP8 _ _ (xk_lt (by decide)), up_z (fun q => xk_ne (by decide) q.1), eP7 _ _ (xk_lt (by decide)), up_z (fun q => xk_ne (by decide) q.1), eP6 _ _ (xk_lt (by decide)), up_z (fun q => xk_ne (by decide) q.1)]; exact (g5.2.2.2.2 16 (by omega)).2.1.2
      · dsimp only
        rw [up_z (fun q => xk_ne (by decide) q.1), nw_o (xk_nn (by decide)), up_z (fun q => xk_ne (by decide) q.1), eP10 _ _ (xk_lt (by decide)), up_z (fun q => xk_ne (by decide) q.1), eP9 _ _ (xk_lt (by decide)), up_z (fun q => xk_ne (by decide) q.1), eP8 _ _ (xk_lt (by decide)), up_z (fun q => xk_ne (by decide) q.1), eP7 _ _ (xk_lt (by decide)), up_z (fun q => xk_ne (by decide) q.1), eP6 _ _ (xk_lt (by decide)), up_z (fun q => xk_ne (by decide) q.1)]; exact (g5.2.2.2.2 17 (by omega)).2.1.1
      · dsimp only
        rw [up_z (fun q => xk_ne (by decide) q.1), nw_o (xk_nn (by decide)), up_z (fun q => xk_ne (by decide) q.1), eP10 _ _ (xk_lt (by decide)), up_z (fun q => xk_ne (by decide) q.1), eP9 _ _ (xk_lt (by decide)), up_z (fun q => xk_ne (by decide) q.1), eP8 _ _ (xk_lt (by decide)), up_z (fun q => xk_ne (by decide) q.1), eP7 _ _ (xk_lt (by decide)), up_z (fun q => xk_ne (by decide) q.1), eP6 _ _ (xk_lt (by decide)), up_z (fun q => xk_ne (by decide) q.1)]; exact (g5.2.2.2.2 17 (by omega)).2.1.2
      · dsimp only
        rw [up_z (fun q => xk_ne (by decide) q.1), nw_o (xk_nn (by decide)), up_z (fun q => xk_ne (by decide) q.1), eP10 _ _ (xk_lt (by decide)), up_z (fun q => xk_ne (by decide) q.1), eP9 _ _ (xk_lt (by decide)), up_z (fun q => xk_ne (by decide) q.1), eP8 _ _ (xk_lt (by decide)), up_z (fun q => xk_ne (by decide) q.1), eP7 _ _ (xk_lt (by decide)), up_z (fun q => xk_ne (by decide) q.1), eP6 _ _ (xk_lt (by decide)), up_z (fun q => xk_ne (by decide) q.1)]; exact (g5.2.2.2.2 18 (by omega)).2.1.1
      · dsimp only
        rw [up_z (fun q => xk_ne (by decide) q.1), nw_o (xk_nn (by decide)), up_z (fun q => xk_ne (by decide) q.1), eP10 _ _ (xk_lt (by decide)), up_z (fun q => xk_ne (by decide) q.1), eP9 _ _ (xk_lt (by decide)), up_z (fun q => xk_ne (by decide) q.1), eP8 _ _ (xk_lt (by decide)), up_z (fun q => xk_ne (by decide) q.1), eP7 _ _ (xk_lt (by decide)), up_z (fun q => xk_ne (by decide) q.1), eP6 _ _ (xk_lt (by decide)), up_z (fun q => xk_ne (by decide) q.1)]; exact (g5.2.2.2.2 18 (by omega)).2.1.2
      · dsimp only
        rw [up_z (fun q => xk_ne (by decide) q.1), nw_o (xk_nn (by decide)), up_z (fun q => xk_ne (by decide) q.1), eP10 _ _ (xk_lt (by decide)), up_z (fun q => xk_ne (by decide) q.1), eP9 _ _ (xk_lt (by decide)), up_z (fun q => xk_ne (by decide) q.1), eP8 _ _ (xk_lt (by decide)), up_z (fun q => xk_ne (by decide) q.1), eP7 _ _ (xk_lt (by decide)), up_z (fun q => xk_ne (by decide) q.1), eP6 _ _ (xk_lt (by decide)), up_z (fun q => xk_ne (by decide) q.1)]; exact (g5.2.2.2.2 19 (by omega)).2.1.1
      · dsimp only
        rw [up_z (fun q => xk_ne (by decide) q.1), nw_o (xk_nn (by decide)), up_z (fun q => xk_ne (by decide) q.1), eP10 _ _ (xk_lt (by decide)), up_z (fun q => xk_ne (by decide) q.1), eP9 _ _ (xk_lt (by decide)), up_z (fun q => xk_ne (by decide) q.1), eP8 _ _ (xk_lt (by decide)), up_z (fun q => xk_ne (by decide) q.1), eP7 _ _ (xk_lt (by decide)), up_z (fun q => xk_ne (by decide) q.1), eP6 _ _ (xk_lt (by decide)), up_z (fun q => xk_ne (by decide) q.1)]; exact (g5.2.2.2.2 19 (by omega)).2.1.2
      · dsimp only
        rw [up_z (fun q => xk_ne (by decide) q.1), nw_o (xk_nn (by decide)), up_z (fun q => xk_ne (by decide) q.1), eP10 _ _ (xk_lt (by decide)), up_z (fun q => xk_ne (by decide) q.1), eP9 _ _ (xk_lt (by decide)), up_z (fun q => xk_ne (by decide) q.1), eP8 _ _ (xk_lt (by decide)), up_z (fun q => xk_ne (by decide) q.1), eP7 _ _ (xk_lt (by decide)), up_z (fun q => xk_ne (by decide) q.1), eP6 _ _ (xk_lt (by decide)), up_z (fun q => xk_ne (by decide) q.1)]; exact (g5.2.2.2.2 20 (by omega)).2.1.1
      · dsimp only
        rw [up_z (fun q => xk_ne (by decide) q.1), nw_o (xk_nn (by decide)), up_z (fun q => xk_ne (by decide) q.1), eP10 _ _ (xk_lt (by decide)), up_z (fun q => xk_ne (by decide) q.1), eP9 _ _ (xk_lt (by decide)), up_z (fun q => xk_ne (by decide) q.1), eP8 _ _ (xk_lt (by decide)), up_z (fun q => xk_ne (by decide) q.1), eP7 _ _ (xk_lt (by decide)), up_z (fun q => xk_ne (by decide) q.1), eP6 _ _ (xk_lt (by decide)), up_z (fun q => xk_ne (by decide) q.1)]; exact (g5.2.2.2.2 20 (by omega)).2.1.2
      · dsimp only
        rw [up_z (fun q => xk_ne (by decide) q.1), nw_o (xk_nn (by decide)), up_z (fun q => xk_ne (by decide) q.1), eP10 _ _ (xk_lt (by decide)), up_z (fun q => xk_ne (by decide) q.1), eP9 _ _ (xk_lt (by decide)), up_z (fun q => xk_ne (by decide) q.1), eP8 _ _ (xk_lt (by decide)), up_z (fun q => xk_ne (by decide) q.1), eP7 _ _ (xk_lt (by decide)), up_z (fun q => xk_ne (by decide) q.1), eP6 _ _ (xk_lt (by decide)), up_z (fun q => xk_ne (by decide) q.1)]; exact (g5.2.2.2.2 21 (by omega)).2.1.1
      · dsimp only
        rw [up_z (fun q => xk_ne (by decide) q.1), nw_o (xk_nn (by decide)), up_z (fun q => xk_ne (by decide) q.1), eP10 _ _ (xk_lt (by decide)), up_z (fun q => xk_ne (by decide) q.1), eP9 _ _ (xk_lt (by decide)), up_z (fun q => xk_ne (by decide) q.1), eP8 _ _ (xk_lt (by decide)), up_z (fun q => xk_ne (by decide) q.1), eP7 _ _ (xk_lt (by decide)), up_z (fun q => xk_ne (by decide) q.1), eP6 _ _ (xk_lt (by decide)), up_z (fun q => xk_ne (by decide) q.1)]; exact (g5.2.2.2.2 21 (by omega)).2.1.2
      · dsimp only
        rw [up_z (fun q => xk_ne (by decide) q.1), nw_o (xk_nn (by decide)), up_z (fun q => xk_ne (by decide) q.1), eP10 _ _ (xk_lt (by decide)), up_z (fun q => xk_ne (by decide) q.1), eP9 _ _ (xk_lt (by decide)), up_z (fun q => xk_ne (by decide) q.1), eP8 _ _ (xk_lt (by decide)), up_z (fun q => xk_ne (by decide) q.1), eP7 _ _ (xk_lt (by decide)), up_z (fun q => xk_ne (by decide) q.1), eP6 _ _ (xk_lt (by decide)), up_z (fun q => xk_ne (by decide) q.1)]; exact (g5.2.2.2.2 22 (by omega)).2.1.1
      · dsimp only
        rw [up_z (fun q => xk_ne (by decide) q.1), nw_o (xk_nn (by decide)), up_z (fun q => xk_ne (by decide) q.1), eP10 _ _ (xk_lt (by decide)), up_z (fun q => xk_ne (by decide) q.1), eP9 _ _ (xk_lt (by decide)), up_z (fun q => xk_ne (by decide) q.1), eP8 _ _ (xk_lt (by decide)), up_z (fun q => xk_ne (by decide) q.1), eP7 _ _ (xk_lt (by decide)), up_z (fun q => xk_ne (by decide) q.1), eP6 _ _ (xk_lt (by decide)), up_z (fun q => xk_ne (by decide) q.1)]; exact (g5.2.2.2.2 22 (by omega)).2.1.2
      · dsimp only
        rw [up_z (fun q => xk_ne (by decide) q.1), nw_o (xk_nn (by decide)), up_z (fun q => xk_ne (by decide) q.1), eP10 _ _ (xk_lt (by decide)), up_z (fun q => xk_ne (by decide) q.1), eP9 _ _ (xk_lt (by decide)), up_z (fun q => xk_ne (by decide) q.1), eP8 _ _ (xk_lt (by decide)), up_z (fun q => xk_ne (by decide) q.1), eP7 _ _ (xk_lt (by decide)), up_z (fun q => xk_ne (by decide) q.1), eP6 _ _ (xk_lt (by decide)), up_z (fun q => xk_ne (by decide) q.1)]; exact (g5.2.2.2.2 23 (by omega)).2.1.1
      · dsimp only
        rw [up_z (fun q => xk_ne (by decide) q.1), nw_o (xk_nn (by decide)), up_z (fun q => xk_ne (by decide) q.1), eP10 _ _ (xk_lt (by decide)), up_z (fun q => xk_ne (by decide) q.1), eP9 _ _ (xk_lt (by decide)), up_z (fun q => xk_ne (by decide) q.1), eP8 _ _ (xk_lt (by decide)), up_z (fun q => xk_ne (by decide) q.1), eP7 _ _ (xk_lt (by decide)), up_z (fun q => xk_ne (by decide) q.1), eP6 _ _ (xk_lt (by decide)), up_z (fun q => xk_ne (by decide) q.1)]; exact (g5.2.2.2.2 23 (by omega)).2.1.2
      · dsimp only
        rw [up_z (fun q => xk_ne (by decide) q.1), nw_o (xk_nn (by decide)), up_z (fun q => xk_ne (by decide) q.1), eP10 _ _ (xk_lt (by decide)), up_z (fun q => xk_ne (by decide) q.1), eP9 _ _ (xk_lt (by decide)), up_z (fun q => xk_ne (by decide) q.1), eP8 _ _ (xk_lt (by decide)), up_z (fun q => xk_ne (by decide) q.1), eP7 _ _ (xk_lt (by decide)), up_z (fun q => xk_ne (by decide) q.1), eP6 _ _ (xk_lt (by decide)), up_z (fun q => xk_ne (by decide) q.1)]; exact (g5.2.2.2.2 24 (by omega)).2.1.1
      · dsimp only
        rw [up_z (fun q => xk_ne (by decide) q.1), nw_o (xk_nn (by decide)), up_z (fun q => xk_ne (by decide) q.1), eP10 _ _ (xk_lt (by decide)), up_z (fun q => xk_ne (by decide) q.1), eP9 _ _ (xk_lt (by decide)), up_z (fun q => xk_ne (by decide) q.1), eP8 _ _ (xk_lt (by decide)), up_z (fun q => xk_ne (by decide) q.1), eP7 _ _ (xk_lt (by decide)), up_z (fun q => xk_ne (by decide) q.1), eP6 _ _ (xk_lt (by decide)), up_z (fun q => xk_ne (by decide) q.1)]; exact (g5.2.2.2.2 24 (by omega)).2.1.2
      · dsimp only
        rw [up_z (fun q => xk_ne (by decide) q.1), nw_o (xk_nn (by decide)), up_z (fun q => xk_ne (by decide) q.1), eP10 _ _ (xk_lt (by decide)), up_z (fun q => xk_ne (by decide) q.1), eP9 _ _ (xk_lt (by decide)), up_z (fun q => xk_ne (by decide) q.1), eP8 _ _ (xk_lt (by decide)), up_z (fun q => xk_ne (by decide) q.1), eP7 _ _ (xk_lt (by decide)), up_z (fun q => xk_ne (by decide) q.1), eP6 _ _ (xk_lt (by decide)), up_z (fun q => xk_ne (by decide) q.1)]; exact (g5.2.2.2.2 25 (by omega)).2.1.1
      · dsimp only
        rw [up_z (fun q => xk_ne (by decide) q.1), nw_o (xk_nn (by decide)), up_z (fun q => xk_ne (by decide) q.1), eP10 _ _ (xk_lt (by decide)), up_z (fun q => xk_ne (by decide) q.1), eP9 _ _ (xk_lt (by decide)), up_z (fun q => xk_ne (by decide) q.1), eP8 _ _ (xk_lt (by decide)), up_z (fun q => xk_ne (by decide) q.1), eP7 _ _ (xk_lt (by decide)), up_z (fun q => xk_ne (by decide) q.1), eP6 _ _ (xk_lt (by decide)), up_z (fun q => xk_ne (by decide) q.1)]; exact (g5.2.2.2.2 25 (by omega)).2.1.2
      · dsimp only
        rw [up_z (fun q => xk_ne (by decide) q.1), nw_o (xk_nn (by decide)), up_z (fun q => xk_ne (by decide) q.1), eP10 _ _ (xk_lt (by decide)), up_z (fun q => xk_ne (by decide) q.1), eP9 _ _ (xk_lt (by decide)), up_z (fun q => xk_ne (by decide) q.1), eP8 _ _ (xk_lt (by decide)), up_z (fun q => xk_ne (by decide) q.1), eP7 _ _ (xk_lt (by decide)), up_z (fun q => xk_ne (by decide) q.1), eP6 _ _ (xk_lt (by decide)), up_z (fun q => xk_ne (by decide) q.1)]; exact (g5.2.2.2.2 26 (by omega)).2.1.1
      · dsimp only
        rw [up_z (fun q => xk_ne (by decide) q.1), nw_o (xk_nn (by decide)), up_z (fun q => xk_ne (by decide) q.1), eP10 _ _ (xk_lt (by decide)), up_z (fun q => xk_ne (by decide) q.1), eP9 _ _ (xk_lt (by decide)), up_z (fun q => xk_ne (by decide) q.1), eP8 _ _ (xk_lt (by decide)), up_z (fun q => xk_ne (by decide) q.1), eP7 _ _ (xk_lt (by decide)), up_z (fun q => xk_ne (by decide) q.1), eP6 _ _ (xk_lt (by decide)), up_z (fun q => xk_ne (by decide) q.1)]; exact (g5.2.2.2.2 26 (by omega)).2.1.2
      · dsimp only
        rw [up_z (fun q => xk_ne (by decide) q.1), nw_o (xk_nn (by decide)), up_z (fun q => xk_ne (by decide) q.1), eP10 _ _ (xk_lt (by decide)), up_z (fun q => xk_ne (by decide) q.1), eP9 _ _ (xk_lt (by decide)), up_z (fun q => xk_ne (by decide) q.1), eP8 _ _ (xk_lt (by decide)), up_z (fun q => xk_ne (by decide) q.1), eP7 _ _ (xk_lt (by decide)), up_z (fun q => xk_ne (by decide) q.1), eP6 _ _ (xk_lt (by decide)), up_z (fun q => xk_ne (by decide) q.1)]; exact (g5.2.2.2.2 27 (by omega)).2.1.1
      · dsimp only
        rw [up_z (fun q => xk_ne (by decide) q.1), nw_o (xk_nn (by decide)), up_z (fun q => xk_ne (by decide) q.1), eP10 _ _ (xk_lt (by decide)), up_z (fun q => xk_ne (by decide) q.1), eP9 _ _ (xk_lt (by decide)), up_z (fun q => xk_ne (by decide) q.1), eP8 _ _ (xk_lt (by decide)), up_z (fun q => xk_ne (by decide) q.1), eP7 _ _ (xk_lt (by decide)), up_z (fun q => xk_ne (by decide) q.1), eP6 _ _ (xk_lt (by decide)), up_z (fun q => xk_ne (by decide) q.1)]; exact (g5.2.2.2.2 27 (by omega)).2.1.2
      · dsimp only
        rw [up_z (fun q => xk_ne (by decide) q.1), nw_o (xk_nn (by decide)), up_z (fun q => xk_ne (by decide) q.1), eP10 _ _ (xk_lt (by decide)), up_z (fun q => xk_ne (by decide) q.1), eP9 _ _ (xk_lt (by decide)), up_z (fun q => xk_ne (by decide) q.1), eP8 _ _ (xk_lt (by decide)), up_z (fun q => xk_ne (by decide) q.1), eP7 _ _ (xk_lt (by decide)), up_z (fun q => xk_ne (by decide) q.1), eP6 _ _ (xk_lt (by decide)), up_z (fun q => xk_ne (by decide) q.1)]; exact (g5.2.2.2.2 28 (by omega)).2.1.1
      · dsimp only
        rw [up_z (fun q => xk_ne (by decide) q.1), nw_o (xk_nn (by decide)), up_z (fun q => xk_ne (by decide) q.1), eP10 _ _ (xk_lt (by decide)), up_z (fun q => xk_ne (by decide) q.1), eP9 _ _ (xk_lt (by decide)), up_z (fun q => xk_ne (by decide) q.1), eP8 _ _ (xk_lt (by decide)), up_z (fun q => xk_ne (by decide) q.1), eP7 _ _ (xk_lt (by decide)), up_z (fun q => xk_ne (by decide) q.1), eP6 _ _ (xk_lt (by decide)), up_z (fun q => xk_ne (by decide) q.1)]; exact (g5.2.2.2.2 28 (by omega)).2.1.2
      · dsimp only
        rw [up_z (fun q => xk_ne (by decide) q.1), nw_o (xk_nn (by decide)), up_z (fun q => xk_ne (by decide) q.1), eP10 _ _ (xk_lt (by decide)), up_z (fun q => xk_ne (by decide) q.1), eP9 _ _ (xk_lt (by decide)), up_z (fun q => xk_ne (by decide) q.1), eP8 _ _ (xk_lt (by decide)), up_z (fun q => xk_ne (by decide) q.1), eP7 _ _ (xk_lt (by decide)), up_z (fun q => xk_ne (by decide) q.1), eP6 _ _ (xk_lt (by decide)), up_z (fun q => xk_ne (by decide) q.1)]; exact (g5.2.2.2.2 29 (by omega)).2.1.1
      · dsimp only
        rw [up_z (fun q => xk_ne (by decide) q.1), nw_o (xk_nn (by decide)), up_z (fun q => xk_ne (by decide) q.1), eP10 _ _ (xk_lt (by decide)), up_z (fun q => xk_ne (by decide) q.1), eP9 _ _ (xk_lt (by decide)), up_z (fun q => xk_ne (by decide) q.1), eP8 _ _ (xk_lt (by decide)), up_z (fun q => xk_ne (by decide) q.1), eP7 _ _ (xk_lt (by decide)), up_z (fun q => xk_ne (by decide) q.1), eP6 _ _ (xk_lt (by decide)), up_z (fun q => xk_ne (by decide) q.1)]; exact (g5.2.2.2.2 29 (by omega)).2.1.2
      · dsimp only
        rw [up_z (fun q => xk_ne (by decide) q.1), nw_o (xk_nn (by decide)), up_z (fun q => xk_ne (by decide) q.1), eP10 _ _ (xk_lt (by decide)), up_z (fun q => xk_ne (by decide) q.1), eP9 _ _ (xk_lt (by decide)), up_z (fun q => xk_ne (by decide) q.1), eP8 _ _ (xk_lt (by decide)), up_z (fun q => xk_ne (by decide) q.1), eP7 _ _ (xk_lt (by decide)), up_z (fun q => xk_ne (by decide) q.1)]; exact g6.2.2.1.1
      · dsimp only
        rw [up_z (fun q => xk_ne (by decide) q.1), nw_o (xk_nn (by decide)), up_z (fun q => xk_ne (by decide) q.1), eP10 _ _ (xk_lt (by decide)), up_z (fun q => xk_ne (by decide) q.1), eP9 _ _ (xk_lt (by decide)), up_z (fun q => xk_ne (by decide) q.1), eP8 _ _ (xk_lt (by decide)), up_z (fun q => xk_ne (by decide) q.1), eP7 _ _ (xk_lt (by decide)), up_z (fun q => xk_ne (by decide) q.1)]; exact g6.2.2.1.2
      · dsimp only
        rw [up_z (fun q => xk_ne (by decide) q.1), nw_o (xk_nn (by decide)), up_z (fun q => xk_ne (by decide) q.1), eP10 _ _ (xk_lt (by decide)), up_z (fun q => xk_ne (by decide) q.1), eP9 _ _ (xk_lt (by decide)), up_z (fun q => xk_ne (by decide) q.1), eP8 _ _ (xk_lt (by decide)), up_z (fun q => xk_ne (by decide) q.1)]; exact g7.2.2.1
      · dsimp only
        rw [up_z (fun q => xk_ne (by decide) q.1), nw_o (xk_nn (by decide)), up_z (fun q => xk_ne (by decide) q.1), eP10 _ _ (xk_lt (by decide)), up_z (fun q => xk_ne (by decide) q.1), eP9 _ _ (xk_lt (by decide)), up_z (fun q => xk_ne (by decide) q.1)]; exact g8.2.2.2.1.1
      · dsimp only
        rw [up_z (fun q => xk_ne (by decide) q.1), nw_o (xk_nn (by decide)), up_z (fun q => xk_ne (by decide) q.1), eP10 _ _ (xk_lt (by decide)), up_z (fun q => xk_ne (by decide) q.1), eP9 _ _ (xk_lt (by decide)), up_z (fun q => xk_ne (by decide) q.1)]; exact g8.2.2.2.1.2
      · dsimp only
        rw [up_z (fun q => xk_ne (by decide) q.1), nw_o (xk_nn (by decide)), up_z (fun q => xk_ne (by decide) q.1), eP10 _ _ (xk_lt (by decide)), up_z (fun q => xk_ne (by decide) q.1), eP9 _ _ (xk_lt (by decide)), up_z (fun q => xk_ne (by decide) q.1)]; exact g8.2.2.1 (0, 2, 1) (by decide)
      · dsimp only
        rw [up_z (fun q => xk_ne (by decide) q.1), nw_o (xk_nn (by decide)), up_z (fun q => xk_ne (by decide) q.1), eP10 _ _ (xk_lt (by decide)), up_z (fun q => xk_ne (by decide) q.1), eP9 _ _ (xk_lt (by decide)), up_z (fun q => xk_ne (by decide) q.1)]; exact g8.2.2.1 (0, 3, 4) (by decide)
      · dsimp only
        rw [up_z (fun q => xk_ne (by decide) q.1), nw_o (xk_nn (by decide)), up_z (fun q => xk_ne (by decide) q.1), eP10 _ _ (xk_lt (by decide)), up_z (fun q => xk_ne (by decide) q.1), eP9 _ _ (xk_lt (by decide)), up_z (fun q => xk_ne (by decide) q.1)]; exact g8.2.2.1 (0, 4, 7) (by decide)
      · dsimp only
        rw [up_z (fun q => xk_ne (by decide) q.1), nw_o (xk_nn (by decide)), up_z (fun q => xk_ne (by decide) q.1), eP10 _ _ (xk_lt (by decide)), up_z (fun q => xk_ne (by decide) q.1), eP9 _ _ (xk_lt (by decide)), up_z (fun q => xk_ne (by decide) q.1)]; exact g8.2.2.1 (0, 5, 12) (by decide)
      · dsimp only
        rw [up_z (fun q => xk_ne (by decide) q.1), nw_o (xk_nn (by decide)), up_z (fun q => xk_ne (by decide) q.1), eP10 _ _ (xk_lt (by decide)), up_z (fun q => xk_ne (by decide) q.1), eP9 _ _ (xk_lt (by decide)), up_z (fun q => xk_ne (by decide) q.1)]; exact g8.2.2.1 (0, 6, 17) (by decide)
      · dsimp only
        rw [up_z (fun q => xk_ne (by decide) q.1), nw_o (xk_nn (by decide)), up_z (fun q => xk_ne (by decide) q.1), eP10 _ _ (xk_lt (by decide)), up_z (fun q => xk_ne (by decide) q.1), eP9 _ _ (xk_lt (by decide)), up_z (fun q => xk_ne (by decide) q.1)]; exact g8.2.2.1 (0, 7, 22) (by decide)
      · dsimp only
        rw [up_z (fun q => xk_ne (by decide) q.1), nw_o (xk_nn (by decide)), up_z (fun q => xk_ne (by decide) q.1), eP10 _ _ (xk_lt (by decide)), up_z (fun q => xk_ne (by decide) q.1), eP9 _ _ (xk_lt (by decide)), up_z (fun q => xk_ne (by decide) q.1)]; exact g8.2.2.1 (0, 11, 23) (by decide)
      · dsimp only
        rw [up_z (fun q => xk_ne (by decide) q.1), nw_o (xk_nn (by decide)), up_z (fun q => xk_ne (by decide) q.1), eP10 _ _ (xk_lt (by decide)), up_z (fun q => xk_ne (by decide) q.1), eP9 _ _ (xk_lt (by decide)), up_z (fun q => xk_ne (by decide) q.1)]; exact g8.2.2.1 (0, 12, 24) (by decide)
      · dsimp only
        rw [up_z (fun q => xk_ne (by decide) q.1), nw_o (xk_nn (by decide)), up_z (fun q => xk_ne (by decide) q.1), eP10 _ _ (xk_lt (by decide)), up_z (fun q => xk_ne (by decide) q.1), eP9 _ _ (xk_lt (by decide)), up_z (fun q => xk_ne (by decide) q.1)]; exact g8.2.2.1 (1, 9, 2) (by decide)
      · dsimp only
        rw [up_z (fun q => xk_ne (by decide) q.1), nw_o (xk_nn (by decide)), up_z (fun q => xk_ne (by decide) q.1), eP10 _ _ (xk_lt (by decide)), up_z (fun q => xk_ne (by decide) q.1), eP9 _ _ (xk_lt (by decide)), up_z (fun q => xk_ne (by decide) q.1)]; exact g8.2.2.1 (1, 10, 3) (by decide)
      · dsimp only
        rw [up_z (fun q => xk_ne (by decide) q.1), nw_o (xk_nn (by decide)), up_z (fun q => xk_ne (by decide) q.1), eP10 _ _ (xk_lt (by decide)), up_z (fun q => xk_ne (by decide) q.1), eP9 _ _ (xk_lt (by decide)), up_z (fun q => xk_ne (by decide) q.1)]; exact g8.2.2.1 (4, 9, 5) (by decide)
      · dsimp only
        rw [up_z (fun q => xk_ne (by decide) q.1), nw_o (xk_nn (by decide)), up_z (fun q => xk_ne (by decide) q.1), eP10 _ _ (xk_lt (by decide)), up_z (fun q => xk_ne (by decide) q.1), eP9 _ _ (xk_lt (by decide)), up_z (fun q => xk_ne (by decide) q.1)]; exact g8.2.2.1 (4, 10, 6) (by decide)
      · dsimp only
        rw [up_z (fun q => xk_ne (by decide) q.1), nw_o (xk_nn (by decide)), up_z (fun q => xk_ne (by decide) q.1), eP10 _ _ (xk_lt (by decide)), up_z (fun q => xk_ne (by decide) q.1), eP9 _ _ (xk_lt (by decide)), up_z (fun q => xk_ne (by decide) q.1)]; exact g8.2.2.1 (7, 8, 10) (by decide)
      · dsimp only
        rw [up_z (fun q => xk_ne (by decide) q.1), nw_o (xk_nn (by decide)), up_z (fun q => xk_ne (by decide) q.1), eP10 _ _ (xk_lt (by decide)), up_z (fun q => xk_ne (by decide) q.1), eP9 _ _ (xk_lt (by decide)), up_z (fun q => xk_ne (by decide) q.1)]; exact g8.2.2.1 (7, 9, 11) (by decide)
      · dsimp only
        rw [up_z (fun q => xk_ne (by decide) q.1), nw_o (xk_nn (by decide)), up_z (fun q => xk_ne (by decide) q.1), eP10 _ _ (xk_lt (by decide)), up_z (fun q => xk_ne (by decide) q.1), eP9 _ _ (xk_lt (by decide)), up_z (fun q => xk_ne (by decide) q.1)]; exact g8.2.2.1 (12, 8, 15) (by decide)
      · dsimp only
        rw [up_z (fun q => xk_ne (by decide) q.1), nw_o (xk_nn (by decide)), up_z (fun q => xk_ne (by decide) q.1), eP10 _ _ (xk_lt (by decide)), up_z (fun q => xk_ne (by decide) q.1), eP9 _ _ (xk_lt (by decide)), up_z (fun q => xk_ne (by decide) q.1)]; exact g8.2.2.1 (12, 9, 16) (by decide)
      · dsimp only
        rw [up_z (fun q => xk_ne (by decide) q.1), nw_o (xk_nn (by decide)), up_z (fun q => xk_ne (by decide) q.1), eP10 _ _ (xk_lt (by decide)), up_z (fun q => xk_ne (by decide) q.1), eP9 _ _ (xk_lt (by decide)), up_z (fun q => xk_ne (by decide) q.1)]; exact g8.2.2.1 (17, 8, 20) (by decide)
      · dsimp only
        rw [up_z (fun q => xk_ne (by decide) q.1), nw_o (xk_nn (by decide)), up_z (fun q => xk_ne (by decide) q.1), eP10 _ _ (xk_lt (by decide)), up_z (fun q => xk_ne (by decide) q.1), eP9 _ _ (xk_lt (by decide)), up_z (fun q => xk_ne (by decide) q.1)]; exact g8.2.2.1 (17, 9, 21) (by decide)
      · dsimp only
        rw [up_z (fun q => xk_ne (by decide) q.1), nw_o (xk_nn (by decide)), up_z (fun q => xk_ne (by decide) q.1), eP10 _ _ (xk_lt (by decide)), up_z (fun q => xk_ne (by decide) q.1)]; exact g9.2.2.1.1
      · dsimp only
        rw [up_z (fun q => xk_ne (by decide) q.1), nw_o (xk_nn (by decide)), up_z (fun q => xk_ne (by decide) q.1), eP10 _ _ (xk_lt (by decide)), up_z (fun q => xk_ne (by decide) q.1)]; exact g9.2.2.1.2.1
      · dsimp only
        rw [up_z (fun q => xk_ne (by decide) q.1), nw_o (xk_nn (by decide)), up_z (fun q => xk_ne (by decide) q.1), eP10 _ _ (xk_lt (by decide)), up_z (fun q => xk_ne (by decide) q.1)]; exact g9.2.2.1.2.2.1
      · dsimp only
        rw [up_z (fun q => xk_ne (by decide) q.1), nw_o (xk_nn (by decide)), up_z (fun q => xk_ne (by decide) q.1), eP10 _ _ (xk_lt (by decide)), up_z (fun q => xk_ne (by decide) q.1)]; exact g9.2.2.1.2.2.2
      · dsimp only
        rw [up_z (fun q => xk_ne (by decide) q.1), nw_o (xk_nn (by decide)), up_z (fun q => xk_ne (by decide) q.1)]; exact g10.2.2.1.1
      · dsimp only
        rw [up_z (fun q => xk_ne (by decide) q.1), nw_o (xk_nn (by decide)), up_z (fun q => xk_ne (by decide) q.1)]; exact g10.2.2.1.2.1
      · dsimp only
        rw [up_z (fun q => xk_ne (by decide) q.1), nw_o (xk_nn (by decide)), up_z (fun q => xk_ne (by decide) q.1)]; exact g10.2.2.1.2.2.1
      · dsimp only
        rw [up_z (fun q => xk_ne (by decide) q.1), nw_o (xk_nn (by decide)), up_z (fun q => xk_ne (by decide) q.1)]; exact g10.2.2.1.2.2.2.1
      · dsimp only
        rw [up_z (fun q => xk_ne (by decide) q.1), nw_o (xk_nn (by decide)), up_z (fun q => xk_ne (by decide) q.1)]; exact g10.2.2.1.2.2.2.2.1
      · dsimp only
        rw [up_z (fun q => xk_ne (by decide) q.1), nw_o (xk_nn (by decide)), up_z (fun q => xk_ne (by decide) q.1)]; exact g10.2.2.1.2.2.2.2.2
    · rw [up_z (fun q => xk_ne (by decide) q.1), nw_o (xk_nn (by decide)), up_z (fun q => xk_ne (by decide) q.1), eP10 _ _ (xk_lt (by decide)), up_z (fun q => xk_ne (by decide) q.1), eP9 _ _ (xk_lt (by decide)), up_z (fun q => xk_ne (by decide) q.1), eP8 _ _ (xk_lt (by decide)), up_z (fun q => xk_ne (by decide) q.1), eP7 _ _ (xk_lt (by decide)), up_z (fun q => xk_ne (by decide) q.1), eP6 _ _ (xk_lt (by decide)), up_z (fun q => xk_ne (by decide) q.1)]
      exact (g5.2.2.2.2 i hi).2.2
  have eJJ : ∀ b i, b < X + 164 → J11 b i = J10 b i := fun b i q => by rw [eJ11, nw_o (by omega)]
  have kO : ∀ b i, b < X + 33 → J11 b i = K3 b i := fun b i q => by rw [eJJ _ _ (by omega), eJ10 _ _ (by omega), eJ9 _ _ (by omega), eJ8 _ _ (by omega), eJ7 _ _ (by omega), eJ6 _ _ (by omega), eJ5 _ _ (by omega), eJ4 _ _ (by omega)]
  have mO : ∀ b i, (b < X + 30 ∨ b = X) → K3 b i = J3 b i := fun b i q => by
    rw [e3]; unfold mo_bg
    rw [up_z (by omega), up_z (by omega), up_z (by omega), m_fl_o (by omega), po_put_o (by omega)]
  have vP : ∀ b i, (X + 17 ≤ b ∧ b < X + 30) → J11 b i = J2 b i := fun b i q => by rw [kO _ _ (by omega), mO _ _ (by omega), eJ3 _ _ (by omega)]
  have vR : ∀ b i, b < X + 17 → J11 b i = J1 b i := fun b i q => by rw [kO _ _ (by omega), mO _ _ (by omega), eJ3 _ _ (by omega), eJ2 _ _ (by omega)]
  have hpok : pl_ok J11 (X + 17) := pl_ok_0 (A := X + 17) ⟨by rw [vP _ _ (by omega)]; exact g2.2.2.1.1, by rw [vP _ _ (by omega)]; exact g2.2.2.1.2.1, by rw [vP _ _ (by omega)]; exact g2.2.2.1.2.2.1, by rw [vP _ _ (by omega)]; exact g2.2.2.1.2.2.2.1⟩ (fun i hi => by rw [vP _ _ (by omega), vP _ _ (by omega)]; exact g2.2.2.2.1 i hi) (fun i hi => by rw [vP _ _ (by omega)]; exact g2.2.2.2.2.1 i hi) (fun b i q1 q2 => by rw [vP _ _ (by omega)]; exact g2.2.2.2.2.2 b i q1 q2)
  have b5 : J3 (X + 17) 5 = 0 ∧ J3 (X + 17) 6 = 1 := ⟨by rw [eJ3 _ _ (by omega)]; exact g2.2.2.1.2.2.2.2.2.1, by rw [eJ3 _ _ (by omega)]; exact g2.2.2.1.2.2.2.2.2.2⟩
  have k30 : ∀ i, J11 (X + 30) i = 0 := fun i => by
    rw [kO _ _ (by omega), e3]; unfold mo_bg
    rw [m_up_at, m_up_at, m_up_at, m_fl_o (by omega), po_put_o (by omega), g3.2.2.2.2 i]
    split
    · rfl
    · split
      · rfl
      · split <;> rfl
  have k31 : po_get J11 (X + 31) = (0, 0, 0, 0, 1) := by
    have e : ∀ i, J11 (X + 31) i = po_put J3 (X + 31) (J3 (X + 17) 5, 0, 0, 0, J3 (X + 17) 6) (X + 31) i := fun i => by
      rw [kO _ _ (by omega), e3]; unfold mo_bg
      rw [up_z (by omega), up_z (by omega), up_z (by omega), m_fl_o (by omega)]
    unfold po_get
    rw [e 0, e 1, e 2, e 3, e 4, po_put_0, po_put_1, po_put_2, po_put_3, po_put_4, b5.1, b5.2]
  have k32 : ∀ i : Nat, i < 16 → J11 (X + 32) i = 0 := fun i hi => by
    rw [kO _ _ (by omega), e3]; unfold mo_bg
    rw [up_z (by omega), up_z (by omega), up_z (by omega), show X + 30 + 2 = X + 32 from rfl, m_fl_i (by omega)]
    show J3 (X + 17 + 2) (i - 0) = 0
    rw [eJ3 _ _ (by omega)]
    exact (g2.2.2.2.1 (i - 0) (by omega)).2
  have hmv : cl_mo J11 X := ⟨fun i hi => by rw [k32 i hi]; omega, Or.inl (k30 2), by rw [k30 3]; omega, by rw [k30 4]; omega, by rw [k31]; exact bx_01⟩
  refine r_aln eSc_init_164 rfl ?_
  rw [← eT11, ← eP11, ← eJ11]
  refine m_getR (r := X + 132) eSc_init_165 rfl (cl_t hsh (i := 0) rfl) (cl_p hsh (i := 7) rfl) ?_
  refine r_vir eSc_init_168 rfl rfl rfl (hsh.2.1 (132, 10, 0) (by decide)) rfl rfl ?_
  refine c_Wa_changed hsh hpok hmv (fun J12 u1 u2 u3 u4 u5 u6 => ?_)
  show m_wp en _ mSc_init 171 [some (.ref X)] [] (T11, m_I J12, P11, _, X + 165, _) Q
  refine r_ret eSc_init_171 rfl ?_
  refine hq _ _ _ _ ⟨fun b q => ⟨?_, fun i => ?_⟩, hsh, ⟨?_, ?_, ?_⟩, ⟨?_, ?_, ?_, ?_⟩, ⟨?_, ?_, ?_⟩, ?_, ?_, ?_, ?_⟩
  · rw [eT11, nT_o (by omega), eT10 _ (by omega), eT9 _ (by omega), eT8 _ (by omega), eT7 _ (by omega), eT6 _ (by omega), eT5 _ (by omega), eT4 _ (by omega), eT3 _ (by omega), eT2 _ (by omega), eT1 _ (by omega)]
  · rw [u1 _ _ (by omega), vR _ _ (by omega), eJ1 _ _ (by omega)]
  · rw [eT11, eP11]
    exact ⟨by rw [up_z (by omega), nw_o (by omega), up_z (by omega), eP10 _ _ (by omega), up_z (by omega), eP9 _ _ (by omega), up_z (by omega)]; exact g8.2.2.1 (7, 0, 8) (by decide), by rw [up_z (by omega), nw_o (by omega), up_z (by omega), eP10 _ _ (by omega), up_z (by omega), eP9 _ _ (by omega), up_z (by omega)]; exact g8.2.2.1 (7, 1, 9) (by decide), by rw [up_z (by omega), nw_o (by omega), up_z (by omega), eP10 _ _ (by omega), up_z (by omega), eP9 _ _ (by omega), up_z (by omega)]; exact g8.2.2.1 (7, 4, 1) (by decide), by rw [nT_o (by omega), eT10 _ (by omega), eT9 _ (by omega)]; exact g8.2.1 (8, 20, 0) (by decide), by rw [nT_o (by omega), eT10 _ (by omega), eT9 _ (by omega)]; exact g8.2.1 (9, 20, 0) (by decide)⟩
  · rw [eT11, eP11]
    exact ⟨by rw [up_z (by omega), nw_o (by omega), up_z (by omega), eP10 _ _ (by omega), up_z (by omega), eP9 _ _ (by omega), up_z (by omega)]; exact g8.2.2.1 (12, 0, 13) (by decide), by rw [up_z (by omega), nw_o (by omega), up_z (by omega), eP10 _ _ (by omega), up_z (by omega), eP9 _ _ (by omega), up_z (by omega)]; exact g8.2.2.1 (12, 1, 14) (by decide), by rw [up_z (by omega), nw_o (by omega), up_z (by omega), eP10 _ _ (by omega), up_z (by omega), eP9 _ _ (by omega), up_z (by omega)]; exact g8.2.2.1 (12, 4, 1) (by decide), by rw [nT_o (by omega), eT10 _ (by omega), eT9 _ (by omega)]; exact g8.2.1 (13, 20, 0) (by decide), by rw [nT_o (by omega), eT10 _ (by omega), eT9 _ (by omega)]; exact g8.2.1 (14, 20, 0) (by decide)⟩
  · rw [eT11, eP11]
    exact ⟨by rw [up_z (by omega), nw_o (by omega), up_z (by omega), eP10 _ _ (by omega), up_z (by omega), eP9 _ _ (by omega), up_z (by omega)]; exact g8.2.2.1 (17, 0, 18) (by decide), by rw [up_z (by omega), nw_o (by omega), up_z (by omega), eP10 _ _ (by omega), up_z (by omega), eP9 _ _ (by omega), up_z (by omega)]; exact g8.2.2.1 (17, 1, 19) (by decide), by rw [up_z (by omega), nw_o (by omega), up_z (by omega), eP10 _ _ (by omega), up_z (by omega), eP9 _ _ (by omega), up_z (by omega)]; exact g8.2.2.1 (17, 4, 1) (by decide), by rw [nT_o (by omega), eT10 _ (by omega), eT9 _ (by omega)]; exact g8.2.1 (18, 20, 0) (by decide), by rw [nT_o (by omega), eT10 _ (by omega), eT9 _ (by omega)]; exact g8.2.1 (19, 20, 0) (by decide)⟩
  · exact ⟨fun i q => by rw [u1 _ _ (by omega), vR _ _ (by omega)]; exact g1.2.2.2.2.1.1 i q, by rw [u1 _ _ (by omega), vR _ _ (by omega)]; exact g1.2.2.2.2.1.2.1, fun i => by rw [u1 _ _ (by omega), vR _ _ (by omega)]; exact g1.2.2.2.2.1.2.2.1 i, fun i hi => by rw [u1 _ _ (by omega), vR _ _ (by omega)]; exact g1.2.2.2.2.1.2.2.2 i hi⟩
  · rw [u1 _ _ (by omega), u1 _ _ (by omega), u1 _ _ (by omega), u1 _ _ (by omega), u1 _ _ (by omega), u1 _ _ (by omega), u1 _ _ (by omega), vR _ _ (by omega), vR _ _ (by omega), vR _ _ (by omega), vR _ _ (by omega), vR _ _ (by omega), vR _ _ (by omega), vR _ _ (by omega)]; exact g1.2.2.2.2.2.1
  · exact ⟨fun i hi => by rw [u1 _ _ (by omega), u1 _ _ (by omega), vR _ _ (by omega), vR _ _ (by omega)]; exact g1.2.2.2.2.2.2.1 i hi, fun i hi => by rw [u1 _ _ (by omega), vR _ _ (by omega)]; exact g1.2.2.2.2.2.2.2.1 i hi⟩
  · exact fun b i q1 q2 => by rw [u1 _ _ (by omega), vR _ _ (by omega)]; exact g1.2.2.2.2.2.2.2.2 b i (by omega) (by omega)
  · rw [u1 _ _ (by omega), u1 _ _ (by omega), u1 _ _ (by omega), u1 _ _ (by omega), u1 _ _ (by omega), u1 _ _ (by omega), u1 _ _ (by omega), vP _ _ (by omega), vP _ _ (by omega), vP _ _ (by omega), vP _ _ (by omega), vP _ _ (by omega), vP _ _ (by omega), vP _ _ (by omega)]; exact g2.2.2.1
  · exact ⟨fun i hi => by rw [u1 _ _ (by omega), u1 _ _ (by omega), vP _ _ (by omega), vP _ _ (by omega)]; exact g2.2.2.2.1 i hi, fun i hi => by rw [u1 _ _ (by omega), vP _ _ (by omega)]; exact g2.2.2.2.2.1 i hi⟩
  · exact fun b i q1 q2 => by rw [u1 _ _ (by omega), vP _ _ (by omega)]; exact g2.2.2.2.2.2 b i (by omega) (by omega)
  · exact ⟨fun i => by rw [u1 _ _ (by omega)]; exact k30 i, by rw [po_get_e (J := J11) (fun i => u1 _ _ (by omega))]; exact k31, fun i hi => by rw [u1 _ _ (by omega)]; exact k32 i hi⟩
  · exact ⟨fun i => by rw [u1 _ _ (by omega), eJJ _ _ (by omega), eJ10 _ _ (by omega), eJ9 _ _ (by omega), eJ8 _ _ (by omega), eJ7 _ _ (by omega), eJ6 _ _ (by omega), eJ5 _ _ (by omega)]; exact g4.2.2.2.2 i, fun i => by rw [u1 _ _ (by omega), eJJ _ _ (by omega), eJ10 _ _ (by omega), eJ9 _ _ (by omega), eJ8 _ _ (by omega), eJ7 _ _ (by omega), eJ6 _ _ (by omega), eJ5 _ _ (by omega)]; exact g4.2.2.2.1 _ i (by omega) (by omega), fun i => by rw [u1 _ _ (by omega), eJJ _ _ (by omega), eJ10 _ _ (by omega), eJ9 _ _ (by omega), eJ8 _ _ (by omega), eJ7 _ _ (by omega), eJ6 _ _ (by omega)]; exact g5.2.2.2.1 _ i (by omega) (by omega), fun i => by rw [u1 _ _ (by omega), eJJ _ _ (by omega), eJ10 _ _ (by omega), eJ9 _ _ (by omega), eJ8 _ _ (by omega)]; exact g7.2.2.2.2 i, fun i => by rw [u1 _ _ (by omega), eJJ _ _ (by omega), eJ10 _ _ (by omega), eJ9 _ _ (by omega), eJ8 _ _ (by omega)]; exact g7.2.2.2.1 _ i (by omega) (by omega), fun i => by rw [u1 _ _ (by omega), vR _ _ (by omega), eJ1 _ _ (by omega)]; exact hz i⟩
  · exact ⟨by rw [u1 _ _ (by omega), eJJ _ _ (by omega), eJ10 _ _ (by omega)]; exact g9.2.2.2.2.2, by rw [u1 _ _ (by omega), eJJ _ _ (by omega)]; exact g10.2.2.2.2.2⟩
  · exact ⟨u3, u4, u5, by rw [u6, eJJ _ _ (by omega), eJ10 _ _ (by omega), eJ9 _ _ (by omega), g8.2.2.2.2 _ _ (by omega) (by omega)]; rfl, by rw [cl_cf_e (J := J11) (fun b i q => u1 b i (by omega))]; exact u2⟩
end CNX
