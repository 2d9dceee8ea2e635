/-! the class is made: the ways -/
def wa_tb : List (Nat × Nat × Nat) := [(0, 10, 0), (1, 9, 0), (2, 20, 16), (3, 22, 864), (4, 9, 0), (5, 20, 16), (6, 22, 864), (7, 8, 0), (8, 20, 0), (9, 20, 0), (10, 5, 0), (11, 5, 0), (12, 8, 0), (13, 20, 0), (14, 20, 0), (15, 5, 0), (16, 5, 0), (17, 8, 0), (18, 20, 0), (19, 20, 0), (20, 5, 0), (21, 5, 0), (22, 20, 36), (23, 5, 0), (24, 5, 0)]
def wa_fd : List (Nat × Nat × Nat) := [(0, 2, 1), (0, 3, 4), (0, 4, 7), (0, 5, 12), (0, 6, 17), (0, 7, 22), (0, 11, 23), (0, 12, 24), (1, 9, 2), (1, 10, 3), (4, 9, 5), (4, 10, 6), (7, 0, 8), (7, 1, 9), (7, 4, 1), (7, 8, 10), (7, 9, 11), (12, 0, 13), (12, 1, 14), (12, 4, 1), (12, 8, 15), (12, 9, 16), (17, 0, 18), (17, 1, 19), (17, 4, 1), (17, 8, 20), (17, 9, 21)]
def wa_N (A S U : Nat) (T : Nat → Option (Nat × Nat)) (J : Nat → Nat → Int) (P : Nat → Nat → Option Nat) (T' : Nat → Option (Nat × Nat)) (J' : Nat → Nat → Int) (P' : Nat → Nat → Option Nat) : Prop := nn_F A T J P T' J' P' ∧ (∀ q ∈ wa_tb, T' (A + q.1) = some (q.2.1, q.2.2)) ∧ (∀ q ∈ wa_fd, P' (A + q.1) q.2.1 = some (A + q.2.2)) ∧ (P' A 0 = some S ∧ P' A 1 = some U) ∧ ∀ b i, A ≤ b → b < A + 25 → J' b i = 0
section CNV
variable {en : Nat → Nat} {d : Nat} {T : Nat → Option (Nat × Nat)} {J : Nat → Nat → Int} {P : Nat → Nat → Option Nat} {L : Nat → Nat → Int64} {z w A S U V : Nat} {Q : m_Q}
theorem c_Wa_init (hT : T A = some (10, 0)) (hA : en 0 ≤ A) (hz : ∀ i, J A i = 0) (hq : ∀ T' J' P' L', wa_N A S U T J P T' J' P' → Q none (T', m_I J', P', L', A + 25, w + m_W 9 + 16 + 864 + m_W 9 + 16 + 864 + m_W 8 + 0 + 0 + m_W 5 + m_W 5 + m_W 8 + 0 + 0 + m_W 5 + m_W 5 + m_W 8 + 0 + 0 + m_W 5 + m_W 5 + 36 + m_W 5 + m_W 5)) : m_call en (d + 3) mWa_init [.ref A, .ref S, .ref U] (T, m_I J, P, L, A + 1, w) Q := by
  refine m_into (by decide) (Nat.le_of_ble_eq_true rfl) rfl ?_
  refine r_aln eWa_init_0 rfl ?_
  refine r_obj eWa_init_1 rfl (by decide) ?_
  refine r_aln eWa_init_4 rfl ?_
  refine r_aln eWa_init_5 rfl ?_
  refine m_putR eWa_init_6 rfl hT hA (Or.inr ⟨rfl, rfl⟩) ?_
  refine r_aln eWa_init_9 rfl ?_
  refine r_aln eWa_init_10 rfl ?_
  refine m_putR eWa_init_11 rfl hT hA (Or.inr ⟨rfl, rfl⟩) ?_
  refine r_aln eWa_init_14 rfl ?_
  refine r_nwo (c := 9) eWa_init_15 rfl ?_
  have hB1 : m_nT T (A + 1) (9, 0) A = some (10, 0) := by rw [nT_o (by omega)]; exact hT
  refine r_dupr eWa_init_18 ?_
  refine r_spe eWa_init_19 rfl rfl rfl (by decide) rfl ?_
  refine c_Sp_init (A := A + 1) nT_e (by omega) (fun i => nw_e) (fun T1 J1 P1 L1 g1 => ?_)
  show m_wp en _ mWa_init 22 [some (.ref A), some (.ref S), some (.ref U)] [(.ref (A + 1)), (.ref A)] (T1, m_I J1, P1, L1, A + 4, _) Q
  have eT1 : ∀ b, b < A + 1 → T1 b = T b := fun b q => (g1.1.1 b q).1.trans (nT_o (by omega))
  have eJ1 : ∀ b k, b < A + 1 → J1 b k = J b k := fun b k q => ((g1.1.1 b q).2.1 k).trans (nw_o (by omega))
  have eP1 := fun b k (q : b < A + 1) => ((g1.1.1 b q).2.2 k).trans (nw_o (by omega))
  have eo1 : T1 (A + 1) = some (9, 0) := g1.1.2.trans nT_e
  have hA1 : T1 A = some (10, 0) := (eT1 A (by omega)).trans hT
  have hz1 : ∀ b k, A ≤ b → b < A + 4 → J1 b k = 0 := fun b k q1 q2 => by
    by_cases c : b < A + 1
    · rw [eJ1 b k c]; rw [show b = A by omega]; exact hz k
    · by_cases c2 : b = A + 1
      · rw [c2]; exact g1.2.2.2.2 k
      · exact g1.2.2.2.1 b k (by omega) (by omega)
  refine m_putR eWa_init_22 rfl hA1 hA (Or.inr ⟨rfl, rfl⟩) ?_
  refine r_aln eWa_init_25 rfl ?_
  refine r_nwo (c := 9) eWa_init_26 rfl ?_
  have hB2 : m_nT T1 (A + 4) (9, 0) A = some (10, 0) := by rw [nT_o (by omega)]; exact hA1
  refine r_dupr eWa_init_29 ?_
  refine r_spe eWa_init_30 rfl rfl rfl (by decide) rfl ?_
  refine c_Sp_init (A := A + 4) nT_e (by omega) (fun i => nw_e) (fun T2 J2 P2 L2 g2 => ?_)
  show m_wp en _ mWa_init 33 [some (.ref A), some (.ref S), some (.ref U)] [(.ref (A + 4)), (.ref A)] (T2, m_I J2, P2, L2, A + 7, _) Q
  have eT2 : ∀ b, b < A + 4 → T2 b = T1 b := fun b q => (g2.1.1 b q).1.trans (nT_o (by omega))
  have eJ2 : ∀ b k, b < A + 4 → J2 b k = J1 b k := fun b k q => ((g2.1.1 b q).2.1 k).trans (nw_o (by omega))
  have eP2 := fun b k (q : b < A + 4) => ((g2.1.1 b q).2.2 k).trans (nw_o (by omega))
  have eo2 : T2 (A + 4) = some (9, 0) := g2.1.2.trans nT_e
  have hA2 : T2 A = some (10, 0) := (eT2 A (by omega)).trans hA1
  have hz2 : ∀ b k, A ≤ b → b < A + 7 → J2 b k = 0 := fun b k q1 q2 => by
    by_cases c : b < A + 4
    · rw [eJ2 b k c]; exact hz1 b k q1 c
    · by_cases c2 : b = A + 4
      · rw [c2]; exact g2.2.2.2.2 k
      · exact g2.2.2.2.1 b k (by omega) (by omega)
  refine m_putR eWa_init_33 rfl hA2 hA (Or.inr ⟨rfl, rfl⟩) ?_
  refine r_aln eWa_init_36 rfl ?_
  refine r_nwo (c := 8) eWa_init_37 rfl ?_
  have hB3 : m_nT T2 (A + 7) (8, 0) A = some (10, 0) := by rw [nT_o (by omega)]; exact hA2
  refine r_dupr eWa_init_40 ?_
  refine r_aln eWa_init_41 rfl ?_
  refine m_getR (r := A + 1) eWa_init_42 rfl hB3 (by rw [nw_o (by omega), up_z (by omega), eP2 _ _ (by omega), up_e]) ?_
  refine r_spe eWa_init_45 rfl rfl rfl (by decide) rfl ?_
  refine c_Se_init (A := A + 7) (S := A + 1) nT_e (by omega) (fun i => nw_e) (fun T3 J3 P3 L3 g3 => ?_)
  show m_wp en _ mWa_init 48 [some (.ref A), some (.ref S), some (.ref U)] [(.ref (A + 7)), (.ref A)] (T3, m_I J3, P3, L3, A + 12, _) Q
  have eT3 : ∀ b, b < A + 7 → T3 b = T2 b := fun b q => (g3.1.1 b q).1.trans (nT_o (by omega))
  have eJ3 : ∀ b k, b < A + 7 → J3 b k = J2 b k := fun b k q => ((g3.1.1 b q).2.1 k).trans (nw_o (by omega))
  have eP3 := fun b k (q : b < A + 7) => ((g3.1.1 b q).2.2 k).trans (nw_o (by omega))
  have eo3 : T3 (A + 7) = some (8, 0) := g3.1.2.trans nT_e
  have hA3 : T3 A = some (10, 0) := (eT3 A (by omega)).trans hA2
  have hz3 : ∀ b k, A ≤ b → b < A + 12 → J3 b k = 0 := fun b k q1 q2 => by
    by_cases c : b < A + 7
    · rw [eJ3 b k c]; exact hz2 b k q1 c
    · by_cases c2 : b = A + 7
      · rw [c2]; exact g3.2.2.2.2 k
      · exact g3.2.2.2.1 b k (by omega) (by omega)
  refine m_putR eWa_init_48 rfl hA3 hA (Or.inr ⟨rfl, rfl⟩) ?_
  refine r_aln eWa_init_51 rfl ?_
  refine r_nwo (c := 8) eWa_init_52 rfl ?_
  have hB4 : m_nT T3 (A + 12) (8, 0) A = some (10, 0) := by rw [nT_o (by omega)]; exact hA3
  refine r_dupr eWa_init_55 ?_
  refine r_aln eWa_init_56 rfl ?_
  refine m_getR (r := A + 1) eWa_init_57 rfl hB4 (by rw [nw_o (by omega), up_z (by omega), eP3 _ _ (by omega), up_z (by omega), eP2 _ _ (by omega), up_e]) ?_
  refine r_spe eWa_init_60 rfl rfl rfl (by decide) rfl ?_
  refine c_Se_init (A := A + 12) (S := A + 1) nT_e (by omega) (fun i => nw_e) (fun T4 J4 P4 L4 g4 => ?_)
  show m_wp en _ mWa_init 63 [some (.ref A), some (.ref S), some (.ref U)] [(.ref (A + 12)), (.ref A)] (T4, m_I J4, P4, L4, A + 17, _) Q
  have eT4 : ∀ b, b < A + 12 → T4 b = T3 b := fun b q => (g4.1.1 b q).1.trans (nT_o (by omega))
  have eJ4 : ∀ b k, b < A + 12 → J4 b k = J3 b k := fun b k q => ((g4.1.1 b q).2.1 k).trans (nw_o (by omega))
  have eP4 := fun b k (q : b < A + 12) => ((g4.1.1 b q).2.2 k).trans (nw_o (by omega))
  have eo4 : T4 (A + 12) = some (8, 0) := g4.1.2.trans nT_e
  have hA4 : T4 A = some (10, 0) := (eT4 A (by omega)).trans hA3
  have hz4 : ∀ b k, A ≤ b → b < A + 17 → J4 b k = 0 := fun b k q1 q2 => by
    by_cases c : b < A + 12
    · rw [eJ4 b k c]; exact hz3 b k q1 c
    · by_cases c2 : b = A + 12
      · rw [c2]; exact g4.2.2.2.2 k
      · exact g4.2.2.2.1 b k (by omega) (by omega)
  refine m_putR eWa_init_63 rfl hA4 hA (Or.inr ⟨rfl, rfl⟩) ?_
  refine r_aln eWa_init_66 rfl ?_
  refine r_nwo (c := 8) eWa_init_67 rfl ?_
  have hB5 : m_nT T4 (A + 17) (8, 0) A = some (10, 0) := by rw [nT_o (by omega)]; exact hA4
  refine r_dupr eWa_init_70 ?_
  refine r_aln eWa_init_71 rfl ?_
  refine m_getR (r := A + 1) eWa_init_72 rfl hB5 (by rw [nw_o (by omega), up_z (by omega), eP4 _ _ (by omega), up_z (by omega), eP3 _ _ (by omega), up_z (by omega), eP2 _ _ (by omega), up_e]) ?_
  refine r_spe eWa_init_75 rfl rfl rfl (by decide) rfl ?_
  refine c_Se_init (A := A + 17) (S := A + 1) nT_e (by omega) (fun i => nw_e) (fun T5 J5 P5 L5 g5 => ?_)
  show m_wp en _ mWa_init 78 [some (.ref A), some (.ref S), some (.ref U)] [(.ref (A + 17)), (.ref A)] (T5, m_I J5, P5, L5, A + 22, _) Q
  have eT5 : ∀ b, b < A + 17 → T5 b = T4 b := fun b q => (g5.1.1 b q).1.trans (nT_o (by omega))
  have eJ5 : ∀ b k, b < A + 17 → J5 b k = J4 b k := fun b k q => ((g5.1.1 b q).2.1 k).trans (nw_o (by omega))
  have eP5 := fun b k (q : b < A + 17) => ((g5.1.1 b q).2.2 k).trans (nw_o (by omega))
  have eo5 : T5 (A + 17) = some (8, 0) := g5.1.2.trans nT_e
  have hA5 : T5 A = some (10, 0) := (eT5 A (by omega)).trans hA4
  have hz5 : ∀ b k, A ≤ b → b < A + 22 → J5 b k = 0 := fun b k q1 q2 => by
    by_cases c : b < A + 17
    · rw [eJ5 b k c]; exact hz4 b k q1 c
    · by_cases c2 : b = A + 17
      · rw [c2]; exact g5.2.2.2.2 k
      · exact g5.2.2.2.1 b k (by omega) (by omega)
  refine m_putR eWa_init_78 rfl hA5 hA (Or.inr ⟨rfl, rfl⟩) ?_
  refine r_aln eWa_init_81 rfl ?_
  refine r_bip eWa_init_82 (by decide) ?_
  refine r_nwa (n := 36) (k := 20) eWa_init_84 rfl (by decide) ?_
  have hA6 : m_nT T5 (A + 22) (20, 36) A = some (10, 0) := by rw [nT_o (by omega)]; exact hA5
  refine m_putR eWa_init_86 rfl hA6 hA (Or.inr ⟨rfl, rfl⟩) ?_
  refine r_aln eWa_init_89 rfl ?_
  refine r_nwo (c := 5) eWa_init_90 rfl ?_
  refine r_dupr eWa_init_93 ?_
  refine r_spe eWa_init_94 rfl rfl rfl (by decide) rfl ?_
  refine c_Po_init ?_
  have hA7 : m_nT (m_nT T5 (A + 22) (20, 36)) (A + 23) (5, 0) A = some (10, 0) := by rw [nT_o (by omega)]; exact hA6
  refine m_putR eWa_init_97 rfl hA7 hA (Or.inr ⟨rfl, rfl⟩) ?_
  refine r_aln eWa_init_100 rfl ?_
  refine r_nwo (c := 5) eWa_init_101 rfl ?_
  refine r_dupr eWa_init_104 ?_
  refine r_spe eWa_init_105 rfl rfl rfl (by decide) rfl ?_
  refine c_Po_init ?_
  have hA8 : m_nT (m_nT (m_nT T5 (A + 22) (20, 36)) (A + 23) (5, 0)) (A + 24) (5, 0) A = some (10, 0) := by rw [nT_o (by omega)]; exact hA7
  refine m_putR eWa_init_108 rfl hA8 hA (Or.inr ⟨rfl, rfl⟩) ?_
  refine r_ret eWa_init_111 rfl ?_
  refine hq _ _ _ _ ⟨⟨fun b q => ⟨?_, fun i => ?_, fun i => ?_⟩, ?_⟩, fun q hq2 => ?_, fun q hq2 => ?_, ⟨?_, ?_⟩, fun b i q1 q2 => ?_⟩
  · rw [nT_o (by omega), nT_o (by omega), nT_o (by omega), eT5 _ (by omega), eT4 _ (by omega), eT3 _ (by omega), eT2 _ (by omega), eT1 _ (by omega)]
  · rw [nw_o (by omega), nw_o (by omega), nw_o (by omega), eJ5 _ _ (by omega), eJ4 _ _ (by omega), eJ3 _ _ (by omega), eJ2 _ _ (by omega), eJ1 _ _ (by omega)]
  · rw [up_z (by omega), nw_o (by omega), up_z (by omega), nw_o (by omega), up_z (by omega), nw_o (by omega), up_z (by omega), eP5 _ _ (by omega), up_z (by omega), eP4 _ _ (by omega), up_z (by omega), eP3 _ _ (by omega), up_z (by omega), eP2 _ _ (by omega), up_z (by omega), eP1 _ _ (by omega), up_z (by omega), up_z (by omega)]
  · rw [hA8, hT]
  · simp only [wa_tb, List.mem_cons, List.not_mem_nil, or_false] at hq2
    rcases hq2 with rfl | rfl | rfl | rfl | rfl | rfl | rfl | rfl | rfl | rfl | rfl | rfl | rfl | rfl | rfl | rfl | rfl | rfl | rfl | rfl | rfl | rfl | rfl | rfl | rfl
    · dsimp only
      exact hA8
    · dsimp only
      rw [nT_o (by omega), nT_o (by omega), nT_o (by omega), eT5 _ (by omega), eT4 _ (by omega), eT3 _ (by omega), eT2 _ (by omega)]; exact eo1
    · dsimp only
      rw [nT_o (by omega), nT_o (by omega), nT_o (by omega), eT5 _ (by omega), eT4 _ (by omega), eT3 _ (by omega), eT2 _ (by omega)]; exact g1.2.1.1
    · dsimp only
      rw [nT_o (by omega), nT_o (by omega), nT_o (by omega), eT5 _ (by omega), eT4 _ (by omega), eT3 _ (by omega), eT2 _ (by omega)]; exact g1.2.1.2
    · dsimp only
      rw [nT_o (by omega), nT_o (by omega), nT_o (by omega), eT5 _ (by omega), eT4 _ (by omega), eT3 _ (by omega)]; exact eo2
    · dsimp only
      rw [nT_o (by omega), nT_o (by omega), nT_o (by omega), eT5 _ (by omega), eT4 _ (by omega), eT3 _ (by omega)]; exact g2.2.1.1
    · dsimp only
      rw [nT_o (by omega), nT_o (by omega), nT_o (by omega), eT5 _ (by omega), eT4 _ (by omega), eT3 _ (by omega)]; exact g2.2.1.2
    · dsimp only
      rw [nT_o (by omega), nT_o (by omega), nT_o (by omega), eT5 _ (by omega), eT4 _ (by omega)]; exact eo3
    · dsimp only
      rw [nT_o (by omega), nT_o (by omega), nT_o (by omega), eT5 _ (by omega), eT4 _ (by omega)]; exact g3.2.1.1
    · dsimp only
      rw [nT_o (by omega), nT_o (by omega), nT_o (by omega), eT5 _ (by omega), eT4 _ (by omega)]; exact g3.2.1.2.1
    · dsimp only
      rw [nT_o (by omega), nT_o (by omega), nT_o (by omega), eT5 _ (by omega), eT4 _ (by omega)]; exact g3.2.1.2.2.1
    · dsimp only
      rw [nT_o (by omega), nT_o (by omega), nT_o (by omega), eT5 _ (by omega), eT4 _ (by omega)]; exact g3.2.1.2.2.2
    · dsimp only
      rw [nT_o (by omega), nT_o (by omega), nT_o (by omega), eT5 _ (by omega)]; exact eo4
    · dsimp only
      rw [nT_o (by omega), nT_o (by omega), nT_o (by omega), eT5 _ (by omega)]; exact g4.2.1.1
    · dsimp only
      rw [nT_o (by omega), nT_o (by omega), nT_o (by omega), eT5 _ (by omega)]; exact g4.2.1.2.1
    · dsimp only
      rw [nT_o (by omega), nT_o (by omega), nT_o (by omega), eT5 _ (by omega)]; exact g4.2.1.2.2.1
    · dsimp only
      rw [nT_o (by omega), nT_o (by omega), nT_o (by omega), eT5 _ (by omega)]; exact g4.2.1.2.2.2
    · dsimp only
      rw [nT_o (by omega), nT_o (by omega), nT_o (by omega)]; exact eo5
    · dsimp only
      rw [nT_o (by omega), nT_o (by omega), nT_o (by omega)]; exact g5.2.1.1
    · dsimp only
      rw [nT_o (by omega), nT_o (by omega), nT_o (by omega)]; exact g5.2.1.2.1
    · dsimp only
      rw [nT_o (by omega), nT_o (by omega), nT_o (by omega)]; exact g5.2.1.2.2.1
    · dsimp only
      rw [nT_o (by omega), nT_o (by omega), nT_o (by omega)]; exact g5.2.1.2.2.2
    · dsimp only
      rw [nT_o (by omega), nT_o (by omega), nT_e]
    · dsimp only
      rw [nT_o (by omega), nT_e]
    · dsimp only
      rw [nT_e]
  · simp only [wa_fd, List.mem_cons, List.not_mem_nil, or_false] at hq2
    rcases hq2 with rfl | rfl | rfl | rfl | rfl | rfl | rfl | rfl | rfl | rfl | rfl | rfl | rfl | rfl | rfl | rfl | rfl | rfl | rfl | rfl | rfl | rfl | rfl | rfl | rfl | rfl | rfl
    · dsimp only
      rw [Nat.add_zero A, up_z (by omega), nw_o (by omega), up_z (by omega), nw_o (by omega), up_z (by omega), nw_o (by omega), up_z (by omega), eP5 _ _ (by omega), up_z (by omega), eP4 _ _ (by omega), up_z (by omega), eP3 _ _ (by omega), up_z (by omega), eP2 _ _ (by omega), up_e]
    · dsimp only
      rw [Nat.add_zero A, up_z (by omega), nw_o (by omega), up_z (by omega), nw_o (by omega), up_z (by omega), nw_o (by omega), up_z (by omega), eP5 _ _ (by omega), up_z (by omega), eP4 _ _ (by omega), up_z (by omega), eP3 _ _ (by omega), up_e]
    · dsimp only
      rw [Nat.add_zero A, up_z (by omega), nw_o (by omega), up_z (by omega), nw_o (by omega), up_z (by omega), nw_o (by omega), up_z (by omega), eP5 _ _ (by omega), up_z (by omega), eP4 _ _ (by omega), up_e]
    · dsimp only
      rw [Nat.add_zero A, up_z (by omega), nw_o (by omega), up_z (by omega), nw_o (by omega), up_z (by omega), nw_o (by omega), up_z (by omega), eP5 _ _ (by omega), up_e]
    · dsimp only
      rw [Nat.add_zero A, up_z (by omega), nw_o (by omega), up_z (by omega), nw_o (by omega), up_z (by omega), nw_o (by omega), up_e]
    · dsimp only
      rw [Nat.add_zero A, up_z (by omega), nw_o (by omega), up_z (by omega), nw_o (by omega), up_e]
    · dsimp only
      rw [Nat.add_zero A, up_z (by omega), nw_o (by omega), up_e]
    · dsimp only
      rw [Nat.add_zero A, up_e]
    · dsimp only
      rw [up_z (by omega), nw_o (by omega), up_z (by omega), nw_o (by omega), up_z (by omega), nw_o (by omega), up_z (by omega), eP5 _ _ (by omega), up_z (by omega), eP4 _ _ (by omega), up_z (by omega), eP3 _ _ (by omega), up_z (by omega), eP2 _ _ (by omega), up_z (by omega)]; exact g1.2.2.1.1
    · dsimp only
      rw [up_z (by omega), nw_o (by omega), up_z (by omega), nw_o (by omega), up_z (by omega), nw_o (by omega), up_z (by omega), eP5 _ _ (by omega), up_z (by omega), eP4 _ _ (by omega), up_z (by omega), eP3 _ _ (by omega), up_z (by omega), eP2 _ _ (by omega), up_z (by omega)]; exact g1.2.2.1.2
    · dsimp only
      rw [up_z (by omega), nw_o (by omega), up_z (by omega), nw_o (by omega), up_z (by omega), nw_o (by omega), up_z (by omega), eP5 _ _ (by omega), up_z (by omega), eP4 _ _ (by omega), up_z (by omega), eP3 _ _ (by omega), up_z (by omega)]; exact g2.2.2.1.1
    · dsimp only
      rw [up_z (by omega), nw_o (by omega), up_z (by omega), nw_o (by omega), up_z (by omega), nw_o (by omega), up_z (by omega), eP5 _ _ (by omega), up_z (by omega), eP4 _ _ (by omega), up_z (by omega), eP3 _ _ (by omega), up_z (by omega)]; exact g2.2.2.1.2
    · dsimp only
      rw [up_z (by omega), nw_o (by omega), up_z (by omega), nw_o (by omega), up_z (by omega), nw_o (by omega), up_z (by omega), eP5 _ _ (by omega), up_z (by omega), eP4 _ _ (by omega), up_z (by omega)]; exact g3.2.2.1.1
    · dsimp only
      rw [up_z (by omega), nw_o (by omega), up_z (by omega), nw_o (by omega), up_z (by omega), nw_o (by omega), up_z (by omega), eP5 _ _ (by omega), up_z (by omega), eP4 _ _ (by omega), up_z (by omega)]; exact g3.2.2.1.2.1
    · dsimp only
      rw [up_z (by omega), nw_o (by omega), up_z (by omega), nw_o (by omega), up_z (by omega), nw_o (by omega), up_z (by omega), eP5 _ _ (by omega), up_z (by omega), eP4 _ _ (by omega), up_z (by omega)]; exact g3.2.2.1.2.2.1
    · dsimp only
      rw [up_z (by omega), nw_o (by omega), up_z (by omega), nw_o (by omega), up_z (by omega), nw_o (by omega), up_z (by omega), eP5 _ _ (by omega), up_z (by omega), eP4 _ _ (by omega), up_z (by omega)]; exact g3.2.2.1.2.2.2.1
    · dsimp only
      rw [up_z (by omega), nw_o (by omega), up_z (by omega), nw_o (by omega), up_z (by omega), nw_o (by omega), up_z (by omega), eP5 _ _ (by omega), up_z (by omega), eP4 _ _ (by omega), up_z (by omega)]; exact g3.2.2.1.2.2.2.2
    · dsimp only
      rw [up_z (by omega), nw_o (by omega), up_z (by omega), nw_o (by omega), up_z (by omega), nw_o (by omega), up_z (by omega), eP5 _ _ (by omega), up_z (by omega)]; exact g4.2.2.1.1
    · dsimp only
      rw [up_z (by omega), nw_o (by omega), up_z (by omega), nw_o (by omega), up_z (by omega), nw_o (by omega), up_z (by omega), eP5 _ _ (by omega), up_z (by omega)]; exact g4.2.2.1.2.1
    · dsimp only
      rw [up_z (by omega), nw_o (by omega), up_z (by omega), nw_o (by omega), up_z (by omega), nw_o (by omega), up_z (by omega), eP5 _ _ (by omega), up_z (by omega)]; exact g4.2.2.1.2.2.1
    · dsimp only
      rw [up_z (by omega), nw_o (by omega), up_z (by omega), nw_o (by omega), up_z (by omega), nw_o (by omega), up_z (by omega), eP5 _ _ (by omega), up_z (by omega)]; exact g4.2.2.1.2.2.2.1
    · dsimp only
      rw [up_z (by omega), nw_o (by omega), up_z (by omega), nw_o (by omega), up_z (by omega), nw_o (by omega), up_z (by omega), eP5 _ _ (by omega), up_z (by omega)]; exact g4.2.2.1.2.2.2.2
    · dsimp only
      rw [up_z (by omega), nw_o (by omega), up_z (by omega), nw_o (by omega), up_z (by omega), nw_o (by omega), up_z (by omega)]; exact g5.2.2.1.1
    · dsimp only
      rw [up_z (by omega), nw_o (by omega), up_z (by omega), nw_o (by omega), up_z (by omega), nw_o (by omega), up_z (by omega)]; exact g5.2.2.1.2.1
    · dsimp only
      rw [up_z (by omega), nw_o (by omega), up_z (by omega), nw_o (by omega), up_z (by omega), nw_o (by omega), up_z (by omega)]; exact g5.2.2.1.2.2.1
    · dsimp only
      rw [up_z (by omega), nw_o (by omega), up_z (by omega), nw_o (by omega), up_z (by omega), nw_o (by omega), up_z (by omega)]; exact g5.2.2.1.2.2.2.1
    · dsimp only
      rw [up_z (by omega), nw_o (by omega), up_z (by omega), nw_o (by omega), up_z (by omega), nw_o (by omega), up_z (by omega)]; exact g5.2.2.1.2.2.2.2
  · rw [up_z (by omega), nw_o (by omega), up_z (by omega), nw_o (by omega), up_z (by omega), nw_o (by omega), up_z (by omega), eP5 _ _ (by omega), up_z (by omega), eP4 _ _ (by omega), up_z (by omega), eP3 _ _ (by omega), up_z (by omega), eP2 _ _ (by omega), up_z (by omega), eP1 _ _ (by omega), up_z (by omega), up_e]
  · rw [up_z (by omega), nw_o (by omega), up_z (by omega), nw_o (by omega), up_z (by omega), nw_o (by omega), up_z (by omega), eP5 _ _ (by omega), up_z (by omega), eP4 _ _ (by omega), up_z (by omega), eP3 _ _ (by omega), up_z (by omega), eP2 _ _ (by omega), up_z (by omega), eP1 _ _ (by omega), up_e]
  · by_cases c : b < A + 22
    · rw [nw_o (by omega), nw_o (by omega), nw_o (by omega)]; exact hz5 b i q1 c
    · have : b = A + 22 ∨ b = A + 23 ∨ b = A + 24 := by omega
      rcases this with e | e | e <;> subst e
      · rw [nw_o (by omega), nw_o (by omega), nw_e]
      · rw [nw_o (by omega), nw_e]
      · rw [nw_e]
end CNV
