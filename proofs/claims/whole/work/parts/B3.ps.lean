/-! the class: a plan is another one's -/
def pl_n (k : Nat) : Nat := if k < 3 then 16 else if k < 6 then 6 else if k < 8 then 8 else if k < 10 then 16 else if k < 12 then 3 else 12
/-- a plan at A is what was at B -/
def pl_cq (J K : Nat → Nat → Int) (A B : Nat) : Prop := (∀ i, i < 7 → K A i = J B i) ∧ (∀ k, 1 ≤ k ∧ k ≤ 12 → ∀ i, i < pl_n k → K (A + k) i = J (B + k) i) ∧ ∀ b i, b < A ∨ A + 13 ≤ b → K b i = J b i
section PLS
variable {en : Nat → Nat} {d : Nat} {T : Nat → Option (Nat × Nat)} {J J' J0 K H : Nat → Nat → Int} {P : Nat → Nat → Option Nat} {L : Nat → Nat → Int64} {z w A B R X : Nat} {Q : m_Q}
theorem k_row (hA : pl_sh en A T P) (hB : pl_sh en B T P) (hAB : A + 13 ≤ B ∨ B + 13 ≤ A) {k : Nat} (hk : 1 ≤ k ∧ k ≤ 12) (hq : ∀ K, (∀ i, i < pl_n k → K (A + k) i = J (B + k) i) → (∀ b i, b ≠ A + k → K b i = J b i) → Q none (T, m_I K, P, L, z, w)) : m_call en (d + 1) mSc_copyRow [.ref (B + k), .ref (A + k)] (T, m_I J, P, L, z, w) Q := by
  have h1 : ∀ k : Fin 13, 1 ≤ k.val → (k.val + 6, k.val, 20, pl_n k.val) ∈ pl_tab := by decide
  have h2 := h1 ⟨k, by omega⟩ hk.1
  simp only at h2
  have hp : pl_n k ≤ 16 := by
    unfold pl_n
    repeat' split
    all_goals omega
  refine c_Sc_copyRow (n := pl_n k) (hB.2.2 _ h2).2 (hA.2.2 _ h2).2 (ob_b hA k) (by omega) (by omega) ?_
  refine hq _ (fun i hi => ?_) (fun b i q => m_fl_o q)
  rw [m_fl_i (by omega)]
  rfl
theorem c_Pl_set (hA : pl_sh en A T P) (hB : pl_sh en B T P) (hAB : A + 13 ≤ B ∨ B + 13 ≤ A) (hq : ∀ K, pl_cq J K A B → Q none (T, m_I K, P, L, z, w)) : m_call en (d + 2) mPl_set [.ref A, .ref B] (T, m_I J, P, L, z, w) Q := by
  have h8 : ∀ b i, b ≠ A → (m_up (m_up (m_up (m_up (m_up (m_up (m_up J A 0 (J B 0)) A 1 (J B 1)) A 2 (J B 2)) A 3 (J B 3)) A 4 (J B 4)) A 5 (J B 5)) A 6 (J B 6)) b i = J b i := fun b i q => by rw [m_up_o q, m_up_o q, m_up_o q, m_up_o q, m_up_o q, m_up_o q, m_up_o q]
  have h7 : ∀ i, i < 7 → (m_up (m_up (m_up (m_up (m_up (m_up (m_up J A 0 (J B 0)) A 1 (J B 1)) A 2 (J B 2)) A 3 (J B 3)) A 4 (J B 4)) A 5 (J B 5)) A 6 (J B 6)) A i = J B i := fun i hi => by
    rcases (show i = 0 ∨ i = 1 ∨ i = 2 ∨ i = 3 ∨ i = 4 ∨ i = 5 ∨ i = 6 by omega) with rfl | rfl | rfl | rfl | rfl | rfl | rfl
    · rw [m_up_j (by decide), m_up_j (by decide), m_up_j (by decide), m_up_j (by decide), m_up_j (by decide), m_up_j (by decide)]; exact m_up_same
    · rw [m_up_j (by decide), m_up_j (by decide), m_up_j (by decide), m_up_j (by decide), m_up_j (by decide)]; exact m_up_same
    · rw [m_up_j (by decide), m_up_j (by decide), m_up_j (by decide), m_up_j (by decide)]; exact m_up_same
    · rw [m_up_j (by decide), m_up_j (by decide), m_up_j (by decide)]; exact m_up_same
    · rw [m_up_j (by decide), m_up_j (by decide)]; exact m_up_same
    · rw [m_up_j (by decide)]; exact m_up_same
    · exact m_up_same
  refine m_into (by decide) (Nat.le_of_ble_eq_true rfl) rfl ?_
  show m_wp en _ mPl_set 0 [some (.ref A), some (.ref B)] [] (T, m_I J, P, L, z, w) Q
  refine r_aln ePl_set_0 rfl ?_
  refine r_aln ePl_set_1 rfl ?_
  refine r_gete (x := J B 0) ePl_set_2 rfl (by decide) hB.2.1 rfl ?_
  refine r_put ePl_set_5 rfl hA.2.1 hA.1 (Or.inl rfl) ?_
  refine r_aln ePl_set_8 rfl ?_
  refine r_aln ePl_set_9 rfl ?_
  refine r_gete (x := J B 1) ePl_set_10 rfl (by decide) hB.2.1 (by rw [m_up_at, if_neg (by omega)]) ?_
  refine r_put ePl_set_13 rfl hA.2.1 hA.1 (Or.inl rfl) ?_
  refine r_aln ePl_set_16 rfl ?_
  refine r_aln ePl_set_17 rfl ?_
  refine r_gete (x := J B 2) ePl_set_18 rfl (by decide) hB.2.1 (by rw [m_up_at, if_neg (by omega), m_up_at, if_neg (by omega)]) ?_
  refine r_put ePl_set_21 rfl hA.2.1 hA.1 (Or.inl rfl) ?_
  refine r_aln ePl_set_24 rfl ?_
  refine r_aln ePl_set_25 rfl ?_
  refine r_gete (x := J B 3) ePl_set_26 rfl (by decide) hB.2.1 (by rw [m_up_at, if_neg (by omega), m_up_at, if_neg (by omega), m_up_at, if_neg (by omega)]) ?_
  refine r_put ePl_set_29 rfl hA.2.1 hA.1 (Or.inl rfl) ?_
  refine r_aln ePl_set_32 rfl ?_
  refine r_aln ePl_set_33 rfl ?_
  refine r_gete (x := J B 4) ePl_set_34 rfl (by decide) hB.2.1 (by rw [m_up_at, if_neg (by omega), m_up_at, if_neg (by omega), m_up_at, if_neg (by omega), m_up_at, if_neg (by omega)]) ?_
  refine r_put ePl_set_37 rfl hA.2.1 hA.1 (Or.inl rfl) ?_
  refine r_aln ePl_set_40 rfl ?_
  refine r_aln ePl_set_41 rfl ?_
  refine r_gete (x := J B 5) ePl_set_42 rfl (by decide) hB.2.1 (by rw [m_up_at, if_neg (by omega), m_up_at, if_neg (by omega), m_up_at, if_neg (by omega), m_up_at, if_neg (by omega), m_up_at, if_neg (by omega)]) ?_
  refine r_put ePl_set_45 rfl hA.2.1 hA.1 (Or.inl rfl) ?_
  refine r_aln ePl_set_48 rfl ?_
  refine r_aln ePl_set_49 rfl ?_
  refine r_gete (x := J B 6) ePl_set_50 rfl (by decide) hB.2.1 (by rw [m_up_at, if_neg (by omega), m_up_at, if_neg (by omega), m_up_at, if_neg (by omega), m_up_at, if_neg (by omega), m_up_at, if_neg (by omega), m_up_at, if_neg (by omega)]) ?_
  refine r_put ePl_set_53 rfl hA.2.1 hA.1 (Or.inl rfl) ?_
  refine r_aln ePl_set_56 rfl ?_
  refine m_getR ePl_set_57 rfl hB.2.1 (ob_p hB (i := 0) rfl) ?_
  refine r_aln ePl_set_60 rfl ?_
  refine m_getR ePl_set_61 rfl hA.2.1 (ob_p hA (i := 0) rfl) ?_
  refine r_sta ePl_set_64 rfl rfl (by decide) rfl ?_
  refine k_row hA hB hAB ⟨by omega, by omega⟩ (fun K64 a64 b64 => ?_)
  show m_wp en _ mPl_set 67 [some (.ref A), some (.ref B)] [] (T, m_I K64, P, L, z, w) Q
  refine r_aln ePl_set_67 rfl ?_
  refine m_getR ePl_set_68 rfl hB.2.1 (ob_p hB (i := 1) rfl) ?_
  refine r_aln ePl_set_71 rfl ?_
  refine m_getR ePl_set_72 rfl hA.2.1 (ob_p hA (i := 1) rfl) ?_
  refine r_sta ePl_set_75 rfl rfl (by decide) rfl ?_
  refine k_row hA hB hAB ⟨by omega, by omega⟩ (fun K75 a75 b75 => ?_)
  show m_wp en _ mPl_set 78 [some (.ref A), some (.ref B)] [] (T, m_I K75, P, L, z, w) Q
  refine r_aln ePl_set_78 rfl ?_
  refine m_getR ePl_set_79 rfl hB.2.1 (ob_p hB (i := 2) rfl) ?_
  refine r_aln ePl_set_82 rfl ?_
  refine m_getR ePl_set_83 rfl hA.2.1 (ob_p hA (i := 2) rfl) ?_
  refine r_sta ePl_set_86 rfl rfl (by decide) rfl ?_
  refine k_row hA hB hAB ⟨by omega, by omega⟩ (fun K86 a86 b86 => ?_)
  show m_wp en _ mPl_set 89 [some (.ref A), some (.ref B)] [] (T, m_I K86, P, L, z, w) Q
  refine r_aln ePl_set_89 rfl ?_
  refine m_getR ePl_set_90 rfl hB.2.1 (ob_p hB (i := 3) rfl) ?_
  refine r_aln ePl_set_93 rfl ?_
  refine m_getR ePl_set_94 rfl hA.2.1 (ob_p hA (i := 3) rfl) ?_
  refine r_sta ePl_set_97 rfl rfl (by decide) rfl ?_
  refine k_row hA hB hAB ⟨by omega, by omega⟩ (fun K97 a97 b97 => ?_)
  show m_wp en _ mPl_set 100 [some (.ref A), some (.ref B)] [] (T, m_I K97, P, L, z, w) Q
  refine r_aln ePl_set_100 rfl ?_
  refine m_getR ePl_set_101 rfl hB.2.1 (ob_p hB (i := 4) rfl) ?_
  refine r_aln ePl_set_104 rfl ?_
  refine m_getR ePl_set_105 rfl hA.2.1 (ob_p hA (i := 4) rfl) ?_
  refine r_sta ePl_set_108 rfl rfl (by decide) rfl ?_
  refine k_row hA hB hAB ⟨by omega, by omega⟩ (fun K108 a108 b108 => ?_)
  show m_wp en _ mPl_set 111 [some (.ref A), some (.ref B)] [] (T, m_I K108, P, L, z, w) Q
  refine r_aln ePl_set_111 rfl ?_
  refine m_getR ePl_set_112 rfl hB.2.1 (ob_p hB (i := 5) rfl) ?_
  refine r_aln ePl_set_115 rfl ?_
  refine m_getR ePl_set_116 rfl hA.2.1 (ob_p hA (i := 5) rfl) ?_
  refine r_sta ePl_set_119 rfl rfl (by decide) rfl ?_
  refine k_row hA hB hAB ⟨by omega, by omega⟩ (fun K119 a119 b119 => ?_)
  show m_wp en _ mPl_set 122 [some (.ref A), some (.ref B)] [] (T, m_I K119, P, L, z, w) Q
  refine r_aln ePl_set_122 rfl ?_
  refine m_getR ePl_set_123 rfl hB.2.1 (ob_p hB (i := 6) rfl) ?_
  refine r_aln ePl_set_126 rfl ?_
  refine m_getR ePl_set_127 rfl hA.2.1 (ob_p hA (i := 6) rfl) ?_
  refine r_sta ePl_set_130 rfl rfl (by decide) rfl ?_
  refine k_row hA hB hAB ⟨by omega, by omega⟩ (fun K130 a130 b130 => ?_)
  show m_wp en _ mPl_set 133 [some (.ref A), some (.ref B)] [] (T, m_I K130, P, L, z, w) Q
  refine r_aln ePl_set_133 rfl ?_
  refine m_getR ePl_set_134 rfl hB.2.1 (ob_p hB (i := 7) rfl) ?_
  refine r_aln ePl_set_137 rfl ?_
  refine m_getR ePl_set_138 rfl hA.2.1 (ob_p hA (i := 7) rfl) ?_
  refine r_sta ePl_set_141 rfl rfl (by decide) rfl ?_
  refine k_row hA hB hAB ⟨by omega, by omega⟩ (fun K141 a141 b141 => ?_)
  show m_wp en _ mPl_set 144 [some (.ref A), some (.ref B)] [] (T, m_I K141, P, L, z, w) Q
  refine r_aln ePl_set_144 rfl ?_
  refine m_getR ePl_set_145 rfl hB.2.1 (ob_p hB (i := 8) rfl) ?_
  refine r_aln ePl_set_148 rfl ?_
  refine m_getR ePl_set_149 rfl hA.2.1 (ob_p hA (i := 8) rfl) ?_
  refine r_sta ePl_set_152 rfl rfl (by decide) rfl ?_
  refine k_row hA hB hAB ⟨by omega, by omega⟩ (fun K152 a152 b152 => ?_)
  show m_wp en _ mPl_set 155 [some (.ref A), some (.ref B)] [] (T, m_I K152, P, L, z, w) Q
  refine r_aln ePl_set_155 rfl ?_
  refine m_getR ePl_set_156 rfl hB.2.1 (ob_p hB (i := 9) rfl) ?_
  refine r_aln ePl_set_159 rfl ?_
  refine m_getR ePl_set_160 rfl hA.2.1 (ob_p hA (i := 9) rfl) ?_
  refine r_sta ePl_set_163 rfl rfl (by decide) rfl ?_
  refine k_row hA hB hAB ⟨by omega, by omega⟩ (fun K163 a163 b163 => ?_)
  show m_wp en _ mPl_set 166 [some (.ref A), some (.ref B)] [] (T, m_I K163, P, L, z, w) Q
  refine r_aln ePl_set_166 rfl ?_
  refine m_getR ePl_set_167 rfl hB.2.1 (ob_p hB (i := 10) rfl) ?_
  refine r_aln ePl_set_170 rfl ?_
  refine m_getR ePl_set_171 rfl hA.2.1 (ob_p hA (i := 10) rfl) ?_
  refine r_sta ePl_set_174 rfl rfl (by decide) rfl ?_
  refine k_row hA hB hAB ⟨by omega, by omega⟩ (fun K174 a174 b174 => ?_)
  show m_wp en _ mPl_set 177 [some (.ref A), some (.ref B)] [] (T, m_I K174, P, L, z, w) Q
  refine r_aln ePl_set_177 rfl ?_
  refine m_getR ePl_set_178 rfl hB.2.1 (ob_p hB (i := 11) rfl) ?_
  refine r_aln ePl_set_181 rfl ?_
  refine m_getR ePl_set_182 rfl hA.2.1 (ob_p hA (i := 11) rfl) ?_
  refine r_sta ePl_set_185 rfl rfl (by decide) rfl ?_
  refine k_row hA hB hAB ⟨by omega, by omega⟩ (fun K185 a185 b185 => ?_)
  show m_wp en _ mPl_set 188 [some (.ref A), some (.ref B)] [] (T, m_I K185, P, L, z, w) Q
  refine r_ret ePl_set_188 rfl ?_
  have g1 : ∀ i, i < pl_n 1 → K185 (A + 1) i = J (B + 1) i := fun i hi => (by rw [b185 _ _ (by omega), b174 _ _ (by omega), b163 _ _ (by omega), b152 _ _ (by omega), b141 _ _ (by omega), b130 _ _ (by omega), b119 _ _ (by omega), b108 _ _ (by omega), b97 _ _ (by omega), b86 _ _ (by omega), b75 _ _ (by omega), a64 i hi]; exact h8 _ _ (by omega))
  have g2 : ∀ i, i < pl_n 2 → K185 (A + 2) i = J (B + 2) i := fun i hi => (by rw [b185 _ _ (by omega), b174 _ _ (by omega), b163 _ _ (by omega), b152 _ _ (by omega), b141 _ _ (by omega), b130 _ _ (by omega), b119 _ _ (by omega), b108 _ _ (by omega), b97 _ _ (by omega), b86 _ _ (by omega), a75 i hi, b64 _ _ (by omega)]; exact h8 _ _ (by omega))
  have g3 : ∀ i, i < pl_n 3 → K185 (A + 3) i = J (B + 3) i := fun i hi => (by rw [b185 _ _ (by omega), b174 _ _ (by omega), b163 _ _ (by omega), b152 _ _ (by omega), b141 _ _ (by omega), b130 _ _ (by omega), b119 _ _ (by omega), b108 _ _ (by omega), b97 _ _ (by omega), a86 i hi, b75 _ _ (by omega), b64 _ _ (by omega)]; exact h8 _ _ (by omega))
  have g4 : ∀ i, i < pl_n 4 → K185 (A + 4) i = J (B + 4) i := fun i hi => (by rw [b185 _ _ (by omega), b174 _ _ (by omega), b163 _ _ (by omega), b152 _ _ (by omega), b141 _ _ (by omega), b130 _ _ (by omega), b119 _ _ (by omega), b108 _ _ (by omega), a97 i hi, b86 _ _ (by omega), b75 _ _ (by omega), b64 _ _ (by omega)]; exact h8 _ _ (by omega))
  have g5 : ∀ i, i < pl_n 5 → K185 (A + 5) i = J (B + 5) i := fun i hi => (by rw [b185 _ _ (by omega), b174 _ _ (by omega), b163 _ _ (by omega), b152 _ _ (by omega), b141 _ _ (by omega), b130 _ _ (by omega), b119 _ _ (by omega), a108 i hi, b97 _ _ (by omega), b86 _ _ (by omega), b75 _ _ (by omega), b64 _ _ (by omega)]; exact h8 _ _ (by omega))
  have g6 : ∀ i, i < pl_n 6 → K185 (A + 6) i = J (B + 6) i := fun i hi => (by rw [b185 _ _ (by omega), b174 _ _ (by omega), b163 _ _ (by omega), b152 _ _ (by omega), b141 _ _ (by omega), b130 _ _ (by omega), a119 i hi, b108 _ _ (by omega), b97 _ _ (by omega), b86 _ _ (by omega), b75 _ _ (by omega), b64 _ _ (by omega)]; exact h8 _ _ (by omega))
  have g7 : ∀ i, i < pl_n 7 → K185 (A + 7) i = J (B + 7) i := fun i hi => (by rw [b185 _ _ (by omega), b174 _ _ (by omega), b163 _ _ (by omega), b152 _ _ (by omega), b141 _ _ (by omega), a130 i hi, b119 _ _ (by omega), b108 _ _ (by omega), b97 _ _ (by omega), b86 _ _ (by omega), b75 _ _ (by omega), b64 _ _ (by omega)]; exact h8 _ _ (by omega))
  have g8 : ∀ i, i < pl_n 8 → K185 (A + 8) i = J (B + 8) i := fun i hi => (by rw [b185 _ _ (by omega), b174 _ _ (by omega), b163 _ _ (by omega), b152 _ _ (by omega), a141 i hi, b130 _ _ (by omega), b119 _ _ (by omega), b108 _ _ (by omega), b97 _ _ (by omega), b86 _ _ (by omega), b75 _ _ (by omega), b64 _ _ (by omega)]; exact h8 _ _ (by omega))
  have g9 : ∀ i, i < pl_n 9 → K185 (A + 9) i = J (B + 9) i := fun i hi => (by rw [b185 _ _ (by omega), b174 _ _ (by omega), b163 _ _ (by omega), a152 i hi, b141 _ _ (by omega), b130 _ _ (by omega), b119 _ _ (by omega), b108 _ _ (by omega), b97 _ _ (by omega), b86 _ _ (by omega), b75 _ _ (by omega), b64 _ _ (by omega)]; exact h8 _ _ (by omega))
  have g10 : ∀ i, i < pl_n 10 → K185 (A + 10) i = J (B + 10) i := fun i hi => (by rw [b185 _ _ (by omega), b174 _ _ (by omega), a163 i hi, b152 _ _ (by omega), b141 _ _ (by omega), b130 _ _ (by omega), b119 _ _ (by omega), b108 _ _ (by omega), b97 _ _ (by omega), b86 _ _ (by omega), b75 _ _ (by omega), b64 _ _ (by omega)]; exact h8 _ _ (by omega))
  have g11 : ∀ i, i < pl_n 11 → K185 (A + 11) i = J (B + 11) i := fun i hi => (by rw [b185 _ _ (by omega), a174 i hi, b163 _ _ (by omega), b152 _ _ (by omega), b141 _ _ (by omega), b130 _ _ (by omega), b119 _ _ (by omega), b108 _ _ (by omega), b97 _ _ (by omega), b86 _ _ (by omega), b75 _ _ (by omega), b64 _ _ (by omega)]; exact h8 _ _ (by omega))
  have g12 : ∀ i, i < pl_n 12 → K185 (A + 12) i = J (B + 12) i := fun i hi => (by rw [a185 i hi, b174 _ _ (by omega), b163 _ _ (by omega), b152 _ _ (by omega), b141 _ _ (by omega), b130 _ _ (by omega), b119 _ _ (by omega), b108 _ _ (by omega), b97 _ _ (by omega), b86 _ _ (by omega), b75 _ _ (by omega), b64 _ _ (by omega)]; exact h8 _ _ (by omega))
  refine hq K185 ⟨fun i hi => ?_, fun k hk i hi => ?_, fun b i q => ?_⟩
  · (rw [b185 _ _ (by omega), b174 _ _ (by omega), b163 _ _ (by omega), b152 _ _ (by omega), b141 _ _ (by omega), b130 _ _ (by omega), b119 _ _ (by omega), b108 _ _ (by omega), b97 _ _ (by omega), b86 _ _ (by omega), b75 _ _ (by omega), b64 _ _ (by omega)]; exact h7 i hi)
  · (rcases (show k = 1 ∨ k = 2 ∨ k = 3 ∨ k = 4 ∨ k = 5 ∨ k = 6 ∨ k = 7 ∨ k = 8 ∨ k = 9 ∨ k = 10 ∨ k = 11 ∨ k = 12 by omega) with rfl | rfl | rfl | rfl | rfl | rfl | rfl | rfl | rfl | rfl | rfl | rfl <;> first | exact g1 i hi | exact g2 i hi | exact g3 i hi | exact g4 i hi | exact g5 i hi | exact g6 i hi | exact g7 i hi | exact g8 i hi | exact g9 i hi | exact g10 i hi | exact g11 i hi | exact g12 i hi)
  · (rw [b185 _ _ (by omega), b174 _ _ (by omega), b163 _ _ (by omega), b152 _ _ (by omega), b141 _ _ (by omega), b130 _ _ (by omega), b119 _ _ (by omega), b108 _ _ (by omega), b97 _ _ (by omega), b86 _ _ (by omega), b75 _ _ (by omega), b64 _ _ (by omega)]; exact h8 _ _ (by omega))
end PLS
