/-! a space is laid: the outer loops -/
section SPN
variable {en : Nat → Nat} {d : Nat} {T : Nat → Option (Nat × Nat)} {J K H : Nat → Nat → Int} {P : Nat → Nat → Option Nat} {L : Nat → Nat → Int64} {z w A B R : Nat} {Q : m_Q} {σ : a_S} {C : a_C} {h : Int}
theorem l_Sp_lay2 (hA : sp_sh en A T P) (hC : sp_i0 K A C) (ok : a_ok C) (h7 : K A 7 = 2 * K A 3 + 1) (hz : ∀ i : Nat, i < 864 → K (A + 2) i = 0) {h2 r1 r2 : Option Value} (hq : Q none (T, m_I (sp_h K A C (K A 0 * K A 1 * K A 7)), P, L, z, w)) :
    ∀ (m : Nat) (x : Int) (o5 : Option Value), x + m = K A 0 → 0 ≤ x → m_wp en (d + 3) mSp_lay 157 [some (.ref A), r1, r2, h2, some (.int (m_i x)), o5] [] (T, m_I (sp_h K A C (x * K A 1 * K A 7)), P, L, z, w) Q := by
  have e0 : K A 0 = C.1 := hC.1
  have e1 : K A 1 = C.2.1 := hC.2.1
  have k0 := ok.1
  have k1 := ok.2.1
  intro m
  induction m with
  | zero =>
    intro x o5 hm hx
    rw [show x = K A 0 by omega]
    unfold sp_h at hq ⊢
    refine r_il eSp_lay_157 rfl ?_
    refine r_aln eSp_lay_159 rfl ?_
    refine r_gete (x := K A 0) eSp_lay_160 rfl (by decide) hA.2.1 (by rw [m_up_at, if_neg (by omega), m_fl_o (by omega)]) ?_
    refine r_cge (tgt := 198) eSp_lay_163 rfl ⟨(by omega), (by omega)⟩ ⟨(by omega), (by omega)⟩ (fun c163 => ?_) (fun c163 => ?_)
    · refine r_ret eSp_lay_198 rfl ?_
      exact hq
    · exfalso; omega
  | succ m ih =>
    intro x o5 hm hx
    have h169 := l_Sp_lay1 (d := d) (L := L) (P := P) (z := z) (w := w) (r1 := r1) (r2 := r2) (h2 := h2) (Q := Q) hA hC ok h7 hz (x := x) (by omega) (fun o => ih (x + 1) o (by omega) (by omega)) (K A 1).toNat 1 (by omega) (by omega)
    rw [show x * K A 1 + 1 - 1 = x * K A 1 by omega] at h169
    unfold sp_h at h169 ⊢
    refine r_il eSp_lay_157 rfl ?_
    refine r_aln eSp_lay_159 rfl ?_
    refine r_gete (x := K A 0) eSp_lay_160 rfl (by decide) hA.2.1 (by rw [m_up_at, if_neg (by omega), m_fl_o (by omega)]) ?_
    refine r_cge (tgt := 198) eSp_lay_163 rfl ⟨(by omega), (by omega)⟩ ⟨(by omega), (by omega)⟩ (fun c163 => ?_) (fun c163 => ?_)
    · refine r_ret eSp_lay_198 rfl ?_
      exfalso; omega
    · refine r_con eSp_lay_166 ?_
      refine r_is (ls' := [some (.ref A), r1, r2, h2, some (.int (m_i (x))), some (.int (m_i (1)))]) eSp_lay_167 (Nat.le_of_ble_eq_true rfl) rfl ?_
      exact h169
theorem l_Sp_lay3 (hA : sp_sh en A T P) {h2 r1 r2 o5 : Option Value} (hq : m_wp en d mSp_lay 154 [some (.ref A), r1, r2, h2, some (.int (m_i 864)), o5] [] (T, m_I (m_fl K (A + 2) 0 (fun _ => 0) 864), P, L, z, w) Q) :
    ∀ (m k : Nat), k + m = 864 → m_wp en d mSp_lay 130 [some (.ref A), r1, r2, h2, some (.int (m_i (k : Int))), o5] [] (T, m_I (m_fl K (A + 2) 0 (fun _ => 0) (k : Int)), P, L, z, w) Q := by
  intro m
  induction m with
  | zero =>
    intro k hk
    obtain rfl : k = 864 := by omega
    refine r_il eSp_lay_130 rfl ?_
    refine r_aln eSp_lay_132 rfl ?_
    refine m_getR eSp_lay_133 rfl hA.2.1 (ob_p hA (i := 1) rfl) ?_
    refine r_alen eSp_lay_136 (ob_t hA (i := 1) rfl) (by decide) ?_
    refine r_cge (tgt := 154) eSp_lay_137 rfl ⟨(by omega), (by omega)⟩ ⟨(by omega), (by omega)⟩ (fun c137 => ?_) (fun c137 => ?_)
    · exact hq
    · exfalso; omega
  | succ m ih =>
    intro k hk
    have hi := ih (k + 1) (by omega)
    rw [show ((k + 1 : Nat) : Int) = (k : Int) + 1 by omega, ← m_fl_s (n := (k : Int).toNat) (v := 0) (by omega) (by omega) rfl] at hi
    refine r_il eSp_lay_130 rfl ?_
    refine r_aln eSp_lay_132 rfl ?_
    refine m_getR eSp_lay_133 rfl hA.2.1 (ob_p hA (i := 1) rfl) ?_
    refine r_alen eSp_lay_136 (ob_t hA (i := 1) rfl) (by decide) ?_
    refine r_cge (tgt := 154) eSp_lay_137 rfl ⟨(by omega), (by omega)⟩ ⟨(by omega), (by omega)⟩ (fun c137 => ?_) (fun c137 => ?_)
    · exfalso; omega
    · refine r_aln eSp_lay_140 rfl ?_
      refine m_getR eSp_lay_141 rfl hA.2.1 (ob_p hA (i := 1) rfl) ?_
      refine r_il eSp_lay_144 rfl ?_
      refine r_con eSp_lay_146 ?_
      refine r_zast eSp_lay_147 (ob_t hA (i := 1) rfl) (by decide) (by omega) (by omega) (ob_b hA 2) (by first | exact Or.inl rfl | exact Or.inr rfl | omega) ?_
      refine r_inc (ls' := [some (.ref A), r1, r2, h2, some (.int (m_i ((k : Int) + 1))), o5]) eSp_lay_148 rfl rfl ?_
      refine r_go (tgt := 130) eSp_lay_151 rfl ?_
      exact hi
theorem l_Sp_lay4 (hA : sp_sh en A T P) (hB : pl_sh en B T P) (hR : T R = some (20, 16)) (ok : pl_ok J B) (hr : ∀ i : Nat, i < 16 → -1000 ≤ J R i ∧ J R i ≤ 1000) (hAB : A + 3 ≤ B ∨ B + 13 ≤ A) (hAR : R ≠ A ∧ R ≠ A + 1 ∧ R ≠ A + 2) {o5 : Option Value}
    (hq : m_wp en (d + 2) mSp_lay 122 [some (.ref A), some (.ref B), some (.ref R), some (.int (m_i h)), some (.int (m_i 16)), o5] [] (T, m_I (sp_b J A B R h), P, L, z, w) Q) :
    ∀ (m k : Nat), k + m = 16 → m_wp en (d + 2) mSp_lay 92 [some (.ref A), some (.ref B), some (.ref R), some (.int (m_i h)), some (.int (m_i (k : Int))), o5] [] (T, m_I (m_fl (sp_a J A B h) (A + 1) 0 (fun i => pl_fr J B (J R) (i : Int)) (k : Int)), P, L, z, w) Q := by
  intro m
  induction m with
  | zero =>
    intro k hk
    obtain rfl : k = 16 := by omega
    refine r_il eSp_lay_92 rfl ?_
    refine r_aln eSp_lay_94 rfl ?_
    refine m_getR eSp_lay_95 rfl hA.2.1 (ob_p hA (i := 0) rfl) ?_
    refine r_alen eSp_lay_98 (ob_t hA (i := 0) rfl) (by decide) ?_
    refine r_cge (tgt := 122) eSp_lay_99 rfl ⟨(by omega), (by omega)⟩ ⟨(by omega), (by omega)⟩ (fun c99 => ?_) (fun c99 => ?_)
    · exact hq
    · exfalso; omega
  | succ m ih =>
    intro k hk
    have hi := ih (k + 1) (by omega)
    rw [show ((k + 1 : Nat) : Int) = (k : Int) + 1 by omega, ← m_fl_s (n := (k : Int).toNat) (v := pl_fr J B (J R) (k : Int)) (by omega) (by omega) (by rw [Int.toNat_natCast])] at hi
    have eB : ∀ j, j ≤ 12 → m_fl (sp_a J A B h) (A + 1) 0 (fun i => pl_fr J B (J R) (i : Int)) (k : Int) (B + j) = J (B + j) := fun j hj => funext (fun i => by rw [m_fl_o (by omega), sp_a_o (by omega)])
    have eR : m_fl (sp_a J A B h) (A + 1) 0 (fun i => pl_fr J B (J R) (i : Int)) (k : Int) R = J R := funext (fun i => by rw [m_fl_o hAR.2.1, sp_a_o hAR.1])
    have hrR : ∀ i : Nat, i < 16 → -1000 ≤ m_fl (sp_a J A B h) (A + 1) 0 (fun i => pl_fr J B (J R) (i : Int)) (k : Int) R i ∧ m_fl (sp_a J A B h) (A + 1) 0 (fun i => pl_fr J B (J R) (i : Int)) (k : Int) R i ≤ 1000 := by rw [eR]; exact hr
    refine r_il eSp_lay_92 rfl ?_
    refine r_aln eSp_lay_94 rfl ?_
    refine m_getR eSp_lay_95 rfl hA.2.1 (ob_p hA (i := 0) rfl) ?_
    refine r_alen eSp_lay_98 (ob_t hA (i := 0) rfl) (by decide) ?_
    refine r_cge (tgt := 122) eSp_lay_99 rfl ⟨(by omega), (by omega)⟩ ⟨(by omega), (by omega)⟩ (fun c99 => ?_) (fun c99 => ?_)
    · exfalso; omega
    · refine r_aln eSp_lay_102 rfl ?_
      refine m_getR eSp_lay_103 rfl hA.2.1 (ob_p hA (i := 0) rfl) ?_
      refine r_il eSp_lay_106 rfl ?_
      refine r_aln eSp_lay_108 rfl ?_
      refine r_aln eSp_lay_109 rfl ?_
      refine r_il eSp_lay_110 rfl ?_
      refine r_vir eSp_lay_112 rfl rfl rfl hB.2.1 rfl rfl ?_
      refine c_Pl_freeOf hB (pl_ok_eq eB ok) hR hrR ?_ ?_
      · exact ⟨by omega, by omega⟩
      rw [pl_fr_eq eB, eR]
      show m_wp en _ mSp_lay 115 [some (.ref A), some (.ref B), some (.ref R), some (.int (m_i (h))), some (.int (m_i ((k : Int)))), o5] [(.int (m_i ((pl_fr J B (J R) (k : Int))))), (.int (m_i ((k : Int)))), (.ref (A + 1))] (T, m_I ((((m_fl (sp_a J A B h) (A + 1) 0 (fun i => pl_fr J B (J R) (i : Int)) (k : Int))))), P, L, z, w) Q
      refine r_iast eSp_lay_115 (ob_t hA (i := 0) rfl) (by decide) (by omega) (by omega) (ob_b hA 1) ?_
      refine r_inc (ls' := [some (.ref A), some (.ref B), some (.ref R), some (.int (m_i (h))), some (.int (m_i ((k : Int) + 1))), o5]) eSp_lay_116 rfl rfl ?_
      refine r_go (tgt := 92) eSp_lay_119 rfl ?_
      exact hi
/-- the heap with a space laid -/
def sp_L (J : Nat → Nat → Int) (A B R : Nat) (h : Int) : Nat → Nat → Int := sp_h (sp_c J A B R h) A (pl_cf J B (J R) h) (J B 0 * J B 1 * (2 * J B 3 + 1))
theorem c_Sp_lay (hA : sp_sh en A T P) (hB : pl_sh en B T P) (hR : T R = some (20, 16)) (ok : pl_ok J B) (hr : ∀ i : Nat, i < 16 → 0 ≤ J R i ∧ J R i ≤ 1000) (hAB : A + 3 ≤ B ∨ B + 13 ≤ A) (hAR : R ≠ A ∧ R ≠ A + 1 ∧ R ≠ A + 2) (hh : h = 0 ∨ h = 1) (hq : Q none (T, m_I (sp_L J A B R h), P, L, z, w)) : m_call en (d + 4) mSp_lay [.ref A, .ref B, .ref R, .int (m_i h)] (T, m_I J, P, L, z, w) Q := by
  have okc := pl_cf_ok (h := h) ok (fun i hi => (hr i hi).1) hh
  have ec : ∀ i, i ≠ 8 → sp_c J A B R h A i = sp_a J A B h A i := fun i hi => sp_c_A hi
  have c0 : sp_c J A B R h A 0 = J B 0 := sp_c_i0.1
  have c1 : sp_c J A B R h A 1 = J B 1 := sp_c_i0.2.1
  have c3 : sp_c J A B R h A 3 = J B 3 := sp_c_i0.2.2.2.1
  have c7 : sp_c J A B R h A 7 = 2 * J B 3 + 1 := by rw [sp_c_7, c3]
  have k0 := ok.1
  have h157 := l_Sp_lay2 (d := d) (L := L) (z := z) (w := w) (Q := Q) (r1 := some (.ref B)) (r2 := some (.ref R)) (h2 := some (.int (m_i h))) hA sp_c_i0 okc sp_c_7 sp_c_z (by rw [c0, c1, c7]; exact hq) (J B 0).toNat 0 none (by rw [c0]; omega) (by omega)
  rw [Int.zero_mul, Int.zero_mul, sp_h_z] at h157
  have h154 : m_wp en (d + 3) mSp_lay 154 [some (.ref A), some (.ref B), some (.ref R), some (.int (m_i h)), some (.int (m_i 864)), none] [] (T, m_I (sp_c J A B R h), P, L, z, w) Q := by
    refine r_con eSp_lay_154 ?_
    refine r_is (ls' := [some (.ref A), some (.ref B), some (.ref R), some (.int (m_i (h))), some (.int (m_i (0))), none]) eSp_lay_155 (Nat.le_of_ble_eq_true rfl) rfl ?_
    exact h157
  have h130 := l_Sp_lay3 (d := d + 3) (L := L) (z := z) (w := w) (Q := Q) (K := m_up (sp_b J A B R h) A 8 0) hA h154 864 0 (by omega)
  rw [show ((0 : Nat) : Int) = 0 from rfl, m_fl_0] at h130
  have h122 : m_wp en (d + 3) mSp_lay 122 [some (.ref A), some (.ref B), some (.ref R), some (.int (m_i h)), some (.int (m_i 16)), none] [] (T, m_I (sp_b J A B R h), P, L, z, w) Q := by
    refine r_aln eSp_lay_122 rfl ?_
    refine r_con eSp_lay_123 ?_
    refine r_put eSp_lay_124 rfl hA.2.1 hA.1 (Or.inl rfl) ?_
    refine r_con eSp_lay_127 ?_
    refine r_is (ls' := [some (.ref A), some (.ref B), some (.ref R), some (.int (m_i (h))), some (.int (m_i (0))), none]) eSp_lay_128 (Nat.le_of_ble_eq_true rfl) rfl ?_
    exact h130
  have h92 := l_Sp_lay4 (d := d + 1) (L := L) (z := z) (w := w) (Q := Q) hA hB hR ok (fun i hi => by have := hr i hi; omega) hAB hAR h122 16 0 (by omega)
  rw [show ((0 : Nat) : Int) = 0 from rfl, m_fl_0] at h92
  unfold sp_a at h92
  refine m_into (by decide) (Nat.le_of_ble_eq_true rfl) rfl ?_
  show m_wp en _ mSp_lay 0 [some (.ref A), some (.ref B), some (.ref R), some (.int (m_i (h))), none, none] [] (T, m_I J, P, L, z, w) Q
  refine r_aln eSp_lay_0 rfl ?_
  refine r_aln eSp_lay_1 rfl ?_
  refine r_gete (x := J B 0) eSp_lay_2 rfl (by decide) hB.2.1 rfl ?_
  refine r_put eSp_lay_5 rfl hA.2.1 hA.1 (Or.inl rfl) ?_
  refine r_aln eSp_lay_8 rfl ?_
  refine r_aln eSp_lay_9 rfl ?_
  refine r_gete (x := J B 1) eSp_lay_10 rfl (by decide) hB.2.1 (by rw [m_up_at, if_neg (by omega)]) ?_
  refine r_put eSp_lay_13 rfl hA.2.1 hA.1 (Or.inl rfl) ?_
  refine r_aln eSp_lay_16 rfl ?_
  refine r_aln eSp_lay_17 rfl ?_
  refine r_gete (x := J B 2) eSp_lay_18 rfl (by decide) hB.2.1 (by rw [m_up_at, if_neg (by omega), m_up_at, if_neg (by omega)]) ?_
  refine r_put eSp_lay_21 rfl hA.2.1 hA.1 (Or.inl rfl) ?_
  refine r_aln eSp_lay_24 rfl ?_
  refine r_aln eSp_lay_25 rfl ?_
  refine r_gete (x := J B 3) eSp_lay_26 rfl (by decide) hB.2.1 (by rw [m_up_at, if_neg (by omega), m_up_at, if_neg (by omega), m_up_at, if_neg (by omega)]) ?_
  refine r_put eSp_lay_29 rfl hA.2.1 hA.1 (Or.inl rfl) ?_
  refine r_aln eSp_lay_32 rfl ?_
  refine r_iln eSp_lay_33 rfl ?_
  refine r_put eSp_lay_34 rfl hA.2.1 hA.1 (Or.inl rfl) ?_
  refine r_aln eSp_lay_37 rfl ?_
  refine r_con eSp_lay_38 ?_
  refine r_aln eSp_lay_39 rfl ?_
  refine r_gete (x := J B 2) eSp_lay_40 rfl (by decide) hA.2.1 (by rw [m_up_at, if_neg (by omega), m_up_at, if_neg (by omega), m_up_same]) ?_
  refine r_mul eSp_lay_43 ?_
  refine r_con eSp_lay_44 ?_
  refine r_add eSp_lay_45 ?_
  refine r_put eSp_lay_46 rfl hA.2.1 hA.1 (Or.inl rfl) ?_
  refine r_aln eSp_lay_49 rfl ?_
  refine r_con eSp_lay_50 ?_
  refine r_aln eSp_lay_51 rfl ?_
  refine r_gete (x := J B 3) eSp_lay_52 rfl (by decide) hA.2.1 (by rw [m_up_at, if_neg (by omega), m_up_at, if_neg (by omega), m_up_same]) ?_
  refine r_mul eSp_lay_55 ?_
  refine r_con eSp_lay_56 ?_
  refine r_add eSp_lay_57 ?_
  refine r_put eSp_lay_58 rfl hA.2.1 hA.1 (Or.inl rfl) ?_
  refine r_aln eSp_lay_61 rfl ?_
  refine r_aln eSp_lay_62 rfl ?_
  refine r_gete (x := J B 0) eSp_lay_63 rfl (by decide) hA.2.1 (by rw [m_up_at, if_neg (by omega), m_up_at, if_neg (by omega), m_up_at, if_neg (by omega), m_up_at, if_neg (by omega), m_up_at, if_neg (by omega), m_up_at, if_neg (by omega), m_up_same]) ?_
  refine r_aln eSp_lay_66 rfl ?_
  refine r_gete (x := J B 1) eSp_lay_67 rfl (by decide) hA.2.1 (by rw [m_up_at, if_neg (by omega), m_up_at, if_neg (by omega), m_up_at, if_neg (by omega), m_up_at, if_neg (by omega), m_up_at, if_neg (by omega), m_up_same]) ?_
  refine r_mul eSp_lay_70 ?_
  refine r_aln eSp_lay_71 rfl ?_
  refine r_gete (x := ((2) * (J B 3)) + (1)) eSp_lay_72 rfl (by decide) hA.2.1 (by rw [m_up_same]) ?_
  refine r_mul eSp_lay_75 ?_
  refine r_aln eSp_lay_76 rfl ?_
  refine r_gete (x := ((2) * (J B 2)) + (1)) eSp_lay_77 rfl (by decide) hA.2.1 (by rw [m_up_at, if_neg (by omega), m_up_same]) ?_
  refine r_mul eSp_lay_80 ?_
  refine r_aln eSp_lay_81 rfl ?_
  refine r_gete (x := ((2) * (J B 3)) + (1)) eSp_lay_82 rfl (by decide) hA.2.1 (by rw [m_up_same]) ?_
  refine r_mul eSp_lay_85 ?_
  refine r_put eSp_lay_86 rfl hA.2.1 hA.1 (Or.inl rfl) ?_
  refine r_con eSp_lay_89 ?_
  refine r_is (ls' := [some (.ref A), some (.ref B), some (.ref R), some (.int (m_i (h))), some (.int (m_i (0))), none]) eSp_lay_90 (Nat.le_of_ble_eq_true rfl) rfl ?_
  exact h92
end SPN
