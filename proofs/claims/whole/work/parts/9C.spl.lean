/-! a space is laid of a plan, piles, and whether it holds -/
def pl_cf (J : Nat → Nat → Int) (B : Nat) (f : Nat → Int) (h : Int) : a_C := (J B 0, J B 1, J B 2, J B 3, h, pl_fr J B f)
section SPM
variable {en : Nat → Nat} {d : Nat} {T : Nat → Option (Nat × Nat)} {J K H : Nat → Nat → Int} {P : Nat → Nat → Option Nat} {L : Nat → Nat → Int64} {z w A B R : Nat} {Q : m_Q} {σ : a_S} {C : a_C} {h : Int}
theorem pl_ok_eq (e : ∀ k, k ≤ 12 → H (B + k) = J (B + k)) (ok : pl_ok J B) : pl_ok H B := by
  have e0 : H B = J B := e 0 (by omega)
  unfold pl_ok at ok ⊢
  rw [e0, e 1 (by omega), e 2 (by omega), e 3 (by omega), e 4 (by omega), e 5 (by omega), e 6 (by omega), e 7 (by omega), e 8 (by omega), e 9 (by omega), e 10 (by omega), e 11 (by omega), e 12 (by omega)]
  exact ok
theorem pl_fr_eq (e : ∀ k, k ≤ 12 → H (B + k) = J (B + k)) (f : Nat → Int) (x : Int) : pl_fr H B f x = pl_fr J B f x := by
  have e0 : H B = J B := e 0 (by omega)
  unfold pl_fr
  rw [e0, e 1 (by omega)]
theorem pl_cf_ok (ok : pl_ok J B) {f : Nat → Int} (hf : ∀ i : Nat, i < 16 → 0 ≤ f i) (hh : h = 0 ∨ h = 1) : a_ok (pl_cf J B f h) := by
  refine ⟨ok.1, ok.2.1, ok.2.2.1, ok.2.2.2.1, hh, fun x h0 h1 => ?_⟩
  show 0 ≤ pl_fr J B f x ∧ pl_fr J B f x ≤ 6
  have h2 := (ok.2.2.2.2.2.2.2.2.1 x.toNat (by omega)).1
  have h3 := hf x.toNat (by omega)
  have h4 := ok.2.1
  unfold pl_fr
  split <;> omega
/-- the numbers of a space -/
def sp_a (J : Nat → Nat → Int) (A B : Nat) (h : Int) : Nat → Nat → Int := m_up (m_up (m_up (m_up (m_up (m_up (m_up (m_up J A 0 (J B 0)) A 1 (J B 1)) A 2 (J B 2)) A 3 (J B 3)) A 5 h) A 6 (2 * J B 2 + 1)) A 7 (2 * J B 3 + 1)) A 4 (J B 0 * J B 1 * (2 * J B 3 + 1) * (2 * J B 2 + 1) * (2 * J B 3 + 1))
def sp_b (J : Nat → Nat → Int) (A B R : Nat) (h : Int) : Nat → Nat → Int := m_fl (sp_a J A B h) (A + 1) 0 (fun i => pl_fr J B (J R) (i : Int)) 16
def sp_c (J : Nat → Nat → Int) (A B R : Nat) (h : Int) : Nat → Nat → Int := m_fl (m_up (sp_b J A B R h) A 8 0) (A + 2) 0 (fun _ => 0) 864
theorem sp_a_o {b i : Nat} (q : b ≠ A) : sp_a J A B h b i = J b i := by
  unfold sp_a
  simp only [m_up_at]
  rw [if_neg (fun g => q g.1), if_neg (fun g => q g.1), if_neg (fun g => q g.1), if_neg (fun g => q g.1), if_neg (fun g => q g.1), if_neg (fun g => q g.1), if_neg (fun g => q g.1), if_neg (fun g => q g.1)]
theorem sp_c_A {i : Nat} (q : i ≠ 8) : sp_c J A B R h A i = sp_a J A B h A i := by
  unfold sp_c sp_b
  rw [m_fl_o (by omega), m_up_at, if_neg (fun g => q g.2), m_fl_o (by omega)]
theorem sp_c_i0 : sp_i0 (sp_c J A B R h) A (pl_cf J B (J R) h) := by
  refine ⟨?_, ?_, ?_, ?_, ?_, fun x a b => ?_⟩
  · rw [sp_c_A (by omega)]; simp [sp_a, m_up, pl_cf]
  · rw [sp_c_A (by omega)]; simp [sp_a, m_up, pl_cf]
  · rw [sp_c_A (by omega)]; simp [sp_a, m_up, pl_cf]
  · rw [sp_c_A (by omega)]; simp [sp_a, m_up, pl_cf]
  · rw [sp_c_A (by omega)]; simp [sp_a, m_up, pl_cf]
  · unfold sp_c sp_b
    rw [m_fl_o (by omega), m_up_at, if_neg (by omega), m_fl_i (by omega)]
    show pl_fr J B (J R) ((x.toNat - 0 : Nat) : Int) = pl_fr J B (J R) x
    rw [Nat.sub_zero, Int.toNat_of_nonneg a]
theorem sp_c_7 : sp_c J A B R h A 7 = 2 * sp_c J A B R h A 3 + 1 := by
  rw [sp_c_A (by omega), sp_c_A (by omega)]
  simp [sp_a, m_up]
theorem sp_c_z : ∀ i : Nat, i < 864 → sp_c J A B R h (A + 2) i = 0 := fun i hi => by
  unfold sp_c
  rw [m_fl_i (by omega)]
theorem sp_h_z : sp_h (sp_c J A B R h) A C 0 = sp_c J A B R h := by
  unfold sp_h
  rw [m_fl_0]
  funext b i
  rw [m_up_at]
  by_cases q : b = A ∧ i = 8
  · rw [if_pos q, q.1, q.2]
    unfold sp_c
    rw [m_fl_o (by omega), m_up_same]
    rfl
  · rw [if_neg q]
theorem l_Sp_lay1 (hA : sp_sh en A T P) (hC : sp_i0 K A C) (ok : a_ok C) (h7 : K A 7 = 2 * K A 3 + 1) (hz : ∀ i : Nat, i < 864 → K (A + 2) i = 0) {x : Int} {h2 : Option Value} {r1 r2 : Option Value} (hx : 0 ≤ x ∧ x < K A 0)
    (hq : ∀ o5, m_wp en (d + 3) mSp_lay 157 [some (.ref A), r1, r2, h2, some (.int (m_i (x + 1))), o5] [] (T, m_I (sp_h K A C ((x + 1) * K A 1 * K A 7)), P, L, z, w) Q) :
    ∀ (m : Nat) (e : Int), e + m = K A 1 + 1 → 1 ≤ e → m_wp en (d + 3) mSp_lay 169 [some (.ref A), r1, r2, h2, some (.int (m_i x)), some (.int (m_i e))] [] (T, m_I (sp_h K A C ((x * K A 1 + e - 1) * K A 7)), P, L, z, w) Q := by
  have e0 : K A 0 = C.1 := hC.1
  have e1 : K A 1 = C.2.1 := hC.2.1
  have e3 : K A 3 = C.2.2.2.1 := hC.2.2.2.1
  have k0 := ok.1
  have k1 := ok.2.1
  have k3 := ok.2.2.2.1
  intro m
  induction m with
  | zero =>
    intro e he h1
    rw [show (x * K A 1 + e - 1) * K A 7 = (x + 1) * K A 1 * K A 7 by rw [Int.add_mul x 1, Int.one_mul]; congr 1; omega]
    unfold sp_h at hq ⊢
    refine r_il eSp_lay_169 rfl ?_
    refine r_aln eSp_lay_171 rfl ?_
    refine r_gete (x := K A 1) eSp_lay_172 rfl (by decide) hA.2.1 (by rw [m_up_at, if_neg (by omega), m_fl_o (by omega)]) ?_
    refine r_cgt (tgt := 192) eSp_lay_175 rfl ⟨(by omega), (by omega)⟩ ⟨(by omega), (by omega)⟩ (fun c175 => ?_) (fun c175 => ?_)
    · refine r_inc (ls' := [some (.ref A), r1, r2, h2, some (.int (m_i (x + 1))), some (.int (m_i (e)))]) eSp_lay_192 rfl rfl ?_
      refine r_go (tgt := 157) eSp_lay_195 rfl ?_
      exact hq _
    · exfalso; omega
  | succ m ih =>
    intro e he h1
    have hi := ih (e + 1) (by omega) (by omega)
    rw [show (x * K A 1 + (e + 1) - 1) * K A 7 = (x * K A 1 + e - 1) * K A 7 + K A 7 by rw [show x * K A 1 + (e + 1) - 1 = (x * K A 1 + e - 1) + 1 by omega, Int.add_mul (x * K A 1 + e - 1) 1, Int.one_mul]] at hi
    have hix := sp_ix (W := K A 0) (D := K A 1) (S := K A 7) (r := 0) hx (e := e) (by omega) (by omega)
    have hw1 : K A 0 * K A 1 ≤ 16 * 6 := Int.mul_le_mul (by omega) (by omega) (by omega) (by omega)
    have hw0 : 0 ≤ K A 0 * K A 1 := Int.mul_nonneg (by omega) (by omega)
    have hw2 : K A 0 * K A 1 * K A 7 ≤ 16 * 6 * 9 := Int.mul_le_mul hw1 (by omega) (by omega) (by omega)
    have hr : ∀ t : Int, -K A 3 ≤ t → t ≤ K A 3 → sp_r C ((x * K A 1 + e - 1) * K A 7 + t + K A 3) = a_b (a_sd C x e t) := fun t a b => by
      rw [Int.add_assoc, h7, e1, e3]
      exact sp_r_e ok (by omega) (by omega) (by omega)
    refine r_il eSp_lay_169 rfl ?_
    refine r_aln eSp_lay_171 rfl ?_
    refine r_gete (x := (sp_h K A C ((x * K A 1 + e - 1) * K A 7)) A 1) eSp_lay_172 rfl (by decide) hA.2.1 rfl ?_
    rw [show sp_h K A C ((x * K A 1 + e - 1) * K A 7) A 1 = K A 1 by unfold sp_h; rw [m_up_at, if_neg (by omega), m_fl_o (by omega)]]
    refine r_cgt (tgt := 192) eSp_lay_175 rfl ⟨(by omega), (by omega)⟩ ⟨(by omega), (by omega)⟩ (fun c175 => ?_) (fun c175 => ?_)
    · exfalso; omega
    · refine r_aln eSp_lay_178 rfl ?_
      refine r_il eSp_lay_179 rfl ?_
      refine r_il eSp_lay_181 rfl ?_
      refine r_vir eSp_lay_183 rfl rfl rfl hA.2.1 rfl rfl ?_
      refine c_Sp_layRopes hA hC ok h7 hz (by omega) (by omega) rfl (by omega) hr ?_
      show m_wp en _ mSp_lay 186 [some (.ref A), r1, r2, h2, some (.int (m_i (x))), some (.int (m_i (e)))] [] (T, m_I (((sp_h K A C ((x * K A 1 + e - 1) * K A 7 + K A 7)))), P, L, z, w) Q
      refine r_inc (ls' := [some (.ref A), r1, r2, h2, some (.int (m_i (x))), some (.int (m_i (e + 1)))]) eSp_lay_186 rfl rfl ?_
      refine r_go (tgt := 169) eSp_lay_189 rfl ?_
      exact hi
end SPM
