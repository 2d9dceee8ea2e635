/-! a search of the class: one state worked off -/
abbrev g_T : Type := (Nat → Int) × (Nat → Int) × Int
/-- where a code leads, forward or backward -/
def g_nx (bw : Int) (σ : a_S) (c : Int) : a_S := if bw = 0 then a_step σ c 0 else a_back σ c
def g_add (C : a_C) (g : g_T) (τ : a_S) (v : Int) : g_T := (fun i => if i = (a_nb C τ).toNat then v else g.1 i, fun i => if i = g.2.2.toNat then a_pk τ else g.2.1 i, g.2.2 + 1)
def g_one (C : a_C) (n : Nat) (bw most by_ : Int) (σ : a_S) (st : Int) (c : Nat) (g : g_T) : g_T := if by_ / ((2 ^ c : Nat) : Int) % 2 = 1 ∧ (-most ≤ (g_nx bw σ (c : Int)).2.2.1 ∧ (g_nx bw σ (c : Int)).2.2.1 ≤ most) ∧ a_is C (g_nx bw σ (c : Int)) = true ∧ g.1 (a_nb C (g_nx bw σ (c : Int))).toNat = 0 ∧ g.2.2 < n then g_add C g (g_nx bw σ (c : Int)) (st * 16 + ((c : Int) + 1)) else g
def g_all (C : a_C) (n : Nat) (bw most by_ : Int) (σ : a_S) (st : Int) (g : g_T) : Nat → g_T
  | 0 => g
  | c + 1 => g_one C n bw most by_ σ st c (g_all C n bw most by_ σ st g c)
/-- steps of a number, as far as the search has come -/
def a_met (m : Nat → Int) (n : Nat) (k : Int) : Int := if 0 ≤ k ∧ k < n ∧ m k.toNat ≠ 0 then m k.toNat / 16 else -2
def a_cm (m : Nat → Int) (n : Nat) (k : Int) : Int := if 0 ≤ k ∧ k < n ∧ m k.toNat ≠ 0 ∧ m k.toNat % 16 - 1 < 9 then m k.toNat % 16 - 1 else -1
theorem a_is_p5 {C : a_C} {σ : a_S} (ok : a_ok C) (h : a_is C σ = true) : a_p5 σ := by
  obtain ⟨x, v, t, l, e⟩ := σ
  obtain ⟨h0, h1, h2, h3, h4, -⟩ := a_is_sd.mp h
  have k0 := ok.1
  have k1 := ok.2.1
  have k2 := ok.2.2.1
  have k3 := ok.2.2.2.1
  unfold a_abs at h1 h3 h4
  unfold a_p5
  simp only
  refine ⟨by omega, ?_, ?_, ?_, by omega⟩
  · split at h1 <;> omega
  · split at h3 <;> omega
  · split at h4 <;> omega
/-- how many numbers there are -/
def a_sz (C : a_C) : Int := C.1 * C.2.1 * (2 * C.2.2.2.1 + 1) * (2 * C.2.2.1 + 1) * (2 * C.2.2.2.1 + 1)
theorem a_sz_b {C : a_C} (ok : a_ok C) : 216 ≤ a_sz C ∧ a_sz C ≤ 38880 := by
  have k0 := ok.1
  have k1 := ok.2.1
  have k2 := ok.2.2.1
  have k3 := ok.2.2.2.1
  unfold a_sz
  have u1 : C.1 * C.2.1 ≤ 16 * 6 := Int.mul_le_mul (by omega) (by omega) (by omega) (by omega)
  have l1 : 4 * 2 ≤ C.1 * C.2.1 := Int.mul_le_mul (by omega) (by omega) (by omega) (by omega)
  have u2 : C.1 * C.2.1 * (2 * C.2.2.2.1 + 1) ≤ 16 * 6 * 9 := Int.mul_le_mul u1 (by omega) (by omega) (by omega)
  have l2 : 4 * 2 * 3 ≤ C.1 * C.2.1 * (2 * C.2.2.2.1 + 1) := Int.mul_le_mul l1 (by omega) (by omega) (by omega)
  have u3 : C.1 * C.2.1 * (2 * C.2.2.2.1 + 1) * (2 * C.2.2.1 + 1) ≤ 16 * 6 * 9 * 5 := Int.mul_le_mul u2 (by omega) (by omega) (by omega)
  have l3 : 4 * 2 * 3 * 3 ≤ C.1 * C.2.1 * (2 * C.2.2.2.1 + 1) * (2 * C.2.2.1 + 1) := Int.mul_le_mul l2 (by omega) (by omega) (by omega)
  have u4 : C.1 * C.2.1 * (2 * C.2.2.2.1 + 1) * (2 * C.2.2.1 + 1) * (2 * C.2.2.2.1 + 1) ≤ 16 * 6 * 9 * 5 * 9 := Int.mul_le_mul u3 (by omega) (by omega) (by omega)
  have l4 : 4 * 2 * 3 * 3 * 3 ≤ C.1 * C.2.1 * (2 * C.2.2.2.1 + 1) * (2 * C.2.2.1 + 1) * (2 * C.2.2.2.1 + 1) := Int.mul_le_mul l3 (by omega) (by omega) (by omega)
  omega
/-- a digit more -/
theorem a_dig {a b m n : Int} (ha : 0 ≤ a ∧ a < m) (hb : 0 ≤ b ∧ b < n) : 0 ≤ a * n + b ∧ a * n + b < m * n := by
  have h1 : 0 ≤ a * n := Int.mul_nonneg ha.1 (by omega)
  have h2 : (a + 1) * n ≤ m * n := Int.mul_le_mul (by omega) (Int.le_refl n) (by omega) (by omega)
  rw [Int.add_mul, Int.one_mul] at h2
  omega
theorem a_dig_i {a b a' b' n : Int} (hb : 0 ≤ b ∧ b < n) (hb' : 0 ≤ b' ∧ b' < n) (e : a * n + b = a' * n + b') : a = a' ∧ b = b' := by
  have h1 : ∀ x y : Int, x < y → x * n + n ≤ y * n := fun x y h => by
    have h2 : (x + 1) * n ≤ y * n := Int.mul_le_mul_of_nonneg_right (by omega) (by omega)
    rw [Int.add_mul, Int.one_mul] at h2
    exact h2
  rcases Int.lt_trichotomy a a' with q | q | q
  · have := h1 _ _ q; omega
  · subst q; exact ⟨rfl, by omega⟩
  · have := h1 _ _ q; omega
theorem a_nb_b {C : a_C} {σ : a_S} (ok : a_ok C) (h : a_is C σ = true) : 0 ≤ a_nb C σ ∧ a_nb C σ < a_sz C := by
  obtain ⟨x, v, t, l, e⟩ := σ
  obtain ⟨h0, h1, h2, h3, h4, -⟩ := a_is_sd.mp h
  have k0 := ok.1
  have k1 := ok.2.1
  have k2 := ok.2.2.1
  have k3 := ok.2.2.2.1
  have g1 : -C.2.2.1 ≤ v ∧ v ≤ C.2.2.1 := by unfold a_abs at h1; split at h1 <;> omega
  have g3 : -C.2.2.2.1 ≤ t ∧ t ≤ C.2.2.2.1 := by unfold a_abs at h3; split at h3 <;> omega
  have g4 : -C.2.2.2.1 ≤ l ∧ l ≤ C.2.2.2.1 := by unfold a_abs at h4; split at h4 <;> omega
  have e1 := a_dig (a := x) (b := e - 1) (m := C.1) (n := C.2.1) h0 (by omega)
  rw [← Int.add_sub_assoc] at e1
  have e2 := a_dig (a := x * C.2.1 + e - 1) (b := t + C.2.2.2.1) (m := C.1 * C.2.1) (n := 2 * C.2.2.2.1 + 1) e1 (by omega)
  have e3 := a_dig (b := v + C.2.2.1) (n := 2 * C.2.2.1 + 1) e2 (by omega)
  have e4 := a_dig (b := l + C.2.2.2.1) (n := 2 * C.2.2.2.1 + 1) e3 (by omega)
  unfold a_nb a_sz
  rw [if_pos h]
  exact e4
theorem a_nb_i {C : a_C} {σ τ : a_S} (ok : a_ok C) (h : a_is C σ = true) (h' : a_is C τ = true) (q : a_nb C σ = a_nb C τ) : σ = τ := by
  obtain ⟨x, v, t, l, e⟩ := σ
  obtain ⟨x', v', t', l', e'⟩ := τ
  unfold a_nb at q
  rw [if_pos h, if_pos h'] at q
  simp only at q
  obtain ⟨h0, h1, h2, h3, h4, -⟩ := a_is_sd.mp h
  obtain ⟨h0', h1', h2', h3', h4', -⟩ := a_is_sd.mp h'
  have g1 : -C.2.2.1 ≤ v ∧ v ≤ C.2.2.1 := by unfold a_abs at h1; split at h1 <;> omega
  have g3 : -C.2.2.2.1 ≤ t ∧ t ≤ C.2.2.2.1 := by unfold a_abs at h3; split at h3 <;> omega
  have g4 : -C.2.2.2.1 ≤ l ∧ l ≤ C.2.2.2.1 := by unfold a_abs at h4; split at h4 <;> omega
  have g1' : -C.2.2.1 ≤ v' ∧ v' ≤ C.2.2.1 := by unfold a_abs at h1'; split at h1' <;> omega
  have g3' : -C.2.2.2.1 ≤ t' ∧ t' ≤ C.2.2.2.1 := by unfold a_abs at h3'; split at h3' <;> omega
  have g4' : -C.2.2.2.1 ≤ l' ∧ l' ≤ C.2.2.2.1 := by unfold a_abs at h4'; split at h4' <;> omega
  obtain ⟨q, q4⟩ := a_dig_i (by omega) (by omega) q
  obtain ⟨q, q1⟩ := a_dig_i (by omega) (by omega) q
  obtain ⟨q, q3⟩ := a_dig_i (by omega) (by omega) q
  rw [Int.add_sub_assoc, Int.add_sub_assoc] at q
  obtain ⟨q0, q2⟩ := a_dig_i (by omega) (by omega) q
  rw [q0, show v = v' by omega, show t = t' by omega, show l = l' by omega, show e = e' by omega]
/-- a search, its rows, its space -/
def se_at (en : Nat → Nat) (S R U n A : Nat) (T : Nat → Option (Nat × Nat)) (P : Nat → Nat → Option Nat) : Prop := (en 0 ≤ S ∧ T S = some (8, 0)) ∧ (P S 0 = some R ∧ T R = some (20, n) ∧ en 0 ≤ R) ∧ (P S 1 = some U ∧ T U = some (20, n) ∧ en 0 ≤ U) ∧ (P S 4 = some A ∧ sp_sh en A T P) ∧ (P S 8 = some (S + 3) ∧ po_sh en (S + 3) T P) ∧ (P S 9 = some (S + 4) ∧ po_sh en (S + 4) T P) ∧ n ≤ 38880 ∧ A + 3 ≤ S ∧ (R = S + 1 ∨ S + 5 ≤ R) ∧ (U = S + 2 ∨ S + 5 ≤ U) ∧ R ≠ U
def se_g (J : Nat → Nat → Int) (S R U : Nat) : g_T := (J R, J U, J S 3)
/-- what a search leaves as it was -/
def se_fr (J J' : Nat → Nat → Int) (S R U : Nat) : Prop := ∀ b i, b ≠ R → b ≠ U → ¬ (b = S ∧ (i = 2 ∨ i = 3)) → b ≠ S + 3 → b ≠ S + 4 → J' b i = J b i
section SEA
variable {en : Nat → Nat} {d : Nat} {T : Nat → Option (Nat × Nat)} {J J0 J1 K H : Nat → Nat → Int} {P : Nat → Nat → Option Nat} {L : Nat → Nat → Int64} {z w A B R U S n X : Nat} {Q : m_Q} {σ τ : a_S} {C : a_C} {h : Int}
theorem sp_is_e (hC : sp_is J A C) (h0 : ∀ i, J1 A i = J A i) (h1 : ∀ i, J1 (A + 1) i = J (A + 1) i) (h2 : ∀ i, J1 (A + 2) i = J (A + 2) i) : sp_is J1 A C := by
  unfold sp_is sp_i0 at hC ⊢
  simp only [h0, h1, h2]
  exact hC
theorem se_fr_sp (hS : se_at en S R U n A T P) (hf : se_fr J J1 S R U) (hC : sp_is J A C) : sp_is J1 A C := by
  obtain ⟨-, -, -, -, -, -, -, hA, hR, hU, -⟩ := hS
  exact sp_is_e hC (fun i => hf A i (by omega) (by omega) (by omega) (by omega) (by omega)) (fun i => hf (A + 1) i (by omega) (by omega) (by omega) (by omega) (by omega)) (fun i => hf (A + 2) i (by omega) (by omega) (by omega) (by omega) (by omega))
theorem se_fr_r : se_fr J J S R U := fun _ _ _ _ _ _ _ => rfl
theorem se_fr_t (h1 : se_fr J J1 S R U) (h2 : se_fr J1 K S R U) : se_fr J K S R U := fun b i a1 a2 a3 a4 a5 => (h2 b i a1 a2 a3 a4 a5).trans (h1 b i a1 a2 a3 a4 a5)
theorem c_Se_stepsMet (hT : T S = some (8, 0)) (hP : P S 0 = some R) (hR : T R = some (20, n)) (hn : n ≤ 38880) {k : Int} (hk : -1 ≤ k ∧ k < 100000) (hm : ∀ i : Nat, (i : Int) = k → m_in (J R i)) (hq : Q (some (.int (m_i (a_met (J R) n k)))) (T, m_I J, P, L, z, w)) : m_call en (d + 1) mSe_stepsMet [.ref S, .int (m_i k)] (T, m_I J, P, L, z, w) Q := by
  have hno : ¬ (0 ≤ k ∧ k < n ∧ J R k.toNat ≠ 0) → Q (some (.int (m_i (-2)))) (T, m_I J, P, L, z, w) := fun q => by
    unfold a_met at hq
    rw [if_neg q] at hq
    exact hq
  have hyes : (0 ≤ k ∧ k < n ∧ J R k.toNat ≠ 0) → Q (some (.int (m_i (m_shr (J R k.toNat) 4)))) (T, m_I J, P, L, z, w) := fun q => by
    unfold a_met at hq
    rw [if_pos q] at hq
    rw [m_shr_v (k := 4) (hm k.toNat (by omega)) 4 rfl (by omega)]
    exact hq
  have hmk : 0 ≤ k → -2147483648 ≤ J R k.toNat ∧ J R k.toNat < 2147483648 := fun q => hm k.toNat (by omega)
  refine m_into (by decide) (Nat.le_of_ble_eq_true rfl) rfl ?_
  show m_wp en _ mSe_stepsMet 0 [some (.ref S), some (.int (m_i (k)))] [] (T, m_I J, P, L, z, w) Q
  refine r_iln eSe_stepsMet_0 rfl ?_
  refine r_zlt (tgt := 22) eSe_stepsMet_1 rfl ⟨(by omega), (by omega)⟩ (fun c1 => ?_) (fun c1 => ?_)
  · refine r_bip eSe_stepsMet_22 (by decide) ?_
    refine r_iret eSe_stepsMet_24 rfl ?_
    exact hno (by omega)
  · refine r_iln eSe_stepsMet_4 rfl ?_
    refine r_aln eSe_stepsMet_5 rfl ?_
    refine m_getR eSe_stepsMet_6 rfl hT hP ?_
    refine r_alen eSe_stepsMet_9 hR (by decide) ?_
    refine r_cge (tgt := 22) eSe_stepsMet_10 rfl ⟨(by omega), (by omega)⟩ ⟨(by omega), (by omega)⟩ (fun c10 => ?_) (fun c10 => ?_)
    · refine r_bip eSe_stepsMet_22 (by decide) ?_
      refine r_iret eSe_stepsMet_24 rfl ?_
      exact hno (by omega)
    · have hmk2 := hmk (by omega)
      refine r_aln eSe_stepsMet_13 rfl ?_
      refine m_getR eSe_stepsMet_14 rfl hT hP ?_
      refine r_iln eSe_stepsMet_17 rfl ?_
      refine r_ialde (x := J R ((k).toNat)) eSe_stepsMet_18 hR (by omega) (by omega) (by omega) rfl ?_
      refine r_zne (tgt := 25) eSe_stepsMet_19 rfl ⟨(by omega), (by omega)⟩ (fun c19 => ?_) (fun c19 => ?_)
      · refine r_aln eSe_stepsMet_25 rfl ?_
        refine m_getR eSe_stepsMet_26 rfl hT hP ?_
        refine r_iln eSe_stepsMet_29 rfl ?_
        refine r_ialde (x := J R ((k).toNat)) eSe_stepsMet_30 hR (by omega) (by omega) (by omega) rfl ?_
        refine r_con eSe_stepsMet_31 ?_
        refine r_shr eSe_stepsMet_32 ?_
        refine r_iret eSe_stepsMet_33 rfl ?_
        exact hyes (by omega)
      · refine r_bip eSe_stepsMet_22 (by decide) ?_
        refine r_iret eSe_stepsMet_24 rfl ?_
        exact hno (by omega)
theorem c_Se_codeMet (hT : T S = some (8, 0)) (hP : P S 0 = some R) (hR : T R = some (20, n)) (hn : n ≤ 38880) {k : Int} (hk : -1 ≤ k ∧ k < 100000) (hm : ∀ i : Nat, (i : Int) = k → m_in (J R i)) (hq : Q (some (.int (m_i (a_cm (J R) n k)))) (T, m_I J, P, L, z, w)) : m_call en (d + 1) mSe_codeMet [.ref S, .int (m_i k)] (T, m_I J, P, L, z, w) Q := by
  have hno : ¬ (0 ≤ k ∧ k < n ∧ J R k.toNat ≠ 0 ∧ J R k.toNat % 16 - 1 < 9) → Q (some (.int (m_i (-1)))) (T, m_I J, P, L, z, w) := fun q => by
    unfold a_cm at hq
    rw [if_neg q] at hq
    exact hq
  have hyes : (0 ≤ k ∧ k < n ∧ J R k.toNat ≠ 0 ∧ J R k.toNat % 16 - 1 < 9) → Q (some (.int (m_i (J R k.toNat % 16 - 1)))) (T, m_I J, P, L, z, w) := fun q => by
    unfold a_cm at hq
    rw [if_pos q] at hq
    exact hq
  have hmk : 0 ≤ k → -2147483648 ≤ J R k.toNat ∧ J R k.toNat < 2147483648 := fun q => hm k.toNat (by omega)
  have s1 := m_and_15 (J R k.toNat)
  refine m_into (by decide) (Nat.le_of_ble_eq_true rfl) rfl ?_
  show m_wp en _ mSe_codeMet 0 [some (.ref S), some (.int (m_i (k))), none] [] (T, m_I J, P, L, z, w) Q
  refine r_iln eSe_codeMet_0 rfl ?_
  refine r_zlt (tgt := 22) eSe_codeMet_1 rfl ⟨(by omega), (by omega)⟩ (fun c1 => ?_) (fun c1 => ?_)
  · refine r_con eSe_codeMet_22 ?_
    refine r_iret eSe_codeMet_23 rfl ?_
    exact hno (by omega)
  · refine r_iln eSe_codeMet_4 rfl ?_
    refine r_aln eSe_codeMet_5 rfl ?_
    refine m_getR eSe_codeMet_6 rfl hT hP ?_
    refine r_alen eSe_codeMet_9 hR (by decide) ?_
    refine r_cge (tgt := 22) eSe_codeMet_10 rfl ⟨(by omega), (by omega)⟩ ⟨(by omega), (by omega)⟩ (fun c10 => ?_) (fun c10 => ?_)
    · refine r_con eSe_codeMet_22 ?_
      refine r_iret eSe_codeMet_23 rfl ?_
      exact hno (by omega)
    · have hmk2 := hmk (by omega)
      refine r_aln eSe_codeMet_13 rfl ?_
      refine m_getR eSe_codeMet_14 rfl hT hP ?_
      refine r_iln eSe_codeMet_17 rfl ?_
      refine r_ialde (x := J R ((k).toNat)) eSe_codeMet_18 hR (by omega) (by omega) (by omega) rfl ?_
      refine r_zne (tgt := 24) eSe_codeMet_19 rfl ⟨(by omega), (by omega)⟩ (fun c19 => ?_) (fun c19 => ?_)
      · refine r_aln eSe_codeMet_24 rfl ?_
        refine m_getR eSe_codeMet_25 rfl hT hP ?_
        refine r_iln eSe_codeMet_28 rfl ?_
        refine r_ialde (x := J R ((k).toNat)) eSe_codeMet_29 hR (by omega) (by omega) (by omega) rfl ?_
        refine r_bip eSe_codeMet_30 (by decide) ?_
        refine r_and eSe_codeMet_32 ?_
        rw [s1]
        refine r_con eSe_codeMet_33 ?_
        refine r_sub eSe_codeMet_34 ?_
        refine r_isn (ls' := [some (.ref S), some (.int (m_i (k))), some (.int (m_i ((J R k.toNat % 16) - (1))))]) eSe_codeMet_35 (Nat.le_of_ble_eq_true rfl) rfl ?_
        refine r_iln eSe_codeMet_36 rfl ?_
        refine r_bip eSe_codeMet_37 (by decide) ?_
        refine r_cge (tgt := 46) eSe_codeMet_39 rfl ⟨(by omega), (by omega)⟩ ⟨(by omega), (by omega)⟩ (fun c39 => ?_) (fun c39 => ?_)
        · refine r_con eSe_codeMet_46 ?_
          refine r_iret eSe_codeMet_47 rfl ?_
          first | exact hyes (by omega) | exact hno (by omega)
        · refine r_iln eSe_codeMet_42 rfl ?_
          refine r_go (tgt := 47) eSe_codeMet_43 rfl ?_
          refine r_iret eSe_codeMet_47 rfl ?_
          first | exact hyes (by omega) | exact hno (by omega)
      · refine r_con eSe_codeMet_22 ?_
        refine r_iret eSe_codeMet_23 rfl ?_
        exact hno (by omega)
end SEA
