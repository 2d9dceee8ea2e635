/-! THE TIE: safe -/
noncomputable def a_dc (p : Prop) : Bool := @decide p (Classical.propDecidable p)
theorem a_dc_t {p : Prop} : a_dc p = true ↔ p := @decide_eq_true_iff p (Classical.propDecidable p)
noncomputable def sf_g (C : a_C) (k : Nat) : Bool := a_dc (a_is C (a_of (k : Int)) = true ∧ ∃ t, 0 ≤ t ∧ s_ans C (-1) 0 (k : Int) t)
noncomputable def sf_b (C : a_C) (k : Nat) : Bool := a_dc (a_is C (a_of (k : Int)) = true ∧ s_ans C (-1) 0 (k : Int) (-2))
/-- the state of a number of the class's -/
def sf_d (C : a_C) (m : Nat) : a_S := ((m : Int) / (2 * C.2.2.2.1 + 1) / (2 * C.2.2.1 + 1) / (2 * C.2.2.2.1 + 1) / C.2.1, (m : Int) / (2 * C.2.2.2.1 + 1) % (2 * C.2.2.1 + 1) - C.2.2.1, (m : Int) / (2 * C.2.2.2.1 + 1) / (2 * C.2.2.1 + 1) % (2 * C.2.2.2.1 + 1) - C.2.2.2.1, (m : Int) % (2 * C.2.2.2.1 + 1) - C.2.2.2.1, (m : Int) / (2 * C.2.2.2.1 + 1) / (2 * C.2.2.1 + 1) / (2 * C.2.2.2.1 + 1) % C.2.1 + 1)
def sf_h (C : a_C) (i : Nat) : Bool := decide (sp_r C (i : Int) = 1)
section TQG
variable {en : Nat → Nat} {X M N O z0 w0 : Nat} {T0 : Nat → Option (Nat × Nat)} {J0 : Nat → Nat → Int} {k : Nat} {T T' : Nat → Option (Nat × Nat)} {J J' J1 K : Nat → Nat → Int} {P P' : Nat → Nat → Option Nat} {L L' : Nat → Nat → Int64} {z w z' w' zb wb : Nat} {C : a_C}
theorem s_ans_ex (C : a_C) (goal lev n : Int) : ∃ r, s_ans C goal lev n r := by
  by_cases q : ∃ t, b_D (s_S C goal) (s_E C lev) t n
  · obtain ⟨t, q⟩ := q
    obtain ⟨m, q1, q2⟩ := nat_least (p := fun t => b_D (s_S C goal) (s_E C lev) t n) t q
    exact ⟨(m : Int), Or.inr ⟨m, rfl, q1, q2⟩⟩
  · exact ⟨-2, Or.inl ⟨rfl, fun t c => q ⟨t, c⟩⟩⟩
theorem sf_cn (ok : a_ok C) : ∀ (n : Nat) (g b : Int), s_sfc C n g b → g = (a_cn (sf_g C) n : Int) ∧ b = (a_cn (sf_b C) n : Int) := by
  intro n
  induction n with
  | zero => intro g b h; exact h
  | succ n ih =>
    intro g b h
    obtain ⟨g0, b0, h0, h⟩ := h
    obtain ⟨i1, i2⟩ := ih g0 b0 h0
    rw [a_cn_s, a_cn_s]
    rcases h with ⟨h1, h2, h3⟩ | ⟨h1, ⟨t, h2, h3⟩, h4, h5⟩ | ⟨h1, h2, h3, h4⟩
    · rw [if_neg (fun q => h1 (a_dc_t.mp q).1), if_neg (fun q => h1 (a_dc_t.mp q).1)]
      omega
    · rw [if_pos (show sf_g C n = true from a_dc_t.mpr ⟨h1, t, h2, h3⟩), if_neg (fun q => by have := s_ans_u (a_dc_t.mp q).2 h3; omega)]
      omega
    · rw [if_neg (fun q => by
        obtain ⟨t, q1, q2⟩ := (a_dc_t.mp q).2
        have := s_ans_u q2 h2
        omega), if_pos (show sf_b C n = true from a_dc_t.mpr ⟨h1, h2⟩)]
      omega
theorem sf_gb (ok : a_ok C) : ∀ n, a_cn (sf_g C) n + a_cn (sf_b C) n = a_cn (fun k => a_is C (a_of (k : Int))) n := by
  intro n
  induction n with
  | zero => rfl
  | succ n ih =>
    rw [a_cn_s, a_cn_s, a_cn_s, ← ih]
    by_cases h1 : a_is C (a_of (n : Int)) = true
    · rw [if_pos h1]
      obtain ⟨r, hr⟩ := s_ans_ex C (-1) 0 (n : Int)
      rcases s_ans_bd ok hr with h2 | h2
      · rw [h2] at hr
        rw [if_neg (fun q => by
          obtain ⟨t, q1, q2⟩ := (a_dc_t.mp q).2
          have := s_ans_u q2 hr
          omega), if_pos (show sf_b C n = true from a_dc_t.mpr ⟨h1, hr⟩)]
        omega
      · rw [if_pos (show sf_g C n = true from a_dc_t.mpr ⟨h1, r, h2.1, hr⟩), if_neg (fun q => by have := s_ans_u (a_dc_t.mp q).2 hr; omega)]
        omega
    · rw [if_neg h1, if_neg (fun q => h1 (a_dc_t.mp q).1), if_neg (fun q => h1 (a_dc_t.mp q).1)]
      omega
theorem sf_D_is (ok : a_ok C) : ∀ (t : Nat) (σ : a_S), b_D (w_sh C) (g_E C 1 4 511) t σ → a_is C σ = true := by
  intro t σ q
  cases t with
  | zero => exact q.1
  | succ t =>
    obtain ⟨τ, -, c, -, q1, q2⟩ := q
    rw [q2]
    exact q1.2.2
theorem sf_r (ok : a_ok C) {r : Nat} {q : Nat → a_S} (h1 : ∀ i j, i < r → j < r → q i = q j → i = j) (h2 : ∀ σ, (∃ i, i < r ∧ q i = σ) ↔ ∃ t, b_D (w_sh C) (g_E C 1 4 511) t σ) : a_cn (sf_g C) 38880 = r := by
  have hm : ∀ i, i < r → a_is C (q i) = true ∧ ∃ t, b_D (w_sh C) (g_E C 1 4 511) t (q i) := fun i hi => by
    obtain ⟨t, ht⟩ := (h2 (q i)).mp ⟨i, hi, rfl⟩
    exact ⟨sf_D_is ok t _ ht, t, ht⟩
  refine Nat.le_antisymm ?_ ?_
  · have key : ∀ k : Nat, ∃ i, sf_g C k = true → i < r ∧ q i = a_of (k : Int) := fun k => by
      by_cases c : sf_g C k = true
      · obtain ⟨c1, t, c2, c3⟩ := a_dc_t.mp c
        have hb := a_is_bx ok c1
        rw [← a_no_of (Int.natCast_nonneg k)] at c3
        have c4 := (w_home ok (fun _ => Iff.rfl) c1).mp c3
        rcases c4 with ⟨t', -, c5, -⟩ | ⟨c5, -⟩
        · obtain ⟨i, hi⟩ := (h2 _).mpr ⟨t', c5⟩
          exact ⟨i, fun _ => hi⟩
        · omega
      · exact ⟨0, fun p => absurd p c⟩
    have := a_cn_i 38880 (sf_g C) (fun _ => true) r (fun k => Classical.choose (key k)) (fun k hk g => ⟨(Classical.choose_spec (key k) g).1, rfl⟩) (fun k k' a b g g' e => by
      have e1 := (Classical.choose_spec (key k) g).2
      have e2 := (Classical.choose_spec (key k') g').2
      have e3 : a_of (k : Int) = a_of (k' : Int) := by rw [← e1, ← e2]; exact congrArg q e
      have e4 := a_no_of (Int.natCast_nonneg k)
      have e5 := a_no_of (Int.natCast_nonneg k')
      rw [e3] at e4
      omega)
    rw [a_cn_t] at this
    exact this
  · have := a_cn_i r (fun _ => true) (sf_g C) 38880 (fun i => (a_no (q i)).toNat) (fun i hi _ => by
      obtain ⟨c1, t, c2⟩ := hm i hi
      have hb := a_is_bx ok c1
      have hn := a_no_bd hb
      refine ⟨by show (a_no (q i)).toNat < 38880; omega, a_dc_t.mpr ?_⟩
      rw [show (((a_no (q i)).toNat : Nat) : Int) = a_no (q i) from by omega, a_of_no hb]
      obtain ⟨r', hr'⟩ := b_ans_ex (w_sh C) (g_E C 1 4 511) (q i)
      refine ⟨c1, r', ?_, (w_home ok (fun _ => Iff.rfl) c1).mpr hr'⟩
      rcases hr' with ⟨t', e, -⟩ | ⟨-, e⟩
      · omega
      · exact (e t c2).elim) (fun i j hi hj _ _ e => h1 i j hi hj (a_no_i ok (hm i hi).1 (hm j hj).1 (by
      have := a_no_bd (a_is_bx ok (hm i hi).1)
      have := a_no_bd (a_is_bx ok (hm j hj).1)
      have e' : (a_no (q i)).toNat = (a_no (q j)).toNat := e
      omega)))
    rw [a_cn_t] at this
    exact this
theorem sf_dv {q S l : Int} (hS : 0 < S) (hl : 0 ≤ l ∧ l < S) : (q * S + l) / S = q ∧ (q * S + l) % S = l := (Int.ediv_emod_unique hS).mpr ⟨by rw [Int.mul_comm S q]; omega, hl⟩
theorem sf_ei {a b S : Int} (h1 : a / S = b / S) (h2 : a % S = b % S) : a = b := by
  have e1 := Int.mul_ediv_add_emod a S
  have e2 := Int.mul_ediv_add_emod b S
  rw [h1, h2] at e1
  omega
theorem sf_c1 {a b c : Int} (h : a + c = b + c) : a = b := by omega
theorem sf_c2 {a b c : Int} (h : a - c = b - c) : a = b := by omega
theorem sf_all (ok : a_ok C) : (a_cn (fun k => a_is C (a_of (k : Int))) 38880 : Int) = a_sum (fun i => sp_r C (i : Int)) (C.1 * C.2.1 * (2 * C.2.2.2.1 + 1)).toNat * (2 * C.2.2.1 + 1) * (2 * C.2.2.2.1 + 1) := by
  obtain ⟨o1, o2, o3, o4, -⟩ := id ok
  have hS : 0 < 2 * C.2.2.2.1 + 1 := by omega
  have hP : 0 < 2 * C.2.2.1 + 1 := by omega
  have hD : 0 < C.2.1 := by omega
  have hcell : 0 ≤ C.1 * C.2.1 * (2 * C.2.2.2.1 + 1) := Int.mul_nonneg (Int.mul_nonneg (by omega) (by omega)) (by omega)
  have hsum : a_sum (fun i => sp_r C (i : Int)) (C.1 * C.2.1 * (2 * C.2.2.2.1 + 1)).toNat = (a_cn (sf_h C) (C.1 * C.2.1 * (2 * C.2.2.2.1 + 1)).toNat : Int) := a_cn_sum (fun i => by
    unfold sf_h
    have : sp_r C (i : Int) = 0 ∨ sp_r C (i : Int) = 1 := by
      unfold sp_r
      split
      · exact a_b_01 _
      · exact Or.inl rfl
    rcases this with e | e
    · rw [e]; rfl
    · rw [e]; rfl) _
  have hN : a_cn (fun m => sf_h C (m / (2 * C.2.2.2.1 + 1).toNat / (2 * C.2.2.1 + 1).toNat)) ((C.1 * C.2.1 * (2 * C.2.2.2.1 + 1)).toNat * (2 * C.2.2.1 + 1).toNat * (2 * C.2.2.2.1 + 1).toNat) = a_cn (sf_h C) (C.1 * C.2.1 * (2 * C.2.2.2.1 + 1)).toNat * (2 * C.2.2.1 + 1).toNat * (2 * C.2.2.2.1 + 1).toNat := by
    rw [a_cn_div (g := fun n => sf_h C (n / (2 * C.2.2.1 + 1).toNat)) (S := (2 * C.2.2.2.1 + 1).toNat) (by omega), a_cn_div (g := sf_h C) (S := (2 * C.2.2.1 + 1).toNat) (by omega)]
  have hc1 : (((2 * C.2.2.2.1 + 1).toNat : Nat) : Int) = 2 * C.2.2.2.1 + 1 := by omega
  have hc2 : (((2 * C.2.2.1 + 1).toNat : Nat) : Int) = 2 * C.2.2.1 + 1 := by omega
  have hc3 : (((C.1 * C.2.1 * (2 * C.2.2.2.1 + 1)).toNat : Nat) : Int) = C.1 * C.2.1 * (2 * C.2.2.2.1 + 1) := by omega
  have hcd : ∀ m : Nat, ((m / (2 * C.2.2.2.1 + 1).toNat / (2 * C.2.2.1 + 1).toNat : Nat) : Int) = (m : Int) / (2 * C.2.2.2.1 + 1) / (2 * C.2.2.1 + 1) := fun m => by rw [Int.natCast_ediv, Int.natCast_ediv, hc1, hc2]
  have hNc : (((C.1 * C.2.1 * (2 * C.2.2.2.1 + 1)).toNat * (2 * C.2.2.1 + 1).toNat * (2 * C.2.2.2.1 + 1).toNat : Nat) : Int) = a_sz C := by
    rw [Int.natCast_mul, Int.natCast_mul, hc1, hc2, hc3]
    rfl
  rw [hsum, ← hc1, ← hc2, ← Int.natCast_mul, ← Int.natCast_mul, hc1, ← hN]
  refine congrArg Int.ofNat (Nat.le_antisymm ?_ ?_)
  · refine a_cn_i 38880 _ _ _ (fun k => (a_nb C (a_of (k : Int))).toNat) (fun k hk g => ?_) (fun k k' hk hk' g g' e => ?_)
    · have hb := a_nb_b ok g
      refine ⟨by show (a_nb C (a_of (k : Int))).toNat < _; omega, ?_⟩
      show sf_h C _ = true
      unfold sf_h
      rw [hcd, decide_eq_true_eq, show (((a_nb C (a_of (k : Int))).toNat : Nat) : Int) = a_nb C (a_of (k : Int)) from by omega]
      obtain ⟨s1, s2, s3, s4, s5, s6⟩ := (a_is_sd (C := C) (x := (a_of (k : Int)).1) (v := (a_of (k : Int)).2.1) (t := (a_of (k : Int)).2.2.1) (l := (a_of (k : Int)).2.2.2.1) (e := (a_of (k : Int)).2.2.2.2)).mp g
      have ab : ∀ v u : Int, a_abs v ≤ u → 0 ≤ v + u ∧ v + u < 2 * u + 1 := fun v u q => by unfold a_abs at q; split at q <;> omega
      have ab2 : ∀ v u : Int, a_abs v ≤ u → -u ≤ v ∧ v ≤ u := fun v u q => by unfold a_abs at q; split at q <;> omega
      unfold a_nb
      rw [if_pos g, (sf_dv hS (ab _ _ s5)).1, (sf_dv hP (ab _ _ s2)).1, sp_r_e ok s1 s3 (ab2 _ _ s4), a_b_t s6]
    · have hb := a_nb_b ok g
      have hb' := a_nb_b ok g'
      have e' : (a_nb C (a_of (k : Int))).toNat = (a_nb C (a_of (k' : Int))).toNat := e
      have e3 := a_nb_i ok g g' (by omega)
      have e4 := a_no_of (Int.natCast_nonneg k)
      have e5 := a_no_of (Int.natCast_nonneg k')
      rw [e3] at e4
      omega
  · have his : ∀ m : Nat, m < (C.1 * C.2.1 * (2 * C.2.2.2.1 + 1)).toNat * (2 * C.2.2.1 + 1).toNat * (2 * C.2.2.2.1 + 1).toNat → sf_h C (m / (2 * C.2.2.2.1 + 1).toNat / (2 * C.2.2.1 + 1).toNat) = true → a_is C (sf_d C m) = true := fun m hm g => by
      unfold sf_h at g
      rw [hcd, decide_eq_true_eq] at g
      have hm' : (m : Int) < C.1 * C.2.1 * (2 * C.2.2.2.1 + 1) * (2 * C.2.2.1 + 1) * (2 * C.2.2.2.1 + 1) := by
        have : (m : Int) < a_sz C := by omega
        exact this
      have m1 := Int.ediv_lt_of_lt_mul hS hm'
      have m2 := Int.ediv_lt_of_lt_mul hP m1
      have m3 := Int.ediv_lt_of_lt_mul hS m2
      have m4 := Int.ediv_lt_of_lt_mul hD m3
      have n0 : 0 ≤ (m : Int) := Int.natCast_nonneg m
      have n1 := Int.ediv_nonneg n0 (Int.le_of_lt hS)
      have n2 := Int.ediv_nonneg n1 (Int.le_of_lt hP)
      have n3 := Int.ediv_nonneg n2 (Int.le_of_lt hS)
      have n4 := Int.ediv_nonneg n3 (Int.le_of_lt hD)
      have r1 := Int.emod_nonneg (m : Int) (b := 2 * C.2.2.2.1 + 1) (by omega)
      have r2 := Int.emod_lt_of_pos (m : Int) hS
      have r3 := Int.emod_nonneg ((m : Int) / (2 * C.2.2.2.1 + 1)) (b := 2 * C.2.2.1 + 1) (by omega)
      have r4 := Int.emod_lt_of_pos ((m : Int) / (2 * C.2.2.2.1 + 1)) hP
      have r5 := Int.emod_nonneg ((m : Int) / (2 * C.2.2.2.1 + 1) / (2 * C.2.2.1 + 1)) (b := 2 * C.2.2.2.1 + 1) (by omega)
      have r6 := Int.emod_lt_of_pos ((m : Int) / (2 * C.2.2.2.1 + 1) / (2 * C.2.2.1 + 1)) hS
      have r7 := Int.emod_nonneg ((m : Int) / (2 * C.2.2.2.1 + 1) / (2 * C.2.2.1 + 1) / (2 * C.2.2.2.1 + 1)) (b := C.2.1) (by omega)
      have r8 := Int.emod_lt_of_pos ((m : Int) / (2 * C.2.2.2.1 + 1) / (2 * C.2.2.1 + 1) / (2 * C.2.2.2.1 + 1)) hD
      have ab : ∀ v u : Int, 0 ≤ v → v < 2 * u + 1 → a_abs (v - u) ≤ u := fun v u q1 q2 => by unfold a_abs; split <;> omega
      unfold sp_r at g
      rw [if_pos m2] at g
      refine a_is_sd.mpr ⟨⟨n4, m4⟩, ab _ _ r3 r4, ⟨by omega, by omega⟩, ab _ _ r5 r6, ab _ _ r1 r2, ?_⟩
      by_cases c : a_sd C ((m : Int) / (2 * C.2.2.2.1 + 1) / (2 * C.2.2.1 + 1) / (2 * C.2.2.2.1 + 1) / C.2.1) ((m : Int) / (2 * C.2.2.2.1 + 1) / (2 * C.2.2.1 + 1) / (2 * C.2.2.2.1 + 1) % C.2.1 + 1) ((m : Int) / (2 * C.2.2.2.1 + 1) / (2 * C.2.2.1 + 1) % (2 * C.2.2.2.1 + 1) - C.2.2.2.1) = true
      · exact c
      · rw [a_b_f c] at g
        omega
    refine a_cn_i _ _ _ 38880 (fun m => (a_no (sf_d C m)).toNat) (fun m hm g => ?_) (fun m m' hm hm' g g' e => ?_)
    · have h1 := his m hm g
      have hb := a_is_bx ok h1
      have hn := a_no_bd hb
      refine ⟨by show (a_no (sf_d C m)).toNat < 38880; omega, ?_⟩
      show a_is C (a_of (((a_no (sf_d C m)).toNat : Nat) : Int)) = true
      rw [show (((a_no (sf_d C m)).toNat : Nat) : Int) = a_no (sf_d C m) from by omega, a_of_no hb]
      exact h1
    · have h1 := his m hm g
      have h2 := his m' hm' g'
      have n1 := a_no_bd (a_is_bx ok h1)
      have n2 := a_no_bd (a_is_bx ok h2)
      have e' : (a_no (sf_d C m)).toNat = (a_no (sf_d C m')).toNat := e
      have e3 : sf_d C m = sf_d C m' := a_no_i ok h1 h2 (by omega)
      unfold sf_d at e3
      obtain ⟨a1, a2, a3, a4, a5⟩ := (show _ ∧ _ ∧ _ ∧ _ ∧ _ from ⟨congrArg (fun p : a_S => p.1) e3, congrArg (fun p : a_S => p.2.1) e3, congrArg (fun p : a_S => p.2.2.1) e3, congrArg (fun p : a_S => p.2.2.2.1) e3, congrArg (fun p : a_S => p.2.2.2.2) e3⟩)
      have b5 := sf_ei (S := C.2.1) a1 (by have := a5; exact sf_c1 this)
      have b3 := sf_ei (S := 2 * C.2.2.2.1 + 1) b5 (by have := a3; exact sf_c2 this)
      have b2 := sf_ei (S := 2 * C.2.2.1 + 1) b3 (by have := a2; exact sf_c2 this)
      have b1 := sf_ei (S := 2 * C.2.2.2.1 + 1) b2 (by have := a4; exact sf_c2 this)
      omega
theorem t_safe (h : to_I en X M N O z0 w0 T0 J0 k T J P L z w) {x : Int} (hx : m_in x) : m_call en 40 mSc_safe [.ref X, .int (m_i x)] (T, m_I J, P, L, z, w) (to_C en X M N O z0 w0 T0 J0 k mMd_safe [.ref M, .int (m_i x)]) := by
  obtain ⟨⟨⟨zb, wb, hW, hz, hw⟩, -, -⟩, -⟩ := id h
  refine c_Sc_safe hW hx (fun q => ?_) (fun q T' J' P' L' z' w' r f hW' hq hr h1 h2 => ?_)
  · refine to_mk h (fun K Q eK hK eX hQ => ?_)
    exact c_Md_safe hK.sh eK hK.inv hx (fun _ => hQ K (md_fy.refl K M) hK.inv.hkp) (fun p' => absurd p' (by omega))
  · have h' := to_Xq h hW' hz hw hq
    refine to_mk h' (fun K Q eK hK eX hQ => ?_)
    have e : ∀ b, b < X + 132 → K b = J b := fun b p => (eX b (by omega)).trans (funext (fun i => hq.2.1 b i (by omega)))
    refine c_Md_safe hK.sh eK hK.inv hx (fun p' => absurd q (by omega)) (fun _ J1 g b fx hi hv => ?_)
    have hcw : cf_w (cl_cf J X) (md_cf K M) := by rw [← x_cf e]; exact to_cf hK
    have g1 := sf_r h.ok h1 h2
    have ecn : a_cn (sf_g (cl_cf J X)) 38880 = a_cn (sf_g (md_cf K M)) 38880 := a_cn_c _ (fun i _ => by unfold sf_g; rw [cf_is hcw, cf_ans hcw])
    have eca : a_cn (fun k => a_is (cl_cf J X) (a_of (k : Int))) 38880 = a_cn (fun k => a_is (md_cf K M) (a_of (k : Int))) 38880 := a_cn_c _ (fun i _ => by rw [cf_is hcw])
    obtain ⟨v1, v2⟩ := sf_cn hK.inv.ok 38880 g b hv
    have v3 := sf_gb hK.inv.ok 38880
    have v4 := sf_all h.ok
    rw [← v4, eca] at hQ
    have e5 : (if x = 0 then g else b) = if x = 0 then (r : Int) else (a_cn (fun k => a_is (md_cf K M) (a_of (k : Int))) 38880 : Int) - (r : Int) := by
      split <;> omega
    rw [← e5] at hQ
    exact hQ J1 fx.fy hi.hkp
end TQG
