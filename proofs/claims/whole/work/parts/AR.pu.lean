/-! the class: pulses -/
def cl_cp (tn : Int) : Nat → Int → Int → Int → Int
  | 0, ms, sw, la => if ms = 0 ∧ sw = 0 ∧ la = 0 then 1 else 0
  | k + 1, ms, sw, la => if (k : Int) + 1 < a_abs ms then 0 else cl_cp tn k (ms - -1) (tn * sw - la - -1) sw + cl_cp tn k (ms - 0) (tn * sw - la - 0) sw + cl_cp tn k (ms - 1) (tn * sw - la - 1) sw
theorem cl_cp_b {tn : Int} : ∀ (k : Nat) (ms sw la : Int), 0 ≤ cl_cp tn k ms sw la ∧ cl_cp tn k ms sw la ≤ (a_p3 k : Int) := by
  intro k
  induction k with
  | zero => intro ms sw la; unfold cl_cp a_p3; split <;> omega
  | succ k ih =>
    intro ms sw la
    have h1 := ih (ms - -1) (tn * sw - la - -1) sw
    have h2 := ih (ms - 0) (tn * sw - la - 0) sw
    have h3 := ih (ms - 1) (tn * sw - la - 1) sw
    have e : (a_p3 (k + 1) : Int) = a_p3 k * 3 := by
      show ((a_p3 k * 3 : Nat) : Int) = _
      omega
    unfold cl_cp
    split <;> omega
section PUL
variable {en : Nat → Nat} {d : Nat} {T : Nat → Option (Nat × Nat)} {J : Nat → Nat → Int} {P : Nat → Nat → Option Nat} {L : Nat → Nat → Int64} {z w X N zb wb : Nat} {C : a_C} {x e s : Int}
theorem a_tm {tn sw : Int} (h : tn = -1 ∨ tn = 0 ∨ tn = 1) : tn * sw = -sw ∨ tn * sw = 0 ∨ tn * sw = sw := by
  rcases h with rfl | rfl | rfl <;> omega
theorem c_Sc_countPulses {tn : Int} (ht : tn = -1 ∨ tn = 0 ∨ tn = 1) : ∀ (k : Nat) (ms sw la b : Int) (Q : m_Q), k ≤ 8 → (-100 ≤ ms ∧ ms ≤ 100) → (1 ≤ b ∧ b * 4 ^ k ≤ 100000) → (-b ≤ sw ∧ sw ≤ b) → (-b ≤ la ∧ la ≤ b) → Q (some (.int (m_i (cl_cp tn k ms sw la)))) (T, m_I J, P, L, z, w) → m_call en (d + k + 1) mSc_countPulses [.int (m_i (k : Int)), .int (m_i tn), .int (m_i ms), .int (m_i sw), .int (m_i la)] (T, m_I J, P, L, z, w) Q := by
  intro k
  induction k with
  | zero =>
    intro ms sw la b Q hk hms hb hsw hla hq
    have hb2 : b ≤ 100000 := by have := hb.2; omega
    unfold cl_cp at hq
    refine m_into (by decide) (Nat.le_of_ble_eq_true rfl) rfl ?_
    show m_wp en _ mSc_countPulses 0 [some (.int (m_i (((0 : Nat) : Int)))), some (.int (m_i (tn))), some (.int (m_i (ms))), some (.int (m_i (sw))), some (.int (m_i (la))), none, none] [] (T, m_I J, P, L, z, w) Q
    refine r_iln eSc_countPulses_0 rfl ?_
    refine r_zgt (tgt := 23) eSc_countPulses_1 rfl ⟨(by omega), (by omega)⟩ (fun c1 => ?_) (fun c1 => ?_)
    · exfalso; omega
    · refine r_iln eSc_countPulses_4 rfl ?_
      refine r_zne (tgt := 21) eSc_countPulses_5 rfl ⟨(by omega), (by omega)⟩ (fun c5 => ?_) (fun c5 => ?_)
      · refine r_con eSc_countPulses_21 ?_
        refine r_iret eSc_countPulses_22 rfl ?_
        first | (rw [if_pos (by omega)] at hq; exact hq) | (rw [if_neg (by omega)] at hq; exact hq)
      · refine r_iln eSc_countPulses_8 rfl ?_
        refine r_zne (tgt := 21) eSc_countPulses_9 rfl ⟨(by omega), (by omega)⟩ (fun c9 => ?_) (fun c9 => ?_)
        · refine r_con eSc_countPulses_21 ?_
          refine r_iret eSc_countPulses_22 rfl ?_
          first | (rw [if_pos (by omega)] at hq; exact hq) | (rw [if_neg (by omega)] at hq; exact hq)
        · refine r_il eSc_countPulses_12 rfl ?_
          refine r_zne (tgt := 21) eSc_countPulses_14 rfl ⟨(by omega), (by omega)⟩ (fun c14 => ?_) (fun c14 => ?_)
          · refine r_con eSc_countPulses_21 ?_
            refine r_iret eSc_countPulses_22 rfl ?_
            first | (rw [if_pos (by omega)] at hq; exact hq) | (rw [if_neg (by omega)] at hq; exact hq)
          · refine r_con eSc_countPulses_17 ?_
            refine r_go (tgt := 22) eSc_countPulses_18 rfl ?_
            refine r_iret eSc_countPulses_22 rfl ?_
            first | (rw [if_pos (by omega)] at hq; exact hq) | (rw [if_neg (by omega)] at hq; exact hq)
  | succ k ih =>
    intro ms sw la b Q hk hms hb hsw hla hq
    have hpw : b * 4 ^ (k + 1) = 4 * b * 4 ^ k := by rw [Int.pow_succ]; rw [Int.mul_comm (4 ^ k) 4, ← Int.mul_assoc, Int.mul_comm b 4]
    have hp0 : ∀ j : Fin 9, (1 : Int) ≤ 4 ^ j.val := by decide
    have hp1 : (1 : Int) ≤ 4 ^ k := hp0 ⟨k, by omega⟩
    have hb4 : 4 * b ≤ 4 * b * 4 ^ k := by
      have := Int.mul_le_mul_of_nonneg_left hp1 (show 0 ≤ 4 * b by omega)
      omega
    have hb2 : 4 * b ≤ 100000 := by have := hb.2; omega
    have ha : (0 ≤ ms ∧ a_abs ms = ms) ∨ (ms < 0 ∧ a_abs ms = -ms) := by unfold a_abs; split <;> omega
    have htm := a_tm (sw := sw) ht
    have htb : -b ≤ tn * sw ∧ tn * sw ≤ b := by rcases htm with q | q | q <;> rw [q] <;> omega
    have hcb := cl_cp_b (tn := tn) k
    have h8 := a_p3_8 k (by omega)
    have step : ∀ pu fo, (pu = -1 ∨ pu = 0 ∨ pu = 1) → (0 ≤ fo ∧ fo ≤ 100000) → (-8 ≤ ms ∧ ms ≤ 8) → m_wp en (d + k + 1) mSc_countPulses 39 [some (.int (m_i ((k : Int) + 1))), some (.int (m_i tn)), some (.int (m_i ms)), some (.int (m_i sw)), some (.int (m_i la)), some (.int (m_i (fo + cl_cp tn k (ms - pu) (tn * sw - la - pu) sw))), some (.int (m_i (pu + 1)))] [] (T, m_I J, P, L, z, w) Q → m_wp en (d + k + 1) mSc_countPulses 39 [some (.int (m_i ((k : Int) + 1))), some (.int (m_i tn)), some (.int (m_i ms)), some (.int (m_i sw)), some (.int (m_i la)), some (.int (m_i fo)), some (.int (m_i pu))] [] (T, m_I J, P, L, z, w) Q := fun pu fo hpu hfo hm8 hk2 => by
      have ek : (k : Int) + 1 - 1 = (k : Int) := by omega
      refine r_il eSc_countPulses_39 rfl ?_
      refine r_con eSc_countPulses_41 ?_
      refine r_cgt (tgt := 77) eSc_countPulses_42 rfl ⟨(by omega), (by omega)⟩ ⟨(by omega), (by omega)⟩ (fun c42 => ?_) (fun c42 => ?_)
      · exfalso; omega
      · refine r_il eSc_countPulses_45 rfl ?_
        refine r_iln eSc_countPulses_47 rfl ?_
        refine r_con eSc_countPulses_48 ?_
        refine r_sub eSc_countPulses_49 ?_
        rw [ek]
        refine r_iln eSc_countPulses_50 rfl ?_
        refine r_iln eSc_countPulses_51 rfl ?_
        refine r_il eSc_countPulses_52 rfl ?_
        refine r_sub eSc_countPulses_54 ?_
        refine r_iln eSc_countPulses_55 rfl ?_
        refine r_iln eSc_countPulses_56 rfl ?_
        refine r_mul eSc_countPulses_57 ?_
        refine r_il eSc_countPulses_58 rfl ?_
        refine r_sub eSc_countPulses_60 ?_
        refine r_il eSc_countPulses_61 rfl ?_
        refine r_sub eSc_countPulses_63 ?_
        refine r_iln eSc_countPulses_64 rfl ?_
        refine r_sta eSc_countPulses_65 rfl rfl (by decide) rfl ?_
        refine ih (ms - pu) (tn * sw - la - pu) sw (4 * b) _ (by omega) (by omega) ⟨by omega, by rw [← hpw]; exact hb.2⟩ (by omega) (by omega) ?_
        refine r_add eSc_countPulses_68 ?_
        refine r_is (ls' := [some (.int (m_i ((k : Int) + 1))), some (.int (m_i tn)), some (.int (m_i ms)), some (.int (m_i sw)), some (.int (m_i la)), some (.int (m_i (fo + cl_cp tn k (ms - pu) (tn * sw - la - pu) sw))), some (.int (m_i pu))]) eSc_countPulses_69 (Nat.le_of_ble_eq_true rfl) rfl ?_
        refine r_inc (ls' := [some (.int (m_i ((k : Int) + 1))), some (.int (m_i tn)), some (.int (m_i ms)), some (.int (m_i sw)), some (.int (m_i la)), some (.int (m_i (fo + cl_cp tn k (ms - pu) (tn * sw - la - pu) sw))), some (.int (m_i (pu + 1)))]) eSc_countPulses_71 rfl rfl ?_
        refine r_go (tgt := 39) eSc_countPulses_74 rfl ?_
        exact hk2
    have c1 := hcb (ms - -1) (tn * sw - la - -1) sw
    have c2 := hcb (ms - 0) (tn * sw - la - 0) sw
    have c3 := hcb (ms - 1) (tn * sw - la - 1) sw
    unfold cl_cp at hq
    have hbig : (k : Int) + 1 < a_abs ms → Q (some (.int (m_i 0))) (T, m_I J, P, L, z, w) := fun q => by rw [if_pos q] at hq; exact hq
    have h39 : ¬ (k : Int) + 1 < a_abs ms → m_wp en (d + k + 1) mSc_countPulses 39 [some (.int (m_i ((k : Int) + 1))), some (.int (m_i tn)), some (.int (m_i ms)), some (.int (m_i sw)), some (.int (m_i la)), some (.int (m_i 0)), some (.int (m_i (-1)))] [] (T, m_I J, P, L, z, w) Q := fun q => by
      rw [if_neg q] at hq
      refine step (-1) 0 (by omega) (by omega) (by omega) ?_
      refine step 0 (0 + cl_cp tn k (ms - -1) (tn * sw - la - -1) sw) (by omega) (by omega) (by omega) ?_
      refine step 1 (0 + cl_cp tn k (ms - -1) (tn * sw - la - -1) sw + cl_cp tn k (ms - 0) (tn * sw - la - 0) sw) (by omega) (by omega) (by omega) ?_
      rw [Int.zero_add]
      generalize cl_cp tn k (ms - -1) (tn * sw - la - -1) sw + cl_cp tn k (ms - 0) (tn * sw - la - 0) sw + cl_cp tn k (ms - 1) (tn * sw - la - 1) sw = fo at hq ⊢
      show m_wp en _ mSc_countPulses 39 [some (.int (m_i ((k : Int) + 1))), some (.int (m_i tn)), some (.int (m_i ms)), some (.int (m_i sw)), some (.int (m_i la)), some (.int (m_i fo)), some (.int (m_i 2))] [] (T, m_I J, P, L, z, w) Q
      refine r_il eSc_countPulses_39 rfl ?_
      refine r_con eSc_countPulses_41 ?_
      refine r_cgt (tgt := 77) eSc_countPulses_42 rfl ⟨(by omega), (by omega)⟩ ⟨(by omega), (by omega)⟩ (fun c42 => ?_) (fun c42 => ?_)
      · refine r_il eSc_countPulses_77 rfl ?_
        refine r_iret eSc_countPulses_79 rfl ?_
        exact hq
      · exfalso; omega
    refine m_into (by decide) (Nat.le_of_ble_eq_true rfl) rfl ?_
    show m_wp en (d + k + 1) mSc_countPulses 0 [some (.int (m_i ((k : Int) + 1))), some (.int (m_i tn)), some (.int (m_i ms)), some (.int (m_i sw)), some (.int (m_i la)), none, none] [] (T, m_I J, P, L, z, w) Q
    refine r_iln eSc_countPulses_0 rfl ?_
    refine r_zgt (tgt := 23) eSc_countPulses_1 rfl ⟨(by omega), (by omega)⟩ (fun c1 => ?_) (fun c1 => ?_)
    · refine r_iln eSc_countPulses_23 rfl ?_
      refine r_abs eSc_countPulses_24 rfl (Nat.le_of_ble_eq_true rfl) ⟨(by omega), (by omega)⟩ ?_
      rw [a_abs_i]
      refine r_iln eSc_countPulses_27 rfl ?_
      refine r_cle (tgt := 33) eSc_countPulses_28 rfl ⟨(by omega), (by omega)⟩ ⟨(by omega), (by omega)⟩ (fun c28 => ?_) (fun c28 => ?_)
      · refine r_con eSc_countPulses_33 ?_
        refine r_is (ls' := [some (.int (m_i ((k : Int) + 1))), some (.int (m_i (tn))), some (.int (m_i (ms))), some (.int (m_i (sw))), some (.int (m_i (la))), some (.int (m_i (0))), none]) eSc_countPulses_34 (Nat.le_of_ble_eq_true rfl) rfl ?_
        refine r_con eSc_countPulses_36 ?_
        refine r_is (ls' := [some (.int (m_i ((k : Int) + 1))), some (.int (m_i (tn))), some (.int (m_i (ms))), some (.int (m_i (sw))), some (.int (m_i (la))), some (.int (m_i (0))), some (.int (m_i ((-1))))]) eSc_countPulses_37 (Nat.le_of_ble_eq_true rfl) rfl ?_
        exact h39 (by omega)
      · refine r_con eSc_countPulses_31 ?_
        refine r_iret eSc_countPulses_32 rfl ?_
        exact hbig (by omega)
    · exfalso; omega
theorem c_Sc_isPulse {Q : m_Q} {a b : Int} (ha : m_in a) (hb : m_in b) (hq : Q (some (.int (m_i (if (1 ≤ a ∧ a ≤ 6) ∧ -8 ≤ b ∧ b ≤ 8 then 1 else 0)))) (T, m_I J, P, L, z, w)) : m_call en (d + 1) mSc_isPulse [.int (m_i a), .int (m_i b)] (T, m_I J, P, L, z, w) Q := by
  unfold m_in at ha hb
  refine m_into (by decide) (Nat.le_of_ble_eq_true rfl) rfl ?_
  show m_wp en _ mSc_isPulse 0 [some (.int (m_i (a))), some (.int (m_i (b)))] [] (T, m_I J, P, L, z, w) Q
  refine r_iln eSc_isPulse_0 rfl ?_
  refine r_con eSc_isPulse_1 ?_
  refine r_clt (tgt := 27) eSc_isPulse_2 rfl ⟨(by omega), (by omega)⟩ ⟨(by omega), (by omega)⟩ (fun c2 => ?_) (fun c2 => ?_)
  · refine r_con eSc_isPulse_27 ?_
    refine r_zret eSc_isPulse_28 rfl (by first | exact Or.inl rfl | exact Or.inr rfl | omega) ?_
    first | (rw [if_pos (by omega)] at hq; exact hq) | (rw [if_neg (by omega)] at hq; exact hq)
  · refine r_iln eSc_isPulse_5 rfl ?_
    refine r_bip eSc_isPulse_6 (by decide) ?_
    refine r_cgt (tgt := 27) eSc_isPulse_8 rfl ⟨(by omega), (by omega)⟩ ⟨(by omega), (by omega)⟩ (fun c8 => ?_) (fun c8 => ?_)
    · refine r_con eSc_isPulse_27 ?_
      refine r_zret eSc_isPulse_28 rfl (by first | exact Or.inl rfl | exact Or.inr rfl | omega) ?_
      first | (rw [if_pos (by omega)] at hq; exact hq) | (rw [if_neg (by omega)] at hq; exact hq)
    · refine r_iln eSc_isPulse_11 rfl ?_
      refine r_bip eSc_isPulse_12 (by decide) ?_
      refine r_clt (tgt := 27) eSc_isPulse_14 rfl ⟨(by omega), (by omega)⟩ ⟨(by omega), (by omega)⟩ (fun c14 => ?_) (fun c14 => ?_)
      · refine r_con eSc_isPulse_27 ?_
        refine r_zret eSc_isPulse_28 rfl (by first | exact Or.inl rfl | exact Or.inr rfl | omega) ?_
        first | (rw [if_pos (by omega)] at hq; exact hq) | (rw [if_neg (by omega)] at hq; exact hq)
      · refine r_iln eSc_isPulse_17 rfl ?_
        refine r_bip eSc_isPulse_18 (by decide) ?_
        refine r_cgt (tgt := 27) eSc_isPulse_20 rfl ⟨(by omega), (by omega)⟩ ⟨(by omega), (by omega)⟩ (fun c20 => ?_) (fun c20 => ?_)
        · refine r_con eSc_isPulse_27 ?_
          refine r_zret eSc_isPulse_28 rfl (by first | exact Or.inl rfl | exact Or.inr rfl | omega) ?_
          first | (rw [if_pos (by omega)] at hq; exact hq) | (rw [if_neg (by omega)] at hq; exact hq)
        · refine r_con eSc_isPulse_23 ?_
          refine r_go (tgt := 28) eSc_isPulse_24 rfl ?_
          refine r_zret eSc_isPulse_28 rfl (by first | exact Or.inl rfl | exact Or.inr rfl | omega) ?_
          first | (rw [if_pos (by omega)] at hq; exact hq) | (rw [if_neg (by omega)] at hq; exact hq)
theorem c_Sc_turnAt {Q : m_Q} {a : Int} (ha : m_in a) (hq : Q (some (.int (m_i (a_gr a)))) (T, m_I J, P, L, z, w)) : m_call en (d + 1) mSc_turnAt [.int (m_i a)] (T, m_I J, P, L, z, w) Q := by
  unfold m_in at ha
  unfold a_gr at hq
  refine m_into (by decide) (Nat.le_of_ble_eq_true rfl) rfl ?_
  show m_wp en _ mSc_turnAt 0 [some (.int (m_i (a)))] [] (T, m_I J, P, L, z, w) Q
  refine r_iln eSc_turnAt_0 rfl ?_
  refine r_con eSc_turnAt_1 ?_
  refine r_cgt (tgt := 7) eSc_turnAt_2 rfl ⟨(by omega), (by omega)⟩ ⟨(by omega), (by omega)⟩ (fun c2 => ?_) (fun c2 => ?_)
  · refine r_iln eSc_turnAt_7 rfl ?_
    refine r_con eSc_turnAt_8 ?_
    refine r_cgt (tgt := 16) eSc_turnAt_9 rfl ⟨(by omega), (by omega)⟩ ⟨(by omega), (by omega)⟩ (fun c9 => ?_) (fun c9 => ?_)
    · refine r_con eSc_turnAt_16 ?_
      refine r_iret eSc_turnAt_17 rfl ?_
      first | (rw [if_neg (by omega), if_pos (by omega)] at hq; exact hq) | (rw [if_neg (by omega), if_neg (by omega)] at hq; exact hq)
    · refine r_con eSc_turnAt_12 ?_
      refine r_go (tgt := 17) eSc_turnAt_13 rfl ?_
      refine r_iret eSc_turnAt_17 rfl ?_
      first | (rw [if_neg (by omega), if_pos (by omega)] at hq; exact hq) | (rw [if_neg (by omega), if_neg (by omega)] at hq; exact hq)
  · refine r_con eSc_turnAt_5 ?_
    refine r_iret eSc_turnAt_6 rfl ?_
    rw [if_pos (by omega)] at hq
    exact hq
theorem c_cp9 {Q : m_Q} {tn k ms : Int} (ht : tn = -1 ∨ tn = 0 ∨ tn = 1) (hk : 0 ≤ k ∧ k ≤ 8) (hms : -8 ≤ ms ∧ ms ≤ 8) (hq : Q (some (.int (m_i (cl_cp tn k.toNat ms 0 0)))) (T, m_I J, P, L, z, w)) : m_call en (d + 9) mSc_countPulses [.int (m_i k), .int (m_i tn), .int (m_i ms), .int (m_i 0), .int (m_i 0)] (T, m_I J, P, L, z, w) Q := by
  have h4 : ∀ j : Fin 9, (1 : Int) * 4 ^ j.val ≤ 100000 := by decide
  have := c_Sc_countPulses (en := en) (d := d) (T := T) (J := J) (P := P) (L := L) (z := z) (w := w) ht k.toNat ms 0 0 1 Q (by omega) (by omega) ⟨by omega, h4 ⟨k.toNat, by omega⟩⟩ (by omega) (by omega) hq
  rw [show ((k.toNat : Nat) : Int) = k by omega] at this
  exact m_call_le (by omega) this
theorem c_Sc_pulses {Q : m_Q} (he : m_in e) (hs : m_in s) (hx : m_in x) (h0 : ¬ ((1 ≤ e ∧ e ≤ 6) ∧ (0 ≤ s ∧ s ≤ 8) ∧ (-8 ≤ x ∧ x ≤ 8)) → Q (some (.int (m_i (-1)))) (T, m_I J, P, L, z, w)) (h1 : ((1 ≤ e ∧ e ≤ 6) ∧ (0 ≤ s ∧ s ≤ 8) ∧ (-8 ≤ x ∧ x ≤ 8)) → Q (some (.int (m_i (cl_cp (a_gr e) s.toNat x 0 0)))) (T, m_I J, P, L, z, w)) : m_call en (d + 10) mSc_pulses [.ref X, .int (m_i e), .int (m_i s), .int (m_i x)] (T, m_I J, P, L, z, w) Q := by
  unfold m_in at he hs hx
  obtain ⟨ip, eip⟩ : ∃ ip, ip = (if (1 ≤ e ∧ e ≤ 6) ∧ -8 ≤ x ∧ x ≤ 8 then (1 : Int) else 0) := ⟨_, rfl⟩
  have hip : (ip = 1 ∧ ((1 ≤ e ∧ e ≤ 6) ∧ -8 ≤ x ∧ x ≤ 8)) ∨ (ip = 0 ∧ ¬ ((1 ≤ e ∧ e ≤ 6) ∧ -8 ≤ x ∧ x ≤ 8)) := by
    rw [eip]
    by_cases q : (1 ≤ e ∧ e ≤ 6) ∧ -8 ≤ x ∧ x ≤ 8
    · rw [if_pos q]; exact Or.inl ⟨rfl, q⟩
    · rw [if_neg q]; exact Or.inr ⟨rfl, q⟩
  refine m_into (by decide) (Nat.le_of_ble_eq_true rfl) rfl ?_
  show m_wp en _ mSc_pulses 0 [some (.ref X), some (.int (m_i (e))), some (.int (m_i (s))), some (.int (m_i (x)))] [] (T, m_I J, P, L, z, w) Q
  refine r_iln eSc_pulses_0 rfl ?_
  refine r_zlt (tgt := 18) eSc_pulses_1 rfl ⟨(by omega), (by omega)⟩ (fun c1 => ?_) (fun c1 => ?_)
  · refine r_con eSc_pulses_18 ?_
    refine r_iret eSc_pulses_19 rfl ?_
    exact h0 (by omega)
  · refine r_iln eSc_pulses_4 rfl ?_
    refine r_bip eSc_pulses_5 (by decide) ?_
    refine r_cgt (tgt := 18) eSc_pulses_7 rfl ⟨(by omega), (by omega)⟩ ⟨(by omega), (by omega)⟩ (fun c7 => ?_) (fun c7 => ?_)
    · refine r_con eSc_pulses_18 ?_
      refine r_iret eSc_pulses_19 rfl ?_
      exact h0 (by omega)
    · refine r_iln eSc_pulses_10 rfl ?_
      refine r_iln eSc_pulses_11 rfl ?_
      refine r_sta eSc_pulses_12 rfl rfl (by decide) rfl ?_
      refine c_Sc_isPulse ⟨by omega, by omega⟩ ⟨by omega, by omega⟩ ?_
      rw [← eip]
      show m_wp en _ mSc_pulses 15 [some (.ref X), some (.int (m_i (e))), some (.int (m_i (s))), some (.int (m_i (x)))] [(.int (m_i (ip)))] (T, m_I J, P, L, z, w) Q
      refine r_zne (tgt := 20) eSc_pulses_15 rfl ⟨(by omega), (by omega)⟩ (fun c15 => ?_) (fun c15 => ?_)
      · refine r_iln eSc_pulses_20 rfl ?_
        refine r_iln eSc_pulses_21 rfl ?_
        refine r_sta eSc_pulses_22 rfl rfl (by decide) rfl ?_
        refine c_Sc_turnAt ⟨by omega, by omega⟩ ?_
        show m_wp en _ mSc_pulses 25 [some (.ref X), some (.int (m_i (e))), some (.int (m_i (s))), some (.int (m_i (x)))] [(.int (m_i ((a_gr e)))), (.int (m_i (s)))] (T, m_I J, P, L, z, w) Q
        refine r_iln eSc_pulses_25 rfl ?_
        refine r_con eSc_pulses_26 ?_
        refine r_con eSc_pulses_27 ?_
        refine r_sta eSc_pulses_28 rfl rfl (by decide) rfl ?_
        refine c_cp9 (a_gr_bd e) (by omega) (by omega) ?_
        show m_wp en _ mSc_pulses 31 [some (.ref X), some (.int (m_i (e))), some (.int (m_i (s))), some (.int (m_i (x)))] [(.int (m_i ((cl_cp (a_gr e) s.toNat x 0 0))))] (T, m_I J, P, L, z, w) Q
        refine r_iret eSc_pulses_31 rfl ?_
        exact h1 (by omega)
      · refine r_con eSc_pulses_18 ?_
        refine r_iret eSc_pulses_19 rfl ?_
        exact h0 (by omega)
def cl_sh0 (tn x : Int) : Nat → Int → Int
  | 0, _ => -2
  | m + 1, k => if 0 < cl_cp tn k.toNat x 0 0 then k else cl_sh0 tn x m (k + 1)
theorem l_Sc_shortest {Q : m_Q} (he : 1 ≤ e ∧ e ≤ 6) (hx : -8 ≤ x ∧ x ≤ 8) : ∀ (m : Nat) (k : Int), k + m = 9 → 1 ≤ k → Q (some (.int (m_i (cl_sh0 (a_gr e) x m k)))) (T, m_I J, P, L, z, w) → m_wp en (d + 9) mSc_shortest 16 [some (.ref X), some (.int (m_i e)), some (.int (m_i x)), some (.int (m_i k))] [] (T, m_I J, P, L, z, w) Q := by
  intro m
  induction m with
  | zero =>
    intro k hk hk1 hq
    unfold cl_sh0 at hq
    refine r_iln eSc_shortest_16 rfl ?_
    refine r_bip eSc_shortest_17 (by decide) ?_
    refine r_cgt (tgt := 44) eSc_shortest_19 rfl ⟨(by omega), (by omega)⟩ ⟨(by omega), (by omega)⟩ (fun c19 => ?_) (fun c19 => ?_)
    · refine r_bip eSc_shortest_44 (by decide) ?_
      refine r_iret eSc_shortest_46 rfl ?_
      exact hq
    · exfalso; omega
  | succ m ih =>
    intro k hk hk1 hq
    unfold cl_sh0 at hq
    have hb := cl_cp_b (tn := a_gr e) k.toNat x 0 0
    have h8 := a_p3_8 k.toNat (by omega)
    have hi : ¬ 0 < cl_cp (a_gr e) k.toNat x 0 0 → m_wp en (d + 9) mSc_shortest 16 [some (.ref X), some (.int (m_i e)), some (.int (m_i x)), some (.int (m_i (k + 1)))] [] (T, m_I J, P, L, z, w) Q := fun q => ih (k + 1) (by omega) (by omega) (by rw [if_neg q] at hq; exact hq)
    refine r_iln eSc_shortest_16 rfl ?_
    refine r_bip eSc_shortest_17 (by decide) ?_
    refine r_cgt (tgt := 44) eSc_shortest_19 rfl ⟨(by omega), (by omega)⟩ ⟨(by omega), (by omega)⟩ (fun c19 => ?_) (fun c19 => ?_)
    · exfalso; omega
    · refine r_iln eSc_shortest_22 rfl ?_
      refine r_iln eSc_shortest_23 rfl ?_
      refine r_sta eSc_shortest_24 rfl rfl (by decide) rfl ?_
      refine c_Sc_turnAt ⟨by omega, by omega⟩ ?_
      show m_wp en _ mSc_shortest 27 [some (.ref X), some (.int (m_i (e))), some (.int (m_i (x))), some (.int (m_i (k)))] [(.int (m_i ((a_gr e)))), (.int (m_i (k)))] (T, m_I J, P, L, z, w) Q
      refine r_iln eSc_shortest_27 rfl ?_
      refine r_con eSc_shortest_28 ?_
      refine r_con eSc_shortest_29 ?_
      refine r_sta eSc_shortest_30 rfl rfl (by decide) rfl ?_
      refine c_cp9 (a_gr_bd e) (by omega) (by omega) ?_
      show m_wp en _ mSc_shortest 33 [some (.ref X), some (.int (m_i (e))), some (.int (m_i (x))), some (.int (m_i (k)))] [(.int (m_i ((cl_cp (a_gr e) k.toNat x 0 0))))] (T, m_I J, P, L, z, w) Q
      refine r_zle (tgt := 38) eSc_shortest_33 rfl ⟨(by omega), (by omega)⟩ (fun c33 => ?_) (fun c33 => ?_)
      · refine r_inc (ls' := [some (.ref X), some (.int (m_i (e))), some (.int (m_i (x))), some (.int (m_i (k + 1)))]) eSc_shortest_38 rfl rfl ?_
        refine r_go (tgt := 16) eSc_shortest_41 rfl ?_
        exact hi (by omega)
      · refine r_iln eSc_shortest_36 rfl ?_
        refine r_iret eSc_shortest_37 rfl ?_
        rw [if_pos (by omega)] at hq
        exact hq
theorem c_Sc_shortest {Q : m_Q} (he : m_in e) (hx : m_in x) (h0 : ¬ ((1 ≤ e ∧ e ≤ 6) ∧ (-8 ≤ x ∧ x ≤ 8) ∧ x ≠ 0) → Q (some (.int (m_i (-1)))) (T, m_I J, P, L, z, w)) (h1 : ((1 ≤ e ∧ e ≤ 6) ∧ (-8 ≤ x ∧ x ≤ 8) ∧ x ≠ 0) → Q (some (.int (m_i (cl_sh0 (a_gr e) x 8 1)))) (T, m_I J, P, L, z, w)) : m_call en (d + 10) mSc_shortest [.ref X, .int (m_i e), .int (m_i x)] (T, m_I J, P, L, z, w) Q := by
  unfold m_in at he hx
  obtain ⟨ip, eip⟩ : ∃ ip, ip = (if (1 ≤ e ∧ e ≤ 6) ∧ -8 ≤ x ∧ x ≤ 8 then (1 : Int) else 0) := ⟨_, rfl⟩
  have hip : (ip = 1 ∧ ((1 ≤ e ∧ e ≤ 6) ∧ -8 ≤ x ∧ x ≤ 8)) ∨ (ip = 0 ∧ ¬ ((1 ≤ e ∧ e ≤ 6) ∧ -8 ≤ x ∧ x ≤ 8)) := by
    rw [eip]
    by_cases q : (1 ≤ e ∧ e ≤ 6) ∧ -8 ≤ x ∧ x ≤ 8
    · rw [if_pos q]; exact Or.inl ⟨rfl, q⟩
    · rw [if_neg q]; exact Or.inr ⟨rfl, q⟩
  have h16 : ((1 ≤ e ∧ e ≤ 6) ∧ (-8 ≤ x ∧ x ≤ 8) ∧ x ≠ 0) → m_wp en (d + 9) mSc_shortest 16 [some (.ref X), some (.int (m_i e)), some (.int (m_i x)), some (.int (m_i 1))] [] (T, m_I J, P, L, z, w) Q := fun q => l_Sc_shortest q.1 q.2.1 8 1 (by omega) (by omega) (h1 q)
  refine m_into (by decide) (Nat.le_of_ble_eq_true rfl) rfl ?_
  show m_wp en _ mSc_shortest 0 [some (.ref X), some (.int (m_i (e))), some (.int (m_i (x))), none] [] (T, m_I J, P, L, z, w) Q
  refine r_iln eSc_shortest_0 rfl ?_
  refine r_zeq (tgt := 12) eSc_shortest_1 rfl ⟨(by omega), (by omega)⟩ (fun c1 => ?_) (fun c1 => ?_)
  · refine r_con eSc_shortest_12 ?_
    refine r_iret eSc_shortest_13 rfl ?_
    exact h0 (by omega)
  · refine r_iln eSc_shortest_4 rfl ?_
    refine r_iln eSc_shortest_5 rfl ?_
    refine r_sta eSc_shortest_6 rfl rfl (by decide) rfl ?_
    refine c_Sc_isPulse ⟨by omega, by omega⟩ ⟨by omega, by omega⟩ ?_
    rw [← eip]
    show m_wp en _ mSc_shortest 9 [some (.ref X), some (.int (m_i (e))), some (.int (m_i (x))), none] [(.int (m_i (ip)))] (T, m_I J, P, L, z, w) Q
    refine r_zne (tgt := 14) eSc_shortest_9 rfl ⟨(by omega), (by omega)⟩ (fun c9 => ?_) (fun c9 => ?_)
    · refine r_con eSc_shortest_14 ?_
      refine r_isn (ls' := [some (.ref X), some (.int (m_i (e))), some (.int (m_i (x))), some (.int (m_i (1)))]) eSc_shortest_15 (Nat.le_of_ble_eq_true rfl) rfl ?_
      exact h16 (by omega)
    · refine r_con eSc_shortest_12 ?_
      refine r_iret eSc_shortest_13 rfl ?_
      exact h0 (by omega)
end PUL
