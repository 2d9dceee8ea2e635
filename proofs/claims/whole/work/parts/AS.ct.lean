/-! the class: counts, log, images, undone -/
section SCT
variable {en : Nat → Nat} {d : Nat} {T : Nat → Option (Nat × Nat)} {J J0 K H : Nat → Nat → Int} {P : Nat → Nat → Option Nat} {L : Nat → Nat → Int64} {z w A B R X N zb wb : Nat} {Q : m_Q} {σ : a_S} {C : a_C}
theorem cl_hist (hX : cl_sh en X T P) : lo_sh en (X + 33) T P := by
  refine ⟨cl_e hX 33, hX.2.1 (33, 1, 0) (by decide), fun q hq => ?_⟩
  have h1 : (33, q.1, 33 + q.2.1) ∈ cl_fd ∧ (33 + q.2.1, q.2.2.1, q.2.2.2) ∈ cl_ob := by
    have : ∀ q ∈ lo_tab, (33, q.1, 33 + q.2.1) ∈ cl_fd ∧ (33 + q.2.1, q.2.2.1, q.2.2.2) ∈ cl_ob := by decide
    exact this q hq
  rw [Nat.add_assoc]
  exact ⟨hX.2.2.1 _ h1.1, hX.2.1 _ h1.2⟩
theorem cl_ihist (hX : cl_sh en X T P) : lo_sh en (X + 130) T P := by
  refine ⟨cl_e hX 130, hX.2.1 (130, 1, 0) (by decide), fun q hq => ?_⟩
  have h1 : (130, q.1, 130 + q.2.1) ∈ cl_fd ∧ (130 + q.2.1, q.2.2.1, q.2.2.2) ∈ cl_ob := by
    have : ∀ q ∈ lo_tab, (130, q.1, 130 + q.2.1) ∈ cl_fd ∧ (130 + q.2.1, q.2.2.1, q.2.2.2) ∈ cl_ob := by decide
    exact this q hq
  rw [Nat.add_assoc]
  exact ⟨hX.2.2.1 _ h1.1, hX.2.1 _ h1.2⟩
theorem cl_image (hX : cl_sh en X T P) : mo_sh en (X + 127) T P := by
  refine ⟨cl_e hX 127, hX.2.1 (127, 2, 0) (by decide), fun q hq => ?_⟩
  have h1 : (127, q.1, 127 + q.2.1) ∈ cl_fd ∧ (127 + q.2.1, q.2.2.1, q.2.2.2) ∈ cl_ob := by
    have : ∀ q ∈ mo_tab, (127, q.1, 127 + q.2.1) ∈ cl_fd ∧ (127 + q.2.1, q.2.2.1, q.2.2.2) ∈ cl_ob := by decide
    exact this q hq
  rw [Nat.add_assoc]
  exact ⟨hX.2.2.1 _ h1.1, hX.2.1 _ h1.2⟩
/-- what holds of a log -/
def lo_ok (J : Nat → Nat → Int) (A : Nat) : Prop := (0 ≤ J A 1 ∧ J A 1 < 70) ∧ (0 ≤ J A 2 ∧ J A 2 ≤ 70) ∧ ∀ i : Nat, i < 70 → 0 ≤ J (A + 1) i ∧ J (A + 1) i < 2147483648
theorem c_Sc_log (hX : cl_sh en X T P) (ho : lo_ok J (X + 33)) {k x : Int} (hk : m_in k) (hx : m_in x) (hv : m_in (J (X + 33 + 1) (lo_at (J (X + 33) 1) k).toNat)) (h0 : ¬ ((0 ≤ k ∧ k < min 40 (J (X + 33) 2)) ∧ 0 ≤ x ∧ x ≤ 2) → Q (some (.int (m_i (-1)))) (T, m_I J, P, L, z, w)) (h1 : ((0 ≤ k ∧ k < min 40 (J (X + 33) 2)) ∧ 0 ≤ x ∧ x ≤ 2) → Q (some (.int (m_i (if x = 0 then J (X + 33 + 1) (lo_at (J (X + 33) 1) k).toNat % 256 else if x = 1 then J (X + 33 + 1) (lo_at (J (X + 33) 1) k).toNat / 256 % 2 else J (X + 33 + 1) (lo_at (J (X + 33) 1) k).toNat / 512)))) (T, m_I J, P, L, z, w)) : m_call en (d + 3) mSc_log [.ref X, .int (m_i k), .int (m_i x)] (T, m_I J, P, L, z, w) Q := by
  unfold m_in at hk hx
  have hb := ho.2.1
  refine m_into (by decide) (Nat.le_of_ble_eq_true rfl) rfl ?_
  show m_wp en _ mSc_log 0 [some (.ref X), some (.int (m_i (k))), some (.int (m_i (x)))] [] (T, m_I J, P, L, z, w) Q
  refine r_iln eSc_log_0 rfl ?_
  refine r_zlt (tgt := 24) eSc_log_1 rfl ⟨(by omega), (by omega)⟩ (fun c1 => ?_) (fun c1 => ?_)
  · refine r_con eSc_log_24 ?_
    refine r_go (tgt := 37) eSc_log_25 rfl ?_
    refine r_iret eSc_log_37 rfl ?_
    first | exact h0 (by omega) | exact h1 (by omega)
  · refine r_iln eSc_log_4 rfl ?_
    refine r_aln eSc_log_5 rfl ?_
    refine m_getR eSc_log_6 rfl (cl_t hX (i := 0) rfl) (cl_p hX (i := 3) rfl) ?_
    refine r_vir eSc_log_9 rfl rfl rfl (cl_t hX (i := 33) rfl) rfl rfl ?_
    refine c_Lo_shown (cl_hist hX) ho.2.1 ?_
    show m_wp en _ mSc_log 12 [some (.ref X), some (.int (m_i (k))), some (.int (m_i (x)))] [(.int (m_i ((min 40 (J (X + 33) 2))))), (.int (m_i (k)))] (T, m_I J, P, L, z, w) Q
    refine r_cge (tgt := 24) eSc_log_12 rfl ⟨(by omega), (by omega)⟩ ⟨(by omega), (by omega)⟩ (fun c12 => ?_) (fun c12 => ?_)
    · refine r_con eSc_log_24 ?_
      refine r_go (tgt := 37) eSc_log_25 rfl ?_
      refine r_iret eSc_log_37 rfl ?_
      first | exact h0 (by omega) | exact h1 (by omega)
    · refine r_iln eSc_log_15 rfl ?_
      refine r_zlt (tgt := 24) eSc_log_16 rfl ⟨(by omega), (by omega)⟩ (fun c16 => ?_) (fun c16 => ?_)
      · refine r_con eSc_log_24 ?_
        refine r_go (tgt := 37) eSc_log_25 rfl ?_
        refine r_iret eSc_log_37 rfl ?_
        first | exact h0 (by omega) | exact h1 (by omega)
      · refine r_iln eSc_log_19 rfl ?_
        refine r_con eSc_log_20 ?_
        refine r_cle (tgt := 28) eSc_log_21 rfl ⟨(by omega), (by omega)⟩ ⟨(by omega), (by omega)⟩ (fun c21 => ?_) (fun c21 => ?_)
        · refine r_aln eSc_log_28 rfl ?_
          refine m_getR eSc_log_29 rfl (cl_t hX (i := 0) rfl) (cl_p hX (i := 3) rfl) ?_
          refine r_iln eSc_log_32 rfl ?_
          refine r_iln eSc_log_33 rfl ?_
          refine r_vir eSc_log_34 rfl rfl rfl (cl_t hX (i := 33) rfl) rfl rfl ?_
          refine c_Lo_tell (cl_hist hX) ho.1 (k := k) (x := x) (by omega) (by omega) hv ?_
          show m_wp en _ mSc_log 37 [some (.ref X), some (.int (m_i (k))), some (.int (m_i (x)))] [(.int (m_i ((if x = 0 then J (X + 33 + 1) (lo_at (J (X + 33) 1) k).toNat % 256 else if x = 1 then J (X + 33 + 1) (lo_at (J (X + 33) 1) k).toNat / 256 % 2 else J (X + 33 + 1) (lo_at (J (X + 33) 1) k).toNat / 512))))] (T, m_I J, P, L, z, w) Q
          refine r_iret eSc_log_37 rfl ?_
          first | exact h0 (by omega) | exact h1 (by omega)
        · refine r_con eSc_log_24 ?_
          refine r_go (tgt := 37) eSc_log_25 rfl ?_
          refine r_iret eSc_log_37 rfl ?_
          first | exact h0 (by omega) | exact h1 (by omega)
/-- the longest row that the log ends with twice -/
def lo_ag (r : Nat → Int) (e : Int) : Nat → Nat
  | 0 => 0
  | m + 1 => if lo_rp r e (m + 1) = true then m + 1 else lo_ag r e m
theorem l_Sc_again (hX : cl_sh en X T P) (ho : lo_ok J (X + 33)) : ∀ m : Nat, m ≤ 35 → Q (some (.int (m_i (lo_ag (J (X + 33 + 1)) (J (X + 33) 1) m : Int)))) (T, m_I J, P, L, z, w) → m_wp en (d + 2) mSc_again 10 [some (.ref X), some (.int (m_i (m : Int)))] [] (T, m_I J, P, L, z, w) Q := by
  intro m
  induction m with
  | zero =>
    intro hm hq
    unfold lo_ag at hq
    refine r_iln eSc_again_10 rfl ?_
    refine r_zle (tgt := 33) eSc_again_11 rfl ⟨(by omega), (by omega)⟩ (fun c11 => ?_) (fun c11 => ?_)
    · refine r_con eSc_again_33 ?_
      refine r_iret eSc_again_34 rfl ?_
      exact hq
    · exfalso; omega
  | succ m ih =>
    intro hm hq
    unfold lo_ag at hq
    have hb : (a_b (lo_rp (J (X + 33 + 1)) (J (X + 33) 1) (m + 1)) = 1 ∧ lo_rp (J (X + 33 + 1)) (J (X + 33) 1) (m + 1) = true) ∨ (a_b (lo_rp (J (X + 33 + 1)) (J (X + 33) 1) (m + 1)) = 0 ∧ ¬ lo_rp (J (X + 33 + 1)) (J (X + 33) 1) (m + 1) = true) := by
      by_cases q : lo_rp (J (X + 33 + 1)) (J (X + 33) 1) (m + 1) = true
      · exact Or.inl ⟨a_b_t q, q⟩
      · exact Or.inr ⟨a_b_f q, q⟩
    have hi : ¬ lo_rp (J (X + 33 + 1)) (J (X + 33) 1) (m + 1) = true → m_wp en (d + 2) mSc_again 10 [some (.ref X), some (.int (m_i (m : Int)))] [] (T, m_I J, P, L, z, w) Q := fun q => ih (by omega) (by rw [if_neg q] at hq; exact hq)
    have em : ((m + 1 : Nat) : Int) + -1 = (m : Int) := by omega
    refine r_iln eSc_again_10 rfl ?_
    refine r_zle (tgt := 33) eSc_again_11 rfl ⟨(by omega), (by omega)⟩ (fun c11 => ?_) (fun c11 => ?_)
    · exfalso; omega
    · refine r_aln eSc_again_14 rfl ?_
      refine m_getR eSc_again_15 rfl (cl_t hX (i := 0) rfl) (cl_p hX (i := 3) rfl) ?_
      refine r_iln eSc_again_18 rfl ?_
      refine r_vir eSc_again_19 rfl rfl rfl (cl_t hX (i := 33) rfl) rfl rfl ?_
      refine c_Lo_repeats (cl_hist hX) ho.1 (m := m + 1) (by omega) ?_
      show m_wp en _ mSc_again 22 [some (.ref X), some (.int (m_i (((m + 1 : Nat) : Int))))] [(.int (m_i ((a_b (lo_rp (J (X + 33 + 1)) (J (X + 33) 1) (m + 1))))))] (T, m_I J, P, L, z, w) Q
      refine r_zeq (tgt := 27) eSc_again_22 rfl ⟨(by omega), (by omega)⟩ (fun c22 => ?_) (fun c22 => ?_)
      · refine r_inc (ls' := [some (.ref X), some (.int (m_i (((m + 1 : Nat) : Int) + (-1))))]) eSc_again_27 rfl rfl ?_
        refine r_go (tgt := 10) eSc_again_30 rfl ?_
        rw [em]
        rcases hb with hb | hb
        · exfalso; omega
        · exact hi hb.2
      · refine r_iln eSc_again_25 rfl ?_
        refine r_iret eSc_again_26 rfl ?_
        rcases hb with hb | hb
        · (rw [if_pos hb.2] at hq; exact hq)
        · exfalso; omega
theorem c_Sc_again (hX : cl_sh en X T P) (ho : lo_ok J (X + 33)) (hq : Q (some (.int (m_i (lo_ag (J (X + 33 + 1)) (J (X + 33) 1) (min 40 (J (X + 33) 2) / 2).toNat : Int)))) (T, m_I J, P, L, z, w)) : m_call en (d + 3) mSc_again [.ref X] (T, m_I J, P, L, z, w) Q := by
  have hb := ho.2.1
  have := l_Sc_again (d := d) (z := z) (w := w) (L := L) hX ho (min 40 (J (X + 33) 2) / 2).toNat (by omega) hq
  rw [show (((min 40 (J (X + 33) 2) / 2).toNat : Nat) : Int) = min 40 (J (X + 33) 2) / 2 by omega] at this
  refine m_into (by decide) (Nat.le_of_ble_eq_true rfl) rfl ?_
  show m_wp en _ mSc_again 0 [some (.ref X), none] [] (T, m_I J, P, L, z, w) Q
  refine r_aln eSc_again_0 rfl ?_
  refine m_getR eSc_again_1 rfl (cl_t hX (i := 0) rfl) (cl_p hX (i := 3) rfl) ?_
  refine r_vir eSc_again_4 rfl rfl rfl (cl_t hX (i := 33) rfl) rfl rfl ?_
  refine c_Lo_shown (cl_hist hX) ho.2.1 ?_
  show m_wp en _ mSc_again 7 [some (.ref X), none] [(.int (m_i ((min 40 (J (X + 33) 2)))))] (T, m_I J, P, L, z, w) Q
  refine r_con eSc_again_7 ?_
  refine r_div eSc_again_8 ⟨(by omega), (by omega)⟩ ⟨(by omega), (by omega)⟩ ?_
  refine r_isn (ls' := [some (.ref X), some (.int (m_i (((min 40 (J (X + 33) 2))) / (2))))]) eSc_again_9 (Nat.le_of_ble_eq_true rfl) rfl ?_
  exact this
/-- what a count of the class is -/
def cl_count (J : Nat → Nat → Int) (X : Nat) (x : Int) : Int :=
  if x = 0 then J (X + 17) 0 else if x = 1 then J (X + 17) 1 else if x = 2 then J (X + 17) 2 else if x = 3 then J (X + 17) 3 else if x = 4 then J (X + 29) 5 else if x = 5 then J (X + 29) 8 else
  if x = 6 then J (X + 30) 4 else if x = 7 then J (X + 30) 3 else if x = 8 then min 40 (J (X + 33) 2) else if x = 9 then J (X + 35) 2 else if x = 10 then J (X + 1) 1 else if x = 11 then J (X + 29) 10 else if x = 12 then a_sum (J (X + 32)) 16 else -1
theorem c_Sc_count (hX : cl_sh en X T P) (ho : lo_ok J (X + 33)) {x : Int} (hx : m_in x) (hq : Q (some (.int (m_i (cl_count J X x)))) (T, m_I J, P, L, z, w)) : m_call en (d + 2) mSc_count [.ref X, .int (m_i x)] (T, m_I J, P, L, z, w) Q := by
  unfold m_in at hx
  unfold cl_count at hq
  refine m_into (by decide) (Nat.le_of_ble_eq_true rfl) rfl ?_
  show m_wp en _ mSc_count 0 [some (.ref X), some (.int (m_i (x)))] [] (T, m_I J, P, L, z, w) Q
  refine r_iln eSc_count_0 rfl ?_
  rcases (show (x) = 0 ∨ (x) = 1 ∨ (x) = 2 ∨ (x) = 3 ∨ (x) = 4 ∨ (x) = 5 ∨ (x) = 6 ∨ (x) = 7 ∨ (x) = 8 ∨ (x) = 9 ∨ (x) = 10 ∨ (x) = 11 ∨ (x) = 12 ∨ ((x) < 0 ∨ 12 < (x)) by omega) with c1 | c1 | c1 | c1 | c1 | c1 | c1 | c1 | c1 | c1 | c1 | c1 | c1 | c1
  · refine r_tcase (v := 0) (tgt := 68) eSc_count_1 c1 ⟨by decide, by decide⟩ ⟨by decide, by decide⟩ rfl rfl ?_
    refine r_aln eSc_count_68 rfl ?_
    refine m_getR eSc_count_69 rfl (cl_t hX (i := 0) rfl) (cl_p hX (i := 1) rfl) ?_
    refine r_gete (x := J (X + 17) 0) eSc_count_72 rfl (by decide) (cl_t hX (i := 17) rfl) rfl ?_
    refine r_iret eSc_count_75 rfl ?_
    (repeat (first | rw [if_pos (by omega)] at hq | rw [if_neg (by omega)] at hq))
    exact hq
  · refine r_tcase (v := 1) (tgt := 76) eSc_count_1 c1 ⟨by decide, by decide⟩ ⟨by decide, by decide⟩ rfl rfl ?_
    refine r_aln eSc_count_76 rfl ?_
    refine m_getR eSc_count_77 rfl (cl_t hX (i := 0) rfl) (cl_p hX (i := 1) rfl) ?_
    refine r_gete (x := J (X + 17) 1) eSc_count_80 rfl (by decide) (cl_t hX (i := 17) rfl) rfl ?_
    refine r_iret eSc_count_83 rfl ?_
    (repeat (first | rw [if_pos (by omega)] at hq | rw [if_neg (by omega)] at hq))
    exact hq
  · refine r_tcase (v := 2) (tgt := 84) eSc_count_1 c1 ⟨by decide, by decide⟩ ⟨by decide, by decide⟩ rfl rfl ?_
    refine r_aln eSc_count_84 rfl ?_
    refine m_getR eSc_count_85 rfl (cl_t hX (i := 0) rfl) (cl_p hX (i := 1) rfl) ?_
    refine r_gete (x := J (X + 17) 2) eSc_count_88 rfl (by decide) (cl_t hX (i := 17) rfl) rfl ?_
    refine r_iret eSc_count_91 rfl ?_
    (repeat (first | rw [if_pos (by omega)] at hq | rw [if_neg (by omega)] at hq))
    exact hq
  · refine r_tcase (v := 3) (tgt := 92) eSc_count_1 c1 ⟨by decide, by decide⟩ ⟨by decide, by decide⟩ rfl rfl ?_
    refine r_aln eSc_count_92 rfl ?_
    refine m_getR eSc_count_93 rfl (cl_t hX (i := 0) rfl) (cl_p hX (i := 1) rfl) ?_
    refine r_gete (x := J (X + 17) 3) eSc_count_96 rfl (by decide) (cl_t hX (i := 17) rfl) rfl ?_
    refine r_iret eSc_count_99 rfl ?_
    (repeat (first | rw [if_pos (by omega)] at hq | rw [if_neg (by omega)] at hq))
    exact hq
  · refine r_tcase (v := 4) (tgt := 100) eSc_count_1 c1 ⟨by decide, by decide⟩ ⟨by decide, by decide⟩ rfl rfl ?_
    refine r_aln eSc_count_100 rfl ?_
    refine m_getR eSc_count_101 rfl (cl_t hX (i := 0) rfl) (cl_p hX (i := 1) rfl) ?_
    refine m_getR eSc_count_104 rfl (cl_t hX (i := 17) rfl) (cl_p hX (i := 37) rfl) ?_
    refine r_con eSc_count_107 ?_
    refine r_ialde (x := J (X + 29) 5) eSc_count_108 (cl_t hX (i := 29) rfl) (by decide) (by omega) (by omega) rfl ?_
    refine r_iret eSc_count_109 rfl ?_
    (repeat (first | rw [if_pos (by omega)] at hq | rw [if_neg (by omega)] at hq))
    exact hq
  · refine r_tcase (v := 5) (tgt := 110) eSc_count_1 c1 ⟨by decide, by decide⟩ ⟨by decide, by decide⟩ rfl rfl ?_
    refine r_aln eSc_count_110 rfl ?_
    refine m_getR eSc_count_111 rfl (cl_t hX (i := 0) rfl) (cl_p hX (i := 1) rfl) ?_
    refine m_getR eSc_count_114 rfl (cl_t hX (i := 17) rfl) (cl_p hX (i := 37) rfl) ?_
    refine r_bip eSc_count_117 (by decide) ?_
    refine r_ialde (x := J (X + 29) 8) eSc_count_119 (cl_t hX (i := 29) rfl) (by decide) (by omega) (by omega) rfl ?_
    refine r_iret eSc_count_120 rfl ?_
    (repeat (first | rw [if_pos (by omega)] at hq | rw [if_neg (by omega)] at hq))
    exact hq
  · refine r_tcase (v := 6) (tgt := 121) eSc_count_1 c1 ⟨by decide, by decide⟩ ⟨by decide, by decide⟩ rfl rfl ?_
    refine r_aln eSc_count_121 rfl ?_
    refine m_getR eSc_count_122 rfl (cl_t hX (i := 0) rfl) (cl_p hX (i := 2) rfl) ?_
    refine r_gete (x := J (X + 30) 4) eSc_count_125 rfl (by decide) (cl_t hX (i := 30) rfl) rfl ?_
    refine r_iret eSc_count_128 rfl ?_
    (repeat (first | rw [if_pos (by omega)] at hq | rw [if_neg (by omega)] at hq))
    exact hq
  · refine r_tcase (v := 7) (tgt := 129) eSc_count_1 c1 ⟨by decide, by decide⟩ ⟨by decide, by decide⟩ rfl rfl ?_
    refine r_aln eSc_count_129 rfl ?_
    refine m_getR eSc_count_130 rfl (cl_t hX (i := 0) rfl) (cl_p hX (i := 2) rfl) ?_
    refine r_gete (x := J (X + 30) 3) eSc_count_133 rfl (by decide) (cl_t hX (i := 30) rfl) rfl ?_
    refine r_iret eSc_count_136 rfl ?_
    (repeat (first | rw [if_pos (by omega)] at hq | rw [if_neg (by omega)] at hq))
    exact hq
  · refine r_tcase (v := 8) (tgt := 137) eSc_count_1 c1 ⟨by decide, by decide⟩ ⟨by decide, by decide⟩ rfl rfl ?_
    refine r_aln eSc_count_137 rfl ?_
    refine m_getR eSc_count_138 rfl (cl_t hX (i := 0) rfl) (cl_p hX (i := 3) rfl) ?_
    refine r_vir eSc_count_141 rfl rfl rfl (cl_t hX (i := 33) rfl) rfl rfl ?_
    refine c_Lo_shown (cl_hist hX) ho.2.1 ?_
    show m_wp en _ mSc_count 144 [some (.ref X), some (.int (m_i (x)))] [(.int (m_i ((min 40 (J (X + 33) 2)))))] (T, m_I J, P, L, z, w) Q
    refine r_iret eSc_count_144 rfl ?_
    (repeat (first | rw [if_pos (by omega)] at hq | rw [if_neg (by omega)] at hq))
    exact hq
  · refine r_tcase (v := 9) (tgt := 145) eSc_count_1 c1 ⟨by decide, by decide⟩ ⟨by decide, by decide⟩ rfl rfl ?_
    refine r_aln eSc_count_145 rfl ?_
    refine m_getR eSc_count_146 rfl (cl_t hX (i := 0) rfl) (cl_p hX (i := 4) rfl) ?_
    refine r_gete (x := J (X + 35) 2) eSc_count_149 rfl (by decide) (cl_t hX (i := 35) rfl) rfl ?_
    refine r_iret eSc_count_152 rfl ?_
    (repeat (first | rw [if_pos (by omega)] at hq | rw [if_neg (by omega)] at hq))
    exact hq
  · refine r_tcase (v := 10) (tgt := 153) eSc_count_1 c1 ⟨by decide, by decide⟩ ⟨by decide, by decide⟩ rfl rfl ?_
    refine r_aln eSc_count_153 rfl ?_
    refine m_getR eSc_count_154 rfl (cl_t hX (i := 0) rfl) (cl_p hX (i := 0) rfl) ?_
    refine r_gete (x := J (X + 1) 1) eSc_count_157 rfl (by decide) (cl_t hX (i := 1) rfl) rfl ?_
    refine r_iret eSc_count_160 rfl ?_
    (repeat (first | rw [if_pos (by omega)] at hq | rw [if_neg (by omega)] at hq))
    exact hq
  · refine r_tcase (v := 11) (tgt := 161) eSc_count_1 c1 ⟨by decide, by decide⟩ ⟨by decide, by decide⟩ rfl rfl ?_
    refine r_aln eSc_count_161 rfl ?_
    refine m_getR eSc_count_162 rfl (cl_t hX (i := 0) rfl) (cl_p hX (i := 1) rfl) ?_
    refine m_getR eSc_count_165 rfl (cl_t hX (i := 17) rfl) (cl_p hX (i := 37) rfl) ?_
    refine r_bip eSc_count_168 (by decide) ?_
    refine r_ialde (x := J (X + 29) 10) eSc_count_170 (cl_t hX (i := 29) rfl) (by decide) (by omega) (by omega) rfl ?_
    refine r_iret eSc_count_171 rfl ?_
    (repeat (first | rw [if_pos (by omega)] at hq | rw [if_neg (by omega)] at hq))
    exact hq
  · refine r_tcase (v := 12) (tgt := 172) eSc_count_1 c1 ⟨by decide, by decide⟩ ⟨by decide, by decide⟩ rfl rfl ?_
    refine r_aln eSc_count_172 rfl ?_
    refine m_getR eSc_count_173 rfl (cl_t hX (i := 0) rfl) (cl_p hX (i := 2) rfl) ?_
    refine r_vir eSc_count_176 rfl rfl rfl (cl_t hX (i := 30) rfl) rfl rfl ?_
    refine c_Mo_countBoxes (cl_moment hX) ?_
    show m_wp en _ mSc_count 179 [some (.ref X), some (.int (m_i (x)))] [(.int (m_i ((a_sum (J (X + 30 + 2)) 16))))] (T, m_I J, P, L, z, w) Q
    refine r_iret eSc_count_179 rfl ?_
    (repeat (first | rw [if_pos (by omega)] at hq | rw [if_neg (by omega)] at hq))
    exact hq
  · refine r_tdef (tgt := 180) eSc_count_1 c1 ⟨by omega, by omega⟩ rfl ?_
    refine r_con eSc_count_180 ?_
    refine r_iret eSc_count_181 rfl ?_
    (repeat (first | rw [if_pos (by omega)] at hq | rw [if_neg (by omega)] at hq))
    exact hq
end SCT
