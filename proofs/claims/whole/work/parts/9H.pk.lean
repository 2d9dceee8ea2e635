/-! a pose in one number; a plan laid bare; the log told; the past -/
def a_pk (σ : a_S) : Int := σ.1 * 16384 + (σ.2.1 + 2) * 2048 + σ.2.2.2.2 * 256 + (σ.2.2.1 + 4) * 16 + (σ.2.2.2.1 + 4)
def a_up (n : Int) : a_S := (n / 16384 % 16, n / 2048 % 8 - 2, n / 16 % 16 - 4, n % 16 - 4, n / 256 % 8)
/-- a pose that can be packed -/
def a_p5 (σ : a_S) : Prop := (0 ≤ σ.1 ∧ σ.1 ≤ 15) ∧ (-2 ≤ σ.2.1 ∧ σ.2.1 ≤ 2) ∧ (-4 ≤ σ.2.2.1 ∧ σ.2.2.1 ≤ 4) ∧ (-4 ≤ σ.2.2.2.1 ∧ σ.2.2.2.1 ≤ 4) ∧ (1 ≤ σ.2.2.2.2 ∧ σ.2.2.2.2 ≤ 6)
theorem a_up_pk {σ : a_S} (h : a_p5 σ) : a_up (a_pk σ) = σ := by
  obtain ⟨x, v, t, l, e⟩ := σ
  obtain ⟨h0, h1, h2, h3, h4⟩ := h
  simp only at h0 h1 h2 h3 h4
  unfold a_up a_pk
  simp only
  refine Prod.ext ?_ (Prod.ext ?_ (Prod.ext ?_ (Prod.ext ?_ ?_))) <;> simp only <;> omega
theorem a_pk_b {σ : a_S} (h : a_p5 σ) : 0 ≤ a_pk σ ∧ a_pk σ < 262144 := by
  obtain ⟨h0, h1, h2, h3, h4⟩ := h
  unfold a_pk
  omega
theorem a_p5_sm {σ : a_S} (h : a_p5 σ) : a_sm σ := by
  obtain ⟨h0, h1, h2, h3, h4⟩ := h
  unfold a_sm
  omega
theorem a_p5_t {σ : a_S} (h : a_p5 σ) : a_t σ := by
  obtain ⟨h0, h1, h2, h3, h4⟩ := h
  unfold a_t
  omega
theorem a_pk_or {x v t l e : Int} (h : a_p5 (x, v, t, l, e)) : m_or (m_or (m_or (m_or (m_shl x 14) (m_shl (v + 2) 11)) (m_shl e 8)) (m_shl (t + 4) 4)) (l + 4) = a_pk (x, v, t, l, e) := by
  obtain ⟨h0, h1, h2, h3, h4⟩ := h
  simp only at h0 h1 h2 h3 h4
  have p14 : ((2 ^ 14 : Nat) : Int) = 16384 := rfl
  have p11 : ((2 ^ 11 : Nat) : Int) = 2048 := rfl
  have p8 : ((2 ^ 8 : Nat) : Int) = 256 := rfl
  have p4 : ((2 ^ 4 : Nat) : Int) = 16 := rfl
  have s1 := m_shl_v (x := x) (k := 14) (by omega) 14 rfl (by omega) (by rw [p14]; omega)
  have s2 := m_shl_v (x := v + 2) (k := 11) (by omega) 11 rfl (by omega) (by rw [p11]; omega)
  have s3 := m_shl_v (x := e) (k := 8) (by omega) 8 rfl (by omega) (by rw [p8]; omega)
  have s4 := m_shl_v (x := t + 4) (k := 4) (by omega) 4 rfl (by omega) (by rw [p4]; omega)
  rw [p14] at s1; rw [p11] at s2; rw [p8] at s3; rw [p4] at s4
  rw [s1, s2, s3, s4]
  have o1 := m_or_d (q := x) (b := (v + 2) * 2048) 14 (by omega) (by rw [p14]; omega) (by rw [p14]; omega)
  rw [p14] at o1
  have o2 := m_or_d (q := x * 8 + (v + 2)) (b := e * 256) 11 (by omega) (by rw [p11]; omega) (by rw [p11]; omega)
  rw [p11] at o2
  have o3 := m_or_d (q := x * 64 + (v + 2) * 8 + e) (b := (t + 4) * 16) 8 (by omega) (by rw [p8]; omega) (by rw [p8]; omega)
  rw [p8] at o3
  have o4 := m_or_d (q := x * 1024 + (v + 2) * 128 + e * 16 + (t + 4)) (b := l + 4) 4 (by omega) (by rw [p4]; omega) (by rw [p4]; omega)
  rw [p4] at o4
  rw [o1, show x * 16384 + (v + 2) * 2048 = (x * 8 + (v + 2)) * 2048 by omega, o2, show (x * 8 + (v + 2)) * 2048 + e * 256 = (x * 64 + (v + 2) * 8 + e) * 256 by omega, o3, show (x * 64 + (v + 2) * 8 + e) * 256 + (t + 4) * 16 = (x * 1024 + (v + 2) * 128 + e * 16 + (t + 4)) * 16 by omega, o4]
  unfold a_pk
  simp only
  omega
theorem m_up_o {f : Nat → Nat → Int} {a j b i : Nat} {v : Int} (h : b ≠ a) : m_up f a j v b i = f b i := if_neg (fun q => h q.1)
theorem m_up_j {f : Nat → Nat → Int} {a j b i : Nat} {v : Int} (h : i ≠ j) : m_up f a j v b i = f b i := if_neg (fun q => h q.2)
theorem m_up_fl {J : Nat → Nat → Int} {A B o k : Nat} {f : Nat → Int} {n v : Int} (h : B ≠ A) : m_up (m_fl J A o f n) B k v = m_fl (m_up J B k v) A o f n := by
  funext b i
  by_cases q : b = A
  · subst q
    rw [m_up_o (fun e => h e.symm)]
    unfold m_fl
    by_cases q2 : o ≤ i ∧ (i : Int) < o + n
    · rw [if_pos ⟨rfl, q2⟩, if_pos ⟨rfl, q2⟩]
    · rw [if_neg (fun e => q2 e.2), if_neg (fun e => q2 e.2), m_up_o (fun e => h e.symm)]
  · rw [m_fl_o q, m_up_at, m_up_at, m_fl_o q]
section PKA
variable {en : Nat → Nat} {d : Nat} {me : m_Me} {pc : Nat} {ls : m_L} {st : List Value} {T : Nat → Option (Nat × Nat)} {J J0 K H : Nat → Nat → Int} {P : Nat → Nat → Option Nat} {L : Nat → Nat → Int64} {z w A B R X : Nat} {Q : m_Q} {σ : a_S} {C : a_C} {h : Int}
theorem r_aald {i : Int} {a r n : Nat} (hd : decode me.2.2.1 pc = .ok (.aaload, 1)) (hT : T a = some (25, n)) (hn : n < 2147483648) (h0 : 0 ≤ i) (h1 : i < n) (hP : P a i.toNat = some r) (kk : m_wp en d me (pc + 1) ls (.ref r :: st) (T, m_I J, P, L, z, w) Q) : m_wp en d me pc ls (.int (m_i i) :: .ref a :: st) (T, m_I J, P, L, z, w) Q := by
  have e := r_ix h0 h1 hn
  refine m_next hd ?_ kk
  simp only [m_st, hT]
  rw [if_pos ⟨trivial, e.1⟩, e.2, hP]
  rfl
theorem c_Po_packed (hA : po_sh en A T P) (hs : a_p5 (po_get J A)) (hq : Q (some (.int (m_i (a_pk (po_get J A))))) (T, m_I J, P, L, z, w)) : m_call en (d + 1) mPo_packed [.ref A] (T, m_I J, P, L, z, w) Q := by
  have e := a_pk_or (x := J A 0) (v := J A 1) (t := J A 2) (l := J A 3) (e := J A 4) hs
  refine m_into (by decide) (Nat.le_of_ble_eq_true rfl) rfl ?_
  show m_wp en _ mPo_packed 0 [some (.ref A)] [] (T, m_I J, P, L, z, w) Q
  refine r_aln ePo_packed_0 rfl ?_
  refine r_gete (x := J A 0) ePo_packed_1 rfl (by decide) hA.2.1 rfl ?_
  refine r_bip ePo_packed_4 (by decide) ?_
  refine r_shl ePo_packed_6 ?_
  refine r_aln ePo_packed_7 rfl ?_
  refine r_gete (x := J A 1) ePo_packed_8 rfl (by decide) hA.2.1 rfl ?_
  refine r_con ePo_packed_11 ?_
  refine r_add ePo_packed_12 ?_
  refine r_bip ePo_packed_13 (by decide) ?_
  refine r_shl ePo_packed_15 ?_
  refine r_or ePo_packed_16 ?_
  refine r_aln ePo_packed_17 rfl ?_
  refine r_gete (x := J A 4) ePo_packed_18 rfl (by decide) hA.2.1 rfl ?_
  refine r_bip ePo_packed_21 (by decide) ?_
  refine r_shl ePo_packed_23 ?_
  refine r_or ePo_packed_24 ?_
  refine r_aln ePo_packed_25 rfl ?_
  refine r_gete (x := J A 2) ePo_packed_26 rfl (by decide) hA.2.1 rfl ?_
  refine r_con ePo_packed_29 ?_
  refine r_add ePo_packed_30 ?_
  refine r_con ePo_packed_31 ?_
  refine r_shl ePo_packed_32 ?_
  refine r_or ePo_packed_33 ?_
  refine r_aln ePo_packed_34 rfl ?_
  refine r_gete (x := J A 3) ePo_packed_35 rfl (by decide) hA.2.1 rfl ?_
  refine r_con ePo_packed_38 ?_
  refine r_add ePo_packed_39 ?_
  refine r_or ePo_packed_40 ?_
  refine r_iret ePo_packed_41 rfl ?_
  rw [e]
  exact hq
theorem a_up_b {n : Int} (hn : 0 ≤ n ∧ n < 2147483648) : m_and (m_shr n 14) 15 = n / 16384 % 16 ∧ m_and (m_shr n 11) 7 = n / 2048 % 8 ∧ m_and (m_shr n 8) 7 = n / 256 % 8 ∧ m_and (m_shr n 4) 15 = n / 16 % 16 ∧ m_and n 15 = n % 16 := by
  have hi : m_in n := ⟨by omega, by omega⟩
  rw [m_and_15, m_and_7, m_and_7, m_and_15, m_and_15, m_shr_v (k := 14) hi 14 rfl (by omega), m_shr_v (k := 11) hi 11 rfl (by omega), m_shr_v (k := 8) hi 8 rfl (by omega), m_shr_v (k := 4) hi 4 rfl (by omega)]
  exact ⟨rfl, rfl, rfl, rfl, rfl⟩
theorem c_Po_unpack (hA : po_sh en A T P) {n : Int} (hn : 0 ≤ n ∧ n < 2147483648) (hq : Q none (T, m_I (po_put J A (a_up n)), P, L, z, w)) : m_call en (d + 1) mPo_unpack [.ref A, .int (m_i n)] (T, m_I J, P, L, z, w) Q := by
  obtain ⟨g1, g2, g3, g4, g5⟩ := a_up_b hn
  refine m_into (by decide) (Nat.le_of_ble_eq_true rfl) rfl ?_
  show m_wp en _ mPo_unpack 0 [some (.ref A), some (.int (m_i (n)))] [] (T, m_I J, P, L, z, w) Q
  refine r_aln ePo_unpack_0 rfl ?_
  refine r_iln ePo_unpack_1 rfl ?_
  refine r_bip ePo_unpack_2 (by decide) ?_
  refine r_shr ePo_unpack_4 ?_
  refine r_bip ePo_unpack_5 (by decide) ?_
  refine r_and ePo_unpack_7 ?_
  refine r_put ePo_unpack_8 rfl hA.2.1 hA.1 (Or.inl rfl) ?_
  refine r_aln ePo_unpack_11 rfl ?_
  refine r_iln ePo_unpack_12 rfl ?_
  refine r_bip ePo_unpack_13 (by decide) ?_
  refine r_shr ePo_unpack_15 ?_
  refine r_bip ePo_unpack_16 (by decide) ?_
  refine r_and ePo_unpack_18 ?_
  refine r_con ePo_unpack_19 ?_
  refine r_sub ePo_unpack_20 ?_
  refine r_put ePo_unpack_21 rfl hA.2.1 hA.1 (Or.inl rfl) ?_
  refine r_aln ePo_unpack_24 rfl ?_
  refine r_iln ePo_unpack_25 rfl ?_
  refine r_bip ePo_unpack_26 (by decide) ?_
  refine r_shr ePo_unpack_28 ?_
  refine r_bip ePo_unpack_29 (by decide) ?_
  refine r_and ePo_unpack_31 ?_
  refine r_put ePo_unpack_32 rfl hA.2.1 hA.1 (Or.inl rfl) ?_
  refine r_aln ePo_unpack_35 rfl ?_
  refine r_iln ePo_unpack_36 rfl ?_
  refine r_con ePo_unpack_37 ?_
  refine r_shr ePo_unpack_38 ?_
  refine r_bip ePo_unpack_39 (by decide) ?_
  refine r_and ePo_unpack_41 ?_
  refine r_con ePo_unpack_42 ?_
  refine r_sub ePo_unpack_43 ?_
  refine r_put ePo_unpack_44 rfl hA.2.1 hA.1 (Or.inl rfl) ?_
  refine r_aln ePo_unpack_47 rfl ?_
  refine r_iln ePo_unpack_48 rfl ?_
  refine r_bip ePo_unpack_49 (by decide) ?_
  refine r_and ePo_unpack_51 ?_
  refine r_con ePo_unpack_52 ?_
  refine r_sub ePo_unpack_53 ?_
  refine r_put ePo_unpack_54 rfl hA.2.1 hA.1 (Or.inl rfl) ?_
  rw [po_put_eq (K := ((m_up (m_up (m_up (m_up (m_up J A 0 (m_and (m_shr (n) (14)) (15))) A 1 ((m_and (m_shr (n) (11)) (7)) - (2))) A 4 (m_and (m_shr (n) (8)) (7))) A 2 ((m_and (m_shr (n) (4)) (15)) - (4))) A 3 ((m_and (n) (15)) - (4))))) (J := J) (A := A) (σ := a_up n) (by simp [m_up, a_up, g1, g2, g3, g4, g5]) (by simp [m_up, a_up, g1, g2, g3, g4, g5]) (by simp [m_up, a_up, g1, g2, g3, g4, g5]) (by simp [m_up, a_up, g1, g2, g3, g4, g5]) (by simp [m_up, a_up, g1, g2, g3, g4, g5]) (fun b i q => by rw [m_up_at, if_neg (by omega), m_up_at, if_neg (by omega), m_up_at, if_neg (by omega), m_up_at, if_neg (by omega), m_up_at, if_neg (by omega)])]
  refine r_ret ePo_unpack_57 rfl ?_
  exact hq
def pl_c7 (J : Nat → Nat → Int) (A : Nat) : Nat → Nat → Int := m_up (m_up (m_up (m_up (m_up (m_up (m_up J A 0 16) A 1 6) A 2 2) A 3 4) A 4 0) A 5 0) A 6 1
def pl_cl (J : Nat → Nat → Int) (A : Nat) : Nat → Nat → Int := m_fl (m_fl (m_fl (pl_c7 J A) (A + 1) 0 (fun _ => 6) 16) (A + 2) 0 (fun _ => 0) 16) (A + 12) 0 (fun _ => 0) 12
theorem l2_Pl_clear (hA : pl_sh en A T P) (hq : Q none (T, m_I (m_fl H (A + 12) 0 (fun _ => 0) 12), P, L, z, w)) :
    ∀ (m k : Nat), k + m = 12 → m_wp en d mPl_clear 68 [some (.ref A), some (.int (m_i (k : Int)))] [] (T, m_I (m_fl H (A + 12) 0 (fun _ => 0) (k : Int)), P, L, z, w) Q := by
  intro m
  induction m with
  | zero =>
    intro k hk
    obtain rfl : k = 12 := by omega
    refine r_iln ePl_clear_68 rfl ?_
    refine r_bip ePl_clear_69 (by decide) ?_
    refine r_cge (tgt := 87) ePl_clear_71 rfl ⟨(by omega), (by omega)⟩ ⟨(by omega), (by omega)⟩ (fun c71 => ?_) (fun c71 => ?_)
    · refine r_ret ePl_clear_87 rfl ?_
      exact hq
    · exfalso; omega
  | succ m ih =>
    intro k hk
    have hi := ih (k + 1) (by omega)
    rw [show ((k + 1 : Nat) : Int) = (k : Int) + 1 by omega, ← m_fl_s (n := (k : Int).toNat) (v := 0) (by omega) (by omega) rfl] at hi
    refine r_iln ePl_clear_68 rfl ?_
    refine r_bip ePl_clear_69 (by decide) ?_
    refine r_cge (tgt := 87) ePl_clear_71 rfl ⟨(by omega), (by omega)⟩ ⟨(by omega), (by omega)⟩ (fun c71 => ?_) (fun c71 => ?_)
    · exfalso; omega
    · refine r_aln ePl_clear_74 rfl ?_
      refine m_getR ePl_clear_75 rfl hA.2.1 (ob_p hA (i := 11) rfl) ?_
      refine r_iln ePl_clear_78 rfl ?_
      refine r_con ePl_clear_79 ?_
      refine r_iast ePl_clear_80 (ob_t hA (i := 11) rfl) (by decide) (by omega) (by omega) (ob_b hA 12) ?_
      refine r_inc (ls' := [some (.ref A), some (.int (m_i ((k : Int) + 1)))]) ePl_clear_81 rfl rfl ?_
      refine r_go (tgt := 68) ePl_clear_84 rfl ?_
      exact hi
theorem l1_Pl_clear (hA : pl_sh en A T P) (hq : m_wp en d mPl_clear 68 [some (.ref A), some (.int (m_i 0))] [] (T, m_I (m_fl (m_fl H (A + 1) 0 (fun _ => 6) 16) (A + 2) 0 (fun _ => 0) 16), P, L, z, w) Q) :
    ∀ (m k : Nat), k + m = 16 → m_wp en d mPl_clear 39 [some (.ref A), some (.int (m_i (k : Int)))] [] (T, m_I (m_fl (m_fl H (A + 1) 0 (fun _ => 6) (k : Int)) (A + 2) 0 (fun _ => 0) (k : Int)), P, L, z, w) Q := by
  intro m
  induction m with
  | zero =>
    intro k hk
    obtain rfl : k = 16 := by omega
    refine r_iln ePl_clear_39 rfl ?_
    refine r_bip ePl_clear_40 (by decide) ?_
    refine r_cge (tgt := 66) ePl_clear_42 rfl ⟨(by omega), (by omega)⟩ ⟨(by omega), (by omega)⟩ (fun c42 => ?_) (fun c42 => ?_)
    · refine r_con ePl_clear_66 ?_
      refine r_isn (ls' := [some (.ref A), some (.int (m_i (0)))]) ePl_clear_67 (Nat.le_of_ble_eq_true rfl) rfl ?_
      exact hq
    · exfalso; omega
  | succ m ih =>
    intro k hk
    have hi := ih (k + 1) (by omega)
    rw [show ((k + 1 : Nat) : Int) = (k : Int) + 1 by omega, ← m_fl_s (A := A + 2) (n := (k : Int).toNat) (v := 0) (by omega) (by omega) rfl, ← m_fl_s (A := A + 1) (n := (k : Int).toNat) (v := 6) (by omega) (by omega) rfl, ← m_up_fl (B := A + 1) (A := A + 2) (by omega)] at hi
    refine r_iln ePl_clear_39 rfl ?_
    refine r_bip ePl_clear_40 (by decide) ?_
    refine r_cge (tgt := 66) ePl_clear_42 rfl ⟨(by omega), (by omega)⟩ ⟨(by omega), (by omega)⟩ (fun c42 => ?_) (fun c42 => ?_)
    · exfalso; omega
    · refine r_aln ePl_clear_45 rfl ?_
      refine m_getR ePl_clear_46 rfl hA.2.1 (ob_p hA (i := 0) rfl) ?_
      refine r_iln ePl_clear_49 rfl ?_
      refine r_bip ePl_clear_50 (by decide) ?_
      refine r_iast ePl_clear_52 (ob_t hA (i := 0) rfl) (by decide) (by omega) (by omega) (ob_b hA 1) ?_
      refine r_aln ePl_clear_53 rfl ?_
      refine m_getR ePl_clear_54 rfl hA.2.1 (ob_p hA (i := 1) rfl) ?_
      refine r_iln ePl_clear_57 rfl ?_
      refine r_con ePl_clear_58 ?_
      refine r_iast ePl_clear_59 (ob_t hA (i := 1) rfl) (by decide) (by omega) (by omega) (ob_b hA 2) ?_
      refine r_inc (ls' := [some (.ref A), some (.int (m_i ((k : Int) + 1)))]) ePl_clear_60 rfl rfl ?_
      refine r_go (tgt := 39) ePl_clear_63 rfl ?_
      exact hi
theorem c_Pl_clear (hA : pl_sh en A T P) (hq : Q none (T, m_I (pl_cl J A), P, L, z, w)) : m_call en (d + 1) mPl_clear [.ref A] (T, m_I J, P, L, z, w) Q := by
  have h2 := l2_Pl_clear (d := d) (H := m_fl (m_fl (pl_c7 J A) (A + 1) 0 (fun _ => 6) 16) (A + 2) 0 (fun _ => 0) 16) (L := L) (z := z) (w := w) hA hq 12 0 (by omega)
  rw [show ((0 : Nat) : Int) = 0 from rfl, m_fl_0] at h2
  have h1 := l1_Pl_clear (d := d) (H := pl_c7 J A) hA h2 16 0 (by omega)
  rw [show ((0 : Nat) : Int) = 0 from rfl, m_fl_0, m_fl_0] at h1
  refine m_into (by decide) (Nat.le_of_ble_eq_true rfl) rfl ?_
  show m_wp en _ mPl_clear 0 [some (.ref A), none] [] (T, m_I J, P, L, z, w) Q
  refine r_aln ePl_clear_0 rfl ?_
  refine r_bip ePl_clear_1 (by decide) ?_
  refine r_put ePl_clear_3 rfl hA.2.1 hA.1 (Or.inl rfl) ?_
  refine r_aln ePl_clear_6 rfl ?_
  refine r_bip ePl_clear_7 (by decide) ?_
  refine r_put ePl_clear_9 rfl hA.2.1 hA.1 (Or.inl rfl) ?_
  refine r_aln ePl_clear_12 rfl ?_
  refine r_con ePl_clear_13 ?_
  refine r_put ePl_clear_14 rfl hA.2.1 hA.1 (Or.inl rfl) ?_
  refine r_aln ePl_clear_17 rfl ?_
  refine r_con ePl_clear_18 ?_
  refine r_put ePl_clear_19 rfl hA.2.1 hA.1 (Or.inl rfl) ?_
  refine r_aln ePl_clear_22 rfl ?_
  refine r_con ePl_clear_23 ?_
  refine r_put ePl_clear_24 rfl hA.2.1 hA.1 (Or.inl rfl) ?_
  refine r_aln ePl_clear_27 rfl ?_
  refine r_con ePl_clear_28 ?_
  refine r_put ePl_clear_29 rfl hA.2.1 hA.1 (Or.inl rfl) ?_
  refine r_aln ePl_clear_32 rfl ?_
  refine r_con ePl_clear_33 ?_
  refine r_put ePl_clear_34 rfl hA.2.1 hA.1 (Or.inl rfl) ?_
  refine r_con ePl_clear_37 ?_
  refine r_isn (ls' := [some (.ref A), some (.int (m_i (0)))]) ePl_clear_38 (Nat.le_of_ble_eq_true rfl) rfl ?_
  exact h1
theorem c_Lo_tell (hA : lo_sh en A T P) (he : 0 ≤ J A 1 ∧ J A 1 < 70) {k x : Int} (hk : 0 ≤ k ∧ k < 70) (hx : 0 ≤ x ∧ x ≤ 2) (hv : m_in (J (A + 1) (lo_at (J A 1) k).toNat)) (hq : Q (some (.int (m_i (if x = 0 then J (A + 1) (lo_at (J A 1) k).toNat % 256 else if x = 1 then J (A + 1) (lo_at (J A 1) k).toNat / 256 % 2 else J (A + 1) (lo_at (J A 1) k).toNat / 512)))) (T, m_I J, P, L, z, w)) : m_call en (d + 2) mLo_tell [.ref A, .int (m_i k), .int (m_i x)] (T, m_I J, P, L, z, w) Q := by
  have s1 := m_and_255 (J (A + 1) (lo_at (J A 1) k).toNat)
  have s2 := m_bit (k := 8) hv 8 rfl (by omega)
  rw [show ((2 ^ 8 : Nat) : Int) = 256 from rfl] at s2
  have s3 := m_shr_v (k := 9) hv 9 rfl (by omega)
  rw [show ((2 ^ 9 : Nat) : Int) = 512 from rfl] at s3
  refine m_into (by decide) (Nat.le_of_ble_eq_true rfl) rfl ?_
  show m_wp en _ mLo_tell 0 [some (.ref A), some (.int (m_i (k))), some (.int (m_i (x))), none] [] (T, m_I J, P, L, z, w) Q
  refine r_aln eLo_tell_0 rfl ?_
  refine r_iln eLo_tell_1 rfl ?_
  refine r_vir eLo_tell_2 rfl rfl rfl hA.2.1 rfl rfl ?_
  refine c_Lo_latest hA he hk ?_
  show m_wp en _ mLo_tell 5 [some (.ref A), some (.int (m_i (k))), some (.int (m_i (x))), none] [(.int (m_i ((J (A + 1) (lo_at (J A 1) k).toNat))))] (T, m_I J, P, L, z, w) Q
  refine r_isn (ls' := [some (.ref A), some (.int (m_i (k))), some (.int (m_i (x))), some (.int (m_i ((J (A + 1) (lo_at (J A 1) k).toNat))))]) eLo_tell_5 (Nat.le_of_ble_eq_true rfl) rfl ?_
  refine r_iln eLo_tell_6 rfl ?_
  refine r_zne (tgt := 16) eLo_tell_7 rfl ⟨(by omega), (by omega)⟩ (fun c7 => ?_) (fun c7 => ?_)
  · refine r_iln eLo_tell_16 rfl ?_
    refine r_con eLo_tell_17 ?_
    refine r_cne (tgt := 30) eLo_tell_18 rfl ⟨(by omega), (by omega)⟩ ⟨(by omega), (by omega)⟩ (fun c18 => ?_) (fun c18 => ?_)
    · refine r_iln eLo_tell_30 rfl ?_
      refine r_bip eLo_tell_31 (by decide) ?_
      refine r_shr eLo_tell_33 ?_
      refine r_iret eLo_tell_34 rfl ?_
      first | (rw [s2]; rw [if_neg (by omega), if_pos (by omega)] at hq; exact hq) | (rw [s3]; rw [if_neg (by omega), if_neg (by omega)] at hq; exact hq)
    · refine r_iln eLo_tell_21 rfl ?_
      refine r_bip eLo_tell_22 (by decide) ?_
      refine r_shr eLo_tell_24 ?_
      refine r_con eLo_tell_25 ?_
      refine r_and eLo_tell_26 ?_
      refine r_go (tgt := 34) eLo_tell_27 rfl ?_
      refine r_iret eLo_tell_34 rfl ?_
      first | (rw [s2]; rw [if_neg (by omega), if_pos (by omega)] at hq; exact hq) | (rw [s3]; rw [if_neg (by omega), if_neg (by omega)] at hq; exact hq)
  · refine r_iln eLo_tell_10 rfl ?_
    refine r_sip eLo_tell_11 (by decide) ?_
    refine r_and eLo_tell_14 ?_
    refine r_iret eLo_tell_15 rfl ?_
    rw [s1]
    rw [if_pos (by omega)] at hq
    exact hq
/-- whether the latest m letters are those of the m ahead of them -/
def lo_rp (f : Nat → Int) (e : Int) (m : Nat) : Bool := (List.range m).all (fun k => decide (f (lo_at e (k : Int)).toNat % 256 = f (lo_at e ((k : Int) + (m : Int))).toNat % 256))
theorem l_Lo_repeats (hA : lo_sh en A T P) (he : 0 ≤ J A 1 ∧ J A 1 < 70) {m : Nat} (hm : m ≤ 35) (hq : Q (some (.int (m_i (a_b (lo_rp (J (A + 1)) (J A 1) m))))) (T, m_I J, P, L, z, w)) :
    ∀ (r k : Nat), k + r = m → (∀ j : Nat, j < k → J (A + 1) (lo_at (J A 1) (j : Int)).toNat % 256 = J (A + 1) (lo_at (J A 1) ((j : Int) + (m : Int))).toNat % 256) → m_wp en (d + 1) mLo_repeats 2 [some (.ref A), some (.int (m_i (m : Int))), some (.int (m_i (k : Int)))] [] (T, m_I J, P, L, z, w) Q := by
  intro r
  induction r with
  | zero =>
    intro k hk hj
    obtain rfl : k = m := by omega
    have hy : lo_rp (J (A + 1)) (J A 1) k = true := by
      unfold lo_rp
      rw [List.all_eq_true]
      intro j hj2
      rw [decide_eq_true_eq]
      exact hj j (List.mem_range.mp hj2)
    rw [a_b_t hy] at hq
    refine r_iln eLo_repeats_2 rfl ?_
    refine r_iln eLo_repeats_3 rfl ?_
    refine r_cge (tgt := 38) eLo_repeats_4 rfl ⟨(by omega), (by omega)⟩ ⟨(by omega), (by omega)⟩ (fun c4 => ?_) (fun c4 => ?_)
    · refine r_con eLo_repeats_38 ?_
      refine r_zret eLo_repeats_39 rfl (by first | exact Or.inl rfl | exact Or.inr rfl | omega) ?_
      exact hq
    · exfalso; omega
  | succ r ih =>
    intro k hk hj
    have hi := ih (k + 1) (by omega)
    rw [show ((k + 1 : Nat) : Int) = (k : Int) + 1 by omega] at hi
    have s1 := m_and_255 (J (A + 1) (lo_at (J A 1) (k : Int)).toNat)
    have s2 := m_and_255 (J (A + 1) (lo_at (J A 1) ((k : Int) + (m : Int))).toNat)
    refine r_iln eLo_repeats_2 rfl ?_
    refine r_iln eLo_repeats_3 rfl ?_
    refine r_cge (tgt := 38) eLo_repeats_4 rfl ⟨(by omega), (by omega)⟩ ⟨(by omega), (by omega)⟩ (fun c4 => ?_) (fun c4 => ?_)
    · exfalso; omega
    · refine r_aln eLo_repeats_7 rfl ?_
      refine r_iln eLo_repeats_8 rfl ?_
      refine r_vir eLo_repeats_9 rfl rfl rfl hA.2.1 rfl rfl ?_
      refine c_Lo_latest hA he (by omega) ?_
      show m_wp en _ mLo_repeats 12 [some (.ref A), some (.int (m_i ((m : Int)))), some (.int (m_i ((k : Int))))] [(.int (m_i ((J (A + 1) (lo_at (J A 1) (((k : Int)))).toNat))))] (T, m_I J, P, L, z, w) Q
      refine r_sip eLo_repeats_12 (by decide) ?_
      refine r_and eLo_repeats_15 ?_
      refine r_aln eLo_repeats_16 rfl ?_
      refine r_iln eLo_repeats_17 rfl ?_
      refine r_iln eLo_repeats_18 rfl ?_
      refine r_add eLo_repeats_19 ?_
      refine r_vir eLo_repeats_20 rfl rfl rfl hA.2.1 rfl rfl ?_
      refine c_Lo_latest hA he (by omega) ?_
      show m_wp en _ mLo_repeats 23 [some (.ref A), some (.int (m_i ((m : Int)))), some (.int (m_i ((k : Int))))] [(.int (m_i ((J (A + 1) (lo_at (J A 1) ((((k : Int)) + ((m : Int))))).toNat)))), (.int (m_i (m_and ((J (A + 1) (lo_at (J A 1) (((k : Int)))).toNat)) (255))))] (T, m_I J, P, L, z, w) Q
      refine r_sip eLo_repeats_23 (by decide) ?_
      refine r_and eLo_repeats_26 ?_
      rw [s2, s1]
      refine r_ceq (tgt := 32) eLo_repeats_27 rfl ⟨(by omega), (by omega)⟩ ⟨(by omega), (by omega)⟩ (fun c27 => ?_) (fun c27 => ?_)
      · refine r_inc (ls' := [some (.ref A), some (.int (m_i ((m : Int)))), some (.int (m_i ((k : Int) + 1)))]) eLo_repeats_32 rfl rfl ?_
        refine r_go (tgt := 2) eLo_repeats_35 rfl ?_
        refine hi (fun j hj2 => ?_)
        rcases Nat.lt_or_eq_of_le (Nat.le_of_lt_succ hj2) with q | q
        · exact hj j q
        · subst q
          exact c27
      · refine r_con eLo_repeats_30 ?_
        refine r_zret eLo_repeats_31 rfl (by first | exact Or.inl rfl | exact Or.inr rfl | omega) ?_
        have hn : ¬ lo_rp (J (A + 1)) (J A 1) m = true := fun q => by
          unfold lo_rp at q
          rw [List.all_eq_true] at q
          exact c27 (of_decide_eq_true (q k (List.mem_range.mpr (by omega))))
        rw [a_b_f hn] at hq
        exact hq
theorem c_Lo_repeats (hA : lo_sh en A T P) (he : 0 ≤ J A 1 ∧ J A 1 < 70) {m : Nat} (hm : m ≤ 35) (hq : Q (some (.int (m_i (a_b (lo_rp (J (A + 1)) (J A 1) m))))) (T, m_I J, P, L, z, w)) : m_call en (d + 2) mLo_repeats [.ref A, .int (m_i (m : Int))] (T, m_I J, P, L, z, w) Q := by
  have h2 := l_Lo_repeats (d := d) hA he hm hq m 0 (by omega) (fun j hj => by omega)
  refine m_into (by decide) (Nat.le_of_ble_eq_true rfl) rfl ?_
  show m_wp en _ mLo_repeats 0 [some (.ref A), some (.int (m_i ((m : Int)))), none] [] (T, m_I J, P, L, z, w) Q
  refine r_con eLo_repeats_0 ?_
  refine r_isn (ls' := [some (.ref A), some (.int (m_i ((m : Int)))), some (.int (m_i (0)))]) eLo_repeats_1 (Nat.le_of_ble_eq_true rfl) rfl ?_
  exact h2
/-- a moment is another one's -/
def mo_cp (J : Nat → Nat → Int) (A B : Nat) : Nat → Nat → Int := m_up (m_up (m_up (m_fl (po_put J (A + 1) (po_get J (B + 1))) (A + 2) 0 (J (B + 2)) 16) A 2 (J B 2)) A 3 (J B 3)) A 4 (J B 4)
theorem mo_cp_o {b i : Nat} (h : b < A ∨ A + 3 ≤ b) : mo_cp J A B b i = J b i := by
  unfold mo_cp
  rw [m_up_o (by omega), m_up_o (by omega), m_up_o (by omega), m_fl_o (by omega), po_put_o (by omega)]
theorem cl_ring (hX : cl_sh en X T P) {i : Nat} (hi : i < 30) : mo_sh en (X + 37 + 3 * i) T P := by
  have g0 : ∀ i : Fin 30, (37 + 3 * i.val, 2, 0) ∈ cl_ob := by decide +kernel
  have g1 : ∀ i : Fin 30, (37 + 3 * i.val, 0, 38 + 3 * i.val) ∈ cl_fd := by decide +kernel
  have g2 : ∀ i : Fin 30, (38 + 3 * i.val, 5, 0) ∈ cl_ob := by decide +kernel
  have g3 : ∀ i : Fin 30, (37 + 3 * i.val, 1, 39 + 3 * i.val) ∈ cl_fd := by decide +kernel
  have g4 : ∀ i : Fin 30, (39 + 3 * i.val, 20, 16) ∈ cl_ob := by decide +kernel
  have e0 := hX.2.1 _ (g0 ⟨i, hi⟩)
  have e1 := hX.2.2.1 _ (g1 ⟨i, hi⟩)
  have e2 := hX.2.1 _ (g2 ⟨i, hi⟩)
  have e3 := hX.2.2.1 _ (g3 ⟨i, hi⟩)
  have e4 := hX.2.1 _ (g4 ⟨i, hi⟩)
  simp only at e0 e1 e2 e3 e4
  refine ⟨by have := cl_e hX (37 + 3 * i); omega, by rw [Nat.add_assoc]; exact e0, fun q hq => ?_⟩
  simp only [mo_tab, List.mem_cons, List.not_mem_nil, or_false] at hq
  rcases hq with rfl | rfl
  · simp only
    rw [show X + 37 + 3 * i = X + (37 + 3 * i) by omega, e1, show X + (37 + 3 * i) + 1 = X + (38 + 3 * i) by omega, e2]
    exact ⟨rfl, rfl⟩
  · simp only
    rw [show X + 37 + 3 * i = X + (37 + 3 * i) by omega, e3, show X + (37 + 3 * i) + 2 = X + (39 + 3 * i) by omega, e4]
    exact ⟨rfl, rfl⟩
/-- the past: a moment more, one less -/
def pa_pu (J : Nat → Nat → Int) (X B : Nat) : Nat → Nat → Int := m_up (m_up (mo_cp J (X + 37 + 3 * (J (X + 35) 1).toNat) B) (X + 35) 1 (if J (X + 35) 1 + 1 < 30 then J (X + 35) 1 + 1 else 0)) (X + 35) 2 (min 30 (J (X + 35) 2 + 1))
theorem c_Pa_push (hX : cl_sh en X T P) (he : 0 ≤ J (X + 35) 1 ∧ J (X + 35) 1 < 30) (hs : 0 ≤ J (X + 35) 2 ∧ J (X + 35) 2 ≤ 30) (hq : Q none (T, m_I (pa_pu J X (X + 30)), P, L, z, w)) : m_call en (d + 3) mPa_push [.ref (X + 35), .ref (X + 30)] (T, m_I J, P, L, z, w) Q := by
  obtain ⟨A, eA⟩ : ∃ A, A = X + 37 + 3 * (J (X + 35) 1).toNat := ⟨_, rfl⟩
  have hA := cl_ring hX (i := (J (X + 35) 1).toNat) (by omega)
  have hB := cl_moment hX
  have hr := hX.2.2.2 (J (X + 35) 1).toNat (by omega)
  unfold pa_pu at hq
  rw [← eA] at hA hr hq
  refine m_into (by decide) (Nat.le_of_ble_eq_true rfl) rfl ?_
  show m_wp en _ mPa_push 0 [some (.ref (X + 35)), some (.ref (X + 30))] [] (T, m_I J, P, L, z, w) Q
  refine r_aln ePa_push_0 rfl ?_
  refine r_gete (x := J (X + 35) 1) ePa_push_1 rfl (by decide) (cl_t hX (i := 35) rfl) rfl ?_
  refine r_zlt (tgt := 19) ePa_push_4 rfl ⟨(by omega), (by omega)⟩ (fun c4 => ?_) (fun c4 => ?_)
  · refine r_ret ePa_push_19 rfl ?_
    exfalso; omega
  · refine r_aln ePa_push_7 rfl ?_
    refine r_gete (x := J (X + 35) 1) ePa_push_8 rfl (by decide) (cl_t hX (i := 35) rfl) rfl ?_
    refine r_aln ePa_push_11 rfl ?_
    refine m_getR ePa_push_12 rfl (cl_t hX (i := 35) rfl) (cl_p hX (i := 41) rfl) ?_
    refine r_alen ePa_push_15 (cl_t hX (i := 36) rfl) (by decide) ?_
    refine r_clt (tgt := 20) ePa_push_16 rfl ⟨(by omega), (by omega)⟩ ⟨(by omega), (by omega)⟩ (fun c16 => ?_) (fun c16 => ?_)
    · refine r_aln ePa_push_20 rfl ?_
      refine m_getR ePa_push_21 rfl (cl_t hX (i := 35) rfl) (cl_p hX (i := 41) rfl) ?_
      refine r_aln ePa_push_24 rfl ?_
      refine r_gete (x := J (X + 35) 1) ePa_push_25 rfl (by decide) (cl_t hX (i := 35) rfl) rfl ?_
      refine r_aald (n := 30) (r := A) ePa_push_28 (cl_t hX (i := 36) rfl) (by decide) (by omega) (by omega) hr ?_
      refine r_aln ePa_push_29 rfl ?_
      refine r_vir ePa_push_30 rfl rfl rfl hA.2.1 rfl rfl ?_
      refine c_Mo_set hA hB (by omega) ?_
      show m_wp en _ mPa_push 33 [some (.ref (X + 35)), some (.ref (X + 30))] [] (T, m_I (((mo_cp J A (X + 30)))), P, L, z, w) Q
      refine r_aln ePa_push_33 rfl ?_
      refine r_aln ePa_push_34 rfl ?_
      refine r_gete (x := J (X + 35) 1) ePa_push_35 rfl (by decide) (cl_t hX (i := 35) rfl) (by rw [mo_cp_o (by omega)]) ?_
      refine r_con ePa_push_38 ?_
      refine r_add ePa_push_39 ?_
      refine r_aln ePa_push_40 rfl ?_
      refine m_getR ePa_push_41 rfl (cl_t hX (i := 35) rfl) (cl_p hX (i := 41) rfl) ?_
      refine r_alen ePa_push_44 (cl_t hX (i := 36) rfl) (by decide) ?_
      refine r_cge (tgt := 57) ePa_push_45 rfl ⟨(by omega), (by omega)⟩ ⟨(by omega), (by omega)⟩ (fun c45 => ?_) (fun c45 => ?_)
      · refine r_con ePa_push_57 ?_
        refine r_put ePa_push_58 rfl (cl_t hX (i := 35) rfl) (cl_e hX 35) (Or.inl rfl) ?_
        refine r_aln ePa_push_61 rfl ?_
        refine r_aln ePa_push_62 rfl ?_
        refine m_getR ePa_push_63 rfl (cl_t hX (i := 35) rfl) (cl_p hX (i := 41) rfl) ?_
        refine r_alen ePa_push_66 (cl_t hX (i := 36) rfl) (by decide) ?_
        refine r_aln ePa_push_67 rfl ?_
        refine r_gete (x := J (X + 35) 2) ePa_push_68 rfl (by decide) (cl_t hX (i := 35) rfl) (by rw [m_up_at, if_neg (by omega), mo_cp_o (by omega)]) ?_
        refine r_con ePa_push_71 ?_
        refine r_add ePa_push_72 ?_
        refine r_min ePa_push_73 rfl (Nat.le_of_ble_eq_true rfl) ⟨(by omega), (by omega)⟩ ⟨(by omega), (by omega)⟩ ?_
        refine r_put ePa_push_76 rfl (cl_t hX (i := 35) rfl) (cl_e hX 35) (Or.inl rfl) ?_
        refine r_ret ePa_push_79 rfl ?_
        first | (rw [if_pos (show J (X + 35) 1 + 1 < 30 by omega)] at hq; exact hq) | (rw [if_neg (show ¬ J (X + 35) 1 + 1 < 30 by omega)] at hq; exact hq)
      · refine r_aln ePa_push_48 rfl ?_
        refine r_gete (x := J (X + 35) 1) ePa_push_49 rfl (by decide) (cl_t hX (i := 35) rfl) (by rw [mo_cp_o (by omega)]) ?_
        refine r_con ePa_push_52 ?_
        refine r_add ePa_push_53 ?_
        refine r_go (tgt := 58) ePa_push_54 rfl ?_
        refine r_put ePa_push_58 rfl (cl_t hX (i := 35) rfl) (cl_e hX 35) (Or.inl rfl) ?_
        refine r_aln ePa_push_61 rfl ?_
        refine r_aln ePa_push_62 rfl ?_
        refine m_getR ePa_push_63 rfl (cl_t hX (i := 35) rfl) (cl_p hX (i := 41) rfl) ?_
        refine r_alen ePa_push_66 (cl_t hX (i := 36) rfl) (by decide) ?_
        refine r_aln ePa_push_67 rfl ?_
        refine r_gete (x := J (X + 35) 2) ePa_push_68 rfl (by decide) (cl_t hX (i := 35) rfl) (by rw [m_up_at, if_neg (by omega), mo_cp_o (by omega)]) ?_
        refine r_con ePa_push_71 ?_
        refine r_add ePa_push_72 ?_
        refine r_min ePa_push_73 rfl (Nat.le_of_ble_eq_true rfl) ⟨(by omega), (by omega)⟩ ⟨(by omega), (by omega)⟩ ?_
        refine r_put ePa_push_76 rfl (cl_t hX (i := 35) rfl) (cl_e hX 35) (Or.inl rfl) ?_
        refine r_ret ePa_push_79 rfl ?_
        first | (rw [if_pos (show J (X + 35) 1 + 1 < 30 by omega)] at hq; exact hq) | (rw [if_neg (show ¬ J (X + 35) 1 + 1 < 30 by omega)] at hq; exact hq)
    · refine r_ret ePa_push_19 rfl ?_
      exfalso; omega
def pa_en (e : Int) : Int := if 0 < e then e - 1 else 29
def pa_po (J : Nat → Nat → Int) (X B : Nat) : Nat → Nat → Int := mo_cp (m_up (m_up J (X + 35) 1 (pa_en (J (X + 35) 1))) (X + 35) 2 (J (X + 35) 2 - 1)) B (X + 37 + 3 * (pa_en (J (X + 35) 1)).toNat)
theorem c_Pa_pop (hX : cl_sh en X T P) (he : 0 ≤ J (X + 35) 1 ∧ J (X + 35) 1 < 30) (hs : 0 ≤ J (X + 35) 2 ∧ J (X + 35) 2 ≤ 30) (h0 : J (X + 35) 2 < 1 → Q (some (.int (m_i 0))) (T, m_I J, P, L, z, w)) (h1 : 1 ≤ J (X + 35) 2 → Q (some (.int (m_i 1))) (T, m_I (pa_po J X (X + 30)), P, L, z, w)) : m_call en (d + 3) mPa_pop [.ref (X + 35), .ref (X + 30)] (T, m_I J, P, L, z, w) Q := by
  obtain ⟨k, ek⟩ : ∃ k, k = pa_en (J (X + 35) 1) := ⟨_, rfl⟩
  have hk : 0 ≤ k ∧ k < 30 := by rw [ek]; unfold pa_en; split <;> omega
  obtain ⟨A, eA⟩ : ∃ A, A = X + 37 + 3 * k.toNat := ⟨_, rfl⟩
  have hA := cl_ring hX (i := k.toNat) (by omega)
  have hB := cl_moment hX
  have hr := hX.2.2.2 k.toNat (by omega)
  unfold pa_po at h1
  rw [← ek, ← eA] at h1
  rw [← eA] at hA hr
  unfold pa_en at ek
  refine m_into (by decide) (Nat.le_of_ble_eq_true rfl) rfl ?_
  show m_wp en _ mPa_pop 0 [some (.ref (X + 35)), some (.ref (X + 30))] [] (T, m_I J, P, L, z, w) Q
  refine r_aln ePa_pop_0 rfl ?_
  refine r_gete (x := J (X + 35) 2) ePa_pop_1 rfl (by decide) (cl_t hX (i := 35) rfl) rfl ?_
  refine r_con ePa_pop_4 ?_
  refine r_cge (tgt := 10) ePa_pop_5 rfl ⟨(by omega), (by omega)⟩ ⟨(by omega), (by omega)⟩ (fun c5 => ?_) (fun c5 => ?_)
  · refine r_aln ePa_pop_10 rfl ?_
    refine r_aln ePa_pop_11 rfl ?_
    refine r_gete (x := J (X + 35) 1) ePa_pop_12 rfl (by decide) (cl_t hX (i := 35) rfl) rfl ?_
    refine r_zle (tgt := 27) ePa_pop_15 rfl ⟨(by omega), (by omega)⟩ (fun c15 => ?_) (fun c15 => ?_)
    · refine r_aln ePa_pop_27 rfl ?_
      refine m_getR ePa_pop_28 rfl (cl_t hX (i := 35) rfl) (cl_p hX (i := 41) rfl) ?_
      refine r_alen ePa_pop_31 (cl_t hX (i := 36) rfl) (by decide) ?_
      refine r_con ePa_pop_32 ?_
      refine r_sub ePa_pop_33 ?_
      first | rw [if_pos (by omega)] at ek | rw [if_neg (by omega)] at ek
      first | rw [show ((30 : Nat) : Int) - 1 = k by omega] | rw [← ek]
      refine r_put ePa_pop_34 rfl (cl_t hX (i := 35) rfl) (cl_e hX 35) (Or.inl rfl) ?_
      refine r_aln ePa_pop_37 rfl ?_
      refine r_dupr ePa_pop_38 ?_
      refine r_gete (x := J (X + 35) 2) ePa_pop_39 rfl (by decide) (cl_t hX (i := 35) rfl) (by rw [m_up_at, if_neg (by omega)]) ?_
      refine r_con ePa_pop_42 ?_
      refine r_sub ePa_pop_43 ?_
      refine r_put ePa_pop_44 rfl (cl_t hX (i := 35) rfl) (cl_e hX 35) (Or.inl rfl) ?_
      refine r_aln ePa_pop_47 rfl ?_
      refine r_gete (x := k) ePa_pop_48 rfl (by decide) (cl_t hX (i := 35) rfl) (by rw [m_up_at, if_neg (by omega), m_up_same]) ?_
      refine r_zlt (tgt := 79) ePa_pop_51 rfl ⟨(by omega), (by omega)⟩ (fun c51 => ?_) (fun c51 => ?_)
      · refine r_con ePa_pop_79 ?_
        refine r_zret ePa_pop_80 rfl (by first | exact Or.inl rfl | exact Or.inr rfl | omega) ?_
        first | (exfalso; omega) | exact h1 (by omega)
      · refine r_aln ePa_pop_54 rfl ?_
        refine r_gete (x := k) ePa_pop_55 rfl (by decide) (cl_t hX (i := 35) rfl) (by rw [m_up_at, if_neg (by omega), m_up_same]) ?_
        refine r_aln ePa_pop_58 rfl ?_
        refine m_getR ePa_pop_59 rfl (cl_t hX (i := 35) rfl) (cl_p hX (i := 41) rfl) ?_
        refine r_alen ePa_pop_62 (cl_t hX (i := 36) rfl) (by decide) ?_
        refine r_cge (tgt := 79) ePa_pop_63 rfl ⟨(by omega), (by omega)⟩ ⟨(by omega), (by omega)⟩ (fun c63 => ?_) (fun c63 => ?_)
        · refine r_con ePa_pop_79 ?_
          refine r_zret ePa_pop_80 rfl (by first | exact Or.inl rfl | exact Or.inr rfl | omega) ?_
          first | (exfalso; omega) | exact h1 (by omega)
        · refine r_aln ePa_pop_66 rfl ?_
          refine r_aln ePa_pop_67 rfl ?_
          refine m_getR ePa_pop_68 rfl (cl_t hX (i := 35) rfl) (cl_p hX (i := 41) rfl) ?_
          refine r_aln ePa_pop_71 rfl ?_
          refine r_gete (x := k) ePa_pop_72 rfl (by decide) (cl_t hX (i := 35) rfl) (by rw [m_up_at, if_neg (by omega), m_up_same]) ?_
          refine r_aald (n := 30) (r := A) ePa_pop_75 (cl_t hX (i := 36) rfl) (by decide) (by omega) (by omega) hr ?_
          refine r_vir ePa_pop_76 rfl rfl rfl (cl_t hX (i := 30) rfl) rfl rfl ?_
          refine c_Mo_set hB hA (by omega) ?_
          show m_wp en _ mPa_pop 79 [some (.ref (X + 35)), some (.ref (X + 30))] [] (T, m_I (((mo_cp ((m_up (m_up J (X + 35) 1 (k)) (X + 35) 2 ((J (X + 35) 2) - (1)))) (X + 30) A))), P, L, z, w) Q
          refine r_con ePa_pop_79 ?_
          refine r_zret ePa_pop_80 rfl (by first | exact Or.inl rfl | exact Or.inr rfl | omega) ?_
          first | (exfalso; omega) | exact h1 (by omega)
    · refine r_aln ePa_pop_18 rfl ?_
      refine r_gete (x := J (X + 35) 1) ePa_pop_19 rfl (by decide) (cl_t hX (i := 35) rfl) rfl ?_
      refine r_con ePa_pop_22 ?_
      refine r_sub ePa_pop_23 ?_
      refine r_go (tgt := 34) ePa_pop_24 rfl ?_
      first | rw [if_pos (by omega)] at ek | rw [if_neg (by omega)] at ek
      first | rw [show ((30 : Nat) : Int) - 1 = k by omega] | rw [← ek]
      refine r_put ePa_pop_34 rfl (cl_t hX (i := 35) rfl) (cl_e hX 35) (Or.inl rfl) ?_
      refine r_aln ePa_pop_37 rfl ?_
      refine r_dupr ePa_pop_38 ?_
      refine r_gete (x := J (X + 35) 2) ePa_pop_39 rfl (by decide) (cl_t hX (i := 35) rfl) (by rw [m_up_at, if_neg (by omega)]) ?_
      refine r_con ePa_pop_42 ?_
      refine r_sub ePa_pop_43 ?_
      refine r_put ePa_pop_44 rfl (cl_t hX (i := 35) rfl) (cl_e hX 35) (Or.inl rfl) ?_
      refine r_aln ePa_pop_47 rfl ?_
      refine r_gete (x := k) ePa_pop_48 rfl (by decide) (cl_t hX (i := 35) rfl) (by rw [m_up_at, if_neg (by omega), m_up_same]) ?_
      refine r_zlt (tgt := 79) ePa_pop_51 rfl ⟨(by omega), (by omega)⟩ (fun c51 => ?_) (fun c51 => ?_)
      · refine r_con ePa_pop_79 ?_
        refine r_zret ePa_pop_80 rfl (by first | exact Or.inl rfl | exact Or.inr rfl | omega) ?_
        first | (exfalso; omega) | exact h1 (by omega)
      · refine r_aln ePa_pop_54 rfl ?_
        refine r_gete (x := k) ePa_pop_55 rfl (by decide) (cl_t hX (i := 35) rfl) (by rw [m_up_at, if_neg (by omega), m_up_same]) ?_
        refine r_aln ePa_pop_58 rfl ?_
        refine m_getR ePa_pop_59 rfl (cl_t hX (i := 35) rfl) (cl_p hX (i := 41) rfl) ?_
        refine r_alen ePa_pop_62 (cl_t hX (i := 36) rfl) (by decide) ?_
        refine r_cge (tgt := 79) ePa_pop_63 rfl ⟨(by omega), (by omega)⟩ ⟨(by omega), (by omega)⟩ (fun c63 => ?_) (fun c63 => ?_)
        · refine r_con ePa_pop_79 ?_
          refine r_zret ePa_pop_80 rfl (by first | exact Or.inl rfl | exact Or.inr rfl | omega) ?_
          first | (exfalso; omega) | exact h1 (by omega)
        · refine r_aln ePa_pop_66 rfl ?_
          refine r_aln ePa_pop_67 rfl ?_
          refine m_getR ePa_pop_68 rfl (cl_t hX (i := 35) rfl) (cl_p hX (i := 41) rfl) ?_
          refine r_aln ePa_pop_71 rfl ?_
          refine r_gete (x := k) ePa_pop_72 rfl (by decide) (cl_t hX (i := 35) rfl) (by rw [m_up_at, if_neg (by omega), m_up_same]) ?_
          refine r_aald (n := 30) (r := A) ePa_pop_75 (cl_t hX (i := 36) rfl) (by decide) (by omega) (by omega) hr ?_
          refine r_vir ePa_pop_76 rfl rfl rfl (cl_t hX (i := 30) rfl) rfl rfl ?_
          refine c_Mo_set hB hA (by omega) ?_
          show m_wp en _ mPa_pop 79 [some (.ref (X + 35)), some (.ref (X + 30))] [] (T, m_I (((mo_cp ((m_up (m_up J (X + 35) 1 (k)) (X + 35) 2 ((J (X + 35) 2) - (1)))) (X + 30) A))), P, L, z, w) Q
          refine r_con ePa_pop_79 ?_
          refine r_zret ePa_pop_80 rfl (by first | exact Or.inl rfl | exact Or.inr rfl | omega) ?_
          first | (exfalso; omega) | exact h1 (by omega)
  · refine r_con ePa_pop_8 ?_
    refine r_zret ePa_pop_9 rfl (by first | exact Or.inl rfl | exact Or.inr rfl | omega) ?_
    exact h0 (by omega)
end PKA
