/-! the class is made: inner constructors -/
/-- what lies ahead of a new object is as it was -/
def nn_F (A : Nat) (T : Nat → Option (Nat × Nat)) (J : Nat → Nat → Int) (P : Nat → Nat → Option Nat) (T' : Nat → Option (Nat × Nat)) (J' : Nat → Nat → Int) (P' : Nat → Nat → Option Nat) : Prop := (∀ b, b < A → T' b = T b ∧ (∀ i, J' b i = J b i) ∧ ∀ i, P' b i = P b i) ∧ T' A = T A
section CNS
variable {en : Nat → Nat} {d : Nat} {me : m_Me} {pc : Nat} {ls : m_L} {st : List Value} {T : Nat → Option (Nat × Nat)} {J : Nat → Nat → Int} {P : Nat → Nat → Option Nat} {L : Nat → Nat → Int64} {z w A S U V : Nat} {Q : m_Q}
theorem nT_o {f : Nat → Option (Nat × Nat)} {a b : Nat} {v : Nat × Nat} (h : b ≠ a) : m_nT f a v b = f b := if_neg h
theorem nT_e {f : Nat → Option (Nat × Nat)} {a : Nat} {v : Nat × Nat} : m_nT f a v a = some v := if_pos rfl
theorem nw_o {α : Type} {f : Nat → Nat → α} {a b i : Nat} {v : α} (h : b ≠ a) : m_nw f a v b i = f b i := if_neg h
theorem nw_e {α : Type} {f : Nat → Nat → α} {a i : Nat} {v : α} : m_nw f a v a i = v := if_pos rfl
theorem up_z {α : Type} {f : Nat → Nat → α} {a j b i : Nat} {v : α} (h : ¬ (b = a ∧ i = j)) : m_up f a j v b i = f b i := if_neg h
theorem up_e {α : Type} {f : Nat → Nat → α} {a j : Nat} {v : α} : m_up f a j v a j = v := if_pos ⟨rfl, rfl⟩
theorem r_nwo {q c : Nat} (hd : decode me.2.2.1 pc = .ok (.new q, 3)) (hN : m_N me.1 q = some c) (kk : m_wp en d me (pc + 3) ls (.ref z :: st) (m_nT T z (c, 0), m_I (m_nw J z 0), m_nw P z none, m_nw L z 0, z + 1, w + m_W c) Q) : m_wp en d me pc ls st (T, m_I J, P, L, z, w) Q := by
  refine m_next hd ?_ kk
  simp only [m_st, hN]
  rw [← m_I_nw]
  rfl
theorem r_nwr {q n : Nat} (hd : decode me.2.2.1 pc = .ok (.anewarray q, 3)) (hN : m_N me.1 q = some 2) (hn : n ≤ 1000000) (kk : m_wp en d me (pc + 3) ls (.ref z :: st) (m_nT T z (25, n), m_I (m_nw J z 0), m_nw P z none, m_nw L z 0, z + 1, w + n) Q) : m_wp en d me pc ls (.int (m_i (n : Int)) :: st) (T, m_I J, P, L, z, w) Q := by
  have e := r_ix (i := (n : Int)) (n := n + 1) (by omega) (by omega) (by omega)
  have e1 : (m_i (n : Int)).toInt = n := m_i_toInt ⟨by omega, by omega⟩
  have e2 : (m_i (n : Int)).toNatClampNeg = n := by rw [e.2, Int.toNat_natCast]
  refine m_next hd ?_ kk
  simp only [m_st, hN]
  rw [if_pos (by rw [e1]; omega), e2, ← m_I_nw]
  rfl
theorem r_aas {i : Int} {a v n u : Nat} (hd : decode me.2.2.1 pc = .ok (.aastore, 1)) (hT : T a = some (25, n)) (hv : T v = some (2, u)) (hn : n < 2147483648) (h0 : 0 ≤ i) (h1 : i < n) (hB : en 0 ≤ a) (kk : m_wp en d me (pc + 1) ls st (T, m_I J, m_up P a i.toNat (some v), L, z, w) Q) : m_wp en d me pc ls (.ref v :: .int (m_i i) :: .ref a :: st) (T, m_I J, P, L, z, w) Q := by
  have e := r_ix h0 h1 hn
  refine m_next hd ?_ kk
  simp only [m_st, hT, hv]
  rw [if_pos ⟨⟨trivial, trivial⟩, e.1.1, e.1.2, hB⟩, e.2]
  rfl
theorem c_Po_init {s : m_S} {B : Nat} (hq : Q none s) : m_call en (d + 1) mPo_init [.ref B] s Q := by
  refine m_into (by decide) (Nat.le_of_ble_eq_true rfl) rfl ?_
  refine r_aln ePo_init_0 rfl ?_
  refine r_obj ePo_init_1 rfl (by decide) ?_
  refine r_ret ePo_init_4 rfl ?_
  exact hq
theorem c_Mo_init (hT : T A = some (2, 0)) (hA : en 0 ≤ A) (hz : ∀ i, J A i = 0) (hq : ∀ T' J' P' L', nn_F A T J P T' J' P' ∧ (T' (A + 1) = some (5, 0) ∧ T' (A + 2) = some (20, 16)) ∧ (P' A 0 = some (A + 1) ∧ P' A 1 = some (A + 2)) ∧ (∀ b i, A < b → b < A + 3 → J' b i = 0) ∧ (∀ i, J' A i = 0) → Q none (T', m_I J', P', L', A + 3, w + m_W 5 + 16)) : m_call en (d + 2) mMo_init [.ref A] (T, m_I J, P, L, A + 1, w) Q := by
  refine m_into (by decide) (Nat.le_of_ble_eq_true rfl) rfl ?_
  refine r_aln eMo_init_0 rfl ?_
  refine r_obj eMo_init_1 rfl (by decide) ?_
  refine r_aln eMo_init_4 rfl ?_
  refine r_nwo (c := 5) eMo_init_5 rfl ?_
  have hT1 : (m_nT T (A + 1) (5, 0)) A = some (2, 0) := by rw [nT_o (by omega)]; exact hT
  refine r_dupr eMo_init_8 ?_
  refine r_spe eMo_init_9 rfl rfl rfl (by decide) rfl ?_
  refine c_Po_init ?_
  refine m_putR eMo_init_12 rfl hT1 hA (Or.inr ⟨rfl, rfl⟩) ?_
  refine r_aln eMo_init_15 rfl ?_
  refine r_bip eMo_init_16 (by decide) ?_
  refine r_nwa (n := 16) (k := 20) eMo_init_18 rfl (by decide) ?_
  have hT2 : (m_nT (m_nT T (A + 1) (5, 0)) (A + 2) (20, 16)) A = some (2, 0) := by rw [nT_o (by omega)]; exact hT1
  refine m_putR eMo_init_20 rfl hT2 hA (Or.inr ⟨rfl, rfl⟩) ?_
  refine r_ret eMo_init_23 rfl ?_
  refine hq _ _ _ _ ⟨⟨fun b hb => ⟨by rw [nT_o (by omega), nT_o (by omega)], fun i => by rw [nw_o (by omega), nw_o (by omega)], fun i => by rw [up_z (by omega), nw_o (by omega), up_z (by omega), nw_o (by omega)]⟩, by rw [hT2, hT]⟩, ⟨by rw [nT_o (by omega), nT_e], by rw [nT_e]⟩, ⟨by rw [up_z (by omega), nw_o (by omega), up_e], by rw [up_e]⟩, fun b i q1 q2 => ?_, fun i => ?_⟩
  · have : b = A + 1 ∨ b = A + 2 := by omega
    rcases this with e | e <;> subst e
    · rw [nw_o (by omega), nw_e]
    · rw [nw_e]
  · rw [nw_o (by omega), nw_o (by omega)]; exact hz i
theorem c_Lo_init (hT : T A = some (1, 0)) (hA : en 0 ≤ A) (hz : ∀ i, J A i = 0) (hq : ∀ T' J' P' L', nn_F A T J P T' J' P' ∧ (T' (A + 1) = some (20, 70)) ∧ (P' A 0 = some (A + 1)) ∧ (∀ b i, A < b → b < A + 2 → J' b i = 0) ∧ (∀ i, J' A i = 0) → Q none (T', m_I J', P', L', A + 2, w + 70)) : m_call en (d + 2) mLo_init [.ref A] (T, m_I J, P, L, A + 1, w) Q := by
  refine m_into (by decide) (Nat.le_of_ble_eq_true rfl) rfl ?_
  refine r_aln eLo_init_0 rfl ?_
  refine r_obj eLo_init_1 rfl (by decide) ?_
  refine r_aln eLo_init_4 rfl ?_
  refine r_bip eLo_init_5 (by decide) ?_
  refine r_nwa (n := 70) (k := 20) eLo_init_7 rfl (by decide) ?_
  have hT1 : (m_nT T (A + 1) (20, 70)) A = some (1, 0) := by rw [nT_o (by omega)]; exact hT
  refine m_putR eLo_init_9 rfl hT1 hA (Or.inr ⟨rfl, rfl⟩) ?_
  refine r_ret eLo_init_12 rfl ?_
  refine hq _ _ _ _ ⟨⟨fun b hb => ⟨by rw [nT_o (by omega)], fun i => by rw [nw_o (by omega)], fun i => by rw [up_z (by omega), nw_o (by omega)]⟩, by rw [hT1, hT]⟩, by rw [nT_e], by rw [up_e], fun b i q1 q2 => ?_, fun i => ?_⟩
  · obtain rfl : b = A + 1 := by omega
    rw [nw_e]
  · rw [nw_o (by omega)]; exact hz i
theorem c_Sp_init (hT : T A = some (9, 0)) (hA : en 0 ≤ A) (hz : ∀ i, J A i = 0) (hq : ∀ T' J' P' L', nn_F A T J P T' J' P' ∧ (T' (A + 1) = some (20, 16) ∧ T' (A + 2) = some (22, 864)) ∧ (P' A 9 = some (A + 1) ∧ P' A 10 = some (A + 2)) ∧ (∀ b i, A < b → b < A + 3 → J' b i = 0) ∧ (∀ i, J' A i = 0) → Q none (T', m_I J', P', L', A + 3, w + 16 + 864)) : m_call en (d + 2) mSp_init [.ref A] (T, m_I J, P, L, A + 1, w) Q := by
  refine m_into (by decide) (Nat.le_of_ble_eq_true rfl) rfl ?_
  refine r_aln eSp_init_0 rfl ?_
  refine r_obj eSp_init_1 rfl (by decide) ?_
  refine r_aln eSp_init_4 rfl ?_
  refine r_bip eSp_init_5 (by decide) ?_
  refine r_nwa (n := 16) (k := 20) eSp_init_7 rfl (by decide) ?_
  have hT1 : (m_nT T (A + 1) (20, 16)) A = some (9, 0) := by rw [nT_o (by omega)]; exact hT
  refine m_putR eSp_init_9 rfl hT1 hA (Or.inr ⟨rfl, rfl⟩) ?_
  refine r_aln eSp_init_12 rfl ?_
  refine r_sip eSp_init_13 (by decide) ?_
  refine r_nwa (n := 864) (k := 22) eSp_init_16 rfl (by decide) ?_
  have hT2 : (m_nT (m_nT T (A + 1) (20, 16)) (A + 2) (22, 864)) A = some (9, 0) := by rw [nT_o (by omega)]; exact hT1
  refine m_putR eSp_init_18 rfl hT2 hA (Or.inr ⟨rfl, rfl⟩) ?_
  refine r_ret eSp_init_21 rfl ?_
  refine hq _ _ _ _ ⟨⟨fun b hb => ⟨by rw [nT_o (by omega), nT_o (by omega)], fun i => by rw [nw_o (by omega), nw_o (by omega)], fun i => by rw [up_z (by omega), nw_o (by omega), up_z (by omega), nw_o (by omega)]⟩, by rw [hT2, hT]⟩, ⟨by rw [nT_o (by omega), nT_e], by rw [nT_e]⟩, ⟨by rw [up_z (by omega), nw_o (by omega), up_e], by rw [up_e]⟩, fun b i q1 q2 => ?_, fun i => ?_⟩
  · have : b = A + 1 ∨ b = A + 2 := by omega
    rcases this with e | e <;> subst e
    · rw [nw_o (by omega), nw_e]
    · rw [nw_e]
  · rw [nw_o (by omega), nw_o (by omega)]; exact hz i
theorem c_Se_init (hT : T A = some (8, 0)) (hA : en 0 ≤ A) (hz : ∀ i, J A i = 0) (hq : ∀ T' J' P' L', nn_F A T J P T' J' P' ∧ (T' (A + 1) = some (20, 0) ∧ T' (A + 2) = some (20, 0) ∧ T' (A + 3) = some (5, 0) ∧ T' (A + 4) = some (5, 0)) ∧ (P' A 0 = some (A + 1) ∧ P' A 1 = some (A + 2) ∧ P' A 4 = some S ∧ P' A 8 = some (A + 3) ∧ P' A 9 = some (A + 4)) ∧ (∀ b i, A < b → b < A + 5 → J' b i = 0) ∧ (∀ i, J' A i = 0) → Q none (T', m_I J', P', L', A + 5, w + 0 + 0 + m_W 5 + m_W 5)) : m_call en (d + 2) mSe_init [.ref A, .ref S] (T, m_I J, P, L, A + 1, w) Q := by
  refine m_into (by decide) (Nat.le_of_ble_eq_true rfl) rfl ?_
  refine r_aln eSe_init_0 rfl ?_
  refine r_obj eSe_init_1 rfl (by decide) ?_
  refine r_aln eSe_init_4 rfl ?_
  refine r_con eSe_init_5 ?_
  refine r_nwa (n := 0) (k := 20) eSe_init_6 rfl (by decide) ?_
  have hT1 : (m_nT T (A + 1) (20, 0)) A = some (8, 0) := by rw [nT_o (by omega)]; exact hT
  refine m_putR eSe_init_8 rfl hT1 hA (Or.inr ⟨rfl, rfl⟩) ?_
  refine r_aln eSe_init_11 rfl ?_
  refine r_con eSe_init_12 ?_
  refine r_nwa (n := 0) (k := 20) eSe_init_13 rfl (by decide) ?_
  have hT2 : (m_nT (m_nT T (A + 1) (20, 0)) (A + 2) (20, 0)) A = some (8, 0) := by rw [nT_o (by omega)]; exact hT1
  refine m_putR eSe_init_15 rfl hT2 hA (Or.inr ⟨rfl, rfl⟩) ?_
  refine r_aln eSe_init_18 rfl ?_
  refine r_aln eSe_init_19 rfl ?_
  refine m_putR eSe_init_20 rfl hT2 hA (Or.inr ⟨rfl, rfl⟩) ?_
  refine r_aln eSe_init_23 rfl ?_
  refine r_nwo (c := 5) eSe_init_24 rfl ?_
  have hT3 : (m_nT (m_nT (m_nT T (A + 1) (20, 0)) (A + 2) (20, 0)) (A + 3) (5, 0)) A = some (8, 0) := by rw [nT_o (by omega)]; exact hT2
  refine r_dupr eSe_init_27 ?_
  refine r_spe eSe_init_28 rfl rfl rfl (by decide) rfl ?_
  refine c_Po_init ?_
  refine m_putR eSe_init_31 rfl hT3 hA (Or.inr ⟨rfl, rfl⟩) ?_
  refine r_aln eSe_init_34 rfl ?_
  refine r_nwo (c := 5) eSe_init_35 rfl ?_
  have hT4 : (m_nT (m_nT (m_nT (m_nT T (A + 1) (20, 0)) (A + 2) (20, 0)) (A + 3) (5, 0)) (A + 4) (5, 0)) A = some (8, 0) := by rw [nT_o (by omega)]; exact hT3
  refine r_dupr eSe_init_38 ?_
  refine r_spe eSe_init_39 rfl rfl rfl (by decide) rfl ?_
  refine c_Po_init ?_
  refine m_putR eSe_init_42 rfl hT4 hA (Or.inr ⟨rfl, rfl⟩) ?_
  refine r_ret eSe_init_45 rfl ?_
  refine hq _ _ _ _ ⟨⟨fun b hb => ⟨by rw [nT_o (by omega), nT_o (by omega), nT_o (by omega), nT_o (by omega)], fun i => by rw [nw_o (by omega), nw_o (by omega), nw_o (by omega), nw_o (by omega)], fun i => by rw [up_z (by omega), nw_o (by omega), up_z (by omega), nw_o (by omega), up_z (by omega), up_z (by omega), nw_o (by omega), up_z (by omega), nw_o (by omega)]⟩, by rw [hT4, hT]⟩, ⟨by rw [nT_o (by omega), nT_o (by omega), nT_o (by omega), nT_e], by rw [nT_o (by omega), nT_o (by omega), nT_e], by rw [nT_o (by omega), nT_e], by rw [nT_e]⟩, ⟨by rw [up_z (by omega), nw_o (by omega), up_z (by omega), nw_o (by omega), up_z (by omega), up_z (by omega), nw_o (by omega), up_e], by rw [up_z (by omega), nw_o (by omega), up_z (by omega), nw_o (by omega), up_z (by omega), up_e], by rw [up_z (by omega), nw_o (by omega), up_z (by omega), nw_o (by omega), up_e], by rw [up_z (by omega), nw_o (by omega), up_e], by rw [up_e]⟩, fun b i q1 q2 => ?_, fun i => ?_⟩
  · have : b = A + 1 ∨ b = A + 2 ∨ b = A + 3 ∨ b = A + 4 := by omega
    rcases this with e | e | e | e <;> subst e
    · rw [nw_o (by omega), nw_o (by omega), nw_o (by omega), nw_e]
    · rw [nw_o (by omega), nw_o (by omega), nw_e]
    · rw [nw_o (by omega), nw_e]
    · rw [nw_e]
  · rw [nw_o (by omega), nw_o (by omega), nw_o (by omega), nw_o (by omega)]; exact hz i
theorem c_Ro_init (hT : T A = some (7, 0)) (hA : en 0 ≤ A) (hz : ∀ i, J A i = 0) (hq : ∀ T' J' P' L', nn_F A T J P T' J' P' ∧ (T' (A + 1) = some (20, 6) ∧ T' (A + 2) = some (20, 6)) ∧ (P' A 0 = some S ∧ P' A 1 = some U ∧ P' A 2 = some (A + 1) ∧ P' A 3 = some (A + 2)) ∧ (∀ b i, A < b → b < A + 3 → J' b i = 0) ∧ ((∀ i, i ≠ 5 → J' A i = 0) ∧ J' A 5 = -1) → Q none (T', m_I J', P', L', A + 3, w + 6 + 6)) : m_call en (d + 2) mRo_init [.ref A, .ref S, .ref U] (T, m_I J, P, L, A + 1, w) Q := by
  refine m_into (by decide) (Nat.le_of_ble_eq_true rfl) rfl ?_
  refine r_aln eRo_init_0 rfl ?_
  refine r_obj eRo_init_1 rfl (by decide) ?_
  refine r_aln eRo_init_4 rfl ?_
  refine r_aln eRo_init_5 rfl ?_
  refine m_putR eRo_init_6 rfl hT hA (Or.inr ⟨rfl, rfl⟩) ?_
  refine r_aln eRo_init_9 rfl ?_
  refine r_aln eRo_init_10 rfl ?_
  refine m_putR eRo_init_11 rfl hT hA (Or.inr ⟨rfl, rfl⟩) ?_
  refine r_aln eRo_init_14 rfl ?_
  refine r_bip eRo_init_15 (by decide) ?_
  refine r_nwa (n := 6) (k := 20) eRo_init_17 rfl (by decide) ?_
  have hT1 : (m_nT T (A + 1) (20, 6)) A = some (7, 0) := by rw [nT_o (by omega)]; exact hT
  refine m_putR eRo_init_19 rfl hT1 hA (Or.inr ⟨rfl, rfl⟩) ?_
  refine r_aln eRo_init_22 rfl ?_
  refine r_bip eRo_init_23 (by decide) ?_
  refine r_nwa (n := 6) (k := 20) eRo_init_25 rfl (by decide) ?_
  have hT2 : (m_nT (m_nT T (A + 1) (20, 6)) (A + 2) (20, 6)) A = some (7, 0) := by rw [nT_o (by omega)]; exact hT1
  refine m_putR eRo_init_27 rfl hT2 hA (Or.inr ⟨rfl, rfl⟩) ?_
  refine r_aln eRo_init_30 rfl ?_
  refine r_con eRo_init_31 ?_
  refine r_put eRo_init_32 rfl hT2 hA (Or.inr ⟨rfl, rfl⟩) ?_
  refine r_ret eRo_init_35 rfl ?_
  refine hq _ _ _ _ ⟨⟨fun b hb => ⟨by rw [nT_o (by omega), nT_o (by omega)], fun i => by rw [up_z (by omega), nw_o (by omega), nw_o (by omega)], fun i => by rw [up_z (by omega), nw_o (by omega), up_z (by omega), nw_o (by omega), up_z (by omega), up_z (by omega)]⟩, by rw [hT2, hT]⟩, ⟨by rw [nT_o (by omega), nT_e], by rw [nT_e]⟩, ⟨by rw [up_z (by omega), nw_o (by omega), up_z (by omega), nw_o (by omega), up_z (by omega), up_e], by rw [up_z (by omega), nw_o (by omega), up_z (by omega), nw_o (by omega), up_e], by rw [up_z (by omega), nw_o (by omega), up_e], by rw [up_e]⟩, fun b i q1 q2 => ?_, ⟨fun i qi => ?_, by rw [up_e]⟩⟩
  · have : b = A + 1 ∨ b = A + 2 := by omega
    rcases this with e | e <;> subst e
    · rw [up_z (by omega), nw_o (by omega), nw_e]
    · rw [up_z (by omega), nw_e]
  · rw [up_z (by omega), nw_o (by omega), nw_o (by omega)]; exact hz i
theorem c_Ha_init (hT : T A = some (0, 0)) (hA : en 0 ≤ A) (hz : ∀ i, J A i = 0) (hq : ∀ T' J' P' L', nn_F A T J P T' J' P' ∧ (T' (A + 1) = some (20, 16) ∧ T' (A + 2) = some (20, 3) ∧ T' (A + 3) = some (20, 3)) ∧ (P' A 0 = some S ∧ P' A 1 = some U ∧ P' A 2 = some V ∧ P' A 3 = some (A + 1) ∧ P' A 4 = some (A + 2) ∧ P' A 5 = some (A + 3)) ∧ (∀ b i, A < b → b < A + 4 → J' b i = 0) ∧ ((∀ i, i ≠ 7 → J' A i = 0) ∧ J' A 7 = -1) → Q none (T', m_I J', P', L', A + 4, w + 16 + 3 + 3)) : m_call en (d + 2) mHa_init [.ref A, .ref S, .ref U, .ref V] (T, m_I J, P, L, A + 1, w) Q := by
  refine m_into (by decide) (Nat.le_of_ble_eq_true rfl) rfl ?_
  refine r_aln eHa_init_0 rfl ?_
  refine r_obj eHa_init_1 rfl (by decide) ?_
  refine r_aln eHa_init_4 rfl ?_
  refine r_aln eHa_init_5 rfl ?_
  refine m_putR eHa_init_6 rfl hT hA (Or.inr ⟨rfl, rfl⟩) ?_
  refine r_aln eHa_init_9 rfl ?_
  refine r_aln eHa_init_10 rfl ?_
  refine m_putR eHa_init_11 rfl hT hA (Or.inr ⟨rfl, rfl⟩) ?_
  refine r_aln eHa_init_14 rfl ?_
  refine r_aln eHa_init_15 rfl ?_
  refine m_putR eHa_init_16 rfl hT hA (Or.inr ⟨rfl, rfl⟩) ?_
  refine r_aln eHa_init_19 rfl ?_
  refine r_bip eHa_init_20 (by decide) ?_
  refine r_nwa (n := 16) (k := 20) eHa_init_22 rfl (by decide) ?_
  have hT1 : (m_nT T (A + 1) (20, 16)) A = some (0, 0) := by rw [nT_o (by omega)]; exact hT
  refine m_putR eHa_init_24 rfl hT1 hA (Or.inr ⟨rfl, rfl⟩) ?_
  refine r_aln eHa_init_27 rfl ?_
  refine r_con eHa_init_28 ?_
  refine r_nwa (n := 3) (k := 20) eHa_init_29 rfl (by decide) ?_
  have hT2 : (m_nT (m_nT T (A + 1) (20, 16)) (A + 2) (20, 3)) A = some (0, 0) := by rw [nT_o (by omega)]; exact hT1
  refine m_putR eHa_init_31 rfl hT2 hA (Or.inr ⟨rfl, rfl⟩) ?_
  refine r_aln eHa_init_34 rfl ?_
  refine r_con eHa_init_35 ?_
  refine r_nwa (n := 3) (k := 20) eHa_init_36 rfl (by decide) ?_
  have hT3 : (m_nT (m_nT (m_nT T (A + 1) (20, 16)) (A + 2) (20, 3)) (A + 3) (20, 3)) A = some (0, 0) := by rw [nT_o (by omega)]; exact hT2
  refine m_putR eHa_init_38 rfl hT3 hA (Or.inr ⟨rfl, rfl⟩) ?_
  refine r_aln eHa_init_41 rfl ?_
  refine r_con eHa_init_42 ?_
  refine r_put eHa_init_43 rfl hT3 hA (Or.inr ⟨rfl, rfl⟩) ?_
  refine r_ret eHa_init_46 rfl ?_
  refine hq _ _ _ _ ⟨⟨fun b hb => ⟨by rw [nT_o (by omega), nT_o (by omega), nT_o (by omega)], fun i => by rw [up_z (by omega), nw_o (by omega), nw_o (by omega), nw_o (by omega)], fun i => by rw [up_z (by omega), nw_o (by omega), up_z (by omega), nw_o (by omega), up_z (by omega), nw_o (by omega), up_z (by omega), up_z (by omega), up_z (by omega)]⟩, by rw [hT3, hT]⟩, ⟨by rw [nT_o (by omega), nT_o (by omega), nT_e], by rw [nT_o (by omega), nT_e], by rw [nT_e]⟩, ⟨by rw [up_z (by omega), nw_o (by omega), up_z (by omega), nw_o (by omega), up_z (by omega), nw_o (by omega), up_z (by omega), up_z (by omega), up_e], by rw [up_z (by omega), nw_o (by omega), up_z (by omega), nw_o (by omega), up_z (by omega), nw_o (by omega), up_z (by omega), up_e], by rw [up_z (by omega), nw_o (by omega), up_z (by omega), nw_o (by omega), up_z (by omega), nw_o (by omega), up_e], by rw [up_z (by omega), nw_o (by omega), up_z (by omega), nw_o (by omega), up_e], by rw [up_z (by omega), nw_o (by omega), up_e], by rw [up_e]⟩, fun b i q1 q2 => ?_, ⟨fun i qi => ?_, by rw [up_e]⟩⟩
  · have : b = A + 1 ∨ b = A + 2 ∨ b = A + 3 := by omega
    rcases this with e | e | e <;> subst e
    · rw [up_z (by omega), nw_o (by omega), nw_o (by omega), nw_e]
    · rw [up_z (by omega), nw_o (by omega), nw_e]
    · rw [up_z (by omega), nw_e]
  · rw [up_z (by omega), nw_o (by omega), nw_o (by omega), nw_o (by omega)]; exact hz i
theorem c_Pl_init (hT : T A = some (4, 0)) (hA : en 0 ≤ A) (hz : ∀ i, J A i = 0) (hq : ∀ T' J' P' L', nn_F A T J P T' J' P' ∧ pl_sh en A T' P' ∧ (J' A 0 = 16 ∧ J' A 1 = 6 ∧ J' A 2 = 2 ∧ J' A 3 = 4 ∧ J' A 4 = 0 ∧ J' A 5 = 0 ∧ J' A 6 = 1) ∧ (∀ i : Nat, i < 16 → J' (A + 1) i = 6 ∧ J' (A + 2) i = 0) ∧ (∀ i : Nat, i < 12 → J' (A + 12) i = 0) ∧ (∀ b i, A + 3 ≤ b → b ≤ A + 11 → J' b i = 0) → Q none (T', m_I J', P', L', A + 13, w + 16 + 16 + 6 + 6 + 6 + 8 + 8 + 16 + 16 + 3 + 3 + 12)) : m_call en (d + 2) mPl_init [.ref A] (T, m_I J, P, L, A + 1, w) Q := by
  refine m_into (by decide) (Nat.le_of_ble_eq_true rfl) rfl ?_
  refine r_aln ePl_init_0 rfl ?_
  refine r_obj ePl_init_1 rfl (by decide) ?_
  refine r_aln ePl_init_4 rfl ?_
  refine r_bip ePl_init_5 (by decide) ?_
  refine r_nwa (n := 16) (k := 20) ePl_init_7 rfl (by decide) ?_
  have hT1 : (m_nT T (A + 1) (20, 16)) A = some (4, 0) := by rw [nT_o (by omega)]; exact hT
  refine m_putR ePl_init_9 rfl hT1 hA (Or.inr ⟨rfl, rfl⟩) ?_
  refine r_aln ePl_init_12 rfl ?_
  refine r_bip ePl_init_13 (by decide) ?_
  refine r_nwa (n := 16) (k := 20) ePl_init_15 rfl (by decide) ?_
  have hT2 : (m_nT (m_nT T (A + 1) (20, 16)) (A + 2) (20, 16)) A = some (4, 0) := by rw [nT_o (by omega)]; exact hT1
  refine m_putR ePl_init_17 rfl hT2 hA (Or.inr ⟨rfl, rfl⟩) ?_
  refine r_aln ePl_init_20 rfl ?_
  refine r_bip ePl_init_21 (by decide) ?_
  refine r_nwa (n := 6) (k := 20) ePl_init_23 rfl (by decide) ?_
  have hT3 : (m_nT (m_nT (m_nT T (A + 1) (20, 16)) (A + 2) (20, 16)) (A + 3) (20, 6)) A = some (4, 0) := by rw [nT_o (by omega)]; exact hT2
  refine m_putR ePl_init_25 rfl hT3 hA (Or.inr ⟨rfl, rfl⟩) ?_
  refine r_aln ePl_init_28 rfl ?_
  refine r_bip ePl_init_29 (by decide) ?_
  refine r_nwa (n := 6) (k := 20) ePl_init_31 rfl (by decide) ?_
  have hT4 : (m_nT (m_nT (m_nT (m_nT T (A + 1) (20, 16)) (A + 2) (20, 16)) (A + 3) (20, 6)) (A + 4) (20, 6)) A = some (4, 0) := by rw [nT_o (by omega)]; exact hT3
  refine m_putR ePl_init_33 rfl hT4 hA (Or.inr ⟨rfl, rfl⟩) ?_
  refine r_aln ePl_init_36 rfl ?_
  refine r_bip ePl_init_37 (by decide) ?_
  refine r_nwa (n := 6) (k := 20) ePl_init_39 rfl (by decide) ?_
  have hT5 : (m_nT (m_nT (m_nT (m_nT (m_nT T (A + 1) (20, 16)) (A + 2) (20, 16)) (A + 3) (20, 6)) (A + 4) (20, 6)) (A + 5) (20, 6)) A = some (4, 0) := by rw [nT_o (by omega)]; exact hT4
  refine m_putR ePl_init_41 rfl hT5 hA (Or.inr ⟨rfl, rfl⟩) ?_
  refine r_aln ePl_init_44 rfl ?_
  refine r_bip ePl_init_45 (by decide) ?_
  refine r_nwa (n := 8) (k := 20) ePl_init_47 rfl (by decide) ?_
  have hT6 : (m_nT (m_nT (m_nT (m_nT (m_nT (m_nT T (A + 1) (20, 16)) (A + 2) (20, 16)) (A + 3) (20, 6)) (A + 4) (20, 6)) (A + 5) (20, 6)) (A + 6) (20, 8)) A = some (4, 0) := by rw [nT_o (by omega)]; exact hT5
  refine m_putR ePl_init_49 rfl hT6 hA (Or.inr ⟨rfl, rfl⟩) ?_
  refine r_aln ePl_init_52 rfl ?_
  refine r_bip ePl_init_53 (by decide) ?_
  refine r_nwa (n := 8) (k := 20) ePl_init_55 rfl (by decide) ?_
  have hT7 : (m_nT (m_nT (m_nT (m_nT (m_nT (m_nT (m_nT T (A + 1) (20, 16)) (A + 2) (20, 16)) (A + 3) (20, 6)) (A + 4) (20, 6)) (A + 5) (20, 6)) (A + 6) (20, 8)) (A + 7) (20, 8)) A = some (4, 0) := by rw [nT_o (by omega)]; exact hT6
  refine m_putR ePl_init_57 rfl hT7 hA (Or.inr ⟨rfl, rfl⟩) ?_
  refine r_aln ePl_init_60 rfl ?_
  refine r_bip ePl_init_61 (by decide) ?_
  refine r_nwa (n := 16) (k := 20) ePl_init_63 rfl (by decide) ?_
  have hT8 : (m_nT (m_nT (m_nT (m_nT (m_nT (m_nT (m_nT (m_nT T (A + 1) (20, 16)) (A + 2) (20, 16)) (A + 3) (20, 6)) (A + 4) (20, 6)) (A + 5) (20, 6)) (A + 6) (20, 8)) (A + 7) (20, 8)) (A + 8) (20, 16)) A = some (4, 0) := by rw [nT_o (by omega)]; exact hT7
  refine m_putR ePl_init_65 rfl hT8 hA (Or.inr ⟨rfl, rfl⟩) ?_
  refine r_aln ePl_init_68 rfl ?_
  refine r_bip ePl_init_69 (by decide) ?_
  refine r_nwa (n := 16) (k := 20) ePl_init_71 rfl (by decide) ?_
  have hT9 : (m_nT (m_nT (m_nT (m_nT (m_nT (m_nT (m_nT (m_nT (m_nT T (A + 1) (20, 16)) (A + 2) (20, 16)) (A + 3) (20, 6)) (A + 4) (20, 6)) (A + 5) (20, 6)) (A + 6) (20, 8)) (A + 7) (20, 8)) (A + 8) (20, 16)) (A + 9) (20, 16)) A = some (4, 0) := by rw [nT_o (by omega)]; exact hT8
  refine m_putR ePl_init_73 rfl hT9 hA (Or.inr ⟨rfl, rfl⟩) ?_
  refine r_aln ePl_init_76 rfl ?_
  refine r_con ePl_init_77 ?_
  refine r_nwa (n := 3) (k := 20) ePl_init_78 rfl (by decide) ?_
  have hT10 : (m_nT (m_nT (m_nT (m_nT (m_nT (m_nT (m_nT (m_nT (m_nT (m_nT T (A + 1) (20, 16)) (A + 2) (20, 16)) (A + 3) (20, 6)) (A + 4) (20, 6)) (A + 5) (20, 6)) (A + 6) (20, 8)) (A + 7) (20, 8)) (A + 8) (20, 16)) (A + 9) (20, 16)) (A + 10) (20, 3)) A = some (4, 0) := by rw [nT_o (by omega)]; exact hT9
  refine m_putR ePl_init_80 rfl hT10 hA (Or.inr ⟨rfl, rfl⟩) ?_
  refine r_aln ePl_init_83 rfl ?_
  refine r_con ePl_init_84 ?_
  refine r_nwa (n := 3) (k := 20) ePl_init_85 rfl (by decide) ?_
  have hT11 : (m_nT (m_nT (m_nT (m_nT (m_nT (m_nT (m_nT (m_nT (m_nT (m_nT (m_nT T (A + 1) (20, 16)) (A + 2) (20, 16)) (A + 3) (20, 6)) (A + 4) (20, 6)) (A + 5) (20, 6)) (A + 6) (20, 8)) (A + 7) (20, 8)) (A + 8) (20, 16)) (A + 9) (20, 16)) (A + 10) (20, 3)) (A + 11) (20, 3)) A = some (4, 0) := by rw [nT_o (by omega)]; exact hT10
  refine m_putR ePl_init_87 rfl hT11 hA (Or.inr ⟨rfl, rfl⟩) ?_
  refine r_aln ePl_init_90 rfl ?_
  refine r_bip ePl_init_91 (by decide) ?_
  refine r_nwa (n := 12) (k := 20) ePl_init_93 rfl (by decide) ?_
  have hT12 : (m_nT (m_nT (m_nT (m_nT (m_nT (m_nT (m_nT (m_nT (m_nT (m_nT (m_nT (m_nT T (A + 1) (20, 16)) (A + 2) (20, 16)) (A + 3) (20, 6)) (A + 4) (20, 6)) (A + 5) (20, 6)) (A + 6) (20, 8)) (A + 7) (20, 8)) (A + 8) (20, 16)) (A + 9) (20, 16)) (A + 10) (20, 3)) (A + 11) (20, 3)) (A + 12) (20, 12)) A = some (4, 0) := by rw [nT_o (by omega)]; exact hT11
  refine m_putR ePl_init_95 rfl hT12 hA (Or.inr ⟨rfl, rfl⟩) ?_
  have hpl : pl_sh en A (m_nT (m_nT (m_nT (m_nT (m_nT (m_nT (m_nT (m_nT (m_nT (m_nT (m_nT (m_nT T (A + 1) (20, 16)) (A + 2) (20, 16)) (A + 3) (20, 6)) (A + 4) (20, 6)) (A + 5) (20, 6)) (A + 6) (20, 8)) (A + 7) (20, 8)) (A + 8) (20, 16)) (A + 9) (20, 16)) (A + 10) (20, 3)) (A + 11) (20, 3)) (A + 12) (20, 12)) (m_up (m_nw (m_up (m_nw (m_up (m_nw (m_up (m_nw (m_up (m_nw (m_up (m_nw (m_up (m_nw (m_up (m_nw (m_up (m_nw (m_up (m_nw (m_up (m_nw (m_up (m_nw P (A + 1) none) A 7 (some (A + 1))) (A + 2) none) A 8 (some (A + 2))) (A + 3) none) A 9 (some (A + 3))) (A + 4) none) A 10 (some (A + 4))) (A + 5) none) A 11 (some (A + 5))) (A + 6) none) A 12 (some (A + 6))) (A + 7) none) A 13 (some (A + 7))) (A + 8) none) A 14 (some (A + 8))) (A + 9) none) A 15 (some (A + 9))) (A + 10) none) A 16 (some (A + 10))) (A + 11) none) A 17 (some (A + 11))) (A + 12) none) A 18 (some (A + 12))) := by
    refine ⟨hA, hT12, fun q hq => ?_⟩
    simp only [pl_tab, List.mem_cons, List.not_mem_nil, or_false] at hq
    rcases hq with rfl | rfl | rfl | rfl | rfl | rfl | rfl | rfl | rfl | rfl | rfl | rfl
    · dsimp only
      exact ⟨by rw [up_z (by omega), nw_o (by omega), up_z (by omega), nw_o (by omega), up_z (by omega), nw_o (by omega), up_z (by omega), nw_o (by omega), up_z (by omega), nw_o (by omega), up_z (by omega), nw_o (by omega), up_z (by omega), nw_o (by omega), up_z (by omega), nw_o (by omega), up_z (by omega), nw_o (by omega), up_z (by omega), nw_o (by omega), up_z (by omega), nw_o (by omega), up_e], by rw [nT_o (by omega), nT_o (by omega), nT_o (by omega), nT_o (by omega), nT_o (by omega), nT_o (by omega), nT_o (by omega), nT_o (by omega), nT_o (by omega), nT_o (by omega), nT_o (by omega), nT_e]⟩
    · dsimp only
      exact ⟨by rw [up_z (by omega), nw_o (by omega), up_z (by omega), nw_o (by omega), up_z (by omega), nw_o (by omega), up_z (by omega), nw_o (by omega), up_z (by omega), nw_o (by omega), up_z (by omega), nw_o (by omega), up_z (by omega), nw_o (by omega), up_z (by omega), nw_o (by omega), up_z (by omega), nw_o (by omega), up_z (by omega), nw_o (by omega), up_e], by rw [nT_o (by omega), nT_o (by omega), nT_o (by omega), nT_o (by omega), nT_o (by omega), nT_o (by omega), nT_o (by omega), nT_o (by omega), nT_o (by omega), nT_o (by omega), nT_e]⟩
    · dsimp only
      exact ⟨by rw [up_z (by omega), nw_o (by omega), up_z (by omega), nw_o (by omega), up_z (by omega), nw_o (by omega), up_z (by omega), nw_o (by omega), up_z (by omega), nw_o (by omega), up_z (by omega), nw_o (by omega), up_z (by omega), nw_o (by omega), up_z (by omega), nw_o (by omega), up_z (by omega), nw_o (by omega), up_e], by rw [nT_o (by omega), nT_o (by omega), nT_o (by omega), nT_o (by omega), nT_o (by omega), nT_o (by omega), nT_o (by omega), nT_o (by omega), nT_o (by omega), nT_e]⟩
    · dsimp only
      exact ⟨by rw [up_z (by omega), nw_o (by omega), up_z (by omega), nw_o (by omega), up_z (by omega), nw_o (by omega), up_z (by omega), nw_o (by omega), up_z (by omega), nw_o (by omega), up_z (by omega), nw_o (by omega), up_z (by omega), nw_o (by omega), up_z (by omega), nw_o (by omega), up_e], by rw [nT_o (by omega), nT_o (by omega), nT_o (by omega), nT_o (by omega), nT_o (by omega), nT_o (by omega), nT_o (by omega), nT_o (by omega), nT_e]⟩
    · dsimp only
      exact ⟨by rw [up_z (by omega), nw_o (by omega), up_z (by omega), nw_o (by omega), up_z (by omega), nw_o (by omega), up_z (by omega), nw_o (by omega), up_z (by omega), nw_o (by omega), up_z (by omega), nw_o (by omega), up_z (by omega), nw_o (by omega), up_e], by rw [nT_o (by omega), nT_o (by omega), nT_o (by omega), nT_o (by omega), nT_o (by omega), nT_o (by omega), nT_o (by omega), nT_e]⟩
    · dsimp only
      exact ⟨by rw [up_z (by omega), nw_o (by omega), up_z (by omega), nw_o (by omega), up_z (by omega), nw_o (by omega), up_z (by omega), nw_o (by omega), up_z (by omega), nw_o (by omega), up_z (by omega), nw_o (by omega), up_e], by rw [nT_o (by omega), nT_o (by omega), nT_o (by omega), nT_o (by omega), nT_o (by omega), nT_o (by omega), nT_e]⟩
    · dsimp only
      exact ⟨by rw [up_z (by omega), nw_o (by omega), up_z (by omega), nw_o (by omega), up_z (by omega), nw_o (by omega), up_z (by omega), nw_o (by omega), up_z (by omega), nw_o (by omega), up_e], by rw [nT_o (by omega), nT_o (by omega), nT_o (by omega), nT_o (by omega), nT_o (by omega), nT_e]⟩
    · dsimp only
      exact ⟨by rw [up_z (by omega), nw_o (by omega), up_z (by omega), nw_o (by omega), up_z (by omega), nw_o (by omega), up_z (by omega), nw_o (by omega), up_e], by rw [nT_o (by omega), nT_o (by omega), nT_o (by omega), nT_o (by omega), nT_e]⟩
    · dsimp only
      exact ⟨by rw [up_z (by omega), nw_o (by omega), up_z (by omega), nw_o (by omega), up_z (by omega), nw_o (by omega), up_e], by rw [nT_o (by omega), nT_o (by omega), nT_o (by omega), nT_e]⟩
    · dsimp only
      exact ⟨by rw [up_z (by omega), nw_o (by omega), up_z (by omega), nw_o (by omega), up_e], by rw [nT_o (by omega), nT_o (by omega), nT_e]⟩
    · dsimp only
      exact ⟨by rw [up_z (by omega), nw_o (by omega), up_e], by rw [nT_o (by omega), nT_e]⟩
    · dsimp only
      exact ⟨by rw [up_e], by rw [nT_e]⟩
  refine r_aln ePl_init_98 rfl ?_
  refine r_vir ePl_init_99 rfl rfl rfl hT12 rfl rfl ?_
  refine c_Pl_clear hpl ?_
  refine r_ret ePl_init_102 rfl ?_
  obtain ⟨v, vr, vt, vo⟩ := pl_cl_v (J := (m_nw (m_nw (m_nw (m_nw (m_nw (m_nw (m_nw (m_nw (m_nw (m_nw (m_nw (m_nw J (A + 1) 0) (A + 2) 0) (A + 3) 0) (A + 4) 0) (A + 5) 0) (A + 6) 0) (A + 7) 0) (A + 8) 0) (A + 9) 0) (A + 10) 0) (A + 11) 0) (A + 12) 0)) (A := A)
  refine hq _ _ _ _ ⟨⟨fun b hb => ⟨by rw [nT_o (by omega), nT_o (by omega), nT_o (by omega), nT_o (by omega), nT_o (by omega), nT_o (by omega), nT_o (by omega), nT_o (by omega), nT_o (by omega), nT_o (by omega), nT_o (by omega), nT_o (by omega)], fun i => ?_, fun i => by rw [up_z (by omega), nw_o (by omega), up_z (by omega), nw_o (by omega), up_z (by omega), nw_o (by omega), up_z (by omega), nw_o (by omega), up_z (by omega), nw_o (by omega), up_z (by omega), nw_o (by omega), up_z (by omega), nw_o (by omega), up_z (by omega), nw_o (by omega), up_z (by omega), nw_o (by omega), up_z (by omega), nw_o (by omega), up_z (by omega), nw_o (by omega), up_z (by omega), nw_o (by omega)]⟩, by rw [hT12, hT]⟩, hpl, v, vr, vt, fun b i q1 q2 => ?_⟩
  · rw [vo _ _ (by omega) (by omega) (by omega) (by omega), nw_o (by omega), nw_o (by omega), nw_o (by omega), nw_o (by omega), nw_o (by omega), nw_o (by omega), nw_o (by omega), nw_o (by omega), nw_o (by omega), nw_o (by omega), nw_o (by omega), nw_o (by omega)]
  · rw [vo _ _ (by omega) (by omega) (by omega) (by omega)]
    have : b = A + 3 ∨ b = A + 4 ∨ b = A + 5 ∨ b = A + 6 ∨ b = A + 7 ∨ b = A + 8 ∨ b = A + 9 ∨ b = A + 10 ∨ b = A + 11 := by omega
    rcases this with e | e | e | e | e | e | e | e | e <;> subst e
    · rw [nw_o (by omega), nw_o (by omega), nw_o (by omega), nw_o (by omega), nw_o (by omega), nw_o (by omega), nw_o (by omega), nw_o (by omega), nw_o (by omega), nw_e]
    · rw [nw_o (by omega), nw_o (by omega), nw_o (by omega), nw_o (by omega), nw_o (by omega), nw_o (by omega), nw_o (by omega), nw_o (by omega), nw_e]
    · rw [nw_o (by omega), nw_o (by omega), nw_o (by omega), nw_o (by omega), nw_o (by omega), nw_o (by omega), nw_o (by omega), nw_e]
    · rw [nw_o (by omega), nw_o (by omega), nw_o (by omega), nw_o (by omega), nw_o (by omega), nw_o (by omega), nw_e]
    · rw [nw_o (by omega), nw_o (by omega), nw_o (by omega), nw_o (by omega), nw_o (by omega), nw_e]
    · rw [nw_o (by omega), nw_o (by omega), nw_o (by omega), nw_o (by omega), nw_e]
    · rw [nw_o (by omega), nw_o (by omega), nw_o (by omega), nw_e]
    · rw [nw_o (by omega), nw_o (by omega), nw_e]
    · rw [nw_o (by omega), nw_e]
end CNS
