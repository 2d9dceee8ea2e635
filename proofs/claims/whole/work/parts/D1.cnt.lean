/-! the class is made: the language packed, the past, the reader -/
/-- behind so many signs of the language: word, letters, packed -/
def pk_s : Nat → Int × Int × Int
  | 0 => (0, 0, 0)
  | i + 1 => if a_tx (i : Int) = 32 then ((pk_s i).1 + 1, 0, 0) else ((pk_s i).1, (pk_s i).2.1 + 1, m_or (pk_s i).2.2 (re_lb (a_tx (i : Int)) (pk_s i).2.1))
def pk_h (J : Nat → Nat → Int) (R i : Nat) : Nat → Nat → Int := fun b k => if b = R ∧ (k : Int) < (pk_s i).1 then re_W k else J b k
section CNU
variable {en : Nat → Nat} {d : Nat} {T : Nat → Option (Nat × Nat)} {J : Nat → Nat → Int} {P : Nat → Nat → Option Nat} {L : Nat → Nat → Int64} {z w A R : Nat} {Q : m_Q}
theorem pk_d : ∀ i : Nat, i < 92 → (0 ≤ (pk_s i).1 ∧ (pk_s i).1 < 18) ∧ (0 ≤ (pk_s i).2.1 ∧ (pk_s i).2.1 ≤ 10) ∧ (a_tx (i : Int) = 32 → (pk_s i).2.2 = re_W (pk_s i).1.toNat) := by decide +kernel
theorem pk_e : (pk_s 92).1 = 18 := by decide +kernel
theorem pk_h0 : pk_h J R 0 = J := by
  funext b k
  exact if_neg (fun q => absurd q.2 (by show ¬ (k : Int) < 0; omega))
theorem pk_hs {i : Nat} (h0 : 0 ≤ (pk_s i).1) (ht : a_tx (i : Int) = 32) (hp : (pk_s i).2.2 = re_W (pk_s i).1.toNat) : m_up (pk_h J R i) R (pk_s i).1.toNat (pk_s i).2.2 = pk_h J R (i + 1) := by
  have e : (pk_s (i + 1)).1 = (pk_s i).1 + 1 := by
    show (if a_tx (i : Int) = 32 then ((pk_s i).1 + 1, 0, 0) else ((pk_s i).1, (pk_s i).2.1 + 1, m_or (pk_s i).2.2 (re_lb (a_tx (i : Int)) (pk_s i).2.1))).1 = _
    rw [if_pos ht]
  funext b k
  unfold m_up pk_h
  rw [e]
  by_cases c : b = R ∧ k = (pk_s i).1.toNat
  · rw [if_pos c, if_pos ⟨c.1, by omega⟩, hp, c.2]
  · rw [if_neg c]
    by_cases c2 : b = R ∧ (k : Int) < (pk_s i).1
    · rw [if_pos c2, if_pos ⟨c2.1, by omega⟩]
    · rw [if_neg c2, if_neg (fun q => by omega)]
theorem pk_hn {i : Nat} (ht : ¬ a_tx (i : Int) = 32) : pk_h J R i = pk_h J R (i + 1) := by
  have e : (pk_s (i + 1)).1 = (pk_s i).1 := by
    show (if a_tx (i : Int) = 32 then ((pk_s i).1 + 1, 0, 0) else ((pk_s i).1, (pk_s i).2.1 + 1, m_or (pk_s i).2.2 (re_lb (a_tx (i : Int)) (pk_s i).2.1))).1 = _
    rw [if_neg ht]
  unfold pk_h
  rw [e]
theorem l_Re_pack (hR : T R = some (20, 18)) (hB : en 0 ≤ R) (hq : Q none (T, m_I (pk_h J R 92), P, L, z, w)) : ∀ (m i : Nat) (o5 : Option Value), i + m = 92 → m_wp en (d + 1) mRe_packLanguage 9 [some (.ref R), some (.int (m_i (pk_s i).1)), some (.int (m_i (pk_s i).2.1)), some (.int (m_i (pk_s i).2.2)), some (.int (m_i (i : Int))), o5] [] (T, m_I (pk_h J R i), P, L, z, w) Q := by
  intro m
  induction m with
  | zero =>
    intro i o5 hi
    obtain rfl : i = 92 := by omega
    refine r_il eRe_packLanguage_9 rfl ?_
    refine r_ldz eRe_packLanguage_11 rfl rfl ?_
    refine r_len eRe_packLanguage_13 rfl (Nat.le_of_ble_eq_true rfl) ?_
    refine r_cge (tgt := 73) eRe_packLanguage_16 rfl ⟨(by omega), (by omega)⟩ ⟨(by omega), (by omega)⟩ (fun c16 => ?_) (fun c16 => ?_)
    · refine r_ret eRe_packLanguage_73 rfl ?_
      exact hq
    · exfalso; omega
  | succ m ih =>
    intro i o5 hi
    obtain ⟨hw, hl, hp⟩ := pk_d i (by omega)
    have ht := a_tx_b (i := (i : Int)) (by omega)
    refine r_il eRe_packLanguage_9 rfl ?_
    refine r_ldz eRe_packLanguage_11 rfl rfl ?_
    refine r_len eRe_packLanguage_13 rfl (Nat.le_of_ble_eq_true rfl) ?_
    refine r_cge (tgt := 73) eRe_packLanguage_16 rfl ⟨(by omega), (by omega)⟩ ⟨(by omega), (by omega)⟩ (fun c16 => ?_) (fun c16 => ?_)
    · exfalso; omega
    · refine r_iln eRe_packLanguage_19 rfl ?_
      refine r_aln eRe_packLanguage_20 rfl ?_
      refine r_alen eRe_packLanguage_21 hR (by decide) ?_
      refine r_cge (tgt := 73) eRe_packLanguage_22 rfl ⟨(by omega), (by omega)⟩ ⟨(by omega), (by omega)⟩ (fun c22 => ?_) (fun c22 => ?_)
      · exfalso; omega
      · refine r_ldz eRe_packLanguage_25 rfl rfl ?_
        refine r_il eRe_packLanguage_27 rfl ?_
        refine r_chr eRe_packLanguage_29 rfl (Nat.le_of_ble_eq_true rfl) (by omega) (by omega) ?_
        refine r_is (ls' := [some (.ref R), some (.int (m_i (pk_s i).1)), some (.int (m_i (pk_s i).2.1)), some (.int (m_i (pk_s i).2.2)), some (.int (m_i (i : Int))), some (.int (m_i (a_tx (i : Int))))]) eRe_packLanguage_32 (Nat.le_of_ble_eq_true rfl) rfl ?_
        refine r_il eRe_packLanguage_34 rfl ?_
        refine r_bip eRe_packLanguage_36 (by decide) ?_
        refine r_cne (tgt := 55) eRe_packLanguage_38 rfl ⟨(by omega), (by omega)⟩ ⟨(by omega), (by omega)⟩ (fun c38 => ?_) (fun c38 => ?_)
        · have hi2 := ih (i + 1) (some (.int (m_i (a_tx (i : Int))))) (by omega)
          have e : pk_s (i + 1) = ((pk_s i).1, (pk_s i).2.1 + 1, m_or (pk_s i).2.2 (re_lb (a_tx (i : Int)) (pk_s i).2.1)) := if_neg c38
          rw [← pk_hn c38, e, show ((i + 1 : Nat) : Int) = (i : Int) + 1 by omega] at hi2
          refine r_iln eRe_packLanguage_55 rfl ?_
          refine r_il eRe_packLanguage_56 rfl ?_
          refine r_iln eRe_packLanguage_58 rfl ?_
          refine r_sta eRe_packLanguage_59 rfl rfl (by decide) rfl ?_
          refine c_Re_letterBits (by omega) ?_
          show m_wp en _ mRe_packLanguage 62 [some (.ref R), some (.int (m_i (pk_s i).1)), some (.int (m_i (pk_s i).2.1)), some (.int (m_i (pk_s i).2.2)), some (.int (m_i (i : Int))), some (.int (m_i (a_tx (i : Int))))] [(.int (m_i (re_lb (a_tx (i : Int)) (pk_s i).2.1))), (.int (m_i (pk_s i).2.2))] (T, m_I (pk_h J R i), P, L, z, w) Q
          refine r_or eRe_packLanguage_62 ?_
          refine r_isn (ls' := [some (.ref R), some (.int (m_i (pk_s i).1)), some (.int (m_i (pk_s i).2.1)), some (.int (m_i (m_or (pk_s i).2.2 (re_lb (a_tx (i : Int)) (pk_s i).2.1)))), some (.int (m_i (i : Int))), some (.int (m_i (a_tx (i : Int))))]) eRe_packLanguage_63 (Nat.le_of_ble_eq_true rfl) rfl ?_
          refine r_inc (ls' := [some (.ref R), some (.int (m_i (pk_s i).1)), some (.int (m_i ((pk_s i).2.1 + 1))), some (.int (m_i (m_or (pk_s i).2.2 (re_lb (a_tx (i : Int)) (pk_s i).2.1)))), some (.int (m_i (i : Int))), some (.int (m_i (a_tx (i : Int))))]) eRe_packLanguage_64 rfl rfl ?_
          refine r_inc (ls' := [some (.ref R), some (.int (m_i (pk_s i).1)), some (.int (m_i ((pk_s i).2.1 + 1))), some (.int (m_i (m_or (pk_s i).2.2 (re_lb (a_tx (i : Int)) (pk_s i).2.1)))), some (.int (m_i ((i : Int) + 1))), some (.int (m_i (a_tx (i : Int))))]) eRe_packLanguage_67 rfl rfl ?_
          refine r_go (tgt := 9) eRe_packLanguage_70 rfl ?_
          exact hi2
        · have hi2 := ih (i + 1) (some (.int (m_i (a_tx (i : Int))))) (by omega)
          have e : pk_s (i + 1) = ((pk_s i).1 + 1, 0, 0) := if_pos c38
          rw [← pk_hs hw.1 c38 (hp c38), e, show ((i + 1 : Nat) : Int) = (i : Int) + 1 by omega] at hi2
          refine r_aln eRe_packLanguage_41 rfl ?_
          refine r_iln eRe_packLanguage_42 rfl ?_
          refine r_iln eRe_packLanguage_43 rfl ?_
          refine r_iast eRe_packLanguage_44 hR (by decide) (by omega) (by omega) hB ?_
          refine r_inc (ls' := [some (.ref R), some (.int (m_i ((pk_s i).1 + 1))), some (.int (m_i (pk_s i).2.1)), some (.int (m_i (pk_s i).2.2)), some (.int (m_i (i : Int))), some (.int (m_i (a_tx (i : Int))))]) eRe_packLanguage_45 rfl rfl ?_
          refine r_con eRe_packLanguage_48 ?_
          refine r_isn (ls' := [some (.ref R), some (.int (m_i ((pk_s i).1 + 1))), some (.int (m_i 0)), some (.int (m_i (pk_s i).2.2)), some (.int (m_i (i : Int))), some (.int (m_i (a_tx (i : Int))))]) eRe_packLanguage_49 (Nat.le_of_ble_eq_true rfl) rfl ?_
          refine r_con eRe_packLanguage_50 ?_
          refine r_isn (ls' := [some (.ref R), some (.int (m_i ((pk_s i).1 + 1))), some (.int (m_i 0)), some (.int (m_i 0)), some (.int (m_i (i : Int))), some (.int (m_i (a_tx (i : Int))))]) eRe_packLanguage_51 (Nat.le_of_ble_eq_true rfl) rfl ?_
          refine r_go (tgt := 67) eRe_packLanguage_52 rfl ?_
          refine r_inc (ls' := [some (.ref R), some (.int (m_i ((pk_s i).1 + 1))), some (.int (m_i 0)), some (.int (m_i 0)), some (.int (m_i ((i : Int) + 1))), some (.int (m_i (a_tx (i : Int))))]) eRe_packLanguage_67 rfl rfl ?_
          refine r_go (tgt := 9) eRe_packLanguage_70 rfl ?_
          exact hi2
theorem c_Re_packLanguage (hR : T R = some (20, 18)) (hB : en 0 ≤ R) (hq : ∀ J', (∀ i : Nat, i < 18 → J' R i = re_W i) → (∀ b i, b ≠ R → J' b i = J b i) → Q none (T, m_I J', P, L, z, w)) : m_call en (d + 2) mRe_packLanguage [.ref R] (T, m_I J, P, L, z, w) Q := by
  have h := l_Re_pack (d := d) (J := J) hR hB (hq _ (fun i hi => if_pos ⟨rfl, by rw [pk_e]; omega⟩) (fun b i q => if_neg (fun c => q c.1))) 92 0 none rfl
  rw [pk_h0] at h
  refine m_into (by decide) (Nat.le_of_ble_eq_true rfl) rfl ?_
  refine r_con eRe_packLanguage_0 ?_
  refine r_isn (ls' := [some (.ref R), some (.int (m_i 0)), none, none, none, none]) eRe_packLanguage_1 (Nat.le_of_ble_eq_true rfl) rfl ?_
  refine r_con eRe_packLanguage_2 ?_
  refine r_isn (ls' := [some (.ref R), some (.int (m_i 0)), some (.int (m_i 0)), none, none, none]) eRe_packLanguage_3 (Nat.le_of_ble_eq_true rfl) rfl ?_
  refine r_con eRe_packLanguage_4 ?_
  refine r_isn (ls' := [some (.ref R), some (.int (m_i 0)), some (.int (m_i 0)), some (.int (m_i 0)), none, none]) eRe_packLanguage_5 (Nat.le_of_ble_eq_true rfl) rfl ?_
  refine r_con eRe_packLanguage_6 ?_
  refine r_is (ls' := [some (.ref R), some (.int (m_i 0)), some (.int (m_i 0)), some (.int (m_i 0)), some (.int (m_i 0)), none]) eRe_packLanguage_7 (Nat.le_of_ble_eq_true rfl) rfl ?_
  exact h
/-- the past with k of its moments -/
def pa_N (A k : Nat) (T : Nat → Option (Nat × Nat)) (J : Nat → Nat → Int) (P : Nat → Nat → Option Nat) (T' : Nat → Option (Nat × Nat)) (J' : Nat → Nat → Int) (P' : Nat → Nat → Option Nat) : Prop := nn_F A T J P T' J' P' ∧ T' (A + 1) = some (25, 30) ∧ P' A 0 = some (A + 1) ∧ (∀ b i, A ≤ b → b < A + 2 + 3 * k → J' b i = 0) ∧ ∀ j : Nat, j < k → (T' (A + 2 + 3 * j) = some (2, 0) ∧ T' (A + 2 + 3 * j + 1) = some (5, 0) ∧ T' (A + 2 + 3 * j + 2) = some (20, 16)) ∧ (P' (A + 2 + 3 * j) 0 = some (A + 2 + 3 * j + 1) ∧ P' (A + 2 + 3 * j) 1 = some (A + 2 + 3 * j + 2)) ∧ P' (A + 1) j = some (A + 2 + 3 * j)
theorem l_Pa_init (hT : T A = some (3, 0)) (hA : en 0 ≤ A) {w0 : Nat} (hq : ∀ T' J' P' L', pa_N A 30 T J P T' J' P' → Q none (T', m_I J', P', L', A + 92, w0 + 30 * (m_W 2 + m_W 5 + 16))) : ∀ (m k : Nat) (T1 : Nat → Option (Nat × Nat)) (J1 : Nat → Nat → Int) (P1 : Nat → Nat → Option Nat) (L1 : Nat → Nat → Int64) (z1 w1 : Nat), k + m = 30 → z1 = A + 2 + 3 * k → w1 = w0 + k * (m_W 2 + m_W 5 + 16) → pa_N A k T J P T1 J1 P1 → m_wp en (d + 2) mPa_init 15 [some (.ref A), some (.int (m_i (k : Int)))] [] (T1, m_I J1, P1, L1, z1, w1) Q := by
  intro m
  induction m with
  | zero =>
    intro k T1 J1 P1 L1 z1 w1 hk hz hw h
    obtain rfl : k = 30 := by omega
    have hTA : T1 A = some (3, 0) := h.1.2.trans hT
    refine r_iln ePa_init_15 rfl ?_
    refine r_aln ePa_init_16 rfl ?_
    refine m_getR ePa_init_17 rfl hTA h.2.2.1 ?_
    refine r_alen ePa_init_20 h.2.1 (by decide) ?_
    refine r_cge (tgt := 43) ePa_init_21 rfl ⟨(by omega), (by omega)⟩ ⟨(by omega), (by omega)⟩ (fun c21 => ?_) (fun c21 => ?_)
    · refine r_ret ePa_init_43 rfl ?_
      have := hq T1 J1 P1 L1 h
      rw [show A + 92 = z1 by omega, ← hw] at this
      exact this
    · exfalso; omega
  | succ m ih =>
    intro k T1 J1 P1 L1 z1 w1 hk hz hw h
    obtain ⟨⟨f1, f2⟩, t1, p1, j1, o1⟩ := id h
    have hTA : T1 A = some (3, 0) := f2.trans hT
    refine r_iln ePa_init_15 rfl ?_
    refine r_aln ePa_init_16 rfl ?_
    refine m_getR ePa_init_17 rfl hTA p1 ?_
    refine r_alen ePa_init_20 t1 (by decide) ?_
    refine r_cge (tgt := 43) ePa_init_21 rfl ⟨(by omega), (by omega)⟩ ⟨(by omega), (by omega)⟩ (fun c21 => ?_) (fun c21 => ?_)
    · exfalso; omega
    · refine r_aln ePa_init_24 rfl ?_
      refine m_getR ePa_init_25 rfl hTA p1 ?_
      refine r_iln ePa_init_28 rfl ?_
      refine r_nwo (c := 2) ePa_init_29 rfl ?_
      refine r_dupr ePa_init_32 ?_
      refine r_spe ePa_init_33 rfl rfl rfl (by decide) rfl ?_
      refine c_Mo_init (A := z1) nT_e (by omega) (fun i => nw_e) (fun T2 J2 P2 L2 g => ?_)
      obtain ⟨⟨g1, g2⟩, ⟨g3, g4⟩, ⟨g5, g6⟩, g7, g8⟩ := g
      show m_wp en _ mPa_init 36 [some (.ref A), some (.int (m_i (k : Int)))] [(.ref z1), (.int (m_i (k : Int))), (.ref (A + 1))] (T2, m_I J2, P2, L2, z1 + 3, w1 + m_W 2 + m_W 5 + 16) Q
      have e1 : T2 z1 = some (2, 0) := g2.trans nT_e
      have eT : ∀ b, b < z1 → T2 b = T1 b := fun b q => (g1 b q).1.trans (nT_o (by omega))
      have eJ : ∀ b i, b < z1 → J2 b i = J1 b i := fun b i q => ((g1 b q).2.1 i).trans (nw_o (by omega))
      have eP : ∀ b i, b < z1 → P2 b i = P1 b i := fun b i q => ((g1 b q).2.2 i).trans (nw_o (by omega))
      refine r_aas ePa_init_36 (n := 30) (u := 0) (by rw [eT _ (by omega)]; exact t1) e1 (by decide) (by omega) (by omega) (by omega) ?_
      refine r_inc (ls' := [some (.ref A), some (.int (m_i ((k : Int) + 1)))]) ePa_init_37 rfl rfl ?_
      refine r_go (tgt := 15) ePa_init_40 rfl ?_
      have hi := ih (k + 1) T2 J2 (m_up P2 (A + 1) (k : Int).toNat (some z1)) L2 (z1 + 3) (w1 + m_W 2 + m_W 5 + 16) (by omega) (by omega) (by rw [hw, Nat.add_mul, Nat.one_mul]; omega) ?_
      · rw [show ((k + 1 : Nat) : Int) = (k : Int) + 1 by omega] at hi
        exact hi
      · refine ⟨⟨fun b q => ⟨by rw [eT _ (by omega)]; exact (f1 b q).1, fun i => by rw [eJ _ _ (by omega)]; exact (f1 b q).2.1 i, fun i => by rw [up_z (by omega), eP _ _ (by omega)]; exact (f1 b q).2.2 i⟩, by rw [eT _ (by omega)]; exact f2⟩, by rw [eT _ (by omega)]; exact t1, by rw [up_z (by omega), eP _ _ (by omega)]; exact p1, fun b i q1 q2 => ?_, fun j hj => ?_⟩
        · by_cases c : b < z1
          · rw [eJ _ _ c]; exact j1 b i q1 (by omega)
          · by_cases c2 : b = z1
            · rw [c2]; exact g8 i
            · exact g7 b i (by omega) (by omega)
        · by_cases c : j = k
          · subst c
            rw [← hz]
            refine ⟨⟨e1, g3, g4⟩, ⟨by rw [up_z (by omega)]; exact g5, by rw [up_z (by omega)]; exact g6⟩, ?_⟩
            rw [show ((j : Int)).toNat = j by omega]
            exact up_e
          · obtain ⟨⟨u1, u2, u3⟩, ⟨u4, u5⟩, u6⟩ := o1 j (by omega)
            rw [eT _ (by omega), eT _ (by omega), eT _ (by omega), up_z (by omega), up_z (by omega), up_z (by omega), eP _ _ (by omega), eP _ _ (by omega), eP _ _ (by omega)]
            exact ⟨⟨u1, u2, u3⟩, ⟨u4, u5⟩, u6⟩
theorem c_Pa_init (hT : T A = some (3, 0)) (hA : en 0 ≤ A) (hz : ∀ i, J A i = 0) (hq : ∀ T' J' P' L', pa_N A 30 T J P T' J' P' → Q none (T', m_I J', P', L', A + 92, w + 30 + 30 * (m_W 2 + m_W 5 + 16))) : m_call en (d + 3) mPa_init [.ref A] (T, m_I J, P, L, A + 1, w) Q := by
  refine m_into (by decide) (Nat.le_of_ble_eq_true rfl) rfl ?_
  refine r_aln ePa_init_0 rfl ?_
  refine r_obj ePa_init_1 rfl (by decide) ?_
  refine r_aln ePa_init_4 rfl ?_
  refine r_bip ePa_init_5 (by decide) ?_
  refine r_nwr (n := 30) ePa_init_7 rfl (by decide) ?_
  have h1 : m_nT T (A + 1) (25, 30) A = some (3, 0) := by rw [nT_o (by omega)]; exact hT
  refine m_putR ePa_init_10 rfl h1 hA (Or.inr ⟨rfl, rfl⟩) ?_
  refine r_con ePa_init_13 ?_
  refine r_isn (ls' := [some (.ref A), some (.int (m_i 0))]) ePa_init_14 (Nat.le_of_ble_eq_true rfl) rfl ?_
  refine l_Pa_init (J := J) (P := P) hT hA (w0 := w + 30) hq 30 0 _ _ _ _ _ _ rfl (by omega) (by omega) ?_
  refine ⟨⟨fun b q => ⟨nT_o (by omega), fun i => nw_o (by omega), fun i => by rw [up_z (by omega), nw_o (by omega)]⟩, by rw [nT_o (by omega)]⟩, nT_e, up_e, fun b i q1 q2 => ?_, fun j hj => absurd hj (by omega)⟩
  by_cases c : b = A + 1
  · rw [c, nw_e]
  · rw [nw_o c, show b = A by omega]; exact hz i
/-- the reader, made -/
def re_N (en : Nat → Nat) (A : Nat) (T : Nat → Option (Nat × Nat)) (J : Nat → Nat → Int) (P : Nat → Nat → Option Nat) (T' : Nat → Option (Nat × Nat)) (J' : Nat → Nat → Int) (P' : Nat → Nat → Option Nat) : Prop := nn_F A T J P T' J' P' ∧ pl_sh en (A + 2) T' P' ∧ (T' (A + 1) = some (21, 700) ∧ T' (A + 15) = some (20, 18)) ∧ (P' A 0 = some (A + 1) ∧ P' A 2 = some (A + 2) ∧ P' A 5 = some (A + 15)) ∧ ((∀ i, i ≠ 4 → J' A i = 0) ∧ J' A 4 = -1 ∧ (∀ i, J' (A + 1) i = 0) ∧ ∀ i : Nat, i < 18 → J' (A + 15) i = re_W i) ∧ (J' (A + 2) 0 = 16 ∧ J' (A + 2) 1 = 6 ∧ J' (A + 2) 2 = 2 ∧ J' (A + 2) 3 = 4 ∧ J' (A + 2) 4 = 0 ∧ J' (A + 2) 5 = 0 ∧ J' (A + 2) 6 = 1) ∧ (∀ i : Nat, i < 16 → J' (A + 3) i = 6 ∧ J' (A + 4) i = 0) ∧ (∀ i : Nat, i < 12 → J' (A + 14) i = 0) ∧ (∀ b i, A + 5 ≤ b → b ≤ A + 13 → J' b i = 0)
theorem ob_sh_e {c : Nat} {tab : List (Nat × Nat × Nat × Nat)} {T' : Nat → Option (Nat × Nat)} {P' : Nat → Nat → Option Nat} {n : Nat} (h : ob_sh c tab en A T P) (hn : ∀ q ∈ tab, q.2.1 < n) (h0 : 0 < n) (eT : ∀ b, A ≤ b → b < A + n → T' b = T b) (eP : ∀ i, P' A i = P A i) : ob_sh c tab en A T' P' := by
  refine ⟨h.1, by rw [eT _ (by omega) (by omega)]; exact h.2.1, fun q hq => ?_⟩
  have := hn q hq
  rw [eP, eT _ (by omega) (by omega)]
  exact h.2.2 q hq
theorem c_Re_init (hT : T A = some (6, 0)) (hA : en 0 ≤ A) (hz : ∀ i, J A i = 0) (hq : ∀ T' J' P' L', re_N en A T J P T' J' P' → Q none (T', m_I J', P', L', A + 16, w + 700 + m_W 4 + 16 + 16 + 6 + 6 + 6 + 8 + 8 + 16 + 16 + 3 + 3 + 12 + 18)) : m_call en (d + 3) mRe_init [.ref A] (T, m_I J, P, L, A + 1, w) Q := by
  refine m_into (by decide) (Nat.le_of_ble_eq_true rfl) rfl ?_
  refine r_aln eRe_init_0 rfl ?_
  refine r_obj eRe_init_1 rfl (by decide) ?_
  refine r_aln eRe_init_4 rfl ?_
  refine r_sip eRe_init_5 (by decide) ?_
  refine r_nwa (n := 700) (k := 21) eRe_init_8 rfl (by decide) ?_
  have hT1 : m_nT T (A + 1) (21, 700) A = some (6, 0) := by rw [nT_o (by omega)]; exact hT
  refine m_putR eRe_init_10 rfl hT1 hA (Or.inr ⟨rfl, rfl⟩) ?_
  refine r_aln eRe_init_13 rfl ?_
  refine r_nwo (c := 4) eRe_init_14 rfl ?_
  refine r_dupr eRe_init_17 ?_
  refine r_spe eRe_init_18 rfl rfl rfl (by decide) rfl ?_
  refine c_Pl_init (A := A + 2) nT_e (by omega) (fun i => nw_e) (fun T2 J2 P2 L2 g => ?_)
  obtain ⟨⟨g1, g2⟩, g3, g4, g5, g6, g7⟩ := g
  show m_wp en _ mRe_init 21 [some (.ref A)] [(.ref (A + 2)), (.ref A)] (T2, m_I J2, P2, L2, A + 15, w + 700 + m_W 4 + 16 + 16 + 6 + 6 + 6 + 8 + 8 + 16 + 16 + 3 + 3 + 12) Q
  have hT2 : T2 A = some (6, 0) := by rw [(g1 A (by omega)).1, nT_o (by omega)]; exact hT1
  refine m_putR eRe_init_21 rfl hT2 hA (Or.inr ⟨rfl, rfl⟩) ?_
  refine r_aln eRe_init_24 rfl ?_
  refine r_bip eRe_init_25 (by decide) ?_
  refine r_nwa (n := 18) (k := 20) eRe_init_27 rfl (by decide) ?_
  have hT3 : m_nT T2 (A + 15) (20, 18) A = some (6, 0) := by rw [nT_o (by omega)]; exact hT2
  refine m_putR eRe_init_29 rfl hT3 hA (Or.inr ⟨rfl, rfl⟩) ?_
  refine r_aln eRe_init_32 rfl ?_
  refine r_con eRe_init_33 ?_
  refine r_put eRe_init_34 rfl hT3 hA (Or.inl rfl) ?_
  refine r_aln eRe_init_37 rfl ?_
  refine m_getR eRe_init_38 rfl hT3 up_e ?_
  refine r_sta eRe_init_41 rfl rfl (by decide) rfl ?_
  refine c_Re_packLanguage (R := A + 15) nT_e (by omega) (fun J3 k1 k2 => ?_)
  show m_wp en _ mRe_init 44 [some (.ref A)] [] (m_nT T2 (A + 15) (20, 18), m_I J3, _, _, A + 16, _) Q
  refine r_ret eRe_init_44 rfl ?_
  have eJ : ∀ b i, b ≠ A + 15 → ¬ (b = A ∧ i = 4) → J3 b i = J2 b i := fun b i q1 q2 => by rw [k2 _ _ q1, up_z q2, nw_o q1]
  have eT : ∀ b, b ≠ A + 15 → m_nT T2 (A + 15) (20, 18) b = T2 b := fun b q => nT_o q
  refine hq _ _ _ _ ⟨⟨fun b q => ⟨?_, fun i => ?_, fun i => ?_⟩, ?_⟩, ?_, ⟨?_, nT_e⟩, ⟨?_, ?_, up_e⟩, ⟨fun i q => ?_, ?_, fun i => ?_, k1⟩, ?_, fun i hi => ?_, fun i hi => ?_, fun b i q1 q2 => ?_⟩
  · rw [eT _ (by omega), (g1 b (by omega)).1, nT_o (by omega), nT_o (by omega)]
  · rw [eJ _ _ (by omega) (by omega), (g1 b (by omega)).2.1, nw_o (by omega), nw_o (by omega)]
  · rw [up_z (by omega), nw_o (by omega), up_z (by omega), (g1 b (by omega)).2.2, nw_o (by omega), up_z (by omega), nw_o (by omega)]
  · rw [hT3, hT]
  · exact ob_sh_e (n := 13) g3 (by decide) (by omega) (fun b q1 q2 => eT b (by omega)) (fun i => by rw [up_z (by omega), nw_o (by omega), up_z (by omega)])
  · rw [eT _ (by omega), (g1 _ (by omega)).1, nT_o (by omega), nT_e]
  · rw [up_z (by omega), nw_o (by omega), up_z (by omega), (g1 _ (by omega)).2.2, nw_o (by omega), up_e]
  · rw [up_z (by omega), nw_o (by omega), up_e]
  · rw [eJ _ _ (by omega) (by omega), (g1 _ (by omega)).2.1, nw_o (by omega), nw_o (by omega)]; exact hz i
  · rw [k2 _ _ (by omega), up_e]
  · rw [eJ _ _ (by omega) (by omega), (g1 _ (by omega)).2.1, nw_o (by omega), nw_e]
  · rw [eJ _ _ (by omega) (by omega), eJ _ _ (by omega) (by omega), eJ _ _ (by omega) (by omega), eJ _ _ (by omega) (by omega), eJ _ _ (by omega) (by omega), eJ _ _ (by omega) (by omega), eJ _ _ (by omega) (by omega)]; exact g4
  · rw [eJ _ _ (by omega) (by omega), eJ _ _ (by omega) (by omega)]; exact g5 i hi
  · rw [eJ _ _ (by omega) (by omega)]; exact g6 i hi
  · rw [eJ _ _ (by omega) (by omega)]; exact g7 b i (by omega) (by omega)
end CNU
