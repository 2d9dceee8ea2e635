/-! the class's reader: spots, winds, orders, piles, jobs -/
section RM
variable {en : Nat → Nat} {d : Nat} {T : Nat → Option (Nat × Nat)} {J J0 J1 : Nat → Nat → Int} {P : Nat → Nat → Option Nat} {L : Nat → Nat → Int64} {z w X : Nat} {Q : m_Q} {fk fp p b k v x n lo hi a : Int} {f : Nat → Int} {y : a_Q}
theorem l48_Re_readSpot (hX : cl_sh en X T P) (hok : re_ok en T J X) (hy : re_yb (J (X + 1) 6) y) (ha : 0 ≤ a ∧ a ≤ 16) (hq : ∀ y3 y' r1 r2, (r1, y3) = re_nb (J (X + 2)) (J (X + 1) 6) 0 (J (X + 3) 0 - 1) y → (r2, y') = re_nb (J (X + 2)) (J (X + 1) 6) 1 (J (X + 3) 1) y3 → re_yb (J (X + 1) 6) y' → Q none (T, m_I (re_q (if a < 6 then m_up (m_up (m_up J (X + 6) a.toNat y.2.2.2.2.2) (X + 7) a.toNat r1) (X + 8) a.toNat r2 else J) X y'.1 y'.2.1 y'.2.2.1 y'.2.2.2.1 y'.2.2.2.2.1 y'.2.2.2.2.2), P, L, z, w)) : m_wp en (d + 4) mRe_readSpot 48 [some (.ref (X + 1)), some (.int (m_i a)), none, none, none] [] (T, m_I (re_q J X y.1 y.2.1 y.2.2.1 y.2.2.2.1 y.2.2.2.2.1 y.2.2.2.2.2), P, L, z, w) Q := by
  obtain ⟨hf, pok, hW, hst, ht, hwt, hss⟩ := hok
  have k0 := pok.1
  have k1 := pok.2.1
  refine r_aln eRe_readSpot_48 rfl ?_
  refine r_gete (x := y.2.2.2.2.2) eRe_readSpot_49 rfl (by decide) (cl_t hX (i := 1) rfl) (by rw [re_q_10]) ?_
  refine r_isn (ls' := [some (.ref (X + 1)), some (.int (m_i (a))), some (.int (m_i (y.2.2.2.2.2))), none, none]) eRe_readSpot_52 (Nat.le_of_ble_eq_true rfl) rfl ?_
  refine r_aln eRe_readSpot_53 rfl ?_
  refine r_con eRe_readSpot_54 ?_
  refine r_aln eRe_readSpot_55 rfl ?_
  refine m_getR eRe_readSpot_56 rfl (cl_t hX (i := 1) rfl) (cl_p hX (i := 12) rfl) ?_
  refine r_gete (x := J (X + 3) 0) eRe_readSpot_59 rfl (by decide) (cl_t hX (i := 3) rfl) (by rw [re_q_o (by omega)]) ?_
  refine r_con eRe_readSpot_62 ?_
  refine r_sub eRe_readSpot_63 ?_
  refine r_vir eRe_readSpot_64 rfl rfl rfl (cl_t hX (i := 1) rfl) rfl rfl ?_
  -- call of Re_number at 64: [(.ref (X + 1)), (.int (m_i (0))), (.int (m_i ((J (X + 3) 0) - (1))))]
  refine c_Re_number hX hf hy (by omega) (by omega) (fun y1 r1 e1 h1 b1 => ?_)
  show m_wp en _ mRe_readSpot 67 [some (.ref (X + 1)), some (.int (m_i (a))), some (.int (m_i (y.2.2.2.2.2))), none, none] [(.int (m_i (r1)))] (T, m_I ((re_q J X y1.1 y1.2.1 y1.2.2.1 y1.2.2.2.1 y1.2.2.2.2.1 y1.2.2.2.2.2)), P, L, z, w) Q
  refine r_isn (ls' := [some (.ref (X + 1)), some (.int (m_i (a))), some (.int (m_i (y.2.2.2.2.2))), some (.int (m_i (r1))), none]) eRe_readSpot_67 (Nat.le_of_ble_eq_true rfl) rfl ?_
  refine r_aln eRe_readSpot_68 rfl ?_
  refine r_con eRe_readSpot_69 ?_
  refine r_aln eRe_readSpot_70 rfl ?_
  refine m_getR eRe_readSpot_71 rfl (cl_t hX (i := 1) rfl) (cl_p hX (i := 12) rfl) ?_
  refine r_gete (x := J (X + 3) 1) eRe_readSpot_74 rfl (by decide) (cl_t hX (i := 3) rfl) (by rw [re_q_o (by omega)]) ?_
  refine r_vir eRe_readSpot_77 rfl rfl rfl (cl_t hX (i := 1) rfl) rfl rfl ?_
  -- call of Re_number at 77: [(.ref (X + 1)), (.int (m_i (1))), (.int (m_i (J (X + 3) 1)))]
  refine c_Re_number hX hf h1 (by omega) (by omega) (fun y2 r2 e2 h2 b2 => ?_)
  show m_wp en _ mRe_readSpot 80 [some (.ref (X + 1)), some (.int (m_i (a))), some (.int (m_i (y.2.2.2.2.2))), some (.int (m_i (r1))), none] [(.int (m_i (r2)))] (T, m_I ((re_q J X y2.1 y2.2.1 y2.2.2.1 y2.2.2.2.1 y2.2.2.2.2.1 y2.2.2.2.2.2)), P, L, z, w) Q
  refine r_is (ls' := [some (.ref (X + 1)), some (.int (m_i (a))), some (.int (m_i (y.2.2.2.2.2))), some (.int (m_i (r1))), some (.int (m_i (r2)))]) eRe_readSpot_80 (Nat.le_of_ble_eq_true rfl) rfl ?_
  refine r_iln eRe_readSpot_82 rfl ?_
  refine r_zlt (tgt := 123) eRe_readSpot_83 rfl ⟨(by omega), (by omega)⟩ (fun c83 => ?_) (fun c83 => ?_)
  · refine r_ret eRe_readSpot_123 rfl ?_
    first | (exfalso; omega) | (have h9 := hq y1 y2 r1 r2 e1 e2 h2; rw [if_pos (by omega)] at h9; exact h9) | (have h9 := hq y1 y2 r1 r2 e1 e2 h2; rw [if_neg (by omega)] at h9; exact h9)
  · refine r_iln eRe_readSpot_86 rfl ?_
    refine r_bip eRe_readSpot_87 (by decide) ?_
    refine r_cge (tgt := 123) eRe_readSpot_89 rfl ⟨(by omega), (by omega)⟩ ⟨(by omega), (by omega)⟩ (fun c89 => ?_) (fun c89 => ?_)
    · refine r_ret eRe_readSpot_123 rfl ?_
      first | (exfalso; omega) | (have h9 := hq y1 y2 r1 r2 e1 e2 h2; rw [if_pos (by omega)] at h9; exact h9) | (have h9 := hq y1 y2 r1 r2 e1 e2 h2; rw [if_neg (by omega)] at h9; exact h9)
    · refine r_aln eRe_readSpot_92 rfl ?_
      refine m_getR eRe_readSpot_93 rfl (cl_t hX (i := 1) rfl) (cl_p hX (i := 12) rfl) ?_
      refine m_getR eRe_readSpot_96 rfl (cl_t hX (i := 3) rfl) (cl_p hX (i := 16) rfl) ?_
      refine r_iln eRe_readSpot_99 rfl ?_
      refine r_iln eRe_readSpot_100 rfl ?_
      refine r_iast eRe_readSpot_101 (cl_t hX (i := 6) rfl) (by decide) (by omega) (by omega) (cl_e hX 6) ?_
      rw [re_up (by omega)]
      refine r_aln eRe_readSpot_102 rfl ?_
      refine m_getR eRe_readSpot_103 rfl (cl_t hX (i := 1) rfl) (cl_p hX (i := 12) rfl) ?_
      refine m_getR eRe_readSpot_106 rfl (cl_t hX (i := 3) rfl) (cl_p hX (i := 17) rfl) ?_
      refine r_iln eRe_readSpot_109 rfl ?_
      refine r_iln eRe_readSpot_110 rfl ?_
      refine r_iast eRe_readSpot_111 (cl_t hX (i := 7) rfl) (by decide) (by omega) (by omega) (cl_e hX 7) ?_
      rw [re_up (by omega)]
      refine r_aln eRe_readSpot_112 rfl ?_
      refine m_getR eRe_readSpot_113 rfl (cl_t hX (i := 1) rfl) (cl_p hX (i := 12) rfl) ?_
      refine m_getR eRe_readSpot_116 rfl (cl_t hX (i := 3) rfl) (cl_p hX (i := 18) rfl) ?_
      refine r_iln eRe_readSpot_119 rfl ?_
      refine r_il eRe_readSpot_120 rfl ?_
      refine r_iast eRe_readSpot_122 (cl_t hX (i := 8) rfl) (by decide) (by omega) (by omega) (cl_e hX 8) ?_
      rw [re_up (by omega)]
      refine r_ret eRe_readSpot_123 rfl ?_
      first | (exfalso; omega) | (have h9 := hq y1 y2 r1 r2 e1 e2 h2; rw [if_pos (by omega)] at h9; exact h9) | (have h9 := hq y1 y2 r1 r2 e1 e2 h2; rw [if_neg (by omega)] at h9; exact h9)
theorem c_Re_readSpot (hX : cl_sh en X T P) (hok : re_ok en T J X) (hy : re_yb (J (X + 1) 6) y) (ha : 0 ≤ a ∧ a ≤ 16) (hq : ∀ J' y', rl_spot J X a y J' y' → re_yb (J (X + 1) 6) y' → Q none (T, m_I (re_q J' X y'.1 y'.2.1 y'.2.2.1 y'.2.2.2.1 y'.2.2.2.2.1 y'.2.2.2.2.2), P, L, z, w)) : m_call en (d + 5) mRe_readSpot [.ref (X + 1), .int (m_i a)] (T, m_I (re_q J X y.1 y.2.1 y.2.2.1 y.2.2.2.1 y.2.2.2.2.1 y.2.2.2.2.2), P, L, z, w) Q := by
  have hok0 := hok
  obtain ⟨hf, pok, hW, hst, ht, hwt, hss⟩ := hok0
  refine m_into (by decide) (Nat.le_of_ble_eq_true rfl) rfl ?_
  show m_wp en _ mRe_readSpot 0 [some (.ref (X + 1)), some (.int (m_i (a))), none, none, none] [] (T, m_I ((re_q J X y.1 y.2.1 y.2.2.1 y.2.2.2.1 y.2.2.2.2.1 y.2.2.2.2.2)), P, L, z, w) Q
  refine r_aln eRe_readSpot_0 rfl ?_
  refine r_vir eRe_readSpot_1 rfl rfl rfl (cl_t hX (i := 1) rfl) rfl rfl ?_
  -- call of Re_nextToken at 1: [(.ref (X + 1))]
  refine c_Re_nextToken hX hf hy (fun y1 e1 h1 => ?_)
  have b1 := h1.2.2.2.1
  have hv1 := h1.2.2.2.2.1
  obtain ⟨wn, ewn⟩ : ∃ wn, wn = re_wn (J (X + 16)) y1 := ⟨_, rfl⟩
  have hwn := re_wn_b (W := J (X + 16)) (y := y1)
  rw [← ewn] at hwn
  obtain ⟨sn, esn0⟩ : ∃ sn, sn = a_find (J (X + 6)) y1.2.2.2.2.2 0 (J (X + 15) 5).toNat 0 := ⟨_, rfl⟩
  have hsn : -1 ≤ sn ∧ sn < 100 := by
    have k5 : 0 ≤ J (X + 15) 5 ∧ J (X + 15) 5 ≤ 6 := pok.2.2.2.2.1
    have := a_find_b (g := J (X + 6)) (v := y1.2.2.2.2.2) (o := 0) (J (X + 15) 5).toNat 0
    rw [esn0]
    omega
  have pok1 : pl_ok (re_q J X y1.1 y1.2.1 y1.2.2.1 y1.2.2.2.1 y1.2.2.2.2.1 y1.2.2.2.2.2) (X + 3) := pl_ok_e pok (fun b i q1 q2 => re_q_o (by omega))
  have esn : a_find (re_q J X y1.1 y1.2.1 y1.2.2.1 y1.2.2.2.1 y1.2.2.2.2.1 y1.2.2.2.2.2 (X + 3 + 3)) y1.2.2.2.2.2 0 (re_q J X y1.1 y1.2.1 y1.2.2.1 y1.2.2.2.1 y1.2.2.2.2.1 y1.2.2.2.2.2 (X + 3 + 12) 5).toNat 0 = sn := by
    have q1 : re_q J X y1.1 y1.2.1 y1.2.2.1 y1.2.2.2.1 y1.2.2.2.2.1 y1.2.2.2.2.2 (X + 3 + 3) = J (X + 6) := funext (fun i => re_q_o (by omega))
    have q2 : re_q J X y1.1 y1.2.1 y1.2.2.1 y1.2.2.2.1 y1.2.2.2.2.1 y1.2.2.2.2.2 (X + 3 + 12) 5 = J (X + 15) 5 := re_q_o (by omega)
    rw [q1, q2, esn0]
  have hfin : ∀ y2, y2 = (if y1.2.2.2.2.1 ≠ 1 ∨ wn ≠ -1 then re_rf 1 y1 else if sn ≠ -1 then re_rf 3 y1 else y1) → re_yb (J (X + 1) 6) y2 → m_wp en (d + 4) mRe_readSpot 48 [some (.ref (X + 1)), some (.int (m_i a)), none, none, none] [] (T, m_I (re_q J X y2.1 y2.2.1 y2.2.2.1 y2.2.2.2.1 y2.2.2.2.2.1 y2.2.2.2.2.2), P, L, z, w) Q := fun y2 e2 h2 => l48_Re_readSpot hX hok h2 ha (fun y3 y' r1 r2 q1 q2 q3 => hq _ y' ⟨r1, r2, y1, y2, y3, e1, by rw [← ewn, ← esn0]; exact e2, q1, q2, rfl⟩ q3)
  show m_wp en _ mRe_readSpot 4 [some (.ref (X + 1)), some (.int (m_i (a))), none, none, none] [] (T, m_I ((re_q J X y1.1 y1.2.1 y1.2.2.1 y1.2.2.2.1 y1.2.2.2.2.1 y1.2.2.2.2.2)), P, L, z, w) Q
  refine r_aln eRe_readSpot_4 rfl ?_
  refine r_gete (x := y1.2.2.2.2.1) eRe_readSpot_5 rfl (by decide) (cl_t hX (i := 1) rfl) (by rw [re_q_9]) ?_
  refine r_con eRe_readSpot_8 ?_
  refine r_cne (tgt := 20) eRe_readSpot_9 rfl ⟨(by omega), (by omega)⟩ ⟨(by omega), (by omega)⟩ (fun c9 => ?_) (fun c9 => ?_)
  · refine r_aln eRe_readSpot_20 rfl ?_
    refine r_con eRe_readSpot_21 ?_
    refine r_vir eRe_readSpot_22 rfl rfl rfl (cl_t hX (i := 1) rfl) rfl rfl ?_
    refine c_rf hX h1 (by omega) (fun y2 e2 h2 h3 => ?_)
    show m_wp en _ mRe_readSpot 25 [some (.ref (X + 1)), some (.int (m_i (a))), none, none, none] [] (T, m_I (((re_q J X y2.1 y2.2.1 y2.2.2.1 y2.2.2.2.1 y2.2.2.2.2.1 y2.2.2.2.2.2))), P, L, z, w) Q
    refine r_go (tgt := 48) eRe_readSpot_25 rfl ?_
    first | exact hfin y2 (by rw [if_pos (by omega)]; exact e2) h2 | exact hfin y2 (by rw [if_neg (by omega), if_pos (by omega)]; exact e2) h2 | exact hfin y1 (by rw [if_neg (by omega), if_neg (by omega)]) h1
  · refine r_aln eRe_readSpot_12 rfl ?_
    refine r_vir eRe_readSpot_13 rfl rfl rfl (cl_t hX (i := 1) rfl) rfl rfl ?_
    refine c_Re_wordNumber hX hW h1 ?_
    rw [← ewn]
    show m_wp en _ mRe_readSpot 16 [some (.ref (X + 1)), some (.int (m_i (a))), none, none, none] [(.int (m_i (wn)))] (T, m_I ((((re_q J X y1.1 y1.2.1 y1.2.2.1 y1.2.2.2.1 y1.2.2.2.2.1 y1.2.2.2.2.2)))), P, L, z, w) Q
    refine r_con eRe_readSpot_16 ?_
    refine r_ceq (tgt := 28) eRe_readSpot_17 rfl ⟨(by omega), (by omega)⟩ ⟨(by omega), (by omega)⟩ (fun c17 => ?_) (fun c17 => ?_)
    · refine r_aln eRe_readSpot_28 rfl ?_
      refine m_getR eRe_readSpot_29 rfl (cl_t hX (i := 1) rfl) (cl_p hX (i := 12) rfl) ?_
      refine r_aln eRe_readSpot_32 rfl ?_
      refine r_gete (x := y1.2.2.2.2.2) eRe_readSpot_33 rfl (by decide) (cl_t hX (i := 1) rfl) (by rw [re_q_10]) ?_
      refine r_vir eRe_readSpot_36 rfl rfl rfl (cl_t hX (i := 3) rfl) rfl rfl ?_
      refine c_Pl_spotNamed (cl_draft hX) pok1 hv1 ?_
      rw [esn]
      show m_wp en _ mRe_readSpot 39 [some (.ref (X + 1)), some (.int (m_i (a))), none, none, none] [(.int (m_i (sn)))] (T, m_I ((((((re_q J X y1.1 y1.2.1 y1.2.2.1 y1.2.2.2.1 y1.2.2.2.2.1 y1.2.2.2.2.2)))))), P, L, z, w) Q
      refine r_con eRe_readSpot_39 ?_
      refine r_ceq (tgt := 48) eRe_readSpot_40 rfl ⟨(by omega), (by omega)⟩ ⟨(by omega), (by omega)⟩ (fun c40 => ?_) (fun c40 => ?_)
      · first | exact hfin y2 (by rw [if_pos (by omega)]; exact e2) h2 | exact hfin y2 (by rw [if_neg (by omega), if_pos (by omega)]; exact e2) h2 | exact hfin y1 (by rw [if_neg (by omega), if_neg (by omega)]) h1
      · refine r_aln eRe_readSpot_43 rfl ?_
        refine r_con eRe_readSpot_44 ?_
        refine r_vir eRe_readSpot_45 rfl rfl rfl (cl_t hX (i := 1) rfl) rfl rfl ?_
        refine c_rf hX h1 (by omega) (fun y2 e2 h2 h3 => ?_)
        show m_wp en _ mRe_readSpot 48 [some (.ref (X + 1)), some (.int (m_i (a))), none, none, none] [] (T, m_I (((re_q J X y2.1 y2.2.1 y2.2.2.1 y2.2.2.2.1 y2.2.2.2.2.1 y2.2.2.2.2.2))), P, L, z, w) Q
        first | exact hfin y2 (by rw [if_pos (by omega)]; exact e2) h2 | exact hfin y2 (by rw [if_neg (by omega), if_pos (by omega)]; exact e2) h2 | exact hfin y1 (by rw [if_neg (by omega), if_neg (by omega)]) h1
    · refine r_aln eRe_readSpot_20 rfl ?_
      refine r_con eRe_readSpot_21 ?_
      refine r_vir eRe_readSpot_22 rfl rfl rfl (cl_t hX (i := 1) rfl) rfl rfl ?_
      refine c_rf hX h1 (by omega) (fun y2 e2 h2 h3 => ?_)
      show m_wp en _ mRe_readSpot 25 [some (.ref (X + 1)), some (.int (m_i (a))), none, none, none] [] (T, m_I (((re_q J X y2.1 y2.2.1 y2.2.2.1 y2.2.2.2.1 y2.2.2.2.2.1 y2.2.2.2.2.2))), P, L, z, w) Q
      refine r_go (tgt := 48) eRe_readSpot_25 rfl ?_
      first | exact hfin y2 (by rw [if_pos (by omega)]; exact e2) h2 | exact hfin y2 (by rw [if_neg (by omega), if_pos (by omega)]; exact e2) h2 | exact hfin y1 (by rw [if_neg (by omega), if_neg (by omega)]) h1
theorem c_Re_readWind (hX : cl_sh en X T P) (hok : re_ok en T J X) (hy : re_yb (J (X + 1) 6) y) (ha : 0 ≤ a ∧ a ≤ 16) (hq : ∀ J' y', rl_wind J X a y J' y' → re_yb (J (X + 1) 6) y' → Q none (T, m_I (re_q J' X y'.1 y'.2.1 y'.2.2.1 y'.2.2.2.1 y'.2.2.2.2.1 y'.2.2.2.2.2), P, L, z, w)) : m_call en (d + 5) mRe_readWind [.ref (X + 1), .int (m_i a)] (T, m_I (re_q J X y.1 y.2.1 y.2.2.1 y.2.2.2.1 y.2.2.2.2.1 y.2.2.2.2.2), P, L, z, w) Q := by
  obtain ⟨hf, pok, hW, hst, ht, hwt, hss⟩ := hok
  obtain ⟨lo, elo⟩ : ∃ lo, lo = (if 0 < a ∧ a ≤ 8 then J (X + 9) (a - 1).toNat + 1 else 0) := ⟨_, rfl⟩
  have hlo : 0 ≤ lo ∧ lo ≤ 100001 := by
    rw [elo]
    split
    · have := hwt (a - 1).toNat (by omega); omega
    · omega
  have hwa : (0 < a ∧ a ≤ 8) → 0 ≤ J (X + 9) (a - 1).toNat ∧ J (X + 9) (a - 1).toNat ≤ 100000 := fun q => by have := hwt (a - 1).toNat (by omega); omega
  have h27 : m_wp en (d + 4) mRe_readWind 27 [some (.ref (X + 1)), some (.int (m_i a)), none, none, none] [.int (m_i lo)] (T, m_I (re_q J X y.1 y.2.1 y.2.2.1 y.2.2.2.1 y.2.2.2.2.1 y.2.2.2.2.2), P, L, z, w) Q := by
    refine r_isn (ls' := [some (.ref (X + 1)), some (.int (m_i (a))), some (.int (m_i (lo))), none, none]) eRe_readWind_27 (Nat.le_of_ble_eq_true rfl) rfl ?_
    refine r_aln eRe_readWind_28 rfl ?_
    refine r_iln eRe_readWind_29 rfl ?_
    refine r_sip eRe_readWind_30 (by decide) ?_
    refine r_vir eRe_readWind_33 rfl rfl rfl (cl_t hX (i := 1) rfl) rfl rfl ?_
    -- call of Re_number at 33: [(.ref (X + 1)), (.int (m_i (lo))), (.int (m_i (999)))]
    refine c_Re_number hX hf hy (by omega) (by omega) (fun y1 r1 e1 h1 b1 => ?_)
    show m_wp en _ mRe_readWind 36 [some (.ref (X + 1)), some (.int (m_i (a))), some (.int (m_i (lo))), none, none] [(.int (m_i (r1)))] (T, m_I ((re_q J X y1.1 y1.2.1 y1.2.2.1 y1.2.2.2.1 y1.2.2.2.2.1 y1.2.2.2.2.2)), P, L, z, w) Q
    refine r_isn (ls' := [some (.ref (X + 1)), some (.int (m_i (a))), some (.int (m_i (lo))), some (.int (m_i (r1))), none]) eRe_readWind_36 (Nat.le_of_ble_eq_true rfl) rfl ?_
    refine r_aln eRe_readWind_37 rfl ?_
    refine r_vir eRe_readWind_38 rfl rfl rfl (cl_t hX (i := 1) rfl) rfl rfl ?_
    -- call of Re_signedNumber at 38: [(.ref (X + 1))]
    refine c_Re_signedNumber hX hf h1 (fun y2 r2 e2 h2 b2 => ?_)
    show m_wp en _ mRe_readWind 41 [some (.ref (X + 1)), some (.int (m_i (a))), some (.int (m_i (lo))), some (.int (m_i (r1))), none] [(.int (m_i (r2)))] (T, m_I ((re_q J X y2.1 y2.2.1 y2.2.2.1 y2.2.2.2.1 y2.2.2.2.2.1 y2.2.2.2.2.2)), P, L, z, w) Q
    refine r_is (ls' := [some (.ref (X + 1)), some (.int (m_i (a))), some (.int (m_i (lo))), some (.int (m_i (r1))), some (.int (m_i (r2)))]) eRe_readWind_41 (Nat.le_of_ble_eq_true rfl) rfl ?_
    refine r_iln eRe_readWind_43 rfl ?_
    refine r_zlt (tgt := 74) eRe_readWind_44 rfl ⟨(by omega), (by omega)⟩ (fun c44 => ?_) (fun c44 => ?_)
    · refine r_ret eRe_readWind_74 rfl ?_
      first | (exfalso; omega) | (have h9 := hq _ y2 ⟨r1, r2, y1, by rw [← elo]; exact e1, e2, rfl⟩ h2; rw [if_pos (by omega)] at h9; exact h9) | (have h9 := hq _ y2 ⟨r1, r2, y1, by rw [← elo]; exact e1, e2, rfl⟩ h2; rw [if_neg (by omega)] at h9; exact h9)
    · refine r_iln eRe_readWind_47 rfl ?_
      refine r_bip eRe_readWind_48 (by decide) ?_
      refine r_cge (tgt := 74) eRe_readWind_50 rfl ⟨(by omega), (by omega)⟩ ⟨(by omega), (by omega)⟩ (fun c50 => ?_) (fun c50 => ?_)
      · refine r_ret eRe_readWind_74 rfl ?_
        first | (exfalso; omega) | (have h9 := hq _ y2 ⟨r1, r2, y1, by rw [← elo]; exact e1, e2, rfl⟩ h2; rw [if_pos (by omega)] at h9; exact h9) | (have h9 := hq _ y2 ⟨r1, r2, y1, by rw [← elo]; exact e1, e2, rfl⟩ h2; rw [if_neg (by omega)] at h9; exact h9)
      · refine r_aln eRe_readWind_53 rfl ?_
        refine m_getR eRe_readWind_54 rfl (cl_t hX (i := 1) rfl) (cl_p hX (i := 12) rfl) ?_
        refine m_getR eRe_readWind_57 rfl (cl_t hX (i := 3) rfl) (cl_p hX (i := 19) rfl) ?_
        refine r_iln eRe_readWind_60 rfl ?_
        refine r_iln eRe_readWind_61 rfl ?_
        refine r_iast eRe_readWind_62 (cl_t hX (i := 9) rfl) (by decide) (by omega) (by omega) (cl_e hX 9) ?_
        rw [re_up (by omega)]
        refine r_aln eRe_readWind_63 rfl ?_
        refine m_getR eRe_readWind_64 rfl (cl_t hX (i := 1) rfl) (cl_p hX (i := 12) rfl) ?_
        refine m_getR eRe_readWind_67 rfl (cl_t hX (i := 3) rfl) (cl_p hX (i := 20) rfl) ?_
        refine r_iln eRe_readWind_70 rfl ?_
        refine r_il eRe_readWind_71 rfl ?_
        refine r_iast eRe_readWind_73 (cl_t hX (i := 10) rfl) (by decide) (by omega) (by omega) (cl_e hX 10) ?_
        rw [re_up (by omega)]
        refine r_ret eRe_readWind_74 rfl ?_
        first | (exfalso; omega) | (have h9 := hq _ y2 ⟨r1, r2, y1, by rw [← elo]; exact e1, e2, rfl⟩ h2; rw [if_pos (by omega)] at h9; exact h9) | (have h9 := hq _ y2 ⟨r1, r2, y1, by rw [← elo]; exact e1, e2, rfl⟩ h2; rw [if_neg (by omega)] at h9; exact h9)
  refine m_into (by decide) (Nat.le_of_ble_eq_true rfl) rfl ?_
  show m_wp en _ mRe_readWind 0 [some (.ref (X + 1)), some (.int (m_i (a))), none, none, none] [] (T, m_I ((re_q J X y.1 y.2.1 y.2.2.1 y.2.2.2.1 y.2.2.2.2.1 y.2.2.2.2.2)), P, L, z, w) Q
  refine r_iln eRe_readWind_0 rfl ?_
  refine r_zle (tgt := 26) eRe_readWind_1 rfl ⟨(by omega), (by omega)⟩ (fun c1 => ?_) (fun c1 => ?_)
  · refine r_con eRe_readWind_26 ?_
    first | (rw [if_pos (by omega)] at elo; rw [elo] at h27; exact h27) | (rw [if_neg (by omega)] at elo; rw [elo] at h27; exact h27)
  · refine r_iln eRe_readWind_4 rfl ?_
    refine r_bip eRe_readWind_5 (by decide) ?_
    refine r_cgt (tgt := 26) eRe_readWind_7 rfl ⟨(by omega), (by omega)⟩ ⟨(by omega), (by omega)⟩ (fun c7 => ?_) (fun c7 => ?_)
    · refine r_con eRe_readWind_26 ?_
      first | (rw [if_pos (by omega)] at elo; rw [elo] at h27; exact h27) | (rw [if_neg (by omega)] at elo; rw [elo] at h27; exact h27)
    · refine r_aln eRe_readWind_10 rfl ?_
      refine m_getR eRe_readWind_11 rfl (cl_t hX (i := 1) rfl) (cl_p hX (i := 12) rfl) ?_
      refine m_getR eRe_readWind_14 rfl (cl_t hX (i := 3) rfl) (cl_p hX (i := 19) rfl) ?_
      refine r_iln eRe_readWind_17 rfl ?_
      refine r_con eRe_readWind_18 ?_
      refine r_sub eRe_readWind_19 ?_
      refine r_ialde (x := J (X + 9) (((a) - (1)).toNat)) eRe_readWind_20 (cl_t hX (i := 9) rfl) (by decide) (by omega) (by omega) (by rw [re_q_o (by omega)]) ?_
      refine r_con eRe_readWind_21 ?_
      refine r_add eRe_readWind_22 ?_
      refine r_go (tgt := 27) eRe_readWind_23 rfl ?_
      first | (rw [if_pos (by omega)] at elo; rw [elo] at h27; exact h27) | (rw [if_neg (by omega)] at elo; rw [elo] at h27; exact h27)
theorem c_Re_readOrder (hX : cl_sh en X T P) (hok : re_ok en T J X) (hy : re_yb (J (X + 1) 6) y) (ha : 0 ≤ a ∧ a ≤ 16) (hq : ∀ J' y', rl_order J X a y J' y' → re_yb (J (X + 1) 6) y' → Q none (T, m_I (re_q J' X y'.1 y'.2.1 y'.2.2.1 y'.2.2.2.1 y'.2.2.2.2.1 y'.2.2.2.2.2), P, L, z, w)) : m_call en (d + 5) mRe_readOrder [.ref (X + 1), .int (m_i a)] (T, m_I (re_q J X y.1 y.2.1 y.2.2.1 y.2.2.2.1 y.2.2.2.2.1 y.2.2.2.2.2), P, L, z, w) Q := by
  obtain ⟨hf, pok, hW, hst, ht, hwt, hss⟩ := hok
  refine m_into (by decide) (Nat.le_of_ble_eq_true rfl) rfl ?_
  show m_wp en _ mRe_readOrder 0 [some (.ref (X + 1)), some (.int (m_i (a))), none, none] [] (T, m_I ((re_q J X y.1 y.2.1 y.2.2.1 y.2.2.2.1 y.2.2.2.2.1 y.2.2.2.2.2)), P, L, z, w) Q
  refine r_aln eRe_readOrder_0 rfl ?_
  refine r_vir eRe_readOrder_1 rfl rfl rfl (cl_t hX (i := 1) rfl) rfl rfl ?_
  -- call of Re_nextToken at 1: [(.ref (X + 1))]
  refine c_Re_nextToken hX hf hy (fun y1 e1 h1 => ?_)
  obtain ⟨wn, ewn⟩ : ∃ wn, wn = re_wn (J (X + 16)) y1 := ⟨_, rfl⟩
  have hwn := re_wn_b (W := J (X + 16)) (y := y1)
  rw [← ewn] at hwn
  have hfin : ∀ y2, y2 = (if wn < 12 then re_rf 1 y1 else y1) → re_yb (J (X + 1) 6) y2 → m_wp en (d + 4) mRe_readOrder 20 [some (.ref (X + 1)), some (.int (m_i a)), some (.int (m_i wn)), none] [] (T, m_I (re_q J X y2.1 y2.2.1 y2.2.2.1 y2.2.2.2.1 y2.2.2.2.2.1 y2.2.2.2.2.2), P, L, z, w) Q := fun y2 e2 h2 => by
    refine r_aln eRe_readOrder_20 rfl ?_
    refine r_con eRe_readOrder_21 ?_
    refine r_bip eRe_readOrder_22 (by decide) ?_
    refine r_vir eRe_readOrder_24 rfl rfl rfl (cl_t hX (i := 1) rfl) rfl rfl ?_
    -- call of Re_number at 24: [(.ref (X + 1)), (.int (m_i (1))), (.int (m_i (30)))]
    refine c_Re_number hX hf h2 (by omega) (by omega) (fun y3 r3 e3 h3 b3 => ?_)
    show m_wp en _ mRe_readOrder 27 [some (.ref (X + 1)), some (.int (m_i (a))), some (.int (m_i (wn))), none] [(.int (m_i (r3)))] (T, m_I ((re_q J X y3.1 y3.2.1 y3.2.2.1 y3.2.2.2.1 y3.2.2.2.2.1 y3.2.2.2.2.2)), P, L, z, w) Q
    refine r_isn (ls' := [some (.ref (X + 1)), some (.int (m_i (a))), some (.int (m_i (wn))), some (.int (m_i (r3)))]) eRe_readOrder_27 (Nat.le_of_ble_eq_true rfl) rfl ?_
    refine r_iln eRe_readOrder_28 rfl ?_
    refine r_zlt (tgt := 58) eRe_readOrder_29 rfl ⟨(by omega), (by omega)⟩ (fun c29 => ?_) (fun c29 => ?_)
    · refine r_ret eRe_readOrder_58 rfl ?_
      first | (exfalso; omega) | (have h9 := hq _ y3 ⟨r3, y1, y2, e1, by rw [← ewn]; exact e2, e3, rfl⟩ h3; rw [if_pos (by omega), ← ewn] at h9; exact h9) | (have h9 := hq _ y3 ⟨r3, y1, y2, e1, by rw [← ewn]; exact e2, e3, rfl⟩ h3; rw [if_neg (by omega)] at h9; exact h9)
    · refine r_iln eRe_readOrder_32 rfl ?_
      refine r_bip eRe_readOrder_33 (by decide) ?_
      refine r_cge (tgt := 58) eRe_readOrder_35 rfl ⟨(by omega), (by omega)⟩ ⟨(by omega), (by omega)⟩ (fun c35 => ?_) (fun c35 => ?_)
      · refine r_ret eRe_readOrder_58 rfl ?_
        first | (exfalso; omega) | (have h9 := hq _ y3 ⟨r3, y1, y2, e1, by rw [← ewn]; exact e2, e3, rfl⟩ h3; rw [if_pos (by omega), ← ewn] at h9; exact h9) | (have h9 := hq _ y3 ⟨r3, y1, y2, e1, by rw [← ewn]; exact e2, e3, rfl⟩ h3; rw [if_neg (by omega)] at h9; exact h9)
      · refine r_aln eRe_readOrder_38 rfl ?_
        refine m_getR eRe_readOrder_39 rfl (cl_t hX (i := 1) rfl) (cl_p hX (i := 12) rfl) ?_
        refine m_getR eRe_readOrder_42 rfl (cl_t hX (i := 3) rfl) (cl_p hX (i := 21) rfl) ?_
        refine r_iln eRe_readOrder_45 rfl ?_
        refine r_iln eRe_readOrder_46 rfl ?_
        refine r_iast eRe_readOrder_47 (cl_t hX (i := 11) rfl) (by decide) (by omega) (by omega) (cl_e hX 11) ?_
        rw [re_up (by omega)]
        refine r_aln eRe_readOrder_48 rfl ?_
        refine m_getR eRe_readOrder_49 rfl (cl_t hX (i := 1) rfl) (cl_p hX (i := 12) rfl) ?_
        refine m_getR eRe_readOrder_52 rfl (cl_t hX (i := 3) rfl) (cl_p hX (i := 22) rfl) ?_
        refine r_iln eRe_readOrder_55 rfl ?_
        refine r_iln eRe_readOrder_56 rfl ?_
        refine r_iast eRe_readOrder_57 (cl_t hX (i := 12) rfl) (by decide) (by omega) (by omega) (cl_e hX 12) ?_
        rw [re_up (by omega)]
        refine r_ret eRe_readOrder_58 rfl ?_
        first | (exfalso; omega) | (have h9 := hq _ y3 ⟨r3, y1, y2, e1, by rw [← ewn]; exact e2, e3, rfl⟩ h3; rw [if_pos (by omega), ← ewn] at h9; exact h9) | (have h9 := hq _ y3 ⟨r3, y1, y2, e1, by rw [← ewn]; exact e2, e3, rfl⟩ h3; rw [if_neg (by omega)] at h9; exact h9)
  show m_wp en _ mRe_readOrder 4 [some (.ref (X + 1)), some (.int (m_i (a))), none, none] [] (T, m_I ((re_q J X y1.1 y1.2.1 y1.2.2.1 y1.2.2.2.1 y1.2.2.2.2.1 y1.2.2.2.2.2)), P, L, z, w) Q
  refine r_aln eRe_readOrder_4 rfl ?_
  refine r_vir eRe_readOrder_5 rfl rfl rfl (cl_t hX (i := 1) rfl) rfl rfl ?_
  refine c_Re_wordNumber hX hW h1 ?_
  rw [← ewn]
  show m_wp en _ mRe_readOrder 8 [some (.ref (X + 1)), some (.int (m_i (a))), none, none] [(.int (m_i (wn)))] (T, m_I ((((re_q J X y1.1 y1.2.1 y1.2.2.1 y1.2.2.2.1 y1.2.2.2.2.1 y1.2.2.2.2.2)))), P, L, z, w) Q
  refine r_isn (ls' := [some (.ref (X + 1)), some (.int (m_i (a))), some (.int (m_i (wn))), none]) eRe_readOrder_8 (Nat.le_of_ble_eq_true rfl) rfl ?_
  refine r_iln eRe_readOrder_9 rfl ?_
  refine r_bip eRe_readOrder_10 (by decide) ?_
  refine r_cge (tgt := 20) eRe_readOrder_12 rfl ⟨(by omega), (by omega)⟩ ⟨(by omega), (by omega)⟩ (fun c12 => ?_) (fun c12 => ?_)
  · first | exact hfin y2 (by rw [if_pos (by omega)]; exact e2) h2 | exact hfin y1 (by rw [if_neg (by omega)]) h1
  · refine r_aln eRe_readOrder_15 rfl ?_
    refine r_con eRe_readOrder_16 ?_
    refine r_vir eRe_readOrder_17 rfl rfl rfl (cl_t hX (i := 1) rfl) rfl rfl ?_
    refine c_rf hX h1 (by omega) (fun y2 e2 h2 h3 => ?_)
    show m_wp en _ mRe_readOrder 20 [some (.ref (X + 1)), some (.int (m_i (a))), some (.int (m_i (wn))), none] [] (T, m_I (((re_q J X y2.1 y2.2.1 y2.2.2.1 y2.2.2.2.1 y2.2.2.2.2.1 y2.2.2.2.2.2))), P, L, z, w) Q
    first | exact hfin y2 (by rw [if_pos (by omega)]; exact e2) h2 | exact hfin y1 (by rw [if_neg (by omega)]) h1
theorem c_Re_readPile (hX : cl_sh en X T P) (hok : re_ok en T J X) (hy : re_yb (J (X + 1) 6) y) (hq : ∀ J' y', rl_pile J X y J' y' → re_yb (J (X + 1) 6) y' → Q none (T, m_I (re_q J' X y'.1 y'.2.1 y'.2.2.1 y'.2.2.2.1 y'.2.2.2.2.1 y'.2.2.2.2.2), P, L, z, w)) : m_call en (d + 5) mRe_readPile [.ref (X + 1)] (T, m_I (re_q J X y.1 y.2.1 y.2.2.1 y.2.2.2.1 y.2.2.2.2.1 y.2.2.2.2.2), P, L, z, w) Q := by
  obtain ⟨hf, pok, hW, hst, ht, hwt, hss⟩ := hok
  have k0 := pok.1
  have k1 := pok.2.1
  refine m_into (by decide) (Nat.le_of_ble_eq_true rfl) rfl ?_
  show m_wp en _ mRe_readPile 0 [some (.ref (X + 1)), none] [] (T, m_I ((re_q J X y.1 y.2.1 y.2.2.1 y.2.2.2.1 y.2.2.2.2.1 y.2.2.2.2.2)), P, L, z, w) Q
  refine r_aln eRe_readPile_0 rfl ?_
  refine r_con eRe_readPile_1 ?_
  refine r_aln eRe_readPile_2 rfl ?_
  refine m_getR eRe_readPile_3 rfl (cl_t hX (i := 1) rfl) (cl_p hX (i := 12) rfl) ?_
  refine r_gete (x := J (X + 3) 0) eRe_readPile_6 rfl (by decide) (cl_t hX (i := 3) rfl) (by rw [re_q_o (by omega)]) ?_
  refine r_con eRe_readPile_9 ?_
  refine r_sub eRe_readPile_10 ?_
  refine r_vir eRe_readPile_11 rfl rfl rfl (cl_t hX (i := 1) rfl) rfl rfl ?_
  -- call of Re_number at 11: [(.ref (X + 1)), (.int (m_i (0))), (.int (m_i ((J (X + 3) 0) - (1))))]
  refine c_Re_number hX hf hy (by omega) (by omega) (fun y1 r1 e1 h1 b1 => ?_)
  have hp : 0 ≤ J (X + 5) r1.toNat ∧ J (X + 5) r1.toNat ≤ 6 := (pok.2.2.2.2.2.2.2.2.1 r1.toNat (by omega)).2
  have hfin : ∀ y2, y2 = (if 0 < J (X + 5) r1.toNat then re_rf 3 y1 else y1) → re_yb (J (X + 1) 6) y2 → m_wp en (d + 4) mRe_readPile 49 [some (.ref (X + 1)), some (.int (m_i r1))] [] (T, m_I (re_q J X y2.1 y2.2.1 y2.2.2.1 y2.2.2.2.1 y2.2.2.2.2.1 y2.2.2.2.2.2), P, L, z, w) Q := fun y2 e2 h2 => by
    refine r_aln eRe_readPile_49 rfl ?_
    refine m_getR eRe_readPile_50 rfl (cl_t hX (i := 1) rfl) (cl_p hX (i := 12) rfl) ?_
    refine m_getR eRe_readPile_53 rfl (cl_t hX (i := 3) rfl) (cl_p hX (i := 15) rfl) ?_
    refine r_iln eRe_readPile_56 rfl ?_
    refine r_aln eRe_readPile_57 rfl ?_
    refine r_con eRe_readPile_58 ?_
    refine r_aln eRe_readPile_59 rfl ?_
    refine m_getR eRe_readPile_60 rfl (cl_t hX (i := 1) rfl) (cl_p hX (i := 12) rfl) ?_
    refine r_gete (x := J (X + 3) 1) eRe_readPile_63 rfl (by decide) (cl_t hX (i := 3) rfl) (by rw [re_q_o (by omega)]) ?_
    refine r_vir eRe_readPile_66 rfl rfl rfl (cl_t hX (i := 1) rfl) rfl rfl ?_
    -- call of Re_number at 66: [(.ref (X + 1)), (.int (m_i (1))), (.int (m_i (J (X + 3) 1)))]
    refine c_Re_number hX hf h2 (by omega) (by omega) (fun y3 r3 e3 h3 b3 => ?_)
    show m_wp en _ mRe_readPile 69 [some (.ref (X + 1)), some (.int (m_i (r1)))] [(.int (m_i (r3))), (.int (m_i (r1))), (.ref (X + 5))] (T, m_I ((re_q J X y3.1 y3.2.1 y3.2.2.1 y3.2.2.2.1 y3.2.2.2.2.1 y3.2.2.2.2.2)), P, L, z, w) Q
    refine r_iast eRe_readPile_69 (cl_t hX (i := 5) rfl) (by decide) (by omega) (by omega) (cl_e hX 5) ?_
    rw [re_up (by omega)]
    refine r_ret eRe_readPile_70 rfl ?_
    exact hq _ y3 ⟨r1, r3, y1, y2, e1, e2, e3, rfl⟩ h3
  show m_wp en _ mRe_readPile 14 [some (.ref (X + 1)), none] [(.int (m_i (r1)))] (T, m_I ((re_q J X y1.1 y1.2.1 y1.2.2.1 y1.2.2.2.1 y1.2.2.2.2.1 y1.2.2.2.2.2)), P, L, z, w) Q
  refine r_isn (ls' := [some (.ref (X + 1)), some (.int (m_i (r1)))]) eRe_readPile_14 (Nat.le_of_ble_eq_true rfl) rfl ?_
  refine r_iln eRe_readPile_15 rfl ?_
  refine r_zlt (tgt := 31) eRe_readPile_16 rfl ⟨(by omega), (by omega)⟩ (fun c16 => ?_) (fun c16 => ?_)
  · refine r_ret eRe_readPile_31 rfl ?_
    exfalso; omega
  · refine r_iln eRe_readPile_19 rfl ?_
    refine r_aln eRe_readPile_20 rfl ?_
    refine m_getR eRe_readPile_21 rfl (cl_t hX (i := 1) rfl) (cl_p hX (i := 12) rfl) ?_
    refine m_getR eRe_readPile_24 rfl (cl_t hX (i := 3) rfl) (cl_p hX (i := 15) rfl) ?_
    refine r_alen eRe_readPile_27 (cl_t hX (i := 5) rfl) (by decide) ?_
    refine r_clt (tgt := 32) eRe_readPile_28 rfl ⟨(by omega), (by omega)⟩ ⟨(by omega), (by omega)⟩ (fun c28 => ?_) (fun c28 => ?_)
    · refine r_aln eRe_readPile_32 rfl ?_
      refine m_getR eRe_readPile_33 rfl (cl_t hX (i := 1) rfl) (cl_p hX (i := 12) rfl) ?_
      refine m_getR eRe_readPile_36 rfl (cl_t hX (i := 3) rfl) (cl_p hX (i := 15) rfl) ?_
      refine r_iln eRe_readPile_39 rfl ?_
      refine r_ialde (x := J (X + 5) ((r1).toNat)) eRe_readPile_40 (cl_t hX (i := 5) rfl) (by decide) (by omega) (by omega) (by rw [re_q_o (by omega)]) ?_
      refine r_zle (tgt := 49) eRe_readPile_41 rfl ⟨(by omega), (by omega)⟩ (fun c41 => ?_) (fun c41 => ?_)
      · first | exact hfin y2 (by rw [if_pos (by omega)]; exact e2) h2 | exact hfin y1 (by rw [if_neg (by omega)]) h1
      · refine r_aln eRe_readPile_44 rfl ?_
        refine r_con eRe_readPile_45 ?_
        refine r_vir eRe_readPile_46 rfl rfl rfl (cl_t hX (i := 1) rfl) rfl rfl ?_
        refine c_rf hX h1 (by omega) (fun y2 e2 h2 h3 => ?_)
        show m_wp en _ mRe_readPile 49 [some (.ref (X + 1)), some (.int (m_i (r1)))] [] (T, m_I (((re_q J X y2.1 y2.2.1 y2.2.2.1 y2.2.2.2.1 y2.2.2.2.2.1 y2.2.2.2.2.2))), P, L, z, w) Q
        first | exact hfin y2 (by rw [if_pos (by omega)]; exact e2) h2 | exact hfin y1 (by rw [if_neg (by omega)]) h1
    · refine r_ret eRe_readPile_31 rfl ?_
      exfalso; omega
theorem c_Re_readJob (hX : cl_sh en X T P) (hok : re_ok en T J X) (hy : re_yb (J (X + 1) 6) y) (ha : 0 ≤ a ∧ a ≤ 16) (hq : ∀ J' y', rl_job J X a y J' y' → re_yb (J (X + 1) 6) y' → Q none (T, m_I (re_q J' X y'.1 y'.2.1 y'.2.2.1 y'.2.2.2.1 y'.2.2.2.2.1 y'.2.2.2.2.2), P, L, z, w)) : m_call en (d + 5) mRe_readJob [.ref (X + 1), .int (m_i a)] (T, m_I (re_q J X y.1 y.2.1 y.2.2.1 y.2.2.2.1 y.2.2.2.2.1 y.2.2.2.2.2), P, L, z, w) Q := by
  obtain ⟨hf, pok, hW, hst, ht, hwt, hss⟩ := hok
  have k0 := pok.1
  refine m_into (by decide) (Nat.le_of_ble_eq_true rfl) rfl ?_
  show m_wp en _ mRe_readJob 0 [some (.ref (X + 1)), some (.int (m_i (a))), none, none] [] (T, m_I ((re_q J X y.1 y.2.1 y.2.2.1 y.2.2.2.1 y.2.2.2.2.1 y.2.2.2.2.2)), P, L, z, w) Q
  refine r_aln eRe_readJob_0 rfl ?_
  refine r_con eRe_readJob_1 ?_
  refine r_aln eRe_readJob_2 rfl ?_
  refine m_getR eRe_readJob_3 rfl (cl_t hX (i := 1) rfl) (cl_p hX (i := 12) rfl) ?_
  refine r_gete (x := J (X + 3) 0) eRe_readJob_6 rfl (by decide) (cl_t hX (i := 3) rfl) (by rw [re_q_o (by omega)]) ?_
  refine r_con eRe_readJob_9 ?_
  refine r_sub eRe_readJob_10 ?_
  refine r_vir eRe_readJob_11 rfl rfl rfl (cl_t hX (i := 1) rfl) rfl rfl ?_
  -- call of Re_number at 11: [(.ref (X + 1)), (.int (m_i (0))), (.int (m_i ((J (X + 3) 0) - (1))))]
  refine c_Re_number hX hf hy (by omega) (by omega) (fun y1 r1 e1 h1 b1 => ?_)
  show m_wp en _ mRe_readJob 14 [some (.ref (X + 1)), some (.int (m_i (a))), none, none] [(.int (m_i (r1)))] (T, m_I ((re_q J X y1.1 y1.2.1 y1.2.2.1 y1.2.2.2.1 y1.2.2.2.2.1 y1.2.2.2.2.2)), P, L, z, w) Q
  refine r_isn (ls' := [some (.ref (X + 1)), some (.int (m_i (a))), some (.int (m_i (r1))), none]) eRe_readJob_14 (Nat.le_of_ble_eq_true rfl) rfl ?_
  refine r_aln eRe_readJob_15 rfl ?_
  refine r_con eRe_readJob_16 ?_
  refine r_aln eRe_readJob_17 rfl ?_
  refine m_getR eRe_readJob_18 rfl (cl_t hX (i := 1) rfl) (cl_p hX (i := 12) rfl) ?_
  refine r_gete (x := J (X + 3) 0) eRe_readJob_21 rfl (by decide) (cl_t hX (i := 3) rfl) (by rw [re_q_o (by omega)]) ?_
  refine r_con eRe_readJob_24 ?_
  refine r_sub eRe_readJob_25 ?_
  refine r_vir eRe_readJob_26 rfl rfl rfl (cl_t hX (i := 1) rfl) rfl rfl ?_
  -- call of Re_number at 26: [(.ref (X + 1)), (.int (m_i (0))), (.int (m_i ((J (X + 3) 0) - (1))))]
  refine c_Re_number hX hf h1 (by omega) (by omega) (fun y2 r2 e2 h2 b2 => ?_)
  have hfin : ∀ y3, y3 = (if r2 = r1 then re_rf 2 y2 else y2) → re_yb (J (X + 1) 6) y3 → Q none (T, m_I (re_q (if a < 3 then m_up (m_up J (X + 13) a.toNat r1) (X + 14) a.toNat r2 else J) X y3.1 y3.2.1 y3.2.2.1 y3.2.2.2.1 y3.2.2.2.2.1 y3.2.2.2.2.2), P, L, z, w) := fun y3 e3 h3 => hq _ y3 ⟨r1, r2, y1, y2, e1, e2, e3, rfl⟩ h3
  show m_wp en _ mRe_readJob 29 [some (.ref (X + 1)), some (.int (m_i (a))), some (.int (m_i (r1))), none] [(.int (m_i (r2)))] (T, m_I ((re_q J X y2.1 y2.2.1 y2.2.2.1 y2.2.2.2.1 y2.2.2.2.2.1 y2.2.2.2.2.2)), P, L, z, w) Q
  refine r_isn (ls' := [some (.ref (X + 1)), some (.int (m_i (a))), some (.int (m_i (r1))), some (.int (m_i (r2)))]) eRe_readJob_29 (Nat.le_of_ble_eq_true rfl) rfl ?_
  refine r_iln eRe_readJob_30 rfl ?_
  refine r_iln eRe_readJob_31 rfl ?_
  refine r_cne (tgt := 40) eRe_readJob_32 rfl ⟨(by omega), (by omega)⟩ ⟨(by omega), (by omega)⟩ (fun c32 => ?_) (fun c32 => ?_)
  · refine r_iln eRe_readJob_40 rfl ?_
    refine r_zlt (tgt := 69) eRe_readJob_41 rfl ⟨(by omega), (by omega)⟩ (fun c41 => ?_) (fun c41 => ?_)
    · refine r_ret eRe_readJob_69 rfl ?_
      first | (exfalso; omega) | (have h9 := hfin y3 (by rw [if_pos (by omega)]; exact e3) h3; rw [if_pos (by omega)] at h9; exact h9) | (have h9 := hfin y3 (by rw [if_pos (by omega)]; exact e3) h3; rw [if_neg (by omega)] at h9; exact h9) | (have h9 := hfin y2 (by rw [if_neg (by omega)]) h2; rw [if_pos (by omega)] at h9; exact h9) | (have h9 := hfin y2 (by rw [if_neg (by omega)]) h2; rw [if_neg (by omega)] at h9; exact h9)
    · refine r_iln eRe_readJob_44 rfl ?_
      refine r_con eRe_readJob_45 ?_
      refine r_cge (tgt := 69) eRe_readJob_46 rfl ⟨(by omega), (by omega)⟩ ⟨(by omega), (by omega)⟩ (fun c46 => ?_) (fun c46 => ?_)
      · refine r_ret eRe_readJob_69 rfl ?_
        first | (exfalso; omega) | (have h9 := hfin y3 (by rw [if_pos (by omega)]; exact e3) h3; rw [if_pos (by omega)] at h9; exact h9) | (have h9 := hfin y3 (by rw [if_pos (by omega)]; exact e3) h3; rw [if_neg (by omega)] at h9; exact h9) | (have h9 := hfin y2 (by rw [if_neg (by omega)]) h2; rw [if_pos (by omega)] at h9; exact h9) | (have h9 := hfin y2 (by rw [if_neg (by omega)]) h2; rw [if_neg (by omega)] at h9; exact h9)
      · refine r_aln eRe_readJob_49 rfl ?_
        refine m_getR eRe_readJob_50 rfl (cl_t hX (i := 1) rfl) (cl_p hX (i := 12) rfl) ?_
        refine m_getR eRe_readJob_53 rfl (cl_t hX (i := 3) rfl) (cl_p hX (i := 23) rfl) ?_
        refine r_iln eRe_readJob_56 rfl ?_
        refine r_iln eRe_readJob_57 rfl ?_
        refine r_iast eRe_readJob_58 (cl_t hX (i := 13) rfl) (by decide) (by omega) (by omega) (cl_e hX 13) ?_
        rw [re_up (by omega)]
        refine r_aln eRe_readJob_59 rfl ?_
        refine m_getR eRe_readJob_60 rfl (cl_t hX (i := 1) rfl) (cl_p hX (i := 12) rfl) ?_
        refine m_getR eRe_readJob_63 rfl (cl_t hX (i := 3) rfl) (cl_p hX (i := 24) rfl) ?_
        refine r_iln eRe_readJob_66 rfl ?_
        refine r_iln eRe_readJob_67 rfl ?_
        refine r_iast eRe_readJob_68 (cl_t hX (i := 14) rfl) (by decide) (by omega) (by omega) (cl_e hX 14) ?_
        rw [re_up (by omega)]
        refine r_ret eRe_readJob_69 rfl ?_
        first | (exfalso; omega) | (have h9 := hfin y3 (by rw [if_pos (by omega)]; exact e3) h3; rw [if_pos (by omega)] at h9; exact h9) | (have h9 := hfin y3 (by rw [if_pos (by omega)]; exact e3) h3; rw [if_neg (by omega)] at h9; exact h9) | (have h9 := hfin y2 (by rw [if_neg (by omega)]) h2; rw [if_pos (by omega)] at h9; exact h9) | (have h9 := hfin y2 (by rw [if_neg (by omega)]) h2; rw [if_neg (by omega)] at h9; exact h9)
  · refine r_aln eRe_readJob_35 rfl ?_
    refine r_con eRe_readJob_36 ?_
    refine r_vir eRe_readJob_37 rfl rfl rfl (cl_t hX (i := 1) rfl) rfl rfl ?_
    refine c_rf hX h2 (by omega) (fun y3 e3 h3 h4 => ?_)
    show m_wp en _ mRe_readJob 40 [some (.ref (X + 1)), some (.int (m_i (a))), some (.int (m_i (r1))), some (.int (m_i (r2)))] [] (T, m_I (((re_q J X y3.1 y3.2.1 y3.2.2.1 y3.2.2.2.1 y3.2.2.2.2.1 y3.2.2.2.2.2))), P, L, z, w) Q
    refine r_iln eRe_readJob_40 rfl ?_
    refine r_zlt (tgt := 69) eRe_readJob_41 rfl ⟨(by omega), (by omega)⟩ (fun c41 => ?_) (fun c41 => ?_)
    · refine r_ret eRe_readJob_69 rfl ?_
      first | (exfalso; omega) | (have h9 := hfin y3 (by rw [if_pos (by omega)]; exact e3) h3; rw [if_pos (by omega)] at h9; exact h9) | (have h9 := hfin y3 (by rw [if_pos (by omega)]; exact e3) h3; rw [if_neg (by omega)] at h9; exact h9) | (have h9 := hfin y2 (by rw [if_neg (by omega)]) h2; rw [if_pos (by omega)] at h9; exact h9) | (have h9 := hfin y2 (by rw [if_neg (by omega)]) h2; rw [if_neg (by omega)] at h9; exact h9)
    · refine r_iln eRe_readJob_44 rfl ?_
      refine r_con eRe_readJob_45 ?_
      refine r_cge (tgt := 69) eRe_readJob_46 rfl ⟨(by omega), (by omega)⟩ ⟨(by omega), (by omega)⟩ (fun c46 => ?_) (fun c46 => ?_)
      · refine r_ret eRe_readJob_69 rfl ?_
        first | (exfalso; omega) | (have h9 := hfin y3 (by rw [if_pos (by omega)]; exact e3) h3; rw [if_pos (by omega)] at h9; exact h9) | (have h9 := hfin y3 (by rw [if_pos (by omega)]; exact e3) h3; rw [if_neg (by omega)] at h9; exact h9) | (have h9 := hfin y2 (by rw [if_neg (by omega)]) h2; rw [if_pos (by omega)] at h9; exact h9) | (have h9 := hfin y2 (by rw [if_neg (by omega)]) h2; rw [if_neg (by omega)] at h9; exact h9)
      · refine r_aln eRe_readJob_49 rfl ?_
        refine m_getR eRe_readJob_50 rfl (cl_t hX (i := 1) rfl) (cl_p hX (i := 12) rfl) ?_
        refine m_getR eRe_readJob_53 rfl (cl_t hX (i := 3) rfl) (cl_p hX (i := 23) rfl) ?_
        refine r_iln eRe_readJob_56 rfl ?_
        refine r_iln eRe_readJob_57 rfl ?_
        refine r_iast eRe_readJob_58 (cl_t hX (i := 13) rfl) (by decide) (by omega) (by omega) (cl_e hX 13) ?_
        rw [re_up (by omega)]
        refine r_aln eRe_readJob_59 rfl ?_
        refine m_getR eRe_readJob_60 rfl (cl_t hX (i := 1) rfl) (cl_p hX (i := 12) rfl) ?_
        refine m_getR eRe_readJob_63 rfl (cl_t hX (i := 3) rfl) (cl_p hX (i := 24) rfl) ?_
        refine r_iln eRe_readJob_66 rfl ?_
        refine r_iln eRe_readJob_67 rfl ?_
        refine r_iast eRe_readJob_68 (cl_t hX (i := 14) rfl) (by decide) (by omega) (by omega) (cl_e hX 14) ?_
        rw [re_up (by omega)]
        refine r_ret eRe_readJob_69 rfl ?_
        first | (exfalso; omega) | (have h9 := hfin y3 (by rw [if_pos (by omega)]; exact e3) h3; rw [if_pos (by omega)] at h9; exact h9) | (have h9 := hfin y3 (by rw [if_pos (by omega)]; exact e3) h3; rw [if_neg (by omega)] at h9; exact h9) | (have h9 := hfin y2 (by rw [if_neg (by omega)]) h2; rw [if_pos (by omega)] at h9; exact h9) | (have h9 := hfin y2 (by rw [if_neg (by omega)]) h2; rw [if_neg (by omega)] at h9; exact h9)
end RM
