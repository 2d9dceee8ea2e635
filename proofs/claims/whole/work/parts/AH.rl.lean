/-! the class's reader: lines -/
def rl_bk (J : Nat → Nat → Int) (X : Nat) (lo c r : Int) : Nat → Nat → Int := fun b i => if b = X + 4 ∧ (lo ≤ (i : Int) ∧ (i : Int) < c) ∧ r < J b i then r else J b i
def rl_block (J : Nat → Nat → Int) (X : Nat) (y : a_Q) (J' : Nat → Nat → Int) (y' : a_Q) : Prop := ∃ r1 r2 r3 y1 y2, (r1, y1) = re_nb (J (X + 2)) (J (X + 1) 6) 0 (J (X + 3) 0 - 1) y ∧ (r2, y2) = re_nb (J (X + 2)) (J (X + 1) 6) r1 (J (X + 3) 0 - 1) y1 ∧ (r3, y') = re_nb (J (X + 2)) (J (X + 1) 6) 0 (J (X + 3) 1) y2 ∧ J' = rl_bk J X r1 (r2 + 1) r3
def rl_spot (J : Nat → Nat → Int) (X : Nat) (a : Int) (y : a_Q) (J' : Nat → Nat → Int) (y' : a_Q) : Prop := ∃ r1 r2 y1 y2 y3, y1 = re_nt (J (X + 2)) (J (X + 1) 6) y ∧ y2 = (if y1.2.2.2.2.1 ≠ 1 ∨ re_wn (J (X + 16)) y1 ≠ -1 then re_rf 1 y1 else if a_find (J (X + 6)) y1.2.2.2.2.2 0 (J (X + 15) 5).toNat 0 ≠ -1 then re_rf 3 y1 else y1) ∧ (r1, y3) = re_nb (J (X + 2)) (J (X + 1) 6) 0 (J (X + 3) 0 - 1) y2 ∧ (r2, y') = re_nb (J (X + 2)) (J (X + 1) 6) 1 (J (X + 3) 1) y3 ∧ J' = if a < 6 then m_up (m_up (m_up J (X + 6) a.toNat y2.2.2.2.2.2) (X + 7) a.toNat r1) (X + 8) a.toNat r2 else J
def rl_wind (J : Nat → Nat → Int) (X : Nat) (a : Int) (y : a_Q) (J' : Nat → Nat → Int) (y' : a_Q) : Prop := ∃ r1 r2 y1, (r1, y1) = re_nb (J (X + 2)) (J (X + 1) 6) (if 0 < a ∧ a ≤ 8 then J (X + 9) (a - 1).toNat + 1 else 0) 999 y ∧ (r2, y') = re_sn (J (X + 2)) (J (X + 1) 6) y1 ∧ J' = if a < 8 then m_up (m_up J (X + 9) a.toNat r1) (X + 10) a.toNat r2 else J
def rl_order (J : Nat → Nat → Int) (X : Nat) (a : Int) (y : a_Q) (J' : Nat → Nat → Int) (y' : a_Q) : Prop := ∃ r y1 y2, y1 = re_nt (J (X + 2)) (J (X + 1) 6) y ∧ y2 = (if re_wn (J (X + 16)) y1 < 12 then re_rf 1 y1 else y1) ∧ (r, y') = re_nb (J (X + 2)) (J (X + 1) 6) 1 30 y2 ∧ J' = if a < 16 then m_up (m_up J (X + 11) a.toNat (re_wn (J (X + 16)) y1)) (X + 12) a.toNat r else J
def rl_pile (J : Nat → Nat → Int) (X : Nat) (y : a_Q) (J' : Nat → Nat → Int) (y' : a_Q) : Prop := ∃ r1 r2 y1 y2, (r1, y1) = re_nb (J (X + 2)) (J (X + 1) 6) 0 (J (X + 3) 0 - 1) y ∧ y2 = (if 0 < J (X + 5) r1.toNat then re_rf 3 y1 else y1) ∧ (r2, y') = re_nb (J (X + 2)) (J (X + 1) 6) 1 (J (X + 3) 1) y2 ∧ J' = m_up J (X + 5) r1.toNat r2
def rl_job (J : Nat → Nat → Int) (X : Nat) (a : Int) (y : a_Q) (J' : Nat → Nat → Int) (y' : a_Q) : Prop := ∃ r1 r2 y1 y2, (r1, y1) = re_nb (J (X + 2)) (J (X + 1) 6) 0 (J (X + 3) 0 - 1) y ∧ (r2, y2) = re_nb (J (X + 2)) (J (X + 1) 6) 0 (J (X + 3) 0 - 1) y1 ∧ y' = (if r2 = r1 then re_rf 2 y2 else y2) ∧ J' = if a < 3 then m_up (m_up J (X + 13) a.toNat r1) (X + 14) a.toNat r2 else J
section RL
variable {en : Nat → Nat} {d : Nat} {T : Nat → Option (Nat × Nat)} {J J0 J1 : Nat → Nat → Int} {P : Nat → Nat → Option Nat} {L : Nat → Nat → Int64} {z w X : Nat} {Q : m_Q} {fk fp p b k v x n lo hi a : Int} {f : Nat → Int} {y : a_Q}
theorem cl_draft (hX : cl_sh en X T P) : pl_sh en (X + 3) T P := by
  refine ⟨cl_e hX 3, hX.2.1 (3, 4, 0) (by decide), fun q hq => ?_⟩
  have h1 : (3, q.1, 3 + q.2.1) ∈ cl_fd ∧ (3 + q.2.1, q.2.2.1, q.2.2.2) ∈ cl_ob := by
    have : ∀ q ∈ pl_tab, (3, q.1, 3 + q.2.1) ∈ cl_fd ∧ (3 + q.2.1, q.2.2.1, q.2.2.2) ∈ cl_ob := by decide
    exact this q hq
  rw [Nat.add_assoc]
  exact ⟨hX.2.2.1 _ h1.1, hX.2.1 _ h1.2⟩
/-- what holds while a text is read -/
def re_ok (en : Nat → Nat) (T : Nat → Option (Nat × Nat)) (J : Nat → Nat → Int) (X : Nat) : Prop := re_tb (J (X + 2)) (J (X + 1) 6) ∧ pl_ok J (X + 3) ∧ re_Wb (J (X + 16)) ∧ re_st en T J ∧ (∀ i : Nat, i < 12 → 0 ≤ J (X + 15) i ∧ J (X + 15) i ≤ 16) ∧ (∀ i : Nat, i < 8 → 0 ≤ J (X + 9) i ∧ J (X + 9) i ≤ 1000 + (i : Int)) ∧ ((0 ≤ J (X + 3) 5 ∧ J (X + 3) 5 ≤ 15) ∧ (1 ≤ J (X + 3) 6 ∧ J (X + 3) 6 ≤ 6) ∧ 0 ≤ J (X + 3) 4 ∧ J (X + 3) 4 ≤ 99999)
theorem rl_bk_s {c r : Int} {m : Nat} (hm : (m : Int) = c) (h : lo ≤ c) (hr : r < J (X + 4) m) : m_up (rl_bk J X lo c r) (X + 4) m r = rl_bk J X lo (c + 1) r := by
  funext b i
  rw [m_up_at]
  unfold rl_bk
  by_cases q : b = X + 4 ∧ i = m
  · rw [if_pos q, q.1, q.2, if_pos ⟨rfl, by omega, hr⟩]
  · rw [if_neg q]
    by_cases q2 : b = X + 4 ∧ (lo ≤ (i : Int) ∧ (i : Int) < c) ∧ r < J b i
    · rw [if_pos q2, if_pos ⟨q2.1, by omega, q2.2.2⟩]
    · rw [if_neg q2, if_neg (fun e => q2 ⟨e.1, by omega, e.2.2⟩)]
theorem rl_bk_n {c r : Int} {m : Nat} (hm : (m : Int) = c) (hr : ¬ r < J (X + 4) m) : rl_bk J X lo c r = rl_bk J X lo (c + 1) r := by
  funext b i
  unfold rl_bk
  by_cases q2 : b = X + 4 ∧ (lo ≤ (i : Int) ∧ (i : Int) < c) ∧ r < J b i
  · rw [if_pos q2, if_pos ⟨q2.1, by omega, q2.2.2⟩]
  · rw [if_neg q2, if_neg (fun e => by
      by_cases q3 : i = m
      · subst q3
        rw [e.1] at e
        exact hr e.2.2
      · exact q2 ⟨e.1, by omega, e.2.2⟩)]
theorem rl_bk_0 {r : Int} : rl_bk J X lo lo r = J := by
  funext b i
  unfold rl_bk
  rw [if_neg (fun e => by omega)]
theorem l_Re_readBlock (hX : cl_sh en X T P) (hb : ∀ i : Nat, i < 16 → 0 ≤ J (X + 4) i ∧ J (X + 4) i ≤ 6) {r1 r2 r3 : Int} (h1 : 0 ≤ r1) (h2 : r1 ≤ r2 ∧ r2 < 16) (h3 : 0 ≤ r3 ∧ r3 ≤ 6) (hq : Q none (T, m_I (re_q (rl_bk J X r1 (r2 + 1) r3) X fk fp p b k v), P, L, z, w)) :
    ∀ (m : Nat) (c : Int), c + m = r2 + 1 → r1 ≤ c → m_wp en d mRe_readBlock 46 [some (.ref (X + 1)), some (.int (m_i r1)), some (.int (m_i r2)), some (.int (m_i r3)), some (.int (m_i c))] [] (T, m_I (re_q (rl_bk J X r1 c r3) X fk fp p b k v), P, L, z, w) Q := by
  intro m
  induction m with
  | zero =>
    intro c hc hc1
    obtain rfl : c = r2 + 1 := by omega
    refine r_il eRe_readBlock_46 rfl ?_
    refine r_iln eRe_readBlock_48 rfl ?_
    refine r_cgt (tgt := 101) eRe_readBlock_49 rfl ⟨(by omega), (by omega)⟩ ⟨(by omega), (by omega)⟩ (fun c49 => ?_) (fun c49 => ?_)
    · refine r_ret eRe_readBlock_101 rfl ?_
      exact hq
    · exfalso; omega
  | succ m ih =>
    intro c hc hc1
    have hi := ih (c + 1) (by omega) (by omega)
    have hbc := hb c.toNat (by omega)
    have er : rl_bk J X r1 c r3 (X + 4) c.toNat = J (X + 4) c.toNat := by
      unfold rl_bk
      rw [if_neg (fun e => by omega)]
    have hy : r3 < J (X + 4) c.toNat → m_wp en d mRe_readBlock 46 [some (.ref (X + 1)), some (.int (m_i r1)), some (.int (m_i r2)), some (.int (m_i r3)), some (.int (m_i (c + 1)))] [] (T, m_I (re_q (m_up (rl_bk J X r1 c r3) (X + 4) c.toNat r3) X fk fp p b k v), P, L, z, w) Q := fun q => by
      rw [rl_bk_s (by omega) hc1 q]; exact hi
    have hn : ¬ r3 < J (X + 4) c.toNat → m_wp en d mRe_readBlock 46 [some (.ref (X + 1)), some (.int (m_i r1)), some (.int (m_i r2)), some (.int (m_i r3)), some (.int (m_i (c + 1)))] [] (T, m_I (re_q (rl_bk J X r1 c r3) X fk fp p b k v), P, L, z, w) Q := fun q => by
      rw [rl_bk_n (m := c.toNat) (by omega) q]; exact hi
    refine r_il eRe_readBlock_46 rfl ?_
    refine r_iln eRe_readBlock_48 rfl ?_
    refine r_cgt (tgt := 101) eRe_readBlock_49 rfl ⟨(by omega), (by omega)⟩ ⟨(by omega), (by omega)⟩ (fun c49 => ?_) (fun c49 => ?_)
    · refine r_ret eRe_readBlock_101 rfl ?_
      exfalso; omega
    · refine r_il eRe_readBlock_52 rfl ?_
      refine r_aln eRe_readBlock_54 rfl ?_
      refine m_getR eRe_readBlock_55 rfl (cl_t hX (i := 1) rfl) (cl_p hX (i := 12) rfl) ?_
      refine m_getR eRe_readBlock_58 rfl (cl_t hX (i := 3) rfl) (cl_p hX (i := 14) rfl) ?_
      refine r_alen eRe_readBlock_61 (cl_t hX (i := 4) rfl) (by decide) ?_
      refine r_cge (tgt := 101) eRe_readBlock_62 rfl ⟨(by omega), (by omega)⟩ ⟨(by omega), (by omega)⟩ (fun c62 => ?_) (fun c62 => ?_)
      · refine r_ret eRe_readBlock_101 rfl ?_
        exfalso; omega
      · refine r_il eRe_readBlock_65 rfl ?_
        refine r_zlt (tgt := 95) eRe_readBlock_67 rfl ⟨(by omega), (by omega)⟩ (fun c67 => ?_) (fun c67 => ?_)
        · refine r_inc (ls' := [some (.ref (X + 1)), some (.int (m_i (r1))), some (.int (m_i (r2))), some (.int (m_i (r3))), some (.int (m_i (c + 1)))]) eRe_readBlock_95 rfl rfl ?_
          refine r_go (tgt := 46) eRe_readBlock_98 rfl ?_
          first | (exfalso; omega) | exact hy (by omega) | exact hn (by omega)
        · refine r_iln eRe_readBlock_70 rfl ?_
          refine r_aln eRe_readBlock_71 rfl ?_
          refine m_getR eRe_readBlock_72 rfl (cl_t hX (i := 1) rfl) (cl_p hX (i := 12) rfl) ?_
          refine m_getR eRe_readBlock_75 rfl (cl_t hX (i := 3) rfl) (cl_p hX (i := 14) rfl) ?_
          refine r_il eRe_readBlock_78 rfl ?_
          refine r_ialde (x := (rl_bk J X r1 c r3) (X + 4) ((c).toNat)) eRe_readBlock_80 (cl_t hX (i := 4) rfl) (by decide) (by omega) (by omega) (by rw [re_q_o (by omega)]) ?_
          rw [er]
          refine r_cge (tgt := 95) eRe_readBlock_81 rfl ⟨(by omega), (by omega)⟩ ⟨(by omega), (by omega)⟩ (fun c81 => ?_) (fun c81 => ?_)
          · refine r_inc (ls' := [some (.ref (X + 1)), some (.int (m_i (r1))), some (.int (m_i (r2))), some (.int (m_i (r3))), some (.int (m_i (c + 1)))]) eRe_readBlock_95 rfl rfl ?_
            refine r_go (tgt := 46) eRe_readBlock_98 rfl ?_
            first | (exfalso; omega) | exact hy (by omega) | exact hn (by omega)
          · refine r_aln eRe_readBlock_84 rfl ?_
            refine m_getR eRe_readBlock_85 rfl (cl_t hX (i := 1) rfl) (cl_p hX (i := 12) rfl) ?_
            refine m_getR eRe_readBlock_88 rfl (cl_t hX (i := 3) rfl) (cl_p hX (i := 14) rfl) ?_
            refine r_il eRe_readBlock_91 rfl ?_
            refine r_iln eRe_readBlock_93 rfl ?_
            refine r_iast eRe_readBlock_94 (cl_t hX (i := 4) rfl) (by decide) (by omega) (by omega) (cl_e hX 4) ?_
            rw [re_up (by omega)]
            refine r_inc (ls' := [some (.ref (X + 1)), some (.int (m_i (r1))), some (.int (m_i (r2))), some (.int (m_i (r3))), some (.int (m_i (c + 1)))]) eRe_readBlock_95 rfl rfl ?_
            refine r_go (tgt := 46) eRe_readBlock_98 rfl ?_
            first | (exfalso; omega) | exact hy (by omega) | exact hn (by omega)
theorem c_Re_readBlock (hX : cl_sh en X T P) (hok : re_ok en T J X) (hy : re_yb (J (X + 1) 6) y) (hq : ∀ J' y', rl_block J X y J' y' → re_yb (J (X + 1) 6) y' → Q none (T, m_I (re_q J' X y'.1 y'.2.1 y'.2.2.1 y'.2.2.2.1 y'.2.2.2.2.1 y'.2.2.2.2.2), P, L, z, w)) : m_call en (d + 5) mRe_readBlock [.ref (X + 1)] (T, m_I (re_q J X y.1 y.2.1 y.2.2.1 y.2.2.2.1 y.2.2.2.2.1 y.2.2.2.2.2), P, L, z, w) Q := by
  obtain ⟨hf, pok, hW, hst, ht, hwt, hss⟩ := hok
  have k0 := pok.1
  have k1 := pok.2.1
  have hbb : ∀ i : Nat, i < 16 → 0 ≤ J (X + 4) i ∧ J (X + 4) i ≤ 6 := fun i hi => (pok.2.2.2.2.2.2.2.2.1 i hi).1
  refine m_into (by decide) (Nat.le_of_ble_eq_true rfl) rfl ?_
  refine r_aln eRe_readBlock_0 rfl ?_
  refine r_con eRe_readBlock_1 ?_
  refine r_aln eRe_readBlock_2 rfl ?_
  refine m_getR eRe_readBlock_3 rfl (cl_t hX (i := 1) rfl) (cl_p hX (i := 12) rfl) ?_
  refine r_gete (x := J (X + 3) 0) eRe_readBlock_6 rfl (by decide) (cl_t hX (i := 3) rfl) (by rw [re_q_o (by omega)]) ?_
  refine r_con eRe_readBlock_9 ?_
  refine r_sub eRe_readBlock_10 ?_
  refine r_vir eRe_readBlock_11 rfl rfl rfl (cl_t hX (i := 1) rfl) rfl rfl ?_
  -- call of Re_number at 11: [(.ref (X + 1)), (.int (m_i (0))), (.int (m_i ((J (X + 3) 0) - (1))))]
  refine c_Re_number hX hf hy (by omega) (by omega) (fun y1 r1 e1 h1 b1 => ?_)
  show m_wp en _ mRe_readBlock 14 [some (.ref (X + 1)), none, none, none, none] [(.int (m_i (r1)))] (T, m_I ((re_q J X y1.1 y1.2.1 y1.2.2.1 y1.2.2.2.1 y1.2.2.2.2.1 y1.2.2.2.2.2)), P, L, z, w) Q
  refine r_isn (ls' := [some (.ref (X + 1)), some (.int (m_i (r1))), none, none, none]) eRe_readBlock_14 (Nat.le_of_ble_eq_true rfl) rfl ?_
  refine r_aln eRe_readBlock_15 rfl ?_
  refine r_iln eRe_readBlock_16 rfl ?_
  refine r_aln eRe_readBlock_17 rfl ?_
  refine m_getR eRe_readBlock_18 rfl (cl_t hX (i := 1) rfl) (cl_p hX (i := 12) rfl) ?_
  refine r_gete (x := J (X + 3) 0) eRe_readBlock_21 rfl (by decide) (cl_t hX (i := 3) rfl) (by rw [re_q_o (by omega)]) ?_
  refine r_con eRe_readBlock_24 ?_
  refine r_sub eRe_readBlock_25 ?_
  refine r_vir eRe_readBlock_26 rfl rfl rfl (cl_t hX (i := 1) rfl) rfl rfl ?_
  -- call of Re_number at 26: [(.ref (X + 1)), (.int (m_i (r1))), (.int (m_i ((J (X + 3) 0) - (1))))]
  refine c_Re_number hX hf h1 (by omega) (by omega) (fun y2 r2 e2 h2 b2 => ?_)
  show m_wp en _ mRe_readBlock 29 [some (.ref (X + 1)), some (.int (m_i (r1))), none, none, none] [(.int (m_i (r2)))] (T, m_I ((re_q J X y2.1 y2.2.1 y2.2.2.1 y2.2.2.2.1 y2.2.2.2.2.1 y2.2.2.2.2.2)), P, L, z, w) Q
  refine r_isn (ls' := [some (.ref (X + 1)), some (.int (m_i (r1))), some (.int (m_i (r2))), none, none]) eRe_readBlock_29 (Nat.le_of_ble_eq_true rfl) rfl ?_
  refine r_aln eRe_readBlock_30 rfl ?_
  refine r_con eRe_readBlock_31 ?_
  refine r_aln eRe_readBlock_32 rfl ?_
  refine m_getR eRe_readBlock_33 rfl (cl_t hX (i := 1) rfl) (cl_p hX (i := 12) rfl) ?_
  refine r_gete (x := J (X + 3) 1) eRe_readBlock_36 rfl (by decide) (cl_t hX (i := 3) rfl) (by rw [re_q_o (by omega)]) ?_
  refine r_vir eRe_readBlock_39 rfl rfl rfl (cl_t hX (i := 1) rfl) rfl rfl ?_
  -- call of Re_number at 39: [(.ref (X + 1)), (.int (m_i (0))), (.int (m_i (J (X + 3) 1)))]
  refine c_Re_number hX hf h2 (by omega) (by omega) (fun y3 r3 e3 h3 b3 => ?_)
  show m_wp en _ mRe_readBlock 42 [some (.ref (X + 1)), some (.int (m_i (r1))), some (.int (m_i (r2))), none, none] [(.int (m_i (r3)))] (T, m_I ((re_q J X y3.1 y3.2.1 y3.2.2.1 y3.2.2.2.1 y3.2.2.2.2.1 y3.2.2.2.2.2)), P, L, z, w) Q
  refine r_isn (ls' := [some (.ref (X + 1)), some (.int (m_i (r1))), some (.int (m_i (r2))), some (.int (m_i (r3))), none]) eRe_readBlock_42 (Nat.le_of_ble_eq_true rfl) rfl ?_
  refine r_iln eRe_readBlock_43 rfl ?_
  refine r_is (ls' := [some (.ref (X + 1)), some (.int (m_i (r1))), some (.int (m_i (r2))), some (.int (m_i (r3))), some (.int (m_i (r1)))]) eRe_readBlock_44 (Nat.le_of_ble_eq_true rfl) rfl ?_
  have h46 := l_Re_readBlock (d := d + 4) (L := L) (z := z) (w := w) (fk := y3.1) (fp := y3.2.1) (p := y3.2.2.1) (b := y3.2.2.2.1) (k := y3.2.2.2.2.1) (v := y3.2.2.2.2.2) hX hbb (r1 := r1) (r2 := r2) (r3 := r3) (by omega) (by omega) (by omega) (hq _ y3 ⟨r1, r2, r3, y1, y2, e1, e2, e3, rfl⟩ h3) (r2 + 1 - r1).toNat r1 (by omega) (by omega)
  rw [rl_bk_0] at h46
  exact h46
end RL
