/-! the class's reader: the tape read -/
def rl_rt (X : Nat) : Nat → (Nat → Nat → Int) → a_Q → Int → (Nat → Nat → Int) → a_Q → Int → Prop
  | 0, J, y, l, J', y', l' => J' = J ∧ y' = y ∧ l' = l
  | m + 1, J, y, l, J', y', l' => ((y.2.2.2.2.1 = 0 ∨ y.1 ≠ 0) ∧ J' = J ∧ y' = y ∧ l' = l) ∨ (¬ (y.2.2.2.2.1 = 0 ∨ y.1 ≠ 0) ∧ ∃ y1, y1 = re_ms (J (X + 15)) (re_wn (J (X + 16)) y) y ∧ ((y1.1 ≠ 0 ∧ rl_rt X m J (re_nt (J (X + 2)) (J (X + 1) 6) y1) (l + 1) J' y' l') ∨ (y1.1 = 0 ∧ ∃ J1 y2, rl_line J X (re_wn (J (X + 16)) y) (J (X + 15) (re_wn (J (X + 16)) y).toNat) y1 J1 y2 ∧ rl_rt X m (m_up J1 (X + 15) (re_wn (J (X + 16)) y).toNat (J1 (X + 15) (re_wn (J (X + 16)) y).toNat + 1)) (re_nt (J (X + 2)) (J (X + 1) 6) (re_ns (J (X + 2)) (J (X + 1) 6) y2)) (l + 1) J' y' l')))
section TP
variable {en : Nat → Nat} {d : Nat} {T : Nat → Option (Nat × Nat)} {J J0 J1 J' : Nat → Nat → Int} {P : Nat → Nat → Option Nat} {L : Nat → Nat → Int64} {z w X A : Nat} {Q : m_Q} {fk fp p b k v x n lo hi a ln : Int} {f : Nat → Int} {y y' : a_Q}
theorem re_ms_0 {t : Nat → Int} (h : (re_ms t ln y).1 = 0) : (0 ≤ ln ∧ ln < 12) ∧ t ln.toNat < re_mt ln.toNat ∧ re_ms t ln y = y := by
  unfold re_ms at h ⊢
  by_cases q : ln < 0 ∨ 12 ≤ ln ∨ (ln ≤ 3 ∧ 0 < re_bg t)
  · rw [if_pos q] at h
    exact absurd h (re_rf_0 (by omega))
  · rw [if_neg q] at h ⊢
    by_cases q2 : re_mt ln.toNat ≤ t ln.toNat
    · rw [if_pos q2] at h
      exact absurd h (re_rf_0 (by split <;> omega))
    · rw [if_neg q2]
      exact ⟨by omega, by omega, rfl⟩
theorem re_mt_5 : ∀ i : Fin 12, (i.val = 5 → re_mt i.val = 6) ∧ (i.val = 7 → re_mt i.val = 8) ∧ (i.val = 8 → re_mt i.val = 16) ∧ (i.val = 10 → re_mt i.val = 3) := by decide
theorem l_Re_readTape (hX : cl_sh en X T P) {o1 : Option Value} : ∀ (m : Nat) (l : Int) (J : Nat → Nat → Int) (y : a_Q) (o3 : Option Value), l + m = 700 → 0 ≤ l → re_ok en T J X → re_yb (J (X + 1) 6) y → (∀ J' y' l', rl_rt X m J y l J' y' l' → re_ok en T J' X → re_yb (J (X + 1) 6) y' → (∀ b i, b < X + 3 ∨ X + 16 ≤ b → J' b i = J b i) → (0 ≤ l' ∧ l' ≤ 700) → Q (some (.int (m_i (if y'.1 = 0 then l' else -1)))) (T, m_I (re_q J' X y'.1 y'.2.1 y'.2.2.1 y'.2.2.2.1 y'.2.2.2.2.1 y'.2.2.2.2.2), P, L, z, w)) →
    m_wp en (d + 6) mRe_readTape 38 [some (.ref (X + 1)), o1, some (.int (m_i l)), o3] [] (T, m_I (re_q J X y.1 y.2.1 y.2.2.1 y.2.2.2.1 y.2.2.2.2.1 y.2.2.2.2.2), P, L, z, w) Q := by
  intro m
  induction m with
  | zero =>
    intro l J y o3 hl h0 hok hy hq
    have b0 := hy.1
    have b4 := hy.2.2.2.1
    have hend := hq J y l ⟨rfl, rfl, rfl⟩ hok hy (fun _ _ _ => rfl) (by omega)
    refine r_iln eRe_readTape_38 rfl ?_
    refine r_sip eRe_readTape_39 (by decide) ?_
    refine r_cge (tgt := 113) eRe_readTape_42 rfl ⟨(by omega), (by omega)⟩ ⟨(by omega), (by omega)⟩ (fun c42 => ?_) (fun c42 => ?_)
    · refine r_aln eRe_readTape_113 rfl ?_
      refine r_gete (x := y.1) eRe_readTape_114 rfl (by decide) (cl_t hX (i := 1) rfl) (by rw [re_q_3]) ?_
      refine r_zne (tgt := 124) eRe_readTape_117 rfl ⟨(by omega), (by omega)⟩ (fun c117 => ?_) (fun c117 => ?_)
      · refine r_con eRe_readTape_124 ?_
        refine r_iret eRe_readTape_125 rfl ?_
        first | (rw [if_pos (by omega)] at hend; exact hend) | (rw [if_neg (by omega)] at hend; exact hend)
      · refine r_iln eRe_readTape_120 rfl ?_
        refine r_go (tgt := 125) eRe_readTape_121 rfl ?_
        refine r_iret eRe_readTape_125 rfl ?_
        first | (rw [if_pos (by omega)] at hend; exact hend) | (rw [if_neg (by omega)] at hend; exact hend)
    · exfalso; omega
  | succ m ih =>
    intro l J y o3 hl h0 hok hy hq
    have b0 := hy.1
    have b4 := hy.2.2.2.1
    have hend : (y.2.2.2.2.1 = 0 ∨ y.1 ≠ 0) → Q (some (.int (m_i (if y.1 = 0 then l else -1)))) (T, m_I (re_q J X y.1 y.2.1 y.2.2.1 y.2.2.2.1 y.2.2.2.2.1 y.2.2.2.2.2), P, L, z, w) := fun q => hq J y l (Or.inl ⟨q, rfl, rfl, rfl⟩) hok hy (fun _ _ _ => rfl) (by omega)
    obtain ⟨wn, ewn⟩ : ∃ wn, wn = re_wn (J (X + 16)) y := ⟨_, rfl⟩
    have hwn := re_wn_b (W := J (X + 16)) (y := y)
    rw [← ewn] at hwn
    have hgo1 : ∀ y1, ¬ (y.2.2.2.2.1 = 0 ∨ y.1 ≠ 0) → y1 = re_ms (J (X + 15)) (re_wn (J (X + 16)) y) y → re_yb (J (X + 1) 6) y1 → y1.1 ≠ 0 → ∀ y4 o3, y4 = re_nt (J (X + 2)) (J (X + 1) 6) y1 → re_yb (J (X + 1) 6) y4 → m_wp en (d + 6) mRe_readTape 38 [some (.ref (X + 1)), o1, some (.int (m_i (l + 1))), o3] [] (T, m_I (re_q J X y4.1 y4.2.1 y4.2.2.1 y4.2.2.2.1 y4.2.2.2.2.1 y4.2.2.2.2.2), P, L, z, w) Q := fun y1 q e1 h1 q1 y4 o3 e4 h4 =>
      ih (l + 1) J y4 o3 (by omega) (by omega) hok h4 (fun J' y' l' a1 a2 a3 a4 a5 => hq J' y' l' (Or.inr ⟨q, y1, e1, Or.inl ⟨q1, by rw [← e4]; exact a1⟩⟩) a2 a3 a4 a5)
    have hgo2 : ∀ y1, ¬ (y.2.2.2.2.1 = 0 ∨ y.1 ≠ 0) → y1 = re_ms (J (X + 15)) (re_wn (J (X + 16)) y) y → y1.1 = 0 → ∀ J1 y2, rl_line J X wn (J (X + 15) wn.toNat) y1 J1 y2 → re_ok en T J1 X → (∀ b i, b < X + 3 ∨ X + 15 ≤ b → J1 b i = J b i) → ∀ y3 y4 o3, y3 = re_ns (J (X + 2)) (J (X + 1) 6) y2 → y4 = re_nt (J (X + 2)) (J (X + 1) 6) y3 → re_yb (J (X + 1) 6) y4 → m_wp en (d + 6) mRe_readTape 38 [some (.ref (X + 1)), o1, some (.int (m_i (l + 1))), o3] [] (T, m_I (re_q (m_up J1 (X + 15) wn.toNat (J1 (X + 15) wn.toNat + 1)) X y4.1 y4.2.1 y4.2.2.1 y4.2.2.2.1 y4.2.2.2.2.1 y4.2.2.2.2.2), P, L, z, w) Q := fun y1 q e1 q1 J1 y2 e2 hok1 hfr y3 y4 o3 e3 e4 h4 => by
      obtain ⟨c1, c2, c3⟩ := re_ms_0 (by rw [← e1]; exact q1)
      rw [← ewn] at c1 c2
      have e15 : J1 (X + 15) wn.toNat = J (X + 15) wn.toNat := hfr _ _ (by omega)
      have hmb := re_mt_b ⟨wn.toNat, by omega⟩
      have hm5 := re_mt_5 ⟨wn.toNat, by omega⟩
      have ht := hok.2.2.2.2.1 wn.toNat (by omega)
      have e6 : m_up J1 (X + 15) wn.toNat (J1 (X + 15) wn.toNat + 1) (X + 1) 6 = J (X + 1) 6 := by rw [m_up_o (by omega)]; exact hfr _ _ (by omega)
      have hok2 : re_ok en T (m_up J1 (X + 15) wn.toNat (J1 (X + 15) wn.toNat + 1)) X := re_ok_up (k := 12) hX.1 hok1 (by omega) (by rw [e15]; unfold pl_bd; simp only at hm5 hmb; omega) (by rw [e15]; simp only at hmb; omega) (by omega) (by omega) (by omega) (by omega)
      refine ih (l + 1) _ y4 o3 (by omega) (by omega) hok2 (by rw [e6]; exact h4) (fun J' y' l' a1 a2 a3 a4 a5 => hq J' y' l' (Or.inr ⟨q, y1, e1, Or.inr ⟨q1, J1, y2, by rw [← ewn]; exact e2, by rw [← ewn, ← e3, ← e4]; exact a1⟩⟩) a2 (by rw [e6] at a3; exact a3) (fun b i qb => ?_) a5)
      rw [a4 b i qb, m_up_o (by omega)]
      exact hfr b i (by omega)
    refine r_iln eRe_readTape_38 rfl ?_
    refine r_sip eRe_readTape_39 (by decide) ?_
    refine r_cge (tgt := 113) eRe_readTape_42 rfl ⟨(by omega), (by omega)⟩ ⟨(by omega), (by omega)⟩ (fun c42 => ?_) (fun c42 => ?_)
    · refine r_aln eRe_readTape_113 rfl ?_
      refine r_gete (x := y.1) eRe_readTape_114 rfl (by decide) (cl_t hX (i := 1) rfl) (by rw [re_q_3]) ?_
      refine r_zne (tgt := 124) eRe_readTape_117 rfl ⟨(by omega), (by omega)⟩ (fun c117 => ?_) (fun c117 => ?_)
      · refine r_con eRe_readTape_124 ?_
        refine r_iret eRe_readTape_125 rfl ?_
        first | (exfalso; omega) | (have h9 := hend (by omega); rw [if_pos (by omega)] at h9; exact h9) | (have h9 := hend (by omega); rw [if_neg (by omega)] at h9; exact h9)
      · refine r_iln eRe_readTape_120 rfl ?_
        refine r_go (tgt := 125) eRe_readTape_121 rfl ?_
        refine r_iret eRe_readTape_125 rfl ?_
        first | (exfalso; omega) | (have h9 := hend (by omega); rw [if_pos (by omega)] at h9; exact h9) | (have h9 := hend (by omega); rw [if_neg (by omega)] at h9; exact h9)
    · refine r_aln eRe_readTape_45 rfl ?_
      refine r_gete (x := y.2.2.2.2.1) eRe_readTape_46 rfl (by decide) (cl_t hX (i := 1) rfl) (by rw [re_q_9]) ?_
      refine r_zeq (tgt := 113) eRe_readTape_49 rfl ⟨(by omega), (by omega)⟩ (fun c49 => ?_) (fun c49 => ?_)
      · refine r_aln eRe_readTape_113 rfl ?_
        refine r_gete (x := y.1) eRe_readTape_114 rfl (by decide) (cl_t hX (i := 1) rfl) (by rw [re_q_3]) ?_
        refine r_zne (tgt := 124) eRe_readTape_117 rfl ⟨(by omega), (by omega)⟩ (fun c117 => ?_) (fun c117 => ?_)
        · refine r_con eRe_readTape_124 ?_
          refine r_iret eRe_readTape_125 rfl ?_
          first | (exfalso; omega) | (have h9 := hend (by omega); rw [if_pos (by omega)] at h9; exact h9) | (have h9 := hend (by omega); rw [if_neg (by omega)] at h9; exact h9)
        · refine r_iln eRe_readTape_120 rfl ?_
          refine r_go (tgt := 125) eRe_readTape_121 rfl ?_
          refine r_iret eRe_readTape_125 rfl ?_
          first | (exfalso; omega) | (have h9 := hend (by omega); rw [if_pos (by omega)] at h9; exact h9) | (have h9 := hend (by omega); rw [if_neg (by omega)] at h9; exact h9)
      · refine r_aln eRe_readTape_52 rfl ?_
        refine r_gete (x := y.1) eRe_readTape_53 rfl (by decide) (cl_t hX (i := 1) rfl) (by rw [re_q_3]) ?_
        refine r_zne (tgt := 113) eRe_readTape_56 rfl ⟨(by omega), (by omega)⟩ (fun c56 => ?_) (fun c56 => ?_)
        · refine r_aln eRe_readTape_113 rfl ?_
          refine r_gete (x := y.1) eRe_readTape_114 rfl (by decide) (cl_t hX (i := 1) rfl) (by rw [re_q_3]) ?_
          refine r_zne (tgt := 124) eRe_readTape_117 rfl ⟨(by omega), (by omega)⟩ (fun c117 => ?_) (fun c117 => ?_)
          · refine r_con eRe_readTape_124 ?_
            refine r_iret eRe_readTape_125 rfl ?_
            first | (exfalso; omega) | (have h9 := hend (by omega); rw [if_pos (by omega)] at h9; exact h9) | (have h9 := hend (by omega); rw [if_neg (by omega)] at h9; exact h9)
          · refine r_iln eRe_readTape_120 rfl ?_
            refine r_go (tgt := 125) eRe_readTape_121 rfl ?_
            refine r_iret eRe_readTape_125 rfl ?_
            first | (exfalso; omega) | (have h9 := hend (by omega); rw [if_pos (by omega)] at h9; exact h9) | (have h9 := hend (by omega); rw [if_neg (by omega)] at h9; exact h9)
        · refine r_aln eRe_readTape_59 rfl ?_
          refine r_vir eRe_readTape_60 rfl rfl rfl (cl_t hX (i := 1) rfl) rfl rfl ?_
          refine c_Re_wordNumber hX hok.2.2.1 hy ?_
          rw [← ewn]
          show m_wp en _ mRe_readTape 63 [some (.ref (X + 1)), o1, some (.int (m_i (l))), o3] [(.int (m_i (wn)))] (T, m_I ((((re_q J X y.1 y.2.1 y.2.2.1 y.2.2.2.1 y.2.2.2.2.1 y.2.2.2.2.2)))), P, L, z, w) Q
          refine r_isn (ls' := [some (.ref (X + 1)), o1, some (.int (m_i (l))), some (.int (m_i (wn)))]) eRe_readTape_63 (Nat.le_of_ble_eq_true rfl) rfl ?_
          refine r_aln eRe_readTape_64 rfl ?_
          refine r_iln eRe_readTape_65 rfl ?_
          refine r_vir eRe_readTape_66 rfl rfl rfl (cl_t hX (i := 1) rfl) rfl rfl ?_
          refine c_Re_mayStand hX hok.2.2.2.1 (fun i hi => by have := hok.2.2.2.2.1 i hi; omega) hy (by omega) (fun y1 e1 h1 => ?_)
          rw [ewn] at e1
          have b1 := h1.1
          have hms : y1.1 = 0 → _ := fun q => re_ms_0 (by rw [← e1]; exact q)
          rw [← ewn] at hms
          show m_wp en _ mRe_readTape 69 [some (.ref (X + 1)), o1, some (.int (m_i (l))), some (.int (m_i (wn)))] [(.int (m_i ((if y1.1 = 0 then 1 else 0))))] (T, m_I (((re_q J X y1.1 y1.2.1 y1.2.2.1 y1.2.2.2.1 y1.2.2.2.2.1 y1.2.2.2.2.2))), P, L, z, w) Q
          obtain ⟨ms, ems⟩ : ∃ ms, ms = (if y1.1 = 0 then (1 : Int) else 0) := ⟨_, rfl⟩
          have hms2 : (y1.1 = 0 ∧ ms = 1) ∨ (y1.1 ≠ 0 ∧ ms = 0) := by rw [ems]; split <;> omega
          rw [← ems]
          refine r_zeq (tgt := 103) eRe_readTape_69 rfl ⟨(by omega), (by omega)⟩ (fun c69 => ?_) (fun c69 => ?_)
          · first | (refine r_inc (ls' := [some (.ref (X + 1)), o1, some (.int (m_i (l + 1))), some (.int (m_i wn))]) eRe_readTape_103 rfl rfl ?_; refine r_aln eRe_readTape_106 rfl ?_; refine r_vir eRe_readTape_107 rfl rfl rfl (cl_t hX (i := 1) rfl) rfl rfl ?_; refine c_Re_nextToken hX hok.1 h1 (fun y4 e4 h4 => ?_); refine r_go (tgt := 38) eRe_readTape_110 rfl ?_; exact hgo1 y1 (by omega) e1 h1 (by omega) y4 _ e4 h4) | (have t2f : m_up J1 (X + 15) wn.toNat (J1 (X + 15) wn.toNat + 1) (X + 2) = J (X + 2) := (funext (fun i => m_up_o (by omega))).trans ef; have t6 : m_up J1 (X + 15) wn.toNat (J1 (X + 15) wn.toNat + 1) (X + 1) 6 = J (X + 1) 6 := (m_up_o (by omega)).trans e6; refine r_inc (ls' := [some (.ref (X + 1)), o1, some (.int (m_i (l + 1))), some (.int (m_i wn))]) eRe_readTape_103 rfl rfl ?_; refine r_aln eRe_readTape_106 rfl ?_; refine r_vir eRe_readTape_107 rfl rfl rfl (cl_t hX (i := 1) rfl) rfl rfl ?_; refine c_Re_nextToken (J := m_up J1 (X + 15) wn.toNat (J1 (X + 15) wn.toNat + 1)) hX (by rw [t2f, t6]; exact hok.1) (by rw [t6]; exact h3) (fun y4 e4 h4 => ?_); rw [t2f, t6] at e4; rw [t6] at h4; refine r_go (tgt := 38) eRe_readTape_110 rfl ?_; exact hgo2 y1 (by omega) e1 (by omega) J1 y2 e2 hok1 hfr1 y3 y4 _ e3 e4 h4)
          · obtain ⟨wb, wb2, -⟩ := hms (by omega)
            refine r_aln eRe_readTape_72 rfl ?_
            refine r_iln eRe_readTape_73 rfl ?_
            refine r_aln eRe_readTape_74 rfl ?_
            refine m_getR eRe_readTape_75 rfl (cl_t hX (i := 1) rfl) (cl_p hX (i := 12) rfl) ?_
            refine m_getR eRe_readTape_78 rfl (cl_t hX (i := 3) rfl) (cl_p hX (i := 25) rfl) ?_
            refine r_iln eRe_readTape_81 rfl ?_
            refine r_ialde (x := J (X + 15) ((wn).toNat)) eRe_readTape_82 (cl_t hX (i := 15) rfl) (by decide) (by omega) (by omega) (by rw [re_q_o (by omega)]) ?_
            refine r_vir eRe_readTape_83 rfl rfl rfl (cl_t hX (i := 1) rfl) rfl rfl ?_
            refine c_Re_readLine hX hok h1 (by have := hok.2.2.2.2.1 wn.toNat (by omega); omega) (by omega) (fun J1 y2 e2 h2 => ?_)
            obtain ⟨hok1, hfr1⟩ := rl_line_ok hX.1 hok h1 (by have := hok.2.2.2.2.1 wn.toNat (by omega); omega) e2
            have e6 : J1 (X + 1) 6 = J (X + 1) 6 := hfr1 _ _ (by omega)
            have ef : J1 (X + 2) = J (X + 2) := funext (fun i => hfr1 _ i (by omega))
            have e15 : J1 (X + 15) wn.toNat = J (X + 15) wn.toNat := hfr1 _ _ (by omega)
            show m_wp en _ mRe_readTape 86 [some (.ref (X + 1)), o1, some (.int (m_i (l))), some (.int (m_i (wn)))] [] (T, m_I (((re_q J1 X y2.1 y2.2.1 y2.2.2.1 y2.2.2.2.1 y2.2.2.2.2.1 y2.2.2.2.2.2))), P, L, z, w) Q
            refine r_aln eRe_readTape_86 rfl ?_
            refine r_vir eRe_readTape_87 rfl rfl rfl (cl_t hX (i := 1) rfl) rfl rfl ?_
            refine c_Re_needSemicolon hX hok1.1 (by rw [e6]; exact h2) (fun y3 e3 h3 => ?_)
            rw [ef, e6] at e3
            rw [e6] at h3
            show m_wp en _ mRe_readTape 90 [some (.ref (X + 1)), o1, some (.int (m_i (l))), some (.int (m_i (wn)))] [] (T, m_I (((re_q J1 X y3.1 y3.2.1 y3.2.2.1 y3.2.2.2.1 y3.2.2.2.2.1 y3.2.2.2.2.2))), P, L, z, w) Q
            refine r_aln eRe_readTape_90 rfl ?_
            refine m_getR eRe_readTape_91 rfl (cl_t hX (i := 1) rfl) (cl_p hX (i := 12) rfl) ?_
            refine m_getR eRe_readTape_94 rfl (cl_t hX (i := 3) rfl) (cl_p hX (i := 25) rfl) ?_
            refine r_iln eRe_readTape_97 rfl ?_
            refine r_dup2 eRe_readTape_98 ?_
            refine r_ialde (x := J1 (X + 15) ((wn).toNat)) eRe_readTape_99 (cl_t hX (i := 15) rfl) (by decide) (by omega) (by omega) (by rw [re_q_o (by omega)]) ?_
            refine r_con eRe_readTape_100 ?_
            refine r_add eRe_readTape_101 ?_
            refine r_iast eRe_readTape_102 (cl_t hX (i := 15) rfl) (by decide) (by omega) (by omega) (cl_e hX 15) ?_
            rw [re_up (by omega)]
            first | (refine r_inc (ls' := [some (.ref (X + 1)), o1, some (.int (m_i (l + 1))), some (.int (m_i wn))]) eRe_readTape_103 rfl rfl ?_; refine r_aln eRe_readTape_106 rfl ?_; refine r_vir eRe_readTape_107 rfl rfl rfl (cl_t hX (i := 1) rfl) rfl rfl ?_; refine c_Re_nextToken hX hok.1 h1 (fun y4 e4 h4 => ?_); refine r_go (tgt := 38) eRe_readTape_110 rfl ?_; exact hgo1 y1 (by omega) e1 h1 (by omega) y4 _ e4 h4) | (have t2f : m_up J1 (X + 15) wn.toNat (J1 (X + 15) wn.toNat + 1) (X + 2) = J (X + 2) := (funext (fun i => m_up_o (by omega))).trans ef; have t6 : m_up J1 (X + 15) wn.toNat (J1 (X + 15) wn.toNat + 1) (X + 1) 6 = J (X + 1) 6 := (m_up_o (by omega)).trans e6; refine r_inc (ls' := [some (.ref (X + 1)), o1, some (.int (m_i (l + 1))), some (.int (m_i wn))]) eRe_readTape_103 rfl rfl ?_; refine r_aln eRe_readTape_106 rfl ?_; refine r_vir eRe_readTape_107 rfl rfl rfl (cl_t hX (i := 1) rfl) rfl rfl ?_; refine c_Re_nextToken (J := m_up J1 (X + 15) wn.toNat (J1 (X + 15) wn.toNat + 1)) hX (by rw [t2f, t6]; exact hok.1) (by rw [t6]; exact h3) (fun y4 e4 h4 => ?_); rw [t2f, t6] at e4; rw [t6] at h4; refine r_go (tgt := 38) eRe_readTape_110 rfl ?_; exact hgo2 y1 (by omega) e1 (by omega) J1 y2 e2 hok1 hfr1 y3 y4 _ e3 e4 h4)
end TP
