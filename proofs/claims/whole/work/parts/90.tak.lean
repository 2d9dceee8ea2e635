/-! takeText of the reference -/
/-- rows lo to hi: the first k places are those o further on -/
def a_td (J : Nat → Nat → Int) (lo hi o : Nat) (k : Int) : Nat → Nat → Int := fun b i => if (lo ≤ b ∧ b ≤ hi) ∧ (i : Int) < k then J b (o + i) else J b i
section TD
variable {J : Nat → Nat → Int} {lo hi o : Nat}
theorem a_td_0 : a_td J lo hi o 0 = J := by
  funext b i
  exact if_neg (by omega)
theorem a_td_x {k : Int} {b i : Nat} (h : ¬ ((lo ≤ b ∧ b ≤ hi) ∧ (i : Int) < k)) : a_td J lo hi o k b i = J b i := if_neg h
theorem a_td_i {k : Int} {b i : Nat} (h : (lo ≤ b ∧ b ≤ hi) ∧ (i : Int) < k) : a_td J lo hi o k b i = J b (o + i) := if_pos h
theorem a_td_s2 {k : Nat} {u v : Int} (hu : u = J lo (o + k)) (hv : v = J (lo + 1) (o + k)) : m_up (m_up (a_td J lo (lo + 1) o (k : Int)) lo k u) (lo + 1) k v = a_td J lo (lo + 1) o ((k : Int) + 1) := by
  funext b i
  rw [m_up_at, m_up_at]
  by_cases h1 : b = lo + 1 ∧ i = k
  · rw [if_pos h1, a_td_i (by omega), h1.1, h1.2, hv]
  · rw [if_neg h1]
    by_cases h0 : b = lo ∧ i = k
    · rw [if_pos h0, a_td_i (by omega), h0.1, h0.2, hu]
    · rw [if_neg h0]
      by_cases h : (lo ≤ b ∧ b ≤ lo + 1) ∧ (i : Int) < k
      · rw [a_td_i h, a_td_i (by omega)]
      · rw [a_td_x h, a_td_x (by omega)]
theorem a_td_s6 {k : Nat} {u0 u1 u2 u3 u4 u5 : Int} (h0 : u0 = J lo (o + k)) (h1 : u1 = J (lo + 1) (o + k)) (h2 : u2 = J (lo + 2) (o + k)) (h3 : u3 = J (lo + 3) (o + k)) (h4 : u4 = J (lo + 4) (o + k)) (h5 : u5 = J (lo + 5) (o + k)) : m_up (m_up (m_up (m_up (m_up (m_up (a_td J lo (lo + 5) o (k : Int)) lo k u0) (lo + 1) k u1) (lo + 2) k u2) (lo + 3) k u3) (lo + 4) k u4) (lo + 5) k u5 = a_td J lo (lo + 5) o ((k : Int) + 1) := by
  funext b i
  rw [m_up_at, m_up_at, m_up_at, m_up_at, m_up_at, m_up_at]
  by_cases g5 : b = lo + 5 ∧ i = k
  · rw [if_pos g5, a_td_i (by omega), g5.1, g5.2, h5]
  · rw [if_neg g5]
    by_cases g4 : b = lo + 4 ∧ i = k
    · rw [if_pos g4, a_td_i (by omega), g4.1, g4.2, h4]
    · rw [if_neg g4]
      by_cases g3 : b = lo + 3 ∧ i = k
      · rw [if_pos g3, a_td_i (by omega), g3.1, g3.2, h3]
      · rw [if_neg g3]
        by_cases g2 : b = lo + 2 ∧ i = k
        · rw [if_pos g2, a_td_i (by omega), g2.1, g2.2, h2]
        · rw [if_neg g2]
          by_cases g1 : b = lo + 1 ∧ i = k
          · rw [if_pos g1, a_td_i (by omega), g1.1, g1.2, h1]
          · rw [if_neg g1]
            by_cases g0 : b = lo ∧ i = k
            · rw [if_pos g0, a_td_i (by omega), g0.1, g0.2, h0]
            · rw [if_neg g0]
              by_cases h : (lo ≤ b ∧ b ≤ lo + 5) ∧ (i : Int) < k
              · rw [a_td_i h, a_td_i (by omega)]
              · rw [a_td_x h, a_td_x (by omega)]
end TD
section MDTT
variable {en : Nat → Nat} {d : Nat} {T : Nat → Option (Nat × Nat)} {J J0 J1 B : Nat → Nat → Int} {P : Nat → Nat → Option Nat} {L : Nat → Nat → Int64} {z w M : Nat} {Q : m_Q} {σ : a_S} {a p s v k g : Int}
theorem w_Md_reading (hM : md_sh en M T P) {y : Int} (hy : 0 ≤ y ∧ y < 13) {u : Int} (eu : J (M + 2) (13 + y).toNat = u) (hq : Q (some (.int (m_i u))) (T, m_I J, P, L, z, w)) : m_call en (d + 1) mMd_reading [.ref M, .int (m_i y)] (T, m_I J, P, L, z, w) Q := by
  have h := c_Md_reading (d := d) (z := z) (w := w) (L := L) (P := P) (Q := Q) (J := J) (a := J M 21) (p := J M 22) (s := J M 23) (v := J M 24) (k := J M 25) (g := J M 26) hM hy (by rw [q_id, eu]; exact hq)
  rw [q_id] at h
  exact h
theorem l_Md_tt1 (hM : md_sh en M T P) (hq : ∀ o2, m_wp en (d + 1) mMd_takeText 25 [some (.ref M), some (.int (m_i 13)), o2] [] (T, m_I (m_fl J (M + 2) 0 (fun i => J (M + 2) (13 + i)) 13), P, L, z, w) Q) :
    ∀ (m i : Nat) (o2 : Option Value), i + m = 13 → m_wp en (d + 1) mMd_takeText 2 [some (.ref M), some (.int (m_i (i : Int))), o2] [] (T, m_I (m_fl J (M + 2) 0 (fun i => J (M + 2) (13 + i)) (i : Int)), P, L, z, w) Q := by
  intro m
  induction m with
  | zero =>
    intro i o2 him
    obtain rfl : i = 13 := by omega
    refine r_iln eMd_takeText_2 rfl ?_
    refine r_bip eMd_takeText_3 (by decide) ?_
    refine r_cge (tgt := 25) eMd_takeText_5 rfl ⟨(by omega), (by omega)⟩ ⟨(by omega), (by omega)⟩ (fun c5 => ?_) (fun c5 => ?_)
    · exact hq _
    · exfalso; omega
  | succ m ih =>
    intro i o2 him
    have e13 : m_fl J (M + 2) 0 (fun i => J (M + 2) (13 + i)) (i : Int) (M + 2) (13 + (i : Int)).toNat = J (M + 2) (13 + i) := by
      rw [m_fl_x (by omega)]
      congr 1
    have hi := ih (i + 1) o2 (by omega)
    rw [show ((i + 1 : Nat) : Int) = (i : Int) + 1 by omega, ← m_fl_s (n := (i : Int).toNat) (v := J (M + 2) (13 + i)) (by omega) (by omega) (by rw [Int.toNat_natCast])] at hi
    refine r_iln eMd_takeText_2 rfl ?_
    refine r_bip eMd_takeText_3 (by decide) ?_
    refine r_cge (tgt := 25) eMd_takeText_5 rfl ⟨(by omega), (by omega)⟩ ⟨(by omega), (by omega)⟩ (fun c5 => ?_) (fun c5 => ?_)
    · exfalso; omega
    · refine r_aln eMd_takeText_8 rfl ?_
      refine m_getR eMd_takeText_9 rfl hM.2.1 (md_number_p hM) ?_
      refine r_iln eMd_takeText_12 rfl ?_
      refine r_aln eMd_takeText_13 rfl ?_
      refine r_iln eMd_takeText_14 rfl ?_
      refine r_vir eMd_takeText_15 rfl rfl rfl hM.2.1 rfl rfl ?_
      refine w_Md_reading hM (by omega) e13 ?_
      show m_wp en _ mMd_takeText 18 [some (.ref M), some (.int (m_i ((i : Int)))), o2] [(.int (m_i (J (M + 2) (13 + i)))), (.int (m_i ((i : Int)))), (.ref (M + 2))] (T, m_I ((m_fl J (M + 2) 0 (fun i => J (M + 2) (13 + i)) (i : Int))), P, L, z, w) Q
      refine r_iast eMd_takeText_18 (md_number_t hM) (by decide) (by omega) (by omega) (md_b hM 2) ?_
      refine r_inc (ls' := [some (.ref M), some (.int (m_i ((i : Int) + 1))), o2]) eMd_takeText_19 rfl rfl ?_
      refine r_go (tgt := 2) eMd_takeText_22 rfl ?_
      exact hi
theorem l_Md_tt2 (hM : md_sh en M T P) (hq : ∀ o2, m_wp en d mMd_takeText 129 [some (.ref M), some (.int (m_i 6)), o2] [] (T, m_I (a_td J (M + 4) (M + 9) 6 6), P, L, z, w) Q) :
    ∀ (m i : Nat) (o2 : Option Value), i + m = 6 → m_wp en d mMd_takeText 27 [some (.ref M), some (.int (m_i (i : Int))), o2] [] (T, m_I (a_td J (M + 4) (M + 9) 6 (i : Int)), P, L, z, w) Q := by
  intro m
  induction m with
  | zero =>
    intro i o2 him
    obtain rfl : i = 6 := by omega
    refine r_iln eMd_takeText_27 rfl ?_
    refine r_bip eMd_takeText_28 (by decide) ?_
    refine r_cge (tgt := 129) eMd_takeText_30 rfl ⟨(by omega), (by omega)⟩ ⟨(by omega), (by omega)⟩ (fun c30 => ?_) (fun c30 => ?_)
    · exact hq _
    · exfalso; omega
  | succ m ih =>
    intro i o2 him
    have ev : ∀ b, M + 4 ≤ b ∧ b ≤ M + 9 → a_td J (M + 4) (M + 9) 6 (i : Int) b (6 + (i : Int)).toNat = J b (6 + i) := fun b hb => by
      rw [a_td_x (by omega)]
      congr 1
    have hi := ih (i + 1) o2 (by omega)
    rw [show ((i + 1 : Nat) : Int) = (i : Int) + 1 by omega, ← a_td_s6 (J := J) (lo := M + 4) (o := 6) (k := i) (ev (M + 4) (by omega)) (ev (M + 5) (by omega)) (ev (M + 6) (by omega)) (ev (M + 7) (by omega)) (ev (M + 8) (by omega)) (ev (M + 9) (by omega))] at hi
    refine r_iln eMd_takeText_27 rfl ?_
    refine r_bip eMd_takeText_28 (by decide) ?_
    refine r_cge (tgt := 129) eMd_takeText_30 rfl ⟨(by omega), (by omega)⟩ ⟨(by omega), (by omega)⟩ (fun c30 => ?_) (fun c30 => ?_)
    · exfalso; omega
    · refine r_aln eMd_takeText_33 rfl ?_
      refine m_getR eMd_takeText_34 rfl hM.2.1 (md_spotName_p hM) ?_
      refine r_iln eMd_takeText_37 rfl ?_
      refine r_aln eMd_takeText_38 rfl ?_
      refine m_getR eMd_takeText_39 rfl hM.2.1 (md_spotName_p hM) ?_
      refine r_bip eMd_takeText_42 (by decide) ?_
      refine r_iln eMd_takeText_44 rfl ?_
      refine r_add eMd_takeText_45 ?_
      refine r_ialde (x := (a_td J (M + 4) (M + 9) 6 (i : Int)) (M + 4) (((6) + ((i : Int))).toNat)) eMd_takeText_46 (md_spotName_t hM) (by decide) (by omega) (by omega) rfl ?_
      refine r_iast eMd_takeText_47 (md_spotName_t hM) (by decide) (by omega) (by omega) (md_b hM 4) ?_
      refine r_aln eMd_takeText_48 rfl ?_
      refine m_getR eMd_takeText_49 rfl hM.2.1 (md_spotColumn_p hM) ?_
      refine r_iln eMd_takeText_52 rfl ?_
      refine r_aln eMd_takeText_53 rfl ?_
      refine m_getR eMd_takeText_54 rfl hM.2.1 (md_spotColumn_p hM) ?_
      refine r_bip eMd_takeText_57 (by decide) ?_
      refine r_iln eMd_takeText_59 rfl ?_
      refine r_add eMd_takeText_60 ?_
      refine r_ialde (x := (a_td J (M + 4) (M + 9) 6 (i : Int)) (M + 5) (((6) + ((i : Int))).toNat)) eMd_takeText_61 (md_spotColumn_t hM) (by decide) (by omega) (by omega) (by simp [m_up, md_put_at, m_fl]) ?_
      refine r_iast eMd_takeText_62 (md_spotColumn_t hM) (by decide) (by omega) (by omega) (md_b hM 5) ?_
      refine r_aln eMd_takeText_63 rfl ?_
      refine m_getR eMd_takeText_64 rfl hM.2.1 (md_spotDepth_p hM) ?_
      refine r_iln eMd_takeText_67 rfl ?_
      refine r_aln eMd_takeText_68 rfl ?_
      refine m_getR eMd_takeText_69 rfl hM.2.1 (md_spotDepth_p hM) ?_
      refine r_bip eMd_takeText_72 (by decide) ?_
      refine r_iln eMd_takeText_74 rfl ?_
      refine r_add eMd_takeText_75 ?_
      refine r_ialde (x := (a_td J (M + 4) (M + 9) 6 (i : Int)) (M + 6) (((6) + ((i : Int))).toNat)) eMd_takeText_76 (md_spotDepth_t hM) (by decide) (by omega) (by omega) (by simp [m_up, md_put_at, m_fl]) ?_
      refine r_iast eMd_takeText_77 (md_spotDepth_t hM) (by decide) (by omega) (by omega) (md_b hM 6) ?_
      refine r_aln eMd_takeText_78 rfl ?_
      refine m_getR eMd_takeText_79 rfl hM.2.1 (md_blockFrom_p hM) ?_
      refine r_iln eMd_takeText_82 rfl ?_
      refine r_aln eMd_takeText_83 rfl ?_
      refine m_getR eMd_takeText_84 rfl hM.2.1 (md_blockFrom_p hM) ?_
      refine r_bip eMd_takeText_87 (by decide) ?_
      refine r_iln eMd_takeText_89 rfl ?_
      refine r_add eMd_takeText_90 ?_
      refine r_ialde (x := (a_td J (M + 4) (M + 9) 6 (i : Int)) (M + 7) (((6) + ((i : Int))).toNat)) eMd_takeText_91 (md_blockFrom_t hM) (by decide) (by omega) (by omega) (by simp [m_up, md_put_at, m_fl]) ?_
      refine r_iast eMd_takeText_92 (md_blockFrom_t hM) (by decide) (by omega) (by omega) (md_b hM 7) ?_
      refine r_aln eMd_takeText_93 rfl ?_
      refine m_getR eMd_takeText_94 rfl hM.2.1 (md_blockTo_p hM) ?_
      refine r_iln eMd_takeText_97 rfl ?_
      refine r_aln eMd_takeText_98 rfl ?_
      refine m_getR eMd_takeText_99 rfl hM.2.1 (md_blockTo_p hM) ?_
      refine r_bip eMd_takeText_102 (by decide) ?_
      refine r_iln eMd_takeText_104 rfl ?_
      refine r_add eMd_takeText_105 ?_
      refine r_ialde (x := (a_td J (M + 4) (M + 9) 6 (i : Int)) (M + 8) (((6) + ((i : Int))).toNat)) eMd_takeText_106 (md_blockTo_t hM) (by decide) (by omega) (by omega) (by simp [m_up, md_put_at, m_fl]) ?_
      refine r_iast eMd_takeText_107 (md_blockTo_t hM) (by decide) (by omega) (by omega) (md_b hM 8) ?_
      refine r_aln eMd_takeText_108 rfl ?_
      refine m_getR eMd_takeText_109 rfl hM.2.1 (md_blockFree_p hM) ?_
      refine r_iln eMd_takeText_112 rfl ?_
      refine r_aln eMd_takeText_113 rfl ?_
      refine m_getR eMd_takeText_114 rfl hM.2.1 (md_blockFree_p hM) ?_
      refine r_bip eMd_takeText_117 (by decide) ?_
      refine r_iln eMd_takeText_119 rfl ?_
      refine r_add eMd_takeText_120 ?_
      refine r_ialde (x := (a_td J (M + 4) (M + 9) 6 (i : Int)) (M + 9) (((6) + ((i : Int))).toNat)) eMd_takeText_121 (md_blockFree_t hM) (by decide) (by omega) (by omega) (by simp [m_up, md_put_at, m_fl]) ?_
      refine r_iast eMd_takeText_122 (md_blockFree_t hM) (by decide) (by omega) (by omega) (md_b hM 9) ?_
      refine r_inc (ls' := [some (.ref M), some (.int (m_i ((i : Int) + 1))), o2]) eMd_takeText_123 rfl rfl ?_
      refine r_go (tgt := 27) eMd_takeText_126 rfl ?_
      exact hi
theorem l_Md_tt3 (hM : md_sh en M T P) (hq : ∀ o2, m_wp en d mMd_takeText 173 [some (.ref M), some (.int (m_i 8)), o2] [] (T, m_I (a_td J (M + 10) (M + 11) 8 8), P, L, z, w) Q) :
    ∀ (m i : Nat) (o2 : Option Value), i + m = 8 → m_wp en d mMd_takeText 131 [some (.ref M), some (.int (m_i (i : Int))), o2] [] (T, m_I (a_td J (M + 10) (M + 11) 8 (i : Int)), P, L, z, w) Q := by
  intro m
  induction m with
  | zero =>
    intro i o2 him
    obtain rfl : i = 8 := by omega
    refine r_iln eMd_takeText_131 rfl ?_
    refine r_bip eMd_takeText_132 (by decide) ?_
    refine r_cge (tgt := 173) eMd_takeText_134 rfl ⟨(by omega), (by omega)⟩ ⟨(by omega), (by omega)⟩ (fun c134 => ?_) (fun c134 => ?_)
    · exact hq _
    · exfalso; omega
  | succ m ih =>
    intro i o2 him
    have ev : ∀ b, M + 10 ≤ b ∧ b ≤ M + 11 → a_td J (M + 10) (M + 11) 8 (i : Int) b (8 + (i : Int)).toNat = J b (8 + i) := fun b hb => by
      rw [a_td_x (by omega)]
      congr 1
    have hi := ih (i + 1) o2 (by omega)
    rw [show ((i + 1 : Nat) : Int) = (i : Int) + 1 by omega, ← a_td_s2 (J := J) (lo := M + 10) (o := 8) (k := i) (ev (M + 10) (by omega)) (ev (M + 11) (by omega))] at hi
    refine r_iln eMd_takeText_131 rfl ?_
    refine r_bip eMd_takeText_132 (by decide) ?_
    refine r_cge (tgt := 173) eMd_takeText_134 rfl ⟨(by omega), (by omega)⟩ ⟨(by omega), (by omega)⟩ (fun c134 => ?_) (fun c134 => ?_)
    · exfalso; omega
    · refine r_aln eMd_takeText_137 rfl ?_
      refine m_getR eMd_takeText_138 rfl hM.2.1 (md_windAt_p hM) ?_
      refine r_iln eMd_takeText_141 rfl ?_
      refine r_aln eMd_takeText_142 rfl ?_
      refine m_getR eMd_takeText_143 rfl hM.2.1 (md_windAt_p hM) ?_
      refine r_bip eMd_takeText_146 (by decide) ?_
      refine r_iln eMd_takeText_148 rfl ?_
      refine r_add eMd_takeText_149 ?_
      refine r_ialde (x := (a_td J (M + 10) (M + 11) 8 (i : Int)) (M + 10) (((8) + ((i : Int))).toNat)) eMd_takeText_150 (md_windAt_t hM) (by decide) (by omega) (by omega) rfl ?_
      refine r_iast eMd_takeText_151 (md_windAt_t hM) (by decide) (by omega) (by omega) (md_b hM 10) ?_
      refine r_aln eMd_takeText_152 rfl ?_
      refine m_getR eMd_takeText_153 rfl hM.2.1 (md_windBy_p hM) ?_
      refine r_iln eMd_takeText_156 rfl ?_
      refine r_aln eMd_takeText_157 rfl ?_
      refine m_getR eMd_takeText_158 rfl hM.2.1 (md_windBy_p hM) ?_
      refine r_bip eMd_takeText_161 (by decide) ?_
      refine r_iln eMd_takeText_163 rfl ?_
      refine r_add eMd_takeText_164 ?_
      refine r_ialde (x := (a_td J (M + 10) (M + 11) 8 (i : Int)) (M + 11) (((8) + ((i : Int))).toNat)) eMd_takeText_165 (md_windBy_t hM) (by decide) (by omega) (by omega) (by simp [m_up, md_put_at, m_fl]) ?_
      refine r_iast eMd_takeText_166 (md_windBy_t hM) (by decide) (by omega) (by omega) (md_b hM 11) ?_
      refine r_inc (ls' := [some (.ref M), some (.int (m_i ((i : Int) + 1))), o2]) eMd_takeText_167 rfl rfl ?_
      refine r_go (tgt := 131) eMd_takeText_170 rfl ?_
      exact hi
theorem l_Md_tt4 (hM : md_sh en M T P) (hq : ∀ o2, m_wp en d mMd_takeText 217 [some (.ref M), some (.int (m_i 16)), o2] [] (T, m_I (a_td J (M + 12) (M + 13) 16 16), P, L, z, w) Q) :
    ∀ (m i : Nat) (o2 : Option Value), i + m = 16 → m_wp en d mMd_takeText 175 [some (.ref M), some (.int (m_i (i : Int))), o2] [] (T, m_I (a_td J (M + 12) (M + 13) 16 (i : Int)), P, L, z, w) Q := by
  intro m
  induction m with
  | zero =>
    intro i o2 him
    obtain rfl : i = 16 := by omega
    refine r_iln eMd_takeText_175 rfl ?_
    refine r_bip eMd_takeText_176 (by decide) ?_
    refine r_cge (tgt := 217) eMd_takeText_178 rfl ⟨(by omega), (by omega)⟩ ⟨(by omega), (by omega)⟩ (fun c178 => ?_) (fun c178 => ?_)
    · exact hq _
    · exfalso; omega
  | succ m ih =>
    intro i o2 him
    have ev : ∀ b, M + 12 ≤ b ∧ b ≤ M + 13 → a_td J (M + 12) (M + 13) 16 (i : Int) b (16 + (i : Int)).toNat = J b (16 + i) := fun b hb => by
      rw [a_td_x (by omega)]
      congr 1
    have hi := ih (i + 1) o2 (by omega)
    rw [show ((i + 1 : Nat) : Int) = (i : Int) + 1 by omega, ← a_td_s2 (J := J) (lo := M + 12) (o := 16) (k := i) (ev (M + 12) (by omega)) (ev (M + 13) (by omega))] at hi
    refine r_iln eMd_takeText_175 rfl ?_
    refine r_bip eMd_takeText_176 (by decide) ?_
    refine r_cge (tgt := 217) eMd_takeText_178 rfl ⟨(by omega), (by omega)⟩ ⟨(by omega), (by omega)⟩ (fun c178 => ?_) (fun c178 => ?_)
    · exfalso; omega
    · refine r_aln eMd_takeText_181 rfl ?_
      refine m_getR eMd_takeText_182 rfl hM.2.1 (md_order_p hM) ?_
      refine r_iln eMd_takeText_185 rfl ?_
      refine r_aln eMd_takeText_186 rfl ?_
      refine m_getR eMd_takeText_187 rfl hM.2.1 (md_order_p hM) ?_
      refine r_bip eMd_takeText_190 (by decide) ?_
      refine r_iln eMd_takeText_192 rfl ?_
      refine r_add eMd_takeText_193 ?_
      refine r_ialde (x := (a_td J (M + 12) (M + 13) 16 (i : Int)) (M + 12) (((16) + ((i : Int))).toNat)) eMd_takeText_194 (md_order_t hM) (by decide) (by omega) (by omega) rfl ?_
      refine r_iast eMd_takeText_195 (md_order_t hM) (by decide) (by omega) (by omega) (md_b hM 12) ?_
      refine r_aln eMd_takeText_196 rfl ?_
      refine m_getR eMd_takeText_197 rfl hM.2.1 (md_orderTimes_p hM) ?_
      refine r_iln eMd_takeText_200 rfl ?_
      refine r_aln eMd_takeText_201 rfl ?_
      refine m_getR eMd_takeText_202 rfl hM.2.1 (md_orderTimes_p hM) ?_
      refine r_bip eMd_takeText_205 (by decide) ?_
      refine r_iln eMd_takeText_207 rfl ?_
      refine r_add eMd_takeText_208 ?_
      refine r_ialde (x := (a_td J (M + 12) (M + 13) 16 (i : Int)) (M + 13) (((16) + ((i : Int))).toNat)) eMd_takeText_209 (md_orderTimes_t hM) (by decide) (by omega) (by omega) (by simp [m_up, md_put_at, m_fl]) ?_
      refine r_iast eMd_takeText_210 (md_orderTimes_t hM) (by decide) (by omega) (by omega) (md_b hM 13) ?_
      refine r_inc (ls' := [some (.ref M), some (.int (m_i ((i : Int) + 1))), o2]) eMd_takeText_211 rfl rfl ?_
      refine r_go (tgt := 175) eMd_takeText_214 rfl ?_
      exact hi
theorem l_Md_tt5 (hM : md_sh en M T P) (hq : ∀ o2, m_wp en d mMd_takeText 258 [some (.ref M), some (.int (m_i 3)), o2] [] (T, m_I (a_td J (M + 14) (M + 15) 3 3), P, L, z, w) Q) :
    ∀ (m i : Nat) (o2 : Option Value), i + m = 3 → m_wp en d mMd_takeText 219 [some (.ref M), some (.int (m_i (i : Int))), o2] [] (T, m_I (a_td J (M + 14) (M + 15) 3 (i : Int)), P, L, z, w) Q := by
  intro m
  induction m with
  | zero =>
    intro i o2 him
    obtain rfl : i = 3 := by omega
    refine r_iln eMd_takeText_219 rfl ?_
    refine r_con eMd_takeText_220 ?_
    refine r_cge (tgt := 258) eMd_takeText_221 rfl ⟨(by omega), (by omega)⟩ ⟨(by omega), (by omega)⟩ (fun c221 => ?_) (fun c221 => ?_)
    · exact hq _
    · exfalso; omega
  | succ m ih =>
    intro i o2 him
    have ev : ∀ b, M + 14 ≤ b ∧ b ≤ M + 15 → a_td J (M + 14) (M + 15) 3 (i : Int) b (3 + (i : Int)).toNat = J b (3 + i) := fun b hb => by
      rw [a_td_x (by omega)]
      congr 1
    have hi := ih (i + 1) o2 (by omega)
    rw [show ((i + 1 : Nat) : Int) = (i : Int) + 1 by omega, ← a_td_s2 (J := J) (lo := M + 14) (o := 3) (k := i) (ev (M + 14) (by omega)) (ev (M + 15) (by omega))] at hi
    refine r_iln eMd_takeText_219 rfl ?_
    refine r_con eMd_takeText_220 ?_
    refine r_cge (tgt := 258) eMd_takeText_221 rfl ⟨(by omega), (by omega)⟩ ⟨(by omega), (by omega)⟩ (fun c221 => ?_) (fun c221 => ?_)
    · exfalso; omega
    · refine r_aln eMd_takeText_224 rfl ?_
      refine m_getR eMd_takeText_225 rfl hM.2.1 (md_jobFrom_p hM) ?_
      refine r_iln eMd_takeText_228 rfl ?_
      refine r_aln eMd_takeText_229 rfl ?_
      refine m_getR eMd_takeText_230 rfl hM.2.1 (md_jobFrom_p hM) ?_
      refine r_con eMd_takeText_233 ?_
      refine r_iln eMd_takeText_234 rfl ?_
      refine r_add eMd_takeText_235 ?_
      refine r_ialde (x := (a_td J (M + 14) (M + 15) 3 (i : Int)) (M + 14) (((3) + ((i : Int))).toNat)) eMd_takeText_236 (md_jobFrom_t hM) (by decide) (by omega) (by omega) rfl ?_
      refine r_iast eMd_takeText_237 (md_jobFrom_t hM) (by decide) (by omega) (by omega) (md_b hM 14) ?_
      refine r_aln eMd_takeText_238 rfl ?_
      refine m_getR eMd_takeText_239 rfl hM.2.1 (md_jobTo_p hM) ?_
      refine r_iln eMd_takeText_242 rfl ?_
      refine r_aln eMd_takeText_243 rfl ?_
      refine m_getR eMd_takeText_244 rfl hM.2.1 (md_jobTo_p hM) ?_
      refine r_con eMd_takeText_247 ?_
      refine r_iln eMd_takeText_248 rfl ?_
      refine r_add eMd_takeText_249 ?_
      refine r_ialde (x := (a_td J (M + 14) (M + 15) 3 (i : Int)) (M + 15) (((3) + ((i : Int))).toNat)) eMd_takeText_250 (md_jobTo_t hM) (by decide) (by omega) (by omega) (by simp [m_up, md_put_at, m_fl]) ?_
      refine r_iast eMd_takeText_251 (md_jobTo_t hM) (by decide) (by omega) (by omega) (md_b hM 15) ?_
      refine r_inc (ls' := [some (.ref M), some (.int (m_i ((i : Int) + 1))), o2]) eMd_takeText_252 rfl rfl ?_
      refine r_go (tgt := 219) eMd_takeText_255 rfl ?_
      exact hi
end MDTT
