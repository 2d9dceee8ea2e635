/-! the reference remembers, notes and ticks -/
def md_re1 (J : Nat → Nat → Int) (M : Nat) : Nat → Nat → Int := m_up (m_fl J (M + 23) 0 (fun i => J (M + 23) (143 + i)) 4147) M 45 29
def md_re2 (J : Nat → Nat → Int) (M : Nat) : Nat → Nat → Int := m_up (m_fl J (M + 23) (143 * J M 45).toNat (J (M + 22)) 143) M 45 (J M 45 + 1)
def md_rem (J : Nat → Nat → Int) (M : Nat) : Nat → Nat → Int := if J M 45 = 30 then md_re2 (md_re1 J M) M else md_re2 J M
/-- the three rows of the log, moved by one from k on -/
def md_nk (J : Nat → Nat → Int) (M : Nat) (k : Int) : Nat → Nat → Int := fun b i => if b = M + 22 ∧ ((23 + k < i ∧ i ≤ 62) ∨ (63 + k < i ∧ i ≤ 102) ∨ (103 + k < i ∧ i ≤ 142)) then J b (i - 1) else J b i
theorem md_nk_39 (J : Nat → Nat → Int) (M : Nat) : md_nk J M 39 = J := by
  funext b i
  exact if_neg (fun q => by have := q.2; omega)
theorem md_nk_s (J : Nat → Nat → Int) (M : Nat) {k : Int} (h0 : 0 < k) (h1 : k ≤ 39) :
    m_up (m_up (m_up (md_nk J M k) (M + 22) (23 + k).toNat (md_nk J M k (M + 22) (23 + k - 1).toNat)) (M + 22) (63 + k).toNat ((m_up (md_nk J M k) (M + 22) (23 + k).toNat (md_nk J M k (M + 22) (23 + k - 1).toNat)) (M + 22) (63 + k - 1).toNat)) (M + 22) (103 + k).toNat ((m_up (m_up (md_nk J M k) (M + 22) (23 + k).toNat (md_nk J M k (M + 22) (23 + k - 1).toNat)) (M + 22) (63 + k).toNat ((m_up (md_nk J M k) (M + 22) (23 + k).toNat (md_nk J M k (M + 22) (23 + k - 1).toNat)) (M + 22) (63 + k - 1).toNat)) (M + 22) (103 + k - 1).toNat) = md_nk J M (k + (-1)) := by
  have r1 : md_nk J M k (M + 22) (23 + k - 1).toNat = J (M + 22) (23 + k - 1).toNat := if_neg (fun q => by have := q.2; omega)
  have r2 : (m_up (md_nk J M k) (M + 22) (23 + k).toNat (md_nk J M k (M + 22) (23 + k - 1).toNat)) (M + 22) (63 + k - 1).toNat = J (M + 22) (63 + k - 1).toNat := by
    rw [m_up_at, if_neg (fun q => by have := q.2; omega)]
    exact if_neg (fun q => by have := q.2; omega)
  rw [r2]
  have r3 : (m_up (m_up (md_nk J M k) (M + 22) (23 + k).toNat (md_nk J M k (M + 22) (23 + k - 1).toNat)) (M + 22) (63 + k).toNat (J (M + 22) (63 + k - 1).toNat)) (M + 22) (103 + k - 1).toNat = J (M + 22) (103 + k - 1).toNat := by
    rw [m_up_at, if_neg (fun q => by have := q.2; omega), m_up_at, if_neg (fun q => by have := q.2; omega)]
    exact if_neg (fun q => by have := q.2; omega)
  rw [r3, r1]
  funext b i
  simp only [m_up]
  by_cases hb : b = M + 22
  · subst hb
    by_cases e3 : i = (103 + k).toNat
    · subst e3
      rw [if_pos ⟨rfl, rfl⟩]
      unfold md_nk
      rw [if_pos ⟨rfl, by omega⟩, show (103 + k - 1).toNat = (103 + k).toNat - 1 by omega]
    · rw [if_neg (fun q => e3 q.2)]
      by_cases e2 : i = (63 + k).toNat
      · subst e2
        rw [if_pos ⟨rfl, rfl⟩]
        unfold md_nk
        rw [if_pos ⟨rfl, by omega⟩, show (63 + k - 1).toNat = (63 + k).toNat - 1 by omega]
      · rw [if_neg (fun q => e2 q.2)]
        by_cases e1 : i = (23 + k).toNat
        · subst e1
          rw [if_pos ⟨rfl, rfl⟩]
          unfold md_nk
          rw [if_pos ⟨rfl, by omega⟩, show (23 + k - 1).toNat = (23 + k).toNat - 1 by omega]
        · rw [if_neg (fun q => e1 q.2)]
          unfold md_nk
          by_cases h : (23 + k < i ∧ i ≤ 62) ∨ (63 + k < i ∧ i ≤ 102) ∨ (103 + k < i ∧ i ≤ 142)
          · rw [if_pos ⟨rfl, h⟩, if_pos ⟨rfl, by omega⟩]
          · rw [if_neg (fun q => h q.2), if_neg (fun q => by have := q.2; omega)]
  · rw [if_neg (fun q => hb q.1), if_neg (fun q => hb q.1), if_neg (fun q => hb q.1)]
    unfold md_nk
    rw [if_neg (fun q => hb q.1), if_neg (fun q => hb q.1)]
/-- a tick's letter by the code of its step -/
def a_let (k : Int) : Int := if k % 3 = 2 then (if k / 3 = 0 then 119 else if k / 3 = 1 then 110 else 101) - 32 else (if k / 3 = 0 then 119 else if k / 3 = 1 then 110 else 101)
def md_note (J : Nat → Nat → Int) (M : Nat) (k : Int) : Nat → Nat → Int := m_up (m_up (m_up (m_up (md_nk J M 0) (M + 22) 23 (a_let k)) (M + 22) 63 (if k % 3 = 0 then 1 else 0)) (M + 22) 103 (J (M + 22) 1)) (M + 22) 6 (if J (M + 22) 6 < 40 then J (M + 22) 6 + 1 else 40)
section MDG
variable {en : Nat → Nat} {d : Nat} {T : Nat → Option (Nat × Nat)} {J : Nat → Nat → Int} {P : Nat → Nat → Option Nat} {L : Nat → Nat → Int64} {z w M : Nat} {Q : m_Q} {σ : a_S}
theorem l_Md_remembers (hM : md_sh en M T P) (hu : J M 45 = 30) (hq : Q none (T, m_I (md_re2 (md_re1 J M) M), P, L, z, w)) :
    ∀ (n : Nat) (k : Int), k + n = 4147 → 0 ≤ k → m_wp en (d + 1) mMd_remembers 11 [some (.ref M), some (.int (m_i k))] [] (T, m_I (m_fl J (M + 23) 0 (fun i => J (M + 23) (143 + i)) k), P, L, z, w) Q := by
  intro n
  induction n with
  | zero =>
    intro k hk h0
    obtain rfl : k = 4147 := by omega
    refine r_iln eMd_remembers_11 rfl ?_
    refine r_sip eMd_remembers_12 (by decide) ?_
    refine r_cge (tgt := 40) eMd_remembers_15 rfl ⟨(by omega), (by omega)⟩ ⟨(by omega), (by omega)⟩ (fun c15 => ?_) (fun c15 => ?_)
    · refine r_aln eMd_remembers_40 rfl ?_
      refine r_dupr eMd_remembers_41 ?_
      refine r_gete (x := J M 45) eMd_remembers_42 rfl (by decide) hM.2.1 (by simp [m_up, md_put_at, m_fl]) ?_
      refine r_con eMd_remembers_45 ?_
      refine r_sub eMd_remembers_46 ?_
      refine r_put eMd_remembers_47 rfl hM.2.1 hM.1 (Or.inl rfl) ?_
      refine r_aln eMd_remembers_50 rfl ?_
      refine r_aln eMd_remembers_51 rfl ?_
      refine r_gete (x := (J M 45) - (1)) eMd_remembers_52 rfl (by decide) hM.2.1 (by simp [m_up]) ?_
      refine r_vir eMd_remembers_55 rfl rfl rfl hM.2.1 rfl rfl ?_
      refine c_Md_laysKept hM (by omega) ?_
      show m_wp en _ mMd_remembers 58 [some (.ref M), some (.int (m_i (4147)))] [] (T, m_I ((m_fl ((m_up (m_fl J (M + 23) 0 (fun i => J (M + 23) (143 + i)) 4147) M 45 ((J M 45) - (1)))) (M + 23) (143 * ((J M 45) - (1))).toNat (((m_up (m_fl J (M + 23) 0 (fun i => J (M + 23) (143 + i)) 4147) M 45 ((J M 45) - (1)))) (M + 22)) 143)), P, L, z, w) Q
      refine r_aln eMd_remembers_58 rfl ?_
      refine r_dupr eMd_remembers_59 ?_
      refine r_gete (x := ((m_up (m_fl J (M + 23) 0 (fun i => J (M + 23) (143 + i)) 4147) M 45 ((J M 45) - (1)))) M 45) eMd_remembers_60 rfl (by decide) hM.2.1 (by simp [m_up, md_put_at, m_fl]) ?_
      refine r_con eMd_remembers_63 ?_
      refine r_add eMd_remembers_64 ?_
      refine r_put eMd_remembers_65 rfl hM.2.1 hM.1 (Or.inl rfl) ?_
      refine r_ret eMd_remembers_68 rfl ?_
      have e29 : J M 45 - 1 = 29 := by omega
      rw [e29]
      unfold md_re2 at hq
      rw [show md_re1 J M M 45 = 29 from m_up_same] at hq
      rw [m_up_same]
      exact hq
    · exfalso; omega
  | succ n ih =>
    intro k hk h0
    refine r_iln eMd_remembers_11 rfl ?_
    refine r_sip eMd_remembers_12 (by decide) ?_
    refine r_cge (tgt := 40) eMd_remembers_15 rfl ⟨(by omega), (by omega)⟩ ⟨(by omega), (by omega)⟩ (fun c15 => ?_) (fun c15 => ?_)
    · exfalso; omega
    · refine r_aln eMd_remembers_18 rfl ?_
      refine m_getR eMd_remembers_19 rfl hM.2.1 (md_kept_p hM) ?_
      refine r_iln eMd_remembers_22 rfl ?_
      refine r_aln eMd_remembers_23 rfl ?_
      refine m_getR eMd_remembers_24 rfl hM.2.1 (md_kept_p hM) ?_
      refine r_sip eMd_remembers_27 (by decide) ?_
      refine r_iln eMd_remembers_30 rfl ?_
      refine r_add eMd_remembers_31 ?_
      refine r_ialde (x := (m_fl J (M + 23) 0 (fun i => J (M + 23) (143 + i)) k) (M + 23) (((143) + (k)).toNat)) eMd_remembers_32 (md_kept_t hM) (by decide) (by omega) (by omega) rfl ?_
      refine r_iast eMd_remembers_33 (md_kept_t hM) (by decide) (by omega) (by omega) (md_b hM 23) ?_
      refine r_inc (ls' := [some (.ref M), some (.int (m_i (k + 1)))]) eMd_remembers_34 rfl rfl ?_
      refine r_go (tgt := 11) eMd_remembers_37 rfl ?_
      refine Eq.mp ?_ (ih (k + 1) (by omega) (by omega))
      rw [m_fl_s h0 (by omega) (by rw [m_fl_x (by omega), show (143 + k).toNat = 143 + k.toNat by omega])]
theorem c_Md_remembers (hM : md_sh en M T P) (hu : 0 ≤ J M 45 ∧ J M 45 ≤ 30) (hq : Q none (T, m_I (md_rem J M), P, L, z, w)) : m_call en (d + 2) mMd_remembers [.ref M] (T, m_I J, P, L, z, w) Q := by
  unfold md_rem at hq
  refine m_into (by decide) (Nat.le_of_ble_eq_true rfl) rfl ?_
  show m_wp en _ mMd_remembers 0 [some (.ref M), none] [] (T, m_I J, P, L, z, w) Q
  refine r_aln eMd_remembers_0 rfl ?_
  refine r_gete (x := J M 45) eMd_remembers_1 rfl (by decide) hM.2.1 rfl ?_
  refine r_bip eMd_remembers_4 (by decide) ?_
  refine r_cne (tgt := 50) eMd_remembers_6 rfl ⟨(by omega), (by omega)⟩ ⟨(by omega), (by omega)⟩ (fun c6 => ?_) (fun c6 => ?_)
  · refine r_aln eMd_remembers_50 rfl ?_
    refine r_aln eMd_remembers_51 rfl ?_
    refine r_gete (x := J M 45) eMd_remembers_52 rfl (by decide) hM.2.1 rfl ?_
    refine r_vir eMd_remembers_55 rfl rfl rfl hM.2.1 rfl rfl ?_
    refine c_Md_laysKept hM (by omega) ?_
    show m_wp en _ mMd_remembers 58 [some (.ref M), none] [] (T, m_I ((m_fl J (M + 23) (143 * (J M 45)).toNat (J (M + 22)) 143)), P, L, z, w) Q
    refine r_aln eMd_remembers_58 rfl ?_
    refine r_dupr eMd_remembers_59 ?_
    refine r_gete (x := J M 45) eMd_remembers_60 rfl (by decide) hM.2.1 (by simp [m_up, md_put_at, m_fl]) ?_
    refine r_con eMd_remembers_63 ?_
    refine r_add eMd_remembers_64 ?_
    refine r_put eMd_remembers_65 rfl hM.2.1 hM.1 (Or.inl rfl) ?_
    refine r_ret eMd_remembers_68 rfl ?_
    rw [if_neg (by omega)] at hq
    exact hq
  · refine r_con eMd_remembers_9 ?_
    refine r_isn (ls' := [some (.ref M), some (.int (m_i (0)))]) eMd_remembers_10 (Nat.le_of_ble_eq_true rfl) rfl ?_
    rw [if_pos (by omega)] at hq
    refine Eq.mp ?_ (l_Md_remembers (d := d) (z := z) (w := w) (L := L) (J := J) hM (by omega) hq 4147 0 (by omega) (by omega))
    rw [m_fl_0]
theorem l_Md_notes (hM : md_sh en M T P) {c : Int} (hc : 0 ≤ c ∧ c < 9) (h6 : 0 ≤ J (M + 22) 6 ∧ J (M + 22) 6 ≤ 40) (hq : Q none (T, m_I (md_note J M c), P, L, z, w)) :
    ∀ (n : Nat) (k : Int), k = n → k ≤ 39 → m_wp en d mMd_notes 3 [some (.ref M), some (.int (m_i c)), some (.int (m_i k))] [] (T, m_I (md_nk J M k), P, L, z, w) Q := by
  intro n
  induction n with
  | zero =>
    intro k hk h1
    obtain rfl : k = 0 := by omega
    have e6 : md_nk J M 0 (M + 22) 6 = J (M + 22) 6 := if_neg (fun q => by have := q.2; omega)
    have e1 : md_nk J M 0 (M + 22) 1 = J (M + 22) 1 := if_neg (fun q => by have := q.2; omega)
    unfold md_note a_let at hq
    refine r_iln eMd_notes_3 rfl ?_
    refine r_zle (tgt := 73) eMd_notes_4 rfl ⟨(by omega), (by omega)⟩ (fun c4 => ?_) (fun c4 => ?_)
    · refine r_iln eMd_notes_73 rfl ?_
      refine r_con eMd_notes_74 ?_
      refine r_div eMd_notes_75 ⟨(by omega), (by omega)⟩ ⟨(by omega), (by omega)⟩ ?_
      refine r_zne (tgt := 84) eMd_notes_76 rfl ⟨(by omega), (by omega)⟩ (fun c76 => ?_) (fun c76 => ?_)
      · refine r_iln eMd_notes_84 rfl ?_
        refine r_con eMd_notes_85 ?_
        refine r_div eMd_notes_86 ⟨(by omega), (by omega)⟩ ⟨(by omega), (by omega)⟩ ?_
        refine r_con eMd_notes_87 ?_
        refine r_cne (tgt := 96) eMd_notes_88 rfl ⟨(by omega), (by omega)⟩ ⟨(by omega), (by omega)⟩ (fun c88 => ?_) (fun c88 => ?_)
        · refine r_bip eMd_notes_96 (by decide) ?_
          refine r_isn (ls' := [some (.ref M), some (.int (m_i (c))), some (.int (m_i (101)))]) eMd_notes_98 (Nat.le_of_ble_eq_true rfl) rfl ?_
          refine r_aln eMd_notes_99 rfl ?_
          refine m_getR eMd_notes_100 rfl hM.2.1 (md_s_p hM) ?_
          refine r_bip eMd_notes_103 (by decide) ?_
          refine r_iln eMd_notes_105 rfl ?_
          refine r_con eMd_notes_106 ?_
          refine r_rem eMd_notes_107 ⟨(by omega), (by omega)⟩ ⟨(by omega), (by omega)⟩ ?_
          refine r_con eMd_notes_108 ?_
          refine r_cne (tgt := 119) eMd_notes_109 rfl ⟨(by omega), (by omega)⟩ ⟨(by omega), (by omega)⟩ (fun c109 => ?_) (fun c109 => ?_)
          · refine r_iln eMd_notes_119 rfl ?_
            refine r_iast eMd_notes_120 (md_s_t hM) (by decide) (by omega) (by omega) (md_b hM 22) ?_
            refine r_aln eMd_notes_121 rfl ?_
            refine m_getR eMd_notes_122 rfl hM.2.1 (md_s_p hM) ?_
            refine r_bip eMd_notes_125 (by decide) ?_
            refine r_iln eMd_notes_127 rfl ?_
            refine r_con eMd_notes_128 ?_
            refine r_rem eMd_notes_129 ⟨(by omega), (by omega)⟩ ⟨(by omega), (by omega)⟩ ?_
            refine r_zne (tgt := 137) eMd_notes_130 rfl ⟨(by omega), (by omega)⟩ (fun c130 => ?_) (fun c130 => ?_)
            · refine r_con eMd_notes_137 ?_
              refine r_iast eMd_notes_138 (md_s_t hM) (by decide) (by omega) (by omega) (md_b hM 22) ?_
              refine r_aln eMd_notes_139 rfl ?_
              refine m_getR eMd_notes_140 rfl hM.2.1 (md_s_p hM) ?_
              refine r_bip eMd_notes_143 (by decide) ?_
              refine r_aln eMd_notes_145 rfl ?_
              refine m_getR eMd_notes_146 rfl hM.2.1 (md_s_p hM) ?_
              refine r_con eMd_notes_149 ?_
              refine r_ialde (x := (md_nk J M 0) (M + 22) 1) eMd_notes_150 (md_s_t hM) (by decide) (by omega) (by omega) (by simp [m_up, md_put_at, m_fl]) ?_
              refine r_iast eMd_notes_151 (md_s_t hM) (by decide) (by omega) (by omega) (md_b hM 22) ?_
              refine r_aln eMd_notes_152 rfl ?_
              refine m_getR eMd_notes_153 rfl hM.2.1 (md_s_p hM) ?_
              refine r_bip eMd_notes_156 (by decide) ?_
              refine r_aln eMd_notes_158 rfl ?_
              refine m_getR eMd_notes_159 rfl hM.2.1 (md_s_p hM) ?_
              refine r_bip eMd_notes_162 (by decide) ?_
              refine r_ialde (x := (md_nk J M 0) (M + 22) 6) eMd_notes_164 (md_s_t hM) (by decide) (by omega) (by omega) (by simp [m_up, md_put_at, m_fl]) ?_
              refine r_bip eMd_notes_165 (by decide) ?_
              refine r_cge (tgt := 182) eMd_notes_167 rfl ⟨(by omega), (by omega)⟩ ⟨(by omega), (by omega)⟩ (fun c167 => ?_) (fun c167 => ?_)
              · refine r_bip eMd_notes_182 (by decide) ?_
                refine r_iast eMd_notes_184 (md_s_t hM) (by decide) (by omega) (by omega) (md_b hM 22) ?_
                refine r_ret eMd_notes_185 rfl ?_
                first | (exfalso; omega) | (simp only [e6, e1] at *; (repeat (first | rw [if_pos (by omega)] at hq | rw [if_neg (by omega)] at hq)); exact hq)
              · refine r_aln eMd_notes_170 rfl ?_
                refine m_getR eMd_notes_171 rfl hM.2.1 (md_s_p hM) ?_
                refine r_bip eMd_notes_174 (by decide) ?_
                refine r_ialde (x := (md_nk J M 0) (M + 22) 6) eMd_notes_176 (md_s_t hM) (by decide) (by omega) (by omega) (by simp [m_up, md_put_at, m_fl]) ?_
                refine r_con eMd_notes_177 ?_
                refine r_add eMd_notes_178 ?_
                refine r_go (tgt := 184) eMd_notes_179 rfl ?_
                refine r_iast eMd_notes_184 (md_s_t hM) (by decide) (by omega) (by omega) (md_b hM 22) ?_
                refine r_ret eMd_notes_185 rfl ?_
                first | (exfalso; omega) | (simp only [e6, e1] at *; (repeat (first | rw [if_pos (by omega)] at hq | rw [if_neg (by omega)] at hq)); exact hq)
            · refine r_con eMd_notes_133 ?_
              refine r_go (tgt := 138) eMd_notes_134 rfl ?_
              refine r_iast eMd_notes_138 (md_s_t hM) (by decide) (by omega) (by omega) (md_b hM 22) ?_
              refine r_aln eMd_notes_139 rfl ?_
              refine m_getR eMd_notes_140 rfl hM.2.1 (md_s_p hM) ?_
              refine r_bip eMd_notes_143 (by decide) ?_
              refine r_aln eMd_notes_145 rfl ?_
              refine m_getR eMd_notes_146 rfl hM.2.1 (md_s_p hM) ?_
              refine r_con eMd_notes_149 ?_
              refine r_ialde (x := (md_nk J M 0) (M + 22) 1) eMd_notes_150 (md_s_t hM) (by decide) (by omega) (by omega) (by simp [m_up, md_put_at, m_fl]) ?_
              refine r_iast eMd_notes_151 (md_s_t hM) (by decide) (by omega) (by omega) (md_b hM 22) ?_
              refine r_aln eMd_notes_152 rfl ?_
              refine m_getR eMd_notes_153 rfl hM.2.1 (md_s_p hM) ?_
              refine r_bip eMd_notes_156 (by decide) ?_
              refine r_aln eMd_notes_158 rfl ?_
              refine m_getR eMd_notes_159 rfl hM.2.1 (md_s_p hM) ?_
              refine r_bip eMd_notes_162 (by decide) ?_
              refine r_ialde (x := (md_nk J M 0) (M + 22) 6) eMd_notes_164 (md_s_t hM) (by decide) (by omega) (by omega) (by simp [m_up, md_put_at, m_fl]) ?_
              refine r_bip eMd_notes_165 (by decide) ?_
              refine r_cge (tgt := 182) eMd_notes_167 rfl ⟨(by omega), (by omega)⟩ ⟨(by omega), (by omega)⟩ (fun c167 => ?_) (fun c167 => ?_)
              · refine r_bip eMd_notes_182 (by decide) ?_
                refine r_iast eMd_notes_184 (md_s_t hM) (by decide) (by omega) (by omega) (md_b hM 22) ?_
                refine r_ret eMd_notes_185 rfl ?_
                first | (exfalso; omega) | (simp only [e6, e1] at *; (repeat (first | rw [if_pos (by omega)] at hq | rw [if_neg (by omega)] at hq)); exact hq)
              · refine r_aln eMd_notes_170 rfl ?_
                refine m_getR eMd_notes_171 rfl hM.2.1 (md_s_p hM) ?_
                refine r_bip eMd_notes_174 (by decide) ?_
                refine r_ialde (x := (md_nk J M 0) (M + 22) 6) eMd_notes_176 (md_s_t hM) (by decide) (by omega) (by omega) (by simp [m_up, md_put_at, m_fl]) ?_
                refine r_con eMd_notes_177 ?_
                refine r_add eMd_notes_178 ?_
                refine r_go (tgt := 184) eMd_notes_179 rfl ?_
                refine r_iast eMd_notes_184 (md_s_t hM) (by decide) (by omega) (by omega) (md_b hM 22) ?_
                refine r_ret eMd_notes_185 rfl ?_
                first | (exfalso; omega) | (simp only [e6, e1] at *; (repeat (first | rw [if_pos (by omega)] at hq | rw [if_neg (by omega)] at hq)); exact hq)
          · refine r_iln eMd_notes_112 rfl ?_
            refine r_bip eMd_notes_113 (by decide) ?_
            refine r_sub eMd_notes_115 ?_
            refine r_go (tgt := 120) eMd_notes_116 rfl ?_
            refine r_iast eMd_notes_120 (md_s_t hM) (by decide) (by omega) (by omega) (md_b hM 22) ?_
            refine r_aln eMd_notes_121 rfl ?_
            refine m_getR eMd_notes_122 rfl hM.2.1 (md_s_p hM) ?_
            refine r_bip eMd_notes_125 (by decide) ?_
            refine r_iln eMd_notes_127 rfl ?_
            refine r_con eMd_notes_128 ?_
            refine r_rem eMd_notes_129 ⟨(by omega), (by omega)⟩ ⟨(by omega), (by omega)⟩ ?_
            refine r_zne (tgt := 137) eMd_notes_130 rfl ⟨(by omega), (by omega)⟩ (fun c130 => ?_) (fun c130 => ?_)
            · refine r_con eMd_notes_137 ?_
              refine r_iast eMd_notes_138 (md_s_t hM) (by decide) (by omega) (by omega) (md_b hM 22) ?_
              refine r_aln eMd_notes_139 rfl ?_
              refine m_getR eMd_notes_140 rfl hM.2.1 (md_s_p hM) ?_
              refine r_bip eMd_notes_143 (by decide) ?_
              refine r_aln eMd_notes_145 rfl ?_
              refine m_getR eMd_notes_146 rfl hM.2.1 (md_s_p hM) ?_
              refine r_con eMd_notes_149 ?_
              refine r_ialde (x := (md_nk J M 0) (M + 22) 1) eMd_notes_150 (md_s_t hM) (by decide) (by omega) (by omega) (by simp [m_up, md_put_at, m_fl]) ?_
              refine r_iast eMd_notes_151 (md_s_t hM) (by decide) (by omega) (by omega) (md_b hM 22) ?_
              refine r_aln eMd_notes_152 rfl ?_
              refine m_getR eMd_notes_153 rfl hM.2.1 (md_s_p hM) ?_
              refine r_bip eMd_notes_156 (by decide) ?_
              refine r_aln eMd_notes_158 rfl ?_
              refine m_getR eMd_notes_159 rfl hM.2.1 (md_s_p hM) ?_
              refine r_bip eMd_notes_162 (by decide) ?_
              refine r_ialde (x := (md_nk J M 0) (M + 22) 6) eMd_notes_164 (md_s_t hM) (by decide) (by omega) (by omega) (by simp [m_up, md_put_at, m_fl]) ?_
              refine r_bip eMd_notes_165 (by decide) ?_
              refine r_cge (tgt := 182) eMd_notes_167 rfl ⟨(by omega), (by omega)⟩ ⟨(by omega), (by omega)⟩ (fun c167 => ?_) (fun c167 => ?_)
              · refine r_bip eMd_notes_182 (by decide) ?_
                refine r_iast eMd_notes_184 (md_s_t hM) (by decide) (by omega) (by omega) (md_b hM 22) ?_
                refine r_ret eMd_notes_185 rfl ?_
                first | (exfalso; omega) | (simp only [e6, e1] at *; (repeat (first | rw [if_pos (by omega)] at hq | rw [if_neg (by omega)] at hq)); exact hq)
              · refine r_aln eMd_notes_170 rfl ?_
                refine m_getR eMd_notes_171 rfl hM.2.1 (md_s_p hM) ?_
                refine r_bip eMd_notes_174 (by decide) ?_
                refine r_ialde (x := (md_nk J M 0) (M + 22) 6) eMd_notes_176 (md_s_t hM) (by decide) (by omega) (by omega) (by simp [m_up, md_put_at, m_fl]) ?_
                refine r_con eMd_notes_177 ?_
                refine r_add eMd_notes_178 ?_
                refine r_go (tgt := 184) eMd_notes_179 rfl ?_
                refine r_iast eMd_notes_184 (md_s_t hM) (by decide) (by omega) (by omega) (md_b hM 22) ?_
                refine r_ret eMd_notes_185 rfl ?_
                first | (exfalso; omega) | (simp only [e6, e1] at *; (repeat (first | rw [if_pos (by omega)] at hq | rw [if_neg (by omega)] at hq)); exact hq)
            · refine r_con eMd_notes_133 ?_
              refine r_go (tgt := 138) eMd_notes_134 rfl ?_
              refine r_iast eMd_notes_138 (md_s_t hM) (by decide) (by omega) (by omega) (md_b hM 22) ?_
              refine r_aln eMd_notes_139 rfl ?_
              refine m_getR eMd_notes_140 rfl hM.2.1 (md_s_p hM) ?_
              refine r_bip eMd_notes_143 (by decide) ?_
              refine r_aln eMd_notes_145 rfl ?_
              refine m_getR eMd_notes_146 rfl hM.2.1 (md_s_p hM) ?_
              refine r_con eMd_notes_149 ?_
              refine r_ialde (x := (md_nk J M 0) (M + 22) 1) eMd_notes_150 (md_s_t hM) (by decide) (by omega) (by omega) (by simp [m_up, md_put_at, m_fl]) ?_
              refine r_iast eMd_notes_151 (md_s_t hM) (by decide) (by omega) (by omega) (md_b hM 22) ?_
              refine r_aln eMd_notes_152 rfl ?_
              refine m_getR eMd_notes_153 rfl hM.2.1 (md_s_p hM) ?_
              refine r_bip eMd_notes_156 (by decide) ?_
              refine r_aln eMd_notes_158 rfl ?_
              refine m_getR eMd_notes_159 rfl hM.2.1 (md_s_p hM) ?_
              refine r_bip eMd_notes_162 (by decide) ?_
              refine r_ialde (x := (md_nk J M 0) (M + 22) 6) eMd_notes_164 (md_s_t hM) (by decide) (by omega) (by omega) (by simp [m_up, md_put_at, m_fl]) ?_
              refine r_bip eMd_notes_165 (by decide) ?_
              refine r_cge (tgt := 182) eMd_notes_167 rfl ⟨(by omega), (by omega)⟩ ⟨(by omega), (by omega)⟩ (fun c167 => ?_) (fun c167 => ?_)
              · refine r_bip eMd_notes_182 (by decide) ?_
                refine r_iast eMd_notes_184 (md_s_t hM) (by decide) (by omega) (by omega) (md_b hM 22) ?_
                refine r_ret eMd_notes_185 rfl ?_
                first | (exfalso; omega) | (simp only [e6, e1] at *; (repeat (first | rw [if_pos (by omega)] at hq | rw [if_neg (by omega)] at hq)); exact hq)
              · refine r_aln eMd_notes_170 rfl ?_
                refine m_getR eMd_notes_171 rfl hM.2.1 (md_s_p hM) ?_
                refine r_bip eMd_notes_174 (by decide) ?_
                refine r_ialde (x := (md_nk J M 0) (M + 22) 6) eMd_notes_176 (md_s_t hM) (by decide) (by omega) (by omega) (by simp [m_up, md_put_at, m_fl]) ?_
                refine r_con eMd_notes_177 ?_
                refine r_add eMd_notes_178 ?_
                refine r_go (tgt := 184) eMd_notes_179 rfl ?_
                refine r_iast eMd_notes_184 (md_s_t hM) (by decide) (by omega) (by omega) (md_b hM 22) ?_
                refine r_ret eMd_notes_185 rfl ?_
                first | (exfalso; omega) | (simp only [e6, e1] at *; (repeat (first | rw [if_pos (by omega)] at hq | rw [if_neg (by omega)] at hq)); exact hq)
        · refine r_bip eMd_notes_91 (by decide) ?_
          refine r_go (tgt := 98) eMd_notes_93 rfl ?_
          refine r_isn (ls' := [some (.ref M), some (.int (m_i (c))), some (.int (m_i (110)))]) eMd_notes_98 (Nat.le_of_ble_eq_true rfl) rfl ?_
          refine r_aln eMd_notes_99 rfl ?_
          refine m_getR eMd_notes_100 rfl hM.2.1 (md_s_p hM) ?_
          refine r_bip eMd_notes_103 (by decide) ?_
          refine r_iln eMd_notes_105 rfl ?_
          refine r_con eMd_notes_106 ?_
          refine r_rem eMd_notes_107 ⟨(by omega), (by omega)⟩ ⟨(by omega), (by omega)⟩ ?_
          refine r_con eMd_notes_108 ?_
          refine r_cne (tgt := 119) eMd_notes_109 rfl ⟨(by omega), (by omega)⟩ ⟨(by omega), (by omega)⟩ (fun c109 => ?_) (fun c109 => ?_)
          · refine r_iln eMd_notes_119 rfl ?_
            refine r_iast eMd_notes_120 (md_s_t hM) (by decide) (by omega) (by omega) (md_b hM 22) ?_
            refine r_aln eMd_notes_121 rfl ?_
            refine m_getR eMd_notes_122 rfl hM.2.1 (md_s_p hM) ?_
            refine r_bip eMd_notes_125 (by decide) ?_
            refine r_iln eMd_notes_127 rfl ?_
            refine r_con eMd_notes_128 ?_
            refine r_rem eMd_notes_129 ⟨(by omega), (by omega)⟩ ⟨(by omega), (by omega)⟩ ?_
            refine r_zne (tgt := 137) eMd_notes_130 rfl ⟨(by omega), (by omega)⟩ (fun c130 => ?_) (fun c130 => ?_)
            · refine r_con eMd_notes_137 ?_
              refine r_iast eMd_notes_138 (md_s_t hM) (by decide) (by omega) (by omega) (md_b hM 22) ?_
              refine r_aln eMd_notes_139 rfl ?_
              refine m_getR eMd_notes_140 rfl hM.2.1 (md_s_p hM) ?_
              refine r_bip eMd_notes_143 (by decide) ?_
              refine r_aln eMd_notes_145 rfl ?_
              refine m_getR eMd_notes_146 rfl hM.2.1 (md_s_p hM) ?_
              refine r_con eMd_notes_149 ?_
              refine r_ialde (x := (md_nk J M 0) (M + 22) 1) eMd_notes_150 (md_s_t hM) (by decide) (by omega) (by omega) (by simp [m_up, md_put_at, m_fl]) ?_
              refine r_iast eMd_notes_151 (md_s_t hM) (by decide) (by omega) (by omega) (md_b hM 22) ?_
              refine r_aln eMd_notes_152 rfl ?_
              refine m_getR eMd_notes_153 rfl hM.2.1 (md_s_p hM) ?_
              refine r_bip eMd_notes_156 (by decide) ?_
              refine r_aln eMd_notes_158 rfl ?_
              refine m_getR eMd_notes_159 rfl hM.2.1 (md_s_p hM) ?_
              refine r_bip eMd_notes_162 (by decide) ?_
              refine r_ialde (x := (md_nk J M 0) (M + 22) 6) eMd_notes_164 (md_s_t hM) (by decide) (by omega) (by omega) (by simp [m_up, md_put_at, m_fl]) ?_
              refine r_bip eMd_notes_165 (by decide) ?_
              refine r_cge (tgt := 182) eMd_notes_167 rfl ⟨(by omega), (by omega)⟩ ⟨(by omega), (by omega)⟩ (fun c167 => ?_) (fun c167 => ?_)
              · refine r_bip eMd_notes_182 (by decide) ?_
                refine r_iast eMd_notes_184 (md_s_t hM) (by decide) (by omega) (by omega) (md_b hM 22) ?_
                refine r_ret eMd_notes_185 rfl ?_
                first | (exfalso; omega) | (simp only [e6, e1] at *; (repeat (first | rw [if_pos (by omega)] at hq | rw [if_neg (by omega)] at hq)); exact hq)
              · refine r_aln eMd_notes_170 rfl ?_
                refine m_getR eMd_notes_171 rfl hM.2.1 (md_s_p hM) ?_
                refine r_bip eMd_notes_174 (by decide) ?_
                refine r_ialde (x := (md_nk J M 0) (M + 22) 6) eMd_notes_176 (md_s_t hM) (by decide) (by omega) (by omega) (by simp [m_up, md_put_at, m_fl]) ?_
                refine r_con eMd_notes_177 ?_
                refine r_add eMd_notes_178 ?_
                refine r_go (tgt := 184) eMd_notes_179 rfl ?_
                refine r_iast eMd_notes_184 (md_s_t hM) (by decide) (by omega) (by omega) (md_b hM 22) ?_
                refine r_ret eMd_notes_185 rfl ?_
                first | (exfalso; omega) | (simp only [e6, e1] at *; (repeat (first | rw [if_pos (by omega)] at hq | rw [if_neg (by omega)] at hq)); exact hq)
            · refine r_con eMd_notes_133 ?_
              refine r_go (tgt := 138) eMd_notes_134 rfl ?_
              refine r_iast eMd_notes_138 (md_s_t hM) (by decide) (by omega) (by omega) (md_b hM 22) ?_
              refine r_aln eMd_notes_139 rfl ?_
              refine m_getR eMd_notes_140 rfl hM.2.1 (md_s_p hM) ?_
              refine r_bip eMd_notes_143 (by decide) ?_
              refine r_aln eMd_notes_145 rfl ?_
              refine m_getR eMd_notes_146 rfl hM.2.1 (md_s_p hM) ?_
              refine r_con eMd_notes_149 ?_
              refine r_ialde (x := (md_nk J M 0) (M + 22) 1) eMd_notes_150 (md_s_t hM) (by decide) (by omega) (by omega) (by simp [m_up, md_put_at, m_fl]) ?_
              refine r_iast eMd_notes_151 (md_s_t hM) (by decide) (by omega) (by omega) (md_b hM 22) ?_
              refine r_aln eMd_notes_152 rfl ?_
              refine m_getR eMd_notes_153 rfl hM.2.1 (md_s_p hM) ?_
              refine r_bip eMd_notes_156 (by decide) ?_
              refine r_aln eMd_notes_158 rfl ?_
              refine m_getR eMd_notes_159 rfl hM.2.1 (md_s_p hM) ?_
              refine r_bip eMd_notes_162 (by decide) ?_
              refine r_ialde (x := (md_nk J M 0) (M + 22) 6) eMd_notes_164 (md_s_t hM) (by decide) (by omega) (by omega) (by simp [m_up, md_put_at, m_fl]) ?_
              refine r_bip eMd_notes_165 (by decide) ?_
              refine r_cge (tgt := 182) eMd_notes_167 rfl ⟨(by omega), (by omega)⟩ ⟨(by omega), (by omega)⟩ (fun c167 => ?_) (fun c167 => ?_)
              · refine r_bip eMd_notes_182 (by decide) ?_
                refine r_iast eMd_notes_184 (md_s_t hM) (by decide) (by omega) (by omega) (md_b hM 22) ?_
                refine r_ret eMd_notes_185 rfl ?_
                first | (exfalso; omega) | (simp only [e6, e1] at *; (repeat (first | rw [if_pos (by omega)] at hq | rw [if_neg (by omega)] at hq)); exact hq)
              · refine r_aln eMd_notes_170 rfl ?_
                refine m_getR eMd_notes_171 rfl hM.2.1 (md_s_p hM) ?_
                refine r_bip eMd_notes_174 (by decide) ?_
                refine r_ialde (x := (md_nk J M 0) (M + 22) 6) eMd_notes_176 (md_s_t hM) (by decide) (by omega) (by omega) (by simp [m_up, md_put_at, m_fl]) ?_
                refine r_con eMd_notes_177 ?_
                refine r_add eMd_notes_178 ?_
                refine r_go (tgt := 184) eMd_notes_179 rfl ?_
                refine r_iast eMd_notes_184 (md_s_t hM) (by decide) (by omega) (by omega) (md_b hM 22) ?_
                refine r_ret eMd_notes_185 rfl ?_
                first | (exfalso; omega) | (simp only [e6, e1] at *; (repeat (first | rw [if_pos (by omega)] at hq | rw [if_neg (by omega)] at hq)); exact hq)
          · refine r_iln eMd_notes_112 rfl ?_
            refine r_bip eMd_notes_113 (by decide) ?_
            refine r_sub eMd_notes_115 ?_
            refine r_go (tgt := 120) eMd_notes_116 rfl ?_
            refine r_iast eMd_notes_120 (md_s_t hM) (by decide) (by omega) (by omega) (md_b hM 22) ?_
            refine r_aln eMd_notes_121 rfl ?_
            refine m_getR eMd_notes_122 rfl hM.2.1 (md_s_p hM) ?_
            refine r_bip eMd_notes_125 (by decide) ?_
            refine r_iln eMd_notes_127 rfl ?_
            refine r_con eMd_notes_128 ?_
            refine r_rem eMd_notes_129 ⟨(by omega), (by omega)⟩ ⟨(by omega), (by omega)⟩ ?_
            refine r_zne (tgt := 137) eMd_notes_130 rfl ⟨(by omega), (by omega)⟩ (fun c130 => ?_) (fun c130 => ?_)
            · refine r_con eMd_notes_137 ?_
              refine r_iast eMd_notes_138 (md_s_t hM) (by decide) (by omega) (by omega) (md_b hM 22) ?_
              refine r_aln eMd_notes_139 rfl ?_
              refine m_getR eMd_notes_140 rfl hM.2.1 (md_s_p hM) ?_
              refine r_bip eMd_notes_143 (by decide) ?_
              refine r_aln eMd_notes_145 rfl ?_
              refine m_getR eMd_notes_146 rfl hM.2.1 (md_s_p hM) ?_
              refine r_con eMd_notes_149 ?_
              refine r_ialde (x := (md_nk J M 0) (M + 22) 1) eMd_notes_150 (md_s_t hM) (by decide) (by omega) (by omega) (by simp [m_up, md_put_at, m_fl]) ?_
              refine r_iast eMd_notes_151 (md_s_t hM) (by decide) (by omega) (by omega) (md_b hM 22) ?_
              refine r_aln eMd_notes_152 rfl ?_
              refine m_getR eMd_notes_153 rfl hM.2.1 (md_s_p hM) ?_
              refine r_bip eMd_notes_156 (by decide) ?_
              refine r_aln eMd_notes_158 rfl ?_
              refine m_getR eMd_notes_159 rfl hM.2.1 (md_s_p hM) ?_
              refine r_bip eMd_notes_162 (by decide) ?_
              refine r_ialde (x := (md_nk J M 0) (M + 22) 6) eMd_notes_164 (md_s_t hM) (by decide) (by omega) (by omega) (by simp [m_up, md_put_at, m_fl]) ?_
              refine r_bip eMd_notes_165 (by decide) ?_
              refine r_cge (tgt := 182) eMd_notes_167 rfl ⟨(by omega), (by omega)⟩ ⟨(by omega), (by omega)⟩ (fun c167 => ?_) (fun c167 => ?_)
              · refine r_bip eMd_notes_182 (by decide) ?_
                refine r_iast eMd_notes_184 (md_s_t hM) (by decide) (by omega) (by omega) (md_b hM 22) ?_
                refine r_ret eMd_notes_185 rfl ?_
                first | (exfalso; omega) | (simp only [e6, e1] at *; (repeat (first | rw [if_pos (by omega)] at hq | rw [if_neg (by omega)] at hq)); exact hq)
              · refine r_aln eMd_notes_170 rfl ?_
                refine m_getR eMd_notes_171 rfl hM.2.1 (md_s_p hM) ?_
                refine r_bip eMd_notes_174 (by decide) ?_
                refine r_ialde (x := (md_nk J M 0) (M + 22) 6) eMd_notes_176 (md_s_t hM) (by decide) (by omega) (by omega) (by simp [m_up, md_put_at, m_fl]) ?_
                refine r_con eMd_notes_177 ?_
                refine r_add eMd_notes_178 ?_
                refine r_go (tgt := 184) eMd_notes_179 rfl ?_
                refine r_iast eMd_notes_184 (md_s_t hM) (by decide) (by omega) (by omega) (md_b hM 22) ?_
                refine r_ret eMd_notes_185 rfl ?_
                first | (exfalso; omega) | (simp only [e6, e1] at *; (repeat (first | rw [if_pos (by omega)] at hq | rw [if_neg (by omega)] at hq)); exact hq)
            · refine r_con eMd_notes_133 ?_
              refine r_go (tgt := 138) eMd_notes_134 rfl ?_
              refine r_iast eMd_notes_138 (md_s_t hM) (by decide) (by omega) (by omega) (md_b hM 22) ?_
              refine r_aln eMd_notes_139 rfl ?_
              refine m_getR eMd_notes_140 rfl hM.2.1 (md_s_p hM) ?_
              refine r_bip eMd_notes_143 (by decide) ?_
              refine r_aln eMd_notes_145 rfl ?_
              refine m_getR eMd_notes_146 rfl hM.2.1 (md_s_p hM) ?_
              refine r_con eMd_notes_149 ?_
              refine r_ialde (x := (md_nk J M 0) (M + 22) 1) eMd_notes_150 (md_s_t hM) (by decide) (by omega) (by omega) (by simp [m_up, md_put_at, m_fl]) ?_
              refine r_iast eMd_notes_151 (md_s_t hM) (by decide) (by omega) (by omega) (md_b hM 22) ?_
              refine r_aln eMd_notes_152 rfl ?_
              refine m_getR eMd_notes_153 rfl hM.2.1 (md_s_p hM) ?_
              refine r_bip eMd_notes_156 (by decide) ?_
              refine r_aln eMd_notes_158 rfl ?_
              refine m_getR eMd_notes_159 rfl hM.2.1 (md_s_p hM) ?_
              refine r_bip eMd_notes_162 (by decide) ?_
              refine r_ialde (x := (md_nk J M 0) (M + 22) 6) eMd_notes_164 (md_s_t hM) (by decide) (by omega) (by omega) (by simp [m_up, md_put_at, m_fl]) ?_
              refine r_bip eMd_notes_165 (by decide) ?_
              refine r_cge (tgt := 182) eMd_notes_167 rfl ⟨(by omega), (by omega)⟩ ⟨(by omega), (by omega)⟩ (fun c167 => ?_) (fun c167 => ?_)
              · refine r_bip eMd_notes_182 (by decide) ?_
                refine r_iast eMd_notes_184 (md_s_t hM) (by decide) (by omega) (by omega) (md_b hM 22) ?_
                refine r_ret eMd_notes_185 rfl ?_
                first | (exfalso; omega) | (simp only [e6, e1] at *; (repeat (first | rw [if_pos (by omega)] at hq | rw [if_neg (by omega)] at hq)); exact hq)
              · refine r_aln eMd_notes_170 rfl ?_
                refine m_getR eMd_notes_171 rfl hM.2.1 (md_s_p hM) ?_
                refine r_bip eMd_notes_174 (by decide) ?_
                refine r_ialde (x := (md_nk J M 0) (M + 22) 6) eMd_notes_176 (md_s_t hM) (by decide) (by omega) (by omega) (by simp [m_up, md_put_at, m_fl]) ?_
                refine r_con eMd_notes_177 ?_
                refine r_add eMd_notes_178 ?_
                refine r_go (tgt := 184) eMd_notes_179 rfl ?_
                refine r_iast eMd_notes_184 (md_s_t hM) (by decide) (by omega) (by omega) (md_b hM 22) ?_
                refine r_ret eMd_notes_185 rfl ?_
                first | (exfalso; omega) | (simp only [e6, e1] at *; (repeat (first | rw [if_pos (by omega)] at hq | rw [if_neg (by omega)] at hq)); exact hq)
      · refine r_bip eMd_notes_79 (by decide) ?_
        refine r_go (tgt := 98) eMd_notes_81 rfl ?_
        refine r_isn (ls' := [some (.ref M), some (.int (m_i (c))), some (.int (m_i (119)))]) eMd_notes_98 (Nat.le_of_ble_eq_true rfl) rfl ?_
        refine r_aln eMd_notes_99 rfl ?_
        refine m_getR eMd_notes_100 rfl hM.2.1 (md_s_p hM) ?_
        refine r_bip eMd_notes_103 (by decide) ?_
        refine r_iln eMd_notes_105 rfl ?_
        refine r_con eMd_notes_106 ?_
        refine r_rem eMd_notes_107 ⟨(by omega), (by omega)⟩ ⟨(by omega), (by omega)⟩ ?_
        refine r_con eMd_notes_108 ?_
        refine r_cne (tgt := 119) eMd_notes_109 rfl ⟨(by omega), (by omega)⟩ ⟨(by omega), (by omega)⟩ (fun c109 => ?_) (fun c109 => ?_)
        · refine r_iln eMd_notes_119 rfl ?_
          refine r_iast eMd_notes_120 (md_s_t hM) (by decide) (by omega) (by omega) (md_b hM 22) ?_
          refine r_aln eMd_notes_121 rfl ?_
          refine m_getR eMd_notes_122 rfl hM.2.1 (md_s_p hM) ?_
          refine r_bip eMd_notes_125 (by decide) ?_
          refine r_iln eMd_notes_127 rfl ?_
          refine r_con eMd_notes_128 ?_
          refine r_rem eMd_notes_129 ⟨(by omega), (by omega)⟩ ⟨(by omega), (by omega)⟩ ?_
          refine r_zne (tgt := 137) eMd_notes_130 rfl ⟨(by omega), (by omega)⟩ (fun c130 => ?_) (fun c130 => ?_)
          · refine r_con eMd_notes_137 ?_
            refine r_iast eMd_notes_138 (md_s_t hM) (by decide) (by omega) (by omega) (md_b hM 22) ?_
            refine r_aln eMd_notes_139 rfl ?_
            refine m_getR eMd_notes_140 rfl hM.2.1 (md_s_p hM) ?_
            refine r_bip eMd_notes_143 (by decide) ?_
            refine r_aln eMd_notes_145 rfl ?_
            refine m_getR eMd_notes_146 rfl hM.2.1 (md_s_p hM) ?_
            refine r_con eMd_notes_149 ?_
            refine r_ialde (x := (md_nk J M 0) (M + 22) 1) eMd_notes_150 (md_s_t hM) (by decide) (by omega) (by omega) (by simp [m_up, md_put_at, m_fl]) ?_
            refine r_iast eMd_notes_151 (md_s_t hM) (by decide) (by omega) (by omega) (md_b hM 22) ?_
            refine r_aln eMd_notes_152 rfl ?_
            refine m_getR eMd_notes_153 rfl hM.2.1 (md_s_p hM) ?_
            refine r_bip eMd_notes_156 (by decide) ?_
            refine r_aln eMd_notes_158 rfl ?_
            refine m_getR eMd_notes_159 rfl hM.2.1 (md_s_p hM) ?_
            refine r_bip eMd_notes_162 (by decide) ?_
            refine r_ialde (x := (md_nk J M 0) (M + 22) 6) eMd_notes_164 (md_s_t hM) (by decide) (by omega) (by omega) (by simp [m_up, md_put_at, m_fl]) ?_
            refine r_bip eMd_notes_165 (by decide) ?_
            refine r_cge (tgt := 182) eMd_notes_167 rfl ⟨(by omega), (by omega)⟩ ⟨(by omega), (by omega)⟩ (fun c167 => ?_) (fun c167 => ?_)
            · refine r_bip eMd_notes_182 (by decide) ?_
              refine r_iast eMd_notes_184 (md_s_t hM) (by decide) (by omega) (by omega) (md_b hM 22) ?_
              refine r_ret eMd_notes_185 rfl ?_
              first | (exfalso; omega) | (simp only [e6, e1] at *; (repeat (first | rw [if_pos (by omega)] at hq | rw [if_neg (by omega)] at hq)); exact hq)
            · refine r_aln eMd_notes_170 rfl ?_
              refine m_getR eMd_notes_171 rfl hM.2.1 (md_s_p hM) ?_
              refine r_bip eMd_notes_174 (by decide) ?_
              refine r_ialde (x := (md_nk J M 0) (M + 22) 6) eMd_notes_176 (md_s_t hM) (by decide) (by omega) (by omega) (by simp [m_up, md_put_at, m_fl]) ?_
              refine r_con eMd_notes_177 ?_
              refine r_add eMd_notes_178 ?_
              refine r_go (tgt := 184) eMd_notes_179 rfl ?_
              refine r_iast eMd_notes_184 (md_s_t hM) (by decide) (by omega) (by omega) (md_b hM 22) ?_
              refine r_ret eMd_notes_185 rfl ?_
              first | (exfalso; omega) | (simp only [e6, e1] at *; (repeat (first | rw [if_pos (by omega)] at hq | rw [if_neg (by omega)] at hq)); exact hq)
          · refine r_con eMd_notes_133 ?_
            refine r_go (tgt := 138) eMd_notes_134 rfl ?_
            refine r_iast eMd_notes_138 (md_s_t hM) (by decide) (by omega) (by omega) (md_b hM 22) ?_
            refine r_aln eMd_notes_139 rfl ?_
            refine m_getR eMd_notes_140 rfl hM.2.1 (md_s_p hM) ?_
            refine r_bip eMd_notes_143 (by decide) ?_
            refine r_aln eMd_notes_145 rfl ?_
            refine m_getR eMd_notes_146 rfl hM.2.1 (md_s_p hM) ?_
            refine r_con eMd_notes_149 ?_
            refine r_ialde (x := (md_nk J M 0) (M + 22) 1) eMd_notes_150 (md_s_t hM) (by decide) (by omega) (by omega) (by simp [m_up, md_put_at, m_fl]) ?_
            refine r_iast eMd_notes_151 (md_s_t hM) (by decide) (by omega) (by omega) (md_b hM 22) ?_
            refine r_aln eMd_notes_152 rfl ?_
            refine m_getR eMd_notes_153 rfl hM.2.1 (md_s_p hM) ?_
            refine r_bip eMd_notes_156 (by decide) ?_
            refine r_aln eMd_notes_158 rfl ?_
            refine m_getR eMd_notes_159 rfl hM.2.1 (md_s_p hM) ?_
            refine r_bip eMd_notes_162 (by decide) ?_
            refine r_ialde (x := (md_nk J M 0) (M + 22) 6) eMd_notes_164 (md_s_t hM) (by decide) (by omega) (by omega) (by simp [m_up, md_put_at, m_fl]) ?_
            refine r_bip eMd_notes_165 (by decide) ?_
            refine r_cge (tgt := 182) eMd_notes_167 rfl ⟨(by omega), (by omega)⟩ ⟨(by omega), (by omega)⟩ (fun c167 => ?_) (fun c167 => ?_)
            · refine r_bip eMd_notes_182 (by decide) ?_
              refine r_iast eMd_notes_184 (md_s_t hM) (by decide) (by omega) (by omega) (md_b hM 22) ?_
              refine r_ret eMd_notes_185 rfl ?_
              first | (exfalso; omega) | (simp only [e6, e1] at *; (repeat (first | rw [if_pos (by omega)] at hq | rw [if_neg (by omega)] at hq)); exact hq)
            · refine r_aln eMd_notes_170 rfl ?_
              refine m_getR eMd_notes_171 rfl hM.2.1 (md_s_p hM) ?_
              refine r_bip eMd_notes_174 (by decide) ?_
              refine r_ialde (x := (md_nk J M 0) (M + 22) 6) eMd_notes_176 (md_s_t hM) (by decide) (by omega) (by omega) (by simp [m_up, md_put_at, m_fl]) ?_
              refine r_con eMd_notes_177 ?_
              refine r_add eMd_notes_178 ?_
              refine r_go (tgt := 184) eMd_notes_179 rfl ?_
              refine r_iast eMd_notes_184 (md_s_t hM) (by decide) (by omega) (by omega) (md_b hM 22) ?_
              refine r_ret eMd_notes_185 rfl ?_
              first | (exfalso; omega) | (simp only [e6, e1] at *; (repeat (first | rw [if_pos (by omega)] at hq | rw [if_neg (by omega)] at hq)); exact hq)
        · refine r_iln eMd_notes_112 rfl ?_
          refine r_bip eMd_notes_113 (by decide) ?_
          refine r_sub eMd_notes_115 ?_
          refine r_go (tgt := 120) eMd_notes_116 rfl ?_
          refine r_iast eMd_notes_120 (md_s_t hM) (by decide) (by omega) (by omega) (md_b hM 22) ?_
          refine r_aln eMd_notes_121 rfl ?_
          refine m_getR eMd_notes_122 rfl hM.2.1 (md_s_p hM) ?_
          refine r_bip eMd_notes_125 (by decide) ?_
          refine r_iln eMd_notes_127 rfl ?_
          refine r_con eMd_notes_128 ?_
          refine r_rem eMd_notes_129 ⟨(by omega), (by omega)⟩ ⟨(by omega), (by omega)⟩ ?_
          refine r_zne (tgt := 137) eMd_notes_130 rfl ⟨(by omega), (by omega)⟩ (fun c130 => ?_) (fun c130 => ?_)
          · refine r_con eMd_notes_137 ?_
            refine r_iast eMd_notes_138 (md_s_t hM) (by decide) (by omega) (by omega) (md_b hM 22) ?_
            refine r_aln eMd_notes_139 rfl ?_
            refine m_getR eMd_notes_140 rfl hM.2.1 (md_s_p hM) ?_
            refine r_bip eMd_notes_143 (by decide) ?_
            refine r_aln eMd_notes_145 rfl ?_
            refine m_getR eMd_notes_146 rfl hM.2.1 (md_s_p hM) ?_
            refine r_con eMd_notes_149 ?_
            refine r_ialde (x := (md_nk J M 0) (M + 22) 1) eMd_notes_150 (md_s_t hM) (by decide) (by omega) (by omega) (by simp [m_up, md_put_at, m_fl]) ?_
            refine r_iast eMd_notes_151 (md_s_t hM) (by decide) (by omega) (by omega) (md_b hM 22) ?_
            refine r_aln eMd_notes_152 rfl ?_
            refine m_getR eMd_notes_153 rfl hM.2.1 (md_s_p hM) ?_
            refine r_bip eMd_notes_156 (by decide) ?_
            refine r_aln eMd_notes_158 rfl ?_
            refine m_getR eMd_notes_159 rfl hM.2.1 (md_s_p hM) ?_
            refine r_bip eMd_notes_162 (by decide) ?_
            refine r_ialde (x := (md_nk J M 0) (M + 22) 6) eMd_notes_164 (md_s_t hM) (by decide) (by omega) (by omega) (by simp [m_up, md_put_at, m_fl]) ?_
            refine r_bip eMd_notes_165 (by decide) ?_
            refine r_cge (tgt := 182) eMd_notes_167 rfl ⟨(by omega), (by omega)⟩ ⟨(by omega), (by omega)⟩ (fun c167 => ?_) (fun c167 => ?_)
            · refine r_bip eMd_notes_182 (by decide) ?_
              refine r_iast eMd_notes_184 (md_s_t hM) (by decide) (by omega) (by omega) (md_b hM 22) ?_
              refine r_ret eMd_notes_185 rfl ?_
              first | (exfalso; omega) | (simp only [e6, e1] at *; (repeat (first | rw [if_pos (by omega)] at hq | rw [if_neg (by omega)] at hq)); exact hq)
            · refine r_aln eMd_notes_170 rfl ?_
              refine m_getR eMd_notes_171 rfl hM.2.1 (md_s_p hM) ?_
              refine r_bip eMd_notes_174 (by decide) ?_
              refine r_ialde (x := (md_nk J M 0) (M + 22) 6) eMd_notes_176 (md_s_t hM) (by decide) (by omega) (by omega) (by simp [m_up, md_put_at, m_fl]) ?_
              refine r_con eMd_notes_177 ?_
              refine r_add eMd_notes_178 ?_
              refine r_go (tgt := 184) eMd_notes_179 rfl ?_
              refine r_iast eMd_notes_184 (md_s_t hM) (by decide) (by omega) (by omega) (md_b hM 22) ?_
              refine r_ret eMd_notes_185 rfl ?_
              first | (exfalso; omega) | (simp only [e6, e1] at *; (repeat (first | rw [if_pos (by omega)] at hq | rw [if_neg (by omega)] at hq)); exact hq)
          · refine r_con eMd_notes_133 ?_
            refine r_go (tgt := 138) eMd_notes_134 rfl ?_
            refine r_iast eMd_notes_138 (md_s_t hM) (by decide) (by omega) (by omega) (md_b hM 22) ?_
            refine r_aln eMd_notes_139 rfl ?_
            refine m_getR eMd_notes_140 rfl hM.2.1 (md_s_p hM) ?_
            refine r_bip eMd_notes_143 (by decide) ?_
            refine r_aln eMd_notes_145 rfl ?_
            refine m_getR eMd_notes_146 rfl hM.2.1 (md_s_p hM) ?_
            refine r_con eMd_notes_149 ?_
            refine r_ialde (x := (md_nk J M 0) (M + 22) 1) eMd_notes_150 (md_s_t hM) (by decide) (by omega) (by omega) (by simp [m_up, md_put_at, m_fl]) ?_
            refine r_iast eMd_notes_151 (md_s_t hM) (by decide) (by omega) (by omega) (md_b hM 22) ?_
            refine r_aln eMd_notes_152 rfl ?_
            refine m_getR eMd_notes_153 rfl hM.2.1 (md_s_p hM) ?_
            refine r_bip eMd_notes_156 (by decide) ?_
            refine r_aln eMd_notes_158 rfl ?_
            refine m_getR eMd_notes_159 rfl hM.2.1 (md_s_p hM) ?_
            refine r_bip eMd_notes_162 (by decide) ?_
            refine r_ialde (x := (md_nk J M 0) (M + 22) 6) eMd_notes_164 (md_s_t hM) (by decide) (by omega) (by omega) (by simp [m_up, md_put_at, m_fl]) ?_
            refine r_bip eMd_notes_165 (by decide) ?_
            refine r_cge (tgt := 182) eMd_notes_167 rfl ⟨(by omega), (by omega)⟩ ⟨(by omega), (by omega)⟩ (fun c167 => ?_) (fun c167 => ?_)
            · refine r_bip eMd_notes_182 (by decide) ?_
              refine r_iast eMd_notes_184 (md_s_t hM) (by decide) (by omega) (by omega) (md_b hM 22) ?_
              refine r_ret eMd_notes_185 rfl ?_
              first | (exfalso; omega) | (simp only [e6, e1] at *; (repeat (first | rw [if_pos (by omega)] at hq | rw [if_neg (by omega)] at hq)); exact hq)
            · refine r_aln eMd_notes_170 rfl ?_
              refine m_getR eMd_notes_171 rfl hM.2.1 (md_s_p hM) ?_
              refine r_bip eMd_notes_174 (by decide) ?_
              refine r_ialde (x := (md_nk J M 0) (M + 22) 6) eMd_notes_176 (md_s_t hM) (by decide) (by omega) (by omega) (by simp [m_up, md_put_at, m_fl]) ?_
              refine r_con eMd_notes_177 ?_
              refine r_add eMd_notes_178 ?_
              refine r_go (tgt := 184) eMd_notes_179 rfl ?_
              refine r_iast eMd_notes_184 (md_s_t hM) (by decide) (by omega) (by omega) (md_b hM 22) ?_
              refine r_ret eMd_notes_185 rfl ?_
              first | (exfalso; omega) | (simp only [e6, e1] at *; (repeat (first | rw [if_pos (by omega)] at hq | rw [if_neg (by omega)] at hq)); exact hq)
    · exfalso; omega
  | succ n ih =>
    intro k hk h1
    refine r_iln eMd_notes_3 rfl ?_
    refine r_zle (tgt := 73) eMd_notes_4 rfl ⟨(by omega), (by omega)⟩ (fun c4 => ?_) (fun c4 => ?_)
    · exfalso; omega
    · refine r_aln eMd_notes_7 rfl ?_
      refine m_getR eMd_notes_8 rfl hM.2.1 (md_s_p hM) ?_
      refine r_bip eMd_notes_11 (by decide) ?_
      refine r_iln eMd_notes_13 rfl ?_
      refine r_add eMd_notes_14 ?_
      refine r_aln eMd_notes_15 rfl ?_
      refine m_getR eMd_notes_16 rfl hM.2.1 (md_s_p hM) ?_
      refine r_bip eMd_notes_19 (by decide) ?_
      refine r_iln eMd_notes_21 rfl ?_
      refine r_add eMd_notes_22 ?_
      refine r_con eMd_notes_23 ?_
      refine r_sub eMd_notes_24 ?_
      refine r_ialde (x := (md_nk J M k) (M + 22) ((((23) + (k)) - (1)).toNat)) eMd_notes_25 (md_s_t hM) (by decide) (by omega) (by omega) rfl ?_
      refine r_iast eMd_notes_26 (md_s_t hM) (by decide) (by omega) (by omega) (md_b hM 22) ?_
      refine r_aln eMd_notes_27 rfl ?_
      refine m_getR eMd_notes_28 rfl hM.2.1 (md_s_p hM) ?_
      refine r_bip eMd_notes_31 (by decide) ?_
      refine r_iln eMd_notes_33 rfl ?_
      refine r_add eMd_notes_34 ?_
      refine r_aln eMd_notes_35 rfl ?_
      refine m_getR eMd_notes_36 rfl hM.2.1 (md_s_p hM) ?_
      refine r_bip eMd_notes_39 (by decide) ?_
      refine r_iln eMd_notes_41 rfl ?_
      refine r_add eMd_notes_42 ?_
      refine r_con eMd_notes_43 ?_
      refine r_sub eMd_notes_44 ?_
      refine r_ialde (x := (m_up (md_nk J M k) (M + 22) (((23) + (k)).toNat) ((md_nk J M k) (M + 22) ((((23) + (k)) - (1)).toNat))) (M + 22) ((((63) + (k)) - (1)).toNat)) eMd_notes_45 (md_s_t hM) (by decide) (by omega) (by omega) rfl ?_
      refine r_iast eMd_notes_46 (md_s_t hM) (by decide) (by omega) (by omega) (md_b hM 22) ?_
      refine r_aln eMd_notes_47 rfl ?_
      refine m_getR eMd_notes_48 rfl hM.2.1 (md_s_p hM) ?_
      refine r_bip eMd_notes_51 (by decide) ?_
      refine r_iln eMd_notes_53 rfl ?_
      refine r_add eMd_notes_54 ?_
      refine r_aln eMd_notes_55 rfl ?_
      refine m_getR eMd_notes_56 rfl hM.2.1 (md_s_p hM) ?_
      refine r_bip eMd_notes_59 (by decide) ?_
      refine r_iln eMd_notes_61 rfl ?_
      refine r_add eMd_notes_62 ?_
      refine r_con eMd_notes_63 ?_
      refine r_sub eMd_notes_64 ?_
      refine r_ialde (x := (m_up (m_up (md_nk J M k) (M + 22) (((23) + (k)).toNat) ((md_nk J M k) (M + 22) ((((23) + (k)) - (1)).toNat))) (M + 22) (((63) + (k)).toNat) ((m_up (md_nk J M k) (M + 22) (((23) + (k)).toNat) ((md_nk J M k) (M + 22) ((((23) + (k)) - (1)).toNat))) (M + 22) ((((63) + (k)) - (1)).toNat))) (M + 22) ((((103) + (k)) - (1)).toNat)) eMd_notes_65 (md_s_t hM) (by decide) (by omega) (by omega) rfl ?_
      refine r_iast eMd_notes_66 (md_s_t hM) (by decide) (by omega) (by omega) (md_b hM 22) ?_
      refine r_inc (ls' := [some (.ref M), some (.int (m_i (c))), some (.int (m_i (k + (-1))))]) eMd_notes_67 rfl rfl ?_
      refine r_go (tgt := 3) eMd_notes_70 rfl ?_
      refine Eq.mp ?_ (ih (k + (-1)) (by omega) (by omega))
      rw [← md_nk_s J M (by omega) h1]
theorem c_Md_notes (hM : md_sh en M T P) {c : Int} (hc : 0 ≤ c ∧ c < 9) (h6 : 0 ≤ J (M + 22) 6 ∧ J (M + 22) 6 ≤ 40) (hq : Q none (T, m_I (md_note J M c), P, L, z, w)) : m_call en (d + 1) mMd_notes [.ref M, .int (m_i c)] (T, m_I J, P, L, z, w) Q := by
  refine m_into (by decide) (Nat.le_of_ble_eq_true rfl) rfl ?_
  show m_wp en _ mMd_notes 0 [some (.ref M), some (.int (m_i (c))), none] [] (T, m_I J, P, L, z, w) Q
  refine r_bip eMd_notes_0 (by decide) ?_
  refine r_isn (ls' := [some (.ref M), some (.int (m_i (c))), some (.int (m_i (39)))]) eMd_notes_2 (Nat.le_of_ble_eq_true rfl) rfl ?_
  refine Eq.mp ?_ (l_Md_notes (d := d) (z := z) (w := w) (L := L) (J := J) hM hc h6 hq 39 39 (by omega) (by omega))
  rw [md_nk_39]
end MDG
