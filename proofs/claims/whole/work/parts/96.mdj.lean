/-! the reference is made: its rows, then as an empty text has it -/
section MDJ
variable {en : Nat → Nat} {d : Nat} {pc : Nat} {T : Nat → Option (Nat × Nat)} {J : Nat → Nat → Int} {P : Nat → Nat → Option Nat} {L : Nat → Nat → Int64} {z w M : Nat} {Q : m_Q}
theorem r_mdp {pc2 q j k : Nat} {v : Int} (hT : T M = some (12, 0)) (hB : en 0 ≤ M) (h1 : decode mMd_init.2.2.1 pc = .ok (.aload_n 0, 1))
    (hp : ∀ st s, m_wp en d mMd_init pc2 [some (.ref M)] (.int (m_i v) :: st) s Q → m_wp en d mMd_init (pc + 1) [some (.ref M)] st s Q)
    (h4 : decode mMd_init.2.2.1 pc2 = .ok (.putfield q, 3)) (hf : m_fx 12 q = some (0, 12, j))
    (kk : m_wp en d mMd_init (pc2 + 3) [some (.ref M)] [] (md_nS T (m_up J M j v) P L M k w) Q) : m_wp en d mMd_init pc [some (.ref M)] [] (md_nS T J P L M k w) Q := by
  unfold md_nS at kk ⊢
  refine r_aln h1 rfl (hp _ _ (r_put (c := 12) (n := 0) h4 hf ?_ hB (Or.inr ⟨rfl, rfl⟩) ?_))
  · rw [md_nT_o (Nat.le_refl M)]
    exact hT
  · rw [md_nZ_up]
    exact kk
theorem u_Md_freshText (hM : md_sh en M T P) (hq : Q none (T, m_I (md_f0 J M), P, L, z, w)) : m_call en (d + 2) mMd_freshText [.ref M] (T, m_I J, P, L, z, w) Q := by
  have f : ∀ i, 21 ≤ i → md_f0 J M M i = J M i := fun i hi => by
    unfold md_f0 md_f2 md_f1
    rw [m_up_at, if_neg (by omega), m_fl_o (by omega), m_fl_o (by omega), m_up_at, if_neg (by omega), m_up_at, if_neg (by omega), m_up_at, if_neg (by omega), m_up_at, if_neg (by omega), m_up_at, if_neg (by omega), m_fl_o (by omega)]
  have h := c_Md_freshText (d := d) (z := z) (w := w) (L := L) (Q := Q) (J := J) (a := J M 21) (p := J M 22) (s := J M 23) (v := J M 24) (k := J M 25) (g := J M 26) hM (by
    rw [← f 21 (by omega), ← f 22 (by omega), ← f 23 (by omega), ← f 24 (by omega), ← f 25 (by omega), ← f 26 (by omega), q_id]
    exact hq)
  rw [q_id] at h
  exact h
theorem l_Md_init (hM : md_sh en M T P) (hd : dr_b (md_f0 J M) M) (h4 : md_4 (md_f0 J M) M) (hq : Q none (T, m_I (md_bg (md_tt (md_f0 J M) M) M), P, L, z, w)) : m_wp en (d + 3) mMd_init 226 [some (.ref M)] [] (T, m_I J, P, L, z, w) Q := by
  refine r_aln eMd_init_226 rfl ?_
  refine r_vir eMd_init_227 rfl rfl rfl hM.2.1 rfl rfl ?_
  refine u_Md_freshText hM ?_
  show m_wp en _ mMd_init 230 [some (.ref M)] [] (T, m_I ((md_f0 J M)), P, L, z, w) Q
  refine r_aln eMd_init_230 rfl ?_
  refine r_vir eMd_init_231 rfl rfl rfl hM.2.1 rfl rfl ?_
  refine c_Md_takeText hM hd ?_
  show m_wp en _ mMd_init 234 [some (.ref M)] [] (T, m_I ((md_tt ((md_f0 J M)) M)), P, L, z, w) Q
  refine r_aln eMd_init_234 rfl ?_
  refine r_vir eMd_init_235 rfl rfl rfl hM.2.1 rfl rfl ?_
  refine c_Md_begins hM (md_tt_pq hd h4) ?_
  show m_wp en _ mMd_init 238 [some (.ref M)] [] (T, m_I ((md_bg ((md_tt ((md_f0 J M)) M)) M)), P, L, z, w) Q
  refine r_ret eMd_init_238 rfl ?_
  exact hq
theorem md_sh_n (hT : T M = some (12, 0)) (hB : en 0 ≤ M) : md_sh en M (md_nT T M 26) (md_nP P M 26) := by
  refine ⟨hB, by rw [md_nT_o (Nat.le_refl M)]; exact hT, fun q hq => ?_⟩
  obtain ⟨j, hj, e⟩ := List.getElem_of_mem hq
  have hj2 : j < 26 := hj
  have hg : md_tab.getD j (0, 0, 0, 0) = q := by rw [List.getD_eq_getElem?_getD, List.getElem?_eq_getElem hj, e]; rfl
  have h1 := md_nP_i (P := P) (M := M) (j := j) 26 (by omega) hj2
  have h2 := md_nT_i (T := T) (M := M) (j := j) 26 hj2
  have h3 : ∀ i : Nat, i < 26 → (md_tab.getD i (0, 0, 0, 0)).2.1 = i + 1 := by decide
  have h4 := h3 j hj2
  unfold md_fd at h1
  unfold md_ty at h2
  rw [hg] at h1 h2 h4
  rw [h4, show M + (j + 1) = M + 1 + j by omega]
  exact ⟨h1, h2⟩
/-- the heap of a new reference, before its empty text -/
def md_n0 (J : Nat → Nat → Int) (M : Nat) : Nat → Nat → Int := md_nZ 0 (m_up (m_up J M 28 (-1)) M 40 (-2)) M 26
def md_n1 (J : Nat → Nat → Int) (M : Nat) : Nat → Nat → Int := md_bg (md_tt (md_f0 (md_n0 J M) M) M) M
theorem md_n0_r (k i : Nat) (h : 0 < k) (h2 : k ≤ 26) : md_n0 J M (M + k) i = 0 := by
  unfold md_n0
  rw [md_nZ_e, if_pos (by omega)]
theorem md_n0_M (hz : ∀ i, J M i = 0) {i : Nat} (h : i ≠ 28 ∧ i ≠ 40) : md_n0 J M M i = 0 := by
  unfold md_n0
  rw [md_nZ_e, if_neg (by omega), m_up_at, if_neg (by omega), m_up_at, if_neg (by omega)]
  exact hz i
theorem dr_zero : ∀ k : Nat, k < 17 → dr_lo k ≤ 0 ∧ 0 ≤ dr_hi k := by decide
theorem md_n0_dr (J : Nat → Nat → Int) (M : Nat) : dr_r (md_n0 J M) M := fun k h0 h1 i hi => by
  rw [md_n0_r k i (by omega) (by omega)]
  exact dr_zero k (by omega)
theorem md_f0_o {b i : Nat} (h : b ≠ M + 2) (h2 : b ≠ M + 3) (h3 : b ≠ M + 16) (h4 : ¬ (b = M ∧ i = 18)) : md_f0 J M b i = J b i := by
  unfold md_f0 md_f2 md_f1
  rw [m_up_at, if_neg h4, m_fl_o h3, m_fl_o h2, m_up_at, if_neg (fun q => h q.1), m_up_at, if_neg (fun q => h q.1), m_up_at, if_neg (fun q => h q.1), m_up_at, if_neg (fun q => h q.1), m_up_at, if_neg (fun q => h q.1), m_fl_o h]
theorem md_n0_4 (hz : ∀ i, J M i = 0) : md_4 (md_f0 (md_n0 J M) M) M := ⟨by rw [md_f0_o (by omega) (by omega) (by omega) (by omega), md_n0_M hz (by omega)]; exact ⟨by omega, by omega⟩, fun i hi => by rw [md_f0_o (by omega) (by omega) (by omega) (by omega), md_n0_r 20 i (by omega) (by omega)]; omega⟩
theorem md_n1_top (hz : ∀ i, J M i = 0) : md_top (md_n1 J M) M := by
  have hd := md_f0_b (md_n0_dr J M)
  have hr2 := md_tt_r hd
  refine ⟨md_bg_inv (md_tt_pq hd (md_n0_4 hz)), fun k h0 h1 i hi => ?_, ?_, ?_⟩
  · unfold md_n1
    rw [md_bg_o (by omega) (by omega) (by omega) (by omega)]
    exact hr2 k h0 h1 i hi
  · have e1 : ∀ i, md_n1 J M (M + 1) i = 0 := fun i => by
      unfold md_n1
      rw [md_bg_o (by omega) (by omega) (by omega) (by omega), md_tt_x (by omega), md_f0_o (by omega) (by omega) (by omega) (by omega), md_n0_r 1 i (by omega) (by omega)]
    have e2 : md_n1 J M M 2 = 0 := by
      unfold md_n1
      rw [md_bg_M (by omega), md_tt_x (by omega), md_f0_o (by omega) (by omega) (by omega) (by omega), md_n0_M hz (by omega)]
    exact ⟨by omega, fun i hi => by rw [e1]; omega⟩
  · have e2 : md_n1 J M M 24 = 0 := by
      unfold md_n1
      rw [md_bg_M (by omega), md_tt_x (by omega), md_f0_o (by omega) (by omega) (by omega) (by omega), md_n0_M hz (by omega)]
    rw [e2]
    exact ⟨by omega, by omega⟩
theorem c_Md_init (hT : T M = some (12, 0)) (hB : en 0 ≤ M) (hz : ∀ i, J M i = 0)
    (hq : md_sh en M (md_nT T M 26) (md_nP P M 26) → Q none (md_nT T M 26, m_I (md_n1 J M), md_nP P M 26, md_nZ 0 L M 26, M + 27, w + 700 + 26 + 18 + 12 + 12 + 12 + 12 + 12 + 12 + 16 + 16 + 32 + 32 + 8 + 8 + 32 + 16 + 16 + 16 + 38880 + 38880 + 143 + 4433 + 42 + 448 + 4)) : m_call en (d + 4) mMd_init [.ref M] (T, m_I J, P, L, M + 1, w) Q := by
  have hM := md_sh_n (P := P) hT hB
  refine m_into (by decide) (Nat.le_of_ble_eq_true rfl) rfl ?_
  refine r_aln eMd_init_0 rfl ?_
  refine r_obj eMd_init_1 rfl (by decide) ?_
  show m_wp en (d + 3) mMd_init 4 [some (.ref M)] [] (md_nS T J P L M 0 w) Q
  refine r_mdr (n := 700) (k := 0) hT hB eMd_init_4 (fun st s h => r_sip eMd_init_5 (by decide) h) eMd_init_8 eMd_init_10 rfl rfl rfl (by omega) ?_
  refine r_mdr (n := 26) (k := 1) hT hB eMd_init_13 (fun st s h => r_bip eMd_init_14 (by decide) h) eMd_init_16 eMd_init_18 rfl rfl rfl (by omega) ?_
  refine r_mdr (n := 18) (k := 2) hT hB eMd_init_21 (fun st s h => r_bip eMd_init_22 (by decide) h) eMd_init_24 eMd_init_26 rfl rfl rfl (by omega) ?_
  refine r_mdr (n := 12) (k := 3) hT hB eMd_init_29 (fun st s h => r_bip eMd_init_30 (by decide) h) eMd_init_32 eMd_init_34 rfl rfl rfl (by omega) ?_
  refine r_mdr (n := 12) (k := 4) hT hB eMd_init_37 (fun st s h => r_bip eMd_init_38 (by decide) h) eMd_init_40 eMd_init_42 rfl rfl rfl (by omega) ?_
  refine r_mdr (n := 12) (k := 5) hT hB eMd_init_45 (fun st s h => r_bip eMd_init_46 (by decide) h) eMd_init_48 eMd_init_50 rfl rfl rfl (by omega) ?_
  refine r_mdr (n := 12) (k := 6) hT hB eMd_init_53 (fun st s h => r_bip eMd_init_54 (by decide) h) eMd_init_56 eMd_init_58 rfl rfl rfl (by omega) ?_
  refine r_mdr (n := 12) (k := 7) hT hB eMd_init_61 (fun st s h => r_bip eMd_init_62 (by decide) h) eMd_init_64 eMd_init_66 rfl rfl rfl (by omega) ?_
  refine r_mdr (n := 12) (k := 8) hT hB eMd_init_69 (fun st s h => r_bip eMd_init_70 (by decide) h) eMd_init_72 eMd_init_74 rfl rfl rfl (by omega) ?_
  refine r_mdr (n := 16) (k := 9) hT hB eMd_init_77 (fun st s h => r_bip eMd_init_78 (by decide) h) eMd_init_80 eMd_init_82 rfl rfl rfl (by omega) ?_
  refine r_mdr (n := 16) (k := 10) hT hB eMd_init_85 (fun st s h => r_bip eMd_init_86 (by decide) h) eMd_init_88 eMd_init_90 rfl rfl rfl (by omega) ?_
  refine r_mdr (n := 32) (k := 11) hT hB eMd_init_93 (fun st s h => r_bip eMd_init_94 (by decide) h) eMd_init_96 eMd_init_98 rfl rfl rfl (by omega) ?_
  refine r_mdr (n := 32) (k := 12) hT hB eMd_init_101 (fun st s h => r_bip eMd_init_102 (by decide) h) eMd_init_104 eMd_init_106 rfl rfl rfl (by omega) ?_
  refine r_mdr (n := 8) (k := 13) hT hB eMd_init_109 (fun st s h => r_bip eMd_init_110 (by decide) h) eMd_init_112 eMd_init_114 rfl rfl rfl (by omega) ?_
  refine r_mdr (n := 8) (k := 14) hT hB eMd_init_117 (fun st s h => r_bip eMd_init_118 (by decide) h) eMd_init_120 eMd_init_122 rfl rfl rfl (by omega) ?_
  refine r_mdr (n := 32) (k := 15) hT hB eMd_init_125 (fun st s h => r_bip eMd_init_126 (by decide) h) eMd_init_128 eMd_init_130 rfl rfl rfl (by omega) ?_
  refine r_mdp (v := -1) (j := 28) hT hB eMd_init_133 (fun st s h => r_con eMd_init_134 h) eMd_init_135 rfl ?_
  refine r_mdr (n := 16) (k := 16) hT hB eMd_init_138 (fun st s h => r_bip eMd_init_139 (by decide) h) eMd_init_141 eMd_init_143 rfl rfl rfl (by omega) ?_
  refine r_mdr (n := 16) (k := 17) hT hB eMd_init_146 (fun st s h => r_bip eMd_init_147 (by decide) h) eMd_init_149 eMd_init_151 rfl rfl rfl (by omega) ?_
  refine r_mdr (n := 16) (k := 18) hT hB eMd_init_154 (fun st s h => r_bip eMd_init_155 (by decide) h) eMd_init_157 eMd_init_159 rfl rfl rfl (by omega) ?_
  refine r_mdr (n := 38880) (k := 19) hT hB eMd_init_162 (fun st s h => r_ldc (x := 38880) eMd_init_163 rfl (by decide) h) eMd_init_165 eMd_init_167 rfl rfl rfl (by omega) ?_
  refine r_mdr (n := 38880) (k := 20) hT hB eMd_init_170 (fun st s h => r_ldc (x := 38880) eMd_init_171 rfl (by decide) h) eMd_init_173 eMd_init_175 rfl rfl rfl (by omega) ?_
  refine r_mdp (v := -2) (j := 40) hT hB eMd_init_178 (fun st s h => r_bip eMd_init_179 (by decide) h) eMd_init_181 rfl ?_
  refine r_mdr (n := 143) (k := 21) hT hB eMd_init_184 (fun st s h => r_sip eMd_init_185 (by decide) h) eMd_init_188 eMd_init_190 rfl rfl rfl (by omega) ?_
  refine r_mdr (n := 4433) (k := 22) hT hB eMd_init_193 (fun st s h => r_sip eMd_init_194 (by decide) h) eMd_init_197 eMd_init_199 rfl rfl rfl (by omega) ?_
  refine r_mdr (n := 42) (k := 23) hT hB eMd_init_202 (fun st s h => r_bip eMd_init_203 (by decide) h) eMd_init_205 eMd_init_207 rfl rfl rfl (by omega) ?_
  refine r_mdr (n := 448) (k := 24) hT hB eMd_init_210 (fun st s h => r_sip eMd_init_211 (by decide) h) eMd_init_214 eMd_init_216 rfl rfl rfl (by omega) ?_
  refine r_mdr (n := 4) (k := 25) hT hB eMd_init_219 (fun st s h => r_con eMd_init_220 h) eMd_init_221 eMd_init_223 rfl rfl rfl (by omega) ?_
  exact l_Md_init hM (md_f0_b (md_n0_dr J M)) (md_n0_4 hz) (hq hM)
end MDJ
