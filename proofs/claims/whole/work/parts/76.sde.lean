/-! seeksDeeds, least of the reference -/
theorem md_get_20 (J : Nat → Nat → Int) (M i : Nat) (v : Int) : md_get (m_up J (M + 20) i v) M = md_get J M := by
  unfold md_get
  simp [m_up]
section MDSE
variable {en : Nat → Nat} {d : Nat} {T : Nat → Option (Nat × Nat)} {J J0 J1 : Nat → Nat → Int} {P : Nat → Nat → Option Nat} {L : Nat → Nat → Int64} {z w M : Nat} {Q : m_Q} {σ : a_S}
theorem l_Md_dd_body (hM : md_sh en M T P) (ok : a_ok (md_cf J M)) {go most its k c : Int} (hk : 0 ≤ k ∧ k < 38880) (hc : 0 ≤ c ∧ c < 9) (hits : 0 ≤ its ∧ its < 30000) (hmost : 0 ≤ most ∧ most < 30000) {r : Int} {τ : a_S} (er : J (M + 21) k.toNat = r) (eτ : a_back (a_of r) c = τ) (hr : 0 ≤ r ∧ r < 38880) (hft : ∀ i : Nat, i < 38880 → 0 ≤ J (M + 20) i ∧ J (M + 20) i ≤ 30000)
    (hroom : a_is (md_cf J M) τ = true → its < J (M + 20) (a_no τ).toNat → 0 ≤ J M 42 ∧ J M 42 < 38880)
    (h1 : ¬ a_is (md_cf J M) τ = true → m_wp en (d + 4) mMd_seeksDeeds 208 [some (.ref M), some (.int (m_i go)), some (.int (m_i most)), some (.int (m_i its)), some (.int (m_i k)), some (.int (m_i c))] [] (T, m_I (md_put J M τ), P, L, z, w) Q)
    (h2 : a_is (md_cf J M) τ = true → J (M + 20) (a_no τ).toNat ≤ its + a_dd c → m_wp en (d + 4) mMd_seeksDeeds 208 [some (.ref M), some (.int (m_i go)), some (.int (m_i most)), some (.int (m_i its)), some (.int (m_i k)), some (.int (m_i c))] [] (T, m_I (md_put J M τ), P, L, z, w) Q)
    (h3 : a_is (md_cf J M) τ = true → its + a_dd c < J (M + 20) (a_no τ).toNat → 0 < a_dd c → m_wp en (d + 4) mMd_seeksDeeds 208 [some (.ref M), some (.int (m_i go)), some (.int (m_i (a_gt most (its + a_dd c)))), some (.int (m_i its)), some (.int (m_i k)), some (.int (m_i c))] [] (T, m_I (m_up (md_put J M τ) (M + 20) (a_no τ).toNat (its + a_dd c)), P, L, z, w) Q)
    (h4 : a_is (md_cf J M) τ = true → its + a_dd c < J (M + 20) (a_no τ).toNat → a_dd c = 0 → m_wp en (d + 4) mMd_seeksDeeds 208 [some (.ref M), some (.int (m_i go)), some (.int (m_i (a_gt most (its + a_dd c)))), some (.int (m_i its)), some (.int (m_i k)), some (.int (m_i c))] [] (T, m_I (md_add (md_put J M τ) M (a_no τ) (its + a_dd c)), P, L, z, w) Q) :
    m_wp en (d + 4) mMd_seeksDeeds 98 [some (.ref M), some (.int (m_i go)), some (.int (m_i most)), some (.int (m_i its)), some (.int (m_i k)), some (.int (m_i c))] [] (T, m_I J, P, L, z, w) Q := by
  have ht0 := a_of_t hr.1 (show r < 100000 by omega)
  have hd0 := ht0.2.2.2.2
  have sm : a_sm τ := by rw [← eτ]; exact a_back_sm ht0 hc
  have hb01 := a_b_01 (a_is (md_cf J M) τ)
  have hdd := a_dd_bd c
  have hN : a_is (md_cf J M) τ = true → 0 ≤ a_no τ ∧ a_no τ < 38880 := fun q => a_no_bd (a_is_bx ok q)
  have hget : md_get (m_up (md_put J M τ) (M + 20) (a_no τ).toNat (its + a_dd c)) M = τ := by rw [md_get_20, md_get_put]
  have e42 : (m_up (md_put J M τ) (M + 20) (a_no τ).toNat (its + a_dd c)) M 42 = J M 42 := by rw [m_up_at, if_neg (by omega), md_put_f J M τ (by omega)]
  have eadd : md_add (md_put J M τ) M (a_no τ) (its + a_dd c) = m_up (m_up (m_up (md_put J M τ) (M + 20) (a_no τ).toNat (its + a_dd c)) (M + 21) (J M 42).toNat (a_no τ)) M 42 (J M 42 + 1) := by
    unfold md_add
    rw [md_put_f J M τ (by omega)]
  rw [eadd] at h4
  refine r_aln eMd_seeksDeeds_98 rfl ?_
  refine r_aln eMd_seeksDeeds_99 rfl ?_
  refine m_getR eMd_seeksDeeds_100 rfl hM.2.1 (md_line_p hM) ?_
  refine r_il eMd_seeksDeeds_103 rfl ?_
  refine r_ialde (x := J (M + 21) ((k).toNat)) eMd_seeksDeeds_105 (md_line_t hM) (by decide) (by omega) (by omega) rfl ?_
  rw [er]
  refine r_vir eMd_seeksDeeds_106 rfl rfl rfl hM.2.1 rfl rfl ?_
  refine c_Md_lays hM (by omega) (by omega) ?_
  show m_wp en _ mMd_seeksDeeds 109 [some (.ref M), some (.int (m_i (go))), some (.int (m_i (most))), some (.int (m_i (its))), some (.int (m_i (k))), some (.int (m_i (c)))] [] (T, m_I ((md_put J M (a_of r))), P, L, z, w) Q
  refine r_aln eMd_seeksDeeds_109 rfl ?_
  refine r_il eMd_seeksDeeds_110 rfl ?_
  refine r_vir eMd_seeksDeeds_112 rfl rfl rfl hM.2.1 rfl rfl ?_
  refine s_Md_stepsBack hM (by omega) (by omega) ⟨by omega, by omega⟩ ?_
  show m_wp en _ mMd_seeksDeeds 115 [some (.ref M), some (.int (m_i (go))), some (.int (m_i (most))), some (.int (m_i (its))), some (.int (m_i (k))), some (.int (m_i (c)))] [] (T, m_I ((md_put J M (a_back ((a_of r)) c))), P, L, z, w) Q
  rw [eτ]
  refine r_aln eMd_seeksDeeds_115 rfl ?_
  refine r_vir eMd_seeksDeeds_116 rfl rfl rfl hM.2.1 rfl rfl ?_
  refine s_Md_isState hM ok sm ?_
  show m_wp en _ mMd_seeksDeeds 119 [some (.ref M), some (.int (m_i (go))), some (.int (m_i (most))), some (.int (m_i (its))), some (.int (m_i (k))), some (.int (m_i (c)))] [(.int (m_i (a_b (a_is (md_cf J M) τ))))] (T, m_I ((md_put J M τ)), P, L, z, w) Q
  refine r_zeq (tgt := 208) eMd_seeksDeeds_119 rfl ⟨(by omega), (by omega)⟩ (fun c119 => ?_) (fun c119 => ?_)
  · first | exact h1 (fun q => by rw [a_b_t q] at c119; omega) | exact h2 his (by omega) | exact h3 his (by omega) (by omega) | exact h4 his (by omega) (by omega)
  · have his : a_is (md_cf J M) τ = true := Classical.byContradiction (fun q => c119 (a_b_f q))
    have hNb := hN his
    have hfb := hft (a_no τ).toNat (by omega)
    have hroom2 := hroom his
    refine r_aln eMd_seeksDeeds_122 rfl ?_
    refine m_getR eMd_seeksDeeds_123 rfl hM.2.1 (md_far_p hM) ?_
    refine r_aln eMd_seeksDeeds_126 rfl ?_
    refine r_vir eMd_seeksDeeds_127 rfl rfl rfl hM.2.1 rfl rfl ?_
    refine s_Md_laid hM ?_
    show m_wp en _ mMd_seeksDeeds 130 [some (.ref M), some (.int (m_i (go))), some (.int (m_i (most))), some (.int (m_i (its))), some (.int (m_i (k))), some (.int (m_i (c)))] [(.int (m_i (a_no τ))), (.ref (M + 20))] (T, m_I ((md_put J M τ)), P, L, z, w) Q
    refine r_salde (x := J (M + 20) ((a_no τ).toNat)) eMd_seeksDeeds_130 (md_far_t hM) (by decide) (by omega) (by omega) (by simp [m_up, md_put_at, m_fl]) ?_
    refine r_iln eMd_seeksDeeds_131 rfl ?_
    refine r_il eMd_seeksDeeds_132 rfl ?_
    refine r_sta eMd_seeksDeeds_134 rfl rfl (by decide) rfl ?_
    refine c_Md_deeds hc ?_
    show m_wp en _ mMd_seeksDeeds 137 [some (.ref M), some (.int (m_i (go))), some (.int (m_i (most))), some (.int (m_i (its))), some (.int (m_i (k))), some (.int (m_i (c)))] [(.int (m_i (a_dd c))), (.int (m_i (its))), (.int (m_i (J (M + 20) ((a_no τ).toNat))))] (T, m_I ((md_put J M τ)), P, L, z, w) Q
    refine r_add eMd_seeksDeeds_137 ?_
    refine r_cgt (tgt := 144) eMd_seeksDeeds_138 rfl ⟨(by omega), (by omega)⟩ ⟨(by omega), (by omega)⟩ (fun c138 => ?_) (fun c138 => ?_)
    · refine r_aln eMd_seeksDeeds_144 rfl ?_
      refine m_getR eMd_seeksDeeds_145 rfl hM.2.1 (md_far_p hM) ?_
      refine r_aln eMd_seeksDeeds_148 rfl ?_
      refine r_vir eMd_seeksDeeds_149 rfl rfl rfl hM.2.1 rfl rfl ?_
      refine s_Md_laid hM ?_
      show m_wp en _ mMd_seeksDeeds 152 [some (.ref M), some (.int (m_i (go))), some (.int (m_i (most))), some (.int (m_i (its))), some (.int (m_i (k))), some (.int (m_i (c)))] [(.int (m_i (a_no τ))), (.ref (M + 20))] (T, m_I ((md_put J M τ)), P, L, z, w) Q
      refine r_iln eMd_seeksDeeds_152 rfl ?_
      refine r_il eMd_seeksDeeds_153 rfl ?_
      refine r_sta eMd_seeksDeeds_155 rfl rfl (by decide) rfl ?_
      refine c_Md_deeds hc ?_
      show m_wp en _ mMd_seeksDeeds 158 [some (.ref M), some (.int (m_i (go))), some (.int (m_i (most))), some (.int (m_i (its))), some (.int (m_i (k))), some (.int (m_i (c)))] [(.int (m_i (a_dd c))), (.int (m_i (its))), (.int (m_i (a_no τ))), (.ref (M + 20))] (T, m_I ((md_put J M τ)), P, L, z, w) Q
      refine r_add eMd_seeksDeeds_158 ?_
      refine r_i2sx eMd_seeksDeeds_159 ⟨(by omega), (by omega)⟩ ?_
      refine r_sast eMd_seeksDeeds_160 (md_far_t hM) (by decide) (by omega) (by omega) (md_b hM 20) (m_s16_id ⟨(by omega), (by omega)⟩) ?_
      refine r_aln eMd_seeksDeeds_161 rfl ?_
      refine r_iln eMd_seeksDeeds_162 rfl ?_
      refine r_iln eMd_seeksDeeds_163 rfl ?_
      refine r_il eMd_seeksDeeds_164 rfl ?_
      refine r_sta eMd_seeksDeeds_166 rfl rfl (by decide) rfl ?_
      refine c_Md_deeds hc ?_
      show m_wp en _ mMd_seeksDeeds 169 [some (.ref M), some (.int (m_i (go))), some (.int (m_i (most))), some (.int (m_i (its))), some (.int (m_i (k))), some (.int (m_i (c)))] [(.int (m_i (a_dd c))), (.int (m_i (its))), (.int (m_i (most))), (.ref M)] (T, m_I ((m_up (md_put J M τ) (M + 20) ((a_no τ).toNat) ((its) + (a_dd c)))), P, L, z, w) Q
      refine r_add eMd_seeksDeeds_169 ?_
      refine r_vir eMd_seeksDeeds_170 rfl rfl rfl hM.2.1 rfl rfl ?_
      refine c_Md_greater hM (by unfold m_in; omega) (by unfold m_in; omega) ?_
      show m_wp en _ mMd_seeksDeeds 173 [some (.ref M), some (.int (m_i (go))), some (.int (m_i (most))), some (.int (m_i (its))), some (.int (m_i (k))), some (.int (m_i (c)))] [(.int (m_i (a_gt (most) (((its) + (a_dd c))))))] (T, m_I ((m_up (md_put J M τ) (M + 20) ((a_no τ).toNat) ((its) + (a_dd c)))), P, L, z, w) Q
      refine r_isn (ls' := [some (.ref M), some (.int (m_i (go))), some (.int (m_i (a_gt (most) (((its) + (a_dd c)))))), some (.int (m_i (its))), some (.int (m_i (k))), some (.int (m_i (c)))]) eMd_seeksDeeds_173 (Nat.le_of_ble_eq_true rfl) rfl ?_
      refine r_il eMd_seeksDeeds_174 rfl ?_
      refine r_sta eMd_seeksDeeds_176 rfl rfl (by decide) rfl ?_
      refine c_Md_deeds hc ?_
      show m_wp en _ mMd_seeksDeeds 179 [some (.ref M), some (.int (m_i (go))), some (.int (m_i (a_gt (most) (((its) + (a_dd c)))))), some (.int (m_i (its))), some (.int (m_i (k))), some (.int (m_i (c)))] [(.int (m_i (a_dd c)))] (T, m_I ((m_up (md_put J M τ) (M + 20) ((a_no τ).toNat) ((its) + (a_dd c)))), P, L, z, w) Q
      refine r_zle (tgt := 185) eMd_seeksDeeds_179 rfl ⟨(by omega), (by omega)⟩ (fun c179 => ?_) (fun c179 => ?_)
      · refine r_aln eMd_seeksDeeds_185 rfl ?_
        refine m_getR eMd_seeksDeeds_186 rfl hM.2.1 (md_line_p hM) ?_
        refine r_aln eMd_seeksDeeds_189 rfl ?_
        refine r_gete (x := J M 42) eMd_seeksDeeds_190 rfl (by decide) hM.2.1 (by simp [m_up, md_put_at, m_fl]) ?_
        refine r_aln eMd_seeksDeeds_193 rfl ?_
        refine r_vir eMd_seeksDeeds_194 rfl rfl rfl hM.2.1 rfl rfl ?_
        refine c_Md_laid hM ?_
        rw [hget]
        show m_wp en _ mMd_seeksDeeds 197 [some (.ref M), some (.int (m_i (go))), some (.int (m_i (a_gt (most) (((its) + (a_dd c)))))), some (.int (m_i (its))), some (.int (m_i (k))), some (.int (m_i (c)))] [(.int (m_i (a_no τ))), (.int (m_i (J M 42))), (.ref (M + 21))] (T, m_I ((m_up (md_put J M τ) (M + 20) ((a_no τ).toNat) ((its) + (a_dd c)))), P, L, z, w) Q
        refine r_iast eMd_seeksDeeds_197 (md_line_t hM) (by decide) (by omega) (by omega) (md_b hM 21) ?_
        refine r_aln eMd_seeksDeeds_198 rfl ?_
        refine r_dupr eMd_seeksDeeds_199 ?_
        refine r_gete (x := J M 42) eMd_seeksDeeds_200 rfl (by decide) hM.2.1 (by simp [m_up, md_put_at, m_fl]) ?_
        refine r_con eMd_seeksDeeds_203 ?_
        refine r_add eMd_seeksDeeds_204 ?_
        refine r_put eMd_seeksDeeds_205 rfl hM.2.1 hM.1 (Or.inl rfl) ?_
        first | exact h1 (fun q => by rw [a_b_t q] at c119; omega) | exact h2 his (by omega) | exact h3 his (by omega) (by omega) | exact h4 his (by omega) (by omega)
      · refine r_go (tgt := 208) eMd_seeksDeeds_182 rfl ?_
        first | exact h1 (fun q => by rw [a_b_t q] at c119; omega) | exact h2 his (by omega) | exact h3 his (by omega) (by omega) | exact h4 his (by omega) (by omega)
    · refine r_go (tgt := 208) eMd_seeksDeeds_141 rfl ?_
      first | exact h1 (fun q => by rw [a_b_t q] at c119; omega) | exact h2 his (by omega) | exact h3 his (by omega) (by omega) | exact h4 his (by omega) (by omega)
/-- the codes of one of the line -/
theorem l_Md_dd1 (hM : md_sh en M T P) {C : a_C} (ok : a_ok C) {go its : Int} (hgo : 0 ≤ go ∧ go < 38880) (hits : 0 ≤ its ∧ its < 30000) {k : Nat}
    (hk : ∀ (J : Nat → Nat → Int) (most : Int) (o : Option Value), md_fs J0 J M → dd_A C go J M → dd_D C its J M → dd_M most J M → dd_L its 38880 J M → (∀ i, i < k + 1 → dd_K C its 9 J M i) → k < (J M 42).toNat → m_wp en (d + 4) mMd_seeksDeeds 79 [some (.ref M), some (.int (m_i go)), some (.int (m_i most)), some (.int (m_i its)), some (.int (m_i ((k + 1 : Nat) : Int))), o] [] (T, m_I J, P, L, z, w) Q) (hC : md_cf J0 M = C) :
    ∀ (n : Nat) (c : Int) (J : Nat → Nat → Int) (most : Int), c + n = 9 → 0 ≤ c → md_fs J0 J M → dd_A C go J M → dd_D C its J M → dd_M most J M → dd_L its 38880 J M → (∀ i, i < k → dd_K C its 9 J M i) → k < (J M 42).toNat → dd_K C its c J M k →
      m_wp en (d + 4) mMd_seeksDeeds 91 [some (.ref M), some (.int (m_i go)), some (.int (m_i most)), some (.int (m_i its)), some (.int (m_i (k : Int))), some (.int (m_i c))] [] (T, m_I J, P, L, z, w) Q := by
  intro n
  induction n with
  | zero =>
    intro c J most hc h0 hfx hA hD hMo hL hKs hkm hK
    obtain rfl : c = 9 := by omega
    refine r_il eMd_seeksDeeds_91 rfl ?_
    refine r_bip eMd_seeksDeeds_93 (by decide) ?_
    refine r_cge (tgt := 214) eMd_seeksDeeds_95 rfl ⟨(by omega), (by omega)⟩ ⟨(by omega), (by omega)⟩ (fun c95 => ?_) (fun c95 => ?_)
    · refine r_inc (ls' := [some (.ref M), some (.int (m_i (go))), some (.int (m_i (most))), some (.int (m_i (its))), some (.int (m_i ((k : Int) + 1))), some (.int (m_i (9)))]) eMd_seeksDeeds_214 rfl rfl ?_
      refine r_go (tgt := 79) eMd_seeksDeeds_217 rfl ?_
      refine hk J most _ hfx hA hD hMo hL (fun i hi => ?_) hkm
      rcases Nat.lt_or_eq_of_le (Nat.le_of_lt_succ hi) with q | q
      · exact hKs i q
      · rw [q]; exact hK
    · exfalso; omega
  | succ n ih =>
    intro c J most hc h0 hfx hA hD hMo hL hKs hkm hK
    have hCJ : md_cf J M = C := hfx.cf.trans hC
    have okJ : a_ok (md_cf J M) := by rw [hCJ]; exact ok
    have hl0 := hL.1
    have hr := (hL.2.1 k hkm).1
    have hri := (hL.2.1 k hkm).2
    have hdd := a_dd_bd c
    have erq : J (M + 21) (k : Int).toNat = rq J M k := by rw [Int.toNat_natCast]; rfl
    have st : ∀ (J' : Nat → Nat → Int) (most' : Int), m_wp en (d + 4) mMd_seeksDeeds 91 [some (.ref M), some (.int (m_i go)), some (.int (m_i most')), some (.int (m_i its)), some (.int (m_i (k : Int))), some (.int (m_i (c + 1)))] [] (T, m_I J', P, L, z, w) Q → m_wp en (d + 4) mMd_seeksDeeds 208 [some (.ref M), some (.int (m_i go)), some (.int (m_i most')), some (.int (m_i its)), some (.int (m_i (k : Int))), some (.int (m_i c))] [] (T, m_I J', P, L, z, w) Q := by
      intro J' most' h
      refine r_inc (ls' := [some (.ref M), some (.int (m_i (go))), some (.int (m_i (most'))), some (.int (m_i (its))), some (.int (m_i ((k : Int)))), some (.int (m_i (c + 1)))]) eMd_seeksDeeds_208 rfl rfl ?_
      refine r_go (tgt := 91) eMd_seeksDeeds_211 rfl ?_
      exact h
    have hNb : a_is (md_cf J M) (a_back (a_of (rq J M k)) c) = true → 0 ≤ a_no (a_back (a_of (rq J M k)) c) ∧ a_no (a_back (a_of (rq J M k)) c) < 38880 := fun q => a_no_bd (a_is_bx okJ q)
    have put : ∀ σ : a_S, (a_is (md_cf J M) (a_back (a_of (rq J M k)) c) = true → J (M + 20) (a_no (a_back (a_of (rq J M k)) c)).toNat ≤ its + a_dd c) → m_wp en (d + 4) mMd_seeksDeeds 91 [some (.ref M), some (.int (m_i go)), some (.int (m_i most)), some (.int (m_i its)), some (.int (m_i (k : Int))), some (.int (m_i (c + 1)))] [] (T, m_I (md_put J M σ), P, L, z, w) Q := fun σ hle => by
      have e20 : md_put J M σ (M + 20) = J (M + 20) := md_put_r J M σ (by omega)
      have e42 : md_put J M σ M 42 = J M 42 := md_put_f J M σ (by omega)
      refine ih (c + 1) _ most (by omega) (by omega) (hfx.put _) (by unfold dd_A; rw [e20]; exact hA) (by unfold dd_D; rw [e20]; exact hD) (by unfold dd_M; rw [e20]; exact hMo) (by unfold dd_L; rw [e20, e42, rq_put]; exact hL) (fun i hi => by unfold dd_K; rw [e20, rq_put]; exact hKs i hi) (by rw [e42]; exact hkm) ?_
      rw [hCJ] at hle
      have h9 := dd_K_s hK hle
      unfold dd_K at h9 ⊢
      rw [e20, rq_put]
      exact h9
    have body : m_wp en (d + 4) mMd_seeksDeeds 98 [some (.ref M), some (.int (m_i go)), some (.int (m_i most)), some (.int (m_i its)), some (.int (m_i (k : Int))), some (.int (m_i c))] [] (T, m_I J, P, L, z, w) Q := by
      refine l_Md_dd_body hM okJ (by omega) (by omega) hits hMo.1 erq rfl hr hA.1 (fun his hlt => ⟨hl0.1, dd_room hL (hNb his) hlt⟩) (fun hn => st _ _ (put _ (fun q => absurd q hn))) (fun his hle => st _ _ (put _ (fun _ => hle))) (fun his hgt hpos => st _ _ ?_) (fun his hgt hz => st _ _ ?_)
      · have hN := hNb his
        have hb := hA.1 (a_no (a_back (a_of (rq J M k)) c)).toNat (by omega)
        have e20 : ∀ i, m_up (md_put J M (a_back (a_of (rq J M k)) c)) (M + 20) (a_no (a_back (a_of (rq J M k)) c)).toNat (its + a_dd c) (M + 20) i = if i = (a_no (a_back (a_of (rq J M k)) c)).toNat then its + a_dd c else J (M + 20) i := fun i => by
          rw [m_up_at, md_put_o J M _ (by omega)]
          by_cases q : i = (a_no (a_back (a_of (rq J M k)) c)).toNat
          · rw [if_pos ⟨rfl, q⟩, if_pos q]
          · rw [if_neg (fun z => q z.2), if_neg q]
        have e21 : m_up (md_put J M (a_back (a_of (rq J M k)) c)) (M + 20) (a_no (a_back (a_of (rq J M k)) c)).toNat (its + a_dd c) (M + 21) = J (M + 21) := funext (fun i => by rw [m_up_at, if_neg (by omega), md_put_o J M _ (by omega)])
        have e42 : m_up (md_put J M (a_back (a_of (rq J M k)) c)) (M + 20) (a_no (a_back (a_of (rq J M k)) c)).toNat (its + a_dd c) M 42 = J M 42 := by rw [m_up_at, if_neg (by omega), md_put_f J M _ (by omega)]
        have eq : ∀ i, rq (m_up (md_put J M (a_back (a_of (rq J M k)) c)) (M + 20) (a_no (a_back (a_of (rq J M k)) c)).toNat (its + a_dd c)) M i = rq J M i := fun i => congrFun e21 i
        rw [hCJ] at his
        refine ih (c + 1) _ _ (by omega) (by omega) ((hfx.put (a_back (a_of (rq J M k)) c)).trans (fun b i a1 _ _ => by rw [m_up_at, if_neg (fun q => a1 q.1)])) (dd_A_up ok hA hgo hr hri (by omega) his hgt e20) (dd_D_up ok hD (by omega) hgt e20) (dd_M_up hMo (by omega) e20) (dd_L_up hL hN (by omega) hgt e20 e21 e42) (fun i hi => dd_K_up (hKs i hi) hgt e20 (eq i)) (by rw [e42]; exact hkm) (dd_K_s (dd_K_up hK hgt e20 (eq k)) (fun _ => ?_))
        rw [eq k, e20, if_pos rfl]
        omega
      · have hN := hNb his
        have hb := hA.1 (a_no (a_back (a_of (rq J M k)) c)).toNat (by omega)
        have e20p : md_put J M (a_back (a_of (rq J M k)) c) (M + 20) = J (M + 20) := md_put_r J M _ (by omega)
        have e42p : md_put J M (a_back (a_of (rq J M k)) c) M 42 = J M 42 := md_put_f J M _ (by omega)
        have e20 : ∀ i, md_add (md_put J M (a_back (a_of (rq J M k)) c)) M (a_no (a_back (a_of (rq J M k)) c)) (its + a_dd c) (M + 20) i = if i = (a_no (a_back (a_of (rq J M k)) c)).toNat then its + a_dd c else J (M + 20) i := fun i => by
          rw [← e20p]
          simp [md_add, m_up]
        have eq : ∀ i, i < (J M 42).toNat → rq (md_add (md_put J M (a_back (a_of (rq J M k)) c)) M (a_no (a_back (a_of (rq J M k)) c)) (its + a_dd c)) M i = rq J M i := fun i hi => by rw [rq_add (by rw [e42p]; exact hi), rq_put]
        have e42 : md_add (md_put J M (a_back (a_of (rq J M k)) c)) M (a_no (a_back (a_of (rq J M k)) c)) (its + a_dd c) M 42 = J M 42 + 1 := by
          rw [← e42p]
          simp [md_add, m_up]
        have hL2 : dd_L its 38880 (md_put J M (a_back (a_of (rq J M k)) c)) M := by unfold dd_L; rw [e20p, e42p, rq_put]; exact hL
        have hLn := dd_L_add hL2 hN (by rw [e20p]; omega)
        have ez : its = its + a_dd c := by omega
        rw [hCJ] at his
        refine ih (c + 1) _ _ (by omega) (by omega) ((hfx.put _).add _ _) (dd_A_up ok hA hgo hr hri (by omega) his hgt e20) (dd_D_up ok hD (by omega) hgt e20) (dd_M_up hMo (by omega) e20) (by rw [← ez]; exact hLn) (fun i hi => dd_K_up (hKs i hi) hgt e20 (eq i (by omega))) (by rw [e42]; omega) (dd_K_s (dd_K_up hK hgt e20 (eq k hkm)) (fun _ => ?_))
        rw [eq k hkm, e20, if_pos rfl]
        omega
    refine r_il eMd_seeksDeeds_91 rfl ?_
    refine r_bip eMd_seeksDeeds_93 (by decide) ?_
    refine r_cge (tgt := 214) eMd_seeksDeeds_95 rfl ⟨(by omega), (by omega)⟩ ⟨(by omega), (by omega)⟩ (fun c95 => ?_) (fun c95 => ?_)
    · exfalso; omega
    · exact body
/-- the line is worked off -/
theorem l_Md_dd2 (hM : md_sh en M T P) {C : a_C} (ok : a_ok C) {go its : Int} (hgo : 0 ≤ go ∧ go < 38880) (hits : 0 ≤ its ∧ its < 30000) (hC : md_cf J0 M = C)
    (hk : ∀ (J : Nat → Nat → Int) (most : Int) (o4 o5 : Option Value), md_fs J0 J M → dd_A C go J M → dd_D C (its + 1) J M → dd_M most J M → m_wp en (d + 4) mMd_seeksDeeds 15 [some (.ref M), some (.int (m_i go)), some (.int (m_i most)), some (.int (m_i (its + 1))), o4, o5] [] (T, m_I J, P, L, z, w) Q) :
    ∀ (n k : Nat) (J : Nat → Nat → Int) (most : Int) (o : Option Value), k + n = 38881 → md_fs J0 J M → dd_A C go J M → dd_D C its J M → dd_M most J M → dd_L its 38880 J M → (∀ i, i < k → dd_K C its 9 J M i) → k ≤ (J M 42).toNat →
      m_wp en (d + 4) mMd_seeksDeeds 79 [some (.ref M), some (.int (m_i go)), some (.int (m_i most)), some (.int (m_i its)), some (.int (m_i (k : Int))), o] [] (T, m_I J, P, L, z, w) Q := by
  intro n
  induction n with
  | zero =>
    intro k J most o hk0 hfx hA hD hMo hL hKs hkm
    have := hL.1
    exfalso
    omega
  | succ n ih =>
    intro k J most o hk0 hfx hA hD hMo hL hKs hkm
    have hl := hL.1
    refine r_il eMd_seeksDeeds_79 rfl ?_
    refine r_aln eMd_seeksDeeds_81 rfl ?_
    refine r_gete (x := J M 42) eMd_seeksDeeds_82 rfl (by decide) hM.2.1 rfl ?_
    refine r_cge (tgt := 220) eMd_seeksDeeds_85 rfl ⟨(by omega), (by omega)⟩ ⟨(by omega), (by omega)⟩ (fun c85 => ?_) (fun c85 => ?_)
    · refine r_inc (ls' := [some (.ref M), some (.int (m_i (go))), some (.int (m_i (most))), some (.int (m_i (its + 1))), some (.int (m_i ((k : Int)))), o]) eMd_seeksDeeds_220 rfl rfl ?_
      refine r_go (tgt := 15) eMd_seeksDeeds_223 rfl ?_
      exact hk J most _ _ hfx hA (dd_D_s hD hL (fun i hi => hKs i (by omega))) hMo
    · refine r_con eMd_seeksDeeds_88 ?_
      refine r_is (ls' := [some (.ref M), some (.int (m_i (go))), some (.int (m_i (most))), some (.int (m_i (its))), some (.int (m_i ((k : Int)))), some (.int (m_i (0)))]) eMd_seeksDeeds_89 (Nat.le_of_ble_eq_true rfl) rfl ?_
      exact l_Md_dd1 hM ok hgo hits (fun J' most' o' a1 a2 a3 a4 a5 a6 a7 => ih (k + 1) J' most' o' (by omega) a1 a2 a3 a4 a5 a6 a7) hC 9 0 J most (by omega) (by omega) hfx hA hD hMo hL hKs (by omega) (fun c' g0 g1 => by omega)
/-- the line is laid -/
theorem dd_L_skip {its : Int} {k : Nat} (h : dd_L its k J M) (hn : J (M + 20) k ≠ its) : dd_L its (k + 1) J M := by
  obtain ⟨h0, h1, h2, h3⟩ := h
  refine ⟨h0, fun i hi => ⟨⟨(h1 i hi).1.1, by have := (h1 i hi).1.2; omega⟩, (h1 i hi).2⟩, fun n hn2 hf => ?_, h3⟩
  by_cases q : n = (k : Int)
  · rw [q, Int.toNat_natCast] at hf
    exact absurd hf hn
  · exact h2 n (by omega) hf
theorem dd_L_put {its : Int} {k : Nat} (hk : k < 38880) (hm : J M 42 ≤ k) (h : dd_L its k J M) (hn : J (M + 20) k = its) : dd_L its (k + 1) (m_up (m_up J (M + 21) (J M 42).toNat (k : Int)) M 42 (J M 42 + 1)) M := by
  obtain ⟨h0, h1, h2, h3⟩ := h
  have e42 : m_up (m_up J (M + 21) (J M 42).toNat (k : Int)) M 42 (J M 42 + 1) M 42 = J M 42 + 1 := m_up_same
  have e20 : m_up (m_up J (M + 21) (J M 42).toNat (k : Int)) M 42 (J M 42 + 1) (M + 20) = J (M + 20) := funext (fun i => by rw [m_up_at, if_neg (by omega), m_up_at, if_neg (by omega)])
  have eq : ∀ i, rq (m_up (m_up J (M + 21) (J M 42).toNat (k : Int)) M 42 (J M 42 + 1)) M i = if i = (J M 42).toNat then (k : Int) else rq J M i := fun i => by
    unfold rq
    rw [m_up_at, if_neg (by omega), m_up_at]
    by_cases q : i = (J M 42).toNat
    · rw [if_pos ⟨rfl, q⟩, if_pos q]
    · rw [if_neg (fun z => q z.2), if_neg q]
  refine ⟨by rw [e42]; omega, fun i hi => ?_, fun n hn2 hf => ?_, fun i j hi hj q => ?_⟩
  · rw [e42] at hi
    rw [e20, eq]
    by_cases q : i = (J M 42).toNat
    · rw [if_pos q, Int.toNat_natCast]
      exact ⟨by omega, hn⟩
    · rw [if_neg q]
      have := h1 i (by omega)
      exact ⟨by omega, this.2⟩
  · rw [e20] at hf
    rw [e42]
    by_cases q : n = (k : Int)
    · exact ⟨(J M 42).toNat, by omega, by rw [eq, if_pos rfl, q]⟩
    · obtain ⟨i, hi, e⟩ := h2 n (by omega) hf
      exact ⟨i, by omega, by rw [eq, if_neg (by omega)]; exact e⟩
  · rw [e42] at hi hj
    rw [eq, eq] at q
    by_cases qi : i = (J M 42).toNat
    · by_cases qj : j = (J M 42).toNat
      · omega
      · rw [if_pos qi, if_neg qj] at q
        have := (h1 j (by omega)).1
        omega
    · by_cases qj : j = (J M 42).toNat
      · rw [if_neg qi, if_pos qj] at q
        have := (h1 i (by omega)).1
        omega
      · rw [if_neg qi, if_neg qj] at q
        exact h3 i j (by omega) (by omega) q
theorem l_Md_dd3 (hM : md_sh en M T P) {C : a_C} {go its most : Int} (hits : 0 ≤ its ∧ its < 30000) {o5 : Option Value}
    (hk : ∀ (J : Nat → Nat → Int), md_fs J0 J M → dd_A C go J M → dd_D C its J M → dd_M most J M → dd_L its 38880 J M → m_wp en (d + 4) mMd_seeksDeeds 79 [some (.ref M), some (.int (m_i go)), some (.int (m_i most)), some (.int (m_i its)), some (.int (m_i 0)), o5] [] (T, m_I J, P, L, z, w) Q) :
    ∀ (n k : Nat) (J : Nat → Nat → Int), k + n = 38880 → md_fs J0 J M → dd_A C go J M → dd_D C its J M → dd_M most J M → dd_L its k J M → J M 42 ≤ k →
      m_wp en (d + 4) mMd_seeksDeeds 28 [some (.ref M), some (.int (m_i go)), some (.int (m_i most)), some (.int (m_i its)), some (.int (m_i (k : Int))), o5] [] (T, m_I J, P, L, z, w) Q := by
  intro n
  induction n with
  | zero =>
    intro k J hk0 hfx hA hD hMo hL hkm
    obtain rfl : k = 38880 := by omega
    refine r_il eMd_seeksDeeds_28 rfl ?_
    refine r_ldc (x := 38880) eMd_seeksDeeds_30 rfl (by decide) ?_
    refine r_cge (tgt := 76) eMd_seeksDeeds_32 rfl ⟨(by omega), (by omega)⟩ ⟨(by omega), (by omega)⟩ (fun c32 => ?_) (fun c32 => ?_)
    · refine r_con eMd_seeksDeeds_76 ?_
      refine r_is (ls' := [some (.ref M), some (.int (m_i (go))), some (.int (m_i (most))), some (.int (m_i (its))), some (.int (m_i (0))), o5]) eMd_seeksDeeds_77 (Nat.le_of_ble_eq_true rfl) rfl ?_
      exact hk J hfx hA hD hMo hL
    · exfalso; omega
  | succ n ih =>
    intro k J hk0 hfx hA hD hMo hL hkm
    have hl := hL.1
    have e1 : (k : Int).toNat = k := Int.toNat_natCast k
    have hb := hA.1 k (by omega)
    have hb2 : 0 ≤ J (M + 20) (k : Int).toNat ∧ J (M + 20) (k : Int).toNat ≤ 30000 := by rw [e1]; exact hb
    have e20 : m_up (m_up J (M + 21) (J M 42).toNat (k : Int)) M 42 (J M 42 + 1) (M + 20) = J (M + 20) := funext (fun i => by rw [m_up_at, if_neg (by omega), m_up_at, if_neg (by omega)])
    refine r_il eMd_seeksDeeds_28 rfl ?_
    refine r_ldc (x := 38880) eMd_seeksDeeds_30 rfl (by decide) ?_
    refine r_cge (tgt := 76) eMd_seeksDeeds_32 rfl ⟨(by omega), (by omega)⟩ ⟨(by omega), (by omega)⟩ (fun c32 => ?_) (fun c32 => ?_)
    · exfalso; omega
    · refine r_aln eMd_seeksDeeds_35 rfl ?_
      refine m_getR eMd_seeksDeeds_36 rfl hM.2.1 (md_far_p hM) ?_
      refine r_il eMd_seeksDeeds_39 rfl ?_
      refine r_salde (x := J (M + 20) (((k : Int)).toNat)) eMd_seeksDeeds_41 (md_far_t hM) (by decide) (by omega) (by omega) rfl ?_
      refine r_iln eMd_seeksDeeds_42 rfl ?_
      refine r_ceq (tgt := 49) eMd_seeksDeeds_43 rfl ⟨(by omega), (by omega)⟩ ⟨(by omega), (by omega)⟩ (fun c43 => ?_) (fun c43 => ?_)
      · refine r_aln eMd_seeksDeeds_49 rfl ?_
        refine m_getR eMd_seeksDeeds_50 rfl hM.2.1 (md_line_p hM) ?_
        refine r_aln eMd_seeksDeeds_53 rfl ?_
        refine r_gete (x := J M 42) eMd_seeksDeeds_54 rfl (by decide) hM.2.1 rfl ?_
        refine r_il eMd_seeksDeeds_57 rfl ?_
        refine r_iast eMd_seeksDeeds_59 (md_line_t hM) (by decide) (by omega) (by omega) (md_b hM 21) ?_
        refine r_aln eMd_seeksDeeds_60 rfl ?_
        refine r_dupr eMd_seeksDeeds_61 ?_
        refine r_gete (x := J M 42) eMd_seeksDeeds_62 rfl (by decide) hM.2.1 (by simp [m_up, md_put_at, m_fl]) ?_
        refine r_con eMd_seeksDeeds_65 ?_
        refine r_add eMd_seeksDeeds_66 ?_
        refine r_put eMd_seeksDeeds_67 rfl hM.2.1 hM.1 (Or.inl rfl) ?_
        refine r_inc (ls' := [some (.ref M), some (.int (m_i (go))), some (.int (m_i (most))), some (.int (m_i (its))), some (.int (m_i ((k : Int) + 1))), o5]) eMd_seeksDeeds_70 rfl rfl ?_
        refine r_go (tgt := 28) eMd_seeksDeeds_73 rfl ?_
        first | exact ih (k + 1) J (by omega) hfx hA hD hMo (dd_L_skip hL (by rw [← e1]; omega)) (by omega) | exact ih (k + 1) _ (by omega) (hfx.trans (fun b i _ a2 a3 => by rw [m_up_at, if_neg (by omega), m_up_at, if_neg (fun q => a2 q.1)])) (by unfold dd_A; rw [e20]; exact hA) (by unfold dd_D; rw [e20]; exact hD) (by unfold dd_M; rw [e20]; exact hMo) (dd_L_put (by omega) hkm hL (by rw [← e1]; omega)) (by rw [m_up_same]; omega)
      · refine r_go (tgt := 70) eMd_seeksDeeds_46 rfl ?_
        refine r_inc (ls' := [some (.ref M), some (.int (m_i (go))), some (.int (m_i (most))), some (.int (m_i (its))), some (.int (m_i ((k : Int) + 1))), o5]) eMd_seeksDeeds_70 rfl rfl ?_
        refine r_go (tgt := 28) eMd_seeksDeeds_73 rfl ?_
        first | exact ih (k + 1) J (by omega) hfx hA hD hMo (dd_L_skip hL (by rw [← e1]; omega)) (by omega) | exact ih (k + 1) _ (by omega) (hfx.trans (fun b i _ a2 a3 => by rw [m_up_at, if_neg (by omega), m_up_at, if_neg (fun q => a2 q.1)])) (by unfold dd_A; rw [e20]; exact hA) (by unfold dd_D; rw [e20]; exact hD) (by unfold dd_M; rw [e20]; exact hMo) (dd_L_put (by omega) hkm hL (by rw [← e1]; omega)) (by rw [m_up_same]; omega)
theorem l_Md_dd4 (hM : md_sh en M T P) {C : a_C} (ok : a_ok C) {go : Int} (hgo : 0 ≤ go ∧ go < 38880) (hC : md_cf J0 M = C)
    (hq : ∀ (J : Nat → Nat → Int), md_fs J0 J M → dd_A C go J M → dd_D C 30000 J M → Q none (T, m_I J, P, L, z, w)) :
    ∀ (n : Nat) (its most : Int) (J : Nat → Nat → Int) (o4 o5 : Option Value), its + n = 30000 → 0 ≤ its → md_fs J0 J M → dd_A C go J M → dd_D C its J M → dd_M most J M →
      m_wp en (d + 4) mMd_seeksDeeds 15 [some (.ref M), some (.int (m_i go)), some (.int (m_i most)), some (.int (m_i its)), o4, o5] [] (T, m_I J, P, L, z, w) Q := by
  intro n
  induction n with
  | zero =>
    intro its most J o4 o5 hn h0 hfx hA hD hMo
    have hm := hMo.1
    refine r_iln eMd_seeksDeeds_15 rfl ?_
    refine r_iln eMd_seeksDeeds_16 rfl ?_
    refine r_cgt (tgt := 226) eMd_seeksDeeds_17 rfl ⟨(by omega), (by omega)⟩ ⟨(by omega), (by omega)⟩ (fun c17 => ?_) (fun c17 => ?_)
    · refine r_ret eMd_seeksDeeds_226 rfl ?_
      refine hq J hfx hA ?_
      have e : its = 30000 := by omega
      rw [← e]
      exact hD
    · exfalso; omega
  | succ n ih =>
    intro its most J o4 o5 hn h0 hfx hA hD hMo
    have hm := hMo.1
    have e20 : m_up J M 42 0 (M + 20) = J (M + 20) := funext (fun i => by rw [m_up_at, if_neg (by omega)])
    refine r_iln eMd_seeksDeeds_15 rfl ?_
    refine r_iln eMd_seeksDeeds_16 rfl ?_
    refine r_cgt (tgt := 226) eMd_seeksDeeds_17 rfl ⟨(by omega), (by omega)⟩ ⟨(by omega), (by omega)⟩ (fun c17 => ?_) (fun c17 => ?_)
    · refine r_ret eMd_seeksDeeds_226 rfl ?_
      refine hq J hfx hA (fun x hx hf c hc his => hD x hx ?_ c hc his)
      have := hMo.2 x hx hf
      omega
    · refine r_aln eMd_seeksDeeds_20 rfl ?_
      refine r_con eMd_seeksDeeds_21 ?_
      refine r_put eMd_seeksDeeds_22 rfl hM.2.1 hM.1 (Or.inl rfl) ?_
      refine r_con eMd_seeksDeeds_25 ?_
      refine r_is (ls' := [some (.ref M), some (.int (m_i (go))), some (.int (m_i (most))), some (.int (m_i (its))), some (.int (m_i (0))), o5]) eMd_seeksDeeds_26 (Nat.le_of_ble_eq_true rfl) rfl ?_
      refine l_Md_dd3 (C := C) hM (by omega) (fun J' a1 a2 a3 a4 a5 => l_Md_dd2 hM ok hgo (by omega) hC (fun J2 most2 o4' o5' b1 b2 b3 b4 => ih (its + 1) most2 J2 o4' o5' (by omega) (by omega) b1 b2 b3 b4) 38881 0 J' most _ (by omega) a1 a2 a3 a4 a5 (fun i hi => by omega) (by omega)) 38880 0 _ (by omega) (hfx.trans (fun b i _ _ a3 => by rw [m_up_at, if_neg (by omega)])) (by unfold dd_A; rw [e20]; exact hA) (by unfold dd_D; rw [e20]; exact hD) (by unfold dd_M; rw [e20]; exact hMo) ?_ (by rw [m_up_same]; omega)
      refine ⟨by rw [m_up_same]; omega, fun i hi => ?_, fun x hx => by omega, fun i j hi => ?_⟩
      · rw [m_up_same] at hi; omega
      · rw [m_up_same] at hi; omega
theorem c_Md_seeksDeeds (hM : md_sh en M T P) (ok : a_ok (md_cf J M)) {go : Int} (hgo : 0 ≤ go ∧ go < 38880) (hgs : a_is (md_cf J M) (a_of go) = true)
    (hq : ∀ (J1 : Nat → Nat → Int), md_fx J J1 M → J1 M 40 = -2 ∧ J1 M 41 = J M 41 → (∀ i : Nat, i < 38880 → 0 ≤ J1 (M + 20) i ∧ J1 (M + 20) i ≤ 30000) → (∀ n : Int, 0 ≤ n ∧ n < 38880 → s_dd (md_cf J M) go n (if J1 (M + 20) n.toNat = 30000 then -2 else J1 (M + 20) n.toNat)) → Q none (T, m_I J1, P, L, z, w)) : m_call en (d + 5) mMd_seeksDeeds [.ref M, .int (m_i go)] (T, m_I J, P, L, z, w) Q := by
  have f0 := md_40_fx J M
  have e20 : ∀ i : Nat, i < 38880 → m_up (md_e0 J M) (M + 20) go.toNat 0 (M + 20) i = if i = go.toNat then 0 else 30000 := fun i hi => by
    rw [m_up_at]
    by_cases q : i = go.toNat
    · rw [if_pos ⟨rfl, q⟩, if_pos q]
    · rw [if_neg (fun z => q z.2), if_neg q]
      exact md_e0_20 J M i hi
  have hA : dd_A (md_cf J M) go (m_up (md_e0 J M) (M + 20) go.toNat 0) M := by
    refine ⟨fun i hi => ?_, fun n hn hf => ?_, m_up_same⟩
    · rw [e20 i hi]
      split <;> omega
    · rw [e20 _ (by omega)] at hf ⊢
      by_cases q : n.toNat = go.toNat
      · have e : n = go := by omega
        rw [if_pos q, e]
        exact ⟨⟨0, rfl, rfl⟩, hgs⟩
      · rw [if_neg q] at hf
        omega
  have hD : dd_D (md_cf J M) 0 (m_up (md_e0 J M) (M + 20) go.toNat 0) M := fun n hn hf => by
    rw [e20 _ (by omega)] at hf
    split at hf <;> omega
  have hMo : dd_M 0 (m_up (md_e0 J M) (M + 20) go.toNat 0) M := ⟨by omega, fun n hn hf => by
    rw [e20 _ (by omega)] at hf ⊢
    split at hf
    · rename_i q
      rw [if_pos q]
      omega
    · omega⟩
  refine m_into (by decide) (Nat.le_of_ble_eq_true rfl) rfl ?_
  show m_wp en _ mMd_seeksDeeds 0 [some (.ref M), some (.int (m_i (go))), none, none, none, none] [] (T, m_I J, P, L, z, w) Q
  refine r_aln eMd_seeksDeeds_0 rfl ?_
  refine r_vir eMd_seeksDeeds_1 rfl rfl rfl hM.2.1 rfl rfl ?_
  refine c_Md_empties hM ?_
  show m_wp en _ mMd_seeksDeeds 4 [some (.ref M), some (.int (m_i (go))), none, none, none, none] [] (T, m_I ((md_e0 J M)), P, L, z, w) Q
  refine r_aln eMd_seeksDeeds_4 rfl ?_
  refine m_getR eMd_seeksDeeds_5 rfl hM.2.1 (md_far_p hM) ?_
  refine r_iln eMd_seeksDeeds_8 rfl ?_
  refine r_con eMd_seeksDeeds_9 ?_
  refine r_sast eMd_seeksDeeds_10 (md_far_t hM) (by decide) (by omega) (by omega) (md_b hM 20) (m_s16_id ⟨(by omega), (by omega)⟩) ?_
  refine r_con eMd_seeksDeeds_11 ?_
  refine r_isn (ls' := [some (.ref M), some (.int (m_i (go))), some (.int (m_i (0))), none, none, none]) eMd_seeksDeeds_12 (Nat.le_of_ble_eq_true rfl) rfl ?_
  refine r_con eMd_seeksDeeds_13 ?_
  refine r_isn (ls' := [some (.ref M), some (.int (m_i (go))), some (.int (m_i (0))), some (.int (m_i (0))), none, none]) eMd_seeksDeeds_14 (Nat.le_of_ble_eq_true rfl) rfl ?_
  exact l_Md_dd4 (J0 := m_up J M 40 (-2)) hM ok hgo f0.cf (fun J1 a1 a2 a3 => hq J1 a1.m2.1 a1.m2.2 a2.1 (fun n hn => dd_ans hgo ok a2 a3 hn)) 30000 0 0 _ _ _ (by omega) (by omega) ((md_e0_fs J M).trans (fun b i a1 _ _ => by rw [m_up_at, if_neg (fun q => a1 q.1)])) hA hD hMo
theorem c_Md_least (hM : md_sh en M T P) (hJ : m_up J0 M 0 0 = J) (hinv : md_inv J M) {x : Int} (hx : m_in x)
    (hq0 : ¬ (0 ≤ x ∧ x < J (M + 2) 4) → Q (some (.int (m_i (-1)))) (T, m_I J, P, L, z, w))
    (hq1 : (0 ≤ x ∧ x < J (M + 2) 4) → ¬ (a_why (md_cf J M) (a_of (J (M + 22) 0)) = 0 ∧ a_is (md_cf J M) (a_of (md_sp J M x)) = true) → ∀ (J1 : Nat → Nat → Int), md_fx J J1 M → md_inv J1 M → Q (some (.int (m_i (-2)))) (T, m_I J1, P, L, z, w))
    (hq2 : (0 ≤ x ∧ x < J (M + 2) 4) → (a_why (md_cf J M) (a_of (J (M + 22) 0)) = 0 ∧ a_is (md_cf J M) (a_of (md_sp J M x)) = true) → ∀ (J1 : Nat → Nat → Int) (r : Int), md_fx J J1 M → md_inv J1 M → s_dd (md_cf J M) (md_sp J M x) (J (M + 22) 0) r → Q (some (.int (m_i r))) (T, m_I J1, P, L, z, w)) : m_call en (d + 6) mMd_least [.ref M, .int (m_i x)] (T, m_I J0, P, L, z, w) Q := by
  unfold m_in at hx
  have hsb1 := hinv.hsb.1
  have hwb := a_why_bd (md_cf J M) (a_of (J (M + 22) 0))
  have hspb : 0 ≤ x ∧ x < J (M + 2) 4 → 0 ≤ md_sp J M x ∧ md_sp J M x < 38880 := fun q => md_sp_bd2 hinv.hsb (by omega)
  have hb01 := a_b_01 (a_is (md_cf J M) (a_of (md_sp J M x)))
  refine m_into (by decide) (Nat.le_of_ble_eq_true rfl) rfl ?_
  show m_wp en _ mMd_least 0 [some (.ref M), some (.int (m_i (x)))] [] (T, m_I J0, P, L, z, w) Q
  refine r_aln eMd_least_0 rfl ?_
  refine r_con eMd_least_1 ?_
  refine r_put eMd_least_2 rfl hM.2.1 hM.1 (Or.inl rfl) ?_
  rw [hJ]
  refine r_aln eMd_least_5 rfl ?_
  refine r_iln eMd_least_6 rfl ?_
  refine r_vir eMd_least_7 rfl rfl rfl hM.2.1 rfl rfl ?_
  refine c_Md_isSpot hM ⟨by omega, by omega⟩ ⟨by omega, by omega⟩ ?_
  show m_wp en _ mMd_least 10 [some (.ref M), some (.int (m_i (x)))] [(.int (m_i (if 0 ≤ x ∧ x < J (M + 2) 4 then 1 else 0)))] (T, m_I J, P, L, z, w) Q
  refine r_zne (tgt := 15) eMd_least_10 rfl ⟨(by omega), (by omega)⟩ (fun c10 => ?_) (fun c10 => ?_)
  · have hsp2 := hspb (by omega)
    refine r_aln eMd_least_15 rfl ?_
    refine r_vir eMd_least_16 rfl rfl rfl hM.2.1 rfl rfl ?_
    refine z_Md_whyNow hM hinv.ok hinv.hs ?_
    show m_wp en _ mMd_least 19 [some (.ref M), some (.int (m_i (x)))] [(.int (m_i (a_why (md_cf J M) (a_of (J (M + 22) 0)))))] (T, m_I ((md_put J M (a_of (J (M + 22) 0)))), P, L, z, w) Q
    refine r_zne (tgt := 34) eMd_least_19 rfl ⟨(by omega), (by omega)⟩ (fun c19 => ?_) (fun c19 => ?_)
    · refine r_bip eMd_least_34 (by decide) ?_
      refine r_iret eMd_least_36 rfl ?_
      first | exact hq1 (by omega) (fun q => by have := q.1; omega) _ ((md_fx.refl J M).put _) (hinv.put _) | exact hq1 (by omega) (fun q => by rw [a_b_t q.2] at c31; omega) _ ((md_fx.refl J M).put _) (hinv.put _)
    · refine r_aln eMd_least_22 rfl ?_
      refine r_aln eMd_least_23 rfl ?_
      refine r_iln eMd_least_24 rfl ?_
      refine r_vir eMd_least_25 rfl rfl rfl hM.2.1 rfl rfl ?_
      refine s_Md_spotState hM (by omega) ?_
      show m_wp en _ mMd_least 28 [some (.ref M), some (.int (m_i (x)))] [(.int (m_i (md_sp J M (x)))), (.ref M)] (T, m_I ((md_put J M (a_of (J (M + 22) 0)))), P, L, z, w) Q
      refine r_vir eMd_least_28 rfl rfl rfl hM.2.1 rfl rfl ?_
      refine s_Md_doesStand hM hinv.ok (by omega) (by omega) ?_
      show m_wp en _ mMd_least 31 [some (.ref M), some (.int (m_i (x)))] [(.int (m_i (a_b (a_is (md_cf J M) (a_of ((md_sp J M (x))))))))] (T, m_I ((md_put J M (a_of ((md_sp J M (x)))))), P, L, z, w) Q
      refine r_zne (tgt := 37) eMd_least_31 rfl ⟨(by omega), (by omega)⟩ (fun c31 => ?_) (fun c31 => ?_)
      · have hgs : a_is (md_cf J M) (a_of (md_sp J M x)) = true := Classical.byContradiction (fun q => c31 (a_b_f q))
        refine r_aln eMd_least_37 rfl ?_
        refine r_aln eMd_least_38 rfl ?_
        refine r_iln eMd_least_39 rfl ?_
        refine r_vir eMd_least_40 rfl rfl rfl hM.2.1 rfl rfl ?_
        refine s_Md_spotState hM (by omega) ?_
        show m_wp en _ mMd_least 43 [some (.ref M), some (.int (m_i (x)))] [(.int (m_i (md_sp J M (x)))), (.ref M)] (T, m_I ((md_put J M (a_of ((md_sp J M (x)))))), P, L, z, w) Q
        refine r_vir eMd_least_43 rfl rfl rfl hM.2.1 rfl rfl ?_
        refine c_Md_seeksDeeds hM (by rw [md_cf_put]; exact hinv.ok) hsp2 (by rw [md_cf_put]; exact hgs) (fun J1 f1 f2 f3 f4 => ?_)
        · rw [md_cf_put] at f4
          have hfx := ((md_fx.refl J M).put (a_of (md_sp J M x))).trans f1
          have e22 : J1 (M + 22) 0 = J (M + 22) 0 := hfx (M + 22) 0 (by omega) (by omega) (by omega)
          have hs := hinv.hs
          have hb := f3 (J (M + 22) 0).toNat (by omega)
          have ha := f4 _ hs
          have hinv1 := hinv.fx hfx (md_kp_m2 f2.1 ⟨by rw [f2.2, md_put_f J M _ (by omega)]; exact hinv.hkp.1.2.1, f3⟩)
          show m_wp en _ mMd_least 46 [some (.ref M), some (.int (m_i (x)))] [] (T, m_I J1, P, L, z, w) Q
          refine r_aln eMd_least_46 rfl ?_
          refine m_getR eMd_least_47 rfl hM.2.1 (md_far_p hM) ?_
          refine r_aln eMd_least_50 rfl ?_
          refine m_getR eMd_least_51 rfl hM.2.1 (md_s_p hM) ?_
          refine r_con eMd_least_54 ?_
          refine r_ialde (x := J1 (M + 22) 0) eMd_least_55 (md_s_t hM) (by decide) (by omega) (by omega) rfl ?_
          rw [e22]
          refine r_salde (x := J1 (M + 20) ((J (M + 22) 0).toNat)) eMd_least_56 (md_far_t hM) (by decide) (by omega) (by omega) rfl ?_
          refine r_sip eMd_least_57 (by decide) ?_
          refine r_cne (tgt := 68) eMd_least_60 rfl ⟨(by omega), (by omega)⟩ ⟨(by omega), (by omega)⟩ (fun c60 => ?_) (fun c60 => ?_)
          · refine r_aln eMd_least_68 rfl ?_
            refine m_getR eMd_least_69 rfl hM.2.1 (md_far_p hM) ?_
            refine r_aln eMd_least_72 rfl ?_
            refine m_getR eMd_least_73 rfl hM.2.1 (md_s_p hM) ?_
            refine r_con eMd_least_76 ?_
            refine r_ialde (x := J1 (M + 22) 0) eMd_least_77 (md_s_t hM) (by decide) (by omega) (by omega) rfl ?_
            rw [e22]
            refine r_salde (x := J1 (M + 20) ((J (M + 22) 0).toNat)) eMd_least_78 (md_far_t hM) (by decide) (by omega) (by omega) rfl ?_
            refine r_iret eMd_least_79 rfl ?_
            (first | rw [if_pos (by omega)] at ha | rw [if_neg (by omega)] at ha)
            exact hq2 (by omega) ⟨by omega, hgs⟩ J1 _ hfx hinv1 ha
          · refine r_bip eMd_least_63 (by decide) ?_
            refine r_go (tgt := 79) eMd_least_65 rfl ?_
            refine r_iret eMd_least_79 rfl ?_
            (first | rw [if_pos (by omega)] at ha | rw [if_neg (by omega)] at ha)
            exact hq2 (by omega) ⟨by omega, hgs⟩ J1 _ hfx hinv1 ha
      · refine r_bip eMd_least_34 (by decide) ?_
        refine r_iret eMd_least_36 rfl ?_
        first | exact hq1 (by omega) (fun q => by have := q.1; omega) _ ((md_fx.refl J M).put _) (hinv.put _) | exact hq1 (by omega) (fun q => by rw [a_b_t q.2] at c31; omega) _ ((md_fx.refl J M).put _) (hinv.put _)
  · refine r_con eMd_least_13 ?_
    refine r_iret eMd_least_14 rfl ?_
    exact hq0 (by omega)
end MDSE
