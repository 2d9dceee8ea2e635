/-! fewest, level, halt of the reference -/
/-- the answer: the fewest steps, -2 where no way is -/
def s_ans (C : a_C) (goal lev n r : Int) : Prop := (r = -2 ∧ ∀ t, ¬ b_D (s_S C goal) (s_E C lev) t n) ∨ ∃ t : Nat, r = (t : Int) ∧ b_D (s_S C goal) (s_E C lev) t n ∧ ∀ t', b_D (s_S C goal) (s_E C lev) t' n → t ≤ t'
theorem s_ans_u {C : a_C} {goal lev n r r' : Int} (h : s_ans C goal lev n r) (h' : s_ans C goal lev n r') : r = r' := by
  rcases h with ⟨a, b⟩ | ⟨t, a, b, c⟩ <;> rcases h' with ⟨a', b'⟩ | ⟨t', a', b', c'⟩
  · omega
  · exact absurd b' (b t')
  · exact absurd b (b' t)
  · have h1 := c t' b'
    have h2 := c' t b
    omega
theorem s_Kn_ans {J0 J : Nat → Nat → Int} {M : Nat} {goal lev : Int} (h : s_Kn J0 J M goal lev) {n : Int} (hn : 0 ≤ n ∧ n < 38880) : s_ans (md_cf J0 M) goal lev n (if J (M + 20) n.toNat = 30000 then -2 else J (M + 20) n.toNat) := by
  obtain ⟨fx, rok, g, k, hI, hk⟩ := h
  by_cases hf : J (M + 20) n.toNat = 30000
  · rw [if_pos hf]
    refine Or.inl ⟨rfl, fun t ht => ?_⟩
    obtain ⟨n', a, -⟩ := b_all hI hk ht
    exact (rf_inv a).2.1 hf
  · rw [if_neg hf]
    have h1 := b_exact hI (rf_some hn hf)
    have hb := rok.1 n.toNat (by omega)
    exact Or.inr ⟨(J (M + 20) n.toNat).toNat, by omega, h1.1, h1.2⟩
/-- distances are numbers up to 30000 -/
def md_far (J : Nat → Nat → Int) (M : Nat) : Prop := ∀ i : Nat, i < 38880 → 0 ≤ J (M + 20) i ∧ J (M + 20) i ≤ 30000
def md_4 (J : Nat → Nat → Int) (M : Nat) : Prop := m_in (J M 41) ∧ md_far J M
/-- what is kept of the last search is true -/
def md_kp (J : Nat → Nat → Int) (M : Nat) : Prop := (m_in (J M 40) ∧ md_4 J M) ∧ (-1 ≤ J M 40 → s_Kn J J M (J M 40) (J M 41))
theorem md_kp_of {J0 J : Nat → Nat → Int} {M : Nat} {goal lev : Int} (hg : m_in goal) (hl : lev = 0 ∨ lev = 1) (h : s_Kn J0 J M goal lev) : md_kp J M := by
  obtain ⟨fx, rok, ⟨g1, g2⟩, hk⟩ := h
  refine ⟨⟨by rw [g1]; exact hg, by rw [g2]; unfold m_in; omega, rok.1⟩, fun _ => ⟨md_fx.refl J M, rok, ⟨rfl, rfl⟩, ?_⟩⟩
  rw [fx.cf, g1, g2]
  exact hk
theorem s_Kn_put {J : Nat → Nat → Int} {M : Nat} {goal lev : Int} (σ : a_S) (h : s_Kn J J M goal lev) : s_Kn (md_put J M σ) (md_put J M σ) M goal lev := by
  obtain ⟨fx, rok, g, hk⟩ := h
  have e20 : md_put J M σ (M + 20) = J (M + 20) := md_put_r J M σ (by omega)
  have e21 : md_put J M σ (M + 21) = J (M + 21) := md_put_r J M σ (by omega)
  have e40 : md_put J M σ M 40 = J M 40 := md_put_f J M σ (by omega)
  have e41 : md_put J M σ M 41 = J M 41 := md_put_f J M σ (by omega)
  have e42 : md_put J M σ M 42 = J M 42 := md_put_f J M σ (by omega)
  have erf : rf (md_put J M σ) M = rf J M := by
    funext n
    unfold rf
    rw [e20]
  have erq : rq (md_put J M σ) M = rq J M := by
    funext n
    unfold rq
    rw [e21]
  refine ⟨md_fx.refl _ M, ?_, by rw [e40, e41]; exact g, ?_⟩
  · unfold rw_ok at rok ⊢
    rw [e20, e21, e42]
    exact rok
  · rw [md_cf_put, erf, erq, e42]
    exact hk
theorem md_kp_put {J : Nat → Nat → Int} {M : Nat} (σ : a_S) (h : md_kp J M) : md_kp (md_put J M σ) M := by
  have e40 : md_put J M σ M 40 = J M 40 := md_put_f J M σ (by omega)
  have e41 : md_put J M σ M 41 = J M 41 := md_put_f J M σ (by omega)
  have e20 : md_put J M σ (M + 20) = J (M + 20) := md_put_r J M σ (by omega)
  unfold md_kp md_4 md_far at h ⊢
  rw [e40, e41, e20]
  exact ⟨h.1, fun q => s_Kn_put σ (h.2 q)⟩
section MDW
variable {en : Nat → Nat} {d : Nat} {T : Nat → Option (Nat × Nat)} {J J0 : Nat → Nat → Int} {P : Nat → Nat → Option Nat} {L : Nat → Nat → Int64} {z w M : Nat} {Q : m_Q} {σ : a_S}
/-- the law of a search, with what is kept -/
theorem k_Md_seeks (hM : md_sh en M T P) (ok : a_ok (md_cf J M)) {goal lev : Int} (hg : -1 ≤ goal ∧ goal < 100000) (hl : lev = 0 ∨ lev = 1) (hkp : md_kp J M)
    (hq : ∀ (J1 : Nat → Nat → Int), md_fx J J1 M → md_kp J1 M → s_Kn J J1 M goal lev → Q none (T, m_I J1, P, L, z, w)) : m_call en (d + 7) mMd_seeks [.ref M, .int (m_i goal), .int (m_i lev)] (T, m_I J, P, L, z, w) Q := by
  have hgi : m_in goal := by unfold m_in; omega
  refine c_Md_seeks hM ok hgi hl hkp.1.1 hkp.1.2.1 (s_bound ok) (fun e1 e2 => ?_) (fun J1 hK => hq J1 hK.1 (md_kp_of hgi hl hK) hK)
  have h := hkp.2 (by omega)
  rw [e1, e2] at h
  exact h
theorem c_Md_fewestTo (hM : md_sh en M T P) (ok : a_ok (md_cf J M)) (hs : 0 ≤ J (M + 22) 0 ∧ J (M + 22) 0 < 38880) {goal lev : Int} (hg : -1 ≤ goal ∧ goal < 100000) (hl : lev = 0 ∨ lev = 1) (hkp : md_kp J M)
    (hq0 : ¬ a_why (md_cf J M) (a_of (J (M + 22) 0)) = 0 → Q (some (.int (m_i (-2)))) (T, m_I (md_put J M (a_of (J (M + 22) 0))), P, L, z, w))
    (hq1 : a_why (md_cf J M) (a_of (J (M + 22) 0)) = 0 → ∀ (J1 : Nat → Nat → Int) (r : Int), md_fx J J1 M → md_kp J1 M → s_ans (md_cf J M) goal lev (J (M + 22) 0) r → Q (some (.int (m_i r))) (T, m_I J1, P, L, z, w)) : m_call en (d + 8) mMd_fewestTo [.ref M, .int (m_i goal), .int (m_i lev)] (T, m_I J, P, L, z, w) Q := by
  have hwb := a_why_bd (md_cf J M) (a_of (J (M + 22) 0))
  refine m_into (by decide) (Nat.le_of_ble_eq_true rfl) rfl ?_
  show m_wp en _ mMd_fewestTo 0 [some (.ref M), some (.int (m_i (goal))), some (.int (m_i (lev))), none] [] (T, m_I J, P, L, z, w) Q
  refine r_aln eMd_fewestTo_0 rfl ?_
  refine r_vir eMd_fewestTo_1 rfl rfl rfl hM.2.1 rfl rfl ?_
  refine z_Md_whyNow hM ok hs ?_
  show m_wp en _ mMd_fewestTo 4 [some (.ref M), some (.int (m_i (goal))), some (.int (m_i (lev))), none] [(.int (m_i (a_why (md_cf J M) (a_of (J (M + 22) 0)))))] (T, m_I ((md_put J M (a_of (J (M + 22) 0)))), P, L, z, w) Q
  refine r_zeq (tgt := 10) eMd_fewestTo_4 rfl ⟨(by omega), (by omega)⟩ (fun c4 => ?_) (fun c4 => ?_)
  · refine r_aln eMd_fewestTo_10 rfl ?_
    refine r_iln eMd_fewestTo_11 rfl ?_
    refine r_iln eMd_fewestTo_12 rfl ?_
    refine r_vir eMd_fewestTo_13 rfl rfl rfl hM.2.1 rfl rfl ?_
    refine k_Md_seeks hM (by rw [md_cf_put]; exact ok) hg hl (md_kp_put _ hkp) (fun J1 hfx hkp1 hK => ?_)
    · have e22 : J1 (M + 22) 0 = J (M + 22) 0 := (hfx (M + 22) 0 (by omega) (by omega) (by omega)).trans (md_put_o J M _ (by omega))
      have hrok := hK.2.1.1 (J (M + 22) 0).toNat (by omega)
      show m_wp en _ mMd_fewestTo 16 [some (.ref M), some (.int (m_i (goal))), some (.int (m_i (lev))), none] [] (T, m_I J1, P, L, z, w) Q
      refine r_aln eMd_fewestTo_16 rfl ?_
      refine m_getR eMd_fewestTo_17 rfl hM.2.1 (md_far_p hM) ?_
      refine r_aln eMd_fewestTo_20 rfl ?_
      refine m_getR eMd_fewestTo_21 rfl hM.2.1 (md_s_p hM) ?_
      refine r_con eMd_fewestTo_24 ?_
      refine r_ialde (x := J1 (M + 22) 0) eMd_fewestTo_25 (md_s_t hM) (by decide) (by omega) (by omega) rfl ?_
      rw [e22]
      refine r_salde (x := J1 (M + 20) ((J (M + 22) 0).toNat)) eMd_fewestTo_26 (md_far_t hM) (by decide) (by omega) (by omega) rfl ?_
      refine r_isn (ls' := [some (.ref M), some (.int (m_i (goal))), some (.int (m_i (lev))), some (.int (m_i (J1 (M + 20) ((J (M + 22) 0).toNat))))]) eMd_fewestTo_27 (Nat.le_of_ble_eq_true rfl) rfl ?_
      refine r_iln eMd_fewestTo_28 rfl ?_
      refine r_sip eMd_fewestTo_29 (by decide) ?_
      refine r_cne (tgt := 40) eMd_fewestTo_32 rfl ⟨(by omega), (by omega)⟩ ⟨(by omega), (by omega)⟩ (fun c32 => ?_) (fun c32 => ?_)
      · refine r_iln eMd_fewestTo_40 rfl ?_
        refine r_iret eMd_fewestTo_41 rfl ?_
        have ha := s_Kn_ans hK hs
        rw [md_cf_put] at ha
        (first | rw [if_pos (by omega)] at ha | rw [if_neg (by omega)] at ha)
        exact hq1 (by omega) J1 _ (((md_fx.refl J M).put _).trans hfx) hkp1 ha
      · refine r_bip eMd_fewestTo_35 (by decide) ?_
        refine r_go (tgt := 41) eMd_fewestTo_37 rfl ?_
        refine r_iret eMd_fewestTo_41 rfl ?_
        have ha := s_Kn_ans hK hs
        rw [md_cf_put] at ha
        (first | rw [if_pos (by omega)] at ha | rw [if_neg (by omega)] at ha)
        exact hq1 (by omega) J1 _ (((md_fx.refl J M).put _).trans hfx) hkp1 ha
  · refine r_bip eMd_fewestTo_7 (by decide) ?_
    refine r_iret eMd_fewestTo_9 rfl ?_
    exact hq0 (by omega)
end MDW
