/-! by of the reference -/
/-- the state behind k first steps -/
def s_way (C : a_C) (goal n0 : Int) : Nat → Int → Prop
  | 0, st => st = n0
  | k + 1, st => ∃ s1 c, s_way C goal n0 k s1 ∧ s_first C goal s1 c ∧ st = a_no (a_step (a_of s1) c 0)
theorem s_way_u {C : a_C} {goal n0 : Int} : ∀ {k : Nat} {s1 s2 : Int}, s_way C goal n0 k s1 → s_way C goal n0 k s2 → s1 = s2 := by
  intro k
  induction k with
  | zero => intro s1 s2 h1 h2; exact h1.trans h2.symm
  | succ k ih =>
    intro s1 s2 ⟨a, c, h1, h2, h3⟩ ⟨a', c', h1', h2', h3'⟩
    obtain rfl := ih h1 h1'
    obtain rfl := s_first_u h2 h2'
    exact h3.trans h3'.symm
theorem s_Kn_base {J J1 : Nat → Nat → Int} {M : Nat} {goal lev : Int} {σ : a_S} (h : s_Kn (md_put J M σ) J1 M goal lev) : s_Kn J J1 M goal lev := by
  obtain ⟨fx, rok, g, hk⟩ := h
  rw [md_cf_put] at hk
  exact ⟨((md_fx.refl J M).put σ).trans fx, rok, g, hk⟩
section MDAA
variable {en : Nat → Nat} {d : Nat} {T : Nat → Option (Nat × Nat)} {J J0 J1 : Nat → Nat → Int} {P : Nat → Nat → Option Nat} {L : Nat → Nat → Int64} {z w M : Nat} {Q : m_Q} {σ : a_S}
theorem k_Md_fewestTo (hM : md_sh en M T P) (ok : a_ok (md_cf J M)) (hs : 0 ≤ J (M + 22) 0 ∧ J (M + 22) 0 < 38880) {goal lev : Int} (hg : -1 ≤ goal ∧ goal < 100000) (hl : lev = 0 ∨ lev = 1) (hkp : md_kp J M)
    (hq0 : ¬ a_why (md_cf J M) (a_of (J (M + 22) 0)) = 0 → Q (some (.int (m_i (-2)))) (T, m_I (md_put J M (a_of (J (M + 22) 0))), P, L, z, w))
    (hq1 : a_why (md_cf J M) (a_of (J (M + 22) 0)) = 0 → ∀ (J1 : Nat → Nat → Int) (r : Int), md_kp J1 M → s_Kn J J1 M goal lev → s_ans (md_cf J M) goal lev (J (M + 22) 0) r → (-2 ≤ r ∧ r < 30000) → Q (some (.int (m_i r))) (T, m_I J1, P, L, z, w)) : m_call en (d + 8) mMd_fewestTo [.ref M, .int (m_i goal), .int (m_i lev)] (T, m_I J, P, L, z, w) Q := by
  have hwb := a_why_bd (md_cf J M) (a_of (J (M + 22) 0))
  refine m_into (by decide) (Nat.le_of_ble_eq_true rfl) rfl ?_
  show m_wp en _ mMd_fewestTo 0 [some (.ref M), some (.int (m_i (goal))), some (.int (m_i (lev))), none] [] (T, m_I J, P, L, z, w) Q
  refine r_aln eMd_fewestTo_0 rfl ?_
  refine r_vir eMd_fewestTo_1 rfl rfl rfl hM.2.1 rfl rfl ?_
  refine z_Md_whyNow hM ok hs ?_
  show m_wp en _ mMd_fewestTo 4 [some (.ref M), some (.int (m_i (goal))), some (.int (m_i (lev))), none] [(.int (m_i (a_why (md_cf J M) (a_of (J (M + 22) 0)))))] (T, m_I ((md_put J M (a_of (J (M + 22) 0)))), P, L, z, w) Q
  refine r_zeq (tgt := 10) eMd_fewestTo_4 rfl ⟨(by omega), (by omega)⟩ (fun c4 => ?_) (fun c4 => ?_)
  · refine r_aln eMd_fewestTo_10 rfl ?_
    refine r_iln eMd_fewestTo_11 rfl ?_
    refine r_iln eMd_fewestTo_12 rfl ?_
    refine r_vir eMd_fewestTo_13 rfl rfl rfl hM.2.1 rfl rfl ?_
    refine k_Md_seeks hM (by rw [md_cf_put]; exact ok) hg hl (md_kp_put _ hkp) (fun J1 hfx hkp1 hK0 => ?_)
    · have hK := s_Kn_base hK0
      have e22 : J1 (M + 22) 0 = J (M + 22) 0 := hK.1 (M + 22) 0 (by omega) (by omega) (by omega)
      have hrok := hK.2.1.1 (J (M + 22) 0).toNat (by omega)
      show m_wp en _ mMd_fewestTo 16 [some (.ref M), some (.int (m_i (goal))), some (.int (m_i (lev))), none] [] (T, m_I J1, P, L, z, w) Q
      refine r_aln eMd_fewestTo_16 rfl ?_
      refine m_getR eMd_fewestTo_17 rfl hM.2.1 (md_far_p hM) ?_
      refine r_aln eMd_fewestTo_20 rfl ?_
      refine m_getR eMd_fewestTo_21 rfl hM.2.1 (md_s_p hM) ?_
      refine r_con eMd_fewestTo_24 ?_
      refine r_ialde (x := J1 (M + 22) 0) eMd_fewestTo_25 (md_s_t hM) (by decide) (by omega) (by omega) rfl ?_
      rw [e22]
      refine r_salde (x := J1 (M + 20) ((J (M + 22) 0).toNat)) eMd_fewestTo_26 (md_far_t hM) (by decide) (by omega) (by omega) rfl ?_
      refine r_isn (ls' := [some (.ref M), some (.int (m_i (goal))), some (.int (m_i (lev))), some (.int (m_i (J1 (M + 20) ((J (M + 22) 0).toNat))))]) eMd_fewestTo_27 (Nat.le_of_ble_eq_true rfl) rfl ?_
      refine r_iln eMd_fewestTo_28 rfl ?_
      refine r_sip eMd_fewestTo_29 (by decide) ?_
      refine r_cne (tgt := 40) eMd_fewestTo_32 rfl ⟨(by omega), (by omega)⟩ ⟨(by omega), (by omega)⟩ (fun c32 => ?_) (fun c32 => ?_)
      · refine r_iln eMd_fewestTo_40 rfl ?_
        refine r_iret eMd_fewestTo_41 rfl ?_
        have ha := s_Kn_ans hK hs
        (first | rw [if_pos (by omega)] at ha | rw [if_neg (by omega)] at ha)
        exact hq1 (by omega) J1 _ hkp1 hK ha (by omega)
      · refine r_bip eMd_fewestTo_35 (by decide) ?_
        refine r_go (tgt := 41) eMd_fewestTo_37 rfl ?_
        refine r_iret eMd_fewestTo_41 rfl ?_
        have ha := s_Kn_ans hK hs
        (first | rw [if_pos (by omega)] at ha | rw [if_neg (by omega)] at ha)
        exact hq1 (by omega) J1 _ hkp1 hK ha (by omega)
  · refine r_bip eMd_fewestTo_7 (by decide) ?_
    refine r_iret eMd_fewestTo_9 rfl ?_
    exact hq0 (by omega)
theorem l_Md_by (hM : md_sh en M T P) (ok : a_ok (md_cf J M)) {goal n0 x k all : Int} (hK : s_Kn J J1 M goal 0) (hk : 0 ≤ k ∧ k < all) (hall : all < 30000)
    (hq : ∀ st c σ', s_way (md_cf J M) goal n0 k.toNat st → s_first (md_cf J M) goal st c → Q (some (.int (m_i c))) (T, m_I (md_put J1 M σ'), P, L, z, w)) :
    ∀ (m : Nat) (n st : Int) (σ : a_S), n + m = k → 0 ≤ n → 0 ≤ st ∧ st < 38880 → J1 (M + 20) st.toNat = all - n → s_way (md_cf J M) goal n0 n.toNat st → m_wp en (d + 5) mMd_by 49 [some (.ref M), some (.int (m_i x)), some (.int (m_i k)), some (.int (m_i all)), some (.int (m_i st)), some (.int (m_i n))] [] (T, m_I (md_put J1 M σ), P, L, z, w) Q := by
  intro m
  induction m with
  | zero =>
    intro n st σ hn h0 hst hf hway
    obtain rfl : n = k := by omega
    refine r_il eMd_by_49 rfl ?_
    refine r_iln eMd_by_51 rfl ?_
    refine r_cge (tgt := 75) eMd_by_52 rfl ⟨(by omega), (by omega)⟩ ⟨(by omega), (by omega)⟩ (fun c52 => ?_) (fun c52 => ?_)
    · refine r_aln eMd_by_75 rfl ?_
      refine r_il eMd_by_76 rfl ?_
      refine r_vir eMd_by_78 rfl rfl rfl hM.2.1 rfl rfl ?_
      refine k_Md_firstStep hM ok hK hst (by omega) (by omega) (fun c σ' hfst => ?_)
      · have hnr := (s_near_nr ok hK hst (by omega) (by omega) c).2 hfst.2.1
        have hNb := a_no_bd (a_is_bx ok hnr.1)
        have hnr2 := hnr.2
        have hc9 := hfst.1
        show m_wp en _ mMd_by 81 [some (.ref M), some (.int (m_i (x))), some (.int (m_i (n))), some (.int (m_i (all))), some (.int (m_i (st))), some (.int (m_i (n)))] [(.int (m_i (c)))] (T, m_I ((md_put J1 M σ')), P, L, z, w) Q
        refine r_iret eMd_by_81 rfl ?_
        exact hq st c _ hway hfst
    · exfalso; omega
  | succ m ih =>
    intro n st σ hn h0 hst hf hway
    refine r_il eMd_by_49 rfl ?_
    refine r_iln eMd_by_51 rfl ?_
    refine r_cge (tgt := 75) eMd_by_52 rfl ⟨(by omega), (by omega)⟩ ⟨(by omega), (by omega)⟩ (fun c52 => ?_) (fun c52 => ?_)
    · exfalso; omega
    · refine r_aln eMd_by_55 rfl ?_
      refine r_il eMd_by_56 rfl ?_
      refine r_aln eMd_by_58 rfl ?_
      refine r_il eMd_by_59 rfl ?_
      refine r_vir eMd_by_61 rfl rfl rfl hM.2.1 rfl rfl ?_
      refine k_Md_firstStep hM ok hK hst (by omega) (by omega) (fun c σ' hfst => ?_)
      · have hnr := (s_near_nr ok hK hst (by omega) (by omega) c).2 hfst.2.1
        have hNb := a_no_bd (a_is_bx ok hnr.1)
        have hnr2 := hnr.2
        have hc9 := hfst.1
        show m_wp en _ mMd_by 64 [some (.ref M), some (.int (m_i (x))), some (.int (m_i (k))), some (.int (m_i (all))), some (.int (m_i (st))), some (.int (m_i (n)))] [(.int (m_i (c))), (.int (m_i (st))), (.ref M)] (T, m_I ((md_put J1 M σ')), P, L, z, w) Q
        refine r_vir eMd_by_64 rfl rfl rfl hM.2.1 rfl rfl ?_
        refine s_Md_stepped hM (by omega) (by omega) hc9 ?_
        show m_wp en _ mMd_by 67 [some (.ref M), some (.int (m_i (x))), some (.int (m_i (k))), some (.int (m_i (all))), some (.int (m_i (st))), some (.int (m_i (n)))] [(.int (m_i (a_no (a_step (a_of (st)) (c) 0))))] (T, m_I ((md_put J1 M (a_step (a_of (st)) (c) 0))), P, L, z, w) Q
        refine r_is (ls' := [some (.ref M), some (.int (m_i (x))), some (.int (m_i (k))), some (.int (m_i (all))), some (.int (m_i (a_no (a_step (a_of (st)) (c) 0)))), some (.int (m_i (n)))]) eMd_by_67 (Nat.le_of_ble_eq_true rfl) rfl ?_
        refine r_inc (ls' := [some (.ref M), some (.int (m_i (x))), some (.int (m_i (k))), some (.int (m_i (all))), some (.int (m_i (a_no (a_step (a_of (st)) (c) 0)))), some (.int (m_i (n + 1)))]) eMd_by_69 rfl rfl ?_
        refine r_go (tgt := 49) eMd_by_72 rfl ?_
        refine ih _ _ _ (by omega) (by omega) hNb (by omega) ?_
        rw [show (n + 1).toNat = n.toNat + 1 by omega]
        exact ⟨st, c, hway, hfst, rfl⟩
end MDAA
