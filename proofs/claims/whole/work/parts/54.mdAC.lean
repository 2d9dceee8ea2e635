/-! rests of the reference -/
section MDAC
variable {en : Nat → Nat} {d : Nat} {T : Nat → Option (Nat × Nat)} {J J0 J1 : Nat → Nat → Int} {P : Nat → Nat → Option Nat} {L : Nat → Nat → Int64} {z w M : Nat} {Q : m_Q} {σ : a_S}
theorem l_Md_rests (hM : md_sh en M T P) (ok : a_ok (md_cf J M)) {goal n0 x all : Int} (hx : x = 0 ∨ x = 1) (hK : s_Kn J J1 M goal 0) (hall : 0 ≤ all ∧ all < 30000)
    (hq : ∀ st σ', s_way (md_cf J M) goal n0 all.toNat st → Q (some (.int (m_i (if x = 0 then (a_of st).1 else (a_of st).2.2.2.2)))) (T, m_I (md_put J1 M σ'), P, L, z, w)) :
    ∀ (m : Nat) (n st : Int) (σ : a_S), n + m = all → 0 ≤ n → 0 ≤ st ∧ st < 38880 → J1 (M + 20) st.toNat = all - n → s_way (md_cf J M) goal n0 n.toNat st → m_wp en (d + 5) mMd_rests 42 [some (.ref M), some (.int (m_i x)), some (.int (m_i all)), some (.int (m_i st)), some (.int (m_i n))] [] (T, m_I (md_put J1 M σ), P, L, z, w) Q := by
  intro m
  induction m with
  | zero =>
    intro n st σ hn h0 hst hf hway
    obtain rfl : n = all := by omega
    have hq2 := hq st (a_of st) hway
    refine r_il eMd_rests_42 rfl ?_
    refine r_iln eMd_rests_44 rfl ?_
    refine r_cge (tgt := 65) eMd_rests_45 rfl ⟨(by omega), (by omega)⟩ ⟨(by omega), (by omega)⟩ (fun c45 => ?_) (fun c45 => ?_)
    · refine r_aln eMd_rests_65 rfl ?_
      refine r_iln eMd_rests_66 rfl ?_
      refine r_vir eMd_rests_67 rfl rfl rfl hM.2.1 rfl rfl ?_
      refine s_Md_lays hM (by omega) (by omega) ?_
      show m_wp en _ mMd_rests 70 [some (.ref M), some (.int (m_i (x))), some (.int (m_i (n))), some (.int (m_i (st))), some (.int (m_i (n)))] [] (T, m_I ((md_put J1 M (a_of st))), P, L, z, w) Q
      refine r_iln eMd_rests_70 rfl ?_
      refine r_zne (tgt := 81) eMd_rests_71 rfl ⟨(by omega), (by omega)⟩ (fun c71 => ?_) (fun c71 => ?_)
      · refine r_aln eMd_rests_81 rfl ?_
        refine r_gete (x := ((a_of st)).2.2.2.2) eMd_rests_82 rfl (by decide) hM.2.1 (by simp [m_up, md_put_at, m_fl]) ?_
        refine r_iret eMd_rests_85 rfl ?_
        (first | rw [if_pos (by omega)] at hq2 | rw [if_neg (by omega)] at hq2)
        exact hq2
      · refine r_aln eMd_rests_74 rfl ?_
        refine r_gete (x := ((a_of st)).1) eMd_rests_75 rfl (by decide) hM.2.1 (by simp [m_up, md_put_at, m_fl]) ?_
        refine r_go (tgt := 85) eMd_rests_78 rfl ?_
        refine r_iret eMd_rests_85 rfl ?_
        (first | rw [if_pos (by omega)] at hq2 | rw [if_neg (by omega)] at hq2)
        exact hq2
    · exfalso; omega
  | succ m ih =>
    intro n st σ hn h0 hst hf hway
    refine r_il eMd_rests_42 rfl ?_
    refine r_iln eMd_rests_44 rfl ?_
    refine r_cge (tgt := 65) eMd_rests_45 rfl ⟨(by omega), (by omega)⟩ ⟨(by omega), (by omega)⟩ (fun c45 => ?_) (fun c45 => ?_)
    · exfalso; omega
    · refine r_aln eMd_rests_48 rfl ?_
      refine r_iln eMd_rests_49 rfl ?_
      refine r_aln eMd_rests_50 rfl ?_
      refine r_iln eMd_rests_51 rfl ?_
      refine r_vir eMd_rests_52 rfl rfl rfl hM.2.1 rfl rfl ?_
      refine k_Md_firstStep hM ok hK hst (by omega) (by omega) (fun c σ' hfst => ?_)
      · have hnr := (s_near_nr ok hK hst (by omega) (by omega) c).2 hfst.2.1
        have hNb := a_no_bd (a_is_bx ok hnr.1)
        have hnr2 := hnr.2
        have hc9 := hfst.1
        show m_wp en _ mMd_rests 55 [some (.ref M), some (.int (m_i (x))), some (.int (m_i (all))), some (.int (m_i (st))), some (.int (m_i (n)))] [(.int (m_i (c))), (.int (m_i (st))), (.ref M)] (T, m_I ((md_put J1 M σ')), P, L, z, w) Q
        refine r_vir eMd_rests_55 rfl rfl rfl hM.2.1 rfl rfl ?_
        refine s_Md_stepped hM (by omega) (by omega) hc9 ?_
        show m_wp en _ mMd_rests 58 [some (.ref M), some (.int (m_i (x))), some (.int (m_i (all))), some (.int (m_i (st))), some (.int (m_i (n)))] [(.int (m_i (a_no (a_step (a_of (st)) (c) 0))))] (T, m_I ((md_put J1 M (a_step (a_of (st)) (c) 0))), P, L, z, w) Q
        refine r_isn (ls' := [some (.ref M), some (.int (m_i (x))), some (.int (m_i (all))), some (.int (m_i (a_no (a_step (a_of (st)) (c) 0)))), some (.int (m_i (n)))]) eMd_rests_58 (Nat.le_of_ble_eq_true rfl) rfl ?_
        refine r_inc (ls' := [some (.ref M), some (.int (m_i (x))), some (.int (m_i (all))), some (.int (m_i (a_no (a_step (a_of (st)) (c) 0)))), some (.int (m_i (n + 1)))]) eMd_rests_59 rfl rfl ?_
        refine r_go (tgt := 42) eMd_rests_62 rfl ?_
        refine ih _ _ _ (by omega) (by omega) hNb (by omega) ?_
        rw [show (n + 1).toNat = n.toNat + 1 by omega]
        exact ⟨st, c, hway, hfst, rfl⟩
theorem z_Md_rests (hM : md_sh en M T P) (ok : a_ok (md_cf J M)) (hs : 0 ≤ J (M + 22) 0 ∧ J (M + 22) 0 < 38880) {goal x r : Int} (hx : x = 0 ∨ x = 1) (hK : s_Kn J J1 M goal 0) (hans : s_ans (md_cf J M) goal 0 (J (M + 22) 0) r) (hr : 0 ≤ r ∧ r < 30000)
    (hq : ∀ st σ', s_way (md_cf J M) goal (J (M + 22) 0) r.toNat st → Q (some (.int (m_i (if x = 0 then (a_of st).1 else (a_of st).2.2.2.2)))) (T, m_I (md_put J1 M σ'), P, L, z, w)) : m_wp en (d + 5) mMd_rests 32 [some (.ref M), some (.int (m_i x)), some (.int (m_i r)), none, none] [] (T, m_I J1, P, L, z, w) Q := by
  have e22 : J1 (M + 22) 0 = J (M + 22) 0 := hK.1 (M + 22) 0 (by omega) (by omega) (by omega)
  have hfar := s_Kn_far hK hs hans (by omega)
  have h := l_Md_rests (d := d) (z := z) (w := w) (L := L) (T := T) (P := P) (Q := Q) (x := x) (n0 := J (M + 22) 0) hM ok hx hK hr hq r.toNat 0 (J (M + 22) 0) (md_get J1 M) (by omega) (by omega) hs (by omega) (by change _ = _; rfl)
  rw [md_put_get] at h
  refine r_aln eMd_rests_32 rfl ?_
  refine m_getR eMd_rests_33 rfl hM.2.1 (md_s_p hM) ?_
  refine r_con eMd_rests_36 ?_
  refine r_ialde (x := J1 (M + 22) 0) eMd_rests_37 (md_s_t hM) (by decide) (by omega) (by omega) rfl ?_
  rw [e22]
  refine r_isn (ls' := [some (.ref M), some (.int (m_i (x))), some (.int (m_i (r))), some (.int (m_i (J (M + 22) 0))), none]) eMd_rests_38 (Nat.le_of_ble_eq_true rfl) rfl ?_
  refine r_con eMd_rests_39 ?_
  refine r_is (ls' := [some (.ref M), some (.int (m_i (x))), some (.int (m_i (r))), some (.int (m_i (J (M + 22) 0))), some (.int (m_i (0)))]) eMd_rests_40 (Nat.le_of_ble_eq_true rfl) rfl ?_
  exact h
theorem s_ans_v {C : a_C} {goal lev n r : Int} (h : s_ans C goal lev n r) : r = -2 ∨ 0 ≤ r := by
  rcases h with ⟨a, -⟩ | ⟨t, a, -⟩
  · exact Or.inl a
  · exact Or.inr (by omega)
theorem c_Md_rests (hM : md_sh en M T P) (hJ : m_up J0 M 0 0 = J) (ok : a_ok (md_cf J M)) (hs : 0 ≤ J (M + 22) 0 ∧ J (M + 22) 0 < 38880) (hkp : md_kp J M) {x : Int} (hx : m_in x)
    (hq0 : ¬ (x = 0 ∨ x = 1) → Q (some (.int (m_i (-1)))) (T, m_I J, P, L, z, w))
    (hq1 : (x = 0 ∨ x = 1) → ¬ a_why (md_cf J M) (a_of (J (M + 22) 0)) = 0 → Q (some (.int (m_i (-2)))) (T, m_I (md_put J M (a_of (J (M + 22) 0))), P, L, z, w))
    (hq2 : (x = 0 ∨ x = 1) → a_why (md_cf J M) (a_of (J (M + 22) 0)) = 0 → ∀ (J1 : Nat → Nat → Int), md_fx J J1 M → md_kp J1 M → s_ans (md_cf J M) (-1) 0 (J (M + 22) 0) (-2) → Q (some (.int (m_i (-2)))) (T, m_I J1, P, L, z, w))
    (hq3 : (x = 0 ∨ x = 1) → a_why (md_cf J M) (a_of (J (M + 22) 0)) = 0 → ∀ (J1 : Nat → Nat → Int) (r : Int), md_fx J J1 M → md_kp J1 M → s_ans (md_cf J M) (-1) 0 (J (M + 22) 0) r → 0 ≤ r → ∀ st, s_way (md_cf J M) (-1) (J (M + 22) 0) r.toNat st → Q (some (.int (m_i (if x = 0 then (a_of st).1 else (a_of st).2.2.2.2)))) (T, m_I J1, P, L, z, w)) : m_call en (d + 9) mMd_rests [.ref M, .int (m_i x)] (T, m_I J0, P, L, z, w) Q := by
  unfold m_in at hx
  refine m_into (by decide) (Nat.le_of_ble_eq_true rfl) rfl ?_
  show m_wp en _ mMd_rests 0 [some (.ref M), some (.int (m_i (x))), none, none, none] [] (T, m_I J0, P, L, z, w) Q
  refine r_aln eMd_rests_0 rfl ?_
  refine r_con eMd_rests_1 ?_
  refine r_put eMd_rests_2 rfl hM.2.1 hM.1 (Or.inl rfl) ?_
  rw [hJ]
  refine r_iln eMd_rests_5 rfl ?_
  refine r_zlt (tgt := 14) eMd_rests_6 rfl ⟨(by omega), (by omega)⟩ (fun c6 => ?_) (fun c6 => ?_)
  · refine r_con eMd_rests_14 ?_
    refine r_iret eMd_rests_15 rfl ?_
    exact hq0 (by omega)
  · refine r_iln eMd_rests_9 rfl ?_
    refine r_con eMd_rests_10 ?_
    refine r_cle (tgt := 16) eMd_rests_11 rfl ⟨(by omega), (by omega)⟩ ⟨(by omega), (by omega)⟩ (fun c11 => ?_) (fun c11 => ?_)
    · refine r_aln eMd_rests_16 rfl ?_
      refine r_con eMd_rests_17 ?_
      refine r_con eMd_rests_18 ?_
      refine r_vir eMd_rests_19 rfl rfl rfl hM.2.1 rfl rfl ?_
      refine k_Md_fewestTo hM ok hs (by omega) (by omega) hkp (fun hA => ?_) (fun hA J1 r hkp1 hK hans hrb => ?_)
      · show m_wp en _ mMd_rests 22 [some (.ref M), some (.int (m_i (x))), none, none, none] [(.int (m_i (-2)))] (T, m_I ((md_put J M (a_of (J (M + 22) 0)))), P, L, z, w) Q
        refine r_isn (ls' := [some (.ref M), some (.int (m_i (x))), some (.int (m_i (-2))), none, none]) eMd_rests_22 (Nat.le_of_ble_eq_true rfl) rfl ?_
        refine r_iln eMd_rests_23 rfl ?_
        refine r_bip eMd_rests_24 (by decide) ?_
        refine r_cne (tgt := 32) eMd_rests_26 rfl ⟨(by omega), (by omega)⟩ ⟨(by omega), (by omega)⟩ (fun c26 => ?_) (fun c26 => ?_)
        · first | (exfalso; omega) | exact z_Md_rests (d := d + 3) hM ok hs (by omega) hK hans (by omega) (fun st σ' w1 => hq3 (by omega) hA (md_put J1 M σ') r (hK.1.put _) (md_kp_put _ hkp1) hans (by omega) st w1)
        · refine r_bip eMd_rests_29 (by decide) ?_
          refine r_iret eMd_rests_31 rfl ?_
          first | exact hq1 (by omega) hA | (have er : r = -2 := by omega) <;> (rw [er] at hans; exact hq2 (by omega) hA J1 hK.1 hkp1 hans)
      · have hv := s_ans_v hans
        show m_wp en _ mMd_rests 22 [some (.ref M), some (.int (m_i (x))), none, none, none] [(.int (m_i (r)))] (T, m_I J1, P, L, z, w) Q
        refine r_isn (ls' := [some (.ref M), some (.int (m_i (x))), some (.int (m_i (r))), none, none]) eMd_rests_22 (Nat.le_of_ble_eq_true rfl) rfl ?_
        refine r_iln eMd_rests_23 rfl ?_
        refine r_bip eMd_rests_24 (by decide) ?_
        refine r_cne (tgt := 32) eMd_rests_26 rfl ⟨(by omega), (by omega)⟩ ⟨(by omega), (by omega)⟩ (fun c26 => ?_) (fun c26 => ?_)
        · first | (exfalso; omega) | exact z_Md_rests (d := d + 3) hM ok hs (by omega) hK hans (by omega) (fun st σ' w1 => hq3 (by omega) hA (md_put J1 M σ') r (hK.1.put _) (md_kp_put _ hkp1) hans (by omega) st w1)
        · refine r_bip eMd_rests_29 (by decide) ?_
          refine r_iret eMd_rests_31 rfl ?_
          first | exact hq1 (by omega) hA | (have er : r = -2 := by omega) <;> (rw [er] at hans; exact hq2 (by omega) hA J1 hK.1 hkp1 hans)
    · refine r_con eMd_rests_14 ?_
      refine r_iret eMd_rests_15 rfl ?_
      exact hq0 (by omega)
end MDAC
