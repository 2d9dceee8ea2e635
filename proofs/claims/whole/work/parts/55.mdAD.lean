/-! bears of the reference -/
theorem s_Kn_self {J J1 : Nat → Nat → Int} {M : Nat} {goal lev : Int} (h : s_Kn J J1 M goal lev) : s_Kn J1 J1 M goal lev := by
  obtain ⟨fx, rok, g, hk⟩ := h
  rw [← fx.cf] at hk
  exact ⟨md_fx.refl J1 M, rok, g, hk⟩
/-- whether it can be and be made still again with a wind -/
def s_bear (C : a_C) (n x : Int) : Prop := a_why C (a_step (a_of n) 4 x) = 0 ∧ ∃ t : Int, 0 ≤ t ∧ s_ans C (-1) 0 (a_no (a_step (a_of n) 4 x)) t
def s_brk (C : a_C) (n k : Int) : Prop := ¬ (s_bear C n k ∧ s_bear C n (-k))
def s_brs (C : a_C) (n r : Int) : Prop := (∃ k, (0 ≤ k ∧ k ≤ 8) ∧ s_brk C n k ∧ (∀ j, 0 ≤ j → j < k → ¬ s_brk C n j) ∧ r = if k = 0 then -2 else k - 1) ∨ ((∀ j, 0 ≤ j → j < 9 → ¬ s_brk C n j) ∧ r = 8)
section MDAD
variable {en : Nat → Nat} {d : Nat} {T : Nat → Option (Nat × Nat)} {J J0 J1 : Nat → Nat → Int} {P : Nat → Nat → Option Nat} {L : Nat → Nat → Int64} {z w M : Nat} {Q : m_Q} {σ : a_S}
theorem s_Md_bearsBy (hM : md_sh en M T P) (ok : a_ok (md_cf J M)) (hs : 0 ≤ J (M + 22) 0 ∧ J (M + 22) 0 < 38880) (hK : s_Kn J J M (-1) 0) {x : Int} (hx : -8 ≤ x ∧ x ≤ 8)
    (hq0 : ¬ s_bear (md_cf J M) (J (M + 22) 0) x → ∀ σ', Q (some (.int (m_i 0))) (T, m_I (md_put J M σ'), P, L, z, w)) (hq1 : s_bear (md_cf J M) (J (M + 22) 0) x → ∀ σ', Q (some (.int (m_i 1))) (T, m_I (md_put J M σ'), P, L, z, w)) : m_call en (d + 5) mMd_bearsBy [.ref M, .int (m_i x)] (T, m_I (md_put J M σ), P, L, z, w) Q := by
  have hb01 := a_b_01 (decide (a_why (md_cf J M) (a_step (a_of (J (M + 22) 0)) 4 x) = 0))
  refine m_into (by decide) (Nat.le_of_ble_eq_true rfl) rfl ?_
  show m_wp en _ mMd_bearsBy 0 [some (.ref M), some (.int (m_i (x)))] [] (T, m_I ((md_put J M σ)), P, L, z, w) Q
  refine r_aln eMd_bearsBy_0 rfl ?_
  refine r_aln eMd_bearsBy_1 rfl ?_
  refine m_getR eMd_bearsBy_2 rfl hM.2.1 (md_s_p hM) ?_
  refine r_con eMd_bearsBy_5 ?_
  refine r_ialde (x := J (M + 22) 0) eMd_bearsBy_6 (md_s_t hM) (by decide) (by omega) (by omega) (by simp [m_up, md_put_at, m_fl]) ?_
  refine r_con eMd_bearsBy_7 ?_
  refine r_iln eMd_bearsBy_8 rfl ?_
  refine r_vir eMd_bearsBy_9 rfl rfl rfl hM.2.1 rfl rfl ?_
  refine s_Md_canStep hM ok (by omega) (by omega) (by omega) (by omega) ?_
  show m_wp en _ mMd_bearsBy 12 [some (.ref M), some (.int (m_i (x)))] [(.int (m_i (a_b (decide (a_why (md_cf J M) (a_step (a_of ((J (M + 22) 0))) 4 (x)) = 0)))))] (T, m_I ((md_put J M (a_step (a_of ((J (M + 22) 0))) 4 (x)))), P, L, z, w) Q
  refine r_zeq (tgt := 34) eMd_bearsBy_12 rfl ⟨(by omega), (by omega)⟩ (fun c12 => ?_) (fun c12 => ?_)
  · refine r_con eMd_bearsBy_34 ?_
    refine r_zret eMd_bearsBy_35 rfl (by first | exact Or.inl rfl | exact Or.inr rfl | omega) ?_
    first | exact hq0 (fun q => by have := a_b_t (decide_eq_true q.1); omega) _ | (rw [if_pos (by omega)] at ha; exact hq0 (fun q => by obtain ⟨t, t0, t1⟩ := q.2; have := s_ans_u ha t1; omega) _) | (rw [if_neg (by omega)] at ha; exact hq1 ⟨hy, _, by omega, ha⟩ _)
  · have hy : a_why (md_cf J M) (a_step (a_of (J (M + 22) 0)) 4 x) = 0 := of_decide_eq_true (Classical.byContradiction (fun q => c12 (a_b_f q)))
    have hNb := a_no_bd (a_why_bx ok hs.1 (by omega) hy)
    have hrok := hK.2.1.1 (a_no (a_step (a_of (J (M + 22) 0)) 4 x)).toNat (by omega)
    have ha := s_Kn_ans hK hNb
    refine r_aln eMd_bearsBy_15 rfl ?_
    refine m_getR eMd_bearsBy_16 rfl hM.2.1 (md_far_p hM) ?_
    refine r_aln eMd_bearsBy_19 rfl ?_
    refine r_vir eMd_bearsBy_20 rfl rfl rfl hM.2.1 rfl rfl ?_
    refine s_Md_laid hM ?_
    show m_wp en _ mMd_bearsBy 23 [some (.ref M), some (.int (m_i (x)))] [(.int (m_i (a_no ((a_step (a_of ((J (M + 22) 0))) 4 (x)))))), (.ref (M + 20))] (T, m_I ((md_put J M (a_step (a_of ((J (M + 22) 0))) 4 (x)))), P, L, z, w) Q
    refine r_salde (x := J (M + 20) ((a_no ((a_step (a_of ((J (M + 22) 0))) 4 (x)))).toNat)) eMd_bearsBy_23 (md_far_t hM) (by decide) (by omega) (by omega) (by simp [m_up, md_put_at, m_fl]) ?_
    refine r_sip eMd_bearsBy_24 (by decide) ?_
    refine r_ceq (tgt := 34) eMd_bearsBy_27 rfl ⟨(by omega), (by omega)⟩ ⟨(by omega), (by omega)⟩ (fun c27 => ?_) (fun c27 => ?_)
    · refine r_con eMd_bearsBy_34 ?_
      refine r_zret eMd_bearsBy_35 rfl (by first | exact Or.inl rfl | exact Or.inr rfl | omega) ?_
      first | exact hq0 (fun q => by have := a_b_t (decide_eq_true q.1); omega) _ | (rw [if_pos (by omega)] at ha; exact hq0 (fun q => by obtain ⟨t, t0, t1⟩ := q.2; have := s_ans_u ha t1; omega) _) | (rw [if_neg (by omega)] at ha; exact hq1 ⟨hy, _, by omega, ha⟩ _)
    · refine r_con eMd_bearsBy_30 ?_
      refine r_go (tgt := 35) eMd_bearsBy_31 rfl ?_
      refine r_zret eMd_bearsBy_35 rfl (by first | exact Or.inl rfl | exact Or.inr rfl | omega) ?_
      first | exact hq0 (fun q => by have := a_b_t (decide_eq_true q.1); omega) _ | (rw [if_pos (by omega)] at ha; exact hq0 (fun q => by obtain ⟨t, t0, t1⟩ := q.2; have := s_ans_u ha t1; omega) _) | (rw [if_neg (by omega)] at ha; exact hq1 ⟨hy, _, by omega, ha⟩ _)
theorem l_Md_bears (hM : md_sh en M T P) (ok : a_ok (md_cf J M)) (hs : 0 ≤ J (M + 22) 0 ∧ J (M + 22) 0 < 38880) (hK : s_Kn J J M (-1) 0) (hq : ∀ r σ', s_brs (md_cf J M) (J (M + 22) 0) r → Q (some (.int (m_i r))) (T, m_I (md_put J M σ'), P, L, z, w)) :
    ∀ (m : Nat) (k : Int) (σ : a_S), k + m = 9 → 0 ≤ k → (∀ j, 0 ≤ j → j < k → ¬ s_brk (md_cf J M) (J (M + 22) 0) j) → m_wp en (d + 5) mMd_bears 23 [some (.ref M), some (.int (m_i k))] [] (T, m_I (md_put J M σ), P, L, z, w) Q := by
  intro m
  induction m with
  | zero =>
    intro k σ hk h0 hj
    obtain rfl : k = 9 := by omega
    refine r_iln eMd_bears_23 rfl ?_
    refine r_bip eMd_bears_24 (by decide) ?_
    refine r_cgt (tgt := 65) eMd_bears_26 rfl ⟨(by omega), (by omega)⟩ ⟨(by omega), (by omega)⟩ (fun c26 => ?_) (fun c26 => ?_)
    · refine r_bip eMd_bears_65 (by decide) ?_
      refine r_iret eMd_bears_67 rfl ?_
      exact hq 8 _ (Or.inr ⟨hj, rfl⟩)
    · exfalso; omega
  | succ m ih =>
    intro k σ hk h0 hj
    have hbr : s_brk (md_cf J M) (J (M + 22) 0) k → ∀ σ', Q (some (.int (m_i (if k = 0 then -2 else k - 1)))) (T, m_I (md_put J M σ'), P, L, z, w) := fun q σ' => hq _ _ (Or.inl ⟨k, by omega, q, hj, rfl⟩)
    refine r_iln eMd_bears_23 rfl ?_
    refine r_bip eMd_bears_24 (by decide) ?_
    refine r_cgt (tgt := 65) eMd_bears_26 rfl ⟨(by omega), (by omega)⟩ ⟨(by omega), (by omega)⟩ (fun c26 => ?_) (fun c26 => ?_)
    · exfalso; omega
    · refine r_aln eMd_bears_29 rfl ?_
      refine r_iln eMd_bears_30 rfl ?_
      refine r_vir eMd_bears_31 rfl rfl rfl hM.2.1 rfl rfl ?_
      refine s_Md_bearsBy hM ok hs hK (by omega) (fun hB σ2 => ?_) (fun hB σ2 => ?_)
      · have hB0 := hB
        show m_wp en _ mMd_bears 34 [some (.ref M), some (.int (m_i (k)))] [(.int (m_i (0)))] (T, m_I ((md_put J M σ2)), P, L, z, w) Q
        refine r_zeq (tgt := 46) eMd_bears_34 rfl ⟨(by omega), (by omega)⟩ (fun c34 => ?_) (fun c34 => ?_)
        · refine r_iln eMd_bears_46 rfl ?_
          refine r_zne (tgt := 55) eMd_bears_47 rfl ⟨(by omega), (by omega)⟩ (fun c47 => ?_) (fun c47 => ?_)
          · refine r_iln eMd_bears_55 rfl ?_
            refine r_con eMd_bears_56 ?_
            refine r_sub eMd_bears_57 ?_
            refine r_iret eMd_bears_58 rfl ?_
            first | (exfalso; omega) | (have hz := hbr (fun q => hB0 (by first | exact q.1 | exact q.2)) <;> (first | rw [if_pos (by omega)] at hz | rw [if_neg (by omega)] at hz) <;> exact hz _)
          · refine r_bip eMd_bears_50 (by decide) ?_
            refine r_go (tgt := 58) eMd_bears_52 rfl ?_
            refine r_iret eMd_bears_58 rfl ?_
            first | (exfalso; omega) | (have hz := hbr (fun q => hB0 (by first | exact q.1 | exact q.2)) <;> (first | rw [if_pos (by omega)] at hz | rw [if_neg (by omega)] at hz) <;> exact hz _)
        · refine r_aln eMd_bears_37 rfl ?_
          refine r_iln eMd_bears_38 rfl ?_
          refine r_neg eMd_bears_39 ?_
          refine r_vir eMd_bears_40 rfl rfl rfl hM.2.1 rfl rfl ?_
          refine s_Md_bearsBy hM ok hs hK (by omega) (fun hB σ2 => ?_) (fun hB σ2 => ?_)
          · have hB0 := hB
            show m_wp en _ mMd_bears 43 [some (.ref M), some (.int (m_i (k)))] [(.int (m_i (0)))] (T, m_I ((md_put J M σ2)), P, L, z, w) Q
            refine r_zne (tgt := 59) eMd_bears_43 rfl ⟨(by omega), (by omega)⟩ (fun c43 => ?_) (fun c43 => ?_)
            · refine r_inc (ls' := [some (.ref M), some (.int (m_i (k + 1)))]) eMd_bears_59 rfl rfl ?_
              refine r_go (tgt := 23) eMd_bears_62 rfl ?_
              first | (exfalso; omega) | (refine ih _ _ (by omega) (by omega) (fun j j0 j1 => ?_) <;> (by_cases e : j = k) <;> first | (subst e; exact fun q => q ⟨by assumption, by assumption⟩) | exact hj j j0 (by omega))
            · refine r_iln eMd_bears_46 rfl ?_
              refine r_zne (tgt := 55) eMd_bears_47 rfl ⟨(by omega), (by omega)⟩ (fun c47 => ?_) (fun c47 => ?_)
              · refine r_iln eMd_bears_55 rfl ?_
                refine r_con eMd_bears_56 ?_
                refine r_sub eMd_bears_57 ?_
                refine r_iret eMd_bears_58 rfl ?_
                first | (exfalso; omega) | (have hz := hbr (fun q => hB0 (by first | exact q.1 | exact q.2)) <;> (first | rw [if_pos (by omega)] at hz | rw [if_neg (by omega)] at hz) <;> exact hz _)
              · refine r_bip eMd_bears_50 (by decide) ?_
                refine r_go (tgt := 58) eMd_bears_52 rfl ?_
                refine r_iret eMd_bears_58 rfl ?_
                first | (exfalso; omega) | (have hz := hbr (fun q => hB0 (by first | exact q.1 | exact q.2)) <;> (first | rw [if_pos (by omega)] at hz | rw [if_neg (by omega)] at hz) <;> exact hz _)
          · have hB1 := hB
            show m_wp en _ mMd_bears 43 [some (.ref M), some (.int (m_i (k)))] [(.int (m_i (1)))] (T, m_I ((md_put J M σ2)), P, L, z, w) Q
            refine r_zne (tgt := 59) eMd_bears_43 rfl ⟨(by omega), (by omega)⟩ (fun c43 => ?_) (fun c43 => ?_)
            · refine r_inc (ls' := [some (.ref M), some (.int (m_i (k + 1)))]) eMd_bears_59 rfl rfl ?_
              refine r_go (tgt := 23) eMd_bears_62 rfl ?_
              first | (exfalso; omega) | (refine ih _ _ (by omega) (by omega) (fun j j0 j1 => ?_) <;> (by_cases e : j = k) <;> first | (subst e; exact fun q => q ⟨by assumption, by assumption⟩) | exact hj j j0 (by omega))
            · refine r_iln eMd_bears_46 rfl ?_
              refine r_zne (tgt := 55) eMd_bears_47 rfl ⟨(by omega), (by omega)⟩ (fun c47 => ?_) (fun c47 => ?_)
              · refine r_iln eMd_bears_55 rfl ?_
                refine r_con eMd_bears_56 ?_
                refine r_sub eMd_bears_57 ?_
                refine r_iret eMd_bears_58 rfl ?_
                first | (exfalso; omega) | (have hz := hbr (fun q => hB0 (by first | exact q.1 | exact q.2)) <;> (first | rw [if_pos (by omega)] at hz | rw [if_neg (by omega)] at hz) <;> exact hz _)
              · refine r_bip eMd_bears_50 (by decide) ?_
                refine r_go (tgt := 58) eMd_bears_52 rfl ?_
                refine r_iret eMd_bears_58 rfl ?_
                first | (exfalso; omega) | (have hz := hbr (fun q => hB0 (by first | exact q.1 | exact q.2)) <;> (first | rw [if_pos (by omega)] at hz | rw [if_neg (by omega)] at hz) <;> exact hz _)
      · have hB1 := hB
        show m_wp en _ mMd_bears 34 [some (.ref M), some (.int (m_i (k)))] [(.int (m_i (1)))] (T, m_I ((md_put J M σ2)), P, L, z, w) Q
        refine r_zeq (tgt := 46) eMd_bears_34 rfl ⟨(by omega), (by omega)⟩ (fun c34 => ?_) (fun c34 => ?_)
        · refine r_iln eMd_bears_46 rfl ?_
          refine r_zne (tgt := 55) eMd_bears_47 rfl ⟨(by omega), (by omega)⟩ (fun c47 => ?_) (fun c47 => ?_)
          · refine r_iln eMd_bears_55 rfl ?_
            refine r_con eMd_bears_56 ?_
            refine r_sub eMd_bears_57 ?_
            refine r_iret eMd_bears_58 rfl ?_
            first | (exfalso; omega) | (have hz := hbr (fun q => hB0 (by first | exact q.1 | exact q.2)) <;> (first | rw [if_pos (by omega)] at hz | rw [if_neg (by omega)] at hz) <;> exact hz _)
          · refine r_bip eMd_bears_50 (by decide) ?_
            refine r_go (tgt := 58) eMd_bears_52 rfl ?_
            refine r_iret eMd_bears_58 rfl ?_
            first | (exfalso; omega) | (have hz := hbr (fun q => hB0 (by first | exact q.1 | exact q.2)) <;> (first | rw [if_pos (by omega)] at hz | rw [if_neg (by omega)] at hz) <;> exact hz _)
        · refine r_aln eMd_bears_37 rfl ?_
          refine r_iln eMd_bears_38 rfl ?_
          refine r_neg eMd_bears_39 ?_
          refine r_vir eMd_bears_40 rfl rfl rfl hM.2.1 rfl rfl ?_
          refine s_Md_bearsBy hM ok hs hK (by omega) (fun hB σ2 => ?_) (fun hB σ2 => ?_)
          · have hB0 := hB
            show m_wp en _ mMd_bears 43 [some (.ref M), some (.int (m_i (k)))] [(.int (m_i (0)))] (T, m_I ((md_put J M σ2)), P, L, z, w) Q
            refine r_zne (tgt := 59) eMd_bears_43 rfl ⟨(by omega), (by omega)⟩ (fun c43 => ?_) (fun c43 => ?_)
            · refine r_inc (ls' := [some (.ref M), some (.int (m_i (k + 1)))]) eMd_bears_59 rfl rfl ?_
              refine r_go (tgt := 23) eMd_bears_62 rfl ?_
              first | (exfalso; omega) | (refine ih _ _ (by omega) (by omega) (fun j j0 j1 => ?_) <;> (by_cases e : j = k) <;> first | (subst e; exact fun q => q ⟨by assumption, by assumption⟩) | exact hj j j0 (by omega))
            · refine r_iln eMd_bears_46 rfl ?_
              refine r_zne (tgt := 55) eMd_bears_47 rfl ⟨(by omega), (by omega)⟩ (fun c47 => ?_) (fun c47 => ?_)
              · refine r_iln eMd_bears_55 rfl ?_
                refine r_con eMd_bears_56 ?_
                refine r_sub eMd_bears_57 ?_
                refine r_iret eMd_bears_58 rfl ?_
                first | (exfalso; omega) | (have hz := hbr (fun q => hB0 (by first | exact q.1 | exact q.2)) <;> (first | rw [if_pos (by omega)] at hz | rw [if_neg (by omega)] at hz) <;> exact hz _)
              · refine r_bip eMd_bears_50 (by decide) ?_
                refine r_go (tgt := 58) eMd_bears_52 rfl ?_
                refine r_iret eMd_bears_58 rfl ?_
                first | (exfalso; omega) | (have hz := hbr (fun q => hB0 (by first | exact q.1 | exact q.2)) <;> (first | rw [if_pos (by omega)] at hz | rw [if_neg (by omega)] at hz) <;> exact hz _)
          · have hB1 := hB
            show m_wp en _ mMd_bears 43 [some (.ref M), some (.int (m_i (k)))] [(.int (m_i (1)))] (T, m_I ((md_put J M σ2)), P, L, z, w) Q
            refine r_zne (tgt := 59) eMd_bears_43 rfl ⟨(by omega), (by omega)⟩ (fun c43 => ?_) (fun c43 => ?_)
            · refine r_inc (ls' := [some (.ref M), some (.int (m_i (k + 1)))]) eMd_bears_59 rfl rfl ?_
              refine r_go (tgt := 23) eMd_bears_62 rfl ?_
              first | (exfalso; omega) | (refine ih _ _ (by omega) (by omega) (fun j j0 j1 => ?_) <;> (by_cases e : j = k) <;> first | (subst e; exact fun q => q ⟨by assumption, by assumption⟩) | exact hj j j0 (by omega))
            · refine r_iln eMd_bears_46 rfl ?_
              refine r_zne (tgt := 55) eMd_bears_47 rfl ⟨(by omega), (by omega)⟩ (fun c47 => ?_) (fun c47 => ?_)
              · refine r_iln eMd_bears_55 rfl ?_
                refine r_con eMd_bears_56 ?_
                refine r_sub eMd_bears_57 ?_
                refine r_iret eMd_bears_58 rfl ?_
                first | (exfalso; omega) | (have hz := hbr (fun q => hB0 (by first | exact q.1 | exact q.2)) <;> (first | rw [if_pos (by omega)] at hz | rw [if_neg (by omega)] at hz) <;> exact hz _)
              · refine r_bip eMd_bears_50 (by decide) ?_
                refine r_go (tgt := 58) eMd_bears_52 rfl ?_
                refine r_iret eMd_bears_58 rfl ?_
                first | (exfalso; omega) | (have hz := hbr (fun q => hB0 (by first | exact q.1 | exact q.2)) <;> (first | rw [if_pos (by omega)] at hz | rw [if_neg (by omega)] at hz) <;> exact hz _)
end MDAD
