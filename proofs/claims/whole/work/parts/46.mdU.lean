/-! now, grab, drop of the reference -/
section MDU
variable {en : Nat → Nat} {d : Nat} {T : Nat → Option (Nat × Nat)} {J J0 : Nat → Nat → Int} {P : Nat → Nat → Option Nat} {L : Nat → Nat → Int64} {z w M : Nat} {Q : m_Q} {σ : a_S}
theorem z_Md_whyNow (hM : md_sh en M T P) (ok : a_ok (md_cf J M)) (hn : 0 ≤ J (M + 22) 0 ∧ J (M + 22) 0 < 38880) (hq : Q (some (.int (m_i (a_why (md_cf J M) (a_of (J (M + 22) 0)))))) (T, m_I (md_put J M (a_of (J (M + 22) 0))), P, L, z, w)) : m_call en (d + 4) mMd_whyNow [.ref M] (T, m_I J, P, L, z, w) Q := by
  have h := s_Md_whyNow (d := d) (σ := md_get J M) (z := z) (w := w) (L := L) hM ok hn hq
  rw [md_put_get] at h
  exact h
/-- whether a state hangs still -/
def a_hs (σ : a_S) : Bool := decide (σ.2.1 = 0 ∧ σ.2.2.1 = 0 ∧ σ.2.2.2.1 = 0)
/-- what now tells -/
def md_now (J : Nat → Nat → Int) (M : Nat) (x : Int) : Int :=
  if x = 0 then (a_of (J (M + 22) 0)).1 else if x = 1 then (a_of (J (M + 22) 0)).2.1 else if x = 2 then (a_of (J (M + 22) 0)).2.2.1 else if x = 3 then (a_of (J (M + 22) 0)).2.2.2.1 else if x = 4 then (a_of (J (M + 22) 0)).2.2.2.2 else
  if x = 5 then (a_of (J (M + 22) 0)).1 + (a_of (J (M + 22) 0)).2.2.1 else if x = 6 then a_b (a_hs (a_of (J (M + 22) 0))) else if x = 7 then a_why (md_cf J M) (a_of (J (M + 22) 0)) else J (M + 22) 5
theorem c_Md_now (hM : md_sh en M T P) (hJ : m_up J0 M 0 0 = J) (ok : a_ok (md_cf J M)) (hs : 0 ≤ J (M + 22) 0 ∧ J (M + 22) 0 < 38880) {x : Int} (hx : m_in x)
    (hq0 : x < 0 → Q (some (.int (m_i 0))) (T, m_I (m_up J M 0 1), P, L, z, w)) (hq1 : 8 < x → Q (some (.int (m_i 0))) (T, m_I (m_up J M 0 2), P, L, z, w))
    (hq2 : 0 ≤ x ∧ x ≤ 8 → Q (some (.int (m_i (md_now J M x)))) (T, m_I (md_put J M (a_of (J (M + 22) 0))), P, L, z, w)) : m_call en (d + 5) mMd_now [.ref M, .int (m_i x)] (T, m_I J0, P, L, z, w) Q := by
  unfold m_in at hx
  have hb01 := a_b_01 (a_hs (a_of (J (M + 22) 0)))
  unfold md_now at hq2
  refine m_into (by decide) (Nat.le_of_ble_eq_true rfl) rfl ?_
  show m_wp en _ mMd_now 0 [some (.ref M), some (.int (m_i (x))), none] [] (T, m_I J0, P, L, z, w) Q
  refine r_aln eMd_now_0 rfl ?_
  refine r_con eMd_now_1 ?_
  refine r_put eMd_now_2 rfl hM.2.1 hM.1 (Or.inl rfl) ?_
  rw [hJ]
  refine r_iln eMd_now_5 rfl ?_
  refine r_zge (tgt := 16) eMd_now_6 rfl ⟨(by omega), (by omega)⟩ (fun c6 => ?_) (fun c6 => ?_)
  · refine r_iln eMd_now_16 rfl ?_
    refine r_bip eMd_now_17 (by decide) ?_
    refine r_cle (tgt := 29) eMd_now_19 rfl ⟨(by omega), (by omega)⟩ ⟨(by omega), (by omega)⟩ (fun c19 => ?_) (fun c19 => ?_)
    · refine r_aln eMd_now_29 rfl ?_
      refine r_vir eMd_now_30 rfl rfl rfl hM.2.1 rfl rfl ?_
      refine z_Md_whyNow hM ok hs ?_
      show m_wp en _ mMd_now 33 [some (.ref M), some (.int (m_i (x))), none] [(.int (m_i (a_why (md_cf J M) (a_of (J (M + 22) 0)))))] (T, m_I ((md_put J M (a_of (J (M + 22) 0)))), P, L, z, w) Q
      refine r_isn (ls' := [some (.ref M), some (.int (m_i (x))), some (.int (m_i (a_why (md_cf J M) (a_of (J (M + 22) 0)))))]) eMd_now_33 (Nat.le_of_ble_eq_true rfl) rfl ?_
      refine r_iln eMd_now_34 rfl ?_
      rcases (show (x) = 0 ∨ (x) = 1 ∨ (x) = 2 ∨ (x) = 3 ∨ (x) = 4 ∨ (x) = 5 ∨ (x) = 6 ∨ (x) = 7 ∨ ((x) < 0 ∨ 7 < (x)) by omega) with c35 | c35 | c35 | c35 | c35 | c35 | c35 | c35 | c35
      · refine r_tcase (v := 0) (tgt := 80) eMd_now_35 c35 ⟨by decide, by decide⟩ ⟨by decide, by decide⟩ rfl rfl ?_
        refine r_aln eMd_now_80 rfl ?_
        refine r_gete (x := ((a_of (J (M + 22) 0))).1) eMd_now_81 rfl (by decide) hM.2.1 (by simp [m_up, md_put_at, m_fl]) ?_
        refine r_iret eMd_now_84 rfl ?_
        have hq := hq2 (by omega)
        (repeat (first | rw [if_pos (by omega)] at hq | rw [if_neg (by omega)] at hq))
        exact hq
      · refine r_tcase (v := 1) (tgt := 85) eMd_now_35 c35 ⟨by decide, by decide⟩ ⟨by decide, by decide⟩ rfl rfl ?_
        refine r_aln eMd_now_85 rfl ?_
        refine r_gete (x := ((a_of (J (M + 22) 0))).2.1) eMd_now_86 rfl (by decide) hM.2.1 (by simp [m_up, md_put_at, m_fl]) ?_
        refine r_iret eMd_now_89 rfl ?_
        have hq := hq2 (by omega)
        (repeat (first | rw [if_pos (by omega)] at hq | rw [if_neg (by omega)] at hq))
        exact hq
      · refine r_tcase (v := 2) (tgt := 90) eMd_now_35 c35 ⟨by decide, by decide⟩ ⟨by decide, by decide⟩ rfl rfl ?_
        refine r_aln eMd_now_90 rfl ?_
        refine r_gete (x := ((a_of (J (M + 22) 0))).2.2.1) eMd_now_91 rfl (by decide) hM.2.1 (by simp [m_up, md_put_at, m_fl]) ?_
        refine r_iret eMd_now_94 rfl ?_
        have hq := hq2 (by omega)
        (repeat (first | rw [if_pos (by omega)] at hq | rw [if_neg (by omega)] at hq))
        exact hq
      · refine r_tcase (v := 3) (tgt := 95) eMd_now_35 c35 ⟨by decide, by decide⟩ ⟨by decide, by decide⟩ rfl rfl ?_
        refine r_aln eMd_now_95 rfl ?_
        refine r_gete (x := ((a_of (J (M + 22) 0))).2.2.2.1) eMd_now_96 rfl (by decide) hM.2.1 (by simp [m_up, md_put_at, m_fl]) ?_
        refine r_iret eMd_now_99 rfl ?_
        have hq := hq2 (by omega)
        (repeat (first | rw [if_pos (by omega)] at hq | rw [if_neg (by omega)] at hq))
        exact hq
      · refine r_tcase (v := 4) (tgt := 100) eMd_now_35 c35 ⟨by decide, by decide⟩ ⟨by decide, by decide⟩ rfl rfl ?_
        refine r_aln eMd_now_100 rfl ?_
        refine r_gete (x := ((a_of (J (M + 22) 0))).2.2.2.2) eMd_now_101 rfl (by decide) hM.2.1 (by simp [m_up, md_put_at, m_fl]) ?_
        refine r_iret eMd_now_104 rfl ?_
        have hq := hq2 (by omega)
        (repeat (first | rw [if_pos (by omega)] at hq | rw [if_neg (by omega)] at hq))
        exact hq
      · refine r_tcase (v := 5) (tgt := 105) eMd_now_35 c35 ⟨by decide, by decide⟩ ⟨by decide, by decide⟩ rfl rfl ?_
        refine r_aln eMd_now_105 rfl ?_
        refine r_gete (x := ((a_of (J (M + 22) 0))).1) eMd_now_106 rfl (by decide) hM.2.1 (by simp [m_up, md_put_at, m_fl]) ?_
        refine r_aln eMd_now_109 rfl ?_
        refine r_gete (x := ((a_of (J (M + 22) 0))).2.2.1) eMd_now_110 rfl (by decide) hM.2.1 (by simp [m_up, md_put_at, m_fl]) ?_
        refine r_add eMd_now_113 ?_
        refine r_iret eMd_now_114 rfl ?_
        have hq := hq2 (by omega)
        (repeat (first | rw [if_pos (by omega)] at hq | rw [if_neg (by omega)] at hq))
        exact hq
      · refine r_tcase (v := 6) (tgt := 115) eMd_now_35 c35 ⟨by decide, by decide⟩ ⟨by decide, by decide⟩ rfl rfl ?_
        refine r_aln eMd_now_115 rfl ?_
        refine r_vir eMd_now_116 rfl rfl rfl hM.2.1 rfl rfl ?_
        refine s_Md_isStillNow hM hs ?_
        show m_wp en _ mMd_now 119 [some (.ref M), some (.int (m_i (x))), some (.int (m_i (a_why (md_cf J M) (a_of (J (M + 22) 0)))))] [(.int (m_i (a_b (a_hs (a_of (J (M + 22) 0))))))] (T, m_I ((md_put J M (a_of (J (M + 22) 0)))), P, L, z, w) Q
        refine r_zeq (tgt := 126) eMd_now_119 rfl ⟨(by omega), (by omega)⟩ (fun c119 => ?_) (fun c119 => ?_)
        · refine r_con eMd_now_126 ?_
          refine r_iret eMd_now_127 rfl ?_
          have hq := hq2 (by omega)
          (repeat (first | rw [if_pos (show x = _ by omega)] at hq | rw [if_neg (by omega)] at hq))
          first | (rw [c119] at hq; exact hq) | (rw [show a_b (a_hs (a_of (J (M + 22) 0))) = 1 by omega] at hq; exact hq)
        · refine r_con eMd_now_122 ?_
          refine r_go (tgt := 127) eMd_now_123 rfl ?_
          refine r_iret eMd_now_127 rfl ?_
          have hq := hq2 (by omega)
          (repeat (first | rw [if_pos (show x = _ by omega)] at hq | rw [if_neg (by omega)] at hq))
          first | (rw [c119] at hq; exact hq) | (rw [show a_b (a_hs (a_of (J (M + 22) 0))) = 1 by omega] at hq; exact hq)
      · refine r_tcase (v := 7) (tgt := 128) eMd_now_35 c35 ⟨by decide, by decide⟩ ⟨by decide, by decide⟩ rfl rfl ?_
        refine r_iln eMd_now_128 rfl ?_
        refine r_iret eMd_now_129 rfl ?_
        have hq := hq2 (by omega)
        (repeat (first | rw [if_pos (by omega)] at hq | rw [if_neg (by omega)] at hq))
        exact hq
      · refine r_tdef (tgt := 130) eMd_now_35 c35 ⟨by omega, by omega⟩ rfl ?_
        refine r_aln eMd_now_130 rfl ?_
        refine m_getR eMd_now_131 rfl hM.2.1 (md_s_p hM) ?_
        refine r_con eMd_now_134 ?_
        refine r_ialde (x := J (M + 22) 5) eMd_now_135 (md_s_t hM) (by decide) (by omega) (by omega) (by simp [m_up, md_put_at, m_fl]) ?_
        refine r_iret eMd_now_136 rfl ?_
        have hq := hq2 (by omega)
        (repeat (first | rw [if_pos (by omega)] at hq | rw [if_neg (by omega)] at hq))
        exact hq
    · refine r_aln eMd_now_22 rfl ?_
      refine r_con eMd_now_23 ?_
      refine r_put eMd_now_24 rfl hM.2.1 hM.1 (Or.inl rfl) ?_
      refine r_con eMd_now_27 ?_
      refine r_iret eMd_now_28 rfl ?_
      exact hq1 (by omega)
  · refine r_aln eMd_now_9 rfl ?_
    refine r_con eMd_now_10 ?_
    refine r_put eMd_now_11 rfl hM.2.1 hM.1 (Or.inl rfl) ?_
    refine r_con eMd_now_14 ?_
    refine r_iret eMd_now_15 rfl ?_
    exact hq0 (by omega)
/-- whether it can grab, can drop -/
def md_cg (J : Nat → Nat → Int) (M : Nat) : Prop := a_why (md_cf J M) (a_of (J (M + 22) 0)) = 0 ∧ a_b (a_hs (a_of (J (M + 22) 0))) = 1 ∧ J M 32 = 0 ∧ 0 < J (M + 18) (a_of (J (M + 22) 0)).1.toNat ∧ (a_of (J (M + 22) 0)).2.2.2.2 = J (M + 19) (a_of (J (M + 22) 0)).1.toNat
def md_cd (J : Nat → Nat → Int) (M : Nat) : Prop := a_why (md_cf J M) (a_of (J (M + 22) 0)) = 0 ∧ a_b (a_hs (a_of (J (M + 22) 0))) = 1 ∧ J M 32 = 1 ∧ (a_of (J (M + 22) 0)).2.2.2.2 + 1 = J (M + 19) (a_of (J (M + 22) 0)).1.toNat
theorem a_of_col {n : Int} (h0 : 0 ≤ n) (h1 : n < 38880) : 0 ≤ (a_of n).1 ∧ (a_of n).1 < 16 := by
  unfold a_of
  simp only
  omega
theorem c_Md_canGrab (hM : md_sh en M T P) (ok : a_ok (md_cf J M)) (hs : 0 ≤ J (M + 22) 0 ∧ J (M + 22) 0 < 38880) (hp : ∀ i : Nat, i < 16 → -1000 ≤ J (M + 18) i ∧ J (M + 18) i ≤ 1000)
    (hq0 : ¬ md_cg J M → Q (some (.int (m_i 0))) (T, m_I (md_put J M (a_of (J (M + 22) 0))), P, L, z, w))
    (hq1 : md_cg J M → Q (some (.int (m_i 1))) (T, m_I (md_put J M (a_of (J (M + 22) 0))), P, L, z, w)) : m_call en (d + 5) mMd_canGrab [.ref M] (T, m_I J, P, L, z, w) Q := by
  have hb01 := a_b_01 (a_hs (a_of (J (M + 22) 0)))
  have hwb := a_why_bd (md_cf J M) (a_of (J (M + 22) 0))
  have hcol := a_of_col hs.1 hs.2
  have hpb := hp (a_of (J (M + 22) 0)).1.toNat (by omega)
  have hdt := (a_of_t hs.1 (show J (M + 22) 0 < 100000 by omega)).2.2.2.2
  have hh : J M 32 = 0 ∨ J M 32 = 1 := ok.2.2.2.2.1
  have hfr : 0 ≤ J (M + 19) (a_of (J (M + 22) 0)).1.toNat ∧ J (M + 19) (a_of (J (M + 22) 0)).1.toNat ≤ 6 := ok.2.2.2.2.2 _ hcol.1 hcol.2
  unfold md_cg at hq0 hq1
  refine m_into (by decide) (Nat.le_of_ble_eq_true rfl) rfl ?_
  show m_wp en _ mMd_canGrab 0 [some (.ref M)] [] (T, m_I J, P, L, z, w) Q
  refine r_aln eMd_canGrab_0 rfl ?_
  refine r_vir eMd_canGrab_1 rfl rfl rfl hM.2.1 rfl rfl ?_
  refine z_Md_whyNow hM ok hs ?_
  show m_wp en _ mMd_canGrab 4 [some (.ref M)] [(.int (m_i (a_why (md_cf J M) (a_of (J (M + 22) 0)))))] (T, m_I ((md_put J M (a_of (J (M + 22) 0)))), P, L, z, w) Q
  refine r_zne (tgt := 53) eMd_canGrab_4 rfl ⟨(by omega), (by omega)⟩ (fun c4 => ?_) (fun c4 => ?_)
  · refine r_con eMd_canGrab_53 ?_
    refine r_zret eMd_canGrab_54 rfl (by first | exact Or.inl rfl | exact Or.inr rfl | omega) ?_
    first | exact hq0 (by omega) | exact hq1 (by omega)
  · refine r_aln eMd_canGrab_7 rfl ?_
    refine r_vir eMd_canGrab_8 rfl rfl rfl hM.2.1 rfl rfl ?_
    refine s_Md_isStillNow hM hs ?_
    show m_wp en _ mMd_canGrab 11 [some (.ref M)] [(.int (m_i (a_b (a_hs (a_of (J (M + 22) 0))))))] (T, m_I ((md_put J M (a_of (J (M + 22) 0)))), P, L, z, w) Q
    refine r_zeq (tgt := 53) eMd_canGrab_11 rfl ⟨(by omega), (by omega)⟩ (fun c11 => ?_) (fun c11 => ?_)
    · refine r_con eMd_canGrab_53 ?_
      refine r_zret eMd_canGrab_54 rfl (by first | exact Or.inl rfl | exact Or.inr rfl | omega) ?_
      first | exact hq0 (by omega) | exact hq1 (by omega)
    · refine r_aln eMd_canGrab_14 rfl ?_
      refine r_gete (x := J M 32) eMd_canGrab_15 rfl (by decide) hM.2.1 (by simp [m_up, md_put_at, m_fl]) ?_
      refine r_zne (tgt := 53) eMd_canGrab_18 rfl ⟨(by omega), (by omega)⟩ (fun c18 => ?_) (fun c18 => ?_)
      · refine r_con eMd_canGrab_53 ?_
        refine r_zret eMd_canGrab_54 rfl (by first | exact Or.inl rfl | exact Or.inr rfl | omega) ?_
        first | exact hq0 (by omega) | exact hq1 (by omega)
      · refine r_aln eMd_canGrab_21 rfl ?_
        refine m_getR eMd_canGrab_22 rfl hM.2.1 (md_pile_p hM) ?_
        refine r_aln eMd_canGrab_25 rfl ?_
        refine r_gete (x := ((a_of (J (M + 22) 0))).1) eMd_canGrab_26 rfl (by decide) hM.2.1 (by simp [m_up, md_put_at, m_fl]) ?_
        refine r_ialde (x := J (M + 18) ((((a_of (J (M + 22) 0))).1).toNat)) eMd_canGrab_29 (md_pile_t hM) (by decide) (by omega) (by omega) (by simp [m_up, md_put_at, m_fl]) ?_
        refine r_zle (tgt := 53) eMd_canGrab_30 rfl ⟨(by omega), (by omega)⟩ (fun c30 => ?_) (fun c30 => ?_)
        · refine r_con eMd_canGrab_53 ?_
          refine r_zret eMd_canGrab_54 rfl (by first | exact Or.inl rfl | exact Or.inr rfl | omega) ?_
          first | exact hq0 (by omega) | exact hq1 (by omega)
        · refine r_aln eMd_canGrab_33 rfl ?_
          refine r_gete (x := ((a_of (J (M + 22) 0))).2.2.2.2) eMd_canGrab_34 rfl (by decide) hM.2.1 (by simp [m_up, md_put_at, m_fl]) ?_
          refine r_aln eMd_canGrab_37 rfl ?_
          refine m_getR eMd_canGrab_38 rfl hM.2.1 (md_freeIn_p hM) ?_
          refine r_aln eMd_canGrab_41 rfl ?_
          refine r_gete (x := ((a_of (J (M + 22) 0))).1) eMd_canGrab_42 rfl (by decide) hM.2.1 (by simp [m_up, md_put_at, m_fl]) ?_
          refine r_ialde (x := J (M + 19) ((((a_of (J (M + 22) 0))).1).toNat)) eMd_canGrab_45 (md_freeIn_t hM) (by decide) (by omega) (by omega) (by simp [m_up, md_put_at, m_fl]) ?_
          refine r_cne (tgt := 53) eMd_canGrab_46 rfl ⟨(by omega), (by omega)⟩ ⟨(by omega), (by omega)⟩ (fun c46 => ?_) (fun c46 => ?_)
          · refine r_con eMd_canGrab_53 ?_
            refine r_zret eMd_canGrab_54 rfl (by first | exact Or.inl rfl | exact Or.inr rfl | omega) ?_
            first | exact hq0 (by omega) | exact hq1 (by omega)
          · refine r_con eMd_canGrab_49 ?_
            refine r_go (tgt := 54) eMd_canGrab_50 rfl ?_
            refine r_zret eMd_canGrab_54 rfl (by first | exact Or.inl rfl | exact Or.inr rfl | omega) ?_
            first | exact hq0 (by omega) | exact hq1 (by omega)
theorem c_Md_canDrop (hM : md_sh en M T P) (ok : a_ok (md_cf J M)) (hs : 0 ≤ J (M + 22) 0 ∧ J (M + 22) 0 < 38880)
    (hq0 : ¬ md_cd J M → Q (some (.int (m_i 0))) (T, m_I (md_put J M (a_of (J (M + 22) 0))), P, L, z, w))
    (hq1 : md_cd J M → Q (some (.int (m_i 1))) (T, m_I (md_put J M (a_of (J (M + 22) 0))), P, L, z, w)) : m_call en (d + 5) mMd_canDrop [.ref M] (T, m_I J, P, L, z, w) Q := by
  have hb01 := a_b_01 (a_hs (a_of (J (M + 22) 0)))
  have hwb := a_why_bd (md_cf J M) (a_of (J (M + 22) 0))
  have hcol := a_of_col hs.1 hs.2
  have hdt := (a_of_t hs.1 (show J (M + 22) 0 < 100000 by omega)).2.2.2.2
  have hh : J M 32 = 0 ∨ J M 32 = 1 := ok.2.2.2.2.1
  have hfr : 0 ≤ J (M + 19) (a_of (J (M + 22) 0)).1.toNat ∧ J (M + 19) (a_of (J (M + 22) 0)).1.toNat ≤ 6 := ok.2.2.2.2.2 _ hcol.1 hcol.2
  unfold md_cd at hq0 hq1
  refine m_into (by decide) (Nat.le_of_ble_eq_true rfl) rfl ?_
  show m_wp en _ mMd_canDrop 0 [some (.ref M)] [] (T, m_I J, P, L, z, w) Q
  refine r_aln eMd_canDrop_0 rfl ?_
  refine r_vir eMd_canDrop_1 rfl rfl rfl hM.2.1 rfl rfl ?_
  refine z_Md_whyNow hM ok hs ?_
  show m_wp en _ mMd_canDrop 4 [some (.ref M)] [(.int (m_i (a_why (md_cf J M) (a_of (J (M + 22) 0)))))] (T, m_I ((md_put J M (a_of (J (M + 22) 0)))), P, L, z, w) Q
  refine r_zne (tgt := 43) eMd_canDrop_4 rfl ⟨(by omega), (by omega)⟩ (fun c4 => ?_) (fun c4 => ?_)
  · refine r_con eMd_canDrop_43 ?_
    refine r_zret eMd_canDrop_44 rfl (by first | exact Or.inl rfl | exact Or.inr rfl | omega) ?_
    first | exact hq0 (by omega) | exact hq1 (by omega)
  · refine r_aln eMd_canDrop_7 rfl ?_
    refine r_vir eMd_canDrop_8 rfl rfl rfl hM.2.1 rfl rfl ?_
    refine s_Md_isStillNow hM hs ?_
    show m_wp en _ mMd_canDrop 11 [some (.ref M)] [(.int (m_i (a_b (a_hs (a_of (J (M + 22) 0))))))] (T, m_I ((md_put J M (a_of (J (M + 22) 0)))), P, L, z, w) Q
    refine r_zeq (tgt := 43) eMd_canDrop_11 rfl ⟨(by omega), (by omega)⟩ (fun c11 => ?_) (fun c11 => ?_)
    · refine r_con eMd_canDrop_43 ?_
      refine r_zret eMd_canDrop_44 rfl (by first | exact Or.inl rfl | exact Or.inr rfl | omega) ?_
      first | exact hq0 (by omega) | exact hq1 (by omega)
    · refine r_aln eMd_canDrop_14 rfl ?_
      refine r_gete (x := J M 32) eMd_canDrop_15 rfl (by decide) hM.2.1 (by simp [m_up, md_put_at, m_fl]) ?_
      refine r_zeq (tgt := 43) eMd_canDrop_18 rfl ⟨(by omega), (by omega)⟩ (fun c18 => ?_) (fun c18 => ?_)
      · refine r_con eMd_canDrop_43 ?_
        refine r_zret eMd_canDrop_44 rfl (by first | exact Or.inl rfl | exact Or.inr rfl | omega) ?_
        first | exact hq0 (by omega) | exact hq1 (by omega)
      · refine r_aln eMd_canDrop_21 rfl ?_
        refine r_gete (x := ((a_of (J (M + 22) 0))).2.2.2.2) eMd_canDrop_22 rfl (by decide) hM.2.1 (by simp [m_up, md_put_at, m_fl]) ?_
        refine r_con eMd_canDrop_25 ?_
        refine r_add eMd_canDrop_26 ?_
        refine r_aln eMd_canDrop_27 rfl ?_
        refine m_getR eMd_canDrop_28 rfl hM.2.1 (md_freeIn_p hM) ?_
        refine r_aln eMd_canDrop_31 rfl ?_
        refine r_gete (x := ((a_of (J (M + 22) 0))).1) eMd_canDrop_32 rfl (by decide) hM.2.1 (by simp [m_up, md_put_at, m_fl]) ?_
        refine r_ialde (x := J (M + 19) ((((a_of (J (M + 22) 0))).1).toNat)) eMd_canDrop_35 (md_freeIn_t hM) (by decide) (by omega) (by omega) (by simp [m_up, md_put_at, m_fl]) ?_
        refine r_cne (tgt := 43) eMd_canDrop_36 rfl ⟨(by omega), (by omega)⟩ ⟨(by omega), (by omega)⟩ (fun c36 => ?_) (fun c36 => ?_)
        · refine r_con eMd_canDrop_43 ?_
          refine r_zret eMd_canDrop_44 rfl (by first | exact Or.inl rfl | exact Or.inr rfl | omega) ?_
          first | exact hq0 (by omega) | exact hq1 (by omega)
        · refine r_con eMd_canDrop_39 ?_
          refine r_go (tgt := 44) eMd_canDrop_40 rfl ?_
          refine r_zret eMd_canDrop_44 rfl (by first | exact Or.inl rfl | exact Or.inr rfl | omega) ?_
          first | exact hq0 (by omega) | exact hq1 (by omega)
end MDU
