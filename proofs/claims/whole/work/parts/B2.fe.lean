/-! the class: feed, flow, now -/
/-- what now tells -/
def cl_now (J : Nat → Nat → Int) (X : Nat) (C : a_C) (x : Int) : Int :=
  if x = 0 then J (X + 31) 0 else if x = 1 then J (X + 31) 1 else if x = 2 then J (X + 31) 2 else if x = 3 then J (X + 31) 3 else if x = 4 then J (X + 31) 4 else if x = 5 then J (X + 31) 0 + J (X + 31) 2 else
  if x = 6 then a_b (decide (J (X + 31) 1 = 0 ∧ J (X + 31) 2 = 0 ∧ J (X + 31) 3 = 0)) else if x = 7 then a_why C (po_get J (X + 31)) else J (X + 30) 2
section SCR
variable {en : Nat → Nat} {d : Nat} {T T' T0 : Nat → Option (Nat × Nat)} {J J' J0 K H : Nat → Nat → Int} {P P' P0 : Nat → Nat → Option Nat} {L L' L0 : Nat → Nat → Int64} {z w z' w' A B R X N zb wb : Nat} {Q : m_Q} {σ τ : a_S} {C : a_C} {v s f : Int}
theorem c_Sc_feed (hX : cl_sh en X T P) {q1 q2 q3 q4 q5 : Int} (hF : 0 ≤ J (X + 1) 1 ∧ J (X + 1) 1 ≤ 700) (h0 : 680 < J (X + 1) 1 → Q (some (.int (m_i (-1)))) (T, m_I J, P, L, z, w)) (h1 : J (X + 1) 1 ≤ 680 → Q (some (.int (m_i (J (X + 1) 1 + 20)))) (T, m_I (re_tn (re_tn (re_tn (re_tn (re_tn J X q1) X q2) X q3) X q4) X q5), P, L, z, w)) : m_call en (d + 3) mSc_feed [.ref X, .int (m_i q1), .int (m_i q2), .int (m_i q3), .int (m_i q4), .int (m_i q5)] (T, m_I J, P, L, z, w) Q := by
  refine m_into (by decide) (Nat.le_of_ble_eq_true rfl) rfl ?_
  show m_wp en _ mSc_feed 0 [some (.ref X), some (.int (m_i (q1))), some (.int (m_i (q2))), some (.int (m_i (q3))), some (.int (m_i (q4))), some (.int (m_i (q5)))] [] (T, m_I J, P, L, z, w) Q
  refine r_aln eSc_feed_0 rfl ?_
  refine m_getR eSc_feed_1 rfl (cl_t hX (i := 0) rfl) (cl_p hX (i := 0) rfl) ?_
  refine r_iln eSc_feed_4 rfl ?_
  refine r_iln eSc_feed_5 rfl ?_
  refine r_iln eSc_feed_6 rfl ?_
  refine r_il eSc_feed_7 rfl ?_
  refine r_il eSc_feed_9 rfl ?_
  refine r_vir eSc_feed_11 rfl rfl rfl (cl_t hX (i := 1) rfl) rfl rfl ?_
  refine c_Re_takeBytes hX hF (fun q => ?_) (fun q => ?_)
  · show m_wp en _ mSc_feed 14 [some (.ref X), some (.int (m_i (q1))), some (.int (m_i (q2))), some (.int (m_i (q3))), some (.int (m_i (q4))), some (.int (m_i (q5)))] [(.int (m_i ((-1))))] (T, m_I J, P, L, z, w) Q
    refine r_iret eSc_feed_14 rfl ?_
    first | exact h0 q | exact h1 q
  · show m_wp en _ mSc_feed 14 [some (.ref X), some (.int (m_i (q1))), some (.int (m_i (q2))), some (.int (m_i (q3))), some (.int (m_i (q4))), some (.int (m_i (q5)))] [(.int (m_i ((J (X + 1) 1 + 20))))] (T, m_I (((re_tn (re_tn (re_tn (re_tn (re_tn J X q1) X q2) X q3) X q4) X q5))), P, L, z, w) Q
    refine r_iret eSc_feed_14 rfl ?_
    first | exact h0 q | exact h1 q
theorem c_Sc_flow {n : Int} (hn : m_in n) (h0 : ¬ (1 ≤ n ∧ n ≤ 40) → Q (some (.int (m_i (-1)))) (T, m_I J, P, L, z, w)) (h1 : (1 ≤ n ∧ n ≤ 40) → m_wp en d mSc_flow 15 [some (.ref X), some (.int (m_i n)), some (.int (m_i 0))] [] (T, m_I J, P, L, z, w) Q) : m_call en (d + 1) mSc_flow [.ref X, .int (m_i n)] (T, m_I J, P, L, z, w) Q := by
  unfold m_in at hn
  refine m_into (by decide) (Nat.le_of_ble_eq_true rfl) rfl ?_
  show m_wp en _ mSc_flow 0 [some (.ref X), some (.int (m_i (n))), none] [] (T, m_I J, P, L, z, w) Q
  refine r_iln eSc_flow_0 rfl ?_
  refine r_con eSc_flow_1 ?_
  refine r_clt (tgt := 11) eSc_flow_2 rfl ⟨(by omega), (by omega)⟩ ⟨(by omega), (by omega)⟩ (fun c2 => ?_) (fun c2 => ?_)
  · refine r_con eSc_flow_11 ?_
    refine r_iret eSc_flow_12 rfl ?_
    exact h0 (by omega)
  · refine r_iln eSc_flow_5 rfl ?_
    refine r_bip eSc_flow_6 (by decide) ?_
    refine r_cle (tgt := 13) eSc_flow_8 rfl ⟨(by omega), (by omega)⟩ ⟨(by omega), (by omega)⟩ (fun c8 => ?_) (fun c8 => ?_)
    · refine r_con eSc_flow_13 ?_
      refine r_isn (ls' := [some (.ref X), some (.int (m_i (n))), some (.int (m_i (0)))]) eSc_flow_14 (Nat.le_of_ble_eq_true rfl) rfl ?_
      exact h1 (by omega)
    · refine r_con eSc_flow_11 ?_
      refine r_iret eSc_flow_12 rfl ?_
      exact h0 (by omega)
theorem c_Sc_now (hX : cl_sh en X T P) (hmo : cl_mo J X) (ok : a_ok C) (hC : sp_is J (X + 133) C) {x : Int} (hx : 0 ≤ x ∧ x ≤ 8) (hq : Q (some (.int (m_i (cl_now J X C x)))) (T, m_I J, P, L, z, w)) : m_call en (d + 4) mSc_now [.ref X, .int (m_i x)] (T, m_I J, P, L, z, w) Q := by
  unfold cl_now at hq
  obtain ⟨y, ey⟩ : ∃ y, y = a_b (decide (J (X + 31) 1 = 0 ∧ J (X + 31) 2 = 0 ∧ J (X + 31) 3 = 0)) := ⟨_, rfl⟩
  rw [← ey] at hq
  have hy : y = 0 ∨ y = 1 := by rw [ey]; exact (a_bd2 (p := J (X + 31) 1 = 0 ∧ J (X + 31) 2 = 0 ∧ J (X + 31) 3 = 0)).elim (fun q => Or.inr q.1) (fun q => Or.inl q.1)
  refine m_into (by decide) (Nat.le_of_ble_eq_true rfl) rfl ?_
  show m_wp en _ mSc_now 0 [some (.ref X), some (.int (m_i (x))), none] [] (T, m_I J, P, L, z, w) Q
  refine r_iln eSc_now_0 rfl ?_
  refine r_zge (tgt := 14) eSc_now_1 rfl ⟨(by omega), (by omega)⟩ (fun c1 => ?_) (fun c1 => ?_)
  · refine r_aln eSc_now_14 rfl ?_
    refine m_getR eSc_now_15 rfl (cl_t hX (i := 0) rfl) (cl_p hX (i := 2) rfl) ?_
    refine m_getR eSc_now_18 rfl (cl_t hX (i := 30) rfl) (cl_p hX (i := 38) rfl) ?_
    refine r_asn (ls' := [some (.ref X), some (.int (m_i (x))), some (.ref (X + 31))]) eSc_now_21 (Nat.le_of_ble_eq_true rfl) rfl ?_
    refine r_iln eSc_now_22 rfl ?_
    rcases (show (x) = 0 ∨ (x) = 1 ∨ (x) = 2 ∨ (x) = 3 ∨ (x) = 4 ∨ (x) = 5 ∨ (x) = 6 ∨ (x) = 7 ∨ (x) = 8 ∨ ((x) < 0 ∨ 8 < (x)) by omega) with c23 | c23 | c23 | c23 | c23 | c23 | c23 | c23 | c23 | c23
    · refine r_tcase (v := 0) (tgt := 72) eSc_now_23 c23 ⟨by decide, by decide⟩ ⟨by decide, by decide⟩ rfl rfl ?_
      refine r_aln eSc_now_72 rfl ?_
      refine r_gete (x := J (X + 31) 0) eSc_now_73 rfl (by decide) (cl_t hX (i := 31) rfl) rfl ?_
      refine r_iret eSc_now_76 rfl ?_
      (repeat (first | rw [if_pos (by omega)] at hq | rw [if_neg (by omega)] at hq))
      exact hq
    · refine r_tcase (v := 1) (tgt := 77) eSc_now_23 c23 ⟨by decide, by decide⟩ ⟨by decide, by decide⟩ rfl rfl ?_
      refine r_aln eSc_now_77 rfl ?_
      refine r_gete (x := J (X + 31) 1) eSc_now_78 rfl (by decide) (cl_t hX (i := 31) rfl) rfl ?_
      refine r_iret eSc_now_81 rfl ?_
      (repeat (first | rw [if_pos (by omega)] at hq | rw [if_neg (by omega)] at hq))
      exact hq
    · refine r_tcase (v := 2) (tgt := 82) eSc_now_23 c23 ⟨by decide, by decide⟩ ⟨by decide, by decide⟩ rfl rfl ?_
      refine r_aln eSc_now_82 rfl ?_
      refine r_gete (x := J (X + 31) 2) eSc_now_83 rfl (by decide) (cl_t hX (i := 31) rfl) rfl ?_
      refine r_iret eSc_now_86 rfl ?_
      (repeat (first | rw [if_pos (by omega)] at hq | rw [if_neg (by omega)] at hq))
      exact hq
    · refine r_tcase (v := 3) (tgt := 87) eSc_now_23 c23 ⟨by decide, by decide⟩ ⟨by decide, by decide⟩ rfl rfl ?_
      refine r_aln eSc_now_87 rfl ?_
      refine r_gete (x := J (X + 31) 3) eSc_now_88 rfl (by decide) (cl_t hX (i := 31) rfl) rfl ?_
      refine r_iret eSc_now_91 rfl ?_
      (repeat (first | rw [if_pos (by omega)] at hq | rw [if_neg (by omega)] at hq))
      exact hq
    · refine r_tcase (v := 4) (tgt := 92) eSc_now_23 c23 ⟨by decide, by decide⟩ ⟨by decide, by decide⟩ rfl rfl ?_
      refine r_aln eSc_now_92 rfl ?_
      refine r_gete (x := J (X + 31) 4) eSc_now_93 rfl (by decide) (cl_t hX (i := 31) rfl) rfl ?_
      refine r_iret eSc_now_96 rfl ?_
      (repeat (first | rw [if_pos (by omega)] at hq | rw [if_neg (by omega)] at hq))
      exact hq
    · refine r_tcase (v := 5) (tgt := 97) eSc_now_23 c23 ⟨by decide, by decide⟩ ⟨by decide, by decide⟩ rfl rfl ?_
      refine r_aln eSc_now_97 rfl ?_
      refine r_vir eSc_now_98 rfl rfl rfl (cl_t hX (i := 31) rfl) rfl rfl ?_
      refine c_Po_load (cl_po hX (k := 31) (by decide)) ?_
      show m_wp en _ mSc_now 101 [some (.ref X), some (.int (m_i (x))), some (.ref (X + 31))] [(.int (m_i ((J (X + 31) 0 + J (X + 31) 2))))] (T, m_I J, P, L, z, w) Q
      refine r_iret eSc_now_101 rfl ?_
      (repeat (first | rw [if_pos (by omega)] at hq | rw [if_neg (by omega)] at hq))
      exact hq
    · refine r_tcase (v := 6) (tgt := 102) eSc_now_23 c23 ⟨by decide, by decide⟩ ⟨by decide, by decide⟩ rfl rfl ?_
      refine r_aln eSc_now_102 rfl ?_
      refine r_vir eSc_now_103 rfl rfl rfl (cl_t hX (i := 31) rfl) rfl rfl ?_
      refine c_Po_isStill (cl_po hX (k := 31) (by decide)) (a_bx_sm hmo.2.2.2.2) ?_
      rw [← ey]
      show m_wp en _ mSc_now 106 [some (.ref X), some (.int (m_i (x))), some (.ref (X + 31))] [(.int (m_i (y)))] (T, m_I J, P, L, z, w) Q
      refine r_zeq (tgt := 113) eSc_now_106 rfl ⟨(by omega), (by omega)⟩ (fun c106 => ?_) (fun c106 => ?_)
      · refine r_con eSc_now_113 ?_
        refine r_iret eSc_now_114 rfl ?_
        (repeat (first | rw [if_pos (by omega)] at hq | rw [if_neg (by omega)] at hq))
        first | (rw [show y = 0 from by omega] at hq; exact hq) | (rw [show y = 1 from by omega] at hq; exact hq)
      · refine r_con eSc_now_109 ?_
        refine r_go (tgt := 114) eSc_now_110 rfl ?_
        refine r_iret eSc_now_114 rfl ?_
        (repeat (first | rw [if_pos (by omega)] at hq | rw [if_neg (by omega)] at hq))
        first | (rw [show y = 0 from by omega] at hq; exact hq) | (rw [show y = 1 from by omega] at hq; exact hq)
    · refine r_tcase (v := 7) (tgt := 115) eSc_now_23 c23 ⟨by decide, by decide⟩ ⟨by decide, by decide⟩ rfl rfl ?_
      refine r_aln eSc_now_115 rfl ?_
      refine m_getR eSc_now_116 rfl (cl_t hX (i := 0) rfl) (cl_p hX (i := 7) rfl) ?_
      refine m_getR eSc_now_119 rfl (cl_t hX (i := 132) rfl) (cl_p hX (i := 107) rfl) ?_
      refine r_aln eSc_now_122 rfl ?_
      refine r_vir eSc_now_123 rfl rfl rfl (cl_t hX (i := 133) rfl) rfl rfl ?_
      refine c_Sp_whyNot (cl_sp hX (Or.inl rfl)) (cl_po hX (k := 31) (by decide)) hC.1 ok (a_bx_sm hmo.2.2.2.2) ?_
      show m_wp en _ mSc_now 126 [some (.ref X), some (.int (m_i (x))), some (.ref (X + 31))] [(.int (m_i ((a_why C (po_get J (X + 31))))))] (T, m_I J, P, L, z, w) Q
      refine r_iret eSc_now_126 rfl ?_
      (repeat (first | rw [if_pos (by omega)] at hq | rw [if_neg (by omega)] at hq))
      exact hq
    · refine r_tcase (v := 8) (tgt := 127) eSc_now_23 c23 ⟨by decide, by decide⟩ ⟨by decide, by decide⟩ rfl rfl ?_
      refine r_aln eSc_now_127 rfl ?_
      refine m_getR eSc_now_128 rfl (cl_t hX (i := 0) rfl) (cl_p hX (i := 2) rfl) ?_
      refine r_gete (x := J (X + 30) 2) eSc_now_131 rfl (by decide) (cl_t hX (i := 30) rfl) rfl ?_
      refine r_iret eSc_now_134 rfl ?_
      (repeat (first | rw [if_pos (by omega)] at hq | rw [if_neg (by omega)] at hq))
      exact hq
    · refine r_tdef (tgt := 135) eSc_now_23 c23 ⟨by omega, by omega⟩ rfl ?_
      exfalso; omega
  · exfalso; omega
end SCR
