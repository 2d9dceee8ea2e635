/-! text of the reference -/
section MDTX
variable {en : Nat → Nat} {d : Nat} {T : Nat → Option (Nat × Nat)} {J J0 J1 B K : Nat → Nat → Int} {P : Nat → Nat → Option Nat} {L : Nat → Nat → Int64} {z w M : Nat} {Q : m_Q} {σ : a_S} {a p s v k g : Int}
theorem dr_sz_a : ∀ k : Nat, k < 16 → 4 ≤ k → (k ≤ 9 ∧ dr_sz k = 12) ∨ ((k = 10 ∨ k = 11) ∧ dr_sz k = 16) ∨ ((k = 12 ∨ k = 13) ∧ dr_sz k = 32) ∨ ((k = 14 ∨ k = 15) ∧ dr_sz k = 8) := by decide
theorem md_t5_e {k i : Nat} (h0 : 4 ≤ k) (h1 : k < 16) (hi : i < dr_sz k) : ∃ j, j < dr_sz k ∧ md_t5 J M (M + k) i = J (M + k) j := by
  have e1 : ∀ j, md_t1 J M (M + k) j = J (M + k) j := fun j => by
    unfold md_t1
    rw [m_fl_o (by omega)]
  unfold md_t5 md_t4 md_t3 md_t2
  rcases dr_sz_a k h1 h0 with ⟨hk, hz⟩ | ⟨hk, hz⟩ | ⟨hk, hz⟩ | ⟨hk, hz⟩
  · rw [a_td_x (by omega), a_td_x (by omega), a_td_x (by omega)]
    by_cases q : i < 6
    · rw [a_td_i (by omega), e1]
      exact ⟨6 + i, by omega, rfl⟩
    · rw [a_td_x (by omega), e1]
      exact ⟨i, hi, rfl⟩
  · rw [a_td_x (by omega), a_td_x (by omega)]
    by_cases q : i < 8
    · rw [a_td_i (by omega), a_td_x (by omega), e1]
      exact ⟨8 + i, by omega, rfl⟩
    · rw [a_td_x (by omega), a_td_x (by omega), e1]
      exact ⟨i, hi, rfl⟩
  · rw [a_td_x (by omega)]
    by_cases q : i < 16
    · rw [a_td_i (by omega), a_td_x (by omega), a_td_x (by omega), e1]
      exact ⟨16 + i, by omega, rfl⟩
    · rw [a_td_x (by omega), a_td_x (by omega), a_td_x (by omega), e1]
      exact ⟨i, hi, rfl⟩
  · by_cases q : i < 3
    · rw [a_td_i (by omega), a_td_x (by omega), a_td_x (by omega), a_td_x (by omega), e1]
      exact ⟨3 + i, by omega, rfl⟩
    · rw [a_td_x (by omega), a_td_x (by omega), a_td_x (by omega), a_td_x (by omega), e1]
      exact ⟨i, hi, rfl⟩
theorem md_tt_o {b i : Nat} (h : b ≠ M + 16) (h2 : b ≠ M + 17) : md_tt J M b i = md_t5 J M b i := md_tp_o _ _ _ h h2
theorem md_tt_x {b i : Nat} (h : b < M + 2 ∨ M + 17 < b ∨ b = M + 3) : md_tt J M b i = J b i := by rw [md_tt_o (by omega) (by omega), md_t5_x _ _ (by omega)]
theorem md_tt_2 {i : Nat} (hi : i < 13) : md_tt J M (M + 2) i = J (M + 2) (13 + i) := by rw [md_tt_o (by omega) (by omega), md_t5_2 _ _ hi]
theorem md_tt_16 {i : Nat} : md_tt J M (M + 16) i = if i < 16 then J (M + 16) (16 + i) else J (M + 16) i := by
  have e : ∀ j, md_t5 J M (M + 16) j = J (M + 16) j := fun j => md_t5_x J M (by omega)
  unfold md_tt md_tp
  rw [if_neg (show ¬ (M + 16 = M + 17 ∧ i < 16) by omega), e, e]
  by_cases q : i < 16
  · rw [if_pos ⟨rfl, q⟩, if_pos q]
  · rw [if_neg (fun h => q h.2), if_neg q]
theorem md_tt_r (h : dr_b J M) : dr_r (md_tt J M) M := fun k h0 h1 i hi => by
  by_cases q : k = 16
  · subst q
    rw [md_tt_16]
    have hz : i < 32 := hi
    split
    · exact h.2.1 16 (by omega) (by omega) _ (by show 16 + i < 32; omega)
    · exact h.2.1 16 (by omega) (by omega) _ hi
  · rw [md_tt_o (by omega) (by omega)]
    obtain ⟨j, hj, e⟩ := md_t5_e (J := J) (M := M) h0 (by omega) hi
    rw [e]
    exact h.2.1 k (by omega) h1 j hj
theorem md_tt_pq (h : dr_b J M) (h4 : md_4 J M) : md_pq (md_tt J M) M := by
  have hr := md_tt_r h
  have mi : ∀ x : Int, -2147483648 ≤ x ∧ x ≤ 2147483647 → m_in x := fun x h => ⟨by omega, by omega⟩
  have n : ∀ y : Nat, y < 13 → dn_lo y ≤ md_tt J M (M + 2) y ∧ md_tt J M (M + 2) y ≤ dn_hi y := fun y hy => by rw [md_tt_2 hy]; exact h.1 y hy
  have n1 : (2 : Int) ≤ md_t5 J M (M + 2) 1 ∧ md_t5 J M (M + 2) 1 ≤ 6 := by rw [md_t5_2 _ _ (by omega)]; exact h.1 1 (by omega)
  have n7 : (0 : Int) ≤ md_t5 J M (M + 2) 7 ∧ md_t5 J M (M + 2) 7 ≤ 6 := by rw [md_t5_2 _ _ (by omega)]; exact h.1 7 (by omega)
  refine ⟨⟨n 0 (by omega), n 1 (by omega), n 2 (by omega), n 3 (by omega), n 4 (by omega), n 5 (by omega), n 6 (by omega), n 8 (by omega), n 11 (by omega), fun i hi => ⟨mi _ (hr 4 (by omega) (by omega) i hi), ?_, hr 6 (by omega) (by omega) i hi⟩, fun i hi => ⟨?_, ?_⟩, fun i hi => ⟨mi _ (hr 12 (by omega) (by omega) i hi), hr 13 (by omega) (by omega) i hi⟩, fun i hi => ⟨?_, ?_⟩, fun i hi => ?_⟩, ⟨n 9 (by omega), n 10 (by omega)⟩, fun i hi => ?_, ⟨by rw [md_tt_x (by omega)]; exact h4.1, fun i hi => by rw [md_tt_x (by omega)]; exact h4.2 i hi⟩⟩
  · have : (0 : Int) ≤ md_tt J M (M + 5) i ∧ md_tt J M (M + 5) i ≤ 15 := hr 5 (by omega) (by omega) i hi
    omega
  · have : (0 : Int) ≤ md_tt J M (M + 10) i ∧ md_tt J M (M + 10) i ≤ 999 := hr 10 (by omega) (by omega) i hi
    exact ⟨by omega, by omega⟩
  · have : (-4 : Int) ≤ md_tt J M (M + 11) i ∧ md_tt J M (M + 11) i ≤ 4 := hr 11 (by omega) (by omega) i hi
    omega
  · have : (0 : Int) ≤ md_tt J M (M + 14) i ∧ md_tt J M (M + 14) i ≤ 15 := hr 14 (by omega) (by omega) i hi
    omega
  · have : (0 : Int) ≤ md_tt J M (M + 15) i ∧ md_tt J M (M + 15) i ≤ 15 := hr 15 (by omega) (by omega) i hi
    omega
  · have e : md_tt J M (M + 17) i = a_clr (md_t5 J M) M i (md_t5 J M (M + 2) 7).toNat := by
      unfold md_tt md_tp
      rw [if_neg (by omega), if_pos ⟨rfl, hi⟩]
    rw [e]
    refine a_clr_bd (by omega) _ (fun j hj => ?_)
    have hj6 : j < 6 := by omega
    obtain ⟨j2, hj2, e2⟩ := md_t5_e (J := J) (M := M) (k := 9) (i := j) (by omega) (by omega) (by show j < 12; omega)
    rw [e2]
    exact h.2.1 9 (by omega) (by omega) j2 hj2
  · exact hr 16 (by omega) (by omega) i (by show i < 32; omega)
/-- what holds of the reference at a call from outside -/
def md_top (J : Nat → Nat → Int) (M : Nat) : Prop := md_inv J M ∧ dr_r J M ∧ a_tpb (J (M + 1)) (J M 2) ∧ m_in (J M 24)
/-- a text was read, and what was found is noted -/
def md_tx (J : Nat → Nat → Int) (M : Nat) (x : a_Q) : Nat → Nat → Int := md_q (m_up (m_up (m_up J M 2 0) M 27 x.2.2.2.2.1) M 28 (if x.2.2.2.2.1 = 0 then -1 else x.2.2.2.2.2)) M x.1 x.2.1 x.2.2.1 x.2.2.2.1 x.2.2.2.2.1 x.2.2.2.2.2
theorem md_tx_e {x : a_Q} {v : Int} (h : v = if x.2.2.2.2.1 = 0 then -1 else x.2.2.2.2.2) : md_q (m_up (m_up (m_up J M 2 0) M 27 x.2.2.2.2.1) M 28 v) M x.1 x.2.1 x.2.2.1 x.2.2.2.1 x.2.2.2.2.1 x.2.2.2.2.2 = md_tx J M x := by
  rw [h]
  rfl
theorem md_tx_o {x : a_Q} {b i : Nat} (h : b ≠ M) : md_tx J M x b i = J b i := by
  unfold md_tx
  rw [q_o h, m_up_at, if_neg (fun q => h q.1), m_up_at, if_neg (fun q => h q.1), m_up_at, if_neg (fun q => h q.1)]
theorem md_tx_M {x : a_Q} {i : Nat} (h : i < 21 ∨ 28 < i) (h2 : i ≠ 2) : md_tx J M x M i = J M i := by
  unfold md_tx
  rw [q_f (by omega), m_up_at, if_neg (by omega), m_up_at, if_neg (by omega), m_up_at, if_neg (by omega)]
theorem md_tx_b {x : a_Q} (h : dr_b J M) : dr_b (md_tx J M x) M := ⟨by rw [show md_tx J M x (M + 2) = J (M + 2) from funext (fun i => md_tx_o (by omega))]; exact h.1, fun k h0 h1 i hi => by rw [md_tx_o (by omega)]; exact h.2.1 k h0 h1 i hi, by rw [md_tx_M (by omega) (by omega)]; exact h.2.2⟩
theorem c_Md_text (hM : md_sh en M T P) (hJ : m_up J0 M 0 0 = J) (ht : md_top J M) {n : Int} (hn : m_in n)
    (hq0 : ¬ (0 ≤ n ∧ n ≤ J M 2) → Q (some (.int (m_i (-2)))) (T, m_I J, P, L, z, w))
    (hq1 : (0 ≤ n ∧ n ≤ J M 2) → ∀ (J' : Nat → Nat → Int) (x1 x' : a_Q), s_go (J (M + 1)) n (0, J M 22, J M 23, J M 24, 0, J M 26) x1 → s_rt M 701 (md_r0 J M n) x1 J' x' → dr_b J' M → dr_f (m_up J M 20 n) J' M → a_qb n x' →
      (x'.2.2.2.2.1 ≠ 0 → Q (some (.int (m_i (-1)))) (T, m_I (md_tx J' M x'), P, L, z, w)) ∧ (x'.2.2.2.2.1 = 0 → Q (some (.int (m_i (J' M 19)))) (T, m_I (md_bg (md_tt (md_tx J' M x') M) M), P, L, z, w))) : m_call en (d + 10) mMd_text [.ref M, .int (m_i n)] (T, m_I J0, P, L, z, w) Q := by
  obtain ⟨hinv, hr, htp0, hv⟩ := ht
  have h2 := htp0.1
  have h4 : ∀ (J' : Nat → Nat → Int) (x' : a_Q), dr_f (m_up J M 20 n) J' M → md_4 (md_tx J' M x') M := fun J' x' hf => ⟨by rw [md_tx_M (by omega) (by omega), hf _ _ (by unfold dr_c; omega), m_up_at, if_neg (by omega)]; exact hinv.hkp.1.2.1, fun i hi => by rw [md_tx_o (by omega), hf _ _ (by unfold dr_c; omega), m_up_at, if_neg (by omega)]; exact hinv.hkp.1.2.2 i hi⟩
  unfold m_in at hn
  refine m_into (by decide) (Nat.le_of_ble_eq_true rfl) rfl ?_
  show m_wp en _ mMd_text 0 [some (.ref M), some (.int (m_i (n)))] [] (T, m_I J0, P, L, z, w) Q
  refine r_aln eMd_text_0 rfl ?_
  refine r_con eMd_text_1 ?_
  refine r_put eMd_text_2 rfl hM.2.1 hM.1 (Or.inl rfl) ?_
  rw [hJ]
  refine r_iln eMd_text_5 rfl ?_
  refine r_zlt (tgt := 17) eMd_text_6 rfl ⟨(by omega), (by omega)⟩ (fun c6 => ?_) (fun c6 => ?_)
  · refine r_bip eMd_text_17 (by decide) ?_
    refine r_iret eMd_text_19 rfl ?_
    exact hq0 (by omega)
  · refine r_iln eMd_text_9 rfl ?_
    refine r_aln eMd_text_10 rfl ?_
    refine r_gete (x := J M 2) eMd_text_11 rfl (by decide) hM.2.1 rfl ?_
    refine r_cle (tgt := 20) eMd_text_14 rfl ⟨(by omega), (by omega)⟩ ⟨(by omega), (by omega)⟩ (fun c14 => ?_) (fun c14 => ?_)
    · have htp : a_tpb (J (M + 1)) n := ⟨by omega, htp0.2⟩
      rw [← q_id J M]
      refine r_aln eMd_text_20 rfl ?_
      refine r_iln eMd_text_21 rfl ?_
      skip
      refine r_vir eMd_text_22 rfl rfl rfl hM.2.1 rfl rfl ?_
      refine c_Md_readText hM htp hr hv (fun J' x1 x' g1 g2 g3 g4 g5 => ?_)
      · have hf := hq1 ⟨by omega, by omega⟩ J' x1 x' g1 g2 g3 g4 g5
        have hk9 := g5.2.2.2.2.1
        have e25 : md_tx J' M x' M 25 = x'.2.2.2.2.1 := by (unfold md_tx md_q; rw [if_neg (by omega), if_neg (by omega), if_neg (by omega), if_neg (by omega), if_pos ⟨rfl, rfl⟩])
        have e19 : md_bg (md_tt (md_tx J' M x') M) M M 19 = J' M 19 := by (rw [md_bg_M (by omega), md_tt_x (by omega), md_tx_M (by omega) (by omega)])
        show m_wp en _ mMd_text 25 [some (.ref M), some (.int (m_i (n)))] [] (T, m_I (((md_q J' M x'.1 x'.2.1 x'.2.2.1 x'.2.2.2.1 x'.2.2.2.2.1 x'.2.2.2.2.2))), P, L, z, w) Q
        refine r_aln eMd_text_25 rfl ?_
        refine r_con eMd_text_26 ?_
        refine r_put eMd_text_27 rfl hM.2.1 hM.1 (Or.inl rfl) ?_
        rw [q_upM (by omega)]
        refine r_aln eMd_text_30 rfl ?_
        refine r_aln eMd_text_31 rfl ?_
        refine r_gete (x := x'.2.2.2.2.1) eMd_text_32 rfl (by decide) hM.2.1 (by simp [m_up, md_q, md_put_at, m_fl]) ?_
        refine r_put eMd_text_35 rfl hM.2.1 hM.1 (Or.inl rfl) ?_
        rw [q_upM (by omega)]
        refine r_aln eMd_text_38 rfl ?_
        refine r_aln eMd_text_39 rfl ?_
        refine r_gete (x := x'.2.2.2.2.1) eMd_text_40 rfl (by decide) hM.2.1 (by simp [m_up, md_q, md_put_at, m_fl]) ?_
        refine r_zne (tgt := 50) eMd_text_43 rfl ⟨(by omega), (by omega)⟩ (fun c43 => ?_) (fun c43 => ?_)
        · refine r_aln eMd_text_50 rfl ?_
          refine r_gete (x := x'.2.2.2.2.2) eMd_text_51 rfl (by decide) hM.2.1 (by simp [m_up, md_q, md_put_at, m_fl]) ?_
          refine r_put eMd_text_54 rfl hM.2.1 hM.1 (Or.inl rfl) ?_
          rw [q_upM (by omega)]
          rw [md_tx_e (by omega)]
          refine r_aln eMd_text_57 rfl ?_
          refine r_gete (x := md_tx J' M x' M 25) eMd_text_58 rfl (by decide) hM.2.1 rfl ?_
          rw [e25]
          refine r_zeq (tgt := 66) eMd_text_61 rfl ⟨(by omega), (by omega)⟩ (fun c61 => ?_) (fun c61 => ?_)
          · refine r_aln eMd_text_66 rfl ?_
            refine r_vir eMd_text_67 rfl rfl rfl hM.2.1 rfl rfl ?_
            refine c_Md_takeText hM (md_tx_b g3) ?_
            show m_wp en _ mMd_text 70 [some (.ref M), some (.int (m_i (n)))] [] (T, m_I ((md_tt (md_tx J' M x') M)), P, L, z, w) Q
            refine r_aln eMd_text_70 rfl ?_
            refine r_vir eMd_text_71 rfl rfl rfl hM.2.1 rfl rfl ?_
            refine c_Md_begins hM (md_tt_pq (md_tx_b g3) (h4 J' x' g4)) ?_
            show m_wp en _ mMd_text 74 [some (.ref M), some (.int (m_i (n)))] [] (T, m_I ((md_bg (md_tt (md_tx J' M x') M) M)), P, L, z, w) Q
            refine r_aln eMd_text_74 rfl ?_
            refine r_gete (x := (md_bg (md_tt (md_tx J' M x') M) M) M 19) eMd_text_75 rfl (by decide) hM.2.1 rfl ?_
            rw [e19]
            refine r_iret eMd_text_78 rfl ?_
            exact hf.2 (by omega)
          · refine r_con eMd_text_64 ?_
            refine r_iret eMd_text_65 rfl ?_
            exact hf.1 (by omega)
        · refine r_con eMd_text_46 ?_
          refine r_go (tgt := 54) eMd_text_47 rfl ?_
          refine r_put eMd_text_54 rfl hM.2.1 hM.1 (Or.inl rfl) ?_
          rw [q_upM (by omega)]
          rw [md_tx_e (by omega)]
          refine r_aln eMd_text_57 rfl ?_
          refine r_gete (x := md_tx J' M x' M 25) eMd_text_58 rfl (by decide) hM.2.1 rfl ?_
          rw [e25]
          refine r_zeq (tgt := 66) eMd_text_61 rfl ⟨(by omega), (by omega)⟩ (fun c61 => ?_) (fun c61 => ?_)
          · refine r_aln eMd_text_66 rfl ?_
            refine r_vir eMd_text_67 rfl rfl rfl hM.2.1 rfl rfl ?_
            refine c_Md_takeText hM (md_tx_b g3) ?_
            show m_wp en _ mMd_text 70 [some (.ref M), some (.int (m_i (n)))] [] (T, m_I ((md_tt (md_tx J' M x') M)), P, L, z, w) Q
            refine r_aln eMd_text_70 rfl ?_
            refine r_vir eMd_text_71 rfl rfl rfl hM.2.1 rfl rfl ?_
            refine c_Md_begins hM (md_tt_pq (md_tx_b g3) (h4 J' x' g4)) ?_
            show m_wp en _ mMd_text 74 [some (.ref M), some (.int (m_i (n)))] [] (T, m_I ((md_bg (md_tt (md_tx J' M x') M) M)), P, L, z, w) Q
            refine r_aln eMd_text_74 rfl ?_
            refine r_gete (x := (md_bg (md_tt (md_tx J' M x') M) M) M 19) eMd_text_75 rfl (by decide) hM.2.1 rfl ?_
            rw [e19]
            refine r_iret eMd_text_78 rfl ?_
            exact hf.2 (by omega)
          · refine r_con eMd_text_64 ?_
            refine r_iret eMd_text_65 rfl ?_
            exact hf.1 (by omega)
    · refine r_bip eMd_text_17 (by decide) ?_
      refine r_iret eMd_text_19 rfl ?_
      exact hq0 (by omega)
end MDTX
