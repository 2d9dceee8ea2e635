/-! freshText, readText of the reference -/
def md_f1 (J : Nat → Nat → Int) (M : Nat) : Nat → Nat → Int := m_up (m_up (m_up (m_up (m_up (m_fl J (M + 2) 13 (fun _ => 0) 13) (M + 2) 13 16) (M + 2) 14 6) (M + 2) 15 2) (M + 2) 16 4) (M + 2) 23 1
def md_f2 (J : Nat → Nat → Int) (M : Nat) : Nat → Nat → Int := m_fl (md_f1 J M) (M + 3) 0 (fun _ => 0) 18
def md_f0 (J : Nat → Nat → Int) (M : Nat) : Nat → Nat → Int := m_up (m_fl (md_f2 J M) (M + 16) 16 (fun _ => 0) 16) M 18 0
section MDFR
variable {en : Nat → Nat} {d : Nat} {T : Nat → Option (Nat × Nat)} {J J0 J1 B : Nat → Nat → Int} {P : Nat → Nat → Option Nat} {L : Nat → Nat → Int64} {z w M : Nat} {Q : m_Q} {σ : a_S} {a p s v k g : Int}
theorem l_Md_fr1 (hM : md_sh en M T P) (hq : m_wp en (d + 1) mMd_freshText 20 [some (.ref M), some (.int (m_i 13))] [] (T, m_I (md_q (m_fl J (M + 2) 13 (fun _ => 0) 13) M a p s v k g), P, L, z, w) Q) :
    ∀ (m i : Nat), i + m = 13 → m_wp en (d + 1) mMd_freshText 2 [some (.ref M), some (.int (m_i (i : Int)))] [] (T, m_I (md_q (m_fl J (M + 2) 13 (fun _ => 0) (i : Int)) M a p s v k g), P, L, z, w) Q := by
  intro m
  induction m with
  | zero =>
    intro i him
    obtain rfl : i = 13 := by omega
    refine r_iln eMd_freshText_2 rfl ?_
    refine r_bip eMd_freshText_3 (by decide) ?_
    refine r_cge (tgt := 20) eMd_freshText_5 rfl ⟨(by omega), (by omega)⟩ ⟨(by omega), (by omega)⟩ (fun c5 => ?_) (fun c5 => ?_)
    · exact hq
    · exfalso; omega
  | succ m ih =>
    intro i him
    have hi := ih (i + 1) (by omega)
    rw [show ((i + 1 : Nat) : Int) = (i : Int) + 1 by omega, ← m_fl_s (n := 13 + i) (v := 0) (by omega) (by omega) rfl] at hi
    refine r_iln eMd_freshText_2 rfl ?_
    refine r_bip eMd_freshText_3 (by decide) ?_
    refine r_cge (tgt := 20) eMd_freshText_5 rfl ⟨(by omega), (by omega)⟩ ⟨(by omega), (by omega)⟩ (fun c5 => ?_) (fun c5 => ?_)
    · exfalso; omega
    · refine r_aln eMd_freshText_8 rfl ?_
      refine r_iln eMd_freshText_9 rfl ?_
      refine r_con eMd_freshText_10 ?_
      refine r_vir eMd_freshText_11 rfl rfl rfl hM.2.1 rfl rfl ?_
      refine t_Md_reads (i := 13 + i) hM (by omega) (by omega) ?_
      show m_wp en _ mMd_freshText 14 [some (.ref M), some (.int (m_i ((i : Int))))] [] (T, m_I (((md_q (m_up (m_fl J (M + 2) 13 (fun _ => 0) (i : Int)) (M + 2) (13 + i) 0) M a p s v k g))), P, L, z, w) Q
      refine r_inc (ls' := [some (.ref M), some (.int (m_i ((i : Int) + 1)))]) eMd_freshText_14 rfl rfl ?_
      refine r_go (tgt := 2) eMd_freshText_17 rfl ?_
      exact hi
theorem l_Md_fr2 (hM : md_sh en M T P) (hq : m_wp en (d + 1) mMd_freshText 74 [some (.ref M), some (.int (m_i 18))] [] (T, m_I (md_q (m_fl J (M + 3) 0 (fun _ => 0) 18) M a p s v k g), P, L, z, w) Q) :
    ∀ (m i : Nat), i + m = 18 → m_wp en (d + 1) mMd_freshText 55 [some (.ref M), some (.int (m_i (i : Int)))] [] (T, m_I (md_q (m_fl J (M + 3) 0 (fun _ => 0) (i : Int)) M a p s v k g), P, L, z, w) Q := by
  intro m
  induction m with
  | zero =>
    intro i him
    obtain rfl : i = 18 := by omega
    refine r_iln eMd_freshText_55 rfl ?_
    refine r_bip eMd_freshText_56 (by decide) ?_
    refine r_cge (tgt := 74) eMd_freshText_58 rfl ⟨(by omega), (by omega)⟩ ⟨(by omega), (by omega)⟩ (fun c58 => ?_) (fun c58 => ?_)
    · exact hq
    · exfalso; omega
  | succ m ih =>
    intro i him
    have hi := ih (i + 1) (by omega)
    rw [show ((i + 1 : Nat) : Int) = (i : Int) + 1 by omega, ← m_fl_s (n := (i : Int).toNat) (v := 0) (by omega) (by omega) rfl] at hi
    refine r_iln eMd_freshText_55 rfl ?_
    refine r_bip eMd_freshText_56 (by decide) ?_
    refine r_cge (tgt := 74) eMd_freshText_58 rfl ⟨(by omega), (by omega)⟩ ⟨(by omega), (by omega)⟩ (fun c58 => ?_) (fun c58 => ?_)
    · exfalso; omega
    · refine r_aln eMd_freshText_61 rfl ?_
      refine m_getR eMd_freshText_62 rfl hM.2.1 (md_isTold_p hM) ?_
      refine r_iln eMd_freshText_65 rfl ?_
      refine r_con eMd_freshText_66 ?_
      refine r_zast eMd_freshText_67 (md_isTold_t hM) (by decide) (by omega) (by omega) (md_b hM 3) (by first | exact Or.inl rfl | exact Or.inr rfl | omega) ?_
      rw [q_up (by omega)]
      refine r_inc (ls' := [some (.ref M), some (.int (m_i ((i : Int) + 1)))]) eMd_freshText_68 rfl rfl ?_
      refine r_go (tgt := 55) eMd_freshText_71 rfl ?_
      exact hi
theorem l_Md_fr3 (hM : md_sh en M T P) (hq : Q none (T, m_I (md_q (m_up (m_fl J (M + 16) 16 (fun _ => 0) 16) M 18 0) M a p s v k g), P, L, z, w)) :
    ∀ (m i : Nat), i + m = 16 → m_wp en (d + 1) mMd_freshText 76 [some (.ref M), some (.int (m_i (i : Int)))] [] (T, m_I (md_q (m_fl J (M + 16) 16 (fun _ => 0) (i : Int)) M a p s v k g), P, L, z, w) Q := by
  intro m
  induction m with
  | zero =>
    intro i him
    obtain rfl : i = 16 := by omega
    refine r_iln eMd_freshText_76 rfl ?_
    refine r_bip eMd_freshText_77 (by decide) ?_
    refine r_cge (tgt := 98) eMd_freshText_79 rfl ⟨(by omega), (by omega)⟩ ⟨(by omega), (by omega)⟩ (fun c79 => ?_) (fun c79 => ?_)
    · refine r_aln eMd_freshText_98 rfl ?_
      refine r_con eMd_freshText_99 ?_
      refine r_puz eMd_freshText_100 rfl hM.2.1 hM.1 (Or.inl rfl) (by first | exact Or.inl rfl | exact Or.inr rfl | omega) ?_
      rw [q_upM (by omega)]
      refine r_ret eMd_freshText_103 rfl ?_
      exact hq
    · exfalso; omega
  | succ m ih =>
    intro i him
    have hi := ih (i + 1) (by omega)
    rw [show ((i + 1 : Nat) : Int) = (i : Int) + 1 by omega, ← m_fl_s (n := (16 + (i : Int)).toNat) (v := 0) (by omega) (by omega) rfl] at hi
    refine r_iln eMd_freshText_76 rfl ?_
    refine r_bip eMd_freshText_77 (by decide) ?_
    refine r_cge (tgt := 98) eMd_freshText_79 rfl ⟨(by omega), (by omega)⟩ ⟨(by omega), (by omega)⟩ (fun c79 => ?_) (fun c79 => ?_)
    · exfalso; omega
    · refine r_aln eMd_freshText_82 rfl ?_
      refine m_getR eMd_freshText_83 rfl hM.2.1 (md_pileTold_p hM) ?_
      refine r_bip eMd_freshText_86 (by decide) ?_
      refine r_iln eMd_freshText_88 rfl ?_
      refine r_add eMd_freshText_89 ?_
      refine r_con eMd_freshText_90 ?_
      refine r_iast eMd_freshText_91 (md_pileTold_t hM) (by decide) (by omega) (by omega) (md_b hM 16) ?_
      rw [q_up (by omega)]
      refine r_inc (ls' := [some (.ref M), some (.int (m_i ((i : Int) + 1)))]) eMd_freshText_92 rfl rfl ?_
      refine r_go (tgt := 76) eMd_freshText_95 rfl ?_
      exact hi
theorem c_Md_freshText (hM : md_sh en M T P) (hq : Q none (T, m_I (md_q (md_f0 J M) M a p s v k g), P, L, z, w)) : m_call en (d + 2) mMd_freshText [.ref M] (T, m_I (md_q J M a p s v k g), P, L, z, w) Q := by
  have h76 := l_Md_fr3 (d := d) (z := z) (w := w) (L := L) (P := P) (Q := Q) (J := md_f2 J M) hM hq 16 0 (by omega)
  rw [show ((0 : Nat) : Int) = 0 from rfl, m_fl_0] at h76
  have h74 : m_wp en (d + 1) mMd_freshText 74 [some (.ref M), some (.int (m_i 18))] [] (T, m_I (md_q (m_fl (md_f1 J M) (M + 3) 0 (fun _ => 0) 18) M a p s v k g), P, L, z, w) Q := by
    refine r_con eMd_freshText_74 ?_
    refine r_isn (ls' := [some (.ref M), some (.int (m_i (0)))]) eMd_freshText_75 (Nat.le_of_ble_eq_true rfl) rfl ?_
    exact h76
  have h55 := l_Md_fr2 (d := d) (z := z) (w := w) (L := L) (P := P) (Q := Q) (J := md_f1 J M) hM h74 18 0 (by omega)
  rw [show ((0 : Nat) : Int) = 0 from rfl, m_fl_0] at h55
  have h20 : m_wp en (d + 1) mMd_freshText 20 [some (.ref M), some (.int (m_i 13))] [] (T, m_I (md_q (m_fl J (M + 2) 13 (fun _ => 0) 13) M a p s v k g), P, L, z, w) Q := by
    refine r_aln eMd_freshText_20 rfl ?_
    refine r_con eMd_freshText_21 ?_
    refine r_bip eMd_freshText_22 (by decide) ?_
    refine r_vir eMd_freshText_24 rfl rfl rfl hM.2.1 rfl rfl ?_
    refine t_Md_reads (i := 13) hM (by omega) rfl ?_
    show m_wp en _ mMd_freshText 27 [some (.ref M), some (.int (m_i (13)))] [] (T, m_I (((md_q (m_up (m_fl J (M + 2) 13 (fun _ => 0) 13) (M + 2) 13 (16)) M a p s v k g))), P, L, z, w) Q
    refine r_aln eMd_freshText_27 rfl ?_
    refine r_con eMd_freshText_28 ?_
    refine r_bip eMd_freshText_29 (by decide) ?_
    refine r_vir eMd_freshText_31 rfl rfl rfl hM.2.1 rfl rfl ?_
    refine t_Md_reads (i := 14) hM (by omega) rfl ?_
    show m_wp en _ mMd_freshText 34 [some (.ref M), some (.int (m_i (13)))] [] (T, m_I (((md_q (m_up (m_up (m_fl J (M + 2) 13 (fun _ => 0) 13) (M + 2) 13 (16)) (M + 2) 14 (6)) M a p s v k g))), P, L, z, w) Q
    refine r_aln eMd_freshText_34 rfl ?_
    refine r_con eMd_freshText_35 ?_
    refine r_con eMd_freshText_36 ?_
    refine r_vir eMd_freshText_37 rfl rfl rfl hM.2.1 rfl rfl ?_
    refine t_Md_reads (i := 15) hM (by omega) rfl ?_
    show m_wp en _ mMd_freshText 40 [some (.ref M), some (.int (m_i (13)))] [] (T, m_I (((md_q (m_up (m_up (m_up (m_fl J (M + 2) 13 (fun _ => 0) 13) (M + 2) 13 (16)) (M + 2) 14 (6)) (M + 2) 15 (2)) M a p s v k g))), P, L, z, w) Q
    refine r_aln eMd_freshText_40 rfl ?_
    refine r_con eMd_freshText_41 ?_
    refine r_con eMd_freshText_42 ?_
    refine r_vir eMd_freshText_43 rfl rfl rfl hM.2.1 rfl rfl ?_
    refine t_Md_reads (i := 16) hM (by omega) rfl ?_
    show m_wp en _ mMd_freshText 46 [some (.ref M), some (.int (m_i (13)))] [] (T, m_I (((md_q (m_up (m_up (m_up (m_up (m_fl J (M + 2) 13 (fun _ => 0) 13) (M + 2) 13 (16)) (M + 2) 14 (6)) (M + 2) 15 (2)) (M + 2) 16 (4)) M a p s v k g))), P, L, z, w) Q
    refine r_aln eMd_freshText_46 rfl ?_
    refine r_bip eMd_freshText_47 (by decide) ?_
    refine r_con eMd_freshText_49 ?_
    refine r_vir eMd_freshText_50 rfl rfl rfl hM.2.1 rfl rfl ?_
    refine t_Md_reads (i := 23) hM (by omega) rfl ?_
    show m_wp en _ mMd_freshText 53 [some (.ref M), some (.int (m_i (13)))] [] (T, m_I (((md_q (m_up (m_up (m_up (m_up (m_up (m_fl J (M + 2) 13 (fun _ => 0) 13) (M + 2) 13 (16)) (M + 2) 14 (6)) (M + 2) 15 (2)) (M + 2) 16 (4)) (M + 2) 23 (1)) M a p s v k g))), P, L, z, w) Q
    refine r_con eMd_freshText_53 ?_
    refine r_isn (ls' := [some (.ref M), some (.int (m_i (0)))]) eMd_freshText_54 (Nat.le_of_ble_eq_true rfl) rfl ?_
    exact h55
  have h2 := l_Md_fr1 (d := d) (z := z) (w := w) (L := L) (P := P) (Q := Q) (J := J) hM h20 13 0 (by omega)
  rw [show ((0 : Nat) : Int) = 0 from rfl, m_fl_0] at h2
  refine m_into (by decide) (Nat.le_of_ble_eq_true rfl) rfl ?_
  show m_wp en _ mMd_freshText 0 [some (.ref M), none] [] (T, m_I ((md_q J M a p s v k g)), P, L, z, w) Q
  refine r_con eMd_freshText_0 ?_
  refine r_isn (ls' := [some (.ref M), some (.int (m_i (0)))]) eMd_freshText_1 (Nat.le_of_ble_eq_true rfl) rfl ?_
  exact h2
/-- the rows that stay from text to text -/
def dr_r (J : Nat → Nat → Int) (M : Nat) : Prop := ∀ k : Nat, 4 ≤ k → k ≤ 16 → ∀ i : Nat, i < dr_sz k → dr_lo k ≤ J (M + k) i ∧ J (M + k) i ≤ dr_hi k
def a_dn (i : Nat) : Int := if i = 23 then 1 else if i = 16 then 4 else if i = 15 then 2 else if i = 14 then 6 else if i = 13 then 16 else 0
theorem a_dn_d : ∀ y : Nat, y < 13 → dn_lo y ≤ a_dn (13 + y) ∧ a_dn (13 + y) ≤ dn_hi y := by decide
theorem md_f0_b (h : dr_r J M) : dr_b (md_f0 J M) M := by
  have e2 : ∀ i : Nat, 13 ≤ i ∧ i < 26 → md_f0 J M (M + 2) i = a_dn i := fun i hi => by
    unfold md_f0 md_f2 md_f1 a_dn
    rw [m_up_at, if_neg (by omega), m_fl_o (by omega), m_fl_o (by omega)]
    simp only [m_up, m_fl, true_and]
    repeat' split
    all_goals first | rfl | omega
  refine ⟨fun y hy => ?_, fun k k0 k1 i hi => ?_, Or.inl m_up_same⟩
  · rw [e2 _ (by omega)]
    exact a_dn_d y hy
  · unfold md_f0
    rw [m_up_at, if_neg (by omega)]
    by_cases hk : k = 16
    · subst hk
      by_cases q : 16 ≤ i
      · have e : m_fl (md_f2 J M) (M + 16) 16 (fun _ => 0) 16 (M + 16) i = 0 := m_fl_i (by have : i < 32 := hi; omega)
        rw [e]
        exact ⟨by decide, by decide⟩
      · rw [m_fl_x (by omega)]
        unfold md_f2 md_f1
        rw [m_fl_o (by omega), m_up_at, if_neg (by omega), m_up_at, if_neg (by omega), m_up_at, if_neg (by omega), m_up_at, if_neg (by omega), m_up_at, if_neg (by omega), m_fl_o (by omega)]
        exact h 16 (by omega) (by omega) i hi
    · rw [m_fl_o (by omega)]
      unfold md_f2
      by_cases hk3 : k = 3
      · subst hk3
        have e : m_fl (md_f1 J M) (M + 3) 0 (fun _ => 0) 18 (M + 3) i = 0 := m_fl_i (by have : i < 18 := hi; omega)
        rw [e]
        exact ⟨by decide, by decide⟩
      · rw [m_fl_o (by omega)]
        unfold md_f1
        rw [m_up_at, if_neg (by omega), m_up_at, if_neg (by omega), m_up_at, if_neg (by omega), m_up_at, if_neg (by omega), m_up_at, if_neg (by omega), m_fl_o (by omega)]
        exact h k (by omega) k1 i hi
theorem md_f0_f (J : Nat → Nat → Int) (M : Nat) : dr_f J (md_f0 J M) M := fun b i c => by
  unfold dr_c at c
  unfold md_f0 md_f2 md_f1
  rw [m_up_at, if_neg (by omega)]
  by_cases h16 : b = M + 16
  · rw [h16, m_fl_x (by omega), m_fl_o (by omega), m_up_at, if_neg (by omega), m_up_at, if_neg (by omega), m_up_at, if_neg (by omega), m_up_at, if_neg (by omega), m_up_at, if_neg (by omega), m_fl_o (by omega)]
  · rw [m_fl_o h16, m_fl_o (by omega), m_up_at, if_neg (by omega), m_up_at, if_neg (by omega), m_up_at, if_neg (by omega), m_up_at, if_neg (by omega), m_up_at, if_neg (by omega)]
    by_cases h2 : b = M + 2
    · rw [h2, m_fl_x (by omega)]
    · rw [m_fl_o h2]
/-- the heap where the reading begins -/
def md_r0 (J : Nat → Nat → Int) (M : Nat) (n : Int) : Nat → Nat → Int := md_f0 (m_up (m_up J M 20 n) M 19 0) M
theorem c_Md_readText (hM : md_sh en M T P) {n : Int} (ht : a_tpb (J (M + 1)) n) (hr : dr_r J M) (hv : m_in v)
    (hq : ∀ (J' : Nat → Nat → Int) (x1 x' : a_Q), s_go (J (M + 1)) n (0, p, s, v, 0, g) x1 → s_rt M 701 (md_r0 J M n) x1 J' x' → dr_b J' M → dr_f (m_up J M 20 n) J' M → a_qb n x' → Q none (T, m_I (md_q J' M x'.1 x'.2.1 x'.2.2.1 x'.2.2.2.1 x'.2.2.2.2.1 x'.2.2.2.2.2), P, L, z, w)) : m_call en (d + 9) mMd_readText [.ref M, .int (m_i n)] (T, m_I (md_q J M a p s v k g), P, L, z, w) Q := by
  have hfr : dr_f (m_up J M 20 n) (md_r0 J M n) M := ((dr_f.refl _ M).up (by unfold dr_c; omega) _).trans (md_f0_f _ M)
  have e1 : md_r0 J M n (M + 1) = J (M + 1) := hfr.t.trans (funext (fun i => by rw [m_up_at, if_neg (by omega)]))
  have e20 : md_r0 J M n M 20 = n := hfr.z.trans m_up_same
  have ht2 : a_tpb (md_r0 J M n (M + 1)) (md_r0 J M n M 20) := by rw [e1, e20]; exact ht
  have hn := ht.1
  have hb2 : 0 ≤ (0 : Int) ∧ (0 : Int) ≤ md_r0 J M n M 20 := by rw [e20]; omega
  have hdr : dr_b (md_r0 J M n) M := md_f0_b (fun k k0 k1 i hi => by rw [m_up_at, if_neg (by omega), m_up_at, if_neg (by omega)]; exact hr k k0 k1 i hi)
  refine m_into (by decide) (Nat.le_of_ble_eq_true rfl) rfl ?_
  show m_wp en _ mMd_readText 0 [some (.ref M), some (.int (m_i (n)))] [] (T, m_I ((md_q J M a p s v k g)), P, L, z, w) Q
  refine r_aln eMd_readText_0 rfl ?_
  refine r_iln eMd_readText_1 rfl ?_
  refine r_put eMd_readText_2 rfl hM.2.1 hM.1 (Or.inl rfl) ?_
  rw [q_upM (by omega)]
  refine r_aln eMd_readText_5 rfl ?_
  refine r_con eMd_readText_6 ?_
  refine r_put eMd_readText_7 rfl hM.2.1 hM.1 (Or.inl rfl) ?_
  rw [q_21]
  refine r_aln eMd_readText_10 rfl ?_
  refine r_con eMd_readText_11 ?_
  refine r_put eMd_readText_12 rfl hM.2.1 hM.1 (Or.inl rfl) ?_
  rw [q_25]
  refine r_aln eMd_readText_15 rfl ?_
  refine r_con eMd_readText_16 ?_
  refine r_put eMd_readText_17 rfl hM.2.1 hM.1 (Or.inl rfl) ?_
  rw [q_upM (by omega)]
  refine r_aln eMd_readText_20 rfl ?_
  refine r_vir eMd_readText_21 rfl rfl rfl hM.2.1 rfl rfl ?_
  refine c_Md_freshText hM ?_
  show m_wp en _ mMd_readText 24 [some (.ref M), some (.int (m_i (n)))] [] (T, m_I (((md_q (md_f0 (m_up (m_up J M 20 n) M 19 0) M) M 0 p s v 0 g))), P, L, z, w) Q
  skip
  refine r_aln eMd_readText_24 rfl ?_
  refine r_vir eMd_readText_25 rfl rfl rfl hM.2.1 rfl rfl ?_
  refine u_Md_token (B := (md_r0 J M n)) hM rfl rfl ht2 hb2 hv (fun xt ht9 hbt => ?_)
  · show m_wp en _ mMd_readText 28 [some (.ref M), some (.int (m_i (n)))] [] (T, m_I (((md_q (md_r0 J M n) M xt.1 xt.2.1 xt.2.2.1 xt.2.2.2.1 xt.2.2.2.2.1 xt.2.2.2.2.2))), P, L, z, w) Q
    refine l_Md_readText (d := d) hM 701 (md_r0 J M n) xt ht2 hbt hdr (fun _ => by have := hbt.1; rw [e20] at this ⊢; omega) (fun J' x' g1 g2 g3 g4 => hq J' xt x' (by rw [e1, e20] at ht9; exact ht9) g1 g2 (hfr.trans g3) (by rw [← e20]; exact g4))
end MDFR
