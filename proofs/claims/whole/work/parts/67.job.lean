/-! ifPile, jobs of the reference -/
/-- of an order of jobs the i-th one -/
def a_io (c i : Int) : Int := m_and (m_shr c (2 * (2 - i))) 3
theorem a_io_d : ∀ c : Nat, c < 64 → ∀ i : Nat, i < 3 → 0 ≤ a_io (c : Int) (i : Int) ∧ a_io (c : Int) (i : Int) ≤ 3 := by decide +kernel
theorem a_io_b {c i : Int} (hc : 0 ≤ c ∧ c < 64) (hi : 0 ≤ i ∧ i < 3) : 0 ≤ a_io c i ∧ a_io c i ≤ 3 := by
  obtain ⟨n, rfl⟩ : ∃ n : Nat, c = n := ⟨c.toNat, by omega⟩
  obtain ⟨m, rfl⟩ : ∃ m : Nat, i = m := ⟨i.toNat, by omega⟩
  exact a_io_d n (by omega) m (by omega)
/-- whether a code is an order of n jobs -/
def a_is3 (n c : Int) : Nat → Int → Int → Int
  | 0, _, _ => 1
  | k + 1, i, been => if i < n then (if n ≤ a_io c i ∨ m_and (m_shr been (a_io c i)) 1 = 1 then 0 else a_is3 n c k (i + 1) (m_or been (m_shl 1 (a_io c i)))) else (if 0 < a_io c i then 0 else a_is3 n c k (i + 1) (m_or been 0))
theorem a_is3_01 (n c : Int) : ∀ (k : Nat) (i been : Int), a_is3 n c k i been = 0 ∨ a_is3 n c k i been = 1 := by
  intro k
  induction k with
  | zero => intro i been; exact Or.inr rfl
  | succ k ih =>
    intro i been
    unfold a_is3
    split
    · split
      · exact Or.inl rfl
      · exact ih _ _
    · split
      · exact Or.inl rfl
      · exact ih _ _
theorem m_and_in (x y : Int) : m_in (m_and x y) := by
  have h1 := Int32.le_toInt (m_i x &&& m_i y)
  have h2 := Int32.toInt_lt (m_i x &&& m_i y)
  unfold m_and m_in
  exact ⟨by simpa using h1, by simpa using h2⟩
section MDJB
variable {en : Nat → Nat} {d : Nat} {T : Nat → Option (Nat × Nat)} {J J0 J1 : Nat → Nat → Int} {P : Nat → Nat → Option Nat} {L : Nat → Nat → Int64} {z w M : Nat} {Q : m_Q} {σ : a_S}
theorem c_Md_ifPile (hM : md_sh en M T P) (hJ : m_up J0 M 0 0 = J) (hinv : md_inv J M) {x y : Int} (hx : m_in x) (hy : m_in y)
    (hq0 : ¬ ((0 ≤ x ∧ x < J (M + 2) 0) ∧ 0 ≤ y ∧ y < J (M + 2) 4) → Q (some (.int (m_i (-1)))) (T, m_I J, P, L, z, w))
    (hq1 : ((0 ≤ x ∧ x < J (M + 2) 0) ∧ 0 ≤ y ∧ y < J (M + 2) 4) → ∀ (J1 : Nat → Nat → Int) (r : Int), md_fy J J1 M → md_inv J1 M → s_few (md_cp J M (a_pm (J (M + 18)) x 1) (J M 32)) (md_sp J M y) 0 (J (M + 22) 0) r → Q (some (.int (m_i r))) (T, m_I J1, P, L, z, w)) : m_call en (d + 9) mMd_ifPile [.ref M, .int (m_i x), .int (m_i y)] (T, m_I J0, P, L, z, w) Q := by
  unfold m_in at hx hy
  have hw := hinv.pl.1
  have hsb1 := hinv.hsb.1
  refine m_into (by decide) (Nat.le_of_ble_eq_true rfl) rfl ?_
  show m_wp en _ mMd_ifPile 0 [some (.ref M), some (.int (m_i (x))), some (.int (m_i (y))), none] [] (T, m_I J0, P, L, z, w) Q
  refine r_aln eMd_ifPile_0 rfl ?_
  refine r_con eMd_ifPile_1 ?_
  refine r_put eMd_ifPile_2 rfl hM.2.1 hM.1 (Or.inl rfl) ?_
  rw [hJ]
  refine r_aln eMd_ifPile_5 rfl ?_
  refine r_iln eMd_ifPile_6 rfl ?_
  refine r_vir eMd_ifPile_7 rfl rfl rfl hM.2.1 rfl rfl ?_
  refine c_Md_isThere hM ⟨by omega, by omega⟩ ⟨by omega, by omega⟩ ?_
  show m_wp en _ mMd_ifPile 10 [some (.ref M), some (.int (m_i (x))), some (.int (m_i (y))), none] [(.int (m_i (if 0 ≤ x ∧ x < J (M + 2) 0 then 1 else 0)))] (T, m_I J, P, L, z, w) Q
  refine r_zeq (tgt := 21) eMd_ifPile_10 rfl ⟨(by omega), (by omega)⟩ (fun c10 => ?_) (fun c10 => ?_)
  · refine r_con eMd_ifPile_21 ?_
    refine r_iret eMd_ifPile_22 rfl ?_
    exact hq0 (by omega)
  · refine r_aln eMd_ifPile_13 rfl ?_
    refine r_iln eMd_ifPile_14 rfl ?_
    refine r_vir eMd_ifPile_15 rfl rfl rfl hM.2.1 rfl rfl ?_
    refine c_Md_isSpot hM ⟨by omega, by omega⟩ ⟨by omega, by omega⟩ ?_
    show m_wp en _ mMd_ifPile 18 [some (.ref M), some (.int (m_i (x))), some (.int (m_i (y))), none] [(.int (m_i (if 0 ≤ y ∧ y < J (M + 2) 4 then 1 else 0)))] (T, m_I J, P, L, z, w) Q
    refine r_zne (tgt := 23) eMd_ifPile_18 rfl ⟨(by omega), (by omega)⟩ (fun c18 => ?_) (fun c18 => ?_)
    · refine r_aln eMd_ifPile_23 rfl ?_
      refine m_getR eMd_ifPile_24 rfl hM.2.1 (md_pile_p hM) ?_
      refine r_iln eMd_ifPile_27 rfl ?_
      refine r_dup2 eMd_ifPile_28 ?_
      refine r_ialde (x := J (M + 18) ((x).toNat)) eMd_ifPile_29 (md_pile_t hM) (by decide) (by omega) (by omega) rfl ?_
      refine r_con eMd_ifPile_30 ?_
      refine r_add eMd_ifPile_31 ?_
      refine r_iast eMd_ifPile_32 (md_pile_t hM) (by decide) (by omega) (by omega) (md_b hM 18) ?_
      have hfp1 : md_fp J ((m_up J (M + 18) ((x).toNat) ((J (M + 18) ((x).toNat)) + (1)))) M := (md_fq_18 J M (by omega) _).fp
      have ep1 : ((m_up J (M + 18) ((x).toNat) ((J (M + 18) ((x).toNat)) + (1)))) (M + 18) = a_pm (J (M + 18)) x 1 := a_pm_up rfl rfl
      have hbb := a_pm_bd hinv.hpi (show 0 ≤ x ∧ x < 16 by omega) (v := 1) (Or.inr rfl)
      have hb1 : ∀ i : Nat, i < 16 → 0 ≤ ((m_up J (M + 18) ((x).toNat) ((J (M + 18) ((x).toNat)) + (1)))) (M + 18) i ∧ ((m_up J (M + 18) ((x).toNat) ((J (M + 18) ((x).toNat)) + (1)))) (M + 18) i ≤ 1000 := fun i hi => by rw [ep1]; have := hbb i hi; omega
      have eh1 : ((m_up J (M + 18) ((x).toNat) ((J (M + 18) ((x).toNat)) + (1)))) M 32 = J M 32 := by rw [m_up_at, if_neg (by omega)]
      have h411 : md_4 ((m_up J (M + 18) ((x).toNat) ((J (M + 18) ((x).toNat)) + (1)))) M := md_4_up (by omega) (by omega) _ hinv.hkp.1.2
      refine r_aln eMd_ifPile_33 rfl ?_
      refine r_vir eMd_ifPile_34 rfl rfl rfl hM.2.1 rfl rfl ?_
      refine g_Md_piles hM hinv hfp1 hb1 h411 ep1 rfl (fun Jb fq kp cf e18 e49 => ?_)
      · have hfpb : md_fp J Jb M := hfp1.trans fq.fp
        have okb : a_ok (md_cf Jb M) := by rw [cf, eh1]; exact md_cp_ok hinv (fun i hi => (hbb i hi).1) hinv.h32
        have e5 : Jb (M + 5) = J (M + 5) := hfpb.r (by omega)
        have e6 : Jb (M + 6) = J (M + 6) := hfpb.r (by omega)
        have e22 : Jb (M + 22) = J (M + 22) := hfpb.r (by omega)
        have esp : ∀ y, md_sp Jb M y = md_sp J M y := fun y => by unfold md_sp; rw [e5, e6]
        show m_wp en _ mMd_ifPile 37 [some (.ref M), some (.int (m_i (x))), some (.int (m_i (y))), none] [] (T, m_I Jb, P, L, z, w) Q
        refine r_aln eMd_ifPile_37 rfl ?_
        refine r_aln eMd_ifPile_38 rfl ?_
        refine r_iln eMd_ifPile_39 rfl ?_
        refine r_vir eMd_ifPile_40 rfl rfl rfl hM.2.1 rfl rfl ?_
        refine c_Md_spotState hM (by omega) ?_
        show m_wp en _ mMd_ifPile 43 [some (.ref M), some (.int (m_i (x))), some (.int (m_i (y))), none] [(.int (m_i (md_sp Jb (M) (y)))), (.ref M)] (T, m_I Jb, P, L, z, w) Q
        refine r_con eMd_ifPile_43 ?_
        refine r_vir eMd_ifPile_44 rfl rfl rfl hM.2.1 rfl rfl ?_
        refine f_Md_fewestTo hM okb (by rw [e22]; exact hinv.hs) (by rw [esp]; exact md_sp_bd hinv.hsb (by omega)) (by omega) kp (fun J2 r hfx2 hkp2 hfw hrb => ?_)
        · rw [cf, eh1, esp, e22] at hfw
          show m_wp en _ mMd_ifPile 47 [some (.ref M), some (.int (m_i (x))), some (.int (m_i (y))), none] [(.int (m_i (r)))] (T, m_I J2, P, L, z, w) Q
          refine r_isn (ls' := [some (.ref M), some (.int (m_i (x))), some (.int (m_i (y))), some (.int (m_i (r)))]) eMd_ifPile_47 (Nat.le_of_ble_eq_true rfl) rfl ?_
          refine r_aln eMd_ifPile_48 rfl ?_
          refine r_vir eMd_ifPile_49 rfl rfl rfl hM.2.1 rfl rfl ?_
          refine c_Md_asItIs hM ((hfpb.trans hfx2.fy.fp).pb hinv) ?_
          show m_wp en _ mMd_ifPile 52 [some (.ref M), some (.int (m_i (x))), some (.int (m_i (y))), some (.int (m_i (r)))] [] (T, m_I ((md_as J2 M)), P, L, z, w) Q
          refine r_iln eMd_ifPile_52 rfl ?_
          refine r_iret eMd_ifPile_53 rfl ?_
          exact hq1 (by omega) _ r ((hfpb.trans hfx2.fy.fp).as hinv) ((hfpb.trans hfx2.fy.fp).asi hinv hkp2.1.2) hfw
    · refine r_con eMd_ifPile_21 ?_
      refine r_iret eMd_ifPile_22 rfl ?_
      exact hq0 (by omega)
theorem c_Md_inOrder {c i : Int} (hq : Q (some (.int (m_i (a_io c i)))) (T, m_I J, P, L, z, w)) : m_call en (d + 1) mMd_inOrder [.int (m_i c), .int (m_i i)] (T, m_I J, P, L, z, w) Q := by
  refine m_into (by decide) (Nat.le_of_ble_eq_true rfl) rfl ?_
  show m_wp en _ mMd_inOrder 0 [some (.int (m_i (c))), some (.int (m_i (i)))] [] (T, m_I J, P, L, z, w) Q
  refine r_iln eMd_inOrder_0 rfl ?_
  refine r_con eMd_inOrder_1 ?_
  refine r_con eMd_inOrder_2 ?_
  refine r_iln eMd_inOrder_3 rfl ?_
  refine r_sub eMd_inOrder_4 ?_
  refine r_mul eMd_inOrder_5 ?_
  refine r_shr eMd_inOrder_6 ?_
  refine r_con eMd_inOrder_7 ?_
  refine r_and eMd_inOrder_8 ?_
  refine r_iret eMd_inOrder_9 rfl ?_
  exact hq
theorem l_Md_isOrder (hM : md_sh en M T P) (hn : 0 ≤ J (M + 2) 11 ∧ J (M + 2) 11 ≤ 3) {c : Int} (hc : 0 ≤ c ∧ c < 64) :
    ∀ (k : Nat) (i been : Int) (o4 o5 : Option Value), i + k = 3 → 0 ≤ i → Q (some (.int (m_i (a_is3 (J (M + 2) 11) c k i been)))) (T, m_I J, P, L, z, w) → m_wp en (d + 1) mMd_isOrder 4 [some (.ref M), some (.int (m_i c)), some (.int (m_i been)), some (.int (m_i i)), o4, o5] [] (T, m_I J, P, L, z, w) Q := by
  intro k
  induction k with
  | zero =>
    intro i been o4 o5 hk h0 hq
    refine r_iln eMd_isOrder_4 rfl ?_
    refine r_con eMd_isOrder_5 ?_
    refine r_cge (tgt := 95) eMd_isOrder_6 rfl ⟨(by omega), (by omega)⟩ ⟨(by omega), (by omega)⟩ (fun c6 => ?_) (fun c6 => ?_)
    · refine r_con eMd_isOrder_95 ?_
      refine r_zret eMd_isOrder_96 rfl (by first | exact Or.inl rfl | exact Or.inr rfl | omega) ?_
      exact hq
    · exfalso; omega
  | succ k ih =>
    intro i been o4 o5 hk h0 hq
    have hj := a_io_b hc (show 0 ≤ i ∧ i < 3 by omega)
    have hbit := m_and_in (m_shr been (a_io c i)) 1
    unfold m_in at hbit
    unfold a_is3 at hq
    refine r_iln eMd_isOrder_4 rfl ?_
    refine r_con eMd_isOrder_5 ?_
    refine r_cge (tgt := 95) eMd_isOrder_6 rfl ⟨(by omega), (by omega)⟩ ⟨(by omega), (by omega)⟩ (fun c6 => ?_) (fun c6 => ?_)
    · exfalso; omega
    · refine r_iln eMd_isOrder_9 rfl ?_
      refine r_iln eMd_isOrder_10 rfl ?_
      refine r_sta eMd_isOrder_11 rfl rfl (by decide) rfl ?_
      refine c_Md_inOrder ?_
      show m_wp en _ mMd_isOrder 14 [some (.ref M), some (.int (m_i (c))), some (.int (m_i (been))), some (.int (m_i (i))), o4, o5] [(.int (m_i (a_io (c) (i))))] (T, m_I J, P, L, z, w) Q
      refine r_is (ls' := [some (.ref M), some (.int (m_i (c))), some (.int (m_i (been))), some (.int (m_i (i))), some (.int (m_i (a_io (c) (i)))), o5]) eMd_isOrder_14 (Nat.le_of_ble_eq_true rfl) rfl ?_
      refine r_iln eMd_isOrder_16 rfl ?_
      refine r_aln eMd_isOrder_17 rfl ?_
      refine m_getR eMd_isOrder_18 rfl hM.2.1 (md_number_p hM) ?_
      refine r_bip eMd_isOrder_21 (by decide) ?_
      refine r_ialde (x := J (M + 2) 11) eMd_isOrder_23 (md_number_t hM) (by decide) (by omega) (by omega) rfl ?_
      refine r_cge (tgt := 31) eMd_isOrder_24 rfl ⟨(by omega), (by omega)⟩ ⟨(by omega), (by omega)⟩ (fun c24 => ?_) (fun c24 => ?_)
      · refine r_con eMd_isOrder_31 ?_
        refine r_is (ls' := [some (.ref M), some (.int (m_i (c))), some (.int (m_i (been))), some (.int (m_i (i))), some (.int (m_i (a_io (c) (i)))), some (.int (m_i (0)))]) eMd_isOrder_32 (Nat.le_of_ble_eq_true rfl) rfl ?_
        refine r_il eMd_isOrder_34 rfl ?_
        refine r_zeq (tgt := 61) eMd_isOrder_36 rfl ⟨(by omega), (by omega)⟩ (fun c36 => ?_) (fun c36 => ?_)
        · refine r_il eMd_isOrder_61 rfl ?_
          refine r_zne (tgt := 73) eMd_isOrder_63 rfl ⟨(by omega), (by omega)⟩ (fun c63 => ?_) (fun c63 => ?_)
          · exfalso; omega
          · refine r_il eMd_isOrder_66 rfl ?_
            refine r_zle (tgt := 73) eMd_isOrder_68 rfl ⟨(by omega), (by omega)⟩ (fun c68 => ?_) (fun c68 => ?_)
            · refine r_iln eMd_isOrder_73 rfl ?_
              refine r_il eMd_isOrder_74 rfl ?_
              refine r_zeq (tgt := 86) eMd_isOrder_76 rfl ⟨(by omega), (by omega)⟩ (fun c76 => ?_) (fun c76 => ?_)
              · refine r_con eMd_isOrder_86 ?_
                refine r_or eMd_isOrder_87 ?_
                refine r_isn (ls' := [some (.ref M), some (.int (m_i (c))), some (.int (m_i (m_or (been) (0)))), some (.int (m_i (i))), some (.int (m_i (a_io (c) (i)))), some (.int (m_i (0)))]) eMd_isOrder_88 (Nat.le_of_ble_eq_true rfl) rfl ?_
                refine r_inc (ls' := [some (.ref M), some (.int (m_i (c))), some (.int (m_i (m_or (been) (0)))), some (.int (m_i (i + 1))), some (.int (m_i (a_io (c) (i)))), some (.int (m_i (0)))]) eMd_isOrder_89 rfl rfl ?_
                refine r_go (tgt := 4) eMd_isOrder_92 rfl ?_
                first | (rw [if_pos (by omega), if_neg (by omega)] at hq; exact ih _ _ _ _ (by omega) (by omega) hq) | (rw [if_neg (by omega), if_neg (by omega)] at hq; exact ih _ _ _ _ (by omega) (by omega) hq) | (exfalso; omega)
              · exfalso; omega
            · refine r_con eMd_isOrder_71 ?_
              refine r_zret eMd_isOrder_72 rfl (by first | exact Or.inl rfl | exact Or.inr rfl | omega) ?_
              first | (rw [if_pos (by omega), if_pos (by omega)] at hq; exact hq) | (rw [if_neg (by omega), if_pos (by omega)] at hq; exact hq) | (exfalso; omega)
        · exfalso; omega
      · refine r_con eMd_isOrder_27 ?_
        refine r_go (tgt := 32) eMd_isOrder_28 rfl ?_
        refine r_is (ls' := [some (.ref M), some (.int (m_i (c))), some (.int (m_i (been))), some (.int (m_i (i))), some (.int (m_i (a_io (c) (i)))), some (.int (m_i (1)))]) eMd_isOrder_32 (Nat.le_of_ble_eq_true rfl) rfl ?_
        refine r_il eMd_isOrder_34 rfl ?_
        refine r_zeq (tgt := 61) eMd_isOrder_36 rfl ⟨(by omega), (by omega)⟩ (fun c36 => ?_) (fun c36 => ?_)
        · exfalso; omega
        · refine r_il eMd_isOrder_39 rfl ?_
          refine r_aln eMd_isOrder_41 rfl ?_
          refine m_getR eMd_isOrder_42 rfl hM.2.1 (md_number_p hM) ?_
          refine r_bip eMd_isOrder_45 (by decide) ?_
          refine r_ialde (x := J (M + 2) 11) eMd_isOrder_47 (md_number_t hM) (by decide) (by omega) (by omega) rfl ?_
          refine r_cge (tgt := 71) eMd_isOrder_48 rfl ⟨(by omega), (by omega)⟩ ⟨(by omega), (by omega)⟩ (fun c48 => ?_) (fun c48 => ?_)
          · refine r_con eMd_isOrder_71 ?_
            refine r_zret eMd_isOrder_72 rfl (by first | exact Or.inl rfl | exact Or.inr rfl | omega) ?_
            first | (rw [if_pos (by omega), if_pos (by omega)] at hq; exact hq) | (rw [if_neg (by omega), if_pos (by omega)] at hq; exact hq) | (exfalso; omega)
          · refine r_iln eMd_isOrder_51 rfl ?_
            refine r_il eMd_isOrder_52 rfl ?_
            refine r_shr eMd_isOrder_54 ?_
            refine r_con eMd_isOrder_55 ?_
            refine r_and eMd_isOrder_56 ?_
            refine r_con eMd_isOrder_57 ?_
            refine r_ceq (tgt := 71) eMd_isOrder_58 rfl ⟨(by omega), (by omega)⟩ ⟨(by omega), (by omega)⟩ (fun c58 => ?_) (fun c58 => ?_)
            · refine r_con eMd_isOrder_71 ?_
              refine r_zret eMd_isOrder_72 rfl (by first | exact Or.inl rfl | exact Or.inr rfl | omega) ?_
              first | (rw [if_pos (by omega), if_pos (by omega)] at hq; exact hq) | (rw [if_neg (by omega), if_pos (by omega)] at hq; exact hq) | (exfalso; omega)
            · refine r_il eMd_isOrder_61 rfl ?_
              refine r_zne (tgt := 73) eMd_isOrder_63 rfl ⟨(by omega), (by omega)⟩ (fun c63 => ?_) (fun c63 => ?_)
              · refine r_iln eMd_isOrder_73 rfl ?_
                refine r_il eMd_isOrder_74 rfl ?_
                refine r_zeq (tgt := 86) eMd_isOrder_76 rfl ⟨(by omega), (by omega)⟩ (fun c76 => ?_) (fun c76 => ?_)
                · exfalso; omega
                · refine r_con eMd_isOrder_79 ?_
                  refine r_il eMd_isOrder_80 rfl ?_
                  refine r_shl eMd_isOrder_82 ?_
                  refine r_go (tgt := 87) eMd_isOrder_83 rfl ?_
                  refine r_or eMd_isOrder_87 ?_
                  refine r_isn (ls' := [some (.ref M), some (.int (m_i (c))), some (.int (m_i (m_or (been) (m_shl (1) (a_io (c) (i)))))), some (.int (m_i (i))), some (.int (m_i (a_io (c) (i)))), some (.int (m_i (1)))]) eMd_isOrder_88 (Nat.le_of_ble_eq_true rfl) rfl ?_
                  refine r_inc (ls' := [some (.ref M), some (.int (m_i (c))), some (.int (m_i (m_or (been) (m_shl (1) (a_io (c) (i)))))), some (.int (m_i (i + 1))), some (.int (m_i (a_io (c) (i)))), some (.int (m_i (1)))]) eMd_isOrder_89 rfl rfl ?_
                  refine r_go (tgt := 4) eMd_isOrder_92 rfl ?_
                  first | (rw [if_pos (by omega), if_neg (by omega)] at hq; exact ih _ _ _ _ (by omega) (by omega) hq) | (rw [if_neg (by omega), if_neg (by omega)] at hq; exact ih _ _ _ _ (by omega) (by omega) hq) | (exfalso; omega)
              · exfalso; omega
theorem c_Md_isOrder (hM : md_sh en M T P) (hn : 0 ≤ J (M + 2) 11 ∧ J (M + 2) 11 ≤ 3) {c : Int} (hc : 0 ≤ c ∧ c < 64) (hq : Q (some (.int (m_i (a_is3 (J (M + 2) 11) c 3 0 0)))) (T, m_I J, P, L, z, w)) : m_call en (d + 2) mMd_isOrder [.ref M, .int (m_i c)] (T, m_I J, P, L, z, w) Q := by
  refine m_into (by decide) (Nat.le_of_ble_eq_true rfl) rfl ?_
  show m_wp en _ mMd_isOrder 0 [some (.ref M), some (.int (m_i (c))), none, none, none, none] [] (T, m_I J, P, L, z, w) Q
  refine r_con eMd_isOrder_0 ?_
  refine r_isn (ls' := [some (.ref M), some (.int (m_i (c))), some (.int (m_i (0))), none, none, none]) eMd_isOrder_1 (Nat.le_of_ble_eq_true rfl) rfl ?_
  refine r_con eMd_isOrder_2 ?_
  refine r_isn (ls' := [some (.ref M), some (.int (m_i (c))), some (.int (m_i (0))), some (.int (m_i (0))), none, none]) eMd_isOrder_3 (Nat.le_of_ble_eq_true rfl) rfl ?_
  exact l_Md_isOrder hM hn hc 3 0 0 none none (by omega) (by omega) hq
end MDJB
/-- the steps of an order of jobs, as far as they are fewer than the best -/
def s_sby (J : Nat → Nat → Int) (M : Nat) (c best : Int) : Nat → Int → (Nat → Int) → Int → Int → Int → Prop
  | 0, _, _, _, sum, r => r = sum
  | k + 1, i, p, st, sum, r => ∃ its p2 ct, s_car J M p st (J (M + 14) (a_io c i).toNat) (J (M + 15) (a_io c i).toNat) its p2 ct ∧ ((its = -2 ∧ r = -2) ∨ (its ≠ -2 ∧ (((best ≠ -2 ∧ best < sum + its) ∧ r = -2) ∨ (¬ (best ≠ -2 ∧ best < sum + its) ∧ s_sby J M c best k (i + 1) p2 ct (sum + its) r))))
theorem s_car_p2 {J : Nat → Nat → Int} {M : Nat} {p p2 : Nat → Int} {st fr to r ct : Int} (h : s_car J M p st fr to r p2 ct) (hr : r ≠ -2) : p fr.toNat ≠ 0 ∧ p2 = a_pm (a_pm p fr (-1)) to 1 := by
  rcases h with ⟨_, h⟩ | ⟨h0, r1, _, h⟩
  · exact absurd h hr
  · refine ⟨by omega, ?_⟩
    rcases h with ⟨_, h⟩ | ⟨_, h⟩
    · exact absurd h hr
    · rcases h with ⟨_, h⟩ | ⟨_, r2, _, h⟩
      · exact absurd h hr
      · rcases h with ⟨_, h⟩ | ⟨_, _, h, _⟩
        · exact absurd h hr
        · exact h
theorem s_car_r {J : Nat → Nat → Int} {M : Nat} {p p2 : Nat → Int} {st fr to r ct : Int} (h : s_car J M p st fr to r p2 ct) (hb : -2 ≤ r) : r = -2 ∨ 0 ≤ r := by
  have hst : ∀ {C : a_C} {a g r : Int}, s_std C a g r → r = -2 ∨ 0 ≤ r := fun h => by
    rcases h with ⟨_, h⟩ | ⟨_, h⟩
    · exact Or.inl h
    · rcases h with ⟨_, h⟩ | ⟨_, _, h⟩ | ⟨_, _, h⟩
      · exact Or.inl h
      · exact Or.inr (by omega)
      · exact s_ans_v h
  rcases h with ⟨_, h⟩ | ⟨h0, r1, g1, h⟩
  · exact Or.inl h
  · rcases h with ⟨_, h⟩ | ⟨k1, h⟩
    · exact Or.inl h
    · rcases h with ⟨_, h⟩ | ⟨_, r2, g2, h⟩
      · exact Or.inl h
      · rcases h with ⟨_, h⟩ | ⟨k2, h, _⟩
        · exact Or.inl h
        · have a1 := hst g1
          have a2 := hst g2
          omega
section MDJC
variable {en : Nat → Nat} {d : Nat} {T : Nat → Option (Nat × Nat)} {J J0 J1 : Nat → Nat → Int} {P : Nat → Nat → Option Nat} {L : Nat → Nat → Int64} {z w M : Nat} {Q : m_Q} {σ : a_S}
theorem l_Md_stepsBy (hM : md_sh en M T P) (hinv : md_inv J M) {c best : Int} (hc : 0 ≤ c ∧ c < 64) (hbest : -2 ≤ best ∧ best ≤ 1000000) {ord : Nat → Int} :
    ∀ (k : Nat) (i sum st : Int) (p : Nat → Int) (J1 : Nat → Nat → Int) (o5 o6 : Option Value), i + k = J (M + 2) 11 → 0 ≤ i → md_fp J J1 M → md_4 J1 M → J1 (M + 18) = p → (∀ a : Nat, a < 16 → 0 ≤ p a ∧ p a ≤ 10 + 2 * i) → 0 ≤ st ∧ st < 38880 → (0 ≤ sum ∧ sum ≤ 60000 * i) → J1 M 51 = best → J1 (M + 26) = ord →
      (∀ (J2 : Nat → Nat → Int) (r : Int), md_fp J J2 M → md_4 J2 M → J2 M 51 = best → J2 (M + 26) = ord → s_sby J M c best k i p st sum r → (-2 ≤ r ∧ r ≤ 180000) → Q (some (.int (m_i r))) (T, m_I J2, P, L, z, w)) →
      m_wp en (d + 9) mMd_stepsBy 16 [some (.ref M), some (.int (m_i c)), some (.int (m_i sum)), some (.int (m_i st)), some (.int (m_i i)), o5, o6] [] (T, m_I J1, P, L, z, w) Q := by
  have hn := hinv.pl.2.2.2.2.2.2.2.2.1
  intro k
  induction k with
  | zero =>
    intro i sum st p J1 o5 o6 hk h0 hfp h41 ep hpb hst hsum h51 h26 hq
    have e2 : J1 (M + 2) = J (M + 2) := hfp.r (by omega)
    have e11 : J1 (M + 2) 11 = J (M + 2) 11 := by rw [e2]
    refine r_il eMd_stepsBy_16 rfl ?_
    refine r_aln eMd_stepsBy_18 rfl ?_
    refine m_getR eMd_stepsBy_19 rfl hM.2.1 (md_number_p hM) ?_
    refine r_bip eMd_stepsBy_22 (by decide) ?_
    refine r_ialde (x := J1 (M + 2) 11) eMd_stepsBy_24 (md_number_t hM) (by decide) (by omega) (by omega) rfl ?_
    refine r_cge (tgt := 103) eMd_stepsBy_25 rfl ⟨(by omega), (by omega)⟩ ⟨(by omega), (by omega)⟩ (fun c25 => ?_) (fun c25 => ?_)
    · refine r_iln eMd_stepsBy_103 rfl ?_
      refine r_iret eMd_stepsBy_104 rfl ?_
      exact hq J1 sum hfp h41 h51 h26 rfl (by omega)
    · exfalso; omega
  | succ k ih =>
    intro i sum st p J1 o5 o6 hk h0 hfp h41 ep hpb hst hsum h51 h26 hq
    have e2 : J1 (M + 2) = J (M + 2) := hfp.r (by omega)
    have e11 : J1 (M + 2) 11 = J (M + 2) 11 := by rw [e2]
    have e14 : J1 (M + 14) = J (M + 14) := hfp.r (by omega)
    have e15 : J1 (M + 15) = J (M + 15) := hfp.r (by omega)
    have hj := a_io_b hc (show 0 ≤ i ∧ i < 3 by omega)
    have hjj := hinv.hjb (a_io c i).toNat (by omega)
    have hjf : 0 ≤ J1 (M + 14) (a_io c i).toNat ∧ J1 (M + 14) (a_io c i).toNat < 16 := by rw [e14]; exact hjj.1
    have hjt : 0 ≤ J1 (M + 15) (a_io c i).toNat ∧ J1 (M + 15) (a_io c i).toNat < 16 := by rw [e15]; exact hjj.2
    refine r_il eMd_stepsBy_16 rfl ?_
    refine r_aln eMd_stepsBy_18 rfl ?_
    refine m_getR eMd_stepsBy_19 rfl hM.2.1 (md_number_p hM) ?_
    refine r_bip eMd_stepsBy_22 (by decide) ?_
    refine r_ialde (x := J1 (M + 2) 11) eMd_stepsBy_24 (md_number_t hM) (by decide) (by omega) (by omega) rfl ?_
    refine r_cge (tgt := 103) eMd_stepsBy_25 rfl ⟨(by omega), (by omega)⟩ ⟨(by omega), (by omega)⟩ (fun c25 => ?_) (fun c25 => ?_)
    · exfalso; omega
    · refine r_iln eMd_stepsBy_28 rfl ?_
      refine r_il eMd_stepsBy_29 rfl ?_
      refine r_sta eMd_stepsBy_31 rfl rfl (by decide) rfl ?_
      refine c_Md_inOrder ?_
      show m_wp en _ mMd_stepsBy 34 [some (.ref M), some (.int (m_i (c))), some (.int (m_i (sum))), some (.int (m_i (st))), some (.int (m_i (i))), o5, o6] [(.int (m_i (a_io (c) (i))))] (T, m_I J1, P, L, z, w) Q
      refine r_is (ls' := [some (.ref M), some (.int (m_i (c))), some (.int (m_i (sum))), some (.int (m_i (st))), some (.int (m_i (i))), some (.int (m_i (a_io (c) (i)))), o6]) eMd_stepsBy_34 (Nat.le_of_ble_eq_true rfl) rfl ?_
      refine r_aln eMd_stepsBy_36 rfl ?_
      refine r_iln eMd_stepsBy_37 rfl ?_
      refine r_aln eMd_stepsBy_38 rfl ?_
      refine m_getR eMd_stepsBy_39 rfl hM.2.1 (md_jobFrom_p hM) ?_
      refine r_il eMd_stepsBy_42 rfl ?_
      refine r_ialde (x := J1 (M + 14) ((a_io (c) (i)).toNat)) eMd_stepsBy_44 (md_jobFrom_t hM) (by decide) (by omega) (by omega) rfl ?_
      refine r_aln eMd_stepsBy_45 rfl ?_
      refine m_getR eMd_stepsBy_46 rfl hM.2.1 (md_jobTo_p hM) ?_
      refine r_il eMd_stepsBy_49 rfl ?_
      refine r_ialde (x := J1 (M + 15) ((a_io (c) (i)).toNat)) eMd_stepsBy_51 (md_jobTo_t hM) (by decide) (by omega) (by omega) rfl ?_
      refine r_vir eMd_stepsBy_52 rfl rfl rfl hM.2.1 rfl rfl ?_
      refine c_Md_carries hM hinv hfp h41 ep (fun a b => by have := hpb a b; omega) hst hjf hjt (fun J2 r p2 ct fq h42 hcar hrb hz => ?_)
      · have e51 : J2 M 51 = best := (fq M 51 (by omega) (by omega) (by omega) (by omega) (by omega)).trans h51
        have e26 : J2 (M + 26) = ord := (funext (fun a => fq _ _ (by omega) (by omega) (by omega) (by omega) (by omega))).trans h26
        have hfp2 : md_fp J J2 M := hfp.trans fq.fp
        have e211 : J2 (M + 2) = J (M + 2) := hfp2.r (by omega)
        have hr0 := s_car_r hcar hrb.1
        show m_wp en _ mMd_stepsBy 55 [some (.ref M), some (.int (m_i (c))), some (.int (m_i (sum))), some (.int (m_i (st))), some (.int (m_i (i))), some (.int (m_i (a_io (c) (i)))), o6] [(.int (m_i (r)))] (T, m_I J2, P, L, z, w) Q
        rw [e14, e15] at hcar
        refine r_is (ls' := [some (.ref M), some (.int (m_i (c))), some (.int (m_i (sum))), some (.int (m_i (st))), some (.int (m_i (i))), some (.int (m_i (a_io (c) (i)))), some (.int (m_i (r)))]) eMd_stepsBy_55 (Nat.le_of_ble_eq_true rfl) rfl ?_
        refine r_il eMd_stepsBy_57 rfl ?_
        refine r_bip eMd_stepsBy_59 (by decide) ?_
        refine r_cne (tgt := 67) eMd_stepsBy_61 rfl ⟨(by omega), (by omega)⟩ ⟨(by omega), (by omega)⟩ (fun c61 => ?_) (fun c61 => ?_)
        · have hz2 := hz (by omega)
          refine r_iln eMd_stepsBy_67 rfl ?_
          refine r_il eMd_stepsBy_68 rfl ?_
          refine r_add eMd_stepsBy_70 ?_
          refine r_isn (ls' := [some (.ref M), some (.int (m_i (c))), some (.int (m_i ((sum) + (r)))), some (.int (m_i (st))), some (.int (m_i (i))), some (.int (m_i (a_io (c) (i)))), some (.int (m_i (r)))]) eMd_stepsBy_71 (Nat.le_of_ble_eq_true rfl) rfl ?_
          refine r_aln eMd_stepsBy_72 rfl ?_
          refine r_gete (x := J2 M 49) eMd_stepsBy_73 rfl (by decide) hM.2.1 rfl ?_
          rw [hz2.2.1]
          refine r_isn (ls' := [some (.ref M), some (.int (m_i (c))), some (.int (m_i ((sum) + (r)))), some (.int (m_i (ct))), some (.int (m_i (i))), some (.int (m_i (a_io (c) (i)))), some (.int (m_i (r)))]) eMd_stepsBy_76 (Nat.le_of_ble_eq_true rfl) rfl ?_
          refine r_aln eMd_stepsBy_77 rfl ?_
          refine r_gete (x := J2 M 51) eMd_stepsBy_78 rfl (by decide) hM.2.1 rfl ?_
          rw [e51]
          refine r_bip eMd_stepsBy_81 (by decide) ?_
          refine r_ceq (tgt := 97) eMd_stepsBy_83 rfl ⟨(by omega), (by omega)⟩ ⟨(by omega), (by omega)⟩ (fun c83 => ?_) (fun c83 => ?_)
          · refine r_inc (ls' := [some (.ref M), some (.int (m_i (c))), some (.int (m_i ((sum) + (r)))), some (.int (m_i (ct))), some (.int (m_i (i + 1))), some (.int (m_i (a_io (c) (i)))), some (.int (m_i (r)))]) eMd_stepsBy_97 rfl rfl ?_
            refine r_go (tgt := 16) eMd_stepsBy_100 rfl ?_
            have hpp := s_car_p2 hcar (by omega)
            have hb2 : ∀ a : Nat, a < 16 → 0 ≤ p2 a ∧ p2 a ≤ 10 + 2 * (i + 1) := fun a ha => by rw [hpp.2]; have := a_pm_bd (a_pm_bd hpb hjj.1 (v := -1) (Or.inl ⟨rfl, hpp.1⟩)) hjj.2 (v := 1) (Or.inr rfl) a ha; omega
            exact ih (i + 1) (sum + r) ct p2 J2 _ _ (by omega) (by omega) hfp2 h42 hz2.1 hb2 hz2.2.2 (by omega) e51 e26 (fun J3 r3 b1 b2 b3 b4 b5 b6 => hq J3 r3 b1 b2 b3 b4 ⟨r, p2, ct, hcar, Or.inr ⟨by omega, Or.inr ⟨by omega, b5⟩⟩⟩ b6)
          · refine r_iln eMd_stepsBy_86 rfl ?_
            refine r_aln eMd_stepsBy_87 rfl ?_
            refine r_gete (x := J2 M 51) eMd_stepsBy_88 rfl (by decide) hM.2.1 rfl ?_
            rw [e51]
            refine r_cle (tgt := 97) eMd_stepsBy_91 rfl ⟨(by omega), (by omega)⟩ ⟨(by omega), (by omega)⟩ (fun c91 => ?_) (fun c91 => ?_)
            · refine r_inc (ls' := [some (.ref M), some (.int (m_i (c))), some (.int (m_i ((sum) + (r)))), some (.int (m_i (ct))), some (.int (m_i (i + 1))), some (.int (m_i (a_io (c) (i)))), some (.int (m_i (r)))]) eMd_stepsBy_97 rfl rfl ?_
              refine r_go (tgt := 16) eMd_stepsBy_100 rfl ?_
              have hpp := s_car_p2 hcar (by omega)
              have hb2 : ∀ a : Nat, a < 16 → 0 ≤ p2 a ∧ p2 a ≤ 10 + 2 * (i + 1) := fun a ha => by rw [hpp.2]; have := a_pm_bd (a_pm_bd hpb hjj.1 (v := -1) (Or.inl ⟨rfl, hpp.1⟩)) hjj.2 (v := 1) (Or.inr rfl) a ha; omega
              exact ih (i + 1) (sum + r) ct p2 J2 _ _ (by omega) (by omega) hfp2 h42 hz2.1 hb2 hz2.2.2 (by omega) e51 e26 (fun J3 r3 b1 b2 b3 b4 b5 b6 => hq J3 r3 b1 b2 b3 b4 ⟨r, p2, ct, hcar, Or.inr ⟨by omega, Or.inr ⟨by omega, b5⟩⟩⟩ b6)
            · refine r_bip eMd_stepsBy_94 (by decide) ?_
              refine r_iret eMd_stepsBy_96 rfl ?_
              exact hq J2 _ hfp2 h42 e51 e26 ⟨r, p2, ct, hcar, Or.inr ⟨by omega, Or.inl ⟨by omega, rfl⟩⟩⟩ (by omega)
        · refine r_bip eMd_stepsBy_64 (by decide) ?_
          refine r_iret eMd_stepsBy_66 rfl ?_
          exact hq J2 _ hfp2 h42 e51 e26 ⟨r, p2, ct, hcar, Or.inl ⟨by omega, rfl⟩⟩ (by omega)
theorem c_Md_stepsBy (hM : md_sh en M T P) (hinv : md_inv J M) (hfp : md_fp J J1 M) (h41 : md_4 J1 M) {c best : Int} (hc : 0 ≤ c ∧ c < 64) (hbest : -2 ≤ best ∧ best ≤ 1000000) {ord : Nat → Int} (h51 : J1 M 51 = best) (h26 : J1 (M + 26) = ord)
    (hq : ∀ (J2 : Nat → Nat → Int) (r : Int), md_fp J J2 M → md_4 J2 M → J2 M 51 = best → J2 (M + 26) = ord → s_sby J M c best (J (M + 2) 11).toNat 0 (J (M + 18)) (J (M + 22) 0) 0 r → (-2 ≤ r ∧ r ≤ 180000) → Q (some (.int (m_i r))) (T, m_I J2, P, L, z, w)) : m_call en (d + 10) mMd_stepsBy [.ref M, .int (m_i c)] (T, m_I J1, P, L, z, w) Q := by
  have hn := hinv.pl.2.2.2.2.2.2.2.2.1
  have e22 : J1 (M + 22) 0 = J (M + 22) 0 := congrFun (hfp.r (k := 22) (by omega)) 0
  refine m_into (by decide) (Nat.le_of_ble_eq_true rfl) rfl ?_
  show m_wp en _ mMd_stepsBy 0 [some (.ref M), some (.int (m_i (c))), none, none, none, none, none] [] (T, m_I J1, P, L, z, w) Q
  refine r_con eMd_stepsBy_0 ?_
  refine r_isn (ls' := [some (.ref M), some (.int (m_i (c))), some (.int (m_i (0))), none, none, none, none]) eMd_stepsBy_1 (Nat.le_of_ble_eq_true rfl) rfl ?_
  refine r_aln eMd_stepsBy_2 rfl ?_
  refine m_getR eMd_stepsBy_3 rfl hM.2.1 (md_s_p hM) ?_
  refine r_con eMd_stepsBy_6 ?_
  refine r_ialde (x := J1 (M + 22) 0) eMd_stepsBy_7 (md_s_t hM) (by decide) (by omega) (by omega) rfl ?_
  rw [e22]
  refine r_isn (ls' := [some (.ref M), some (.int (m_i (c))), some (.int (m_i (0))), some (.int (m_i (J (M + 22) 0))), none, none, none]) eMd_stepsBy_8 (Nat.le_of_ble_eq_true rfl) rfl ?_
  refine r_aln eMd_stepsBy_9 rfl ?_
  refine r_vir eMd_stepsBy_10 rfl rfl rfl hM.2.1 rfl rfl ?_
  refine c_Md_asItIs hM (hfp.pb hinv) ?_
  show m_wp en _ mMd_stepsBy 13 [some (.ref M), some (.int (m_i (c))), some (.int (m_i (0))), some (.int (m_i (J (M + 22) 0))), none, none, none] [] (T, m_I ((md_as J1 M)), P, L, z, w) Q
  refine r_con eMd_stepsBy_13 ?_
  refine r_is (ls' := [some (.ref M), some (.int (m_i (c))), some (.int (m_i (0))), some (.int (m_i (J (M + 22) 0))), some (.int (m_i (0))), none, none]) eMd_stepsBy_14 (Nat.le_of_ble_eq_true rfl) rfl ?_
  exact l_Md_stepsBy hM hinv hc hbest (J (M + 2) 11).toNat 0 0 (J (M + 22) 0) (J (M + 18)) (md_as J1 M) none none (by omega) (by omega) (hfp.as hinv).fp (md_4_as h41) ((hfp.as hinv).r (by omega)) (fun a ha => by have := hinv.hpi a ha; omega) hinv.hs (by omega) (by rw [md_as_M J1 M (by omega) (by omega)]; exact h51) ((funext (fun a => md_as_o J1 M (by omega) (by omega) (by omega))).trans h26) hq
end MDJC
/-- the best order among the first codes: its steps, its code -/
def s_lj (J : Nat → Nat → Int) (M : Nat) : Nat → Int → Int → Prop
  | 0, b, _ => b = -2
  | k + 1, b, c => ∃ b0 c0, s_lj J M k b0 c0 ∧ ((a_is3 (J (M + 2) 11) (k : Int) 3 0 0 = 0 ∧ b = b0 ∧ c = c0) ∨ (a_is3 (J (M + 2) 11) (k : Int) 3 0 0 ≠ 0 ∧ ∃ r, s_sby J M (k : Int) b0 (J (M + 2) 11).toNat 0 (J (M + 18)) (J (M + 22) 0) 0 r ∧ (((r = -2 ∨ (b0 ≠ -2 ∧ b0 ≤ r)) ∧ b = b0 ∧ c = c0) ∨ (¬ (r = -2 ∨ (b0 ≠ -2 ∧ b0 ≤ r)) ∧ b = r ∧ c = (k : Int)))))
section MDJD
variable {en : Nat → Nat} {d : Nat} {T : Nat → Option (Nat × Nat)} {J J0 J1 : Nat → Nat → Int} {P : Nat → Nat → Option Nat} {L : Nat → Nat → Int64} {z w M : Nat} {Q : m_Q} {σ : a_S}
theorem l_Md_lj2 (hM : md_sh en M T P) {c its : Int}
    (hq : m_wp en (d + 1) mMd_laysJobs 86 [some (.ref M), some (.int (m_i c)), some (.int (m_i its)), some (.int (m_i 3))] [] (T, m_I (m_fl J1 (M + 26) 0 (fun i => a_io c i) 3), P, L, z, w) Q) :
    ∀ (n : Nat) (k : Int), k + n = 3 → 0 ≤ k → m_wp en (d + 1) mMd_laysJobs 64 [some (.ref M), some (.int (m_i c)), some (.int (m_i its)), some (.int (m_i k))] [] (T, m_I (m_fl J1 (M + 26) 0 (fun i => a_io c i) k), P, L, z, w) Q := by
  intro n
  induction n with
  | zero =>
    intro k hk h0
    obtain rfl : k = 3 := by omega
    refine r_iln eMd_laysJobs_64 rfl ?_
    refine r_con eMd_laysJobs_65 ?_
    refine r_cge (tgt := 86) eMd_laysJobs_66 rfl ⟨(by omega), (by omega)⟩ ⟨(by omega), (by omega)⟩ (fun c66 => ?_) (fun c66 => ?_)
    · exact hq
    · exfalso; omega
  | succ n ih =>
    intro k hk h0
    refine r_iln eMd_laysJobs_64 rfl ?_
    refine r_con eMd_laysJobs_65 ?_
    refine r_cge (tgt := 86) eMd_laysJobs_66 rfl ⟨(by omega), (by omega)⟩ ⟨(by omega), (by omega)⟩ (fun c66 => ?_) (fun c66 => ?_)
    · exfalso; omega
    · refine r_aln eMd_laysJobs_69 rfl ?_
      refine m_getR eMd_laysJobs_70 rfl hM.2.1 (md_jobOrder_p hM) ?_
      refine r_iln eMd_laysJobs_73 rfl ?_
      refine r_iln eMd_laysJobs_74 rfl ?_
      refine r_iln eMd_laysJobs_75 rfl ?_
      refine r_sta eMd_laysJobs_76 rfl rfl (by decide) rfl ?_
      refine c_Md_inOrder ?_
      show m_wp en _ mMd_laysJobs 79 [some (.ref M), some (.int (m_i (c))), some (.int (m_i (its))), some (.int (m_i (k)))] [(.int (m_i (a_io (c) (k)))), (.int (m_i (k))), (.ref (M + 26))] (T, m_I ((m_fl J1 (M + 26) 0 (fun i => a_io c i) k)), P, L, z, w) Q
      refine r_iast eMd_laysJobs_79 (md_jobOrder_t hM) (by decide) (by omega) (by omega) (md_b hM 26) ?_
      refine r_inc (ls' := [some (.ref M), some (.int (m_i (c))), some (.int (m_i (its))), some (.int (m_i (k + 1)))]) eMd_laysJobs_80 rfl rfl ?_
      refine r_go (tgt := 64) eMd_laysJobs_83 rfl ?_
      refine Eq.mp ?_ (ih (k + 1) (by omega) (by omega))
      rw [m_fl_s h0 (by omega) (by rw [show ((k.toNat : Nat) : Int) = k by omega])]
theorem l_Md_laysJobs (hM : md_sh en M T P) (hinv : md_inv J M) (hq : ∀ (J2 : Nat → Nat → Int) (best bc : Int), md_fy J J2 M → md_inv J2 M → J2 M 51 = best → (best ≠ -2 → ∀ i : Nat, i < 3 → J2 (M + 26) i = a_io bc (i : Int)) → s_lj J M 64 best bc → (-2 ≤ best ∧ best ≤ 180000) → Q none (T, m_I J2, P, L, z, w)) :
    ∀ (m c : Nat) (best bc : Int) (J1 : Nat → Nat → Int) (o2 o3 : Option Value), c + m = 64 → md_fp J J1 M → md_4 J1 M → J1 M 51 = best → (best ≠ -2 → ∀ i : Nat, i < 3 → J1 (M + 26) i = a_io bc (i : Int)) → s_lj J M c best bc → (-2 ≤ best ∧ best ≤ 180000) →
      m_wp en (d + 10) mMd_laysJobs 8 [some (.ref M), some (.int (m_i (c : Int))), o2, o3] [] (T, m_I J1, P, L, z, w) Q := by
  have hn := hinv.pl.2.2.2.2.2.2.2.2.1
  intro m
  induction m with
  | zero =>
    intro c best bc J1 o2 o3 hk hfp h41 h51 h26 hlj hbb
    obtain rfl : c = 64 := by omega
    refine r_iln eMd_laysJobs_8 rfl ?_
    refine r_bip eMd_laysJobs_9 (by decide) ?_
    refine r_cge (tgt := 92) eMd_laysJobs_11 rfl ⟨(by omega), (by omega)⟩ ⟨(by omega), (by omega)⟩ (fun c11 => ?_) (fun c11 => ?_)
    · refine r_aln eMd_laysJobs_92 rfl ?_
      refine r_vir eMd_laysJobs_93 rfl rfl rfl hM.2.1 rfl rfl ?_
      refine c_Md_asItIs hM (hfp.pb hinv) ?_
      show m_wp en _ mMd_laysJobs 96 [some (.ref M), some (.int (m_i (((64 : Nat) : Int)))), o2, o3] [] (T, m_I ((md_as J1 M)), P, L, z, w) Q
      refine r_ret eMd_laysJobs_96 rfl ?_
      refine hq (md_as J1 M) best bc (hfp.as hinv) (hfp.asi hinv h41) (by rw [md_as_M J1 M (by omega) (by omega)]; exact h51) (fun q i hi => ?_) hlj hbb
      rw [md_as_o J1 M (by omega) (by omega) (by omega)]
      exact h26 q i hi
    · exfalso; omega
  | succ m ih =>
    intro c best bc J1 o2 o3 hk hfp h41 h51 h26 hlj hbb
    have e2 : J1 (M + 2) = J (M + 2) := hfp.r (by omega)
    have h01 := a_is3_01 (J1 (M + 2) 11) (c : Int) 3 0 0
    have new : ∀ (J2 : Nat → Nat → Int) (r : Int), md_fp J J2 M → md_4 J2 M → a_is3 (J1 (M + 2) 11) (c : Int) 3 0 0 ≠ 0 → s_sby J M (c : Int) best (J (M + 2) 11).toNat 0 (J (M + 18)) (J (M + 22) 0) 0 r → (-2 ≤ r ∧ r ≤ 180000) → ¬ (r = -2 ∨ (best ≠ -2 ∧ best ≤ r)) → m_wp en (d + 10) mMd_laysJobs 64 [some (.ref M), some (.int (m_i (c : Int))), some (.int (m_i r)), some (.int (m_i 0))] [] (T, m_I (m_up J2 M 51 r), P, L, z, w) Q := fun J2 r g1 g2 g3 g5 g6 g7 => by
      have h0 : m_wp en (d + 9 + 1) mMd_laysJobs 86 [some (.ref M), some (.int (m_i (c : Int))), some (.int (m_i r)), some (.int (m_i 3))] [] (T, m_I (m_fl (m_up J2 M 51 r) (M + 26) 0 (fun i => a_io (c : Int) i) 3), P, L, z, w) Q := by
        refine r_inc (ls' := [some (.ref M), some (.int (m_i ((c : Int) + 1))), some (.int (m_i (r))), some (.int (m_i (3)))]) eMd_laysJobs_86 rfl rfl ?_
        refine r_go (tgt := 8) eMd_laysJobs_89 rfl ?_
        refine ih (c + 1) r (c : Int) _ _ _ (by omega) ?_ ?_ ?_ (fun _ i hi => m_fl_i (by omega)) ⟨best, bc, hlj, Or.inr ⟨by rw [← e2]; exact g3, r, g5, Or.inr ⟨g7, rfl, rfl⟩⟩⟩ g6
        · exact g1.trans (fun b i a1 a2 a3 a4 a5 a6 a7 a8 => by rw [m_fl_o a5, m_up_at, if_neg (by omega)])
        · exact ⟨by rw [m_fl_o (by omega), m_up_at, if_neg (by omega)]; exact g2.1, fun j hj => by rw [m_fl_o (by omega), m_up_at, if_neg (by omega)]; exact g2.2 j hj⟩
        · rw [m_fl_o (by omega)]; exact m_up_same
      have h := l_Md_lj2 (d := d + 9) (z := z) (w := w) (L := L) (Q := Q) (J1 := m_up J2 M 51 r) (c := (c : Int)) (its := r) hM h0 3 0 (by omega) (by omega)
      rw [m_fl_0] at h
      exact h
    refine r_iln eMd_laysJobs_8 rfl ?_
    refine r_bip eMd_laysJobs_9 (by decide) ?_
    refine r_cge (tgt := 92) eMd_laysJobs_11 rfl ⟨(by omega), (by omega)⟩ ⟨(by omega), (by omega)⟩ (fun c11 => ?_) (fun c11 => ?_)
    · exfalso; omega
    · refine r_aln eMd_laysJobs_14 rfl ?_
      refine r_iln eMd_laysJobs_15 rfl ?_
      refine r_vir eMd_laysJobs_16 rfl rfl rfl hM.2.1 rfl rfl ?_
      refine c_Md_isOrder hM (by rw [e2]; exact hn) (by omega) ?_
      show m_wp en _ mMd_laysJobs 19 [some (.ref M), some (.int (m_i ((c : Int)))), o2, o3] [(.int (m_i (a_is3 (J1 (M + 2) 11) (((c : Int))) 3 0 0)))] (T, m_I J1, P, L, z, w) Q
      refine r_zne (tgt := 25) eMd_laysJobs_19 rfl ⟨(by omega), (by omega)⟩ (fun c19 => ?_) (fun c19 => ?_)
      · refine r_aln eMd_laysJobs_25 rfl ?_
        refine r_iln eMd_laysJobs_26 rfl ?_
        refine r_vir eMd_laysJobs_27 rfl rfl rfl hM.2.1 rfl rfl ?_
        refine c_Md_stepsBy hM hinv hfp h41 (by omega) (by omega) h51 rfl (fun J2 r g1 g2 g3 g4 g5 g6 => ?_)
        · show m_wp en _ mMd_laysJobs 30 [some (.ref M), some (.int (m_i ((c : Int)))), o2, o3] [(.int (m_i (r)))] (T, m_I J2, P, L, z, w) Q
          refine r_isn (ls' := [some (.ref M), some (.int (m_i ((c : Int)))), some (.int (m_i (r))), o3]) eMd_laysJobs_30 (Nat.le_of_ble_eq_true rfl) rfl ?_
          refine r_iln eMd_laysJobs_31 rfl ?_
          refine r_bip eMd_laysJobs_32 (by decide) ?_
          refine r_ceq (tgt := 86) eMd_laysJobs_34 rfl ⟨(by omega), (by omega)⟩ ⟨(by omega), (by omega)⟩ (fun c34 => ?_) (fun c34 => ?_)
          · refine r_inc (ls' := [some (.ref M), some (.int (m_i ((c : Int) + 1))), some (.int (m_i (r))), o3]) eMd_laysJobs_86 rfl rfl ?_
            refine r_go (tgt := 8) eMd_laysJobs_89 rfl ?_
            first | exact ih (c + 1) best bc J1 _ _ (by omega) hfp h41 h51 h26 ⟨best, bc, hlj, Or.inl ⟨by rw [← e2]; omega, rfl, rfl⟩⟩ hbb | exact ih (c + 1) best bc J2 _ _ (by omega) g1 g2 g3 (by rw [g4]; exact h26) ⟨best, bc, hlj, Or.inr ⟨by rw [← e2]; omega, r, g5, Or.inl ⟨by omega, rfl, rfl⟩⟩⟩ hbb
          · refine r_aln eMd_laysJobs_37 rfl ?_
            refine r_gete (x := J2 M 51) eMd_laysJobs_38 rfl (by decide) hM.2.1 rfl ?_
            rw [g3]
            refine r_bip eMd_laysJobs_41 (by decide) ?_
            refine r_ceq (tgt := 57) eMd_laysJobs_43 rfl ⟨(by omega), (by omega)⟩ ⟨(by omega), (by omega)⟩ (fun c43 => ?_) (fun c43 => ?_)
            · refine r_aln eMd_laysJobs_57 rfl ?_
              refine r_iln eMd_laysJobs_58 rfl ?_
              refine r_put eMd_laysJobs_59 rfl hM.2.1 hM.1 (Or.inl rfl) ?_
              refine r_con eMd_laysJobs_62 ?_
              refine r_isn (ls' := [some (.ref M), some (.int (m_i ((c : Int)))), some (.int (m_i (r))), some (.int (m_i (0)))]) eMd_laysJobs_63 (Nat.le_of_ble_eq_true rfl) rfl ?_
              first | exact new J2 r g1 g2 (by omega) g5 g6 (by omega) | (exfalso; omega)
            · refine r_iln eMd_laysJobs_46 rfl ?_
              refine r_aln eMd_laysJobs_47 rfl ?_
              refine r_gete (x := J2 M 51) eMd_laysJobs_48 rfl (by decide) hM.2.1 rfl ?_
              rw [g3]
              refine r_clt (tgt := 57) eMd_laysJobs_51 rfl ⟨(by omega), (by omega)⟩ ⟨(by omega), (by omega)⟩ (fun c51 => ?_) (fun c51 => ?_)
              · refine r_aln eMd_laysJobs_57 rfl ?_
                refine r_iln eMd_laysJobs_58 rfl ?_
                refine r_put eMd_laysJobs_59 rfl hM.2.1 hM.1 (Or.inl rfl) ?_
                refine r_con eMd_laysJobs_62 ?_
                refine r_isn (ls' := [some (.ref M), some (.int (m_i ((c : Int)))), some (.int (m_i (r))), some (.int (m_i (0)))]) eMd_laysJobs_63 (Nat.le_of_ble_eq_true rfl) rfl ?_
                first | exact new J2 r g1 g2 (by omega) g5 g6 (by omega) | (exfalso; omega)
              · refine r_go (tgt := 86) eMd_laysJobs_54 rfl ?_
                refine r_inc (ls' := [some (.ref M), some (.int (m_i ((c : Int) + 1))), some (.int (m_i (r))), o3]) eMd_laysJobs_86 rfl rfl ?_
                refine r_go (tgt := 8) eMd_laysJobs_89 rfl ?_
                first | exact ih (c + 1) best bc J1 _ _ (by omega) hfp h41 h51 h26 ⟨best, bc, hlj, Or.inl ⟨by rw [← e2]; omega, rfl, rfl⟩⟩ hbb | exact ih (c + 1) best bc J2 _ _ (by omega) g1 g2 g3 (by rw [g4]; exact h26) ⟨best, bc, hlj, Or.inr ⟨by rw [← e2]; omega, r, g5, Or.inl ⟨by omega, rfl, rfl⟩⟩⟩ hbb
      · refine r_go (tgt := 86) eMd_laysJobs_22 rfl ?_
        refine r_inc (ls' := [some (.ref M), some (.int (m_i ((c : Int) + 1))), o2, o3]) eMd_laysJobs_86 rfl rfl ?_
        refine r_go (tgt := 8) eMd_laysJobs_89 rfl ?_
        first | exact ih (c + 1) best bc J1 _ _ (by omega) hfp h41 h51 h26 ⟨best, bc, hlj, Or.inl ⟨by rw [← e2]; omega, rfl, rfl⟩⟩ hbb | exact ih (c + 1) best bc J2 _ _ (by omega) g1 g2 g3 (by rw [g4]; exact h26) ⟨best, bc, hlj, Or.inr ⟨by rw [← e2]; omega, r, g5, Or.inl ⟨by omega, rfl, rfl⟩⟩⟩ hbb
theorem c_Md_laysJobs (hM : md_sh en M T P) (hinv : md_inv J M) (hq : ∀ (J2 : Nat → Nat → Int) (best bc : Int), md_fy J J2 M → md_inv J2 M → J2 M 51 = best → (best ≠ -2 → ∀ i : Nat, i < 3 → J2 (M + 26) i = a_io bc (i : Int)) → s_lj J M 64 best bc → (-2 ≤ best ∧ best ≤ 180000) → Q none (T, m_I J2, P, L, z, w)) : m_call en (d + 11) mMd_laysJobs [.ref M] (T, m_I J, P, L, z, w) Q := by
  refine m_into (by decide) (Nat.le_of_ble_eq_true rfl) rfl ?_
  show m_wp en _ mMd_laysJobs 0 [some (.ref M), none, none, none] [] (T, m_I J, P, L, z, w) Q
  refine r_aln eMd_laysJobs_0 rfl ?_
  refine r_bip eMd_laysJobs_1 (by decide) ?_
  refine r_put eMd_laysJobs_3 rfl hM.2.1 hM.1 (Or.inl rfl) ?_
  refine r_con eMd_laysJobs_6 ?_
  refine r_isn (ls' := [some (.ref M), some (.int (m_i (0))), none, none]) eMd_laysJobs_7 (Nat.le_of_ble_eq_true rfl) rfl ?_
  exact l_Md_laysJobs hM hinv hq 64 0 (-2) 0 (m_up J M 51 (-2)) none none (by omega) (fun b i a1 a2 a3 a4 a5 a6 a7 a8 => by rw [m_up_at, if_neg (by omega)]) (md_4_up (by omega) (by omega) _ hinv.hkp.1.2) m_up_same (fun q => absurd rfl q) rfl (by omega)
theorem c_Md_jobs (hM : md_sh en M T P) (hJ : m_up J0 M 0 0 = J) (hinv : md_inv J M)
    (hq0 : J M 32 ≠ 0 → Q (some (.int (m_i (-3)))) (T, m_I J, P, L, z, w)) (hq1 : J M 32 = 0 → J (M + 2) 11 = 0 → Q (some (.int (m_i 0))) (T, m_I J, P, L, z, w))
    (hq2 : J M 32 = 0 → J (M + 2) 11 ≠ 0 → ∀ (J2 : Nat → Nat → Int) (best bc : Int), md_fy J J2 M → md_inv J2 M → s_lj J M 64 best bc → Q (some (.int (m_i best))) (T, m_I J2, P, L, z, w)) : m_call en (d + 12) mMd_jobs [.ref M] (T, m_I J0, P, L, z, w) Q := by
  have hh := hinv.h32
  have hn := hinv.pl.2.2.2.2.2.2.2.2.1
  refine m_into (by decide) (Nat.le_of_ble_eq_true rfl) rfl ?_
  show m_wp en _ mMd_jobs 0 [some (.ref M)] [] (T, m_I J0, P, L, z, w) Q
  refine r_aln eMd_jobs_0 rfl ?_
  refine r_con eMd_jobs_1 ?_
  refine r_put eMd_jobs_2 rfl hM.2.1 hM.1 (Or.inl rfl) ?_
  rw [hJ]
  refine r_aln eMd_jobs_5 rfl ?_
  refine r_gete (x := J M 32) eMd_jobs_6 rfl (by decide) hM.2.1 rfl ?_
  refine r_zeq (tgt := 15) eMd_jobs_9 rfl ⟨(by omega), (by omega)⟩ (fun c9 => ?_) (fun c9 => ?_)
  · refine r_aln eMd_jobs_15 rfl ?_
    refine m_getR eMd_jobs_16 rfl hM.2.1 (md_number_p hM) ?_
    refine r_bip eMd_jobs_19 (by decide) ?_
    refine r_ialde (x := J (M + 2) 11) eMd_jobs_21 (md_number_t hM) (by decide) (by omega) (by omega) rfl ?_
    refine r_zne (tgt := 27) eMd_jobs_22 rfl ⟨(by omega), (by omega)⟩ (fun c22 => ?_) (fun c22 => ?_)
    · refine r_aln eMd_jobs_27 rfl ?_
      refine r_vir eMd_jobs_28 rfl rfl rfl hM.2.1 rfl rfl ?_
      refine c_Md_laysJobs hM hinv (fun J2 best bc f1 f2 f3 f4 f5 f6 => ?_)
      · show m_wp en _ mMd_jobs 31 [some (.ref M)] [] (T, m_I J2, P, L, z, w) Q
        refine r_aln eMd_jobs_31 rfl ?_
        refine r_gete (x := J2 M 51) eMd_jobs_32 rfl (by decide) hM.2.1 rfl ?_
        rw [f3]
        refine r_iret eMd_jobs_35 rfl ?_
        exact hq2 (by omega) (by omega) J2 best bc f1 f2 f5
    · refine r_con eMd_jobs_25 ?_
      refine r_iret eMd_jobs_26 rfl ?_
      exact hq1 (by omega) (by omega)
  · refine r_bip eMd_jobs_12 (by decide) ?_
    refine r_iret eMd_jobs_14 rfl ?_
    exact hq0 (by omega)
theorem c_Md_job (hM : md_sh en M T P) (hJ : m_up J0 M 0 0 = J) (hinv : md_inv J M) {x : Int} (hx : m_in x)
    (hq0 : ¬ (0 ≤ x ∧ x < J (M + 2) 11) → Q (some (.int (m_i (-1)))) (T, m_I J, P, L, z, w)) (hq1 : 0 ≤ x ∧ x < J (M + 2) 11 → J M 32 ≠ 0 → Q (some (.int (m_i (-3)))) (T, m_I J, P, L, z, w))
    (hq2 : 0 ≤ x ∧ x < J (M + 2) 11 → J M 32 = 0 → ∀ (J2 : Nat → Nat → Int) (best bc : Int), md_fy J J2 M → md_inv J2 M → s_lj J M 64 best bc → Q (some (.int (m_i (if best = -2 then -2 else a_io bc x)))) (T, m_I J2, P, L, z, w)) : m_call en (d + 12) mMd_job [.ref M, .int (m_i x)] (T, m_I J0, P, L, z, w) Q := by
  unfold m_in at hx
  have hh := hinv.h32
  have hn := hinv.pl.2.2.2.2.2.2.2.2.1
  refine m_into (by decide) (Nat.le_of_ble_eq_true rfl) rfl ?_
  show m_wp en _ mMd_job 0 [some (.ref M), some (.int (m_i (x)))] [] (T, m_I J0, P, L, z, w) Q
  refine r_aln eMd_job_0 rfl ?_
  refine r_con eMd_job_1 ?_
  refine r_put eMd_job_2 rfl hM.2.1 hM.1 (Or.inl rfl) ?_
  rw [hJ]
  refine r_iln eMd_job_5 rfl ?_
  refine r_zlt (tgt := 20) eMd_job_6 rfl ⟨(by omega), (by omega)⟩ (fun c6 => ?_) (fun c6 => ?_)
  · refine r_con eMd_job_20 ?_
    refine r_iret eMd_job_21 rfl ?_
    exact hq0 (by omega)
  · refine r_iln eMd_job_9 rfl ?_
    refine r_aln eMd_job_10 rfl ?_
    refine m_getR eMd_job_11 rfl hM.2.1 (md_number_p hM) ?_
    refine r_bip eMd_job_14 (by decide) ?_
    refine r_ialde (x := J (M + 2) 11) eMd_job_16 (md_number_t hM) (by decide) (by omega) (by omega) rfl ?_
    refine r_clt (tgt := 22) eMd_job_17 rfl ⟨(by omega), (by omega)⟩ ⟨(by omega), (by omega)⟩ (fun c17 => ?_) (fun c17 => ?_)
    · refine r_aln eMd_job_22 rfl ?_
      refine r_gete (x := J M 32) eMd_job_23 rfl (by decide) hM.2.1 rfl ?_
      refine r_zeq (tgt := 32) eMd_job_26 rfl ⟨(by omega), (by omega)⟩ (fun c26 => ?_) (fun c26 => ?_)
      · refine r_aln eMd_job_32 rfl ?_
        refine r_vir eMd_job_33 rfl rfl rfl hM.2.1 rfl rfl ?_
        refine c_Md_laysJobs hM hinv (fun J2 best bc f1 f2 f3 f4 f5 f6 => ?_)
        · show m_wp en _ mMd_job 36 [some (.ref M), some (.int (m_i (x)))] [] (T, m_I J2, P, L, z, w) Q
          refine r_aln eMd_job_36 rfl ?_
          refine r_gete (x := J2 M 51) eMd_job_37 rfl (by decide) hM.2.1 rfl ?_
          rw [f3]
          refine r_bip eMd_job_40 (by decide) ?_
          refine r_cne (tgt := 50) eMd_job_42 rfl ⟨(by omega), (by omega)⟩ ⟨(by omega), (by omega)⟩ (fun c42 => ?_) (fun c42 => ?_)
          · have e26 := f4 (by omega) x.toNat (by omega)
            rw [show ((x.toNat : Nat) : Int) = x by omega] at e26
            refine r_aln eMd_job_50 rfl ?_
            refine m_getR eMd_job_51 rfl hM.2.1 (md_jobOrder_p hM) ?_
            refine r_iln eMd_job_54 rfl ?_
            refine r_ialde (x := J2 (M + 26) ((x).toNat)) eMd_job_55 (md_jobOrder_t hM) (by decide) (by omega) (by omega) rfl ?_
            refine r_iret eMd_job_56 rfl ?_
            have hq3 := hq2 (by omega) (by omega) J2 best bc f1 f2 f5
            first | (rw [if_pos (by omega)] at hq3; exact hq3) | (rw [if_neg (by omega), ← e26] at hq3; exact hq3)
          · refine r_bip eMd_job_45 (by decide) ?_
            refine r_go (tgt := 56) eMd_job_47 rfl ?_
            refine r_iret eMd_job_56 rfl ?_
            have hq3 := hq2 (by omega) (by omega) J2 best bc f1 f2 f5
            first | (rw [if_pos (by omega)] at hq3; exact hq3) | (rw [if_neg (by omega), ← e26] at hq3; exact hq3)
      · refine r_bip eMd_job_29 (by decide) ?_
        refine r_iret eMd_job_31 rfl ?_
        exact hq1 (by omega) (by omega)
    · refine r_con eMd_job_20 ?_
      refine r_iret eMd_job_21 rfl ?_
      exact hq0 (by omega)
end MDJD
