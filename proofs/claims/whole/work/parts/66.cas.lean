/-! carries, carry of the reference -/
theorem a_sp_bd3 {c e : Int} (hc : 0 ≤ c ∧ c < 16) (he : 0 ≤ e ∧ e ≤ 6) : 0 ≤ a_no (c, 0, 0, 0, e) ∧ a_no (c, 0, 0, 0, e) < 38880 := by
  unfold a_no
  simp only
  omega
theorem a_pm_up {J : Nat → Nat → Int} {A : Nat} {p : Nat → Int} (e : J A = p) {x v u : Int} (hu : u = p x.toNat + v) : m_up J A x.toNat u A = a_pm p x v := by
  funext i
  unfold a_pm
  rw [m_up_at]
  by_cases q : i = x.toNat
  · rw [if_pos ⟨rfl, q⟩, if_pos q, q, hu]
  · rw [if_neg (fun h => q h.2), if_neg q, e]
theorem md_cf_49 (J : Nat → Nat → Int) (M : Nat) (v : Int) : md_cf (m_up J M 49 v) M = md_cf J M := md_cf_eq (funext (fun i => by rw [m_up_at, if_neg (by omega)])) (funext (fun i => by rw [m_up_at, if_neg (by omega)])) (by rw [m_up_at, if_neg (by omega)])
theorem md_kp_49 {J : Nat → Nat → Int} {M : Nat} (v : Int) (h : md_kp J M) : md_kp (m_up J M 49 v) M := md_kp_eq (funext (fun i => by rw [m_up_at, if_neg (by omega)])) (funext (fun i => by rw [m_up_at, if_neg (by omega)])) (by rw [m_up_at, if_neg (by omega)]) (by rw [m_up_at, if_neg (by omega)]) (by rw [m_up_at, if_neg (by omega)]) (md_cf_49 J M v) h
theorem a_pm_bd {p : Nat → Int} {B : Int} (hp : ∀ i : Nat, i < 16 → 0 ≤ p i ∧ p i ≤ B) {x v : Int} (hx : 0 ≤ x ∧ x < 16) (hv : (v = -1 ∧ p x.toNat ≠ 0) ∨ v = 1) : ∀ i : Nat, i < 16 → 0 ≤ a_pm p x v i ∧ a_pm p x v i ≤ B + 1 := fun i hi => by
  have h1 := hp i hi
  unfold a_pm
  by_cases q : i = x.toNat
  · rw [if_pos q]
    rcases hv with ⟨h2, h3⟩ | h2
    · rw [← q] at h3
      omega
    · omega
  · rw [if_neg q]
    omega
section MDCS
variable {en : Nat → Nat} {d : Nat} {T : Nat → Option (Nat × Nat)} {J J0 J1 : Nat → Nat → Int} {P : Nat → Nat → Option Nat} {L : Nat → Nat → Int64} {z w M : Nat} {Q : m_Q} {σ : a_S}
theorem c_Md_carries (hM : md_sh en M T P) (hinv : md_inv J M) (hfp : md_fp J J1 M) (h41 : md_4 J1 M) {p : Nat → Int} (ep : J1 (M + 18) = p) (hb : ∀ i : Nat, i < 16 → 0 ≤ p i ∧ p i ≤ 900) {st fr to : Int} (hst : 0 ≤ st ∧ st < 38880) (hfr : 0 ≤ fr ∧ fr < 16) (hto : 0 ≤ to ∧ to < 16)
    (hq : ∀ (J2 : Nat → Nat → Int) (r : Int) (p2 : Nat → Int) (ct : Int), md_fq J1 J2 M → md_4 J2 M → s_car J M p st fr to r p2 ct → (-2 ≤ r ∧ r < 60000) → (r ≠ -2 → J2 (M + 18) = p2 ∧ J2 M 49 = ct ∧ (0 ≤ ct ∧ ct < 38880)) → Q (some (.int (m_i r))) (T, m_I J2, P, L, z, w)) : m_call en (d + 9) mMd_carries [.ref M, .int (m_i st), .int (m_i fr), .int (m_i to)] (T, m_I J1, P, L, z, w) Q := by
  have hpf := hb fr.toNat (by omega)
  have hfb := md_fe_bd hinv (fun i hi => (hb i hi).1) hfr
  refine m_into (by decide) (Nat.le_of_ble_eq_true rfl) rfl ?_
  show m_wp en _ mMd_carries 0 [some (.ref M), some (.int (m_i (st))), some (.int (m_i (fr))), some (.int (m_i (to))), none, none, none] [] (T, m_I J1, P, L, z, w) Q
  refine r_aln eMd_carries_0 rfl ?_
  refine r_con eMd_carries_1 ?_
  refine r_puz eMd_carries_2 rfl hM.2.1 hM.1 (Or.inl rfl) (by first | exact Or.inl rfl | exact Or.inr rfl | omega) ?_
  have hfp6 : md_fp J ((m_up J1 M 32 (0))) M := hfp.trans (md_fq_up J1 M (by omega) 0).fp
  have ep6 : ((m_up J1 M 32 (0))) (M + 18) = p := (funext (fun i => by rw [m_up_at, if_neg (by omega)])).trans ep
  have eh6 : ((m_up J1 M 32 (0))) M 32 = 0 := m_up_same
  have hb6 : ∀ i : Nat, i < 16 → 0 ≤ ((m_up J1 M 32 (0))) (M + 18) i ∧ ((m_up J1 M 32 (0))) (M + 18) i ≤ 1000 := fun i hi => by rw [ep6]; have := hb i hi; omega
  have h416 : md_4 ((m_up J1 M 32 (0))) M := md_4_up (by omega) (by omega) _ h41
  refine r_aln eMd_carries_5 rfl ?_
  refine r_vir eMd_carries_6 rfl rfl rfl hM.2.1 rfl rfl ?_
  refine g_Md_piles hM hinv hfp6 hb6 h416 ep6 eh6 (fun Jb6 fq6 kp6 cf6 e186 e496 => ?_)
  · show m_wp en _ mMd_carries 9 [some (.ref M), some (.int (m_i (st))), some (.int (m_i (fr))), some (.int (m_i (to))), none, none, none] [] (T, m_I Jb6, P, L, z, w) Q
    have f9 : md_fq J1 Jb6 M := (md_fq_up J1 M (by omega) 0).trans fq6
    have hp9 : Jb6 (M + 18) fr.toNat = p fr.toNat := by rw [e186]
    have hfe9 : Jb6 (M + 19) fr.toNat = md_fe J M p fr := congrArg (fun C : a_C => C.2.2.2.2.2 fr) cf6
    refine r_aln eMd_carries_9 rfl ?_
    refine m_getR eMd_carries_10 rfl hM.2.1 (md_pile_p hM) ?_
    refine r_iln eMd_carries_13 rfl ?_
    refine r_ialde (x := Jb6 (M + 18) ((fr).toNat)) eMd_carries_14 (md_pile_t hM) (by decide) (by omega) (by omega) rfl ?_
    refine r_zeq (tgt := 28) eMd_carries_15 rfl ⟨(by omega), (by omega)⟩ (fun c15 => ?_) (fun c15 => ?_)
    · refine r_bip eMd_carries_28 (by decide) ?_
      refine r_iret eMd_carries_30 rfl ?_
      exact hq Jb6 _ p 0 f9 kp6.1.2 (Or.inl ⟨by omega, rfl⟩) (by omega) (fun q => absurd rfl q)
    · refine r_aln eMd_carries_18 rfl ?_
      refine m_getR eMd_carries_19 rfl hM.2.1 (md_freeIn_p hM) ?_
      refine r_iln eMd_carries_22 rfl ?_
      refine r_ialde (x := Jb6 (M + 19) ((fr).toNat)) eMd_carries_23 (md_freeIn_t hM) (by decide) (by omega) (by omega) rfl ?_
      refine r_con eMd_carries_24 ?_
      refine r_cge (tgt := 31) eMd_carries_25 rfl ⟨(by omega), (by omega)⟩ ⟨(by omega), (by omega)⟩ (fun c25 => ?_) (fun c25 => ?_)
      · refine r_aln eMd_carries_31 rfl ?_
        refine r_iln eMd_carries_32 rfl ?_
        refine r_aln eMd_carries_33 rfl ?_
        refine m_getR eMd_carries_34 rfl hM.2.1 (md_freeIn_p hM) ?_
        refine r_iln eMd_carries_37 rfl ?_
        refine r_ialde (x := Jb6 (M + 19) ((fr).toNat)) eMd_carries_38 (md_freeIn_t hM) (by decide) (by omega) (by omega) rfl ?_
        refine r_vir eMd_carries_39 rfl rfl rfl hM.2.1 rfl rfl ?_
        refine c_Md_still hM ?_
        show m_wp en _ mMd_carries 42 [some (.ref M), some (.int (m_i (st))), some (.int (m_i (fr))), some (.int (m_i (to))), none, none, none] [(.int (m_i (a_no (fr, 0, 0, 0, (Jb6 (M + 19) ((fr).toNat))))))] (T, m_I Jb6, P, L, z, w) Q
        rw [hfe9]
        refine r_is (ls' := [some (.ref M), some (.int (m_i (st))), some (.int (m_i (fr))), some (.int (m_i (to))), some (.int (m_i (a_no (fr, 0, 0, 0, md_fe J M p fr)))), none, none]) eMd_carries_42 (Nat.le_of_ble_eq_true rfl) rfl ?_
        have hne : ¬ (p fr.toNat = 0 ∨ md_fe J M p fr < 1) := by omega
        have ok48 : a_ok (md_cf Jb6 M) := by rw [cf6]; exact md_cp_ok hinv (fun i hi => (hb i hi).1) (Or.inl rfl)
        have kq48 := kp6
        have ha48 := hst
        have hg48 := a_sp_bd3 hfr hfb
        refine r_aln eMd_carries_44 rfl ?_
        refine r_iln eMd_carries_45 rfl ?_
        refine r_il eMd_carries_46 rfl ?_
        refine r_vir eMd_carries_48 rfl rfl rfl hM.2.1 rfl rfl ?_
        refine c_Md_fewestStanding hM ok48 kq48 ha48 hg48 (fun Jc48 r48 fx48 kc48 sd48 rb48 => ?_)
        · show m_wp en _ mMd_carries 51 [some (.ref M), some (.int (m_i (st))), some (.int (m_i (fr))), some (.int (m_i (to))), some (.int (m_i (a_no (fr, 0, 0, 0, md_fe J M p fr)))), none, none] [(.int (m_i (r48)))] (T, m_I Jc48, P, L, z, w) Q
          rw [cf6] at sd48
          have f51 : md_fq J1 Jc48 M := f9.trans fx48.fq
          have e18c : Jc48 (M + 18) = p := (funext (fun i => fx48 _ _ (by omega) (by omega) (by omega))).trans e186
          have hp51 : Jc48 (M + 18) fr.toNat = p fr.toNat := by rw [e18c]
          refine r_is (ls' := [some (.ref M), some (.int (m_i (st))), some (.int (m_i (fr))), some (.int (m_i (to))), some (.int (m_i (a_no (fr, 0, 0, 0, md_fe J M p fr)))), some (.int (m_i (r48))), none]) eMd_carries_51 (Nat.le_of_ble_eq_true rfl) rfl ?_
          refine r_il eMd_carries_53 rfl ?_
          refine r_bip eMd_carries_55 (by decide) ?_
          refine r_cne (tgt := 63) eMd_carries_57 rfl ⟨(by omega), (by omega)⟩ ⟨(by omega), (by omega)⟩ (fun c57 => ?_) (fun c57 => ?_)
          · refine r_aln eMd_carries_63 rfl ?_
            refine m_getR eMd_carries_64 rfl hM.2.1 (md_pile_p hM) ?_
            refine r_iln eMd_carries_67 rfl ?_
            refine r_dup2 eMd_carries_68 ?_
            refine r_ialde (x := Jc48 (M + 18) ((fr).toNat)) eMd_carries_69 (md_pile_t hM) (by decide) (by omega) (by omega) rfl ?_
            refine r_con eMd_carries_70 ?_
            refine r_sub eMd_carries_71 ?_
            refine r_iast eMd_carries_72 (md_pile_t hM) (by decide) (by omega) (by omega) (md_b hM 18) ?_
            refine r_aln eMd_carries_73 rfl ?_
            refine r_con eMd_carries_74 ?_
            refine r_puz eMd_carries_75 rfl hM.2.1 hM.1 (Or.inl rfl) (by first | exact Or.inl rfl | exact Or.inr rfl | omega) ?_
            have fz : md_fq J1 ((m_up (m_up Jc48 (M + 18) ((fr).toNat) ((Jc48 (M + 18) ((fr).toNat)) - (1))) M 32 (1))) M := f51.trans ((md_fq_18 Jc48 M (by omega) _).trans (md_fq_up _ M (by omega) 1))
            have hfp79 : md_fp J ((m_up (m_up Jc48 (M + 18) ((fr).toNat) ((Jc48 (M + 18) ((fr).toNat)) - (1))) M 32 (1))) M := hfp.trans fz.fp
            have hb78 := a_pm_bd hb hfr (v := -1) (Or.inl ⟨rfl, by omega⟩)
            have ep79 : ((m_up (m_up Jc48 (M + 18) ((fr).toNat) ((Jc48 (M + 18) ((fr).toNat)) - (1))) M 32 (1))) (M + 18) = a_pm p fr (-1) := (funext (fun i => by rw [m_up_at, if_neg (by omega)])).trans (a_pm_up e18c (by rw [hp51]; omega))
            have eh79 : ((m_up (m_up Jc48 (M + 18) ((fr).toNat) ((Jc48 (M + 18) ((fr).toNat)) - (1))) M 32 (1))) M 32 = 1 := m_up_same
            have hb79 : ∀ i : Nat, i < 16 → 0 ≤ ((m_up (m_up Jc48 (M + 18) ((fr).toNat) ((Jc48 (M + 18) ((fr).toNat)) - (1))) M 32 (1))) (M + 18) i ∧ ((m_up (m_up Jc48 (M + 18) ((fr).toNat) ((Jc48 (M + 18) ((fr).toNat)) - (1))) M 32 (1))) (M + 18) i ≤ 1000 := fun i hi => by rw [ep79]; have := hb78 i hi; omega
            have h4179 : md_4 ((m_up (m_up Jc48 (M + 18) ((fr).toNat) ((Jc48 (M + 18) ((fr).toNat)) - (1))) M 32 (1))) M := md_4_up (by omega) (by omega) _ (md_4_up (by omega) (by omega) _ kc48.1.2)
            refine r_aln eMd_carries_78 rfl ?_
            refine r_vir eMd_carries_79 rfl rfl rfl hM.2.1 rfl rfl ?_
            refine g_Md_piles hM hinv hfp79 hb79 h4179 ep79 eh79 (fun Jb79 fq79 kp79 cf79 e1879 e4979 => ?_)
            · show m_wp en _ mMd_carries 82 [some (.ref M), some (.int (m_i (st))), some (.int (m_i (fr))), some (.int (m_i (to))), some (.int (m_i (a_no (fr, 0, 0, 0, md_fe J M p fr)))), some (.int (m_i (r48))), none] [] (T, m_I Jb79, P, L, z, w) Q
              have f82 : md_fq J1 Jb79 M := fz.trans fq79
              have hfb2 := md_fe_bd hinv (fun i hi => (hb78 i hi).1) hto
              have hfe82 : Jb79 (M + 19) to.toNat = md_fe J M (a_pm p fr (-1)) to := congrArg (fun C : a_C => C.2.2.2.2.2 to) cf79
              refine r_aln eMd_carries_82 rfl ?_
              refine m_getR eMd_carries_83 rfl hM.2.1 (md_freeIn_p hM) ?_
              refine r_iln eMd_carries_86 rfl ?_
              refine r_ialde (x := Jb79 (M + 19) ((to).toNat)) eMd_carries_87 (md_freeIn_t hM) (by decide) (by omega) (by omega) rfl ?_
              refine r_con eMd_carries_88 ?_
              refine r_cge (tgt := 95) eMd_carries_89 rfl ⟨(by omega), (by omega)⟩ ⟨(by omega), (by omega)⟩ (fun c89 => ?_) (fun c89 => ?_)
              · refine r_aln eMd_carries_95 rfl ?_
                refine r_aln eMd_carries_96 rfl ?_
                refine r_iln eMd_carries_97 rfl ?_
                refine r_aln eMd_carries_98 rfl ?_
                refine m_getR eMd_carries_99 rfl hM.2.1 (md_freeIn_p hM) ?_
                refine r_iln eMd_carries_102 rfl ?_
                refine r_ialde (x := Jb79 (M + 19) ((to).toNat)) eMd_carries_103 (md_freeIn_t hM) (by decide) (by omega) (by omega) rfl ?_
                refine r_con eMd_carries_104 ?_
                refine r_sub eMd_carries_105 ?_
                refine r_vir eMd_carries_106 rfl rfl rfl hM.2.1 rfl rfl ?_
                refine c_Md_still hM ?_
                show m_wp en _ mMd_carries 109 [some (.ref M), some (.int (m_i (st))), some (.int (m_i (fr))), some (.int (m_i (to))), some (.int (m_i (a_no (fr, 0, 0, 0, md_fe J M p fr)))), some (.int (m_i (r48))), none] [(.int (m_i (a_no (to, 0, 0, 0, ((Jb79 (M + 19) ((to).toNat)) - (1)))))), (.ref M)] (T, m_I Jb79, P, L, z, w) Q
                rw [hfe82]
                refine r_put eMd_carries_109 rfl hM.2.1 hM.1 (Or.inl rfl) ?_
                have hn2 : ¬ md_fe J M (a_pm p fr (-1)) to < 2 := by omega
                have ok119 : a_ok (md_cf ((m_up Jb79 M 49 (a_no (to, 0, 0, 0, (md_fe J M (a_pm p fr (-1)) to) - 1)))) M) := by rw [md_cf_49, cf79]; exact md_cp_ok hinv (fun i hi => (hb78 i hi).1) (Or.inr rfl)
                have kq119 := md_kp_49 (a_no (to, 0, 0, 0, (md_fe J M (a_pm p fr (-1)) to) - 1)) kp79
                have ha119 := a_sp_bd3 hfr hfb
                have hg119 := a_sp_bd3 hto (show 0 ≤ md_fe J M (a_pm p fr (-1)) to - 1 ∧ md_fe J M (a_pm p fr (-1)) to - 1 ≤ 6 by omega)
                have f112 : md_fq J1 ((m_up Jb79 M 49 (a_no (to, 0, 0, 0, (md_fe J M (a_pm p fr (-1)) to) - 1)))) M := f82.trans (md_fq_up Jb79 M (by omega) _)
                have e18d : ((m_up Jb79 M 49 (a_no (to, 0, 0, 0, (md_fe J M (a_pm p fr (-1)) to) - 1)))) (M + 18) = a_pm p fr (-1) := (funext (fun i => by rw [m_up_at, if_neg (by omega)])).trans e1879
                refine r_aln eMd_carries_112 rfl ?_
                refine r_il eMd_carries_113 rfl ?_
                refine r_aln eMd_carries_115 rfl ?_
                refine r_gete (x := a_no (to, 0, 0, 0, (md_fe J M (a_pm p fr (-1)) to) - 1)) eMd_carries_116 rfl (by decide) hM.2.1 (by simp [m_up]) ?_
                refine r_vir eMd_carries_119 rfl rfl rfl hM.2.1 rfl rfl ?_
                refine c_Md_fewestStanding hM ok119 kq119 ha119 hg119 (fun Jc119 r119 fx119 kc119 sd119 rb119 => ?_)
                · show m_wp en _ mMd_carries 122 [some (.ref M), some (.int (m_i (st))), some (.int (m_i (fr))), some (.int (m_i (to))), some (.int (m_i (a_no (fr, 0, 0, 0, md_fe J M p fr)))), some (.int (m_i (r48))), none] [(.int (m_i (r119)))] (T, m_I Jc119, P, L, z, w) Q
                  rw [md_cf_49, cf79] at sd119
                  have f122 : md_fq J1 Jc119 M := f112.trans fx119.fq
                  have e18e : Jc119 (M + 18) = a_pm p fr (-1) := (funext (fun i => fx119 _ _ (by omega) (by omega) (by omega))).trans e18d
                  have hp122 : Jc119 (M + 18) to.toNat = a_pm p fr (-1) to.toNat := by rw [e18e]
                  have e49c : Jc119 M 49 = a_no (to, 0, 0, 0, (md_fe J M (a_pm p fr (-1)) to) - 1) := (fx119 M 49 (by omega) (by omega) (by omega)).trans m_up_same
                  refine r_is (ls' := [some (.ref M), some (.int (m_i (st))), some (.int (m_i (fr))), some (.int (m_i (to))), some (.int (m_i (a_no (fr, 0, 0, 0, md_fe J M p fr)))), some (.int (m_i (r48))), some (.int (m_i (r119)))]) eMd_carries_122 (Nat.le_of_ble_eq_true rfl) rfl ?_
                  refine r_il eMd_carries_124 rfl ?_
                  refine r_bip eMd_carries_126 (by decide) ?_
                  refine r_cne (tgt := 134) eMd_carries_128 rfl ⟨(by omega), (by omega)⟩ ⟨(by omega), (by omega)⟩ (fun c128 => ?_) (fun c128 => ?_)
                  · refine r_aln eMd_carries_134 rfl ?_
                    refine m_getR eMd_carries_135 rfl hM.2.1 (md_pile_p hM) ?_
                    refine r_iln eMd_carries_138 rfl ?_
                    refine r_dup2 eMd_carries_139 ?_
                    refine r_ialde (x := Jc119 (M + 18) ((to).toNat)) eMd_carries_140 (md_pile_t hM) (by decide) (by omega) (by omega) rfl ?_
                    refine r_con eMd_carries_141 ?_
                    refine r_add eMd_carries_142 ?_
                    refine r_iast eMd_carries_143 (md_pile_t hM) (by decide) (by omega) (by omega) (md_b hM 18) ?_
                    refine r_aln eMd_carries_144 rfl ?_
                    refine r_con eMd_carries_145 ?_
                    refine r_puz eMd_carries_146 rfl hM.2.1 hM.1 (Or.inl rfl) (by first | exact Or.inl rfl | exact Or.inr rfl | omega) ?_
                    have fy2 : md_fq J1 ((m_up (m_up Jc119 (M + 18) ((to).toNat) ((Jc119 (M + 18) ((to).toNat)) + (1))) M 32 (0))) M := f122.trans ((md_fq_18 Jc119 M (by omega) _).trans (md_fq_up _ M (by omega) 0))
                    have hfp150 : md_fp J ((m_up (m_up Jc119 (M + 18) ((to).toNat) ((Jc119 (M + 18) ((to).toNat)) + (1))) M 32 (0))) M := hfp.trans fy2.fp
                    have hb149 := a_pm_bd hb78 hto (v := 1) (Or.inr rfl)
                    have ep150 : ((m_up (m_up Jc119 (M + 18) ((to).toNat) ((Jc119 (M + 18) ((to).toNat)) + (1))) M 32 (0))) (M + 18) = a_pm (a_pm p fr (-1)) to 1 := (funext (fun i => by rw [m_up_at, if_neg (by omega)])).trans (a_pm_up e18e (by rw [hp122]))
                    have eh150 : ((m_up (m_up Jc119 (M + 18) ((to).toNat) ((Jc119 (M + 18) ((to).toNat)) + (1))) M 32 (0))) M 32 = 0 := m_up_same
                    have hb150 : ∀ i : Nat, i < 16 → 0 ≤ ((m_up (m_up Jc119 (M + 18) ((to).toNat) ((Jc119 (M + 18) ((to).toNat)) + (1))) M 32 (0))) (M + 18) i ∧ ((m_up (m_up Jc119 (M + 18) ((to).toNat) ((Jc119 (M + 18) ((to).toNat)) + (1))) M 32 (0))) (M + 18) i ≤ 1000 := fun i hi => by rw [ep150]; have := hb149 i hi; omega
                    have h41150 : md_4 ((m_up (m_up Jc119 (M + 18) ((to).toNat) ((Jc119 (M + 18) ((to).toNat)) + (1))) M 32 (0))) M := md_4_up (by omega) (by omega) _ (md_4_up (by omega) (by omega) _ kc119.1.2)
                    have e49z : ((m_up (m_up Jc119 (M + 18) ((to).toNat) ((Jc119 (M + 18) ((to).toNat)) + (1))) M 32 (0))) M 49 = a_no (to, 0, 0, 0, (md_fe J M (a_pm p fr (-1)) to) - 1) := by rw [m_up_at, if_neg (by omega), m_up_at, if_neg (by omega)]; exact e49c
                    refine r_aln eMd_carries_149 rfl ?_
                    refine r_vir eMd_carries_150 rfl rfl rfl hM.2.1 rfl rfl ?_
                    refine g_Md_piles hM hinv hfp150 hb150 h41150 ep150 eh150 (fun Jb150 fq150 kp150 cf150 e18150 e49150 => ?_)
                    · show m_wp en _ mMd_carries 153 [some (.ref M), some (.int (m_i (st))), some (.int (m_i (fr))), some (.int (m_i (to))), some (.int (m_i (a_no (fr, 0, 0, 0, md_fe J M p fr)))), some (.int (m_i (r48))), some (.int (m_i (r119)))] [] (T, m_I Jb150, P, L, z, w) Q
                      refine r_il eMd_carries_153 rfl ?_
                      refine r_il eMd_carries_155 rfl ?_
                      refine r_add eMd_carries_157 ?_
                      refine r_iret eMd_carries_158 rfl ?_
                      exact hq Jb150 _ _ _ (fy2.trans fq150) kp150.1.2 (Or.inr ⟨hne, r48, sd48, Or.inr ⟨by omega, Or.inr ⟨hn2, r119, sd119, Or.inr ⟨by omega, rfl, rfl, rfl⟩⟩⟩⟩) (by omega) (fun _ => ⟨e18150, e49150.trans e49z, hg119⟩)
                  · refine r_bip eMd_carries_131 (by decide) ?_
                    refine r_iret eMd_carries_133 rfl ?_
                    exact hq Jc119 _ p 0 f122 kc119.1.2 (Or.inr ⟨hne, r48, sd48, Or.inr ⟨by omega, Or.inr ⟨hn2, r119, sd119, Or.inl ⟨by omega, rfl⟩⟩⟩⟩) (by omega) (fun q => absurd rfl q)
              · refine r_bip eMd_carries_92 (by decide) ?_
                refine r_iret eMd_carries_94 rfl ?_
                exact hq Jb79 _ p 0 f82 kp79.1.2 (Or.inr ⟨hne, r48, sd48, Or.inr ⟨by omega, Or.inl ⟨by omega, rfl⟩⟩⟩) (by omega) (fun q => absurd rfl q)
          · refine r_bip eMd_carries_60 (by decide) ?_
            refine r_iret eMd_carries_62 rfl ?_
            exact hq Jc48 _ p 0 f51 kc48.1.2 (Or.inr ⟨hne, r48, sd48, Or.inl ⟨by omega, rfl⟩⟩) (by omega) (fun q => absurd rfl q)
      · refine r_bip eMd_carries_28 (by decide) ?_
        refine r_iret eMd_carries_30 rfl ?_
        exact hq Jb6 _ p 0 f9 kp6.1.2 (Or.inl ⟨by omega, rfl⟩) (by omega) (fun q => absurd rfl q)
theorem c_Md_carry (hM : md_sh en M T P) (hJ : m_up J0 M 0 0 = J) (hinv : md_inv J M) {x y : Int} (hx : m_in x) (hy : m_in y)
    (hq0 : ¬ ((0 ≤ x ∧ x < J (M + 2) 0) ∧ (0 ≤ y ∧ y < J (M + 2) 0) ∧ x ≠ y) → Q (some (.int (m_i (-1)))) (T, m_I J, P, L, z, w))
    (hq1 : ((0 ≤ x ∧ x < J (M + 2) 0) ∧ (0 ≤ y ∧ y < J (M + 2) 0) ∧ x ≠ y) → J M 32 ≠ 0 → Q (some (.int (m_i (-3)))) (T, m_I J, P, L, z, w))
    (hq2 : ((0 ≤ x ∧ x < J (M + 2) 0) ∧ (0 ≤ y ∧ y < J (M + 2) 0) ∧ x ≠ y) → J M 32 = 0 → ∀ (J1 : Nat → Nat → Int) (r : Int) (p2 : Nat → Int) (ct : Int), md_fy J J1 M → md_inv J1 M → s_car J M (J (M + 18)) (J (M + 22) 0) x y r p2 ct → Q (some (.int (m_i r))) (T, m_I J1, P, L, z, w)) : m_call en (d + 10) mMd_carry [.ref M, .int (m_i x), .int (m_i y)] (T, m_I J0, P, L, z, w) Q := by
  unfold m_in at hx hy
  have hw := hinv.pl.1
  have hh := hinv.h32
  refine m_into (by decide) (Nat.le_of_ble_eq_true rfl) rfl ?_
  show m_wp en _ mMd_carry 0 [some (.ref M), some (.int (m_i (x))), some (.int (m_i (y))), none] [] (T, m_I J0, P, L, z, w) Q
  refine r_aln eMd_carry_0 rfl ?_
  refine r_con eMd_carry_1 ?_
  refine r_put eMd_carry_2 rfl hM.2.1 hM.1 (Or.inl rfl) ?_
  rw [hJ]
  refine r_aln eMd_carry_5 rfl ?_
  refine r_iln eMd_carry_6 rfl ?_
  refine r_vir eMd_carry_7 rfl rfl rfl hM.2.1 rfl rfl ?_
  refine c_Md_isThere hM ⟨by omega, by omega⟩ ⟨by omega, by omega⟩ ?_
  show m_wp en _ mMd_carry 10 [some (.ref M), some (.int (m_i (x))), some (.int (m_i (y))), none] [(.int (m_i (if 0 ≤ x ∧ x < J (M + 2) 0 then 1 else 0)))] (T, m_I J, P, L, z, w) Q
  refine r_zeq (tgt := 26) eMd_carry_10 rfl ⟨(by omega), (by omega)⟩ (fun c10 => ?_) (fun c10 => ?_)
  · refine r_con eMd_carry_26 ?_
    refine r_iret eMd_carry_27 rfl ?_
    exact hq0 (by omega)
  · refine r_aln eMd_carry_13 rfl ?_
    refine r_iln eMd_carry_14 rfl ?_
    refine r_vir eMd_carry_15 rfl rfl rfl hM.2.1 rfl rfl ?_
    refine c_Md_isThere hM ⟨by omega, by omega⟩ ⟨by omega, by omega⟩ ?_
    show m_wp en _ mMd_carry 18 [some (.ref M), some (.int (m_i (x))), some (.int (m_i (y))), none] [(.int (m_i (if 0 ≤ y ∧ y < J (M + 2) 0 then 1 else 0)))] (T, m_I J, P, L, z, w) Q
    refine r_zeq (tgt := 26) eMd_carry_18 rfl ⟨(by omega), (by omega)⟩ (fun c18 => ?_) (fun c18 => ?_)
    · refine r_con eMd_carry_26 ?_
      refine r_iret eMd_carry_27 rfl ?_
      exact hq0 (by omega)
    · refine r_iln eMd_carry_21 rfl ?_
      refine r_iln eMd_carry_22 rfl ?_
      refine r_cne (tgt := 28) eMd_carry_23 rfl ⟨(by omega), (by omega)⟩ ⟨(by omega), (by omega)⟩ (fun c23 => ?_) (fun c23 => ?_)
      · refine r_aln eMd_carry_28 rfl ?_
        refine r_gete (x := J M 32) eMd_carry_29 rfl (by decide) hM.2.1 rfl ?_
        refine r_zeq (tgt := 38) eMd_carry_32 rfl ⟨(by omega), (by omega)⟩ (fun c32 => ?_) (fun c32 => ?_)
        · refine r_aln eMd_carry_38 rfl ?_
          refine r_aln eMd_carry_39 rfl ?_
          refine m_getR eMd_carry_40 rfl hM.2.1 (md_s_p hM) ?_
          refine r_con eMd_carry_43 ?_
          refine r_ialde (x := J (M + 22) 0) eMd_carry_44 (md_s_t hM) (by decide) (by omega) (by omega) rfl ?_
          refine r_iln eMd_carry_45 rfl ?_
          refine r_iln eMd_carry_46 rfl ?_
          refine r_vir eMd_carry_47 rfl rfl rfl hM.2.1 rfl rfl ?_
          refine c_Md_carries hM hinv (md_fp.refl J M) hinv.hkp.1.2 rfl (fun i hi => by have := hinv.hpi i hi; omega) hinv.hs (by omega) (by omega) (fun J2 r p2 ct fq h41 hcar hrb hz => ?_)
          · show m_wp en _ mMd_carry 50 [some (.ref M), some (.int (m_i (x))), some (.int (m_i (y))), none] [(.int (m_i (r)))] (T, m_I J2, P, L, z, w) Q
            refine r_isn (ls' := [some (.ref M), some (.int (m_i (x))), some (.int (m_i (y))), some (.int (m_i (r)))]) eMd_carry_50 (Nat.le_of_ble_eq_true rfl) rfl ?_
            refine r_aln eMd_carry_51 rfl ?_
            refine r_vir eMd_carry_52 rfl rfl rfl hM.2.1 rfl rfl ?_
            refine c_Md_asItIs hM (fq.fp.pb hinv) ?_
            show m_wp en _ mMd_carry 55 [some (.ref M), some (.int (m_i (x))), some (.int (m_i (y))), some (.int (m_i (r)))] [] (T, m_I ((md_as J2 M)), P, L, z, w) Q
            refine r_iln eMd_carry_55 rfl ?_
            refine r_iret eMd_carry_56 rfl ?_
            exact hq2 (by omega) (by omega) _ r p2 ct (fq.fp.as hinv) (fq.fp.asi hinv h41) hcar
        · refine r_bip eMd_carry_35 (by decide) ?_
          refine r_iret eMd_carry_37 rfl ?_
          exact hq1 (by omega) (by omega)
      · refine r_con eMd_carry_26 ?_
        refine r_iret eMd_carry_27 rfl ?_
        exact hq0 (by omega)
end MDCS
