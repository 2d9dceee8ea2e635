section MDN
variable {en : Nat → Nat} {d : Nat} {T : Nat → Option (Nat × Nat)} {J J0 : Nat → Nat → Int} {P : Nat → Nat → Option Nat} {L : Nat → Nat → Int64} {z w M : Nat} {Q : m_Q} {σ : a_S}
theorem l_Md_sf3 (hM : md_sh en M T P) (ok : a_ok (md_cf J0 M)) {goal lev fr x : Int} (hx : 0 ≤ x ∧ x < J0 (M + 2) 0) (hgoal : m_in goal)
    (hnext : ∀ (J : Nat → Nat → Int) (o5 o6 : Option Value), md_fs J0 J M → s_I (md_cf J0 M) goal J M (x + 1) 1 → m_wp en (d + 5) mMd_seeksFrom 40 [some (.ref M), some (.int (m_i goal)), some (.int (m_i lev)), some (.int (m_i fr)), some (.int (m_i (x + 1))), o5, o6] [] (T, m_I J, P, L, z, w) Q) :
    ∀ (n : Nat) (e : Int) (J : Nat → Nat → Int) (o6 : Option Value), e + n = J0 (M + 2) 1 + 1 → 1 ≤ e → md_fs J0 J M → s_I (md_cf J0 M) goal J M x e → m_wp en (d + 5) mMd_seeksFrom 54 [some (.ref M), some (.int (m_i goal)), some (.int (m_i lev)), some (.int (m_i fr)), some (.int (m_i x)), some (.int (m_i e)), o6] [] (T, m_I J, P, L, z, w) Q := by
  unfold m_in at hgoal
  have k1 : 4 ≤ J0 (M + 2) 0 ∧ J0 (M + 2) 0 ≤ 16 := ok.1
  have k2 : 2 ≤ J0 (M + 2) 1 ∧ J0 (M + 2) 1 ≤ 6 := ok.2.1
  intro n
  induction n with
  | zero =>
    intro e J o6 hn he hfx hI
    have e1 : J (M + 2) 1 = J0 (M + 2) 1 := hfx (M + 2) 1 (by omega) (by omega) (by omega)
    obtain rfl : e = J0 (M + 2) 1 + 1 := by omega
    refine r_il eMd_seeksFrom_54 rfl ?_
    refine r_aln eMd_seeksFrom_56 rfl ?_
    refine m_getR eMd_seeksFrom_57 rfl hM.2.1 (md_number_p hM) ?_
    refine r_con eMd_seeksFrom_60 ?_
    refine r_ialde (x := J (M + 2) 1) eMd_seeksFrom_61 (md_number_t hM) (by decide) (by omega) (by omega) rfl ?_
    refine r_cgt (tgt := 128) eMd_seeksFrom_62 rfl ⟨(by omega), (by omega)⟩ ⟨(by omega), (by omega)⟩ (fun c62 => ?_) (fun c62 => ?_)
    · refine r_inc (ls' := [some (.ref M), some (.int (m_i (goal))), some (.int (m_i (lev))), some (.int (m_i (fr))), some (.int (m_i (x + 1))), some (.int (m_i (J0 (M + 2) 1 + 1))), o6]) eMd_seeksFrom_128 rfl rfl ?_
      refine r_go (tgt := 40) eMd_seeksFrom_131 rfl ?_
      exact hnext J _ _ hfx (s_I_col hI)
    · exfalso; omega
  | succ n ih =>
    intro e J o6 hn he hfx hI
    have e1 : J (M + 2) 1 = J0 (M + 2) 1 := hfx (M + 2) 1 (by omega) (by omega) (by omega)
    have rok := hI.1
    have okJ : a_ok (md_cf J M) := by rw [hfx.cf]; exact ok
    have hbx := a_still_bx (x := x) (e := e) (by omega) (by omega)
    have hN := a_no_bd hbx
    have hof := a_of_no hbx
    have hb01 := a_b_01 (a_is (md_cf J M) (a_of (a_no (x, 0, 0, 0, e))))
    have hS : (goal = -1 ∨ goal = a_no (x, 0, 0, 0, e)) → a_is (md_cf J0 M) (a_of (a_no (x, 0, 0, 0, e))) = true → s_S (md_cf J0 M) goal (a_no (x, 0, 0, 0, e)) := fun a b => ⟨a, b, hN, by rw [hof], by rw [hof], by rw [hof]⟩
    have hadd1 : (goal = -1 ∨ goal = a_no (x, 0, 0, 0, e)) → ¬ a_b (a_is (md_cf J M) (a_of (a_no (x, 0, 0, 0, e)))) = 0 → (J (M + 20) (a_no (x, 0, 0, 0, e)).toNat = 30000 ∧ 0 ≤ J M 42 ∧ J M 42 < 38880) ∧ s_I (md_cf J0 M) goal (md_add (md_put J M (a_of (a_no (x, 0, 0, 0, e)))) M (a_no (x, 0, 0, 0, e)) 0) M x (e + 1) := fun hg hq => by
      have his : a_is (md_cf J0 M) (a_of (a_no (x, 0, 0, 0, e))) = true := by
        rw [← hfx.cf]
        exact Classical.byContradiction (fun q => hq (a_b_f q))
      have := s_I_add (J := md_put J M (a_of (a_no (x, 0, 0, 0, e)))) (by omega) (by omega) (s_I_put _ hI) (hS hg his)
      rw [md_put_o J M _ (by omega), md_put_f J M _ (by omega)] at this
      exact this
    refine r_il eMd_seeksFrom_54 rfl ?_
    refine r_aln eMd_seeksFrom_56 rfl ?_
    refine m_getR eMd_seeksFrom_57 rfl hM.2.1 (md_number_p hM) ?_
    refine r_con eMd_seeksFrom_60 ?_
    refine r_ialde (x := J (M + 2) 1) eMd_seeksFrom_61 (md_number_t hM) (by decide) (by omega) (by omega) rfl ?_
    refine r_cgt (tgt := 128) eMd_seeksFrom_62 rfl ⟨(by omega), (by omega)⟩ ⟨(by omega), (by omega)⟩ (fun c62 => ?_) (fun c62 => ?_)
    · exfalso; omega
    · refine r_iln eMd_seeksFrom_65 rfl ?_
      refine r_con eMd_seeksFrom_66 ?_
      refine r_ceq (tgt := 82) eMd_seeksFrom_67 rfl ⟨(by omega), (by omega)⟩ ⟨(by omega), (by omega)⟩ (fun c67 => ?_) (fun c67 => ?_)
      · refine r_con eMd_seeksFrom_82 ?_
        refine r_go (tgt := 87) eMd_seeksFrom_83 rfl ?_
        refine r_is (ls' := [some (.ref M), some (.int (m_i (goal))), some (.int (m_i (lev))), some (.int (m_i (fr))), some (.int (m_i (x))), some (.int (m_i (e))), some (.int (m_i (1)))]) eMd_seeksFrom_87 (Nat.le_of_ble_eq_true rfl) rfl ?_
        refine r_il eMd_seeksFrom_89 rfl ?_
        refine r_zeq (tgt := 122) eMd_seeksFrom_91 rfl ⟨(by omega), (by omega)⟩ (fun c91 => ?_) (fun c91 => ?_)
        · refine r_inc (ls' := [some (.ref M), some (.int (m_i (goal))), some (.int (m_i (lev))), some (.int (m_i (fr))), some (.int (m_i (x))), some (.int (m_i (e + 1))), some (.int (m_i (1)))]) eMd_seeksFrom_122 rfl rfl ?_
          refine r_go (tgt := 54) eMd_seeksFrom_125 rfl ?_
          first | exact ih (e + 1) _ _ (by omega) (by omega) hfx (s_I_skip (by omega) (by omega) hI (fun q => by have := q.1; omega)) | exact ih (e + 1) _ _ (by omega) (by omega) (hfx.put _) (s_I_put _ (s_I_skip (by omega) (by omega) hI (fun q => by have h9 := q.2.1; rw [← hfx.cf] at h9; rw [a_b_t h9] at c106; omega))) | exact ih (e + 1) _ _ (by omega) (by omega) ((hfx.put _).add _ _) (hadd c106).2 | (exfalso; omega)
        · have hg : goal = -1 ∨ goal = a_no (x, 0, 0, 0, e) := by omega
          have hadd := hadd1 hg
          refine r_aln eMd_seeksFrom_94 rfl ?_
          refine r_aln eMd_seeksFrom_95 rfl ?_
          refine r_il eMd_seeksFrom_96 rfl ?_
          refine r_il eMd_seeksFrom_98 rfl ?_
          refine r_vir eMd_seeksFrom_100 rfl rfl rfl hM.2.1 rfl rfl ?_
          refine c_Md_still hM ?_
          show m_wp en _ mMd_seeksFrom 103 [some (.ref M), some (.int (m_i (goal))), some (.int (m_i (lev))), some (.int (m_i (fr))), some (.int (m_i (x))), some (.int (m_i (e))), some (.int (m_i (1)))] [(.int (m_i (a_no (x, 0, 0, 0, e)))), (.ref M)] (T, m_I J, P, L, z, w) Q
          refine r_vir eMd_seeksFrom_103 rfl rfl rfl hM.2.1 rfl rfl ?_
          refine c_Md_doesStand hM okJ (by omega) (by omega) ?_
          show m_wp en _ mMd_seeksFrom 106 [some (.ref M), some (.int (m_i (goal))), some (.int (m_i (lev))), some (.int (m_i (fr))), some (.int (m_i (x))), some (.int (m_i (e))), some (.int (m_i (1)))] [(.int (m_i (a_b (a_is (md_cf J M) (a_of (a_no (x, 0, 0, 0, e)))))))] (T, m_I ((md_put J M (a_of (a_no (x, 0, 0, 0, e))))), P, L, z, w) Q
          refine r_zeq (tgt := 122) eMd_seeksFrom_106 rfl ⟨(by omega), (by omega)⟩ (fun c106 => ?_) (fun c106 => ?_)
          · refine r_inc (ls' := [some (.ref M), some (.int (m_i (goal))), some (.int (m_i (lev))), some (.int (m_i (fr))), some (.int (m_i (x))), some (.int (m_i (e + 1))), some (.int (m_i (1)))]) eMd_seeksFrom_122 rfl rfl ?_
            refine r_go (tgt := 54) eMd_seeksFrom_125 rfl ?_
            first | exact ih (e + 1) _ _ (by omega) (by omega) hfx (s_I_skip (by omega) (by omega) hI (fun q => by have := q.1; omega)) | exact ih (e + 1) _ _ (by omega) (by omega) (hfx.put _) (s_I_put _ (s_I_skip (by omega) (by omega) hI (fun q => by have h9 := q.2.1; rw [← hfx.cf] at h9; rw [a_b_t h9] at c106; omega))) | exact ih (e + 1) _ _ (by omega) (by omega) ((hfx.put _).add _ _) (hadd c106).2 | (exfalso; omega)
          · refine r_aln eMd_seeksFrom_109 rfl ?_
            refine r_aln eMd_seeksFrom_110 rfl ?_
            refine r_il eMd_seeksFrom_111 rfl ?_
            refine r_il eMd_seeksFrom_113 rfl ?_
            refine r_vir eMd_seeksFrom_115 rfl rfl rfl hM.2.1 rfl rfl ?_
            refine c_Md_still hM ?_
            show m_wp en _ mMd_seeksFrom 118 [some (.ref M), some (.int (m_i (goal))), some (.int (m_i (lev))), some (.int (m_i (fr))), some (.int (m_i (x))), some (.int (m_i (e))), some (.int (m_i (1)))] [(.int (m_i (a_no (x, 0, 0, 0, e)))), (.ref M)] (T, m_I ((md_put J M (a_of (a_no (x, 0, 0, 0, e))))), P, L, z, w) Q
            refine r_con eMd_seeksFrom_118 ?_
            refine r_vir eMd_seeksFrom_119 rfl rfl rfl hM.2.1 rfl rfl ?_
            refine c_Md_adds hM hN (by omega) ?_ ?_ (fun hA => ?_) (fun hA => ?_)
            · rw [md_put_o J M _ (by omega)]; exact rok.1 _ (by omega)
            · intro q; rw [md_put_f J M _ (by omega)]; exact (hadd c106).1.2
            · rw [md_put_o J M _ (by omega), (hadd c106).1.1] at hA
              show m_wp en _ mMd_seeksFrom 122 [some (.ref M), some (.int (m_i (goal))), some (.int (m_i (lev))), some (.int (m_i (fr))), some (.int (m_i (x))), some (.int (m_i (e))), some (.int (m_i (1)))] [] (T, m_I ((md_put J M (a_of (a_no (x, 0, 0, 0, e))))), P, L, z, w) Q
              refine r_inc (ls' := [some (.ref M), some (.int (m_i (goal))), some (.int (m_i (lev))), some (.int (m_i (fr))), some (.int (m_i (x))), some (.int (m_i (e + 1))), some (.int (m_i (1)))]) eMd_seeksFrom_122 rfl rfl ?_
              refine r_go (tgt := 54) eMd_seeksFrom_125 rfl ?_
              first | exact ih (e + 1) _ _ (by omega) (by omega) hfx (s_I_skip (by omega) (by omega) hI (fun q => by have := q.1; omega)) | exact ih (e + 1) _ _ (by omega) (by omega) (hfx.put _) (s_I_put _ (s_I_skip (by omega) (by omega) hI (fun q => by have h9 := q.2.1; rw [← hfx.cf] at h9; rw [a_b_t h9] at c106; omega))) | exact ih (e + 1) _ _ (by omega) (by omega) ((hfx.put _).add _ _) (hadd c106).2 | (exfalso; omega)
            · show m_wp en _ mMd_seeksFrom 122 [some (.ref M), some (.int (m_i (goal))), some (.int (m_i (lev))), some (.int (m_i (fr))), some (.int (m_i (x))), some (.int (m_i (e))), some (.int (m_i (1)))] [] (T, m_I ((md_add ((md_put J M (a_of (a_no (x, 0, 0, 0, e))))) M (a_no (x, 0, 0, 0, e)) 0)), P, L, z, w) Q
              refine r_inc (ls' := [some (.ref M), some (.int (m_i (goal))), some (.int (m_i (lev))), some (.int (m_i (fr))), some (.int (m_i (x))), some (.int (m_i (e + 1))), some (.int (m_i (1)))]) eMd_seeksFrom_122 rfl rfl ?_
              refine r_go (tgt := 54) eMd_seeksFrom_125 rfl ?_
              first | exact ih (e + 1) _ _ (by omega) (by omega) hfx (s_I_skip (by omega) (by omega) hI (fun q => by have := q.1; omega)) | exact ih (e + 1) _ _ (by omega) (by omega) (hfx.put _) (s_I_put _ (s_I_skip (by omega) (by omega) hI (fun q => by have h9 := q.2.1; rw [← hfx.cf] at h9; rw [a_b_t h9] at c106; omega))) | exact ih (e + 1) _ _ (by omega) (by omega) ((hfx.put _).add _ _) (hadd c106).2 | (exfalso; omega)
      · refine r_iln eMd_seeksFrom_70 rfl ?_
        refine r_aln eMd_seeksFrom_71 rfl ?_
        refine r_il eMd_seeksFrom_72 rfl ?_
        refine r_il eMd_seeksFrom_74 rfl ?_
        refine r_vir eMd_seeksFrom_76 rfl rfl rfl hM.2.1 rfl rfl ?_
        refine c_Md_still hM ?_
        show m_wp en _ mMd_seeksFrom 79 [some (.ref M), some (.int (m_i (goal))), some (.int (m_i (lev))), some (.int (m_i (fr))), some (.int (m_i (x))), some (.int (m_i (e))), o6] [(.int (m_i (a_no (x, 0, 0, 0, e)))), (.int (m_i (goal)))] (T, m_I J, P, L, z, w) Q
        refine r_cne (tgt := 86) eMd_seeksFrom_79 rfl ⟨(by omega), (by omega)⟩ ⟨(by omega), (by omega)⟩ (fun c79 => ?_) (fun c79 => ?_)
        · refine r_con eMd_seeksFrom_86 ?_
          refine r_is (ls' := [some (.ref M), some (.int (m_i (goal))), some (.int (m_i (lev))), some (.int (m_i (fr))), some (.int (m_i (x))), some (.int (m_i (e))), some (.int (m_i (0)))]) eMd_seeksFrom_87 (Nat.le_of_ble_eq_true rfl) rfl ?_
          refine r_il eMd_seeksFrom_89 rfl ?_
          refine r_zeq (tgt := 122) eMd_seeksFrom_91 rfl ⟨(by omega), (by omega)⟩ (fun c91 => ?_) (fun c91 => ?_)
          · refine r_inc (ls' := [some (.ref M), some (.int (m_i (goal))), some (.int (m_i (lev))), some (.int (m_i (fr))), some (.int (m_i (x))), some (.int (m_i (e + 1))), some (.int (m_i (0)))]) eMd_seeksFrom_122 rfl rfl ?_
            refine r_go (tgt := 54) eMd_seeksFrom_125 rfl ?_
            first | exact ih (e + 1) _ _ (by omega) (by omega) hfx (s_I_skip (by omega) (by omega) hI (fun q => by have := q.1; omega)) | exact ih (e + 1) _ _ (by omega) (by omega) (hfx.put _) (s_I_put _ (s_I_skip (by omega) (by omega) hI (fun q => by have h9 := q.2.1; rw [← hfx.cf] at h9; rw [a_b_t h9] at c106; omega))) | exact ih (e + 1) _ _ (by omega) (by omega) ((hfx.put _).add _ _) (hadd c106).2 | (exfalso; omega)
          · have hg : goal = -1 ∨ goal = a_no (x, 0, 0, 0, e) := by omega
            have hadd := hadd1 hg
            refine r_aln eMd_seeksFrom_94 rfl ?_
            refine r_aln eMd_seeksFrom_95 rfl ?_
            refine r_il eMd_seeksFrom_96 rfl ?_
            refine r_il eMd_seeksFrom_98 rfl ?_
            refine r_vir eMd_seeksFrom_100 rfl rfl rfl hM.2.1 rfl rfl ?_
            refine c_Md_still hM ?_
            show m_wp en _ mMd_seeksFrom 103 [some (.ref M), some (.int (m_i (goal))), some (.int (m_i (lev))), some (.int (m_i (fr))), some (.int (m_i (x))), some (.int (m_i (e))), some (.int (m_i (0)))] [(.int (m_i (a_no (x, 0, 0, 0, e)))), (.ref M)] (T, m_I J, P, L, z, w) Q
            refine r_vir eMd_seeksFrom_103 rfl rfl rfl hM.2.1 rfl rfl ?_
            refine c_Md_doesStand hM okJ (by omega) (by omega) ?_
            show m_wp en _ mMd_seeksFrom 106 [some (.ref M), some (.int (m_i (goal))), some (.int (m_i (lev))), some (.int (m_i (fr))), some (.int (m_i (x))), some (.int (m_i (e))), some (.int (m_i (0)))] [(.int (m_i (a_b (a_is (md_cf J M) (a_of (a_no (x, 0, 0, 0, e)))))))] (T, m_I ((md_put J M (a_of (a_no (x, 0, 0, 0, e))))), P, L, z, w) Q
            refine r_zeq (tgt := 122) eMd_seeksFrom_106 rfl ⟨(by omega), (by omega)⟩ (fun c106 => ?_) (fun c106 => ?_)
            · refine r_inc (ls' := [some (.ref M), some (.int (m_i (goal))), some (.int (m_i (lev))), some (.int (m_i (fr))), some (.int (m_i (x))), some (.int (m_i (e + 1))), some (.int (m_i (0)))]) eMd_seeksFrom_122 rfl rfl ?_
              refine r_go (tgt := 54) eMd_seeksFrom_125 rfl ?_
              first | exact ih (e + 1) _ _ (by omega) (by omega) hfx (s_I_skip (by omega) (by omega) hI (fun q => by have := q.1; omega)) | exact ih (e + 1) _ _ (by omega) (by omega) (hfx.put _) (s_I_put _ (s_I_skip (by omega) (by omega) hI (fun q => by have h9 := q.2.1; rw [← hfx.cf] at h9; rw [a_b_t h9] at c106; omega))) | exact ih (e + 1) _ _ (by omega) (by omega) ((hfx.put _).add _ _) (hadd c106).2 | (exfalso; omega)
            · refine r_aln eMd_seeksFrom_109 rfl ?_
              refine r_aln eMd_seeksFrom_110 rfl ?_
              refine r_il eMd_seeksFrom_111 rfl ?_
              refine r_il eMd_seeksFrom_113 rfl ?_
              refine r_vir eMd_seeksFrom_115 rfl rfl rfl hM.2.1 rfl rfl ?_
              refine c_Md_still hM ?_
              show m_wp en _ mMd_seeksFrom 118 [some (.ref M), some (.int (m_i (goal))), some (.int (m_i (lev))), some (.int (m_i (fr))), some (.int (m_i (x))), some (.int (m_i (e))), some (.int (m_i (0)))] [(.int (m_i (a_no (x, 0, 0, 0, e)))), (.ref M)] (T, m_I ((md_put J M (a_of (a_no (x, 0, 0, 0, e))))), P, L, z, w) Q
              refine r_con eMd_seeksFrom_118 ?_
              refine r_vir eMd_seeksFrom_119 rfl rfl rfl hM.2.1 rfl rfl ?_
              refine c_Md_adds hM hN (by omega) ?_ ?_ (fun hA => ?_) (fun hA => ?_)
              · rw [md_put_o J M _ (by omega)]; exact rok.1 _ (by omega)
              · intro q; rw [md_put_f J M _ (by omega)]; exact (hadd c106).1.2
              · rw [md_put_o J M _ (by omega), (hadd c106).1.1] at hA
                show m_wp en _ mMd_seeksFrom 122 [some (.ref M), some (.int (m_i (goal))), some (.int (m_i (lev))), some (.int (m_i (fr))), some (.int (m_i (x))), some (.int (m_i (e))), some (.int (m_i (0)))] [] (T, m_I ((md_put J M (a_of (a_no (x, 0, 0, 0, e))))), P, L, z, w) Q
                refine r_inc (ls' := [some (.ref M), some (.int (m_i (goal))), some (.int (m_i (lev))), some (.int (m_i (fr))), some (.int (m_i (x))), some (.int (m_i (e + 1))), some (.int (m_i (0)))]) eMd_seeksFrom_122 rfl rfl ?_
                refine r_go (tgt := 54) eMd_seeksFrom_125 rfl ?_
                first | exact ih (e + 1) _ _ (by omega) (by omega) hfx (s_I_skip (by omega) (by omega) hI (fun q => by have := q.1; omega)) | exact ih (e + 1) _ _ (by omega) (by omega) (hfx.put _) (s_I_put _ (s_I_skip (by omega) (by omega) hI (fun q => by have h9 := q.2.1; rw [← hfx.cf] at h9; rw [a_b_t h9] at c106; omega))) | exact ih (e + 1) _ _ (by omega) (by omega) ((hfx.put _).add _ _) (hadd c106).2 | (exfalso; omega)
              · show m_wp en _ mMd_seeksFrom 122 [some (.ref M), some (.int (m_i (goal))), some (.int (m_i (lev))), some (.int (m_i (fr))), some (.int (m_i (x))), some (.int (m_i (e))), some (.int (m_i (0)))] [] (T, m_I ((md_add ((md_put J M (a_of (a_no (x, 0, 0, 0, e))))) M (a_no (x, 0, 0, 0, e)) 0)), P, L, z, w) Q
                refine r_inc (ls' := [some (.ref M), some (.int (m_i (goal))), some (.int (m_i (lev))), some (.int (m_i (fr))), some (.int (m_i (x))), some (.int (m_i (e + 1))), some (.int (m_i (0)))]) eMd_seeksFrom_122 rfl rfl ?_
                refine r_go (tgt := 54) eMd_seeksFrom_125 rfl ?_
                first | exact ih (e + 1) _ _ (by omega) (by omega) hfx (s_I_skip (by omega) (by omega) hI (fun q => by have := q.1; omega)) | exact ih (e + 1) _ _ (by omega) (by omega) (hfx.put _) (s_I_put _ (s_I_skip (by omega) (by omega) hI (fun q => by have h9 := q.2.1; rw [← hfx.cf] at h9; rw [a_b_t h9] at c106; omega))) | exact ih (e + 1) _ _ (by omega) (by omega) ((hfx.put _).add _ _) (hadd c106).2 | (exfalso; omega)
        · refine r_con eMd_seeksFrom_82 ?_
          refine r_go (tgt := 87) eMd_seeksFrom_83 rfl ?_
          refine r_is (ls' := [some (.ref M), some (.int (m_i (goal))), some (.int (m_i (lev))), some (.int (m_i (fr))), some (.int (m_i (x))), some (.int (m_i (e))), some (.int (m_i (1)))]) eMd_seeksFrom_87 (Nat.le_of_ble_eq_true rfl) rfl ?_
          refine r_il eMd_seeksFrom_89 rfl ?_
          refine r_zeq (tgt := 122) eMd_seeksFrom_91 rfl ⟨(by omega), (by omega)⟩ (fun c91 => ?_) (fun c91 => ?_)
          · refine r_inc (ls' := [some (.ref M), some (.int (m_i (goal))), some (.int (m_i (lev))), some (.int (m_i (fr))), some (.int (m_i (x))), some (.int (m_i (e + 1))), some (.int (m_i (1)))]) eMd_seeksFrom_122 rfl rfl ?_
            refine r_go (tgt := 54) eMd_seeksFrom_125 rfl ?_
            first | exact ih (e + 1) _ _ (by omega) (by omega) hfx (s_I_skip (by omega) (by omega) hI (fun q => by have := q.1; omega)) | exact ih (e + 1) _ _ (by omega) (by omega) (hfx.put _) (s_I_put _ (s_I_skip (by omega) (by omega) hI (fun q => by have h9 := q.2.1; rw [← hfx.cf] at h9; rw [a_b_t h9] at c106; omega))) | exact ih (e + 1) _ _ (by omega) (by omega) ((hfx.put _).add _ _) (hadd c106).2 | (exfalso; omega)
          · have hg : goal = -1 ∨ goal = a_no (x, 0, 0, 0, e) := by omega
            have hadd := hadd1 hg
            refine r_aln eMd_seeksFrom_94 rfl ?_
            refine r_aln eMd_seeksFrom_95 rfl ?_
            refine r_il eMd_seeksFrom_96 rfl ?_
            refine r_il eMd_seeksFrom_98 rfl ?_
            refine r_vir eMd_seeksFrom_100 rfl rfl rfl hM.2.1 rfl rfl ?_
            refine c_Md_still hM ?_
            show m_wp en _ mMd_seeksFrom 103 [some (.ref M), some (.int (m_i (goal))), some (.int (m_i (lev))), some (.int (m_i (fr))), some (.int (m_i (x))), some (.int (m_i (e))), some (.int (m_i (1)))] [(.int (m_i (a_no (x, 0, 0, 0, e)))), (.ref M)] (T, m_I J, P, L, z, w) Q
            refine r_vir eMd_seeksFrom_103 rfl rfl rfl hM.2.1 rfl rfl ?_
            refine c_Md_doesStand hM okJ (by omega) (by omega) ?_
            show m_wp en _ mMd_seeksFrom 106 [some (.ref M), some (.int (m_i (goal))), some (.int (m_i (lev))), some (.int (m_i (fr))), some (.int (m_i (x))), some (.int (m_i (e))), some (.int (m_i (1)))] [(.int (m_i (a_b (a_is (md_cf J M) (a_of (a_no (x, 0, 0, 0, e)))))))] (T, m_I ((md_put J M (a_of (a_no (x, 0, 0, 0, e))))), P, L, z, w) Q
            refine r_zeq (tgt := 122) eMd_seeksFrom_106 rfl ⟨(by omega), (by omega)⟩ (fun c106 => ?_) (fun c106 => ?_)
            · refine r_inc (ls' := [some (.ref M), some (.int (m_i (goal))), some (.int (m_i (lev))), some (.int (m_i (fr))), some (.int (m_i (x))), some (.int (m_i (e + 1))), some (.int (m_i (1)))]) eMd_seeksFrom_122 rfl rfl ?_
              refine r_go (tgt := 54) eMd_seeksFrom_125 rfl ?_
              first | exact ih (e + 1) _ _ (by omega) (by omega) hfx (s_I_skip (by omega) (by omega) hI (fun q => by have := q.1; omega)) | exact ih (e + 1) _ _ (by omega) (by omega) (hfx.put _) (s_I_put _ (s_I_skip (by omega) (by omega) hI (fun q => by have h9 := q.2.1; rw [← hfx.cf] at h9; rw [a_b_t h9] at c106; omega))) | exact ih (e + 1) _ _ (by omega) (by omega) ((hfx.put _).add _ _) (hadd c106).2 | (exfalso; omega)
            · refine r_aln eMd_seeksFrom_109 rfl ?_
              refine r_aln eMd_seeksFrom_110 rfl ?_
              refine r_il eMd_seeksFrom_111 rfl ?_
              refine r_il eMd_seeksFrom_113 rfl ?_
              refine r_vir eMd_seeksFrom_115 rfl rfl rfl hM.2.1 rfl rfl ?_
              refine c_Md_still hM ?_
              show m_wp en _ mMd_seeksFrom 118 [some (.ref M), some (.int (m_i (goal))), some (.int (m_i (lev))), some (.int (m_i (fr))), some (.int (m_i (x))), some (.int (m_i (e))), some (.int (m_i (1)))] [(.int (m_i (a_no (x, 0, 0, 0, e)))), (.ref M)] (T, m_I ((md_put J M (a_of (a_no (x, 0, 0, 0, e))))), P, L, z, w) Q
              refine r_con eMd_seeksFrom_118 ?_
              refine r_vir eMd_seeksFrom_119 rfl rfl rfl hM.2.1 rfl rfl ?_
              refine c_Md_adds hM hN (by omega) ?_ ?_ (fun hA => ?_) (fun hA => ?_)
              · rw [md_put_o J M _ (by omega)]; exact rok.1 _ (by omega)
              · intro q; rw [md_put_f J M _ (by omega)]; exact (hadd c106).1.2
              · rw [md_put_o J M _ (by omega), (hadd c106).1.1] at hA
                show m_wp en _ mMd_seeksFrom 122 [some (.ref M), some (.int (m_i (goal))), some (.int (m_i (lev))), some (.int (m_i (fr))), some (.int (m_i (x))), some (.int (m_i (e))), some (.int (m_i (1)))] [] (T, m_I ((md_put J M (a_of (a_no (x, 0, 0, 0, e))))), P, L, z, w) Q
                refine r_inc (ls' := [some (.ref M), some (.int (m_i (goal))), some (.int (m_i (lev))), some (.int (m_i (fr))), some (.int (m_i (x))), some (.int (m_i (e + 1))), some (.int (m_i (1)))]) eMd_seeksFrom_122 rfl rfl ?_
                refine r_go (tgt := 54) eMd_seeksFrom_125 rfl ?_
                first | exact ih (e + 1) _ _ (by omega) (by omega) hfx (s_I_skip (by omega) (by omega) hI (fun q => by have := q.1; omega)) | exact ih (e + 1) _ _ (by omega) (by omega) (hfx.put _) (s_I_put _ (s_I_skip (by omega) (by omega) hI (fun q => by have h9 := q.2.1; rw [← hfx.cf] at h9; rw [a_b_t h9] at c106; omega))) | exact ih (e + 1) _ _ (by omega) (by omega) ((hfx.put _).add _ _) (hadd c106).2 | (exfalso; omega)
              · show m_wp en _ mMd_seeksFrom 122 [some (.ref M), some (.int (m_i (goal))), some (.int (m_i (lev))), some (.int (m_i (fr))), some (.int (m_i (x))), some (.int (m_i (e))), some (.int (m_i (1)))] [] (T, m_I ((md_add ((md_put J M (a_of (a_no (x, 0, 0, 0, e))))) M (a_no (x, 0, 0, 0, e)) 0)), P, L, z, w) Q
                refine r_inc (ls' := [some (.ref M), some (.int (m_i (goal))), some (.int (m_i (lev))), some (.int (m_i (fr))), some (.int (m_i (x))), some (.int (m_i (e + 1))), some (.int (m_i (1)))]) eMd_seeksFrom_122 rfl rfl ?_
                refine r_go (tgt := 54) eMd_seeksFrom_125 rfl ?_
                first | exact ih (e + 1) _ _ (by omega) (by omega) hfx (s_I_skip (by omega) (by omega) hI (fun q => by have := q.1; omega)) | exact ih (e + 1) _ _ (by omega) (by omega) (hfx.put _) (s_I_put _ (s_I_skip (by omega) (by omega) hI (fun q => by have h9 := q.2.1; rw [← hfx.cf] at h9; rw [a_b_t h9] at c106; omega))) | exact ih (e + 1) _ _ (by omega) (by omega) ((hfx.put _).add _ _) (hadd c106).2 | (exfalso; omega)
theorem l_Md_sf4 (hM : md_sh en M T P) (ok : a_ok (md_cf J0 M)) {goal lev fr : Int} (hgoal : m_in goal) (hlev : lev = 0 ∨ lev = 1) (hfr : 0 ≤ fr ∧ fr ≤ 38880) (hbd : ∀ t n, b_D (s_S (md_cf J0 M) goal) (s_E (md_cf J0 M) lev) t n → (∀ t', b_D (s_S (md_cf J0 M) goal) (s_E (md_cf J0 M) lev) t' n → t ≤ t') → t < 29999)
    (hq : ∀ (J : Nat → Nat → Int) (k : Nat), md_fs J0 J M → rw_ok J M → b_I (s_S (md_cf J0 M) goal) (s_E (md_cf J0 M) lev) (rf J M) (rq J M) (J M 42).toNat k → (k = (J M 42).toNat ∨ (fr ≠ 38880 ∧ J (M + 20) fr.toNat ≠ 30000)) → Q none (T, m_I J, P, L, z, w)) :
    ∀ (n : Nat) (x : Int) (J : Nat → Nat → Int) (o5 o6 : Option Value), x + n = J0 (M + 2) 0 → 0 ≤ x → md_fs J0 J M → s_I (md_cf J0 M) goal J M x 1 → m_wp en (d + 5) mMd_seeksFrom 40 [some (.ref M), some (.int (m_i goal)), some (.int (m_i lev)), some (.int (m_i fr)), some (.int (m_i x)), o5, o6] [] (T, m_I J, P, L, z, w) Q := by
  have k1 : 4 ≤ J0 (M + 2) 0 ∧ J0 (M + 2) 0 ≤ 16 := ok.1
  have k2 : 2 ≤ J0 (M + 2) 1 ∧ J0 (M + 2) 1 ≤ 6 := ok.2.1
  intro n
  induction n with
  | zero =>
    intro x J o5 o6 hn hx hfx hI
    have e1 : J (M + 2) 0 = J0 (M + 2) 0 := hfx (M + 2) 0 (by omega) (by omega) (by omega)
    obtain rfl : x = J0 (M + 2) 0 := by omega
    have hb := s_I_b (lev := lev) hI (fun n h => s_I_all h)
    refine r_il eMd_seeksFrom_40 rfl ?_
    refine r_aln eMd_seeksFrom_42 rfl ?_
    refine m_getR eMd_seeksFrom_43 rfl hM.2.1 (md_number_p hM) ?_
    refine r_con eMd_seeksFrom_46 ?_
    refine r_ialde (x := J (M + 2) 0) eMd_seeksFrom_47 (md_number_t hM) (by decide) (by omega) (by omega) rfl ?_
    refine r_cge (tgt := 134) eMd_seeksFrom_48 rfl ⟨(by omega), (by omega)⟩ ⟨(by omega), (by omega)⟩ (fun c48 => ?_) (fun c48 => ?_)
    · refine r_con eMd_seeksFrom_134 ?_
      refine r_is (ls' := [some (.ref M), some (.int (m_i (goal))), some (.int (m_i (lev))), some (.int (m_i (fr))), some (.int (m_i (0))), o5, o6]) eMd_seeksFrom_135 (Nat.le_of_ble_eq_true rfl) rfl ?_
      exact l_Md_seeksFrom2 (d := d + 1) hM ok hlev hfr hbd hq 38881 0 J _ (by omega) hfx hI.1 hb
    · exfalso; omega
  | succ n ih =>
    intro x J o5 o6 hn hx hfx hI
    have e1 : J (M + 2) 0 = J0 (M + 2) 0 := hfx (M + 2) 0 (by omega) (by omega) (by omega)
    refine r_il eMd_seeksFrom_40 rfl ?_
    refine r_aln eMd_seeksFrom_42 rfl ?_
    refine m_getR eMd_seeksFrom_43 rfl hM.2.1 (md_number_p hM) ?_
    refine r_con eMd_seeksFrom_46 ?_
    refine r_ialde (x := J (M + 2) 0) eMd_seeksFrom_47 (md_number_t hM) (by decide) (by omega) (by omega) rfl ?_
    refine r_cge (tgt := 134) eMd_seeksFrom_48 rfl ⟨(by omega), (by omega)⟩ ⟨(by omega), (by omega)⟩ (fun c48 => ?_) (fun c48 => ?_)
    · exfalso; omega
    · refine r_con eMd_seeksFrom_51 ?_
      refine r_is (ls' := [some (.ref M), some (.int (m_i (goal))), some (.int (m_i (lev))), some (.int (m_i (fr))), some (.int (m_i (x))), some (.int (m_i (1))), o6]) eMd_seeksFrom_52 (Nat.le_of_ble_eq_true rfl) rfl ?_
      exact l_Md_sf3 hM ok (by omega) hgoal (fun J' a b f1 f2 => ih (x + 1) J' a b (by omega) (by omega) f1 f2) (J0 (M + 2) 1).toNat 1 J _ (by omega) (by omega) hfx hI
end MDN
