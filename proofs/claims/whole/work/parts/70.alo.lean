/-! along, safe of the reference -/
/-- what is noted of a state on the way -/
def a_al1 (C : a_C) (all n st : Int) (v : a_S) : a_S := if 0 < n ∨ all = 0 then (a_gt v.1 (a_abs (a_of st).2.2.1), a_gt v.2.1 (a_abs (a_of st).2.1), v.2.2.1, v.2.2.2.1, a_mn (C.2.2.2.2.2 ((a_of st).1 + (a_of st).2.2.1) - (a_of st).2.2.2.2) v.2.2.2.2) else v
def a_al2 (c : Int) (v : a_S) : a_S := (v.1, v.2.1, v.2.2.1 + (if c / 3 = 1 then 0 else 1), v.2.2.2.1 + (if c % 3 = 1 then 0 else 1), v.2.2.2.2)
def s_alg (C : a_C) (goal all : Int) : Nat → Int → Int → a_S → a_S → Prop
  | 0, n, st, v, r => r = a_al1 C all n st v
  | k + 1, n, st, v, r => ∃ c, s_first C goal st c ∧ s_alg C goal all k (n + 1) (a_no (a_step (a_of st) c 0)) (a_al2 c (a_al1 C all n st v)) r
/-- bounds of what is noted -/
def a_alb (n : Int) (v : a_S) : Prop := (0 ≤ v.1 ∧ v.1 ≤ 100) ∧ (0 ≤ v.2.1 ∧ v.2.1 ≤ 100) ∧ (0 ≤ v.2.2.1 ∧ v.2.2.1 ≤ n) ∧ (0 ≤ v.2.2.2.1 ∧ v.2.2.2.1 ≤ n) ∧ -100 ≤ v.2.2.2.2 ∧ v.2.2.2.2 ≤ 30000
theorem a_why_fb {C : a_C} (ok : a_ok C) {σ : a_S} (h : a_why C σ = 0) : (0 ≤ σ.1 + σ.2.2.1 ∧ σ.1 + σ.2.2.1 < 16) ∧ 0 ≤ C.2.2.2.2.2 (σ.1 + σ.2.2.1) ∧ C.2.2.2.2.2 (σ.1 + σ.2.2.1) ≤ 6 := by
  obtain ⟨g1, g2, g3, g4, g5, g6⟩ := a_why_0 h
  have k1 := ok.1
  exact ⟨by omega, ok.2.2.2.2.2 _ g5.1 (by omega)⟩
theorem a_al1_bd {C : a_C} (ok : a_ok C) {all n st : Int} {v : a_S} (hst : 0 ≤ st ∧ st < 38880) (hw : a_why C (a_of st) = 0) (h : a_alb n v) : a_alb n (a_al1 C all n st v) := by
  have hbx := a_of_bx hst.1 hst.2
  have f := a_why_fb ok hw
  have a1 := a_abs_sm hbx
  have a2 : 0 ≤ a_abs (a_of st).2.1 ∧ a_abs (a_of st).2.1 ≤ 2 := by
    have := hbx.2.1
    unfold a_abs
    split <;> omega
  have a5 := hbx.2.2.2.2
  obtain ⟨h1, h2, h3, h4, h5⟩ := h
  unfold a_al1
  split
  · refine ⟨a_gt_bd h1 (by omega), a_gt_bd h2 (by omega), h3, h4, ?_⟩
    show -100 ≤ a_mn _ _ ∧ a_mn _ _ ≤ 30000
    unfold a_mn
    split <;> omega
  · exact ⟨h1, h2, h3, h4, h5⟩
theorem a_al2_bd {c n : Int} {v : a_S} (h : a_alb n v) : a_alb (n + 1) (a_al2 c v) := by
  obtain ⟨h1, h2, h3, h4, h5⟩ := h
  refine ⟨h1, h2, ?_, ?_, h5⟩
  · show 0 ≤ v.2.2.1 + (if c / 3 = 1 then 0 else 1) ∧ v.2.2.1 + (if c / 3 = 1 then 0 else 1) ≤ n + 1
    split <;> omega
  · show 0 ≤ v.2.2.2.1 + (if c % 3 = 1 then 0 else 1) ∧ v.2.2.2.1 + (if c % 3 = 1 then 0 else 1) ≤ n + 1
    split <;> omega
theorem a_alb_0 : a_alb 0 (0, 0, 0, 0, 30000) := by
  unfold a_alb
  simp only
  omega
section MDAL
variable {en : Nat → Nat} {d : Nat} {T : Nat → Option (Nat × Nat)} {J J0 J1 : Nat → Nat → Int} {P : Nat → Nat → Option Nat} {L : Nat → Nat → Int64} {z w M : Nat} {Q : m_Q} {σ : a_S}
theorem l_Md_alA (hM : md_sh en M T P) (ok : a_ok (md_cf J1 M)) {sp what all st sw fa pu ho ro n : Int} {o11 : Option Value} (hst : 0 ≤ st ∧ st < 38880) (hw : a_why (md_cf J1 M) (a_of st) = 0) (hb : a_alb n (sw, fa, pu, ho, ro))
    (hq : ∀ o, m_wp en (d + 1) mMd_along 161 [some (.ref M), some (.int (m_i sp)), some (.int (m_i what)), some (.int (m_i all)), some (.int (m_i st)), some (.int (m_i (a_gt sw (a_abs (a_of st).2.2.1)))), some (.int (m_i (a_gt fa (a_abs (a_of st).2.1)))), some (.int (m_i pu)), some (.int (m_i ho)), some (.int (m_i (a_mn ((md_cf J1 M).2.2.2.2.2 ((a_of st).1 + (a_of st).2.2.1) - (a_of st).2.2.2.2) ro))), some (.int (m_i n)), o] [] (T, m_I (md_put J1 M (a_of st)), P, L, z, w) Q) :
    m_wp en (d + 1) mMd_along 94 [some (.ref M), some (.int (m_i sp)), some (.int (m_i what)), some (.int (m_i all)), some (.int (m_i st)), some (.int (m_i sw)), some (.int (m_i fa)), some (.int (m_i pu)), some (.int (m_i ho)), some (.int (m_i ro)), some (.int (m_i n)), o11] [] (T, m_I (md_put J1 M (a_of st)), P, L, z, w) Q := by
  have hbx := a_of_bx hst.1 hst.2
  have f : _ ∧ 0 ≤ J1 (M + 19) ((a_of st).1 + (a_of st).2.2.1).toNat ∧ J1 (M + 19) ((a_of st).1 + (a_of st).2.2.1).toNat ≤ 6 := a_why_fb ok hw
  have a1 := a_abs_sm hbx
  have a2 : 0 ≤ a_abs (a_of st).2.1 ∧ a_abs (a_of st).2.1 ≤ 2 := by
    have := hbx.2.1
    unfold a_abs
    split <;> omega
  obtain ⟨k1, k2, k3, k4, k5⟩ := hbx
  obtain ⟨h1, h2, h3, h4, h5⟩ := hb
  simp only at h1 h2 h3 h4 h5
  have hq' : ∀ o x, x = a_mn (J1 (M + 19) ((a_of st).1 + (a_of st).2.2.1).toNat - (a_of st).2.2.2.2) ro → m_wp en (d + 1) mMd_along 161 [some (.ref M), some (.int (m_i sp)), some (.int (m_i what)), some (.int (m_i all)), some (.int (m_i st)), some (.int (m_i (a_gt sw (a_abs (a_of st).2.2.1)))), some (.int (m_i (a_gt fa (a_abs (a_of st).2.1)))), some (.int (m_i pu)), some (.int (m_i ho)), some (.int (m_i x)), some (.int (m_i n)), o] [] (T, m_I (md_put J1 M (a_of st)), P, L, z, w) Q := fun o x hx => by
    rw [hx]
    exact hq o
  refine r_aln eMd_along_94 rfl ?_
  refine r_il eMd_along_95 rfl ?_
  refine r_aln eMd_along_97 rfl ?_
  refine r_gete (x := ((a_of st)).2.2.1) eMd_along_98 rfl (by decide) hM.2.1 (by simp [m_up, md_put_at, m_fl]) ?_
  refine r_sta eMd_along_101 rfl rfl (by decide) rfl ?_
  refine c_Md_without ⟨by omega, by omega⟩ ?_
  show m_wp en _ mMd_along 104 [some (.ref M), some (.int (m_i (sp))), some (.int (m_i (what))), some (.int (m_i (all))), some (.int (m_i (st))), some (.int (m_i (sw))), some (.int (m_i (fa))), some (.int (m_i (pu))), some (.int (m_i (ho))), some (.int (m_i (ro))), some (.int (m_i (n))), o11] [(.int (m_i (a_abs (((a_of st)).2.2.1)))), (.int (m_i (sw))), (.ref M)] (T, m_I ((md_put J1 M (a_of st))), P, L, z, w) Q
  refine r_vir eMd_along_104 rfl rfl rfl hM.2.1 rfl rfl ?_
  refine c_Md_greater hM (by unfold m_in; omega) (by unfold m_in; omega) ?_
  show m_wp en _ mMd_along 107 [some (.ref M), some (.int (m_i (sp))), some (.int (m_i (what))), some (.int (m_i (all))), some (.int (m_i (st))), some (.int (m_i (sw))), some (.int (m_i (fa))), some (.int (m_i (pu))), some (.int (m_i (ho))), some (.int (m_i (ro))), some (.int (m_i (n))), o11] [(.int (m_i (a_gt (sw) ((a_abs (((a_of st)).2.2.1))))))] (T, m_I ((md_put J1 M (a_of st))), P, L, z, w) Q
  refine r_is (ls' := [some (.ref M), some (.int (m_i (sp))), some (.int (m_i (what))), some (.int (m_i (all))), some (.int (m_i (st))), some (.int (m_i (a_gt (sw) ((a_abs (((a_of st)).2.2.1)))))), some (.int (m_i (fa))), some (.int (m_i (pu))), some (.int (m_i (ho))), some (.int (m_i (ro))), some (.int (m_i (n))), o11]) eMd_along_107 (Nat.le_of_ble_eq_true rfl) rfl ?_
  refine r_aln eMd_along_109 rfl ?_
  refine r_il eMd_along_110 rfl ?_
  refine r_aln eMd_along_112 rfl ?_
  refine r_gete (x := ((a_of st)).2.1) eMd_along_113 rfl (by decide) hM.2.1 (by simp [m_up, md_put_at, m_fl]) ?_
  refine r_sta eMd_along_116 rfl rfl (by decide) rfl ?_
  refine c_Md_without ⟨by omega, by omega⟩ ?_
  show m_wp en _ mMd_along 119 [some (.ref M), some (.int (m_i (sp))), some (.int (m_i (what))), some (.int (m_i (all))), some (.int (m_i (st))), some (.int (m_i (a_gt (sw) ((a_abs (((a_of st)).2.2.1)))))), some (.int (m_i (fa))), some (.int (m_i (pu))), some (.int (m_i (ho))), some (.int (m_i (ro))), some (.int (m_i (n))), o11] [(.int (m_i (a_abs (((a_of st)).2.1)))), (.int (m_i (fa))), (.ref M)] (T, m_I ((md_put J1 M (a_of st))), P, L, z, w) Q
  refine r_vir eMd_along_119 rfl rfl rfl hM.2.1 rfl rfl ?_
  refine c_Md_greater hM (by unfold m_in; omega) (by unfold m_in; omega) ?_
  show m_wp en _ mMd_along 122 [some (.ref M), some (.int (m_i (sp))), some (.int (m_i (what))), some (.int (m_i (all))), some (.int (m_i (st))), some (.int (m_i (a_gt (sw) ((a_abs (((a_of st)).2.2.1)))))), some (.int (m_i (fa))), some (.int (m_i (pu))), some (.int (m_i (ho))), some (.int (m_i (ro))), some (.int (m_i (n))), o11] [(.int (m_i (a_gt (fa) ((a_abs (((a_of st)).2.1))))))] (T, m_I ((md_put J1 M (a_of st))), P, L, z, w) Q
  refine r_is (ls' := [some (.ref M), some (.int (m_i (sp))), some (.int (m_i (what))), some (.int (m_i (all))), some (.int (m_i (st))), some (.int (m_i (a_gt (sw) ((a_abs (((a_of st)).2.2.1)))))), some (.int (m_i (a_gt (fa) ((a_abs (((a_of st)).2.1)))))), some (.int (m_i (pu))), some (.int (m_i (ho))), some (.int (m_i (ro))), some (.int (m_i (n))), o11]) eMd_along_122 (Nat.le_of_ble_eq_true rfl) rfl ?_
  refine r_aln eMd_along_124 rfl ?_
  refine m_getR eMd_along_125 rfl hM.2.1 (md_freeIn_p hM) ?_
  refine r_aln eMd_along_128 rfl ?_
  refine r_gete (x := ((a_of st)).1) eMd_along_129 rfl (by decide) hM.2.1 (by simp [m_up, md_put_at, m_fl]) ?_
  refine r_aln eMd_along_132 rfl ?_
  refine r_gete (x := ((a_of st)).2.2.1) eMd_along_133 rfl (by decide) hM.2.1 (by simp [m_up, md_put_at, m_fl]) ?_
  refine r_add eMd_along_136 ?_
  refine r_ialde (x := J1 (M + 19) (((((a_of st)).1) + (((a_of st)).2.2.1)).toNat)) eMd_along_137 (md_freeIn_t hM) (by decide) (by omega) (by omega) (by simp [m_up, md_put_at, m_fl]) ?_
  refine r_aln eMd_along_138 rfl ?_
  refine r_gete (x := ((a_of st)).2.2.2.2) eMd_along_139 rfl (by decide) hM.2.1 (by simp [m_up, md_put_at, m_fl]) ?_
  refine r_sub eMd_along_142 ?_
  refine r_is (ls' := [some (.ref M), some (.int (m_i (sp))), some (.int (m_i (what))), some (.int (m_i (all))), some (.int (m_i (st))), some (.int (m_i (a_gt (sw) ((a_abs (((a_of st)).2.2.1)))))), some (.int (m_i (a_gt (fa) ((a_abs (((a_of st)).2.1)))))), some (.int (m_i (pu))), some (.int (m_i (ho))), some (.int (m_i (ro))), some (.int (m_i (n))), some (.int (m_i ((J1 (M + 19) (((((a_of st)).1) + (((a_of st)).2.2.1)).toNat)) - (((a_of st)).2.2.2.2))))]) eMd_along_143 (Nat.le_of_ble_eq_true rfl) rfl ?_
  refine r_il eMd_along_145 rfl ?_
  refine r_il eMd_along_147 rfl ?_
  refine r_cge (tgt := 157) eMd_along_149 rfl ⟨(by omega), (by omega)⟩ ⟨(by omega), (by omega)⟩ (fun c149 => ?_) (fun c149 => ?_)
  · refine r_il eMd_along_157 rfl ?_
    refine r_is (ls' := [some (.ref M), some (.int (m_i (sp))), some (.int (m_i (what))), some (.int (m_i (all))), some (.int (m_i (st))), some (.int (m_i (a_gt (sw) ((a_abs (((a_of st)).2.2.1)))))), some (.int (m_i (a_gt (fa) ((a_abs (((a_of st)).2.1)))))), some (.int (m_i (pu))), some (.int (m_i (ho))), some (.int (m_i (ro))), some (.int (m_i (n))), some (.int (m_i ((J1 (M + 19) (((((a_of st)).1) + (((a_of st)).2.2.1)).toNat)) - (((a_of st)).2.2.2.2))))]) eMd_along_159 (Nat.le_of_ble_eq_true rfl) rfl ?_
    first | exact hq' _ _ (a_mn_l (by omega)).symm | exact hq' _ _ (a_mn_r (by omega)).symm
  · refine r_il eMd_along_152 rfl ?_
    refine r_go (tgt := 159) eMd_along_154 rfl ?_
    refine r_is (ls' := [some (.ref M), some (.int (m_i (sp))), some (.int (m_i (what))), some (.int (m_i (all))), some (.int (m_i (st))), some (.int (m_i (a_gt (sw) ((a_abs (((a_of st)).2.2.1)))))), some (.int (m_i (a_gt (fa) ((a_abs (((a_of st)).2.1)))))), some (.int (m_i (pu))), some (.int (m_i (ho))), some (.int (m_i ((J1 (M + 19) (((((a_of st)).1) + (((a_of st)).2.2.1)).toNat)) - (((a_of st)).2.2.2.2)))), some (.int (m_i (n))), some (.int (m_i ((J1 (M + 19) (((((a_of st)).1) + (((a_of st)).2.2.1)).toNat)) - (((a_of st)).2.2.2.2))))]) eMd_along_159 (Nat.le_of_ble_eq_true rfl) rfl ?_
    first | exact hq' _ _ (a_mn_l (by omega)).symm | exact hq' _ _ (a_mn_r (by omega)).symm
/-- the state of the way is noted -/
theorem l_Md_alB (hM : md_sh en M T P) (ok : a_ok (md_cf J1 M)) {sp what all st n : Int} {v : a_S} {o11 : Option Value} (hst : 0 ≤ st ∧ st < 38880) (hw : a_why (md_cf J1 M) (a_of st) = 0) (hn : 0 ≤ n ∧ n ≤ all ∧ all < 30000) (hb : a_alb n v)
    (hq : ∀ o u, u = a_al1 (md_cf J1 M) all n st v → m_wp en (d + 1) mMd_along 161 [some (.ref M), some (.int (m_i sp)), some (.int (m_i what)), some (.int (m_i all)), some (.int (m_i st)), some (.int (m_i u.1)), some (.int (m_i u.2.1)), some (.int (m_i u.2.2.1)), some (.int (m_i u.2.2.2.1)), some (.int (m_i u.2.2.2.2)), some (.int (m_i n)), o] [] (T, m_I (md_put J1 M (a_of st)), P, L, z, w) Q) :
    m_wp en (d + 1) mMd_along 79 [some (.ref M), some (.int (m_i sp)), some (.int (m_i what)), some (.int (m_i all)), some (.int (m_i st)), some (.int (m_i v.1)), some (.int (m_i v.2.1)), some (.int (m_i v.2.2.1)), some (.int (m_i v.2.2.2.1)), some (.int (m_i v.2.2.2.2)), some (.int (m_i n)), o11] [] (T, m_I (md_put J1 M σ), P, L, z, w) Q := by
  obtain ⟨sw, fa, pu, ho, ro⟩ := v
  refine r_aln eMd_along_79 rfl ?_
  refine r_il eMd_along_80 rfl ?_
  refine r_vir eMd_along_82 rfl rfl rfl hM.2.1 rfl rfl ?_
  refine s_Md_lays hM (by omega) (by omega) ?_
  show m_wp en _ mMd_along 85 [some (.ref M), some (.int (m_i (sp))), some (.int (m_i (what))), some (.int (m_i (all))), some (.int (m_i (st))), some (.int (m_i (sw))), some (.int (m_i (fa))), some (.int (m_i (pu))), some (.int (m_i (ho))), some (.int (m_i (ro))), some (.int (m_i (n))), o11] [] (T, m_I ((md_put J1 M (a_of st))), P, L, z, w) Q
  refine r_il eMd_along_85 rfl ?_
  refine r_zgt (tgt := 94) eMd_along_87 rfl ⟨(by omega), (by omega)⟩ (fun c87 => ?_) (fun c87 => ?_)
  · refine l_Md_alA hM ok hst hw hb (fun o => hq o _ (if_pos ?_).symm)
    omega
  · refine r_iln eMd_along_90 rfl ?_
    refine r_zne (tgt := 161) eMd_along_91 rfl ⟨(by omega), (by omega)⟩ (fun c91 => ?_) (fun c91 => ?_)
    · exact hq _ _ (if_neg (by omega)).symm
    · refine l_Md_alA hM ok hst hw hb (fun o => hq o _ (if_pos ?_).symm)
      omega
/-- a step of the way -/
theorem l_Md_alC (hM : md_sh en M T P) (ok : a_ok (md_cf J M)) {sp what all st n goal : Int} {u : a_S} {o11 : Option Value} (hK : s_Kn J J1 M goal 0) (hst : 0 ≤ st ∧ st < 38880) (hn : 0 ≤ n ∧ n < all ∧ all < 30000) (hf : J1 (M + 20) st.toNat = all - n)
    (hq : ∀ c σ', s_first (md_cf J M) goal st c → a_is (md_cf J M) (a_step (a_of st) c 0) = true → (0 ≤ a_no (a_step (a_of st) c 0) ∧ a_no (a_step (a_of st) c 0) < 38880) → J1 (M + 20) (a_no (a_step (a_of st) c 0)).toNat = J1 (M + 20) st.toNat - 1 → m_wp en (d + 5) mMd_along 73 [some (.ref M), some (.int (m_i sp)), some (.int (m_i what)), some (.int (m_i all)), some (.int (m_i (a_no (a_step (a_of st) c 0)))), some (.int (m_i u.1)), some (.int (m_i u.2.1)), some (.int (m_i (u.2.2.1 + (if c / 3 = 1 then 0 else 1)))), some (.int (m_i (u.2.2.2.1 + (if c % 3 = 1 then 0 else 1)))), some (.int (m_i u.2.2.2.2)), some (.int (m_i (n + 1))), some (.int (m_i c))] [] (T, m_I (md_put J1 M σ'), P, L, z, w) Q) :
    m_wp en (d + 5) mMd_along 161 [some (.ref M), some (.int (m_i sp)), some (.int (m_i what)), some (.int (m_i all)), some (.int (m_i st)), some (.int (m_i u.1)), some (.int (m_i u.2.1)), some (.int (m_i u.2.2.1)), some (.int (m_i u.2.2.2.1)), some (.int (m_i u.2.2.2.2)), some (.int (m_i n)), o11] [] (T, m_I (md_put J1 M σ), P, L, z, w) Q := by
  refine r_il eMd_along_161 rfl ?_
  refine r_iln eMd_along_163 rfl ?_
  refine r_cne (tgt := 170) eMd_along_164 rfl ⟨(by omega), (by omega)⟩ ⟨(by omega), (by omega)⟩ (fun c164 => ?_) (fun c164 => ?_)
  · refine r_aln eMd_along_170 rfl ?_
    refine r_il eMd_along_171 rfl ?_
    refine r_vir eMd_along_173 rfl rfl rfl hM.2.1 rfl rfl ?_
    refine k_Md_firstStep hM ok hK hst (by omega) (by omega) (fun c σ' hfst => ?_)
    · have hnr := (s_near_nr ok hK hst (by omega) (by omega) c).2 hfst.2.1
      have hNb := a_no_bd (a_is_bx ok hnr.1)
      have hnr2 := hnr.2
      have hc9 := hfst.1
      have hq2 := hq c (a_step (a_of st) c 0) hfst hnr.1 hNb hnr2
      show m_wp en _ mMd_along 176 [some (.ref M), some (.int (m_i (sp))), some (.int (m_i (what))), some (.int (m_i (all))), some (.int (m_i (st))), some (.int (m_i (u.1))), some (.int (m_i (u.2.1))), some (.int (m_i (u.2.2.1))), some (.int (m_i (u.2.2.2.1))), some (.int (m_i (u.2.2.2.2))), some (.int (m_i (n))), o11] [(.int (m_i (c)))] (T, m_I ((md_put J1 M σ')), P, L, z, w) Q
      refine r_is (ls' := [some (.ref M), some (.int (m_i (sp))), some (.int (m_i (what))), some (.int (m_i (all))), some (.int (m_i (st))), some (.int (m_i (u.1))), some (.int (m_i (u.2.1))), some (.int (m_i (u.2.2.1))), some (.int (m_i (u.2.2.2.1))), some (.int (m_i (u.2.2.2.2))), some (.int (m_i (n))), some (.int (m_i (c)))]) eMd_along_176 (Nat.le_of_ble_eq_true rfl) rfl ?_
      refine r_il eMd_along_178 rfl ?_
      refine r_il eMd_along_180 rfl ?_
      refine r_con eMd_along_182 ?_
      refine r_div eMd_along_183 ⟨(by omega), (by omega)⟩ ⟨(by omega), (by omega)⟩ ?_
      refine r_con eMd_along_184 ?_
      refine r_cne (tgt := 192) eMd_along_185 rfl ⟨(by omega), (by omega)⟩ ⟨(by omega), (by omega)⟩ (fun c185 => ?_) (fun c185 => ?_)
      · refine r_con eMd_along_192 ?_
        refine r_add eMd_along_193 ?_
        refine r_is (ls' := [some (.ref M), some (.int (m_i (sp))), some (.int (m_i (what))), some (.int (m_i (all))), some (.int (m_i (st))), some (.int (m_i (u.1))), some (.int (m_i (u.2.1))), some (.int (m_i ((u.2.2.1) + (1)))), some (.int (m_i (u.2.2.2.1))), some (.int (m_i (u.2.2.2.2))), some (.int (m_i (n))), some (.int (m_i (c)))]) eMd_along_194 (Nat.le_of_ble_eq_true rfl) rfl ?_
        refine r_il eMd_along_196 rfl ?_
        refine r_il eMd_along_198 rfl ?_
        refine r_con eMd_along_200 ?_
        refine r_rem eMd_along_201 ⟨(by omega), (by omega)⟩ ⟨(by omega), (by omega)⟩ ?_
        refine r_con eMd_along_202 ?_
        refine r_cne (tgt := 210) eMd_along_203 rfl ⟨(by omega), (by omega)⟩ ⟨(by omega), (by omega)⟩ (fun c203 => ?_) (fun c203 => ?_)
        · refine r_con eMd_along_210 ?_
          refine r_add eMd_along_211 ?_
          refine r_is (ls' := [some (.ref M), some (.int (m_i (sp))), some (.int (m_i (what))), some (.int (m_i (all))), some (.int (m_i (st))), some (.int (m_i (u.1))), some (.int (m_i (u.2.1))), some (.int (m_i ((u.2.2.1) + (1)))), some (.int (m_i ((u.2.2.2.1) + (1)))), some (.int (m_i (u.2.2.2.2))), some (.int (m_i (n))), some (.int (m_i (c)))]) eMd_along_212 (Nat.le_of_ble_eq_true rfl) rfl ?_
          refine r_aln eMd_along_214 rfl ?_
          refine r_il eMd_along_215 rfl ?_
          refine r_il eMd_along_217 rfl ?_
          refine r_vir eMd_along_219 rfl rfl rfl hM.2.1 rfl rfl ?_
          refine s_Md_stepped hM (by omega) (by omega) hc9 ?_
          show m_wp en _ mMd_along 222 [some (.ref M), some (.int (m_i (sp))), some (.int (m_i (what))), some (.int (m_i (all))), some (.int (m_i (st))), some (.int (m_i (u.1))), some (.int (m_i (u.2.1))), some (.int (m_i ((u.2.2.1) + (1)))), some (.int (m_i ((u.2.2.2.1) + (1)))), some (.int (m_i (u.2.2.2.2))), some (.int (m_i (n))), some (.int (m_i (c)))] [(.int (m_i (a_no (a_step (a_of (st)) (c) 0))))] (T, m_I ((md_put J1 M (a_step (a_of (st)) (c) 0))), P, L, z, w) Q
          refine r_is (ls' := [some (.ref M), some (.int (m_i (sp))), some (.int (m_i (what))), some (.int (m_i (all))), some (.int (m_i (a_no (a_step (a_of (st)) (c) 0)))), some (.int (m_i (u.1))), some (.int (m_i (u.2.1))), some (.int (m_i ((u.2.2.1) + (1)))), some (.int (m_i ((u.2.2.2.1) + (1)))), some (.int (m_i (u.2.2.2.2))), some (.int (m_i (n))), some (.int (m_i (c)))]) eMd_along_222 (Nat.le_of_ble_eq_true rfl) rfl ?_
          refine r_inc (ls' := [some (.ref M), some (.int (m_i (sp))), some (.int (m_i (what))), some (.int (m_i (all))), some (.int (m_i (a_no (a_step (a_of (st)) (c) 0)))), some (.int (m_i (u.1))), some (.int (m_i (u.2.1))), some (.int (m_i ((u.2.2.1) + (1)))), some (.int (m_i ((u.2.2.2.1) + (1)))), some (.int (m_i (u.2.2.2.2))), some (.int (m_i (n + 1))), some (.int (m_i (c)))]) eMd_along_224 rfl rfl ?_
          refine r_go (tgt := 73) eMd_along_227 rfl ?_
          (repeat (first | rw [if_pos (by omega)] at hq2 | rw [if_neg (by omega)] at hq2))
          exact hq2
        · refine r_con eMd_along_206 ?_
          refine r_go (tgt := 211) eMd_along_207 rfl ?_
          refine r_add eMd_along_211 ?_
          refine r_is (ls' := [some (.ref M), some (.int (m_i (sp))), some (.int (m_i (what))), some (.int (m_i (all))), some (.int (m_i (st))), some (.int (m_i (u.1))), some (.int (m_i (u.2.1))), some (.int (m_i ((u.2.2.1) + (1)))), some (.int (m_i ((u.2.2.2.1) + (0)))), some (.int (m_i (u.2.2.2.2))), some (.int (m_i (n))), some (.int (m_i (c)))]) eMd_along_212 (Nat.le_of_ble_eq_true rfl) rfl ?_
          refine r_aln eMd_along_214 rfl ?_
          refine r_il eMd_along_215 rfl ?_
          refine r_il eMd_along_217 rfl ?_
          refine r_vir eMd_along_219 rfl rfl rfl hM.2.1 rfl rfl ?_
          refine s_Md_stepped hM (by omega) (by omega) hc9 ?_
          show m_wp en _ mMd_along 222 [some (.ref M), some (.int (m_i (sp))), some (.int (m_i (what))), some (.int (m_i (all))), some (.int (m_i (st))), some (.int (m_i (u.1))), some (.int (m_i (u.2.1))), some (.int (m_i ((u.2.2.1) + (1)))), some (.int (m_i ((u.2.2.2.1) + (0)))), some (.int (m_i (u.2.2.2.2))), some (.int (m_i (n))), some (.int (m_i (c)))] [(.int (m_i (a_no (a_step (a_of (st)) (c) 0))))] (T, m_I ((md_put J1 M (a_step (a_of (st)) (c) 0))), P, L, z, w) Q
          refine r_is (ls' := [some (.ref M), some (.int (m_i (sp))), some (.int (m_i (what))), some (.int (m_i (all))), some (.int (m_i (a_no (a_step (a_of (st)) (c) 0)))), some (.int (m_i (u.1))), some (.int (m_i (u.2.1))), some (.int (m_i ((u.2.2.1) + (1)))), some (.int (m_i ((u.2.2.2.1) + (0)))), some (.int (m_i (u.2.2.2.2))), some (.int (m_i (n))), some (.int (m_i (c)))]) eMd_along_222 (Nat.le_of_ble_eq_true rfl) rfl ?_
          refine r_inc (ls' := [some (.ref M), some (.int (m_i (sp))), some (.int (m_i (what))), some (.int (m_i (all))), some (.int (m_i (a_no (a_step (a_of (st)) (c) 0)))), some (.int (m_i (u.1))), some (.int (m_i (u.2.1))), some (.int (m_i ((u.2.2.1) + (1)))), some (.int (m_i ((u.2.2.2.1) + (0)))), some (.int (m_i (u.2.2.2.2))), some (.int (m_i (n + 1))), some (.int (m_i (c)))]) eMd_along_224 rfl rfl ?_
          refine r_go (tgt := 73) eMd_along_227 rfl ?_
          (repeat (first | rw [if_pos (by omega)] at hq2 | rw [if_neg (by omega)] at hq2))
          exact hq2
      · refine r_con eMd_along_188 ?_
        refine r_go (tgt := 193) eMd_along_189 rfl ?_
        refine r_add eMd_along_193 ?_
        refine r_is (ls' := [some (.ref M), some (.int (m_i (sp))), some (.int (m_i (what))), some (.int (m_i (all))), some (.int (m_i (st))), some (.int (m_i (u.1))), some (.int (m_i (u.2.1))), some (.int (m_i ((u.2.2.1) + (0)))), some (.int (m_i (u.2.2.2.1))), some (.int (m_i (u.2.2.2.2))), some (.int (m_i (n))), some (.int (m_i (c)))]) eMd_along_194 (Nat.le_of_ble_eq_true rfl) rfl ?_
        refine r_il eMd_along_196 rfl ?_
        refine r_il eMd_along_198 rfl ?_
        refine r_con eMd_along_200 ?_
        refine r_rem eMd_along_201 ⟨(by omega), (by omega)⟩ ⟨(by omega), (by omega)⟩ ?_
        refine r_con eMd_along_202 ?_
        refine r_cne (tgt := 210) eMd_along_203 rfl ⟨(by omega), (by omega)⟩ ⟨(by omega), (by omega)⟩ (fun c203 => ?_) (fun c203 => ?_)
        · refine r_con eMd_along_210 ?_
          refine r_add eMd_along_211 ?_
          refine r_is (ls' := [some (.ref M), some (.int (m_i (sp))), some (.int (m_i (what))), some (.int (m_i (all))), some (.int (m_i (st))), some (.int (m_i (u.1))), some (.int (m_i (u.2.1))), some (.int (m_i ((u.2.2.1) + (0)))), some (.int (m_i ((u.2.2.2.1) + (1)))), some (.int (m_i (u.2.2.2.2))), some (.int (m_i (n))), some (.int (m_i (c)))]) eMd_along_212 (Nat.le_of_ble_eq_true rfl) rfl ?_
          refine r_aln eMd_along_214 rfl ?_
          refine r_il eMd_along_215 rfl ?_
          refine r_il eMd_along_217 rfl ?_
          refine r_vir eMd_along_219 rfl rfl rfl hM.2.1 rfl rfl ?_
          refine s_Md_stepped hM (by omega) (by omega) hc9 ?_
          show m_wp en _ mMd_along 222 [some (.ref M), some (.int (m_i (sp))), some (.int (m_i (what))), some (.int (m_i (all))), some (.int (m_i (st))), some (.int (m_i (u.1))), some (.int (m_i (u.2.1))), some (.int (m_i ((u.2.2.1) + (0)))), some (.int (m_i ((u.2.2.2.1) + (1)))), some (.int (m_i (u.2.2.2.2))), some (.int (m_i (n))), some (.int (m_i (c)))] [(.int (m_i (a_no (a_step (a_of (st)) (c) 0))))] (T, m_I ((md_put J1 M (a_step (a_of (st)) (c) 0))), P, L, z, w) Q
          refine r_is (ls' := [some (.ref M), some (.int (m_i (sp))), some (.int (m_i (what))), some (.int (m_i (all))), some (.int (m_i (a_no (a_step (a_of (st)) (c) 0)))), some (.int (m_i (u.1))), some (.int (m_i (u.2.1))), some (.int (m_i ((u.2.2.1) + (0)))), some (.int (m_i ((u.2.2.2.1) + (1)))), some (.int (m_i (u.2.2.2.2))), some (.int (m_i (n))), some (.int (m_i (c)))]) eMd_along_222 (Nat.le_of_ble_eq_true rfl) rfl ?_
          refine r_inc (ls' := [some (.ref M), some (.int (m_i (sp))), some (.int (m_i (what))), some (.int (m_i (all))), some (.int (m_i (a_no (a_step (a_of (st)) (c) 0)))), some (.int (m_i (u.1))), some (.int (m_i (u.2.1))), some (.int (m_i ((u.2.2.1) + (0)))), some (.int (m_i ((u.2.2.2.1) + (1)))), some (.int (m_i (u.2.2.2.2))), some (.int (m_i (n + 1))), some (.int (m_i (c)))]) eMd_along_224 rfl rfl ?_
          refine r_go (tgt := 73) eMd_along_227 rfl ?_
          (repeat (first | rw [if_pos (by omega)] at hq2 | rw [if_neg (by omega)] at hq2))
          exact hq2
        · refine r_con eMd_along_206 ?_
          refine r_go (tgt := 211) eMd_along_207 rfl ?_
          refine r_add eMd_along_211 ?_
          refine r_is (ls' := [some (.ref M), some (.int (m_i (sp))), some (.int (m_i (what))), some (.int (m_i (all))), some (.int (m_i (st))), some (.int (m_i (u.1))), some (.int (m_i (u.2.1))), some (.int (m_i ((u.2.2.1) + (0)))), some (.int (m_i ((u.2.2.2.1) + (0)))), some (.int (m_i (u.2.2.2.2))), some (.int (m_i (n))), some (.int (m_i (c)))]) eMd_along_212 (Nat.le_of_ble_eq_true rfl) rfl ?_
          refine r_aln eMd_along_214 rfl ?_
          refine r_il eMd_along_215 rfl ?_
          refine r_il eMd_along_217 rfl ?_
          refine r_vir eMd_along_219 rfl rfl rfl hM.2.1 rfl rfl ?_
          refine s_Md_stepped hM (by omega) (by omega) hc9 ?_
          show m_wp en _ mMd_along 222 [some (.ref M), some (.int (m_i (sp))), some (.int (m_i (what))), some (.int (m_i (all))), some (.int (m_i (st))), some (.int (m_i (u.1))), some (.int (m_i (u.2.1))), some (.int (m_i ((u.2.2.1) + (0)))), some (.int (m_i ((u.2.2.2.1) + (0)))), some (.int (m_i (u.2.2.2.2))), some (.int (m_i (n))), some (.int (m_i (c)))] [(.int (m_i (a_no (a_step (a_of (st)) (c) 0))))] (T, m_I ((md_put J1 M (a_step (a_of (st)) (c) 0))), P, L, z, w) Q
          refine r_is (ls' := [some (.ref M), some (.int (m_i (sp))), some (.int (m_i (what))), some (.int (m_i (all))), some (.int (m_i (a_no (a_step (a_of (st)) (c) 0)))), some (.int (m_i (u.1))), some (.int (m_i (u.2.1))), some (.int (m_i ((u.2.2.1) + (0)))), some (.int (m_i ((u.2.2.2.1) + (0)))), some (.int (m_i (u.2.2.2.2))), some (.int (m_i (n))), some (.int (m_i (c)))]) eMd_along_222 (Nat.le_of_ble_eq_true rfl) rfl ?_
          refine r_inc (ls' := [some (.ref M), some (.int (m_i (sp))), some (.int (m_i (what))), some (.int (m_i (all))), some (.int (m_i (a_no (a_step (a_of (st)) (c) 0)))), some (.int (m_i (u.1))), some (.int (m_i (u.2.1))), some (.int (m_i ((u.2.2.1) + (0)))), some (.int (m_i ((u.2.2.2.1) + (0)))), some (.int (m_i (u.2.2.2.2))), some (.int (m_i (n + 1))), some (.int (m_i (c)))]) eMd_along_224 rfl rfl ?_
          refine r_go (tgt := 73) eMd_along_227 rfl ?_
          (repeat (first | rw [if_pos (by omega)] at hq2 | rw [if_neg (by omega)] at hq2))
          exact hq2
  · exfalso; omega
/-- the answer -/
def a_al9 (what : Int) (r : a_S) : Int := if what = 0 then r.1 else if what = 1 then r.2.1 else if what = 2 then r.2.2.1 else if what = 3 then r.2.2.2.1 else r.2.2.2.2
theorem l_Md_along (hM : md_sh en M T P) (ok : a_ok (md_cf J M)) {sp what all goal : Int} (hwh : 0 ≤ what ∧ what ≤ 4) (hK : s_Kn J J1 M goal 0) :
    ∀ (k : Nat) (n st : Int) (v σ : a_S) (o11 : Option Value), n + k = all → 0 ≤ n → all < 30000 → 0 ≤ st ∧ st < 38880 → a_why (md_cf J M) (a_of st) = 0 → J1 (M + 20) st.toNat = all - n → a_alb n v → (∀ r σ', s_alg (md_cf J M) goal all k n st v r → Q (some (.int (m_i (a_al9 what r)))) (T, m_I (md_put J1 M σ'), P, L, z, w)) →
      m_wp en (d + 5) mMd_along 73 [some (.ref M), some (.int (m_i sp)), some (.int (m_i what)), some (.int (m_i all)), some (.int (m_i st)), some (.int (m_i v.1)), some (.int (m_i v.2.1)), some (.int (m_i v.2.2.1)), some (.int (m_i v.2.2.2.1)), some (.int (m_i v.2.2.2.2)), some (.int (m_i n)), o11] [] (T, m_I (md_put J1 M σ), P, L, z, w) Q := by
  have ecf : md_cf J1 M = md_cf J M := hK.1.cf
  intro k
  induction k with
  | zero =>
    intro n st v σ o11 hk h0 hall hst hw hf hb hq
    have hin : ∀ o u, u = a_al1 (md_cf J1 M) all n st v → m_wp en (d + 5) mMd_along 161 [some (.ref M), some (.int (m_i sp)), some (.int (m_i what)), some (.int (m_i all)), some (.int (m_i st)), some (.int (m_i u.1)), some (.int (m_i u.2.1)), some (.int (m_i u.2.2.1)), some (.int (m_i u.2.2.2.1)), some (.int (m_i u.2.2.2.2)), some (.int (m_i n)), o] [] (T, m_I (md_put J1 M (a_of st)), P, L, z, w) Q := fun o u hu => by
      have hq2 := hq u (a_of st) (by rw [hu, ecf]; rfl)
      unfold a_al9 at hq2
      refine r_il eMd_along_161 rfl ?_
      refine r_iln eMd_along_163 rfl ?_
      refine r_cne (tgt := 170) eMd_along_164 rfl ⟨(by omega), (by omega)⟩ ⟨(by omega), (by omega)⟩ (fun c164 => ?_) (fun c164 => ?_)
      · exfalso; omega
      · refine r_go (tgt := 224) eMd_along_167 rfl ?_
        refine r_inc (ls' := [some (.ref M), some (.int (m_i (sp))), some (.int (m_i (what))), some (.int (m_i (all))), some (.int (m_i (st))), some (.int (m_i (u.1))), some (.int (m_i (u.2.1))), some (.int (m_i (u.2.2.1))), some (.int (m_i (u.2.2.2.1))), some (.int (m_i (u.2.2.2.2))), some (.int (m_i (n + 1))), o]) eMd_along_224 rfl rfl ?_
        refine r_go (tgt := 73) eMd_along_227 rfl ?_
        refine r_il eMd_along_73 rfl ?_
        refine r_iln eMd_along_75 rfl ?_
        refine r_cgt (tgt := 230) eMd_along_76 rfl ⟨(by omega), (by omega)⟩ ⟨(by omega), (by omega)⟩ (fun c76 => ?_) (fun c76 => ?_)
        · refine r_iln eMd_along_230 rfl ?_
          refine r_zne (tgt := 239) eMd_along_231 rfl ⟨(by omega), (by omega)⟩ (fun c231 => ?_) (fun c231 => ?_)
          · refine r_iln eMd_along_239 rfl ?_
            refine r_con eMd_along_240 ?_
            refine r_cne (tgt := 249) eMd_along_241 rfl ⟨(by omega), (by omega)⟩ ⟨(by omega), (by omega)⟩ (fun c241 => ?_) (fun c241 => ?_)
            · refine r_iln eMd_along_249 rfl ?_
              refine r_con eMd_along_250 ?_
              refine r_cne (tgt := 259) eMd_along_251 rfl ⟨(by omega), (by omega)⟩ ⟨(by omega), (by omega)⟩ (fun c251 => ?_) (fun c251 => ?_)
              · refine r_iln eMd_along_259 rfl ?_
                refine r_con eMd_along_260 ?_
                refine r_cne (tgt := 269) eMd_along_261 rfl ⟨(by omega), (by omega)⟩ ⟨(by omega), (by omega)⟩ (fun c261 => ?_) (fun c261 => ?_)
                · refine r_il eMd_along_269 rfl ?_
                  refine r_iret eMd_along_271 rfl ?_
                  (repeat (first | rw [if_pos (by omega)] at hq2 | rw [if_neg (by omega)] at hq2))
                  exact hq2
                · refine r_il eMd_along_264 rfl ?_
                  refine r_go (tgt := 271) eMd_along_266 rfl ?_
                  refine r_iret eMd_along_271 rfl ?_
                  (repeat (first | rw [if_pos (by omega)] at hq2 | rw [if_neg (by omega)] at hq2))
                  exact hq2
              · refine r_il eMd_along_254 rfl ?_
                refine r_go (tgt := 271) eMd_along_256 rfl ?_
                refine r_iret eMd_along_271 rfl ?_
                (repeat (first | rw [if_pos (by omega)] at hq2 | rw [if_neg (by omega)] at hq2))
                exact hq2
            · refine r_il eMd_along_244 rfl ?_
              refine r_go (tgt := 271) eMd_along_246 rfl ?_
              refine r_iret eMd_along_271 rfl ?_
              (repeat (first | rw [if_pos (by omega)] at hq2 | rw [if_neg (by omega)] at hq2))
              exact hq2
          · refine r_il eMd_along_234 rfl ?_
            refine r_go (tgt := 271) eMd_along_236 rfl ?_
            refine r_iret eMd_along_271 rfl ?_
            (repeat (first | rw [if_pos (by omega)] at hq2 | rw [if_neg (by omega)] at hq2))
            exact hq2
        · exfalso; omega
    refine r_il eMd_along_73 rfl ?_
    refine r_iln eMd_along_75 rfl ?_
    refine r_cgt (tgt := 230) eMd_along_76 rfl ⟨(by omega), (by omega)⟩ ⟨(by omega), (by omega)⟩ (fun c76 => ?_) (fun c76 => ?_)
    · exfalso; omega
    · exact l_Md_alB (d := d + 4) hM (by rw [ecf]; exact ok) hst (by rw [ecf]; exact hw) (by omega) hb hin
  | succ k ih =>
    intro n st v σ o11 hk h0 hall hst hw hf hb hq
    refine r_il eMd_along_73 rfl ?_
    refine r_iln eMd_along_75 rfl ?_
    refine r_cgt (tgt := 230) eMd_along_76 rfl ⟨(by omega), (by omega)⟩ ⟨(by omega), (by omega)⟩ (fun c76 => ?_) (fun c76 => ?_)
    · exfalso; omega
    · refine l_Md_alB (d := d + 4) hM (by rw [ecf]; exact ok) hst (by rw [ecf]; exact hw) (by omega) hb (fun o u hu => l_Md_alC hM ok hK hst (by omega) hf (fun c σ' hfst his hNb hfar => ?_))
      rw [ecf] at hu
      have hbu : a_alb n u := by rw [hu]; exact a_al1_bd ok hst hw hb
      refine ih (n + 1) _ (a_al2 c u) σ' _ (by omega) (by omega) hall hNb ?_ (by omega) (a_al2_bd hbu) (fun r σ2 hr => hq r σ2 ⟨c, hfst, by rw [← hu]; exact hr⟩)
      rw [a_of_no (a_is_bx ok his)]
      exact (a_is_spec his).1
theorem c_Md_along (hM : md_sh en M T P) (hJ : m_up J0 M 0 0 = J) (hinv : md_inv J M) {x what : Int} (hx : m_in x) (hw : m_in what)
    (hq0 : ¬ ((0 ≤ x ∧ x < J (M + 2) 4) ∧ 0 ≤ what ∧ what ≤ 4) → Q (some (.int (m_i (-99)))) (T, m_I J, P, L, z, w))
    (hq1 : ((0 ≤ x ∧ x < J (M + 2) 4) ∧ 0 ≤ what ∧ what ≤ 4) → ∀ (J1 : Nat → Nat → Int), md_fx J J1 M → md_inv J1 M → s_few (md_cf J M) (md_sp J M x) 0 (J (M + 22) 0) (-2) → Q (some (.int (m_i (-2)))) (T, m_I J1, P, L, z, w))
    (hq2 : ((0 ≤ x ∧ x < J (M + 2) 4) ∧ 0 ≤ what ∧ what ≤ 4) → ∀ (J1 : Nat → Nat → Int) (all : Int) (r : a_S), md_fx J J1 M → md_inv J1 M → s_few (md_cf J M) (md_sp J M x) 0 (J (M + 22) 0) all → 0 ≤ all → s_alg (md_cf J M) (md_sp J M x) all all.toNat 0 (J (M + 22) 0) (0, 0, 0, 0, 30000) r → Q (some (.int (m_i (a_al9 what r)))) (T, m_I J1, P, L, z, w)) : m_call en (d + 9) mMd_along [.ref M, .int (m_i x), .int (m_i what)] (T, m_I J0, P, L, z, w) Q := by
  unfold m_in at hx hw
  have hsb1 := hinv.hsb.1
  refine m_into (by decide) (Nat.le_of_ble_eq_true rfl) rfl ?_
  show m_wp en _ mMd_along 0 [some (.ref M), some (.int (m_i (x))), some (.int (m_i (what))), none, none, none, none, none, none, none, none, none] [] (T, m_I J0, P, L, z, w) Q
  refine r_aln eMd_along_0 rfl ?_
  refine r_con eMd_along_1 ?_
  refine r_put eMd_along_2 rfl hM.2.1 hM.1 (Or.inl rfl) ?_
  rw [hJ]
  refine r_aln eMd_along_5 rfl ?_
  refine r_iln eMd_along_6 rfl ?_
  refine r_vir eMd_along_7 rfl rfl rfl hM.2.1 rfl rfl ?_
  refine c_Md_isSpot hM ⟨by omega, by omega⟩ ⟨by omega, by omega⟩ ?_
  show m_wp en _ mMd_along 10 [some (.ref M), some (.int (m_i (x))), some (.int (m_i (what))), none, none, none, none, none, none, none, none, none] [(.int (m_i (if 0 ≤ x ∧ x < J (M + 2) 4 then 1 else 0)))] (T, m_I J, P, L, z, w) Q
  refine r_zeq (tgt := 22) eMd_along_10 rfl ⟨(by omega), (by omega)⟩ (fun c10 => ?_) (fun c10 => ?_)
  · refine r_bip eMd_along_22 (by decide) ?_
    refine r_iret eMd_along_24 rfl ?_
    exact hq0 (by omega)
  · refine r_iln eMd_along_13 rfl ?_
    refine r_zlt (tgt := 22) eMd_along_14 rfl ⟨(by omega), (by omega)⟩ (fun c14 => ?_) (fun c14 => ?_)
    · refine r_bip eMd_along_22 (by decide) ?_
      refine r_iret eMd_along_24 rfl ?_
      exact hq0 (by omega)
    · refine r_iln eMd_along_17 rfl ?_
      refine r_con eMd_along_18 ?_
      refine r_cle (tgt := 25) eMd_along_19 rfl ⟨(by omega), (by omega)⟩ ⟨(by omega), (by omega)⟩ (fun c19 => ?_) (fun c19 => ?_)
      · refine r_aln eMd_along_25 rfl ?_
        refine r_aln eMd_along_26 rfl ?_
        refine r_iln eMd_along_27 rfl ?_
        refine r_vir eMd_along_28 rfl rfl rfl hM.2.1 rfl rfl ?_
        refine c_Md_spotState hM (by omega) ?_
        show m_wp en _ mMd_along 31 [some (.ref M), some (.int (m_i (x))), some (.int (m_i (what))), none, none, none, none, none, none, none, none, none] [(.int (m_i (md_sp J M (x)))), (.ref M)] (T, m_I J, P, L, z, w) Q
        refine r_con eMd_along_31 ?_
        refine r_vir eMd_along_32 rfl rfl rfl hM.2.1 rfl rfl ?_
        refine k_Md_fewestTo hM hinv.ok hinv.hs (md_sp_bd hinv.hsb (by omega)) (by omega) hinv.hkp (fun hA => ?_) (fun hA J1 r hkp1 hK hans hrb => ?_)
        · show m_wp en _ mMd_along 35 [some (.ref M), some (.int (m_i (x))), some (.int (m_i (what))), none, none, none, none, none, none, none, none, none] [(.int (m_i (-2)))] (T, m_I ((md_put J M (a_of (J (M + 22) 0)))), P, L, z, w) Q
          refine r_isn (ls' := [some (.ref M), some (.int (m_i (x))), some (.int (m_i (what))), some (.int (m_i (-2))), none, none, none, none, none, none, none, none]) eMd_along_35 (Nat.le_of_ble_eq_true rfl) rfl ?_
          refine r_iln eMd_along_36 rfl ?_
          refine r_bip eMd_along_37 (by decide) ?_
          refine r_cne (tgt := 45) eMd_along_39 rfl ⟨(by omega), (by omega)⟩ ⟨(by omega), (by omega)⟩ (fun c39 => ?_) (fun c39 => ?_)
          · exfalso; omega
          · refine r_bip eMd_along_42 (by decide) ?_
            refine r_iret eMd_along_44 rfl ?_
            first | exact hq1 (by omega) _ ((md_fx.refl J M).put _) (hinv.put _) (Or.inl ⟨hA, rfl⟩) | (have er : r = -2 := by omega) <;> (rw [er] at hans; exact hq1 (by omega) J1 hK.1 (hinv.fx hK.1 hkp1) (Or.inr ⟨hA, hans⟩))
        · have hv := s_ans_v hans
          have e22 : J1 (M + 22) 0 = J (M + 22) 0 := hK.1 (M + 22) 0 (by omega) (by omega) (by omega)
          show m_wp en _ mMd_along 35 [some (.ref M), some (.int (m_i (x))), some (.int (m_i (what))), none, none, none, none, none, none, none, none, none] [(.int (m_i (r)))] (T, m_I J1, P, L, z, w) Q
          refine r_isn (ls' := [some (.ref M), some (.int (m_i (x))), some (.int (m_i (what))), some (.int (m_i (r))), none, none, none, none, none, none, none, none]) eMd_along_35 (Nat.le_of_ble_eq_true rfl) rfl ?_
          refine r_iln eMd_along_36 rfl ?_
          refine r_bip eMd_along_37 (by decide) ?_
          refine r_cne (tgt := 45) eMd_along_39 rfl ⟨(by omega), (by omega)⟩ ⟨(by omega), (by omega)⟩ (fun c39 => ?_) (fun c39 => ?_)
          · refine r_aln eMd_along_45 rfl ?_
            refine m_getR eMd_along_46 rfl hM.2.1 (md_s_p hM) ?_
            refine r_con eMd_along_49 ?_
            refine r_ialde (x := J1 (M + 22) 0) eMd_along_50 (md_s_t hM) (by decide) (by omega) (by omega) rfl ?_
            rw [e22]
            refine r_is (ls' := [some (.ref M), some (.int (m_i (x))), some (.int (m_i (what))), some (.int (m_i (r))), some (.int (m_i (J (M + 22) 0))), none, none, none, none, none, none, none]) eMd_along_51 (Nat.le_of_ble_eq_true rfl) rfl ?_
            refine r_con eMd_along_53 ?_
            refine r_is (ls' := [some (.ref M), some (.int (m_i (x))), some (.int (m_i (what))), some (.int (m_i (r))), some (.int (m_i (J (M + 22) 0))), some (.int (m_i (0))), none, none, none, none, none, none]) eMd_along_54 (Nat.le_of_ble_eq_true rfl) rfl ?_
            refine r_con eMd_along_56 ?_
            refine r_is (ls' := [some (.ref M), some (.int (m_i (x))), some (.int (m_i (what))), some (.int (m_i (r))), some (.int (m_i (J (M + 22) 0))), some (.int (m_i (0))), some (.int (m_i (0))), none, none, none, none, none]) eMd_along_57 (Nat.le_of_ble_eq_true rfl) rfl ?_
            refine r_con eMd_along_59 ?_
            refine r_is (ls' := [some (.ref M), some (.int (m_i (x))), some (.int (m_i (what))), some (.int (m_i (r))), some (.int (m_i (J (M + 22) 0))), some (.int (m_i (0))), some (.int (m_i (0))), some (.int (m_i (0))), none, none, none, none]) eMd_along_60 (Nat.le_of_ble_eq_true rfl) rfl ?_
            refine r_con eMd_along_62 ?_
            refine r_is (ls' := [some (.ref M), some (.int (m_i (x))), some (.int (m_i (what))), some (.int (m_i (r))), some (.int (m_i (J (M + 22) 0))), some (.int (m_i (0))), some (.int (m_i (0))), some (.int (m_i (0))), some (.int (m_i (0))), none, none, none]) eMd_along_63 (Nat.le_of_ble_eq_true rfl) rfl ?_
            refine r_sip eMd_along_65 (by decide) ?_
            refine r_is (ls' := [some (.ref M), some (.int (m_i (x))), some (.int (m_i (what))), some (.int (m_i (r))), some (.int (m_i (J (M + 22) 0))), some (.int (m_i (0))), some (.int (m_i (0))), some (.int (m_i (0))), some (.int (m_i (0))), some (.int (m_i (30000))), none, none]) eMd_along_68 (Nat.le_of_ble_eq_true rfl) rfl ?_
            refine r_con eMd_along_70 ?_
            refine r_is (ls' := [some (.ref M), some (.int (m_i (x))), some (.int (m_i (what))), some (.int (m_i (r))), some (.int (m_i (J (M + 22) 0))), some (.int (m_i (0))), some (.int (m_i (0))), some (.int (m_i (0))), some (.int (m_i (0))), some (.int (m_i (30000))), some (.int (m_i (0))), none]) eMd_along_71 (Nat.le_of_ble_eq_true rfl) rfl ?_
            have h := l_Md_along (d := d + 3) (z := z) (w := w) (L := L) (P := P) (Q := Q) (sp := x) hM hinv.ok (show 0 ≤ what ∧ what ≤ 4 by omega) hK r.toNat 0 (J (M + 22) 0) (0, 0, 0, 0, 30000) (md_get J1 M) none (by omega) (by omega) (by omega) hinv.hs hA (by rw [s_Kn_far hK hinv.hs hans (by omega)]; omega) a_alb_0 (fun r2 σ' hr => hq2 (by omega) _ r r2 (hK.1.put _) (hinv.fx (hK.1.put _) (md_kp_put _ hkp1)) (Or.inr ⟨hA, hans⟩) (by omega) hr)
            rw [md_put_get] at h
            exact h
          · refine r_bip eMd_along_42 (by decide) ?_
            refine r_iret eMd_along_44 rfl ?_
            first | exact hq1 (by omega) _ ((md_fx.refl J M).put _) (hinv.put _) (Or.inl ⟨hA, rfl⟩) | (have er : r = -2 := by omega) <;> (rw [er] at hans; exact hq1 (by omega) J1 hK.1 (hinv.fx hK.1 hkp1) (Or.inr ⟨hA, hans⟩))
      · refine r_bip eMd_along_22 (by decide) ?_
        refine r_iret eMd_along_24 rfl ?_
        exact hq0 (by omega)
end MDAL
