/-! THE TIE: the questions that seek -/
section TQB
variable {en : Nat → Nat} {X M N O z0 w0 : Nat} {T0 : Nat → Option (Nat × Nat)} {J0 : Nat → Nat → Int} {k : Nat} {T T' : Nat → Option (Nat × Nat)} {J J' J1 K : Nat → Nat → Int} {P P' : Nat → Nat → Option Nat} {L L' : Nat → Nat → Int64} {z w z' w' zb wb : Nat} {C : a_C}
theorem t_fewest (h : to_I en X M N O z0 w0 T0 J0 k T J P L z w) {x : Int} (hx : m_in x) : m_call en 40 mSc_fewest [.ref X, .int (m_i x)] (T, m_I J, P, L, z, w) (to_C en X M N O z0 w0 T0 J0 k mMd_fewest [.ref M, .int (m_i x)]) := by
  obtain ⟨⟨⟨zb, wb, hW, hz, hw⟩, -, -⟩, -⟩ := id h
  refine c_Sc_fewest hW hx (fun q => ?_) (fun q T' J' P' L' z' w' r hW' hq hr => ?_)
  · refine to_mk h (fun K Q eK hK eX hQ => ?_)
    have p : ¬ (0 ≤ x ∧ x < K (M + 2) 4) := by rw [← to_spn hK, eX _ (by omega)]; exact q
    exact c_Md_fewest hK.sh eK hK.inv.ok hK.inv.hs hK.inv.hkp hK.inv.hsb hx (fun _ => hQ K (md_fy.refl K M) hK.inv.hkp) (fun p' => absurd p' p) (fun p' => absurd p' p)
  · have h' := to_Xq h hW' hz hw hq
    refine to_mk h' (fun K Q eK hK eX hQ => ?_)
    have e : ∀ b, b < X + 132 → K b = J b := fun b p => (eX b (by omega)).trans (funext (fun i => hq.2.1 b i (by omega)))
    have p : 0 ≤ x ∧ x < K (M + 2) 4 := by rw [← to_spn hK, e _ (by omega)]; exact q
    have hr' := u_fw hK p (by rw [x_cf e, x_pi e, x_sp e]; exact hr)
    refine c_Md_fewest hK.sh eK hK.inv.ok hK.inv.hs hK.inv.hkp hK.inv.hsb hx (fun p' => absurd p p') (fun _ hy => ?_) (fun _ hy J1 r' fx kp ha => ?_)
    · rcases s_few_of hK hr' with ⟨_, e2⟩ | ⟨e2, _⟩
      · subst e2; exact hQ _ ((md_fx.refl K M).put _).fy (md_kp_put _ hK.inv.hkp)
      · exact absurd e2 hy
    · obtain rfl := s_ans_u ha hr'
      exact hQ J1 fx.fy kp
theorem t_level (h : to_I en X M N O z0 w0 T0 J0 k T J P L z w) {x : Int} (hx : m_in x) : m_call en 40 mSc_level [.ref X, .int (m_i x)] (T, m_I J, P, L, z, w) (to_C en X M N O z0 w0 T0 J0 k mMd_level [.ref M, .int (m_i x)]) := by
  obtain ⟨⟨⟨zb, wb, hW, hz, hw⟩, -, -⟩, -⟩ := id h
  refine c_Sc_level hW hx (fun q => ?_) (fun q T' J' P' L' z' w' r hW' hq hr => ?_)
  · refine to_mk h (fun K Q eK hK eX hQ => ?_)
    have p : ¬ (0 ≤ x ∧ x < K (M + 2) 4) := by rw [← to_spn hK, eX _ (by omega)]; exact q
    exact c_Md_level hK.sh eK hK.inv.ok hK.inv.hs hK.inv.hkp hK.inv.hsb hx (fun _ => hQ K (md_fy.refl K M) hK.inv.hkp) (fun p' => absurd p' p) (fun p' => absurd p' p)
  · have h' := to_Xq h hW' hz hw hq
    refine to_mk h' (fun K Q eK hK eX hQ => ?_)
    have e : ∀ b, b < X + 132 → K b = J b := fun b p => (eX b (by omega)).trans (funext (fun i => hq.2.1 b i (by omega)))
    have p : 0 ≤ x ∧ x < K (M + 2) 4 := by rw [← to_spn hK, e _ (by omega)]; exact q
    have hr' := u_fl hK p (by rw [x_cf e, x_pi e, x_sp e]; exact hr)
    refine c_Md_level hK.sh eK hK.inv.ok hK.inv.hs hK.inv.hkp hK.inv.hsb hx (fun p' => absurd p p') (fun _ hy => ?_) (fun _ hy J1 r' fx kp ha => ?_)
    · rcases s_few_of hK hr' with ⟨_, e2⟩ | ⟨e2, _⟩
      · subst e2; exact hQ _ ((md_fx.refl K M).put _).fy (md_kp_put _ hK.inv.hkp)
      · exact absurd e2 hy
    · obtain rfl := s_ans_u ha hr'
      exact hQ J1 fx.fy kp
theorem t_halt (h : to_I en X M N O z0 w0 T0 J0 k T J P L z w) : m_call en 40 mSc_halt [.ref X] (T, m_I J, P, L, z, w) (to_C en X M N O z0 w0 T0 J0 k mMd_halt [.ref M]) := by
  obtain ⟨⟨⟨zb, wb, hW, hz, hw⟩, -, -⟩, -⟩ := id h
  refine c_Sc_halt hW (fun T' J' P' L' z' w' r hW' hq hr => ?_)
  have h' := to_Xq h hW' hz hw hq
  refine to_mk h' (fun K Q eK hK eX hQ => ?_)
  have e : ∀ b, b < X + 132 → K b = J b := fun b p => (eX b (by omega)).trans (funext (fun i => hq.2.1 b i (by omega)))
  have hr' := u_fh hK (by rw [x_cf e, x_pi e]; exact hr)
  refine c_Md_halt hK.sh eK hK.inv.ok hK.inv.hs hK.inv.hkp (fun hy => ?_) (fun hy J1 r' fx kp ha => ?_)
  · rcases s_few_of hK hr' with ⟨_, e2⟩ | ⟨e2, _⟩
    · subst e2; exact hQ _ ((md_fx.refl K M).put _).fy (md_kp_put _ hK.inv.hkp)
    · exact absurd e2 hy
  · obtain rfl := s_ans_u ha hr'
    exact hQ J1 fx.fy kp
theorem u_leg (h : to_I en X M N O z0 w0 T0 J0 k T J P L z w) {x y : Int} (hx : 0 ≤ x ∧ x < J (M + 2) 4) (hy : 0 ≤ y ∧ y < J (M + 2) 4) {r : Int} (hr : cl_leg J X (cl_cf J X) x.toNat y.toNat r) : s_btw (md_cf J M) (md_sp J M x) (md_sp J M y) r := by
  obtain ⟨e1, e2, e3⟩ := to_spt h hx
  obtain ⟨f1, f2, f3⟩ := to_spt h hy
  have hw := to_cf h
  have ok := h.inv.ok
  unfold cl_leg at hr
  rw [cf_is hw, cf_sd hw, cf_gE hw, to_spn h] at hr
  rw [e1, f1]
  unfold s_btw
  rw [a_of_no e2]
  by_cases hi : a_is (md_cf J M) (cl_spt J X x.toNat) = true
  · refine Or.inr ?_
    have hi2 : cl_fx (md_cf J M) 511 4 (cl_spt J X x.toNat) (cl_spt J X y.toNat) r := by
      by_cases hj : a_is (md_cf J M) (cl_spt J X y.toNat) = true
      · rw [if_pos ⟨⟨by omega, hi⟩, hj⟩] at hr
        exact Or.inl ⟨hj, hr⟩
      · rw [if_neg (fun q => hj q.2)] at hr
        exact Or.inr ⟨hj, hr⟩
    have ha := fx_ans ok e2 f2 f3 hi2
    by_cases he : a_no (cl_spt J X x.toNat) = a_no (cl_spt J X y.toNat)
    · refine Or.inl ⟨hi, he, ?_⟩
      have hs : b_D (s_S (md_cf J M) (a_no (cl_spt J X y.toNat))) (s_E (md_cf J M) 0) 0 (a_no (cl_spt J X x.toNat)) := by
        refine ⟨Or.inr he.symm, by rw [a_of_no e2]; exact hi, ?_, ?_⟩
        · have := md_sp_bd2 h.inv.hsb (x := x) (by have := h.inv.hsb.1; omega)
          rw [e1] at this
          exact this
        · rw [a_of_no e2]
          exact e3
      rcases ha with ⟨-, q⟩ | ⟨t, q, -, q2⟩
      · exact (q 0 hs).elim
      · have := q2 0 hs
        omega
    · exact Or.inr ⟨hi, he, ha⟩
  · rw [if_neg (fun q => hi q.1.2)] at hr
    exact Or.inl ⟨hi, hr⟩
theorem t_between (h : to_I en X M N O z0 w0 T0 J0 k T J P L z w) {x y : Int} (hx : m_in x) (hy : m_in y) : m_call en 40 mSc_between [.ref X, .int (m_i x), .int (m_i y)] (T, m_I J, P, L, z, w) (to_C en X M N O z0 w0 T0 J0 k mMd_between [.ref M, .int (m_i x), .int (m_i y)]) := by
  obtain ⟨⟨⟨zb, wb, hW, hz, hw⟩, -, -⟩, -⟩ := id h
  refine c_Sc_between hW hx hy (fun q => ?_) (fun q q2 => ?_) (fun q q2 T' J' P' L' z' w' r hW' hq hr => ?_)
  · refine to_mk h (fun K Q eK hK eX hQ => ?_)
    have p : ¬ ((0 ≤ x ∧ x < K (M + 2) 4) ∧ 0 ≤ y ∧ y < K (M + 2) 4) := by rw [← to_spn hK, eX _ (by omega)]; exact q
    exact c_Md_between hK.sh eK hK.inv hx hy (fun _ => hQ K (md_fy.refl K M) hK.inv.hkp) (fun p' => absurd p' p) (fun p' => absurd p' p)
  · refine to_mk h (fun K Q eK hK eX hQ => ?_)
    have p : (0 ≤ x ∧ x < K (M + 2) 4) ∧ 0 ≤ y ∧ y < K (M + 2) 4 := by rw [← to_spn hK, eX _ (by omega)]; exact q
    exact c_Md_between hK.sh eK hK.inv hx hy (fun p' => absurd p p') (fun _ _ => hQ K (md_fy.refl K M) hK.inv.hkp) (fun _ p' => absurd q2 p')
  · have h' := to_Xq h hW' hz hw hq
    refine to_mk h' (fun K Q eK hK eX hQ => ?_)
    have e : ∀ b, b < X + 132 → K b = J b := fun b p => (eX b (by omega)).trans (funext (fun i => hq.2.1 b i (by omega)))
    have p : (0 ≤ x ∧ x < K (M + 2) 4) ∧ 0 ≤ y ∧ y < K (M + 2) 4 := by rw [← to_spn hK, e _ (by omega)]; exact q
    have hr' := u_leg hK p.1 p.2 (r := r) (by unfold cl_leg at hr ⊢; rw [x_cf e, x_sp e, x_sp e, e _ (by omega)]; exact hr)
    refine c_Md_between hK.sh eK hK.inv hx hy (fun p' => absurd p p') (fun _ p' => absurd p' q2) (fun _ _ J1 r' fx kp ha => ?_)
    obtain rfl := s_btw_u ha hr'
    exact hQ J1 fx.fy kp
theorem t_ifWind (h : to_I en X M N O z0 w0 T0 J0 k T J P L z w) {x y : Int} (hx : m_in x) (hy : m_in y) : m_call en 40 mSc_ifWind [.ref X, .int (m_i x), .int (m_i y)] (T, m_I J, P, L, z, w) (to_C en X M N O z0 w0 T0 J0 k mMd_ifWind [.ref M, .int (m_i x), .int (m_i y)]) := by
  obtain ⟨⟨⟨zb, wb, hW, hz, hw⟩, -, -⟩, -⟩ := id h
  refine c_Sc_ifWind hW hx hy (fun q => ?_) (fun q T' J' P' L' z' w' r hW' hq hr => ?_)
  · refine to_mk h (fun K Q eK hK eX hQ => ?_)
    have p : ¬ ((0 ≤ x ∧ x < K (M + 2) 4) ∧ -8 ≤ y ∧ y ≤ 8) := by rw [← to_spn hK, eX _ (by omega)]; exact q
    exact c_Md_ifWind hK.sh eK hK.inv hx hy (fun _ => hQ K (md_fy.refl K M) hK.inv.hkp) (fun p' => absurd p' p)
  · have h' := to_Xq h hW' hz hw hq
    refine to_mk h' (fun K Q eK hK eX hQ => ?_)
    have e : ∀ b, b < X + 132 → K b = J b := fun b p => (eX b (by omega)).trans (funext (fun i => hq.2.1 b i (by omega)))
    have p : (0 ≤ x ∧ x < K (M + 2) 4) ∧ -8 ≤ y ∧ y ≤ 8 := by rw [← to_spn hK, e _ (by omega)]; exact q
    obtain ⟨e1, e2, e3⟩ := to_spt hK p.1
    have hr2 : cl_fx (md_cf K M) 511 4 (a_step (a_of (K (M + 22) 0)) 4 y) (cl_spt K X x.toNat) r := by
      rw [← cf_fx (to_cf hK), ← to_pi hK, x_cf e, x_pi e, x_sp e]
      exact hr
    refine c_Md_ifWind hK.sh eK hK.inv hx hy (fun p' => absurd p p') (fun _ J1 r' fx kp ha => ?_)
    have hf : r' = r := by
      rcases ha with ⟨a1, a2⟩ | ⟨a1, a2⟩
      · rw [a2]
        rcases hr2 with ⟨-, c⟩ | ⟨-, c⟩
        · refine (b_ans_none (fun y q => a1 ?_) c).symm
          have := q.1
          unfold a_is at this
          rw [Bool.and_eq_true, decide_eq_true_eq] at this
          exact this.1
        · exact c.symm
      · have hb : a_bx (a_step (a_of (K (M + 22) 0)) 4 y) := a_why_bx hK.inv.ok hK.inv.hs.1 (by have := hK.inv.hs; omega) a1
        rw [e1] at a2
        exact s_ans_u a2 (fx_ans hK.inv.ok hb e2 e3 hr2)
    subst hf
    exact hQ J1 fx.fy kp
end TQB
