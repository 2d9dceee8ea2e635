/-! THE TIE: carry -/
section TCR
variable {en : Nat → Nat} {X M N O z0 w0 : Nat} {T0 : Nat → Option (Nat × Nat)} {J0 : Nat → Nat → Int} {k : Nat} {T T' : Nat → Option (Nat × Nat)} {J J' J1 K : Nat → Nat → Int} {P P' : Nat → Nat → Option Nat} {L L' : Nat → Nat → Int64} {z w z' w' zb wb : Nat} {C : a_C}
theorem a_is_dep (ok : a_ok C) {γ : a_S} (hd : γ.2.2.2.2 < 1) : ¬ a_is C γ = true := fun q => by
  have := (a_is_bx ok q).2.2.2.2.1
  omega
theorem fx_std (ok : a_ok C) {ρ γ : a_S} {r : Int} (hρ : a_bx ρ) (hγ : a_bx γ) (hr : w_rs γ) (h : cl_fx C 511 4 ρ γ r) : s_std C (a_no ρ) (a_no γ) r := by
  have ha := fx_ans ok hρ hγ hr h
  unfold s_std
  rw [a_of_no hρ, a_of_no hγ]
  by_cases c : a_is C ρ = true ∧ a_is C γ = true
  · refine Or.inr ⟨c, ?_⟩
    unfold s_btw
    rw [a_of_no hρ]
    by_cases e : a_no ρ = a_no γ
    · refine Or.inr (Or.inl ⟨c.1, e, ?_⟩)
      have e2 : γ = ρ := by rw [← a_of_no hγ, ← e, a_of_no hρ]
      rcases h with ⟨-, h⟩ | ⟨h, -⟩
      · rcases h with ⟨t, e3, -, hm⟩ | ⟨-, hn⟩
        · have := hm 0 ⟨c.1, e2⟩
          omega
        · exact absurd ⟨c.1, e2⟩ (hn 0)
      · exact absurd c.2 h
    · exact Or.inr (Or.inr ⟨c.1, e, ha⟩)
  · refine Or.inl ⟨c, ?_⟩
    by_cases c1 : a_is C ρ = true
    · exact s_ans_u ha (w_no_g hγ (fun q => c ⟨c1, q⟩))
    · exact s_ans_u ha (w_no_s ok hρ c1)
theorem s_std_0 {a g r : Int} (h : s_std C a g r) : r = -2 ∨ 0 ≤ r := by
  rcases h with ⟨-, h⟩ | ⟨-, h⟩
  · exact Or.inl h
  · rcases h with ⟨-, h⟩ | ⟨-, -, h⟩ | ⟨-, -, h⟩
    · exact Or.inl h
    · right; omega
    · rcases h with ⟨h, -⟩ | ⟨t, h, -⟩
      · exact Or.inl h
      · right; omega
theorem bx_rest {x e : Int} (hx : 0 ≤ x ∧ x < 16) (he : 1 ≤ e ∧ e ≤ 6) : a_bx (x, 0, 0, 0, e) := ⟨hx, ⟨(by decide : (-2 : Int) ≤ 0), (by decide : (0 : Int) ≤ 2)⟩, ⟨(by decide : (-4 : Int) ≤ 0), (by decide : (0 : Int) ≤ 4)⟩, ⟨(by decide : (-4 : Int) ≤ 0), (by decide : (0 : Int) ≤ 4)⟩, he⟩
/-- a carry of the class is one of the reference's -/
theorem so_car (h : to_I en X M N O z0 w0 T0 J0 k T J P L z w) {p p' : Nat → Int} (hp : ∀ i : Nat, i < 16 → p i = p' i) (hpb : ∀ i : Nat, i < 16 → 0 ≤ p' i) {col dep fr to st r r' ct : Int} {p2 : Nat → Int} (hf : 0 ≤ fr ∧ fr < J (M + 2) 0) (ht : 0 ≤ to ∧ to < J (M + 2) 0) (hne : fr ≠ to)
    (hst : (col = -1 ∧ st = J (M + 22) 0 ∧ (∀ i : Nat, i < 16 → p i = J (X + 32) i) ∧ J (X + 30) 2 = 0) ∨ (col ≠ -1 ∧ a_bx (col, 0, 0, 0, dep) ∧ st = a_no (col, 0, 0, 0, dep)))
    (hc : ha_so J X (cl_cf J X) p col dep fr to r) (hs : s_car J M p' st fr to r' p2 ct) : r = r' ∧ (r ≠ -2 → 0 ≤ r ∧ (∀ i : Nat, i < 16 → p2 i = ha_mv p fr to i) ∧ ct = a_no (to, 0, 0, 0, pl_fr J (X + 17) p to - 1) ∧ a_bx (to, 0, 0, 0, pl_fr J (X + 17) p to - 1) ∧ 1 ≤ p fr.toNat) := by
  have hw16 := h.inv.pl.1
  have hwd := to_wid h
  have hcp := to_cp h hp (b := 0) (b' := 0) rfl
  have hfr : ∀ x : Int, 0 ≤ x → x < J (M + 2) 0 → pl_fr J (X + 17) p x = md_fe J M p' x := fun x q1 q2 => hcp.2.2.2.2.2 x q1 (by show x < J (X + 17) 0; omega)
  have hfe : ∀ x : Int, 0 ≤ x → x < J (M + 2) 0 → 0 ≤ md_fe J M p' x ∧ md_fe J M p' x ≤ 6 := fun x q1 q2 => by
    have a1 := h.inv.hcl x.toNat (by omega)
    have a2 := hpb x.toNat (by omega)
    unfold md_fe
    rw [if_pos (by omega)]
    split <;> omega
  have ok1 : a_ok (md_cp J M p' 0) := md_cp_ok h.inv hpb (Or.inl rfl)
  have ef := hfr fr hf.1 hf.2
  have et := hfr to ht.1 ht.2
  have bf := hfe fr hf.1 hf.2
  have bt := hfe to ht.1 ht.2
  have ep := hp fr.toNat (by omega)
  have eb := hpb fr.toNat (by omega)
  have eto : md_fe J M (a_pm p' fr (-1)) to = md_fe J M p' to := by
    unfold md_fe a_pm
    rw [if_neg (show ¬ to.toNat = fr.toNat by omega)]
  rcases hc with ⟨c1, c2⟩ | ⟨c1, r1, c2, c3⟩
  · have e0 : p' fr.toNat = 0 := by
      by_cases q : 1 ≤ p fr.toNat
      · exact absurd ⟨⟨hf.1, by omega⟩, ⟨ht.1, by omega⟩, q⟩ c1
      · omega
    rcases hs with ⟨-, s2⟩ | ⟨s1, -⟩
    · exact ⟨by omega, fun q => absurd c2 q⟩
    · exact absurd (Or.inl e0) s1
  · have hpf := c1.2.2
    by_cases g1 : md_fe J M p' fr < 1
    · have hr1 : r1 = -2 := by
        by_cases q : col = -1
        · rw [if_pos q] at c2
          rcases c2 with ⟨c2, -⟩ | ⟨-, c2⟩
          · exact absurd c2 (a_is_dep h.ok (by show pl_fr J (X + 17) p fr < 1; omega))
          · exact c2
        · rw [if_neg q, cf_fx hcp] at c2
          rcases c2 with ⟨c2, -⟩ | ⟨-, c2⟩
          · exact absurd c2 (a_is_dep ok1 (by show pl_fr J (X + 17) p fr < 1; omega))
          · exact c2
      have hr : r = -2 := by
        rcases c3 with ⟨-, c3⟩ | ⟨c3, -⟩
        · exact c3
        · omega
      rcases hs with ⟨-, s2⟩ | ⟨s1, -⟩
      · exact ⟨by omega, fun q => absurd hr q⟩
      · exact absurd (Or.inr g1) s1
    · have hbx : a_bx (fr, 0, 0, 0, md_fe J M p' fr) := bx_rest (by omega) (by omega)
      rw [ef] at c2
      have hstd : s_std (md_cp J M p' 0) st (a_no (fr, 0, 0, 0, md_fe J M p' fr)) r1 := by
        rcases hst with ⟨q1, q2, q3, q4⟩ | ⟨q1, q2, q3⟩
        · rw [if_pos q1] at c2
          have hc2 : cf_w (cl_cf J X) (md_cp J M p' 0) := to_cp h (p := J (X + 32)) (fun i hi => (q3 i hi).symm.trans (hp i hi)) q4
          rw [cf_fw hc2, to_pi h] at c2
          have := fx_std ok1 (to_bx h) hbx ⟨rfl, rfl, rfl⟩ c2
          rw [to_no h] at this
          rw [q2]; exact this
        · rw [if_neg q1, cf_fx hcp] at c2
          rw [q3]
          exact fx_std ok1 q2 hbx ⟨rfl, rfl, rfl⟩ c2
      rcases hs with ⟨s1, -⟩ | ⟨-, r1', s2, s3⟩
      · omega
      · obtain rfl := s_std_u hstd s2
        have h01 := s_std_0 hstd
        rcases c3 with ⟨c3, c4⟩ | ⟨c3, r2, c4, c5⟩
        · rcases s3 with ⟨-, s3⟩ | ⟨s3, -⟩
          · exact ⟨by omega, fun q => absurd c4 q⟩
          · omega
        · rcases s3 with ⟨s3, -⟩ | ⟨-, s3⟩
          · omega
          · have hcp2 : cf_w (pl_cf J (X + 17) (fun i => if i = fr.toNat then p i - 1 else p i) 1) (md_cp J M (a_pm p' fr (-1)) 1) := to_cp h (fun i hi => by
              have := hp i hi
              unfold a_pm
              by_cases q : i = fr.toNat
              · rw [if_pos q, if_pos q]; omega
              · rw [if_neg q, if_neg q]; exact this) rfl
            have ok2 : a_ok (md_cp J M (a_pm p' fr (-1)) 1) := md_cp_ok h.inv (fun i hi => by
              have := hpb i hi
              unfold a_pm
              by_cases q : i = fr.toNat
              · rw [if_pos q, q]; omega
              · rw [if_neg q]; exact this) (Or.inr rfl)
            rw [cf_fx hcp2, ef, et] at c4
            rw [eto] at s3
            by_cases g2 : md_fe J M p' to < 2
            · have hr2 : r2 = -2 := by
                rcases c4 with ⟨c4, -⟩ | ⟨-, c4⟩
                · exact absurd c4 (a_is_dep ok2 (by show md_fe J M p' to - 1 < 1; omega))
                · exact c4
              rw [if_pos (by omega)] at c5
              rcases s3 with ⟨-, s3⟩ | ⟨s3, -⟩
              · exact ⟨by omega, fun q => absurd c5 q⟩
              · exact absurd g2 s3
            · rcases s3 with ⟨s3, -⟩ | ⟨-, r2', s3, s4⟩
              · exact absurd s3 g2
              · have hbx2 : a_bx (to, 0, 0, 0, md_fe J M p' to - 1) := bx_rest (by omega) (by omega)
                have hstd2 := fx_std ok2 hbx hbx2 ⟨rfl, rfl, rfl⟩ c4
                obtain rfl := s_std_u hstd2 s3
                have h02 := s_std_0 hstd2
                rcases s4 with ⟨s4, s5⟩ | ⟨s4, s5, s6, s7⟩
                · rw [if_pos (by omega)] at c5
                  exact ⟨by omega, fun q => absurd c5 q⟩
                · rw [if_neg (by omega)] at c5
                  refine ⟨by omega, fun _ => ⟨by omega, fun i hi => ?_, by rw [s7, et], by rw [et]; exact hbx2, hpf⟩⟩
                  rw [s6]
                  have := hp i hi
                  unfold a_pm ha_mv
                  by_cases q1 : i = to.toNat
                  · rw [if_pos q1, if_pos q1, if_neg (by omega), if_neg (by omega)]; omega
                  · rw [if_neg q1, if_neg q1]
                    by_cases q2 : i = fr.toNat
                    · rw [if_pos q2, if_pos q2]; omega
                    · rw [if_neg q2, if_neg q2]; omega
theorem t_carry (h : to_I en X M N O z0 w0 T0 J0 k T J P L z w) {x y : Int} (hx : m_in x) (hy : m_in y) : m_call en 40 mSc_carry [.ref X, .int (m_i x), .int (m_i y)] (T, m_I J, P, L, z, w) (to_C en X M N O z0 w0 T0 J0 k mMd_carry [.ref M, .int (m_i x), .int (m_i y)]) := by
  obtain ⟨⟨⟨zb, wb, hW, hz, hw⟩, -, -⟩, -⟩ := id h
  refine c_Sc_carry (d := 32) hW hx hy (fun q => ?_) (fun q q2 => ?_) (fun q q2 T' J' P' L' z' w' r p hW' hq hp hr => ?_)
  · refine to_mk h (fun K Q eK hK eX hQ => ?_)
    have pp : ¬ ((0 ≤ x ∧ x < K (M + 2) 0) ∧ (0 ≤ y ∧ y < K (M + 2) 0) ∧ x ≠ y) := by
      rw [← to_wid hK, eX _ (by omega)]
      exact fun c => q ⟨⟨c.1, c.2.1⟩, c.2.2⟩
    exact c_Md_carry (d := 30) hK.sh eK hK.inv hx hy (fun _ => hQ K (md_fy.refl K M) hK.inv.hkp) (fun c => absurd c pp) (fun c => absurd c pp)
  · refine to_mk h (fun K Q eK hK eX hQ => ?_)
    have pp : (0 ≤ x ∧ x < K (M + 2) 0) ∧ (0 ≤ y ∧ y < K (M + 2) 0) ∧ x ≠ y := by
      rw [← to_wid hK, eX _ (by omega)]
      exact ⟨q.1.1, q.1.2, q.2⟩
    have e32 : K M 32 = J (X + 30) 2 := by
      rw [← eX (X + 30) (by omega)]
      exact (hK.rel.2.1.1.2.2.1.1.trans hK.inv.2.1.1.symm).symm
    exact c_Md_carry (d := 30) hK.sh eK hK.inv hx hy (fun c => absurd pp c) (fun _ _ => hQ K (md_fy.refl K M) hK.inv.hkp) (fun _ c => absurd (e32.symm.trans c) q2)
  · have h' := to_Xe (E := fun b i => b = X + 161) (fun b i q => Or.inr (Or.inl q)) h hW' hz hw hq
    refine to_mk h' (fun K Q eK hK eX hQ => ?_)
    have e : ∀ b, b < X + 132 → K b = J b := fun b p => (eX b (by omega)).trans (funext (fun i => hq.2.1 b i (by omega) (by omega)))
    have pp : (0 ≤ x ∧ x < K (M + 2) 0) ∧ (0 ≤ y ∧ y < K (M + 2) 0) ∧ x ≠ y := by
      rw [← to_wid hK, e _ (by omega)]
      exact ⟨q.1.1, q.1.2, q.2⟩
    have e30 : K (X + 30) 2 = 0 := by rw [e _ (by omega)]; exact q2
    have e32 : K M 32 = 0 := (hK.rel.2.1.1.2.2.1.1.trans hK.inv.2.1.1.symm).symm.trans e30
    have hr' : ha_so K X (cl_cf K X) p (-1) (-1) x y r := by
      unfold ha_so at hr ⊢
      have epl : pl_cf K (X + 17) = pl_cf J (X + 17) := by
        funext f b
        unfold pl_cf
        rw [pl_fr_x (J' := K) (J := J) (fun k q => e _ (by omega)), e (X + 17) (by omega)]
      rw [x_cf e, x_pi e, epl, pl_fr_x (J' := K) (J := J) (fun k q => e _ (by omega)), e (X + 17) (by omega)]
      exact hr
    refine c_Md_carry (d := 30) hK.sh eK hK.inv hx hy (fun c => absurd pp c) (fun _ c => absurd e32 c) (fun _ _ J1 r' p2 ct fy hi hs => ?_)
    have := so_car hK (p := p) (p' := K (M + 18)) (fun i hi => by
      rw [hp i hi, ← e (X + 32) (by omega)]
      exact (hK.rel.2.1.1.2.1 i hi).trans (hK.inv.2.1.2.1 i hi).symm) (fun i hi => (hK.inv.hpi i hi).1) pp.1 pp.2.1 pp.2.2 (Or.inl ⟨rfl, rfl, fun i hi => by rw [hp i hi, e (X + 32) (by omega)], e30⟩) hr' hs
    obtain rfl := this.1
    exact hQ J1 fy hi.hkp
end TCR
