/-! the class: chance -/
section SCCH
variable {en : Nat → Nat} {d : Nat} {T T' T0 : Nat → Option (Nat × Nat)} {J J' J0 K H : Nat → Nat → Int} {P P' P0 : Nat → Nat → Option Nat} {L L' L0 : Nat → Nat → Int64} {z w z' w' A B R X N zb wb : Nat} {Q : m_Q} {σ τ : a_S} {C : a_C} {sd n what : Int}
theorem x_Sc_chance (hX : cl_sh en X T P) {dr gr dn i : Int} {o8 : Option Value} (hn : 1 ≤ n ∧ n ≤ 60) (hi : 0 ≤ i ∧ i ≤ 61) (hd : 0 ≤ dn ∧ dn ≤ 60) (hne : i ≠ dn) (hq : m_wp en d mSc_chance 181 [some (.ref X), some (.int (m_i sd)), some (.int (m_i n)), some (.int (m_i what)), some (.int (m_i dr)), some (.int (m_i gr)), some (.int (m_i dn)), some (.int (m_i i)), o8] [] (T, m_I J, P, L, z, w) Q) : m_wp en d mSc_chance 79 [some (.ref X), some (.int (m_i sd)), some (.int (m_i n)), some (.int (m_i what)), some (.int (m_i dr)), some (.int (m_i gr)), some (.int (m_i dn)), some (.int (m_i i)), o8] [] (T, m_I J, P, L, z, w) Q := by
  refine r_il eSc_chance_79 rfl ?_
  refine r_iln eSc_chance_81 rfl ?_
  refine r_cge (tgt := 181) eSc_chance_82 rfl ⟨(by omega), (by omega)⟩ ⟨(by omega), (by omega)⟩ (fun c82 => ?_) (fun c82 => ?_)
  · exact hq
  · refine r_il eSc_chance_85 rfl ?_
    refine r_il eSc_chance_87 rfl ?_
    refine r_cne (tgt := 181) eSc_chance_89 rfl ⟨(by omega), (by omega)⟩ ⟨(by omega), (by omega)⟩ (fun c89 => ?_) (fun c89 => ?_)
    · exact hq
    · exfalso; omega
theorem l_Sc_chance (hn : 1 ≤ n ∧ n ≤ 60) (ht : 0 ≤ J0 (X + 30) 3 ∧ J0 (X + 30) 3 ≤ 9999) :
    ∀ (k : Nat) (dr : Int) (σ : a_S) (gr dn : Int) (T : Nat → Option (Nat × Nat)) (J : Nat → Nat → Int) (P : Nat → Nat → Option Nat) (L : Nat → Nat → Int64) (z w : Nat) (o8 : Option Value), dn + k = n → 0 ≤ dn → (0 ≤ gr ∧ gr ≤ 100) → cl_W en X N zb wb C T J P z w → cl_qe X N (tr_E X) T0 J0 P0 L0 T J P L → po_get J (X + 164) = σ → a_bx σ →
      (∀ (T : Nat → Option (Nat × Nat)) (J : Nat → Nat → Int) (P : Nat → Nat → Option Nat) (L : Nat → Nat → Int64) (z w : Nat) (dr' gr' mn i : Int) (σ' : a_S) (o8 : Option Value), cl_W en X N zb wb C T J P z w → cl_qe X N (tr_E X) T0 J0 P0 L0 T J P L → s_chn C (J0 (X + 30) 3) n k dr (a_no σ) gr dn mn gr' (a_no σ') → po_get J (X + 164) = σ' → a_bx σ' → m_wp en (d + 6) mSc_chance 181 [some (.ref X), some (.int (m_i sd)), some (.int (m_i n)), some (.int (m_i what)), some (.int (m_i dr')), some (.int (m_i gr')), some (.int (m_i mn)), some (.int (m_i i)), o8] [] (T, m_I J, P, L, z, w) Q) →
      m_wp en (d + 6) mSc_chance 79 [some (.ref X), some (.int (m_i sd)), some (.int (m_i n)), some (.int (m_i what)), some (.int (m_i dr)), some (.int (m_i gr)), some (.int (m_i dn)), some (.int (m_i dn)), o8] [] (T, m_I J, P, L, z, w) Q := by
  intro k
  induction k with
  | zero =>
    intro dr σ gr dn T J P L z w o8 hk h0 hg hW hc eσ hbx hq
    have hX := hW.1.1
    have h9 := hq T J P L z w dr gr dn dn σ o8 hW hc ⟨rfl, rfl, rfl⟩ eσ hbx
    refine r_il eSc_chance_79 rfl ?_
    refine r_iln eSc_chance_81 rfl ?_
    refine r_cge (tgt := 181) eSc_chance_82 rfl ⟨(by omega), (by omega)⟩ ⟨(by omega), (by omega)⟩ (fun c82 => ?_) (fun c82 => ?_)
    · exact h9
    · exfalso; omega
  | succ k ih =>
    intro dr σ gr dn T J P L z w o8 hk h0 hg hW hc eσ hbx hq
    have hX := hW.1.1
    have ok := hW.2.1.2.2.1
    have e3 : J (X + 30) 3 = J0 (X + 30) 3 := hc.2.1 _ _ (by omega) (fun q => by rcases q with q | q <;> omega)
    have hdb := a_dw_bd (a_draw dr)
    have hs := a_dsh dr
    unfold a_draw at hs
    have hsw : ∀ c, a_why C (a_step σ c (a_dw (a_draw dr) - 1)) = 0 → a_bx (a_step σ c (a_dw (a_draw dr) - 1)) := fun c q => a_bx_st ok hbx q
    have hend : ¬ J0 (X + 30) 3 + dn < 9999 → m_wp en (d + 6) mSc_chance 181 [some (.ref X), some (.int (m_i sd)), some (.int (m_i n)), some (.int (m_i what)), some (.int (m_i dr)), some (.int (m_i gr)), some (.int (m_i dn)), some (.int (m_i dn)), o8] [] (T, m_I J, P, L, z, w) Q := fun q => hq T J P L z w dr gr dn dn σ o8 hW hc (Or.inl ⟨fun e => q e.2, rfl, rfl, rfl⟩) eσ hbx
    have hbad : ∀ T' J' P' L' z' w' c, cl_W en X N zb wb C T' J' P' z' w' → cl_qe X N (tr_E X) T J P L T' J' P' L' → s_stl C (a_no σ) c → a_why C (a_step σ c (a_dw (a_draw dr) - 1)) ≠ 0 → po_get J' (X + 164) = σ → J0 (X + 30) 3 + dn < 9999 → ∀ o, m_wp en (d + 6) mSc_chance 79 [some (.ref X), some (.int (m_i sd)), some (.int (m_i n)), some (.int (m_i what)), some (.int (m_i (a_draw dr))), some (.int (m_i gr)), some (.int (m_i dn)), some (.int (m_i (dn + 1))), o] [] (T', m_I J', P', L', z', w') Q := fun T' J' P' L' z' w' c a1 a2 a3 a4 a5 a6 o => by
      refine x_Sc_chance a1.1.1 hn (by omega) (by omega) (by omega) ?_
      refine hq T' J' P' L' z' w' (a_draw dr) gr dn (dn + 1) σ o a1 (cl_qe_t hc a2) (Or.inr ⟨⟨by omega, a6⟩, c, a3, Or.inl ⟨?_, rfl, rfl, rfl⟩⟩) a5 hbx
      rw [a_of_no hbx]
      exact a4
    have hgood : ∀ T' J' P' L' z' w' c, cl_W en X N zb wb C T' J' P' z' w' → cl_qe X N (tr_E X) T J P L T' J' P' L' → s_stl C (a_no σ) c → a_why C (a_step σ c (a_dw (a_draw dr) - 1)) = 0 → po_get J' (X + 164) = a_step σ c (a_dw (a_draw dr) - 1) → J0 (X + 30) 3 + dn < 9999 → ∀ g o, g = (if dn = 0 then a_abs (J' (X + 164) 2) else a_gt gr (a_abs (J' (X + 164) 2))) → m_wp en (d + 6) mSc_chance 79 [some (.ref X), some (.int (m_i sd)), some (.int (m_i n)), some (.int (m_i what)), some (.int (m_i (a_draw dr))), some (.int (m_i g)), some (.int (m_i (dn + 1))), some (.int (m_i (dn + 1))), o] [] (T', m_I J', P', L', z', w') Q := fun T' J' P' L' z' w' c a1 a2 a3 a4 a5 a6 g o eg => by
      have hb := hsw c a4
      have e2 : (a_step σ c (a_dw (a_draw dr) - 1)).2.2.1 = J' (X + 164) 2 := by rw [← a5]; rfl
      have hab := a_abs_sm hb
      rw [e2] at hab
      have hgb := a_gt_bd hg (show 0 ≤ a_abs (J' (X + 164) 2) ∧ a_abs (J' (X + 164) 2) ≤ 100 by omega)
      refine ih (a_draw dr) _ g (dn + 1) T' J' P' L' z' w' o (by omega) (by omega) (by rw [eg]; split <;> omega) a1 (cl_qe_t hc a2) a5 hb ?_
      intro T2 J2 P2 L2 z2 w2 dr' gr' mn i σ' o8 b1 b2 b3 b4 b5
      refine hq T2 J2 P2 L2 z2 w2 dr' gr' mn i σ' o8 b1 b2 (Or.inr ⟨⟨by omega, a6⟩, c, a3, Or.inr ?_⟩) b4 b5
      rw [a_of_no hbx, e2, ← eg]
      exact ⟨a4, b3⟩
    refine r_il eSc_chance_79 rfl ?_
    refine r_iln eSc_chance_81 rfl ?_
    refine r_cge (tgt := 181) eSc_chance_82 rfl ⟨(by omega), (by omega)⟩ ⟨(by omega), (by omega)⟩ (fun c82 => ?_) (fun c82 => ?_)
    · first | (exfalso; omega) | exact hend (by omega)
    · refine r_il eSc_chance_85 rfl ?_
      refine r_il eSc_chance_87 rfl ?_
      refine r_cne (tgt := 181) eSc_chance_89 rfl ⟨(by omega), (by omega)⟩ ⟨(by omega), (by omega)⟩ (fun c89 => ?_) (fun c89 => ?_)
      · first | (exfalso; omega) | exact hend (by omega)
      · refine r_aln eSc_chance_92 rfl ?_
        refine m_getR eSc_chance_93 rfl (cl_t hX (i := 0) rfl) (cl_p hX (i := 2) rfl) ?_
        refine r_gete (x := J (X + 30) 3) eSc_chance_96 rfl (by decide) (cl_t hX (i := 30) rfl) rfl ?_
        refine r_il eSc_chance_99 rfl ?_
        refine r_add eSc_chance_101 ?_
        refine r_sip eSc_chance_102 (by decide) ?_
        refine r_cge (tgt := 181) eSc_chance_105 rfl ⟨(by omega), (by omega)⟩ ⟨(by omega), (by omega)⟩ (fun c105 => ?_) (fun c105 => ?_)
        · first | (exfalso; omega) | exact hend (by omega)
        · refine r_il eSc_chance_108 rfl ?_
          refine r_ldcw (x := 1103515245) eSc_chance_110 rfl (by decide) ?_
          refine r_mul eSc_chance_113 ?_
          refine r_sip eSc_chance_114 (by decide) ?_
          refine r_add eSc_chance_117 ?_
          refine r_ldcw (x := 2147483647) eSc_chance_118 rfl (by decide) ?_
          refine r_and eSc_chance_121 ?_
          refine r_is (ls' := [some (.ref X), some (.int (m_i (sd))), some (.int (m_i (n))), some (.int (m_i (what))), some (.int (m_i (m_and (((dr) * (1103515245)) + (12345)) (2147483647)))), some (.int (m_i (gr))), some (.int (m_i (dn))), some (.int (m_i (dn))), o8]) eSc_chance_122 (Nat.le_of_ble_eq_true rfl) rfl ?_
          refine r_aln eSc_chance_124 rfl ?_
          refine r_il eSc_chance_125 rfl ?_
          refine r_bip eSc_chance_127 (by decide) ?_
          refine r_shr eSc_chance_129 ?_
          refine r_con eSc_chance_130 ?_
          refine r_rem eSc_chance_131 ⟨(by omega), (by omega)⟩ ⟨(by omega), (by omega)⟩ ?_
          refine r_con eSc_chance_132 ?_
          refine r_sub eSc_chance_133 ?_
          refine r_vir eSc_chance_134 rfl rfl rfl (cl_t hX (i := 0) rfl) rfl rfl ?_
          refine c_Sc_chanceTick (d := d) (f := a_dw (a_draw dr) - 1) hW eσ hbx (by omega) (fun T J2 P L z w c k1 k2 k3 k4 k5 k6 => ?_) (fun T J2 P L z w c k1 k2 k3 k4 k5 k6 => ?_)
          · have hX := k1.1.1
            have g0 := hbad T J2 P L z w c k1 k2 k3 k5 k6
            show m_wp en _ mSc_chance 137 [some (.ref X), some (.int (m_i (sd))), some (.int (m_i (n))), some (.int (m_i (what))), some (.int (m_i (m_and (((dr) * (1103515245)) + (12345)) (2147483647)))), some (.int (m_i (gr))), some (.int (m_i (dn))), some (.int (m_i (dn))), o8] [(.int (m_i (0)))] (T, m_I J2, P, L, z, w) Q
            refine r_zeq (tgt := 175) eSc_chance_137 rfl ⟨(by omega), (by omega)⟩ (fun c137 => ?_) (fun c137 => ?_)
            · refine r_inc (ls' := [some (.ref X), some (.int (m_i (sd))), some (.int (m_i (n))), some (.int (m_i (what))), some (.int (m_i (m_and (((dr) * (1103515245)) + (12345)) (2147483647)))), some (.int (m_i (gr))), some (.int (m_i (dn))), some (.int (m_i (dn + 1))), o8]) eSc_chance_175 rfl rfl ?_
              refine r_go (tgt := 79) eSc_chance_178 rfl ?_
              first | exact g0 (by omega) _ | exact g1 (by omega) _ _ (by rw [if_pos (by omega)]) | exact g1 (by omega) _ _ (by rw [if_neg (by omega)]; unfold a_gt; split <;> omega)
            · exfalso; omega
          · have hX := k1.1.1
            have g1 := hgood T J2 P L z w c k1 k2 k3 k5 k6
            have g2 := hsw c k5
            rw [← k6] at g2
            have g3 : -4 ≤ J2 (X + 164) 2 ∧ J2 (X + 164) 2 ≤ 4 := g2.2.2.1
            show m_wp en _ mSc_chance 137 [some (.ref X), some (.int (m_i (sd))), some (.int (m_i (n))), some (.int (m_i (what))), some (.int (m_i (m_and (((dr) * (1103515245)) + (12345)) (2147483647)))), some (.int (m_i (gr))), some (.int (m_i (dn))), some (.int (m_i (dn))), o8] [(.int (m_i (1)))] (T, m_I J2, P, L, z, w) Q
            refine r_zeq (tgt := 175) eSc_chance_137 rfl ⟨(by omega), (by omega)⟩ (fun c137 => ?_) (fun c137 => ?_)
            · exfalso; omega
            · refine r_inc (ls' := [some (.ref X), some (.int (m_i (sd))), some (.int (m_i (n))), some (.int (m_i (what))), some (.int (m_i (m_and (((dr) * (1103515245)) + (12345)) (2147483647)))), some (.int (m_i (gr))), some (.int (m_i (dn + 1))), some (.int (m_i (dn))), o8]) eSc_chance_140 rfl rfl ?_
              refine r_aln eSc_chance_143 rfl ?_
              refine m_getR eSc_chance_144 rfl (cl_t hX (i := 0) rfl) (cl_p hX (i := 10) rfl) ?_
              refine r_gete (x := J2 (X + 164) 2) eSc_chance_147 rfl (by decide) (cl_t hX (i := 158) rfl) rfl ?_
              refine r_abs eSc_chance_150 rfl (Nat.le_of_ble_eq_true rfl) ⟨(by omega), (by omega)⟩ ?_
              rw [a_abs_i]
              have hab : 0 ≤ a_abs (J2 (X + 164) 2) ∧ a_abs (J2 (X + 164) 2) ≤ 4 := (by unfold a_abs; split <;> omega)
              refine r_is (ls' := [some (.ref X), some (.int (m_i (sd))), some (.int (m_i (n))), some (.int (m_i (what))), some (.int (m_i (m_and (((dr) * (1103515245)) + (12345)) (2147483647)))), some (.int (m_i (gr))), some (.int (m_i (dn + 1))), some (.int (m_i (dn))), some (.int (m_i (a_abs (J2 (X + 164) 2))))]) eSc_chance_153 (Nat.le_of_ble_eq_true rfl) rfl ?_
              refine r_il eSc_chance_155 rfl ?_
              refine r_con eSc_chance_157 ?_
              refine r_cne (tgt := 166) eSc_chance_158 rfl ⟨(by omega), (by omega)⟩ ⟨(by omega), (by omega)⟩ (fun c158 => ?_) (fun c158 => ?_)
              · refine r_il eSc_chance_166 rfl ?_
                refine r_il eSc_chance_168 rfl ?_
                refine r_max eSc_chance_170 rfl (Nat.le_of_ble_eq_true rfl) ⟨(by omega), (by omega)⟩ ⟨(by omega), (by omega)⟩ ?_
                refine r_is (ls' := [some (.ref X), some (.int (m_i (sd))), some (.int (m_i (n))), some (.int (m_i (what))), some (.int (m_i (m_and (((dr) * (1103515245)) + (12345)) (2147483647)))), some (.int (m_i (max (gr) (a_abs (J2 (X + 164) 2))))), some (.int (m_i (dn + 1))), some (.int (m_i (dn))), some (.int (m_i (a_abs (J2 (X + 164) 2))))]) eSc_chance_173 (Nat.le_of_ble_eq_true rfl) rfl ?_
                refine r_inc (ls' := [some (.ref X), some (.int (m_i (sd))), some (.int (m_i (n))), some (.int (m_i (what))), some (.int (m_i (m_and (((dr) * (1103515245)) + (12345)) (2147483647)))), some (.int (m_i (max (gr) (a_abs (J2 (X + 164) 2))))), some (.int (m_i (dn + 1))), some (.int (m_i (dn + 1))), some (.int (m_i (a_abs (J2 (X + 164) 2))))]) eSc_chance_175 rfl rfl ?_
                refine r_go (tgt := 79) eSc_chance_178 rfl ?_
                first | exact g0 (by omega) _ | exact g1 (by omega) _ _ (by rw [if_pos (by omega)]) | exact g1 (by omega) _ _ (by rw [if_neg (by omega)]; unfold a_gt; split <;> omega)
              · refine r_il eSc_chance_161 rfl ?_
                refine r_go (tgt := 173) eSc_chance_163 rfl ?_
                refine r_is (ls' := [some (.ref X), some (.int (m_i (sd))), some (.int (m_i (n))), some (.int (m_i (what))), some (.int (m_i (m_and (((dr) * (1103515245)) + (12345)) (2147483647)))), some (.int (m_i (a_abs (J2 (X + 164) 2)))), some (.int (m_i (dn + 1))), some (.int (m_i (dn))), some (.int (m_i (a_abs (J2 (X + 164) 2))))]) eSc_chance_173 (Nat.le_of_ble_eq_true rfl) rfl ?_
                refine r_inc (ls' := [some (.ref X), some (.int (m_i (sd))), some (.int (m_i (n))), some (.int (m_i (what))), some (.int (m_i (m_and (((dr) * (1103515245)) + (12345)) (2147483647)))), some (.int (m_i (a_abs (J2 (X + 164) 2)))), some (.int (m_i (dn + 1))), some (.int (m_i (dn + 1))), some (.int (m_i (a_abs (J2 (X + 164) 2))))]) eSc_chance_175 rfl rfl ?_
                refine r_go (tgt := 79) eSc_chance_178 rfl ?_
                first | exact g0 (by omega) _ | exact g1 (by omega) _ _ (by rw [if_pos (by omega)]) | exact g1 (by omega) _ _ (by rw [if_neg (by omega)]; unfold a_gt; split <;> omega)
end SCCH
