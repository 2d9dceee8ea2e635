/-! the class: chance, whole -/
section SCCI
variable {en : Nat → Nat} {d : Nat} {T T' T0 : Nat → Option (Nat × Nat)} {J J' J0 K H : Nat → Nat → Int} {P P' P0 : Nat → Nat → Option Nat} {L L' L0 : Nat → Nat → Int64} {z w z' w' A B R X N zb wb : Nat} {Q : m_Q} {σ τ : a_S} {C : a_C} {sd n what : Int}
theorem f_Sc_chance (hX : cl_sh en X T P) (hw : 0 ≤ what ∧ what ≤ 2) {dr gr mn i : Int} {o8 : Option Value} (eσ : po_get J (X + 164) = σ) (hbx : a_bx σ) (hq : Q (some (.int (m_i (if what = 0 then mn else if what = 2 then gr else a_b (a_hs σ))))) (T, m_I J, P, L, z, w)) : m_wp en (d + 1) mSc_chance 181 [some (.ref X), some (.int (m_i sd)), some (.int (m_i n)), some (.int (m_i what)), some (.int (m_i dr)), some (.int (m_i gr)), some (.int (m_i mn)), some (.int (m_i i)), o8] [] (T, m_I J, P, L, z, w) Q := by
  obtain ⟨y, ey⟩ : ∃ y, y = a_b (decide (J (X + 164) 1 = 0 ∧ J (X + 164) 2 = 0 ∧ J (X + 164) 3 = 0)) := ⟨_, rfl⟩
  have e2 : a_b (a_hs σ) = y := by rw [ey, ← eσ]; rfl
  rw [e2] at hq
  have hy : y = 0 ∨ y = 1 := by rw [ey]; exact (a_bd2 (p := J (X + 164) 1 = 0 ∧ J (X + 164) 2 = 0 ∧ J (X + 164) 3 = 0)).elim (fun q => Or.inr q.1) (fun q => Or.inl q.1)
  refine r_iln eSc_chance_181 rfl ?_
  refine r_zne (tgt := 188) eSc_chance_182 rfl ⟨(by omega), (by omega)⟩ (fun c182 => ?_) (fun c182 => ?_)
  · refine r_iln eSc_chance_188 rfl ?_
    refine r_con eSc_chance_189 ?_
    refine r_cne (tgt := 198) eSc_chance_190 rfl ⟨(by omega), (by omega)⟩ ⟨(by omega), (by omega)⟩ (fun c190 => ?_) (fun c190 => ?_)
    · refine r_aln eSc_chance_198 rfl ?_
      refine m_getR eSc_chance_199 rfl (cl_t hX (i := 0) rfl) (cl_p hX (i := 10) rfl) ?_
      refine r_vir eSc_chance_202 rfl rfl rfl (cl_t hX (i := 158) rfl) rfl rfl ?_
      refine c_Po_isStill (cl_po hX (k := 164) (by decide)) (by rw [eσ]; exact a_bx_sm hbx) ?_
      rw [← ey]
      show m_wp en _ mSc_chance 205 [some (.ref X), some (.int (m_i (sd))), some (.int (m_i (n))), some (.int (m_i (what))), some (.int (m_i (dr))), some (.int (m_i (gr))), some (.int (m_i (mn))), some (.int (m_i (i))), o8] [(.int (m_i (y)))] (T, m_I J, P, L, z, w) Q
      refine r_zeq (tgt := 212) eSc_chance_205 rfl ⟨(by omega), (by omega)⟩ (fun c205 => ?_) (fun c205 => ?_)
      · refine r_con eSc_chance_212 ?_
        refine r_iret eSc_chance_213 rfl ?_
        rw [if_neg (by omega)] at hq
        first | (rw [if_pos (by omega)] at hq; exact hq) | (rw [if_neg (by omega), show y = 0 from by omega] at hq; exact hq) | (rw [if_neg (by omega), show y = 1 from by omega] at hq; exact hq)
      · refine r_con eSc_chance_208 ?_
        refine r_go (tgt := 213) eSc_chance_209 rfl ?_
        refine r_iret eSc_chance_213 rfl ?_
        rw [if_neg (by omega)] at hq
        first | (rw [if_pos (by omega)] at hq; exact hq) | (rw [if_neg (by omega), show y = 0 from by omega] at hq; exact hq) | (rw [if_neg (by omega), show y = 1 from by omega] at hq; exact hq)
    · refine r_il eSc_chance_193 rfl ?_
      refine r_go (tgt := 213) eSc_chance_195 rfl ?_
      refine r_iret eSc_chance_213 rfl ?_
      rw [if_neg (by omega)] at hq
      first | (rw [if_pos (by omega)] at hq; exact hq) | (rw [if_neg (by omega), show y = 0 from by omega] at hq; exact hq) | (rw [if_neg (by omega), show y = 1 from by omega] at hq; exact hq)
  · refine r_il eSc_chance_185 rfl ?_
    refine r_iret eSc_chance_187 rfl ?_
    rw [if_pos (by omega)] at hq
    exact hq
theorem c_Sc_chance (h : cl_W en X N zb wb C T J P z w) (hsd : m_in sd) (hn : m_in n) (hw : m_in what) (h0 : ¬ (-1 ≤ sd ∧ (1 ≤ n ∧ n ≤ 60) ∧ 0 ≤ what ∧ what ≤ 2) → Q (some (.int (m_i (-1)))) (T, m_I J, P, L, z, w))
    (h1 : (-1 ≤ sd ∧ (1 ≤ n ∧ n ≤ 60) ∧ 0 ≤ what ∧ what ≤ 2) → ∀ T' J' P' L' z' w' (mn gr : Int) (σ : a_S), cl_W en X N zb wb C T' J' P' z' w' → cl_qe X N (tr_E X) T J P L T' J' P' L' → a_bx σ → s_chn C (J (X + 30) 3) n n.toNat (if sd = -1 then J (X + 17) 4 else sd) (a_no (po_get J (X + 31))) (a_abs (J (X + 31) 2)) 0 mn gr (a_no σ) → Q (some (.int (m_i (if what = 0 then mn else if what = 2 then gr else a_b (a_hs σ))))) (T', m_I J', P', L', z', w')) : m_call en (d + 7) mSc_chance [.ref X, .int (m_i sd), .int (m_i n), .int (m_i what)] (T, m_I J, P, L, z, w) Q := by
  have hX := h.1.1
  have hmo := h.2.1.2.1
  have hbx := hmo.2.2.2.2
  have hb2 : -4 ≤ J (X + 31) 2 ∧ J (X + 31) 2 ≤ 4 := hbx.2.2.1
  unfold m_in at hsd hn hw
  have hab : 0 ≤ a_abs (J (X + 31) 2) ∧ a_abs (J (X + 31) 2) ≤ 4 := by unfold a_abs; split <;> omega
  have h79 : (-1 ≤ sd ∧ (1 ≤ n ∧ n ≤ 60) ∧ 0 ≤ what ∧ what ≤ 2) → ∀ dr K o8, dr = (if sd = -1 then J (X + 17) 4 else sd) → K = po_put J (X + 164) (po_get J (X + 31)) → m_wp en (d + 6) mSc_chance 79 [some (.ref X), some (.int (m_i sd)), some (.int (m_i n)), some (.int (m_i what)), some (.int (m_i dr)), some (.int (m_i (a_abs (J (X + 31) 2)))), some (.int (m_i 0)), some (.int (m_i 0)), o8] [] (T, m_I K, P, L, z, w) Q := fun g dr K o8 e1 e2 => by
    refine l_Sc_chance (d := d) (T0 := T) (J0 := J) (P0 := P) (L0 := L) g.2.1 hmo.2.2.1 n.toNat dr (po_get J (X + 31)) _ 0 T K P L z w o8 (by omega) (by omega) (by omega) (by rw [e2]; exact cl_W_tr h) (by rw [e2]; exact cl_qe_tr) (by rw [e2, po_get_put]) hbx ?_
    intro T2 J2 P2 L2 z2 w2 dr' gr' mn i σ' o b1 b2 b3 b4 b5
    rw [e1] at b3
    exact f_Sc_chance (d := d + 5) b1.1.1 g.2.2 b4 b5 (h1 g T2 J2 P2 L2 z2 w2 mn gr' σ' b1 b2 b5 b3)
  refine m_into (by decide) (Nat.le_of_ble_eq_true rfl) rfl ?_
  show m_wp en _ mSc_chance 0 [some (.ref X), some (.int (m_i (sd))), some (.int (m_i (n))), some (.int (m_i (what))), none, none, none, none, none] [] (T, m_I J, P, L, z, w) Q
  refine r_iln eSc_chance_0 rfl ?_
  refine r_con eSc_chance_1 ?_
  refine r_clt (tgt := 25) eSc_chance_2 rfl ⟨(by omega), (by omega)⟩ ⟨(by omega), (by omega)⟩ (fun c2 => ?_) (fun c2 => ?_)
  · refine r_con eSc_chance_25 ?_
    refine r_iret eSc_chance_26 rfl ?_
    exact h0 (by omega)
  · refine r_iln eSc_chance_5 rfl ?_
    refine r_con eSc_chance_6 ?_
    refine r_clt (tgt := 25) eSc_chance_7 rfl ⟨(by omega), (by omega)⟩ ⟨(by omega), (by omega)⟩ (fun c7 => ?_) (fun c7 => ?_)
    · refine r_con eSc_chance_25 ?_
      refine r_iret eSc_chance_26 rfl ?_
      exact h0 (by omega)
    · refine r_iln eSc_chance_10 rfl ?_
      refine r_bip eSc_chance_11 (by decide) ?_
      refine r_cgt (tgt := 25) eSc_chance_13 rfl ⟨(by omega), (by omega)⟩ ⟨(by omega), (by omega)⟩ (fun c13 => ?_) (fun c13 => ?_)
      · refine r_con eSc_chance_25 ?_
        refine r_iret eSc_chance_26 rfl ?_
        exact h0 (by omega)
      · refine r_iln eSc_chance_16 rfl ?_
        refine r_zlt (tgt := 25) eSc_chance_17 rfl ⟨(by omega), (by omega)⟩ (fun c17 => ?_) (fun c17 => ?_)
        · refine r_con eSc_chance_25 ?_
          refine r_iret eSc_chance_26 rfl ?_
          exact h0 (by omega)
        · refine r_iln eSc_chance_20 rfl ?_
          refine r_con eSc_chance_21 ?_
          refine r_cle (tgt := 27) eSc_chance_22 rfl ⟨(by omega), (by omega)⟩ ⟨(by omega), (by omega)⟩ (fun c22 => ?_) (fun c22 => ?_)
          · refine r_iln eSc_chance_27 rfl ?_
            refine r_zge (tgt := 41) eSc_chance_28 rfl ⟨(by omega), (by omega)⟩ (fun c28 => ?_) (fun c28 => ?_)
            · refine r_iln eSc_chance_41 rfl ?_
              refine r_is (ls' := [some (.ref X), some (.int (m_i (sd))), some (.int (m_i (n))), some (.int (m_i (what))), some (.int (m_i (sd))), none, none, none, none]) eSc_chance_42 (Nat.le_of_ble_eq_true rfl) rfl ?_
              refine r_aln eSc_chance_44 rfl ?_
              refine m_getR eSc_chance_45 rfl (cl_t hX (i := 0) rfl) (cl_p hX (i := 2) rfl) ?_
              refine m_getR eSc_chance_48 rfl (cl_t hX (i := 30) rfl) (cl_p hX (i := 38) rfl) ?_
              refine r_gete (x := J (X + 31) 2) eSc_chance_51 rfl (by decide) (cl_t hX (i := 31) rfl) rfl ?_
              refine r_abs eSc_chance_54 rfl (Nat.le_of_ble_eq_true rfl) ⟨(by omega), (by omega)⟩ ?_
              rw [a_abs_i]
              refine r_is (ls' := [some (.ref X), some (.int (m_i (sd))), some (.int (m_i (n))), some (.int (m_i (what))), some (.int (m_i (sd))), some (.int (m_i (a_abs (J (X + 31) 2)))), none, none, none]) eSc_chance_57 (Nat.le_of_ble_eq_true rfl) rfl ?_
              refine r_con eSc_chance_59 ?_
              refine r_is (ls' := [some (.ref X), some (.int (m_i (sd))), some (.int (m_i (n))), some (.int (m_i (what))), some (.int (m_i (sd))), some (.int (m_i (a_abs (J (X + 31) 2)))), some (.int (m_i (0))), none, none]) eSc_chance_60 (Nat.le_of_ble_eq_true rfl) rfl ?_
              refine r_aln eSc_chance_62 rfl ?_
              refine m_getR eSc_chance_63 rfl (cl_t hX (i := 0) rfl) (cl_p hX (i := 10) rfl) ?_
              refine r_aln eSc_chance_66 rfl ?_
              refine m_getR eSc_chance_67 rfl (cl_t hX (i := 0) rfl) (cl_p hX (i := 2) rfl) ?_
              refine m_getR eSc_chance_70 rfl (cl_t hX (i := 30) rfl) (cl_p hX (i := 38) rfl) ?_
              refine r_vir eSc_chance_73 rfl rfl rfl (cl_t hX (i := 158) rfl) rfl rfl ?_
              refine k_Po_set (cl_po hX (by decide)) (cl_po hX (by decide)) (by omega) (fun K1 e1 => ?_)
              show m_wp en _ mSc_chance 76 [some (.ref X), some (.int (m_i (sd))), some (.int (m_i (n))), some (.int (m_i (what))), some (.int (m_i (sd))), some (.int (m_i (a_abs (J (X + 31) 2)))), some (.int (m_i (0))), none, none] [] (T, m_I K1, P, L, z, w) Q
              refine r_con eSc_chance_76 ?_
              refine r_is (ls' := [some (.ref X), some (.int (m_i (sd))), some (.int (m_i (n))), some (.int (m_i (what))), some (.int (m_i (sd))), some (.int (m_i (a_abs (J (X + 31) 2)))), some (.int (m_i (0))), some (.int (m_i (0))), none]) eSc_chance_77 (Nat.le_of_ble_eq_true rfl) rfl ?_
              first | exact h79 (by omega) _ K1 _ (by rw [if_pos (by omega)]) e1 | exact h79 (by omega) _ K1 _ (by rw [if_neg (by omega)]) e1
            · refine r_aln eSc_chance_31 rfl ?_
              refine m_getR eSc_chance_32 rfl (cl_t hX (i := 0) rfl) (cl_p hX (i := 1) rfl) ?_
              refine r_gete (x := J (X + 17) 4) eSc_chance_35 rfl (by decide) (cl_t hX (i := 17) rfl) rfl ?_
              refine r_go (tgt := 42) eSc_chance_38 rfl ?_
              refine r_is (ls' := [some (.ref X), some (.int (m_i (sd))), some (.int (m_i (n))), some (.int (m_i (what))), some (.int (m_i (J (X + 17) 4))), none, none, none, none]) eSc_chance_42 (Nat.le_of_ble_eq_true rfl) rfl ?_
              refine r_aln eSc_chance_44 rfl ?_
              refine m_getR eSc_chance_45 rfl (cl_t hX (i := 0) rfl) (cl_p hX (i := 2) rfl) ?_
              refine m_getR eSc_chance_48 rfl (cl_t hX (i := 30) rfl) (cl_p hX (i := 38) rfl) ?_
              refine r_gete (x := J (X + 31) 2) eSc_chance_51 rfl (by decide) (cl_t hX (i := 31) rfl) rfl ?_
              refine r_abs eSc_chance_54 rfl (Nat.le_of_ble_eq_true rfl) ⟨(by omega), (by omega)⟩ ?_
              rw [a_abs_i]
              refine r_is (ls' := [some (.ref X), some (.int (m_i (sd))), some (.int (m_i (n))), some (.int (m_i (what))), some (.int (m_i (J (X + 17) 4))), some (.int (m_i (a_abs (J (X + 31) 2)))), none, none, none]) eSc_chance_57 (Nat.le_of_ble_eq_true rfl) rfl ?_
              refine r_con eSc_chance_59 ?_
              refine r_is (ls' := [some (.ref X), some (.int (m_i (sd))), some (.int (m_i (n))), some (.int (m_i (what))), some (.int (m_i (J (X + 17) 4))), some (.int (m_i (a_abs (J (X + 31) 2)))), some (.int (m_i (0))), none, none]) eSc_chance_60 (Nat.le_of_ble_eq_true rfl) rfl ?_
              refine r_aln eSc_chance_62 rfl ?_
              refine m_getR eSc_chance_63 rfl (cl_t hX (i := 0) rfl) (cl_p hX (i := 10) rfl) ?_
              refine r_aln eSc_chance_66 rfl ?_
              refine m_getR eSc_chance_67 rfl (cl_t hX (i := 0) rfl) (cl_p hX (i := 2) rfl) ?_
              refine m_getR eSc_chance_70 rfl (cl_t hX (i := 30) rfl) (cl_p hX (i := 38) rfl) ?_
              refine r_vir eSc_chance_73 rfl rfl rfl (cl_t hX (i := 158) rfl) rfl rfl ?_
              refine k_Po_set (cl_po hX (by decide)) (cl_po hX (by decide)) (by omega) (fun K1 e1 => ?_)
              show m_wp en _ mSc_chance 76 [some (.ref X), some (.int (m_i (sd))), some (.int (m_i (n))), some (.int (m_i (what))), some (.int (m_i (J (X + 17) 4))), some (.int (m_i (a_abs (J (X + 31) 2)))), some (.int (m_i (0))), none, none] [] (T, m_I K1, P, L, z, w) Q
              refine r_con eSc_chance_76 ?_
              refine r_is (ls' := [some (.ref X), some (.int (m_i (sd))), some (.int (m_i (n))), some (.int (m_i (what))), some (.int (m_i (J (X + 17) 4))), some (.int (m_i (a_abs (J (X + 31) 2)))), some (.int (m_i (0))), some (.int (m_i (0))), none]) eSc_chance_77 (Nat.le_of_ble_eq_true rfl) rfl ?_
              first | exact h79 (by omega) _ K1 _ (by rw [if_pos (by omega)]) e1 | exact h79 (by omega) _ K1 _ (by rw [if_neg (by omega)]) e1
          · refine r_con eSc_chance_25 ?_
            refine r_iret eSc_chance_26 rfl ?_
            exact h0 (by omega)
end SCCI
