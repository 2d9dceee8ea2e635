/-! the class: the best order of all spots, all of it -/
section RP
variable {en : Nat → Nat} {d : Nat} {T T' T2 T0 : Nat → Option (Nat × Nat)} {J J' J0 J1 J2 J3 K H : Nat → Nat → Int} {P P' P2 P0 : Nat → Nat → Option Nat} {L L' L2 L0 : Nat → Nat → Int64} {z w z' w' z0 w0 A B R U S X N zb wb o o' A0 R' U' n' : Nat} {Q : m_Q} {σ τ γ π ρ : a_S} {C C2 : a_C} {bw most by_ gl : Int} {E : Nat → Nat → Prop} {n : Nat} {d0 : Nat → Int} {dl : Nat → Nat → Int}
theorem ro_lp_b {rec : Int → Int → ro_T → ro_T} {done : Nat} {vis st : Int} {s : ro_T} (h0 : ∀ k, d0 k < 100000) (hl : ∀ f t, dl f t < 100000) (hst : 0 ≤ st ∧ st ≤ 100000 * (done : Int)) (hs : -2 ≤ s.2.1 ∧ s.2.1 ≤ 700000) (hrec : ∀ vis' st' s', 0 ≤ st' ∧ st' ≤ 100000 * ((done : Int) + 1) → -2 ≤ s'.2.1 ∧ s'.2.1 ≤ 700000 → -2 ≤ (rec vis' st' s').2.1 ∧ (rec vis' st' s').2.1 ≤ 700000) : ∀ k, -2 ≤ (ro_lp rec d0 dl done vis st k s).2.1 ∧ (ro_lp rec d0 dl done vis st k s).2.1 ≤ 700000 := by
  intro k
  induction k with
  | zero => exact hs
  | succ k ih =>
    have hb : (if done < 1 then d0 k else dl ((ro_lp rec d0 dl done vis st k s).1 (done - 1)).toNat k) < 100000 := by
      split
      · exact h0 k
      · exact hl _ k
    unfold ro_lp
    generalize hlg : (if done < 1 then d0 k else dl ((ro_lp rec d0 dl done vis st k s).1 (done - 1)).toNat k) = lg at hb ⊢
    by_cases q : a_bit vis (k : Int) ≠ 0
    · rw [if_pos q]; exact ih
    · rw [if_neg q]
      by_cases q2 : 0 ≤ lg
      · rw [if_pos q2]
        exact hrec _ _ _ (by omega) ih
      · rw [if_neg q2]; exact ih
theorem ro_go_b (h0 : ∀ k, d0 k < 100000) (hl : ∀ f t, dl f t < 100000) : ∀ (f done : Nat) (vis st : Int) (s : ro_T), done + f ≤ 7 → 0 ≤ st ∧ st ≤ 100000 * (done : Int) → -2 ≤ s.2.1 ∧ s.2.1 ≤ 700000 → -2 ≤ (ro_go n d0 dl f done vis st s).2.1 ∧ (ro_go n d0 dl f done vis st s).2.1 ≤ 700000 := by
  intro f
  induction f with
  | zero => intro done vis st s _ _ hs; exact hs
  | succ f ih =>
    intro done vis st s hd hst hs
    unfold ro_go
    split
    · exact hs
    · split
      · show -2 ≤ st ∧ st ≤ 700000
        omega
      · exact ro_lp_b h0 hl hst hs (fun vis' st' s' a b => ih (done + 1) vis' st' s' (by omega) (by omega) b) n
theorem ro_S_cp {st : Int} : ro_S (m_fl (m_up J (X + 157) 4 st) (X + 159) 0 (J (X + 158)) 6) X = ro_cp (ro_S J X) st := by
  unfold ro_S ro_cp
  refine Prod.ext ?_ (Prod.ext ?_ ?_)
  · funext i
    simp only
    rw [m_fl_o (by omega), m_up_o (by omega)]
  · simp only
    rw [m_fl_o (by omega), m_up_same]
  · funext i
    simp only
    by_cases q : i < 6
    · rw [m_fl_i (by omega), if_pos q, Nat.sub_zero]
    · rw [m_fl_x (by omega), if_neg q, m_up_o (by omega)]
theorem c_Ro_goOn (hN : X + 165 ≤ N) (hH0 : ro_H J0 X n C d0 dl) (h0 : ∀ k, d0 k < 100000) (hl : ∀ f t, dl f t < 100000) : ∀ (f done : Nat) (vis st : Int) (T : Nat → Option (Nat × Nat)) (J : Nat → Nat → Int) (P : Nat → Nat → Option Nat) (L : Nat → Nat → Int64) (z w : Nat) (Q : m_Q), done + f = n → (0 ≤ vis ∧ vis < 64) → (0 ≤ st ∧ st ≤ 100000 * (done : Int)) → cl_W en X N zb wb C T J P z w → (∀ b i, b < X + 132 → J b i = J0 b i) → (1 ≤ done → 0 ≤ J (X + 158) (done - 1) ∧ J (X + 158) (done - 1) < n) → (-2 ≤ J (X + 157) 4 ∧ J (X + 157) 4 ≤ 700000) →
    (∀ T' J' P' L' z' w', cl_W en X N zb wb C T' J' P' z' w' → cl_qe X N (ro_E X) T J P L T' J' P' L' → ro_S J' X = ro_go n d0 dl (f + 1) done vis st (ro_S J X) → ro_P (J (X + 158)) (J' (X + 158)) done → Q none (T', m_I J', P', L', z', w')) → m_call en (d + f + 6) mRo_goOn [.ref (X + 157), .int (m_i (done : Int)), .int (m_i vis), .int (m_i st)] (T, m_I J, P, L, z, w) Q := by
  intro f
  induction f with
  | zero =>
    intro done vis st T J P L z w Q hd hv hst hW hJ0 hpre hbs hq
    have n6 := hH0.2.1
    have hX := hW.1.1
    have e29 : J (X + 29) 5 = (n : Int) := (hJ0 _ _ (by omega)).trans hH0.1
    have ecr : m_up J (X + 157) 4 st (X + 158) = J (X + 158) := funext (fun i => m_up_o (by omega))
    have hno : (0 ≤ J (X + 157) 4 ∧ J (X + 157) 4 ≤ st) → Q none (T, m_I J, P, L, z, w) := fun q => hq T J P L z w hW cl_qe_r (by unfold ro_go; rw [if_pos (show 0 ≤ (ro_S J X).2.1 ∧ (ro_S J X).2.1 ≤ st from q)]) (fun _ _ => rfl)
    have hcp : ¬ (0 ≤ J (X + 157) 4 ∧ J (X + 157) 4 ≤ st) → Q none (T, m_I (m_fl (m_up J (X + 157) 4 st) (X + 159) 0 (J (X + 158)) 6), P, L, z, w) := fun q => hq T _ P L z w (cl_W_z hW (fun b i q2 => by rw [m_fl_o (by omega), m_up_o (by omega)])) (cl_qe_J (fun b i q2 q3 => by unfold ro_E at q3; rw [m_fl_o (by omega), m_up_at, if_neg (by omega)])) (by unfold ro_go; rw [if_neg (show ¬ (0 ≤ (ro_S J X).2.1 ∧ (ro_S J X).2.1 ≤ st) from q), if_pos (by omega)]; exact ro_S_cp) (fun i _ => by rw [m_fl_o (by omega), m_up_o (by omega)])
    refine m_into (by decide) (Nat.le_of_ble_eq_true rfl) rfl ?_
    show m_wp en _ mRo_goOn 0 [some (.ref (X + 157)), some (.int (m_i ((done : Int)))), some (.int (m_i (vis))), some (.int (m_i (st))), none, none] [] (T, m_I J, P, L, z, w) Q
    refine r_aln eRo_goOn_0 rfl ?_
    refine r_gete (x := J (X + 157) 4) eRo_goOn_1 rfl (by decide) (cl_t hX (i := 151) rfl) rfl ?_
    refine r_zlt (tgt := 16) eRo_goOn_4 rfl ⟨(by omega), (by omega)⟩ (fun c4 => ?_) (fun c4 => ?_)
    · refine r_iln eRo_goOn_16 rfl ?_
      refine r_aln eRo_goOn_17 rfl ?_
      refine m_getR eRo_goOn_18 rfl (cl_t hX (i := 151) rfl) (cl_p hX (i := 125) rfl) ?_
      refine m_getR eRo_goOn_21 rfl (cl_t hX (i := 17) rfl) (cl_p hX (i := 37) rfl) ?_
      refine r_con eRo_goOn_24 ?_
      refine r_ialde (x := J (X + 29) 5) eRo_goOn_25 (cl_t hX (i := 29) rfl) (by decide) (by omega) (by omega) rfl ?_
      refine r_cge (tgt := 38) eRo_goOn_26 rfl ⟨(by omega), (by omega)⟩ ⟨(by omega), (by omega)⟩ (fun c26 => ?_) (fun c26 => ?_)
      · refine r_aln eRo_goOn_38 rfl ?_
        refine r_iln eRo_goOn_39 rfl ?_
        refine r_put eRo_goOn_40 rfl (cl_t hX (i := 151) rfl) (cl_e hX 157) (Or.inl rfl) ?_
        refine r_aln eRo_goOn_43 rfl ?_
        refine m_getR eRo_goOn_44 rfl (cl_t hX (i := 151) rfl) (cl_p hX (i := 127) rfl) ?_
        refine r_aln eRo_goOn_47 rfl ?_
        refine m_getR eRo_goOn_48 rfl (cl_t hX (i := 151) rfl) (cl_p hX (i := 128) rfl) ?_
        refine r_sta eRo_goOn_51 rfl rfl (by decide) rfl ?_
        refine c_Sc_copyRow (n := 6) (hX.2.1 (158, 20, 6) (by decide)) (hX.2.1 (159, 20, 6) (by decide)) (cl_e hX 159) (by omega) (by omega) ?_
        rw [ecr]
        show m_wp en _ mRo_goOn 54 [some (.ref (X + 157)), some (.int (m_i ((done : Int)))), some (.int (m_i (vis))), some (.int (m_i (st))), none, none] [] (T, m_I (((m_fl ((m_up J (X + 157) 4 (st))) (X + 159) 0 (J (X + 158)) 6))), P, L, z, w) Q
        refine r_ret eRo_goOn_54 rfl ?_
        exact hcp (by omega)
      · refine r_iln eRo_goOn_29 rfl ?_
        refine r_aln eRo_goOn_30 rfl ?_
        refine m_getR eRo_goOn_31 rfl (cl_t hX (i := 151) rfl) (cl_p hX (i := 127) rfl) ?_
        refine r_alen eRo_goOn_34 (cl_t hX (i := 152) rfl) (by decide) ?_
        refine r_clt (tgt := 55) eRo_goOn_35 rfl ⟨(by omega), (by omega)⟩ ⟨(by omega), (by omega)⟩ (fun c35 => ?_) (fun c35 => ?_)
        · exfalso; omega
        · refine r_aln eRo_goOn_38 rfl ?_
          refine r_iln eRo_goOn_39 rfl ?_
          refine r_put eRo_goOn_40 rfl (cl_t hX (i := 151) rfl) (cl_e hX 157) (Or.inl rfl) ?_
          refine r_aln eRo_goOn_43 rfl ?_
          refine m_getR eRo_goOn_44 rfl (cl_t hX (i := 151) rfl) (cl_p hX (i := 127) rfl) ?_
          refine r_aln eRo_goOn_47 rfl ?_
          refine m_getR eRo_goOn_48 rfl (cl_t hX (i := 151) rfl) (cl_p hX (i := 128) rfl) ?_
          refine r_sta eRo_goOn_51 rfl rfl (by decide) rfl ?_
          refine c_Sc_copyRow (n := 6) (hX.2.1 (158, 20, 6) (by decide)) (hX.2.1 (159, 20, 6) (by decide)) (cl_e hX 159) (by omega) (by omega) ?_
          rw [ecr]
          show m_wp en _ mRo_goOn 54 [some (.ref (X + 157)), some (.int (m_i ((done : Int)))), some (.int (m_i (vis))), some (.int (m_i (st))), none, none] [] (T, m_I (((m_fl ((m_up J (X + 157) 4 (st))) (X + 159) 0 (J (X + 158)) 6))), P, L, z, w) Q
          refine r_ret eRo_goOn_54 rfl ?_
          exact hcp (by omega)
    · refine r_iln eRo_goOn_7 rfl ?_
      refine r_aln eRo_goOn_8 rfl ?_
      refine r_gete (x := J (X + 157) 4) eRo_goOn_9 rfl (by decide) (cl_t hX (i := 151) rfl) rfl ?_
      refine r_clt (tgt := 16) eRo_goOn_12 rfl ⟨(by omega), (by omega)⟩ ⟨(by omega), (by omega)⟩ (fun c12 => ?_) (fun c12 => ?_)
      · refine r_iln eRo_goOn_16 rfl ?_
        refine r_aln eRo_goOn_17 rfl ?_
        refine m_getR eRo_goOn_18 rfl (cl_t hX (i := 151) rfl) (cl_p hX (i := 125) rfl) ?_
        refine m_getR eRo_goOn_21 rfl (cl_t hX (i := 17) rfl) (cl_p hX (i := 37) rfl) ?_
        refine r_con eRo_goOn_24 ?_
        refine r_ialde (x := J (X + 29) 5) eRo_goOn_25 (cl_t hX (i := 29) rfl) (by decide) (by omega) (by omega) rfl ?_
        refine r_cge (tgt := 38) eRo_goOn_26 rfl ⟨(by omega), (by omega)⟩ ⟨(by omega), (by omega)⟩ (fun c26 => ?_) (fun c26 => ?_)
        · refine r_aln eRo_goOn_38 rfl ?_
          refine r_iln eRo_goOn_39 rfl ?_
          refine r_put eRo_goOn_40 rfl (cl_t hX (i := 151) rfl) (cl_e hX 157) (Or.inl rfl) ?_
          refine r_aln eRo_goOn_43 rfl ?_
          refine m_getR eRo_goOn_44 rfl (cl_t hX (i := 151) rfl) (cl_p hX (i := 127) rfl) ?_
          refine r_aln eRo_goOn_47 rfl ?_
          refine m_getR eRo_goOn_48 rfl (cl_t hX (i := 151) rfl) (cl_p hX (i := 128) rfl) ?_
          refine r_sta eRo_goOn_51 rfl rfl (by decide) rfl ?_
          refine c_Sc_copyRow (n := 6) (hX.2.1 (158, 20, 6) (by decide)) (hX.2.1 (159, 20, 6) (by decide)) (cl_e hX 159) (by omega) (by omega) ?_
          rw [ecr]
          show m_wp en _ mRo_goOn 54 [some (.ref (X + 157)), some (.int (m_i ((done : Int)))), some (.int (m_i (vis))), some (.int (m_i (st))), none, none] [] (T, m_I (((m_fl ((m_up J (X + 157) 4 (st))) (X + 159) 0 (J (X + 158)) 6))), P, L, z, w) Q
          refine r_ret eRo_goOn_54 rfl ?_
          exact hcp (by omega)
        · refine r_iln eRo_goOn_29 rfl ?_
          refine r_aln eRo_goOn_30 rfl ?_
          refine m_getR eRo_goOn_31 rfl (cl_t hX (i := 151) rfl) (cl_p hX (i := 127) rfl) ?_
          refine r_alen eRo_goOn_34 (cl_t hX (i := 152) rfl) (by decide) ?_
          refine r_clt (tgt := 55) eRo_goOn_35 rfl ⟨(by omega), (by omega)⟩ ⟨(by omega), (by omega)⟩ (fun c35 => ?_) (fun c35 => ?_)
          · exfalso; omega
          · refine r_aln eRo_goOn_38 rfl ?_
            refine r_iln eRo_goOn_39 rfl ?_
            refine r_put eRo_goOn_40 rfl (cl_t hX (i := 151) rfl) (cl_e hX 157) (Or.inl rfl) ?_
            refine r_aln eRo_goOn_43 rfl ?_
            refine m_getR eRo_goOn_44 rfl (cl_t hX (i := 151) rfl) (cl_p hX (i := 127) rfl) ?_
            refine r_aln eRo_goOn_47 rfl ?_
            refine m_getR eRo_goOn_48 rfl (cl_t hX (i := 151) rfl) (cl_p hX (i := 128) rfl) ?_
            refine r_sta eRo_goOn_51 rfl rfl (by decide) rfl ?_
            refine c_Sc_copyRow (n := 6) (hX.2.1 (158, 20, 6) (by decide)) (hX.2.1 (159, 20, 6) (by decide)) (cl_e hX 159) (by omega) (by omega) ?_
            rw [ecr]
            show m_wp en _ mRo_goOn 54 [some (.ref (X + 157)), some (.int (m_i ((done : Int)))), some (.int (m_i (vis))), some (.int (m_i (st))), none, none] [] (T, m_I (((m_fl ((m_up J (X + 157) 4 (st))) (X + 159) 0 (J (X + 158)) 6))), P, L, z, w) Q
            refine r_ret eRo_goOn_54 rfl ?_
            exact hcp (by omega)
      · refine r_ret eRo_goOn_15 rfl ?_
        exact hno (by omega)
  | succ f ih =>
    intro done vis st T J P L z w Q hd hv hst hW hJ0 hpre hbs hq
    have n6 := hH0.2.1
    have hX := hW.1.1
    have e29 : J (X + 29) 5 = (n : Int) := (hJ0 _ _ (by omega)).trans hH0.1
    have hno : (0 ≤ J (X + 157) 4 ∧ J (X + 157) 4 ≤ st) → Q none (T, m_I J, P, L, z, w) := fun q => hq T J P L z w hW cl_qe_r (by unfold ro_go; rw [if_pos (show 0 ≤ (ro_S J X).2.1 ∧ (ro_S J X).2.1 ≤ st from q)]) (fun _ _ => rfl)
    have h58 : ¬ (0 ≤ J (X + 157) 4 ∧ J (X + 157) 4 ≤ st) → m_wp en (d + f + 1 + 5) mRo_goOn 58 [some (.ref (X + 157)), some (.int (m_i (done : Int))), some (.int (m_i vis)), some (.int (m_i st)), some (.int (m_i 0)), none] [] (T, m_I J, P, L, z, w) Q := fun q =>
      l_Ro_goOn (d := d + f + 1) (rec := ro_go n d0 dl (f + 1) (done + 1)) (J0 := J0) hN (by omega) hv hst hH0 (fun vis' st' T J P L z w Q a1 a2 a3 a4 a5 a6 a7 => by
        have := ih (done + 1) vis' st' T J P L z w Q (by omega) a1 (by omega) a3 a4 (fun _ => a5) a6 a7
        rw [show ((done + 1 : Nat) : Int) = (done : Int) + 1 by omega] at this
        exact this) (fun k _ => ro_lp_b h0 hl hst hbs (fun vis' st' s' a b => ro_go_b h0 hl (f + 1) (done + 1) vis' st' s' (by omega) (by omega) b) k) hpre hJ0 (fun T' J' P' L' z' w' b1 b2 b3 b4 => hq T' J' P' L' z' w' b1 b2 (by
        unfold ro_go
        rw [if_neg (show ¬ (0 ≤ (ro_S J X).2.1 ∧ (ro_S J X).2.1 ≤ st) from q), if_neg (by omega)]
        exact b3) b4) n 0 T J P L z w none (by omega) hW cl_qe_r rfl (fun _ _ => rfl)
    refine m_into (by decide) (Nat.le_of_ble_eq_true rfl) rfl ?_
    show m_wp en _ mRo_goOn 0 [some (.ref (X + 157)), some (.int (m_i ((done : Int)))), some (.int (m_i (vis))), some (.int (m_i (st))), none, none] [] (T, m_I J, P, L, z, w) Q
    refine r_aln eRo_goOn_0 rfl ?_
    refine r_gete (x := J (X + 157) 4) eRo_goOn_1 rfl (by decide) (cl_t hX (i := 151) rfl) rfl ?_
    refine r_zlt (tgt := 16) eRo_goOn_4 rfl ⟨(by omega), (by omega)⟩ (fun c4 => ?_) (fun c4 => ?_)
    · refine r_iln eRo_goOn_16 rfl ?_
      refine r_aln eRo_goOn_17 rfl ?_
      refine m_getR eRo_goOn_18 rfl (cl_t hX (i := 151) rfl) (cl_p hX (i := 125) rfl) ?_
      refine m_getR eRo_goOn_21 rfl (cl_t hX (i := 17) rfl) (cl_p hX (i := 37) rfl) ?_
      refine r_con eRo_goOn_24 ?_
      refine r_ialde (x := J (X + 29) 5) eRo_goOn_25 (cl_t hX (i := 29) rfl) (by decide) (by omega) (by omega) rfl ?_
      refine r_cge (tgt := 38) eRo_goOn_26 rfl ⟨(by omega), (by omega)⟩ ⟨(by omega), (by omega)⟩ (fun c26 => ?_) (fun c26 => ?_)
      · exfalso; omega
      · refine r_iln eRo_goOn_29 rfl ?_
        refine r_aln eRo_goOn_30 rfl ?_
        refine m_getR eRo_goOn_31 rfl (cl_t hX (i := 151) rfl) (cl_p hX (i := 127) rfl) ?_
        refine r_alen eRo_goOn_34 (cl_t hX (i := 152) rfl) (by decide) ?_
        refine r_clt (tgt := 55) eRo_goOn_35 rfl ⟨(by omega), (by omega)⟩ ⟨(by omega), (by omega)⟩ (fun c35 => ?_) (fun c35 => ?_)
        · refine r_con eRo_goOn_55 ?_
          refine r_is (ls' := [some (.ref (X + 157)), some (.int (m_i ((done : Int)))), some (.int (m_i (vis))), some (.int (m_i (st))), some (.int (m_i (0))), none]) eRo_goOn_56 (Nat.le_of_ble_eq_true rfl) rfl ?_
          exact h58 (by omega)
        · exfalso; omega
    · refine r_iln eRo_goOn_7 rfl ?_
      refine r_aln eRo_goOn_8 rfl ?_
      refine r_gete (x := J (X + 157) 4) eRo_goOn_9 rfl (by decide) (cl_t hX (i := 151) rfl) rfl ?_
      refine r_clt (tgt := 16) eRo_goOn_12 rfl ⟨(by omega), (by omega)⟩ ⟨(by omega), (by omega)⟩ (fun c12 => ?_) (fun c12 => ?_)
      · refine r_iln eRo_goOn_16 rfl ?_
        refine r_aln eRo_goOn_17 rfl ?_
        refine m_getR eRo_goOn_18 rfl (cl_t hX (i := 151) rfl) (cl_p hX (i := 125) rfl) ?_
        refine m_getR eRo_goOn_21 rfl (cl_t hX (i := 17) rfl) (cl_p hX (i := 37) rfl) ?_
        refine r_con eRo_goOn_24 ?_
        refine r_ialde (x := J (X + 29) 5) eRo_goOn_25 (cl_t hX (i := 29) rfl) (by decide) (by omega) (by omega) rfl ?_
        refine r_cge (tgt := 38) eRo_goOn_26 rfl ⟨(by omega), (by omega)⟩ ⟨(by omega), (by omega)⟩ (fun c26 => ?_) (fun c26 => ?_)
        · exfalso; omega
        · refine r_iln eRo_goOn_29 rfl ?_
          refine r_aln eRo_goOn_30 rfl ?_
          refine m_getR eRo_goOn_31 rfl (cl_t hX (i := 151) rfl) (cl_p hX (i := 127) rfl) ?_
          refine r_alen eRo_goOn_34 (cl_t hX (i := 152) rfl) (by decide) ?_
          refine r_clt (tgt := 55) eRo_goOn_35 rfl ⟨(by omega), (by omega)⟩ ⟨(by omega), (by omega)⟩ (fun c35 => ?_) (fun c35 => ?_)
          · refine r_con eRo_goOn_55 ?_
            refine r_is (ls' := [some (.ref (X + 157)), some (.int (m_i ((done : Int)))), some (.int (m_i (vis))), some (.int (m_i (st))), some (.int (m_i (0))), none]) eRo_goOn_56 (Nat.le_of_ble_eq_true rfl) rfl ?_
            exact h58 (by omega)
          · exfalso; omega
      · refine r_ret eRo_goOn_15 rfl ?_
        exact hno (by omega)
/-- the round's cache: what it holds of an order -/
def ro_V (J : Nat → Nat → Int) (X n : Nat) (d0 : Nat → Int) (dl : Nat → Nat → Int) : Prop := ∃ o b, J (X + 157) 4 = (ro_go n d0 dl (n + 1) 0 0 0 (o, -2, b)).2.1 ∧ J (X + 159) = (ro_go n d0 dl (n + 1) 0 0 0 (o, -2, b)).2.2
theorem c_Ro_fewestInAll (hW : cl_W en X N zb wb C T J P z w) (hH : ro_H J X n C d0 dl) (h0 : ∀ k, d0 k < 100000) (hl : ∀ f t, dl f t < 100000) (hv : m_in (J (X + 157) 5) ∧ m_in (J (X + 132) 13)) (hc : J (X + 157) 5 = J (X + 132) 13 → ro_V J X n d0 dl)
    (hq : ∀ T' J' P' L' z' w', cl_W en X N zb wb C T' J' P' z' w' → cl_qe X N (fun b i => b = X + 157 ∨ b = X + 158 ∨ b = X + 159) T J P L T' J' P' L' → J' (X + 157) 5 = J' (X + 132) 13 → ro_V J' X n d0 dl → Q (some (.int (m_i (J' (X + 157) 4)))) (T', m_I J', P', L', z', w')) :
    m_call en (d + n + 7) mRo_fewestInAll [.ref (X + 157)] (T, m_I J, P, L, z, w) Q := by
  obtain ⟨hv1, hv2⟩ := hv
  unfold m_in at hv1 hv2
  have hX := hW.1.1
  have hN := hW.1.2.1.1
  have hlo2 : ∀ b i, b < X + 132 → m_up J (X + 157) 4 (-2) b i = J b i := fun b i q => m_up_o (by omega)
  have hW2 : cl_W en X N zb wb C T (m_up J (X + 157) 4 (-2)) P z w := cl_W_z hW (fun b i q => m_up_o (by omega))
  have hfin : ∀ T3 J3 P3 L3 z3 w3, cl_W en X N zb wb C T3 J3 P3 z3 w3 → cl_qe X N (ro_E X) T (m_up J (X + 157) 4 (-2)) P L T3 J3 P3 L3 → ro_S J3 X = ro_go n d0 dl (n + 1) 0 0 0 (ro_S (m_up J (X + 157) 4 (-2)) X) → Q (some (.int (m_i (J3 (X + 157) 4)))) (T3, m_I (m_up J3 (X + 157) 5 (J3 (X + 132) 13)), P3, L3, z3, w3) := fun T3 J3 P3 L3 z3 w3 k1 k2 k3 => by
    have e4 : m_up J3 (X + 157) 5 (J3 (X + 132) 13) (X + 157) 4 = J3 (X + 157) 4 := m_up_j (by omega)
    have := hq T3 (m_up J3 (X + 157) 5 (J3 (X + 132) 13)) P3 L3 z3 w3 (cl_W_z k1 (fun b i q => m_up_o (by omega))) ⟨k2.1, fun b i q1 q2 => by
      have q3 : ¬ (b = X + 157 ∨ b = X + 158 ∨ b = X + 159) := q2
      rw [m_up_o (by omega), k2.2.1 b i q1 (by unfold ro_E; omega), m_up_o (by omega)], k2.2.2.1, k2.2.2.2⟩ (by rw [m_up_same, m_up_o (by omega)]) ⟨J (X + 158), J (X + 159), ?_⟩
    · rw [e4] at this
      exact this
    · have es : ro_S (m_up J (X + 157) 4 (-2)) X = (J (X + 158), -2, J (X + 159)) := by
        unfold ro_S
        refine Prod.ext ?_ (Prod.ext ?_ ?_)
        · funext i; exact m_up_o (by omega)
        · exact m_up_same
        · funext i; exact m_up_o (by omega)
      rw [es] at k3
      rw [e4, ← k3]
      refine ⟨rfl, ?_⟩
      funext i
      exact m_up_o (by omega)
  have hkn : J (X + 157) 5 = J (X + 132) 13 → Q (some (.int (m_i (J (X + 157) 4)))) (T, m_I J, P, L, z, w) := fun q => hq T J P L z w hW cl_qe_r q (hc q)
  refine m_into (by decide) (Nat.le_of_ble_eq_true rfl) rfl ?_
  show m_wp en _ mRo_fewestInAll 0 [some (.ref (X + 157))] [] (T, m_I J, P, L, z, w) Q
  refine r_aln eRo_fewestInAll_0 rfl ?_
  refine r_gete (x := J (X + 157) 5) eRo_fewestInAll_1 rfl (by decide) (cl_t hX (i := 151) rfl) rfl ?_
  refine r_aln eRo_fewestInAll_4 rfl ?_
  refine m_getR eRo_fewestInAll_5 rfl (cl_t hX (i := 151) rfl) (cl_p hX (i := 126) rfl) ?_
  refine r_gete (x := J (X + 132) 13) eRo_fewestInAll_8 rfl (by decide) (cl_t hX (i := 132) rfl) rfl ?_
  refine r_ceq (tgt := 38) eRo_fewestInAll_11 rfl ⟨(by omega), (by omega)⟩ ⟨(by omega), (by omega)⟩ (fun c11 => ?_) (fun c11 => ?_)
  · refine r_aln eRo_fewestInAll_38 rfl ?_
    refine r_gete (x := J (X + 157) 4) eRo_fewestInAll_39 rfl (by decide) (cl_t hX (i := 151) rfl) rfl ?_
    refine r_iret eRo_fewestInAll_42 rfl ?_
    first | exact hkn (by omega) | (rw [show m_up J3 (X + 157) 5 (J3 (X + 132) 13) (X + 157) 4 = J3 (X + 157) 4 from m_up_j (by omega)] at *; exact hfin T J3 P L z w k1 k2 k3) | exact hfin T J3 P L z w k1 k2 k3
  · refine r_aln eRo_fewestInAll_14 rfl ?_
    refine r_bip eRo_fewestInAll_15 (by decide) ?_
    refine r_put eRo_fewestInAll_17 rfl (cl_t hX (i := 151) rfl) (cl_e hX 157) (Or.inl rfl) ?_
    refine r_aln eRo_fewestInAll_20 rfl ?_
    refine r_con eRo_fewestInAll_21 ?_
    refine r_con eRo_fewestInAll_22 ?_
    refine r_con eRo_fewestInAll_23 ?_
    refine r_vir eRo_fewestInAll_24 rfl rfl rfl (cl_t hX (i := 151) rfl) rfl rfl ?_
    refine c_Ro_goOn (d := d) hN (ro_H_e hH hlo2) h0 hl n 0 0 0 T _ P L z w _ (by omega) (by omega) (by omega) hW2 (fun _ _ _ => rfl) (fun q => by omega) (by rw [m_up_same]; omega) (fun T J3 P L z w k1 k2 k3 k4 => ?_)
    have hX := k1.1.1
    have e13 : J3 (X + 132) 13 = J (X + 132) 13 := (k2.2.1 _ _ (by omega) (by unfold ro_E; omega)).trans (m_up_o (by omega))
    show m_wp en _ mRo_fewestInAll 27 [some (.ref (X + 157))] [] (T, m_I J3, P, L, z, w) Q
    refine r_aln eRo_fewestInAll_27 rfl ?_
    refine r_aln eRo_fewestInAll_28 rfl ?_
    refine m_getR eRo_fewestInAll_29 rfl (cl_t hX (i := 151) rfl) (cl_p hX (i := 126) rfl) ?_
    refine r_gete (x := J3 (X + 132) 13) eRo_fewestInAll_32 rfl (by decide) (cl_t hX (i := 132) rfl) rfl ?_
    refine r_put eRo_fewestInAll_35 rfl (cl_t hX (i := 151) rfl) (cl_e hX 157) (Or.inl rfl) ?_
    refine r_aln eRo_fewestInAll_38 rfl ?_
    refine r_gete (x := J3 (X + 157) 4) eRo_fewestInAll_39 rfl (by decide) (cl_t hX (i := 151) rfl) (by rw [m_up_at, if_neg (by omega)]) ?_
    refine r_iret eRo_fewestInAll_42 rfl ?_
    first | exact hkn (by omega) | (rw [show m_up J3 (X + 157) 5 (J3 (X + 132) 13) (X + 157) 4 = J3 (X + 157) 4 from m_up_j (by omega)] at *; exact hfin T J3 P L z w k1 k2 k3) | exact hfin T J3 P L z w k1 k2 k3
end RP
