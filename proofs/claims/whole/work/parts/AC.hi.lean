/-! the class: the best order of all jobs, all of it -/
section HI
variable {en : Nat → Nat} {d : Nat} {T T' T2 T0 : Nat → Option (Nat × Nat)} {J J' J0 J1 J2 J3 J5 J6 K H : Nat → Nat → Int} {P P' P2 P0 : Nat → Nat → Option Nat} {L L' L2 L0 : Nat → Nat → Int64} {z w z' w' z0 w0 A B R U S X N zb wb o o' A0 R' U' n' : Nat} {Q : m_Q} {σ τ γ π ρ : a_S} {C C2 : a_C} {bw most by_ gl : Int} {E : Nat → Nat → Prop} {n : Nat} {p : Nat → Int} {h fr to : Int} {sf : (Nat → Int) → Int → Int → Int → Int → Int} {dd : (Nat → Int) → Int → Int} {jf jt : Nat → Int}
theorem ha_mo_b (hs : ∀ p col dep fr to, sf p col dep fr to < 200000) {fin col dep : Int} {k : Nat} : ha_mo sf jf jt p fin col dep k < 200000 := by
  unfold ha_mo
  split
  · omega
  · exact hs _ _ _ _ _
theorem ha_lp_b {rec : (Nat → Int) → Int → Int → Int → Int → ro_T → ro_T} {done : Nat} {fin st col dep : Int} {s : ro_T} (hs : ∀ p col dep fr to, sf p col dep fr to < 200000) (hst : 0 ≤ st ∧ st ≤ 200000 * (done : Int)) (hb : -2 ≤ s.2.1 ∧ s.2.1 ≤ 700000) (hrec : ∀ p' fin' st' col' dep' s', 0 ≤ st' ∧ st' ≤ 200000 * ((done : Int) + 1) → -2 ≤ s'.2.1 ∧ s'.2.1 ≤ 700000 → -2 ≤ (rec p' fin' st' col' dep' s').2.1 ∧ (rec p' fin' st' col' dep' s').2.1 ≤ 700000) : ∀ k, -2 ≤ (ha_lp rec sf dd jf jt p done fin st col dep k s).2.1 ∧ (ha_lp rec sf dd jf jt p done fin st col dep k s).2.1 ≤ 700000 := by
  intro k
  induction k with
  | zero => exact hb
  | succ k ih =>
    have h9 := ha_mo_b (jf := jf) (jt := jt) (p := p) (fin := fin) (col := col) (dep := dep) (k := k) hs
    unfold ha_lp
    by_cases q : 0 ≤ ha_mo sf jf jt p fin col dep k
    · rw [if_pos q]
      exact hrec _ _ _ _ _ _ (by omega) ih
    · rw [if_neg q]; exact ih
theorem ha_go_b (hs : ∀ p col dep fr to, sf p col dep fr to < 200000) : ∀ (f done : Nat) (p : Nat → Int) (fin st col dep : Int) (s : ro_T), done + f ≤ 4 → 0 ≤ st ∧ st ≤ 200000 * (done : Int) → -2 ≤ s.2.1 ∧ s.2.1 ≤ 700000 → -2 ≤ (ha_go n sf dd jf jt f done p fin st col dep s).2.1 ∧ (ha_go n sf dd jf jt f done p fin st col dep s).2.1 ≤ 700000 := by
  intro f
  induction f with
  | zero => intro done p fin st col dep s _ _ hb; exact hb
  | succ f ih =>
    intro done p fin st col dep s hd hst hb
    unfold ha_go
    split
    · exact hb
    · split
      · show -2 ≤ st ∧ st ≤ 700000
        omega
      · exact ha_lp_b hs hst hb (fun p' fin' st' col' dep' s' a b => ih (done + 1) p' fin' st' col' dep' s' (by omega) (by omega) b) n
theorem ha_S_cp {st : Int} : ha_S (m_fl (m_up J (X + 160) 6 st) (X + 163) 0 (J (X + 162)) 3) X = ha_cp (ha_S J X) st := by
  unfold ha_S ha_cp
  refine Prod.ext ?_ (Prod.ext ?_ ?_)
  · funext i
    simp only
    rw [m_fl_o (by omega), m_up_o (by omega)]
  · simp only
    rw [m_fl_o (by omega), m_up_same]
  · funext i
    simp only
    by_cases q : i < 3
    · rw [m_fl_i (by omega), if_pos q, Nat.sub_zero]
    · rw [m_fl_x (by omega), if_neg q, m_up_o (by omega)]
theorem c_Ha_goOn (hN : X + 165 ≤ N) (hH0 : ha_H J0 X n C sf) (hpok0 : pl_ok J0 (X + 17)) : ∀ (f done : Nat) (p : Nat → Int) (fin st col dep : Int) (T : Nat → Option (Nat × Nat)) (J : Nat → Nat → Int) (P : Nat → Nat → Option Nat) (L : Nat → Nat → Int64) (z w : Nat) (Q : m_Q), done + f = n → (0 ≤ fin ∧ fin < 8) → (0 ≤ st ∧ st ≤ 200000 * (done : Int)) → (-1 ≤ col ∧ col ≤ 100) → (-1 ≤ dep ∧ dep ≤ 100) → cl_W en X N zb wb C T J P z w → (∀ b i, b < X + 132 → J b i = J0 b i) → (∀ i : Nat, i < 16 → 0 ≤ p i ∧ p i ≤ 100 + (done : Int)) → J (X + 161) = p → (-2 ≤ J (X + 160) 6 ∧ J (X + 160) 6 ≤ 700000) →
    (∀ T' J' P' L' z' w', cl_W en X N zb wb C T' J' P' z' w' → cl_qe X N (ha_E X) T J P L T' J' P' L' → ha_S J' X = ha_go n sf (ha_dd J0 X) (J0 (X + 27)) (J0 (X + 28)) (f + 1) done p fin st col dep (ha_S J X) → J' (X + 161) = p → Q none (T', m_I J', P', L', z', w')) → m_call en (d + f + 7) mHa_goOn [.ref (X + 160), .int (m_i (done : Int)), .int (m_i fin), .int (m_i st), .int (m_i col), .int (m_i dep)] (T, m_I J, P, L, z, w) Q := by
  intro f
  induction f with
  | zero =>
    intro done p fin st col dep T J P L z w Q hd hv hst hco hde hW hJ0 hpb hpJ hbs hq
    have n6 := hH0.2.1
    have hX := hW.1.1
    have e29 : J (X + 29) 10 = (n : Int) := (hJ0 _ _ (by omega)).trans hH0.1
    have ecr : m_up J (X + 160) 6 st (X + 162) = J (X + 162) := funext (fun i => m_up_o (by omega))
    have hno : (0 ≤ J (X + 160) 6 ∧ J (X + 160) 6 ≤ st) → Q none (T, m_I J, P, L, z, w) := fun q => hq T J P L z w hW cl_qe_r (by unfold ha_go; rw [if_pos (show 0 ≤ (ha_S J X).2.1 ∧ (ha_S J X).2.1 ≤ st from q)]) hpJ
    have hcp : ¬ (0 ≤ J (X + 160) 6 ∧ J (X + 160) 6 ≤ st) → Q none (T, m_I (m_fl (m_up J (X + 160) 6 st) (X + 163) 0 (J (X + 162)) 3), P, L, z, w) := fun q => hq T _ P L z w (cl_W_z hW (fun b i q2 => by rw [m_fl_o (by omega), m_up_o (by omega)])) (cl_qe_J (fun b i q2 q3 => by unfold ha_E at q3; rw [m_fl_o (by omega), m_up_at, if_neg (by omega)])) (by unfold ha_go; rw [if_neg (show ¬ (0 ≤ (ha_S J X).2.1 ∧ (ha_S J X).2.1 ≤ st) from q), if_pos (by omega)]; exact ha_S_cp) (by rw [← hpJ]; funext i; rw [m_fl_o (by omega), m_up_o (by omega)])
    refine m_into (by decide) (Nat.le_of_ble_eq_true rfl) rfl ?_
    show m_wp en _ mHa_goOn 0 [some (.ref (X + 160)), some (.int (m_i ((done : Int)))), some (.int (m_i (fin))), some (.int (m_i (st))), some (.int (m_i (col))), some (.int (m_i (dep))), none, none, none, none, none] [] (T, m_I J, P, L, z, w) Q
    refine r_aln eHa_goOn_0 rfl ?_
    refine r_gete (x := J (X + 160) 6) eHa_goOn_1 rfl (by decide) (cl_t hX (i := 154) rfl) rfl ?_
    refine r_zlt (tgt := 16) eHa_goOn_4 rfl ⟨(by omega), (by omega)⟩ (fun c4 => ?_) (fun c4 => ?_)
    · refine r_iln eHa_goOn_16 rfl ?_
      refine r_aln eHa_goOn_17 rfl ?_
      refine m_getR eHa_goOn_18 rfl (cl_t hX (i := 154) rfl) (cl_p hX (i := 129) rfl) ?_
      refine m_getR eHa_goOn_21 rfl (cl_t hX (i := 17) rfl) (cl_p hX (i := 37) rfl) ?_
      refine r_bip eHa_goOn_24 (by decide) ?_
      refine r_ialde (x := J (X + 29) 10) eHa_goOn_26 (cl_t hX (i := 29) rfl) (by decide) (by omega) (by omega) rfl ?_
      refine r_cge (tgt := 39) eHa_goOn_27 rfl ⟨(by omega), (by omega)⟩ ⟨(by omega), (by omega)⟩ (fun c27 => ?_) (fun c27 => ?_)
      · refine r_aln eHa_goOn_39 rfl ?_
        refine r_iln eHa_goOn_40 rfl ?_
        refine r_put eHa_goOn_41 rfl (cl_t hX (i := 154) rfl) (cl_e hX 160) (Or.inl rfl) ?_
        refine r_aln eHa_goOn_44 rfl ?_
        refine m_getR eHa_goOn_45 rfl (cl_t hX (i := 154) rfl) (cl_p hX (i := 133) rfl) ?_
        refine r_aln eHa_goOn_48 rfl ?_
        refine m_getR eHa_goOn_49 rfl (cl_t hX (i := 154) rfl) (cl_p hX (i := 134) rfl) ?_
        refine r_sta eHa_goOn_52 rfl rfl (by decide) rfl ?_
        refine c_Sc_copyRow (n := 3) (hX.2.1 (162, 20, 3) (by decide)) (hX.2.1 (163, 20, 3) (by decide)) (cl_e hX 163) (by omega) (by omega) ?_
        rw [ecr]
        show m_wp en _ mHa_goOn 55 [some (.ref (X + 160)), some (.int (m_i ((done : Int)))), some (.int (m_i (fin))), some (.int (m_i (st))), some (.int (m_i (col))), some (.int (m_i (dep))), none, none, none, none, none] [] (T, m_I (((m_fl ((m_up J (X + 160) 6 (st))) (X + 163) 0 (J (X + 162)) 3))), P, L, z, w) Q
        refine r_ret eHa_goOn_55 rfl ?_
        exact hcp (by omega)
      · refine r_iln eHa_goOn_30 rfl ?_
        refine r_aln eHa_goOn_31 rfl ?_
        refine m_getR eHa_goOn_32 rfl (cl_t hX (i := 154) rfl) (cl_p hX (i := 133) rfl) ?_
        refine r_alen eHa_goOn_35 (cl_t hX (i := 156) rfl) (by decide) ?_
        refine r_clt (tgt := 56) eHa_goOn_36 rfl ⟨(by omega), (by omega)⟩ ⟨(by omega), (by omega)⟩ (fun c36 => ?_) (fun c36 => ?_)
        · exfalso; omega
        · refine r_aln eHa_goOn_39 rfl ?_
          refine r_iln eHa_goOn_40 rfl ?_
          refine r_put eHa_goOn_41 rfl (cl_t hX (i := 154) rfl) (cl_e hX 160) (Or.inl rfl) ?_
          refine r_aln eHa_goOn_44 rfl ?_
          refine m_getR eHa_goOn_45 rfl (cl_t hX (i := 154) rfl) (cl_p hX (i := 133) rfl) ?_
          refine r_aln eHa_goOn_48 rfl ?_
          refine m_getR eHa_goOn_49 rfl (cl_t hX (i := 154) rfl) (cl_p hX (i := 134) rfl) ?_
          refine r_sta eHa_goOn_52 rfl rfl (by decide) rfl ?_
          refine c_Sc_copyRow (n := 3) (hX.2.1 (162, 20, 3) (by decide)) (hX.2.1 (163, 20, 3) (by decide)) (cl_e hX 163) (by omega) (by omega) ?_
          rw [ecr]
          show m_wp en _ mHa_goOn 55 [some (.ref (X + 160)), some (.int (m_i ((done : Int)))), some (.int (m_i (fin))), some (.int (m_i (st))), some (.int (m_i (col))), some (.int (m_i (dep))), none, none, none, none, none] [] (T, m_I (((m_fl ((m_up J (X + 160) 6 (st))) (X + 163) 0 (J (X + 162)) 3))), P, L, z, w) Q
          refine r_ret eHa_goOn_55 rfl ?_
          exact hcp (by omega)
    · refine r_iln eHa_goOn_7 rfl ?_
      refine r_aln eHa_goOn_8 rfl ?_
      refine r_gete (x := J (X + 160) 6) eHa_goOn_9 rfl (by decide) (cl_t hX (i := 154) rfl) rfl ?_
      refine r_clt (tgt := 16) eHa_goOn_12 rfl ⟨(by omega), (by omega)⟩ ⟨(by omega), (by omega)⟩ (fun c12 => ?_) (fun c12 => ?_)
      · refine r_iln eHa_goOn_16 rfl ?_
        refine r_aln eHa_goOn_17 rfl ?_
        refine m_getR eHa_goOn_18 rfl (cl_t hX (i := 154) rfl) (cl_p hX (i := 129) rfl) ?_
        refine m_getR eHa_goOn_21 rfl (cl_t hX (i := 17) rfl) (cl_p hX (i := 37) rfl) ?_
        refine r_bip eHa_goOn_24 (by decide) ?_
        refine r_ialde (x := J (X + 29) 10) eHa_goOn_26 (cl_t hX (i := 29) rfl) (by decide) (by omega) (by omega) rfl ?_
        refine r_cge (tgt := 39) eHa_goOn_27 rfl ⟨(by omega), (by omega)⟩ ⟨(by omega), (by omega)⟩ (fun c27 => ?_) (fun c27 => ?_)
        · refine r_aln eHa_goOn_39 rfl ?_
          refine r_iln eHa_goOn_40 rfl ?_
          refine r_put eHa_goOn_41 rfl (cl_t hX (i := 154) rfl) (cl_e hX 160) (Or.inl rfl) ?_
          refine r_aln eHa_goOn_44 rfl ?_
          refine m_getR eHa_goOn_45 rfl (cl_t hX (i := 154) rfl) (cl_p hX (i := 133) rfl) ?_
          refine r_aln eHa_goOn_48 rfl ?_
          refine m_getR eHa_goOn_49 rfl (cl_t hX (i := 154) rfl) (cl_p hX (i := 134) rfl) ?_
          refine r_sta eHa_goOn_52 rfl rfl (by decide) rfl ?_
          refine c_Sc_copyRow (n := 3) (hX.2.1 (162, 20, 3) (by decide)) (hX.2.1 (163, 20, 3) (by decide)) (cl_e hX 163) (by omega) (by omega) ?_
          rw [ecr]
          show m_wp en _ mHa_goOn 55 [some (.ref (X + 160)), some (.int (m_i ((done : Int)))), some (.int (m_i (fin))), some (.int (m_i (st))), some (.int (m_i (col))), some (.int (m_i (dep))), none, none, none, none, none] [] (T, m_I (((m_fl ((m_up J (X + 160) 6 (st))) (X + 163) 0 (J (X + 162)) 3))), P, L, z, w) Q
          refine r_ret eHa_goOn_55 rfl ?_
          exact hcp (by omega)
        · refine r_iln eHa_goOn_30 rfl ?_
          refine r_aln eHa_goOn_31 rfl ?_
          refine m_getR eHa_goOn_32 rfl (cl_t hX (i := 154) rfl) (cl_p hX (i := 133) rfl) ?_
          refine r_alen eHa_goOn_35 (cl_t hX (i := 156) rfl) (by decide) ?_
          refine r_clt (tgt := 56) eHa_goOn_36 rfl ⟨(by omega), (by omega)⟩ ⟨(by omega), (by omega)⟩ (fun c36 => ?_) (fun c36 => ?_)
          · exfalso; omega
          · refine r_aln eHa_goOn_39 rfl ?_
            refine r_iln eHa_goOn_40 rfl ?_
            refine r_put eHa_goOn_41 rfl (cl_t hX (i := 154) rfl) (cl_e hX 160) (Or.inl rfl) ?_
            refine r_aln eHa_goOn_44 rfl ?_
            refine m_getR eHa_goOn_45 rfl (cl_t hX (i := 154) rfl) (cl_p hX (i := 133) rfl) ?_
            refine r_aln eHa_goOn_48 rfl ?_
            refine m_getR eHa_goOn_49 rfl (cl_t hX (i := 154) rfl) (cl_p hX (i := 134) rfl) ?_
            refine r_sta eHa_goOn_52 rfl rfl (by decide) rfl ?_
            refine c_Sc_copyRow (n := 3) (hX.2.1 (162, 20, 3) (by decide)) (hX.2.1 (163, 20, 3) (by decide)) (cl_e hX 163) (by omega) (by omega) ?_
            rw [ecr]
            show m_wp en _ mHa_goOn 55 [some (.ref (X + 160)), some (.int (m_i ((done : Int)))), some (.int (m_i (fin))), some (.int (m_i (st))), some (.int (m_i (col))), some (.int (m_i (dep))), none, none, none, none, none] [] (T, m_I (((m_fl ((m_up J (X + 160) 6 (st))) (X + 163) 0 (J (X + 162)) 3))), P, L, z, w) Q
            refine r_ret eHa_goOn_55 rfl ?_
            exact hcp (by omega)
      · refine r_ret eHa_goOn_15 rfl ?_
        exact hno (by omega)
  | succ f ih =>
    intro done p fin st col dep T J P L z w Q hd hv hst hco hde hW hJ0 hpb hpJ hbs hq
    have n6 := hH0.2.1
    have hX := hW.1.1
    have e29 : J (X + 29) 10 = (n : Int) := (hJ0 _ _ (by omega)).trans hH0.1
    have hno : (0 ≤ J (X + 160) 6 ∧ J (X + 160) 6 ≤ st) → Q none (T, m_I J, P, L, z, w) := fun q => hq T J P L z w hW cl_qe_r (by unfold ha_go; rw [if_pos (show 0 ≤ (ha_S J X).2.1 ∧ (ha_S J X).2.1 ≤ st from q)]) hpJ
    have h59 : ¬ (0 ≤ J (X + 160) 6 ∧ J (X + 160) 6 ≤ st) → m_wp en (d + f + 1 + 6) mHa_goOn 59 [some (.ref (X + 160)), some (.int (m_i (done : Int))), some (.int (m_i fin)), some (.int (m_i st)), some (.int (m_i col)), some (.int (m_i dep)), some (.int (m_i 0)), none, none, none, none] [] (T, m_I J, P, L, z, w) Q := fun q =>
      l_Ha_goOn (d := d + f + 1) (rec := ha_go n sf (ha_dd J0 X) (J0 (X + 27)) (J0 (X + 28)) (f + 1) (done + 1)) (J0 := J0) (p := p) hN (by omega) hv hst hco hde hH0 hpok0 hpb hpJ (fun p' fin' st' col' dep' T J P L z w Q a1 a2 a3 a4 a5 a6 a7 a8 a9 a10 => by
        have := ih (done + 1) p' fin' st' col' dep' T J P L z w Q (by omega) a1 (by omega) a3 a4 a5 a6 (fun i hi => by have := a7 i hi; omega) a8 a9 a10
        rw [show ((done + 1 : Nat) : Int) = (done : Int) + 1 by omega] at this
        exact this) (fun k _ => ha_lp_b hH0.2.2.2 hst hbs (fun p' fin' st' col' dep' s' a b => ha_go_b hH0.2.2.2 (f + 1) (done + 1) p' fin' st' col' dep' s' (by omega) (by omega) b) k) hJ0 (fun T' J' P' L' z' w' b1 b2 b3 b4 => hq T' J' P' L' z' w' b1 b2 (by
        unfold ha_go
        rw [if_neg (show ¬ (0 ≤ (ha_S J X).2.1 ∧ (ha_S J X).2.1 ≤ st) from q), if_neg (by omega)]
        exact b3) b4) n 0 T J P L z w none none none none (by omega) hW cl_qe_r rfl hpJ
    refine m_into (by decide) (Nat.le_of_ble_eq_true rfl) rfl ?_
    show m_wp en _ mHa_goOn 0 [some (.ref (X + 160)), some (.int (m_i ((done : Int)))), some (.int (m_i (fin))), some (.int (m_i (st))), some (.int (m_i (col))), some (.int (m_i (dep))), none, none, none, none, none] [] (T, m_I J, P, L, z, w) Q
    refine r_aln eHa_goOn_0 rfl ?_
    refine r_gete (x := J (X + 160) 6) eHa_goOn_1 rfl (by decide) (cl_t hX (i := 154) rfl) rfl ?_
    refine r_zlt (tgt := 16) eHa_goOn_4 rfl ⟨(by omega), (by omega)⟩ (fun c4 => ?_) (fun c4 => ?_)
    · refine r_iln eHa_goOn_16 rfl ?_
      refine r_aln eHa_goOn_17 rfl ?_
      refine m_getR eHa_goOn_18 rfl (cl_t hX (i := 154) rfl) (cl_p hX (i := 129) rfl) ?_
      refine m_getR eHa_goOn_21 rfl (cl_t hX (i := 17) rfl) (cl_p hX (i := 37) rfl) ?_
      refine r_bip eHa_goOn_24 (by decide) ?_
      refine r_ialde (x := J (X + 29) 10) eHa_goOn_26 (cl_t hX (i := 29) rfl) (by decide) (by omega) (by omega) rfl ?_
      refine r_cge (tgt := 39) eHa_goOn_27 rfl ⟨(by omega), (by omega)⟩ ⟨(by omega), (by omega)⟩ (fun c27 => ?_) (fun c27 => ?_)
      · exfalso; omega
      · refine r_iln eHa_goOn_30 rfl ?_
        refine r_aln eHa_goOn_31 rfl ?_
        refine m_getR eHa_goOn_32 rfl (cl_t hX (i := 154) rfl) (cl_p hX (i := 133) rfl) ?_
        refine r_alen eHa_goOn_35 (cl_t hX (i := 156) rfl) (by decide) ?_
        refine r_clt (tgt := 56) eHa_goOn_36 rfl ⟨(by omega), (by omega)⟩ ⟨(by omega), (by omega)⟩ (fun c36 => ?_) (fun c36 => ?_)
        · refine r_con eHa_goOn_56 ?_
          refine r_is (ls' := [some (.ref (X + 160)), some (.int (m_i ((done : Int)))), some (.int (m_i (fin))), some (.int (m_i (st))), some (.int (m_i (col))), some (.int (m_i (dep))), some (.int (m_i (0))), none, none, none, none]) eHa_goOn_57 (Nat.le_of_ble_eq_true rfl) rfl ?_
          exact h59 (by omega)
        · exfalso; omega
    · refine r_iln eHa_goOn_7 rfl ?_
      refine r_aln eHa_goOn_8 rfl ?_
      refine r_gete (x := J (X + 160) 6) eHa_goOn_9 rfl (by decide) (cl_t hX (i := 154) rfl) rfl ?_
      refine r_clt (tgt := 16) eHa_goOn_12 rfl ⟨(by omega), (by omega)⟩ ⟨(by omega), (by omega)⟩ (fun c12 => ?_) (fun c12 => ?_)
      · refine r_iln eHa_goOn_16 rfl ?_
        refine r_aln eHa_goOn_17 rfl ?_
        refine m_getR eHa_goOn_18 rfl (cl_t hX (i := 154) rfl) (cl_p hX (i := 129) rfl) ?_
        refine m_getR eHa_goOn_21 rfl (cl_t hX (i := 17) rfl) (cl_p hX (i := 37) rfl) ?_
        refine r_bip eHa_goOn_24 (by decide) ?_
        refine r_ialde (x := J (X + 29) 10) eHa_goOn_26 (cl_t hX (i := 29) rfl) (by decide) (by omega) (by omega) rfl ?_
        refine r_cge (tgt := 39) eHa_goOn_27 rfl ⟨(by omega), (by omega)⟩ ⟨(by omega), (by omega)⟩ (fun c27 => ?_) (fun c27 => ?_)
        · exfalso; omega
        · refine r_iln eHa_goOn_30 rfl ?_
          refine r_aln eHa_goOn_31 rfl ?_
          refine m_getR eHa_goOn_32 rfl (cl_t hX (i := 154) rfl) (cl_p hX (i := 133) rfl) ?_
          refine r_alen eHa_goOn_35 (cl_t hX (i := 156) rfl) (by decide) ?_
          refine r_clt (tgt := 56) eHa_goOn_36 rfl ⟨(by omega), (by omega)⟩ ⟨(by omega), (by omega)⟩ (fun c36 => ?_) (fun c36 => ?_)
          · refine r_con eHa_goOn_56 ?_
            refine r_is (ls' := [some (.ref (X + 160)), some (.int (m_i ((done : Int)))), some (.int (m_i (fin))), some (.int (m_i (st))), some (.int (m_i (col))), some (.int (m_i (dep))), some (.int (m_i (0))), none, none, none, none]) eHa_goOn_57 (Nat.le_of_ble_eq_true rfl) rfl ?_
            exact h59 (by omega)
          · exfalso; omega
      · refine r_ret eHa_goOn_15 rfl ?_
        exact hno (by omega)
def ha_V (J : Nat → Nat → Int) (X n : Nat) (sf : (Nat → Int) → Int → Int → Int → Int → Int) : Prop := ∃ o b p, (∀ i : Nat, i < 16 → p i = J (X + 32) i) ∧ J (X + 160) 6 = (ha_go n sf (ha_dd J X) (J (X + 27)) (J (X + 28)) (n + 1) 0 p 0 0 (-1) (-1) (o, -2, b)).2.1 ∧ J (X + 163) = (ha_go n sf (ha_dd J X) (J (X + 27)) (J (X + 28)) (n + 1) 0 p 0 0 (-1) (-1) (o, -2, b)).2.2
theorem c_Ha_fewestInAll (hW : cl_W en X N zb wb C T J P z w) (hH : ha_H J X n C sf) (hv : m_in (J (X + 160) 7) ∧ m_in (J (X + 132) 13)) (hc : J (X + 160) 7 = J (X + 132) 13 → ha_V J X n sf)
    (hq : ∀ T' J' P' L' z' w', cl_W en X N zb wb C T' J' P' z' w' → cl_qe X N (fun b i => X + 160 ≤ b ∧ b ≤ X + 163) T J P L T' J' P' L' → J' (X + 160) 7 = J' (X + 132) 13 → ha_V J' X n sf → Q (some (.int (m_i (J' (X + 160) 6)))) (T', m_I J', P', L', z', w')) :
    m_call en (d + n + 8) mHa_fewestInAll [.ref (X + 160)] (T, m_I J, P, L, z, w) Q := by
  obtain ⟨hv1, hv2⟩ := hv
  unfold m_in at hv1 hv2
  have hX := hW.1.1
  have hN := hW.1.2.1.1
  obtain ⟨J2, eJ2⟩ : ∃ J2, J2 = m_fl (m_up J (X + 160) 6 (-2)) (X + 161) 0 (J (X + 32)) ((16 : Nat) : Int) := ⟨_, rfl⟩
  have ecr : m_up J (X + 160) 6 (-2) (X + 32) = J (X + 32) := funext (fun i => m_up_o (by omega))
  have fr2 : ∀ b i, b ≠ X + 160 → b ≠ X + 161 → J2 b i = J b i := fun b i q1 q2 => by rw [eJ2, m_fl_o q2, m_up_o q1]
  have hlo2 : ∀ b i, b < X + 132 → J2 b i = J b i := fun b i q => fr2 b i (by omega) (by omega)
  have hW2 : cl_W en X N zb wb C T J2 P z w := cl_W_z hW (fun b i q => fr2 b i (by omega) (by omega))
  have ep : ∀ i : Nat, i < 16 → J2 (X + 161) i = J (X + 32) i := fun i hi => by rw [eJ2, m_fl_i (by omega), Nat.sub_zero]
  have hpb : ∀ i : Nat, i < 16 → 0 ≤ J2 (X + 161) i ∧ J2 (X + 161) i ≤ 100 + ((0 : Nat) : Int) := fun i hi => by rw [ep i hi]; have := hW.2.1.2.1.1 i hi; omega
  have e6 : J2 (X + 160) 6 = -2 := by rw [eJ2, m_fl_o (by omega), m_up_same]
  have hbs : -2 ≤ J2 (X + 160) 6 ∧ J2 (X + 160) 6 ≤ 700000 := by omega
  have hfin : ∀ T3 J3 P3 L3 z3 w3, cl_W en X N zb wb C T3 J3 P3 z3 w3 → cl_qe X N (ha_E X) T J2 P L T3 J3 P3 L3 → ha_S J3 X = ha_go n sf (ha_dd J2 X) (J2 (X + 27)) (J2 (X + 28)) (n + 1) 0 (J2 (X + 161)) 0 0 (-1) (-1) (ha_S J2 X) → Q (some (.int (m_i (J3 (X + 160) 6)))) (T3, m_I (m_up J3 (X + 160) 7 (J3 (X + 132) 13)), P3, L3, z3, w3) := fun T3 J3 P3 L3 z3 w3 k1 k2 k3 => by
    have e4 : m_up J3 (X + 160) 7 (J3 (X + 132) 13) (X + 160) 6 = J3 (X + 160) 6 := m_up_j (by omega)
    have e5 : ∀ b i, b < X + 132 → m_up J3 (X + 160) 7 (J3 (X + 132) 13) b i = J2 b i := fun b i q => by rw [m_up_o (by omega)]; exact ha_lo k2 b i q
    have := hq T3 (m_up J3 (X + 160) 7 (J3 (X + 132) 13)) P3 L3 z3 w3 (cl_W_z k1 (fun b i q => m_up_o (by omega))) ⟨k2.1, fun b i q1 q2 => by
      have q3 : ¬ (X + 160 ≤ b ∧ b ≤ X + 163) := q2
      rw [m_up_o (by omega), k2.2.1 b i q1 (by unfold ha_E; omega), fr2 b i (by omega) (by omega)], k2.2.2.1, k2.2.2.2⟩ (by rw [m_up_same, m_up_o (by omega)]) ⟨J2 (X + 162), J2 (X + 163), J2 (X + 161), fun i hi => by rw [ep i hi, e5 _ _ (by omega), hlo2 _ _ (by omega)], ?_⟩
    · rw [e4] at this
      exact this
    · have es : ha_S J2 X = (J2 (X + 162), -2, J2 (X + 163)) := by
        unfold ha_S
        rw [e6]
      have ed : ha_dd (m_up J3 (X + 160) 7 (J3 (X + 132) 13)) X = ha_dd J2 X := by
        funext p t
        unfold ha_dd
        rw [pl_fr_e e5]
      have e27 : m_up J3 (X + 160) 7 (J3 (X + 132) 13) (X + 27) = J2 (X + 27) := funext (fun i => e5 _ i (by omega))
      have e28 : m_up J3 (X + 160) 7 (J3 (X + 132) 13) (X + 28) = J2 (X + 28) := funext (fun i => e5 _ i (by omega))
      rw [es] at k3
      rw [e4, ed, e27, e28, ← k3]
      refine ⟨rfl, ?_⟩
      funext i
      exact m_up_o (by omega)
  have hkn : J (X + 160) 7 = J (X + 132) 13 → Q (some (.int (m_i (J (X + 160) 6)))) (T, m_I J, P, L, z, w) := fun q => hq T J P L z w hW cl_qe_r q (hc q)
  refine m_into (by decide) (Nat.le_of_ble_eq_true rfl) rfl ?_
  show m_wp en _ mHa_fewestInAll 0 [some (.ref (X + 160))] [] (T, m_I J, P, L, z, w) Q
  refine r_aln eHa_fewestInAll_0 rfl ?_
  refine r_gete (x := J (X + 160) 7) eHa_fewestInAll_1 rfl (by decide) (cl_t hX (i := 154) rfl) rfl ?_
  refine r_aln eHa_fewestInAll_4 rfl ?_
  refine m_getR eHa_fewestInAll_5 rfl (cl_t hX (i := 154) rfl) (cl_p hX (i := 131) rfl) ?_
  refine r_gete (x := J (X + 132) 13) eHa_fewestInAll_8 rfl (by decide) (cl_t hX (i := 132) rfl) rfl ?_
  refine r_ceq (tgt := 54) eHa_fewestInAll_11 rfl ⟨(by omega), (by omega)⟩ ⟨(by omega), (by omega)⟩ (fun c11 => ?_) (fun c11 => ?_)
  · refine r_aln eHa_fewestInAll_54 rfl ?_
    refine r_gete (x := J (X + 160) 6) eHa_fewestInAll_55 rfl (by decide) (cl_t hX (i := 154) rfl) rfl ?_
    refine r_iret eHa_fewestInAll_58 rfl ?_
    first | exact hkn (by omega) | exact hfin T J3 P L z w k1 k2 k3
  · refine r_aln eHa_fewestInAll_14 rfl ?_
    refine r_bip eHa_fewestInAll_15 (by decide) ?_
    refine r_put eHa_fewestInAll_17 rfl (cl_t hX (i := 154) rfl) (cl_e hX 160) (Or.inl rfl) ?_
    refine r_aln eHa_fewestInAll_20 rfl ?_
    refine m_getR eHa_fewestInAll_21 rfl (cl_t hX (i := 154) rfl) (cl_p hX (i := 130) rfl) ?_
    refine m_getR eHa_fewestInAll_24 rfl (cl_t hX (i := 30) rfl) (cl_p hX (i := 39) rfl) ?_
    refine r_aln eHa_fewestInAll_27 rfl ?_
    refine m_getR eHa_fewestInAll_28 rfl (cl_t hX (i := 154) rfl) (cl_p hX (i := 132) rfl) ?_
    refine r_sta eHa_fewestInAll_31 rfl rfl (by decide) rfl ?_
    refine c_Sc_copyRow (n := 16) (cl_t hX (i := 32) rfl) (hX.2.1 (161, 20, 16) (by decide)) (cl_e hX 161) (by omega) (by omega) ?_
    rw [ecr, ← eJ2]
    show m_wp en _ mHa_fewestInAll 34 [some (.ref (X + 160))] [] (T, m_I J2, P, L, z, w) Q
    refine r_aln eHa_fewestInAll_34 rfl ?_
    refine r_con eHa_fewestInAll_35 ?_
    refine r_con eHa_fewestInAll_36 ?_
    refine r_con eHa_fewestInAll_37 ?_
    refine r_con eHa_fewestInAll_38 ?_
    refine r_con eHa_fewestInAll_39 ?_
    refine r_vir eHa_fewestInAll_40 rfl rfl rfl (cl_t hX (i := 154) rfl) rfl rfl ?_
    refine c_Ha_goOn (d := d) hN (J0 := J2) (ha_H_e hH hlo2) hW2.2.1.1 n 0 (J2 (X + 161)) 0 0 (-1) (-1) T J2 P L z w _ (by omega) (by omega) (by omega) (by omega) (by omega) hW2 (fun _ _ _ => rfl) hpb rfl hbs (fun T J3 P L z w k1 k2 k3 k4 => ?_)
    have hX := k1.1.1
    have e13 : J3 (X + 132) 13 = J (X + 132) 13 := (k2.2.1 _ _ (by omega) (by unfold ha_E; omega)).trans (fr2 _ _ (by omega) (by omega))
    show m_wp en _ mHa_fewestInAll 43 [some (.ref (X + 160))] [] (T, m_I J3, P, L, z, w) Q
    refine r_aln eHa_fewestInAll_43 rfl ?_
    refine r_aln eHa_fewestInAll_44 rfl ?_
    refine m_getR eHa_fewestInAll_45 rfl (cl_t hX (i := 154) rfl) (cl_p hX (i := 131) rfl) ?_
    refine r_gete (x := J3 (X + 132) 13) eHa_fewestInAll_48 rfl (by decide) (cl_t hX (i := 132) rfl) rfl ?_
    refine r_put eHa_fewestInAll_51 rfl (cl_t hX (i := 154) rfl) (cl_e hX 160) (Or.inl rfl) ?_
    refine r_aln eHa_fewestInAll_54 rfl ?_
    refine r_gete (x := J3 (X + 160) 6) eHa_fewestInAll_55 rfl (by decide) (cl_t hX (i := 154) rfl) (by rw [m_up_at, if_neg (by omega)]) ?_
    refine r_iret eHa_fewestInAll_58 rfl ?_
    first | exact hkn (by omega) | exact hfin T J3 P L z w k1 k2 k3
theorem c_Ha_fromNow (hW : cl_W en X N zb wb C T J P z w) (hfr : -100 ≤ fr ∧ fr ≤ 100) (hto : -100 ≤ to ∧ to ≤ 100)
    (hq : ∀ T' J' P' L' z' w' r p, cl_W en X N zb wb C T' J' P' z' w' → cl_qe X N (fun b i => b = X + 161) T J P L T' J' P' L' → (∀ i : Nat, i < 16 → p i = J (X + 32) i) → ha_so J X C p (-1) (-1) fr to r → (-2 ≤ r ∧ r < 200000) → Q (some (.int (m_i r))) (T', m_I J', P', L', z', w')) :
    m_call en (d + 7) mHa_fromNow [.ref (X + 160), .int (m_i fr), .int (m_i to)] (T, m_I J, P, L, z, w) Q := by
  have hX := hW.1.1
  have hN := hW.1.2.1.1
  obtain ⟨J2, eJ2⟩ : ∃ J2, J2 = m_fl J (X + 161) 0 (J (X + 32)) ((16 : Nat) : Int) := ⟨_, rfl⟩
  have fr2 : ∀ b i, b ≠ X + 161 → J2 b i = J b i := fun b i q2 => by rw [eJ2, m_fl_o q2]
  have hW2 : cl_W en X N zb wb C T J2 P z w := cl_W_z hW (fun b i q => fr2 b i (by omega))
  have ep : ∀ i : Nat, i < 16 → J2 (X + 161) i = J (X + 32) i := fun i hi => by rw [eJ2, m_fl_i (by omega), Nat.sub_zero]
  have hpb : ∀ i : Nat, i < 16 → 0 ≤ J2 (X + 161) i ∧ J2 (X + 161) i ≤ 1000 := fun i hi => by rw [ep i hi]; have := hW.2.1.2.1.1 i hi; omega
  refine m_into (by decide) (Nat.le_of_ble_eq_true rfl) rfl ?_
  show m_wp en _ mHa_fromNow 0 [some (.ref (X + 160)), some (.int (m_i (fr))), some (.int (m_i (to)))] [] (T, m_I J, P, L, z, w) Q
  refine r_aln eHa_fromNow_0 rfl ?_
  refine m_getR eHa_fromNow_1 rfl (cl_t hX (i := 154) rfl) (cl_p hX (i := 130) rfl) ?_
  refine m_getR eHa_fromNow_4 rfl (cl_t hX (i := 30) rfl) (cl_p hX (i := 39) rfl) ?_
  refine r_aln eHa_fromNow_7 rfl ?_
  refine m_getR eHa_fromNow_8 rfl (cl_t hX (i := 154) rfl) (cl_p hX (i := 132) rfl) ?_
  refine r_sta eHa_fromNow_11 rfl rfl (by decide) rfl ?_
  refine c_Sc_copyRow (n := 16) (cl_t hX (i := 32) rfl) (hX.2.1 (161, 20, 16) (by decide)) (cl_e hX 161) (by omega) (by omega) ?_
  rw [← eJ2]
  show m_wp en _ mHa_fromNow 14 [some (.ref (X + 160)), some (.int (m_i (fr))), some (.int (m_i (to)))] [] (T, m_I J2, P, L, z, w) Q
  refine r_aln eHa_fromNow_14 rfl ?_
  refine r_con eHa_fromNow_15 ?_
  refine r_con eHa_fromNow_16 ?_
  refine r_iln eHa_fromNow_17 rfl ?_
  refine r_iln eHa_fromNow_18 rfl ?_
  refine r_vir eHa_fromNow_19 rfl rfl rfl (cl_t hX (i := 154) rfl) rfl rfl ?_
  refine c_Ha_stepsOf hW2 hpb (by omega) (by omega) hfr hto (fun T J3 P L z w r k1 k2 k3 k4 => ?_)
  show m_wp en _ mHa_fromNow 22 [some (.ref (X + 160)), some (.int (m_i (fr))), some (.int (m_i (to)))] [(.int (m_i (r)))] (T, m_I J3, P, L, z, w) Q
  refine r_iret eHa_fromNow_22 rfl ?_
  exact hq T J3 P L z w r (J2 (X + 161)) k1 (cl_qe_t (cl_qe_J (fun b i q q2 => fr2 b i q2)) (cl_qe_q k2)) ep ((ha_so_e (fun b i q => fr2 b i (by omega))).mp k3) k4
end HI
