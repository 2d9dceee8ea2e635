/-! the class: the best order of all spots -/
abbrev ro_T : Type := (Nat → Int) × Int × (Nat → Int)
def ro_cp (s : ro_T) (st : Int) : ro_T := (s.1, st, fun i => if i < 6 then s.1 i else s.2.2 i)
/-- spots up to k are tried at a place of the order -/
def ro_lp (rec : Int → Int → ro_T → ro_T) (d0 : Nat → Int) (dl : Nat → Nat → Int) (done : Nat) (vis st : Int) : Nat → ro_T → ro_T
  | 0, s => s
  | k + 1, s => if a_bit vis (k : Int) ≠ 0 then ro_lp rec d0 dl done vis st k s else if 0 ≤ (if done < 1 then d0 k else dl ((ro_lp rec d0 dl done vis st k s).1 (done - 1)).toNat k) then rec (a_set vis (k : Int)) (st + (if done < 1 then d0 k else dl ((ro_lp rec d0 dl done vis st k s).1 (done - 1)).toNat k)) ((fun i => if i = done then (k : Int) else (ro_lp rec d0 dl done vis st k s).1 i), (ro_lp rec d0 dl done vis st k s).2) else ro_lp rec d0 dl done vis st k s
/-- orders are tried by numbers; only a better one takes the place of the best -/
def ro_go (n : Nat) (d0 : Nat → Int) (dl : Nat → Nat → Int) : Nat → Nat → Int → Int → ro_T → ro_T
  | 0, _, _, _, s => s
  | f + 1, done, vis, st, s => if 0 ≤ s.2.1 ∧ s.2.1 ≤ st then s else if n ≤ done then ro_cp s st else ro_lp (ro_go n d0 dl f (done + 1)) d0 dl done vis st n s
def ro_S (J : Nat → Nat → Int) (X : Nat) : ro_T := (J (X + 158), J (X + 157) 4, J (X + 159))
/-- frames with exceptions -/
def cl_qe (X N : Nat) (E : Nat → Nat → Prop) (T : Nat → Option (Nat × Nat)) (J : Nat → Nat → Int) (P : Nat → Nat → Option Nat) (L : Nat → Nat → Int64) (T' : Nat → Option (Nat × Nat)) (J' : Nat → Nat → Int) (P' : Nat → Nat → Option Nat) (L' : Nat → Nat → Int64) : Prop :=
  (∀ b, b < N → T' b = T b) ∧ (∀ b i, b < X + 132 ∨ (X + 156 ≤ b ∧ b < N) ∨ (b = X + 132 ∧ i = 13) → ¬ E b i → J' b i = J b i) ∧ (∀ b i, b < X + 132 ∨ (X + 165 ≤ b ∧ b < N) → P' b i = P b i) ∧ (∀ b i, b < N → L' b i = L b i)
def ro_E (X b i : Nat) : Prop := b = X + 158 ∨ b = X + 159 ∨ (b = X + 157 ∧ i = 4)
section RO
variable {en : Nat → Nat} {d : Nat} {T T' T2 T0 : Nat → Option (Nat × Nat)} {J J' J0 J1 J2 J3 K H : Nat → Nat → Int} {P P' P2 P0 : Nat → Nat → Option Nat} {L L' L2 L0 : Nat → Nat → Int64} {z w z' w' z0 w0 A B R U S X N zb wb o o' A0 R' U' n' : Nat} {Q : m_Q} {σ τ γ π ρ : a_S} {C C2 : a_C} {bw most by_ gl : Int} {E : Nat → Nat → Prop} {n : Nat} {d0 : Nat → Int} {dl : Nat → Nat → Int}
theorem cl_qe_r : cl_qe X N E T J P L T J P L := ⟨fun _ _ => rfl, fun _ _ _ _ => rfl, fun _ _ _ => rfl, fun _ _ _ => rfl⟩
theorem cl_qe_t (h : cl_qe X N E T J P L T' J' P' L') (h2 : cl_qe X N E T' J' P' L' T2 J2 P2 L2) : cl_qe X N E T J P L T2 J2 P2 L2 := ⟨fun b q => (h2.1 b q).trans (h.1 b q), fun b i q e => (h2.2.1 b i q e).trans (h.2.1 b i q e), fun b i q => (h2.2.2.1 b i q).trans (h.2.2.1 b i q), fun b i q => (h2.2.2.2 b i q).trans (h.2.2.2 b i q)⟩
theorem cl_qe_q (h : cl_q X N T J P L T' J' P' L') : cl_qe X N E T J P L T' J' P' L' := ⟨h.1, fun b i q _ => h.2.1 b i q, h.2.2.1, h.2.2.2⟩
theorem cl_qe_J (h : ∀ b i, b < X + 132 ∨ (X + 156 ≤ b ∧ b < N) ∨ (b = X + 132 ∧ i = 13) → ¬ E b i → J' b i = J b i) : cl_qe X N E T J P L T J' P L := ⟨fun _ _ => rfl, h, fun _ _ _ => rfl, fun _ _ _ => rfl⟩
theorem ro_lo (h : cl_qe X N (ro_E X) T J P L T' J' P' L') : ∀ b i, b < X + 132 → J' b i = J b i := fun b i q => h.2.1 b i (by omega) (by unfold ro_E; omega)
theorem ro_q_S (h : cl_q X N T J P L T' J' P' L') (hN : X + 165 ≤ N) : ro_S J' X = ro_S J X := by
  have e1 : J' (X + 158) = J (X + 158) := funext (fun i => h.2.1 _ i (by omega))
  have e2 : J' (X + 159) = J (X + 159) := funext (fun i => h.2.1 _ i (by omega))
  unfold ro_S
  rw [e1, e2, h.2.1 _ _ (by omega)]
/-- what the recursion is told -/
def ro_H (J : Nat → Nat → Int) (X n : Nat) (C : a_C) (d0 : Nat → Int) (dl : Nat → Nat → Int) : Prop := J (X + 29) 5 = (n : Int) ∧ n ≤ 6 ∧ (∀ k : Nat, k < n → (∀ r, cl_fw C (po_get J (X + 31)) (cl_spt J X k) r → r = d0 k) ∧ d0 k < 100000) ∧ ∀ f t : Nat, f < n → t < n → (∀ r, cl_leg J X C f t r → r = dl f t) ∧ -2 ≤ dl f t ∧ dl f t < 100000
theorem ro_H_e (h : ro_H J X n C d0 dl) (e : ∀ b i, b < X + 132 → J' b i = J b i) : ro_H J' X n C d0 dl := by
  obtain ⟨h1, h2, h3, h4⟩ := h
  refine ⟨by rw [e _ _ (by omega)]; exact h1, h2, fun k hk => ⟨fun r hr => ?_, (h3 k hk).2⟩, fun f t hf ht => ⟨fun r hr => ?_, (h4 f t hf ht).2⟩⟩
  · rw [po_get_e (fun i => e (X + 31) i (by omega)), cl_spt_e e] at hr
    exact (h3 k hk).1 r hr
  · rw [cl_leg_e e] at hr
    exact (h4 f t hf ht).1 r hr
theorem a_bit_v {b : Int} (hb : 0 ≤ b ∧ b < 64) {k : Nat} (hk : k < 6) : a_bit b (k : Int) = 0 ∨ a_bit b (k : Int) = 1 := (a_bs hb (t := (k : Int)) ⟨by omega, by omega⟩).1
/-- a prefix of the order stays -/
def ro_P (o o' : Nat → Int) (done : Nat) : Prop := ∀ i, i < done → o' i = o i
theorem c_leg9 (h : cl_W en X N zb wb C T J P z w) {f : Int} {t : Nat} (hf : 0 ≤ f ∧ f < n) (ht : t < n) (e29 : J (X + 29) 5 = (n : Int))
    (hq : ∀ T' J' P' L' z' w' r, cl_W en X N zb wb C T' J' P' z' w' → cl_q X N T J P L T' J' P' L' → cl_leg J X C f.toNat t r → Q (some (.int (m_i r))) (T', m_I J', P', L', z', w')) :
    m_call en (d + 5) mWa_legOf [.ref (X + 132), .int (m_i f), .int (m_i (t : Int))] (T, m_I J, P, L, z, w) Q := by
  have := c_Wa_legOf (d := d) (f := f.toNat) (t := t) h (by omega) (by omega) hq
  rw [show ((f.toNat : Nat) : Int) = f by omega] at this
  exact this
theorem l_Ro_goOn (hN : X + 165 ≤ N) {done : Nat} {vis st : Int} (hdn : done < n) (hv : 0 ≤ vis ∧ vis < 64) (hst : 0 ≤ st ∧ st ≤ 100000 * (done : Int)) {rec : Int → Int → ro_T → ro_T}
    (hH0 : ro_H J0 X n C d0 dl)
    (hcall : ∀ (vis' st' : Int) (T : Nat → Option (Nat × Nat)) (J : Nat → Nat → Int) (P : Nat → Nat → Option Nat) (L : Nat → Nat → Int64) (z w : Nat) (Q : m_Q), (0 ≤ vis' ∧ vis' < 64) → (0 ≤ st' ∧ st' ≤ 100000 * ((done : Int) + 1)) → cl_W en X N zb wb C T J P z w → (∀ b i, b < X + 132 → J b i = J0 b i) → (0 ≤ J (X + 158) done ∧ J (X + 158) done < n) → (-2 ≤ J (X + 157) 4 ∧ J (X + 157) 4 ≤ 700000) →
      (∀ T' J' P' L' z' w', cl_W en X N zb wb C T' J' P' z' w' → cl_qe X N (ro_E X) T J P L T' J' P' L' → ro_S J' X = rec vis' st' (ro_S J X) → ro_P (J (X + 158)) (J' (X + 158)) (done + 1) → Q none (T', m_I J', P', L', z', w')) → m_call en (d + 5) mRo_goOn [.ref (X + 157), .int (m_i ((done : Int) + 1)), .int (m_i vis'), .int (m_i st')] (T, m_I J, P, L, z, w) Q)
    (hrb : ∀ k, k ≤ n → -2 ≤ (ro_lp rec d0 dl done vis st k (ro_S J X)).2.1 ∧ (ro_lp rec d0 dl done vis st k (ro_S J X)).2.1 ≤ 700000)
    (hpre : 1 ≤ done → 0 ≤ J (X + 158) (done - 1) ∧ J (X + 158) (done - 1) < n) (hJ0 : ∀ b i, b < X + 132 → J b i = J0 b i)
    (hq : ∀ T' J' P' L' z' w', cl_W en X N zb wb C T' J' P' z' w' → cl_qe X N (ro_E X) T J P L T' J' P' L' → ro_S J' X = ro_lp rec d0 dl done vis st n (ro_S J X) → ro_P (J (X + 158)) (J' (X + 158)) done → Q none (T', m_I J', P', L', z', w')) :
    ∀ (r k : Nat) (T1 : Nat → Option (Nat × Nat)) (J1 : Nat → Nat → Int) (P1 : Nat → Nat → Option Nat) (L1 : Nat → Nat → Int64) (z1 w1 : Nat) (o5 : Option Value), k + r = n → cl_W en X N zb wb C T1 J1 P1 z1 w1 → cl_qe X N (ro_E X) T J P L T1 J1 P1 L1 → ro_S J1 X = ro_lp rec d0 dl done vis st k (ro_S J X) → ro_P (J (X + 158)) (J1 (X + 158)) done →
      m_wp en (d + 5) mRo_goOn 58 [some (.ref (X + 157)), some (.int (m_i (done : Int))), some (.int (m_i vis)), some (.int (m_i st)), some (.int (m_i (k : Int))), o5] [] (T1, m_I J1, P1, L1, z1, w1) Q := by
  intro r
  induction r with
  | zero =>
    intro k T J1 P L z w o5 hk hW hqe hS hP
    obtain rfl : k = n := by omega
    have hX := hW.1.1
    have e29 : J1 (X + 29) 5 = (k : Int) := (ro_lo hqe _ _ (by omega)).trans ((hJ0 _ _ (by omega)).trans hH0.1)
    have n6 := hH0.2.1
    refine r_il eRo_goOn_58 rfl ?_
    refine r_aln eRo_goOn_60 rfl ?_
    refine m_getR eRo_goOn_61 rfl (cl_t hX (i := 151) rfl) (cl_p hX (i := 125) rfl) ?_
    refine m_getR eRo_goOn_64 rfl (cl_t hX (i := 17) rfl) (cl_p hX (i := 37) rfl) ?_
    refine r_con eRo_goOn_67 ?_
    refine r_ialde (x := J1 (X + 29) 5) eRo_goOn_68 (cl_t hX (i := 29) rfl) (by decide) (by omega) (by omega) rfl ?_
    refine r_cge (tgt := 157) eRo_goOn_69 rfl ⟨(by omega), (by omega)⟩ ⟨(by omega), (by omega)⟩ (fun c69 => ?_) (fun c69 => ?_)
    · refine r_ret eRo_goOn_157 rfl ?_
      exact hq T J1 P L z w hW hqe hS hP
    · exfalso; omega
  | succ r ih =>
    intro k T J1 P L z w o5 hk hW hqe hS hP
    have hX := hW.1.1
    have hlo := ro_lo hqe
    have hH : ro_H J1 X n C d0 dl := ro_H_e (ro_H_e hH0 hJ0) hlo
    have e29 : J1 (X + 29) 5 = (n : Int) := hH.1
    have n6 := hH.2.1
    have hkn : k < n := by omega
    have hbs := a_bs hv (t := (k : Int)) ⟨by omega, by omega⟩
    have hb01 : 0 ≤ a_bit vis (k : Int) ∧ a_bit vis (k : Int) ≤ 1 := by omega
    obtain ⟨bi, ebi⟩ : ∃ bi, bi = a_bit vis (k : Int) := ⟨_, rfl⟩
    have ebi2 : m_and (m_shr vis (k : Int)) 1 = bi := ebi.symm
    rw [← ebi] at hb01
    obtain ⟨sv, esv⟩ : ∃ sv, sv = a_set vis (k : Int) := ⟨_, rfl⟩
    have esv2 : m_or vis (m_shl 1 (k : Int)) = sv := esv.symm
    have hsv : 0 ≤ sv ∧ sv < 64 := by rw [esv]; exact ⟨hbs.2.1, hbs.2.2.1⟩
    have hpre1 : 1 ≤ done → 0 ≤ J1 (X + 158) (done - 1) ∧ J1 (X + 158) (done - 1) < n := fun q => by rw [hP (done - 1) (by omega)]; exact hpre q
    have ed : 1 ≤ done → ((done : Int) - 1).toNat = done - 1 := fun q => by omega
    have eo : (ro_lp rec d0 dl done vis st k (ro_S J X)).1 = J1 (X + 158) := by rw [← hS]; rfl
    clear hbs
    -- nothing is done
    have hnext : ∀ T2 J2 P2 L2 z2 w2 o5, cl_W en X N zb wb C T2 J2 P2 z2 w2 → cl_qe X N (ro_E X) T J1 P L T2 J2 P2 L2 → ro_S J2 X = ro_lp rec d0 dl done vis st (k + 1) (ro_S J X) → ro_P (J1 (X + 158)) (J2 (X + 158)) done → m_wp en (d + 5) mRo_goOn 58 [some (.ref (X + 157)), some (.int (m_i (done : Int))), some (.int (m_i vis)), some (.int (m_i st)), some (.int (m_i ((k : Int) + 1))), o5] [] (T2, m_I J2, P2, L2, z2, w2) Q := fun T2 J2 P2 L2 z2 w2 o5 a1 a2 a3 a4 => by
      have := ih (k + 1) T2 J2 P2 L2 z2 w2 o5 (by omega) a1 (cl_qe_t hqe a2) a3 (fun i hi => (a4 i hi).trans (hP i hi))
      rw [show ((k + 1 : Nat) : Int) = (k : Int) + 1 by omega] at this
      exact this
    have hskip : bi ≠ 0 → m_wp en (d + 5) mRo_goOn 58 [some (.ref (X + 157)), some (.int (m_i (done : Int))), some (.int (m_i vis)), some (.int (m_i st)), some (.int (m_i ((k : Int) + 1))), o5] [] (T, m_I J1, P, L, z, w) Q := fun q => hnext T J1 P L z w o5 hW cl_qe_r (by rw [hS]; unfold ro_lp; rw [← ebi, if_pos q]; cases k <;> rfl) (fun _ _ => rfl)
    obtain ⟨lg, elg⟩ : ∃ lg, lg = if done < 1 then d0 k else dl (J1 (X + 158) (done - 1)).toNat k := ⟨_, rfl⟩
    have hlp : bi = 0 → ro_lp rec d0 dl done vis st (k + 1) (ro_S J X) = if 0 ≤ lg then rec sv (st + lg) ((fun i => if i = done then (k : Int) else J1 (X + 158) i), (ro_S J1 X).2) else ro_S J1 X := fun q => by
      rw [hS]
      show (if a_bit vis (k : Int) ≠ 0 then _ else _) = _
      rw [← ebi, if_neg (fun e => e q), eo, ← elg, ← esv]
    have hneg : ∀ T2 J2 P2 L2 z2 w2 o5, bi = 0 → lg < 0 → cl_W en X N zb wb C T2 J2 P2 z2 w2 → cl_q X N T J1 P L T2 J2 P2 L2 → m_wp en (d + 5) mRo_goOn 58 [some (.ref (X + 157)), some (.int (m_i (done : Int))), some (.int (m_i vis)), some (.int (m_i st)), some (.int (m_i ((k : Int) + 1))), o5] [] (T2, m_I J2, P2, L2, z2, w2) Q := fun T2 J2 P2 L2 z2 w2 o5 q q2 a1 a2 =>
      hnext T2 J2 P2 L2 z2 w2 o5 a1 (cl_qe_q a2) (by rw [hlp q, if_neg (by omega)]; exact ro_q_S a2 hN) (fun i hi => a2.2.1 _ i (by omega))
    have hrec : ∀ T2 J2 P2 L2 z2 w2 x (Q2 : m_Q), cl_W en X N zb wb C T2 J2 P2 z2 w2 → cl_q X N T J1 P L T2 J2 P2 L2 → 0 ≤ x → x < 100000 → x = lg → (∀ T3 J3 P3 L3 z3 w3, cl_W en X N zb wb C T3 J3 P3 z3 w3 → cl_qe X N (ro_E X) T J1 P L T3 J3 P3 L3 → (bi = 0 → ro_S J3 X = ro_lp rec d0 dl done vis st (k + 1) (ro_S J X)) → ro_P (J1 (X + 158)) (J3 (X + 158)) done → Q2 none (T3, m_I J3, P3, L3, z3, w3)) → m_call en (d + 5) mRo_goOn [.ref (X + 157), .int (m_i ((done : Int) + 1)), .int (m_i sv), .int (m_i (st + x))] (T2, m_I (m_up J2 (X + 158) ((done : Int)).toNat (k : Int)), P2, L2, z2, w2) Q2 := fun T2 J2 P2 L2 z2 w2 x Q2 a1 a2 a3 a4 a5 a6 => by
      rw [Int.toNat_natCast]
      have eS : ro_S (m_up J2 (X + 158) done (k : Int)) X = ((fun i => if i = done then (k : Int) else J1 (X + 158) i), (ro_S J1 X).2) := by
        have := ro_q_S a2 hN
        unfold ro_S at this ⊢
        refine Prod.ext ?_ ?_
        · funext i
          simp only
          rw [m_up_at]
          by_cases q : i = done
          · rw [if_pos ⟨rfl, q⟩, if_pos q]
          · rw [if_neg (fun e => q e.2), if_neg q]; exact a2.2.1 _ i (by omega)
        · have e1 : m_up J2 (X + 158) done (k : Int) (X + 159) = J2 (X + 159) := funext (fun i => m_up_o (by omega))
          simp only
          rw [e1, m_up_o (by omega)]
          exact congrArg Prod.snd this
      refine hcall sv (st + x) T2 _ P2 L2 z2 w2 Q2 hsv (by omega) (cl_W_z a1 (fun b i q => m_up_o (by omega))) (fun b i q => ?_) (by rw [m_up_same]; omega) (by have h9 := hrb k (by omega); rw [← hS] at h9; have h8 : J2 (X + 157) 4 = (ro_S J1 X).2.1 := a2.2.1 _ _ (by omega); rw [m_up_o (by omega), h8]; exact h9) (fun T3 J3 P3 L3 z3 w3 b1 b2 b3 b4 => a6 T3 J3 P3 L3 z3 w3 b1 (cl_qe_t (cl_qe_t (cl_qe_q a2) (cl_qe_J (fun b i q q2 => m_up_o (fun e => q2 (Or.inl e))))) b2) (fun q => ?_) (fun i hi => ?_))
      · rw [m_up_o (by omega), a2.2.1 b i (by omega), hlo b i q]; exact hJ0 b i q
      · rw [b3, eS, hlp q, if_pos (by omega), a5]
      · rw [b4 i (by omega), m_up_j (by omega)]; exact a2.2.1 _ i (by omega)
    refine r_il eRo_goOn_58 rfl ?_
    refine r_aln eRo_goOn_60 rfl ?_
    refine m_getR eRo_goOn_61 rfl (cl_t hX (i := 151) rfl) (cl_p hX (i := 125) rfl) ?_
    refine m_getR eRo_goOn_64 rfl (cl_t hX (i := 17) rfl) (cl_p hX (i := 37) rfl) ?_
    refine r_con eRo_goOn_67 ?_
    refine r_ialde (x := J1 (X + 29) 5) eRo_goOn_68 (cl_t hX (i := 29) rfl) (by decide) (by omega) (by omega) rfl ?_
    refine r_cge (tgt := 157) eRo_goOn_69 rfl ⟨(by omega), (by omega)⟩ ⟨(by omega), (by omega)⟩ (fun c69 => ?_) (fun c69 => ?_)
    · exfalso; omega
    · refine r_iln eRo_goOn_72 rfl ?_
      refine r_il eRo_goOn_73 rfl ?_
      refine r_shr eRo_goOn_75 ?_
      refine r_con eRo_goOn_76 ?_
      refine r_and eRo_goOn_77 ?_
      rw [ebi2]
      refine r_zne (tgt := 151) eRo_goOn_78 rfl ⟨(by omega), (by omega)⟩ (fun c78 => ?_) (fun c78 => ?_)
      · refine r_inc (ls' := [some (.ref (X + 157)), some (.int (m_i ((done : Int)))), some (.int (m_i (vis))), some (.int (m_i (st))), some (.int (m_i ((k : Int) + 1))), o5]) eRo_goOn_151 rfl rfl ?_
        refine r_go (tgt := 58) eRo_goOn_154 rfl ?_
        first | exact hskip (by omega) | exact hneg T J2 P L z w _ (by omega) (by omega) k1 k2 | exact hnext T J3 P L z w _ g1 g2 (g3 (by omega)) g4 | (exfalso; omega)
      · refine r_iln eRo_goOn_81 rfl ?_
        refine r_con eRo_goOn_82 ?_
        refine r_cge (tgt := 98) eRo_goOn_83 rfl ⟨(by omega), (by omega)⟩ ⟨(by omega), (by omega)⟩ (fun c83 => ?_) (fun c83 => ?_)
        · refine r_aln eRo_goOn_98 rfl ?_
          refine m_getR eRo_goOn_99 rfl (cl_t hX (i := 151) rfl) (cl_p hX (i := 126) rfl) ?_
          refine r_aln eRo_goOn_102 rfl ?_
          refine m_getR eRo_goOn_103 rfl (cl_t hX (i := 151) rfl) (cl_p hX (i := 127) rfl) ?_
          refine r_iln eRo_goOn_106 rfl ?_
          refine r_con eRo_goOn_107 ?_
          refine r_sub eRo_goOn_108 ?_
          refine r_ialde (x := J1 (X + 158) ((((done : Int)) - (1)).toNat)) eRo_goOn_109 (cl_t hX (i := 152) rfl) (by decide) (by omega) (by omega) rfl ?_
          refine r_il eRo_goOn_110 rfl ?_
          refine r_vir eRo_goOn_112 rfl rfl rfl (cl_t hX (i := 132) rfl) rfl rfl ?_
          rw [ed (by omega)]
          refine c_leg9 (f := J1 (X + 158) (done - 1)) (t := k) hW (hpre1 (by omega)) hkn e29 (fun T J2 P L z w r k1 k2 k4 => ?_)
          have hX := k1.1.1
          have k6 := (hH.2.2.2 (J1 (X + 158) (done - 1)).toNat k (by have := hpre1 (by omega); omega) hkn).2
          obtain rfl := (hH.2.2.2 (J1 (X + 158) (done - 1)).toNat k (by have := hpre1 (by omega); omega) hkn).1 r k4
          have k9 : dl (J1 (X + 158) (done - 1)).toNat k = lg := by rw [elg, if_neg (by omega)]
          show m_wp en _ mRo_goOn 115 [some (.ref (X + 157)), some (.int (m_i ((done : Int)))), some (.int (m_i (vis))), some (.int (m_i (st))), some (.int (m_i ((k : Int)))), o5] [(.int (m_i ((dl (J1 (X + 158) (done - 1)).toNat k))))] (T, m_I J2, P, L, z, w) Q
          refine r_is (ls' := [some (.ref (X + 157)), some (.int (m_i ((done : Int)))), some (.int (m_i (vis))), some (.int (m_i (st))), some (.int (m_i ((k : Int)))), some (.int (m_i ((dl (J1 (X + 158) (done - 1)).toNat k))))]) eRo_goOn_115 (Nat.le_of_ble_eq_true rfl) rfl ?_
          refine r_il eRo_goOn_117 rfl ?_
          refine r_zlt (tgt := 151) eRo_goOn_119 rfl ⟨(by omega), (by omega)⟩ (fun c119 => ?_) (fun c119 => ?_)
          · refine r_inc (ls' := [some (.ref (X + 157)), some (.int (m_i ((done : Int)))), some (.int (m_i (vis))), some (.int (m_i (st))), some (.int (m_i ((k : Int) + 1))), some (.int (m_i ((dl (J1 (X + 158) (done - 1)).toNat k))))]) eRo_goOn_151 rfl rfl ?_
            refine r_go (tgt := 58) eRo_goOn_154 rfl ?_
            first | exact hskip (by omega) | exact hneg T J2 P L z w _ (by omega) (by omega) k1 k2 | exact hnext T J3 P L z w _ g1 g2 (g3 (by omega)) g4 | (exfalso; omega)
          · refine r_iln eRo_goOn_122 rfl ?_
            refine r_zlt (tgt := 151) eRo_goOn_123 rfl ⟨(by omega), (by omega)⟩ (fun c123 => ?_) (fun c123 => ?_)
            · refine r_inc (ls' := [some (.ref (X + 157)), some (.int (m_i ((done : Int)))), some (.int (m_i (vis))), some (.int (m_i (st))), some (.int (m_i ((k : Int) + 1))), some (.int (m_i ((dl (J1 (X + 158) (done - 1)).toNat k))))]) eRo_goOn_151 rfl rfl ?_
              refine r_go (tgt := 58) eRo_goOn_154 rfl ?_
              first | exact hskip (by omega) | exact hneg T J2 P L z w _ (by omega) (by omega) k1 k2 | exact hnext T J3 P L z w _ g1 g2 (g3 (by omega)) g4 | (exfalso; omega)
            · refine r_aln eRo_goOn_126 rfl ?_
              refine m_getR eRo_goOn_127 rfl (cl_t hX (i := 151) rfl) (cl_p hX (i := 127) rfl) ?_
              refine r_iln eRo_goOn_130 rfl ?_
              refine r_il eRo_goOn_131 rfl ?_
              refine r_iast eRo_goOn_133 (cl_t hX (i := 152) rfl) (by decide) (by omega) (by omega) (cl_e hX 158) ?_
              refine r_aln eRo_goOn_134 rfl ?_
              refine r_iln eRo_goOn_135 rfl ?_
              refine r_con eRo_goOn_136 ?_
              refine r_add eRo_goOn_137 ?_
              refine r_iln eRo_goOn_138 rfl ?_
              refine r_con eRo_goOn_139 ?_
              refine r_il eRo_goOn_140 rfl ?_
              refine r_shl eRo_goOn_142 ?_
              refine r_or eRo_goOn_143 ?_
              refine r_iln eRo_goOn_144 rfl ?_
              refine r_il eRo_goOn_145 rfl ?_
              refine r_add eRo_goOn_147 ?_
              refine r_vir eRo_goOn_148 rfl rfl rfl (cl_t hX (i := 151) rfl) rfl rfl ?_
              rw [esv2]
              refine hrec T J2 P L z w _ _ k1 k2 (by omega) k6.2 k9 (fun T J3 P L z w g1 g2 g3 g4 => ?_)
              have hX := g1.1.1
              show m_wp en _ mRo_goOn 151 [some (.ref (X + 157)), some (.int (m_i ((done : Int)))), some (.int (m_i (vis))), some (.int (m_i (st))), some (.int (m_i ((k : Int)))), some (.int (m_i ((dl (J1 (X + 158) (done - 1)).toNat k))))] [] (T, m_I J3, P, L, z, w) Q
              refine r_inc (ls' := [some (.ref (X + 157)), some (.int (m_i ((done : Int)))), some (.int (m_i (vis))), some (.int (m_i (st))), some (.int (m_i ((k : Int) + 1))), some (.int (m_i ((dl (J1 (X + 158) (done - 1)).toNat k))))]) eRo_goOn_151 rfl rfl ?_
              refine r_go (tgt := 58) eRo_goOn_154 rfl ?_
              first | exact hskip (by omega) | exact hneg T J2 P L z w _ (by omega) (by omega) k1 k2 | exact hnext T J3 P L z w _ g1 g2 (g3 (by omega)) g4 | (exfalso; omega)
        · refine r_aln eRo_goOn_86 rfl ?_
          refine m_getR eRo_goOn_87 rfl (cl_t hX (i := 151) rfl) (cl_p hX (i := 126) rfl) ?_
          refine r_il eRo_goOn_90 rfl ?_
          refine r_vir eRo_goOn_92 rfl rfl rfl (cl_t hX (i := 132) rfl) rfl rfl ?_
          refine c_Wa_stepsToSpot (s := (k : Int)) hW ⟨by omega, by omega⟩ (fun T J2 P L z w r k1 k2 k3 k4 k5 k6 => ?_)
          have hX := k1.1.1
          rw [Int.toNat_natCast] at k4
          obtain rfl := (hH.2.2.1 k hkn).1 r k4
          have k9 : d0 k = lg := by rw [elg, if_pos (by omega)]
          show m_wp en _ mRo_goOn 95 [some (.ref (X + 157)), some (.int (m_i ((done : Int)))), some (.int (m_i (vis))), some (.int (m_i (st))), some (.int (m_i ((k : Int)))), o5] [(.int (m_i ((d0 k))))] (T, m_I J2, P, L, z, w) Q
          refine r_go (tgt := 115) eRo_goOn_95 rfl ?_
          refine r_is (ls' := [some (.ref (X + 157)), some (.int (m_i ((done : Int)))), some (.int (m_i (vis))), some (.int (m_i (st))), some (.int (m_i ((k : Int)))), some (.int (m_i ((d0 k))))]) eRo_goOn_115 (Nat.le_of_ble_eq_true rfl) rfl ?_
          refine r_il eRo_goOn_117 rfl ?_
          refine r_zlt (tgt := 151) eRo_goOn_119 rfl ⟨(by omega), (by omega)⟩ (fun c119 => ?_) (fun c119 => ?_)
          · refine r_inc (ls' := [some (.ref (X + 157)), some (.int (m_i ((done : Int)))), some (.int (m_i (vis))), some (.int (m_i (st))), some (.int (m_i ((k : Int) + 1))), some (.int (m_i ((d0 k))))]) eRo_goOn_151 rfl rfl ?_
            refine r_go (tgt := 58) eRo_goOn_154 rfl ?_
            first | exact hskip (by omega) | exact hneg T J2 P L z w _ (by omega) (by omega) k1 k2 | exact hnext T J3 P L z w _ g1 g2 (g3 (by omega)) g4 | (exfalso; omega)
          · refine r_iln eRo_goOn_122 rfl ?_
            refine r_zlt (tgt := 151) eRo_goOn_123 rfl ⟨(by omega), (by omega)⟩ (fun c123 => ?_) (fun c123 => ?_)
            · refine r_inc (ls' := [some (.ref (X + 157)), some (.int (m_i ((done : Int)))), some (.int (m_i (vis))), some (.int (m_i (st))), some (.int (m_i ((k : Int) + 1))), some (.int (m_i ((d0 k))))]) eRo_goOn_151 rfl rfl ?_
              refine r_go (tgt := 58) eRo_goOn_154 rfl ?_
              first | exact hskip (by omega) | exact hneg T J2 P L z w _ (by omega) (by omega) k1 k2 | exact hnext T J3 P L z w _ g1 g2 (g3 (by omega)) g4 | (exfalso; omega)
            · refine r_aln eRo_goOn_126 rfl ?_
              refine m_getR eRo_goOn_127 rfl (cl_t hX (i := 151) rfl) (cl_p hX (i := 127) rfl) ?_
              refine r_iln eRo_goOn_130 rfl ?_
              refine r_il eRo_goOn_131 rfl ?_
              refine r_iast eRo_goOn_133 (cl_t hX (i := 152) rfl) (by decide) (by omega) (by omega) (cl_e hX 158) ?_
              refine r_aln eRo_goOn_134 rfl ?_
              refine r_iln eRo_goOn_135 rfl ?_
              refine r_con eRo_goOn_136 ?_
              refine r_add eRo_goOn_137 ?_
              refine r_iln eRo_goOn_138 rfl ?_
              refine r_con eRo_goOn_139 ?_
              refine r_il eRo_goOn_140 rfl ?_
              refine r_shl eRo_goOn_142 ?_
              refine r_or eRo_goOn_143 ?_
              refine r_iln eRo_goOn_144 rfl ?_
              refine r_il eRo_goOn_145 rfl ?_
              refine r_add eRo_goOn_147 ?_
              refine r_vir eRo_goOn_148 rfl rfl rfl (cl_t hX (i := 151) rfl) rfl rfl ?_
              rw [esv2]
              refine hrec T J2 P L z w _ _ k1 k2 (by omega) k6.2 k9 (fun T J3 P L z w g1 g2 g3 g4 => ?_)
              have hX := g1.1.1
              show m_wp en _ mRo_goOn 151 [some (.ref (X + 157)), some (.int (m_i ((done : Int)))), some (.int (m_i (vis))), some (.int (m_i (st))), some (.int (m_i ((k : Int)))), some (.int (m_i ((d0 k))))] [] (T, m_I J3, P, L, z, w) Q
              refine r_inc (ls' := [some (.ref (X + 157)), some (.int (m_i ((done : Int)))), some (.int (m_i (vis))), some (.int (m_i (st))), some (.int (m_i ((k : Int) + 1))), some (.int (m_i ((d0 k))))]) eRo_goOn_151 rfl rfl ?_
              refine r_go (tgt := 58) eRo_goOn_154 rfl ?_
              first | exact hskip (by omega) | exact hneg T J2 P L z w _ (by omega) (by omega) k1 k2 | exact hnext T J3 P L z w _ g1 g2 (g3 (by omega)) g4 | (exfalso; omega)
end RO
