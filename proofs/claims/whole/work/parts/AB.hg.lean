/-! the class: the best order of all jobs -/
def ha_mv (p : Nat → Int) (f t : Int) : Nat → Int := fun i => if i = t.toNat then (if i = f.toNat then p i - 1 else p i) + 1 else if i = f.toNat then p i - 1 else p i
def ha_cp (s : ro_T) (st : Int) : ro_T := (s.1, st, fun i => if i < 3 then s.1 i else s.2.2 i)
def ha_mo (sf : (Nat → Int) → Int → Int → Int → Int → Int) (jf jt : Nat → Int) (p : Nat → Int) (fin col dep : Int) (k : Nat) : Int := if a_bit fin (k : Int) ≠ 0 then -2 else sf p col dep (jf k) (jt k)
def ha_lp (rec : (Nat → Int) → Int → Int → Int → Int → ro_T → ro_T) (sf : (Nat → Int) → Int → Int → Int → Int → Int) (dd : (Nat → Int) → Int → Int) (jf jt p : Nat → Int) (done : Nat) (fin st col dep : Int) : Nat → ro_T → ro_T
  | 0, s => s
  | k + 1, s => if 0 ≤ ha_mo sf jf jt p fin col dep k then rec (ha_mv p (jf k) (jt k)) (a_set fin (k : Int)) (st + ha_mo sf jf jt p fin col dep k) (jt k) (dd p (jt k)) ((fun i => if i = done then (k : Int) else (ha_lp rec sf dd jf jt p done fin st col dep k s).1 i), (ha_lp rec sf dd jf jt p done fin st col dep k s).2) else ha_lp rec sf dd jf jt p done fin st col dep k s
def ha_go (n : Nat) (sf : (Nat → Int) → Int → Int → Int → Int → Int) (dd : (Nat → Int) → Int → Int) (jf jt : Nat → Int) : Nat → Nat → (Nat → Int) → Int → Int → Int → Int → ro_T → ro_T
  | 0, _, _, _, _, _, _, s => s
  | f + 1, done, p, fin, st, col, dep, s => if 0 ≤ s.2.1 ∧ s.2.1 ≤ st then s else if n ≤ done then ha_cp s st else ha_lp (ha_go n sf dd jf jt f (done + 1)) sf dd jf jt p done fin st col dep n s
def ha_S (J : Nat → Nat → Int) (X : Nat) : ro_T := (J (X + 162), J (X + 160) 6, J (X + 163))
def ha_E (X b i : Nat) : Prop := b = X + 161 ∨ b = X + 162 ∨ b = X + 163 ∨ (b = X + 160 ∧ i = 6)
def ha_dd (J : Nat → Nat → Int) (X : Nat) (p : Nat → Int) (t : Int) : Int := pl_fr J (X + 17) p t - 1
def ha_H (J : Nat → Nat → Int) (X n : Nat) (C : a_C) (sf : (Nat → Int) → Int → Int → Int → Int → Int) : Prop := J (X + 29) 10 = (n : Int) ∧ n ≤ 3 ∧ (∀ p col dep fr to r, ha_so J X C p col dep fr to r → r = sf p col dep fr to) ∧ ∀ p col dep fr to, sf p col dep fr to < 200000
section HG
variable {en : Nat → Nat} {d : Nat} {T T' T2 T0 : Nat → Option (Nat × Nat)} {J J' J0 J1 J2 J3 J5 J6 K H : Nat → Nat → Int} {P P' P2 P0 : Nat → Nat → Option Nat} {L L' L2 L0 : Nat → Nat → Int64} {z w z' w' z0 w0 A B R U S X N zb wb o o' A0 R' U' n' : Nat} {Q : m_Q} {σ τ γ π ρ : a_S} {C C2 : a_C} {bw most by_ gl : Int} {E : Nat → Nat → Prop} {n : Nat} {p : Nat → Int} {h fr to : Int} {sf : (Nat → Int) → Int → Int → Int → Int → Int}
theorem ha_H_e (h : ha_H J X n C sf) (e : ∀ b i, b < X + 132 → J' b i = J b i) : ha_H J' X n C sf := ⟨by rw [e _ _ (by omega)]; exact h.1, h.2.1, fun p col dep fr to r q => h.2.2.1 p col dep fr to r ((ha_so_e e).mp q), h.2.2.2⟩
theorem ha_so_v {col dep r : Int} (h : ha_so J X C p col dep fr to r) (h0 : 0 ≤ r) : (0 ≤ fr ∧ fr < J (X + 17) 0) ∧ (0 ≤ to ∧ to < J (X + 17) 0) ∧ 1 ≤ p fr.toNat := by
  rcases h with ⟨-, q⟩ | ⟨q, -⟩
  · omega
  · exact q
theorem ha_lo (h : cl_qe X N (ha_E X) T J P L T' J' P' L') : ∀ b i, b < X + 132 → J' b i = J b i := fun b i q => h.2.1 b i (by omega) (by unfold ha_E; omega)
theorem ha_q_S (h : cl_q X N T J P L T' J' P' L') (hN : X + 165 ≤ N) : ha_S J' X = ha_S J X ∧ J' (X + 161) = J (X + 161) := by
  have e1 : J' (X + 162) = J (X + 162) := funext (fun i => h.2.1 _ i (by omega))
  have e2 : J' (X + 163) = J (X + 163) := funext (fun i => h.2.1 _ i (by omega))
  unfold ha_S
  rw [e1, e2, h.2.1 (X + 160) _ (by omega)]
  exact ⟨rfl, funext (fun i => h.2.1 _ i (by omega))⟩
/-- a box moves -/
theorem ha_m1 (e : J5 = m_up (m_up J (X + 161) fr.toNat (J (X + 161) fr.toNat - 1)) (X + 161) to.toNat (m_up J (X + 161) fr.toNat (J (X + 161) fr.toNat - 1) (X + 161) to.toNat + 1)) : J5 (X + 161) = ha_mv (J (X + 161)) fr to ∧ ∀ b i, b ≠ X + 161 → J5 b i = J b i := by
  subst e
  refine ⟨funext (fun i => ?_), fun b i q => by rw [m_up_o q, m_up_o q]⟩
  unfold ha_mv
  rw [m_up_at]
  by_cases q : i = to.toNat
  · rw [if_pos ⟨rfl, q⟩, if_pos q, m_up_at]
    by_cases q2 : i = fr.toNat
    · rw [if_pos ⟨rfl, by omega⟩, if_pos q2, q2]
    · rw [if_neg (fun e => q2 (by omega)), if_neg q2, q]
  · rw [if_neg (fun e => q e.2), if_neg q, m_up_at]
    by_cases q2 : i = fr.toNat
    · rw [if_pos ⟨rfl, q2⟩, if_pos q2, q2]
    · rw [if_neg (fun e => q2 e.2), if_neg q2]
/-- and back -/
theorem ha_m2 (h6 : J6 (X + 161) = ha_mv p fr to) (e : J5 = m_up (m_up J6 (X + 161) fr.toNat (J6 (X + 161) fr.toNat + 1)) (X + 161) to.toNat (m_up J6 (X + 161) fr.toNat (J6 (X + 161) fr.toNat + 1) (X + 161) to.toNat - 1)) : J5 (X + 161) = p ∧ ∀ b i, b ≠ X + 161 → J5 b i = J6 b i := by
  subst e
  refine ⟨funext (fun i => ?_), fun b i q => by rw [m_up_o q, m_up_o q]⟩
  have hi := fun j => congrFun h6 j
  unfold ha_mv at hi
  rw [m_up_at]
  by_cases q : i = to.toNat
  · rw [if_pos ⟨rfl, q⟩, m_up_at]
    by_cases q2 : i = fr.toNat
    · rw [if_pos ⟨rfl, by omega⟩]
      have := hi i
      rw [if_pos q, if_pos q2] at this
      rw [← q2]
      omega
    · rw [if_neg (fun e => q2 (by omega))]
      have := hi i
      rw [if_pos q, if_neg q2] at this
      rw [← q]
      omega
  · rw [if_neg (fun e => q e.2), m_up_at]
    by_cases q2 : i = fr.toNat
    · rw [if_pos ⟨rfl, q2⟩]
      have := hi i
      rw [if_neg q, if_pos q2] at this
      rw [← q2]
      omega
    · rw [if_neg (fun e => q2 e.2)]
      have := hi i
      rw [if_neg q, if_neg q2] at this
      exact this
theorem w_set8_d : ∀ b : Fin 8, ∀ f : Fin 3, 0 ≤ a_set (b.val : Int) (f.val : Int) ∧ a_set (b.val : Int) (f.val : Int) < 8 := by decide +kernel
theorem w_set8 {b : Int} (hb : 0 ≤ b ∧ b < 8) {f : Nat} (hf : f < 3) : 0 ≤ a_set b (f : Int) ∧ a_set b (f : Int) < 8 := by
  obtain ⟨c, rfl⟩ : ∃ c : Nat, b = c := ⟨b.toNat, by omega⟩
  exact w_set8_d ⟨c, by omega⟩ ⟨f, hf⟩
theorem ha_mv_b {m : Int} (hp : ∀ i : Nat, i < 16 → 0 ≤ p i ∧ p i ≤ m) (hf : 1 ≤ p fr.toNat) : ∀ i : Nat, i < 16 → 0 ≤ ha_mv p fr to i ∧ ha_mv p fr to i ≤ m + 1 := fun i hi => by
  have := hp i hi
  unfold ha_mv
  by_cases q2 : i = fr.toNat
  · have h3 : 1 ≤ p i := by rw [q2]; exact hf
    rw [if_pos q2]
    split <;> omega
  · rw [if_neg q2]
    split <;> omega
theorem l_Ha_goOn (hN : X + 165 ≤ N) {done : Nat} {fin st col dep : Int} (hdn : done < n) (hv : 0 ≤ fin ∧ fin < 8) (hst : 0 ≤ st ∧ st ≤ 200000 * (done : Int)) (hcol : -1 ≤ col ∧ col ≤ 100) (hdep : -1 ≤ dep ∧ dep ≤ 100) {rec : (Nat → Int) → Int → Int → Int → Int → ro_T → ro_T}
    (hH0 : ha_H J0 X n C sf) (hpok0 : pl_ok J0 (X + 17)) (hpb : ∀ i : Nat, i < 16 → 0 ≤ p i ∧ p i ≤ 100 + (done : Int)) (hpJ : J (X + 161) = p)
    (hcall : ∀ (p' : Nat → Int) (fin' st' col' dep' : Int) (T : Nat → Option (Nat × Nat)) (J : Nat → Nat → Int) (P : Nat → Nat → Option Nat) (L : Nat → Nat → Int64) (z w : Nat) (Q : m_Q), (0 ≤ fin' ∧ fin' < 8) → (0 ≤ st' ∧ st' ≤ 200000 * ((done : Int) + 1)) → (-1 ≤ col' ∧ col' ≤ 100) → (-1 ≤ dep' ∧ dep' ≤ 100) → cl_W en X N zb wb C T J P z w → (∀ b i, b < X + 132 → J b i = J0 b i) → (∀ i : Nat, i < 16 → 0 ≤ p' i ∧ p' i ≤ 100 + ((done : Int) + 1)) → J (X + 161) = p' → (-2 ≤ J (X + 160) 6 ∧ J (X + 160) 6 ≤ 700000) →
      (∀ T' J' P' L' z' w', cl_W en X N zb wb C T' J' P' z' w' → cl_qe X N (ha_E X) T J P L T' J' P' L' → ha_S J' X = rec p' fin' st' col' dep' (ha_S J X) → J' (X + 161) = p' → Q none (T', m_I J', P', L', z', w')) → m_call en (d + 6) mHa_goOn [.ref (X + 160), .int (m_i ((done : Int) + 1)), .int (m_i fin'), .int (m_i st'), .int (m_i col'), .int (m_i dep')] (T, m_I J, P, L, z, w) Q)
    (hrb : ∀ k, k ≤ n → -2 ≤ (ha_lp rec sf (ha_dd J0 X) (J0 (X + 27)) (J0 (X + 28)) p done fin st col dep k (ha_S J X)).2.1 ∧ (ha_lp rec sf (ha_dd J0 X) (J0 (X + 27)) (J0 (X + 28)) p done fin st col dep k (ha_S J X)).2.1 ≤ 700000)
    (hJ0 : ∀ b i, b < X + 132 → J b i = J0 b i)
    (hq : ∀ T' J' P' L' z' w', cl_W en X N zb wb C T' J' P' z' w' → cl_qe X N (ha_E X) T J P L T' J' P' L' → ha_S J' X = ha_lp rec sf (ha_dd J0 X) (J0 (X + 27)) (J0 (X + 28)) p done fin st col dep n (ha_S J X) → J' (X + 161) = p → Q none (T', m_I J', P', L', z', w')) :
    ∀ (r k : Nat) (T1 : Nat → Option (Nat × Nat)) (J1 : Nat → Nat → Int) (P1 : Nat → Nat → Option Nat) (L1 : Nat → Nat → Int64) (z1 w1 : Nat) (o7 o8 o9 o10 : Option Value), k + r = n → cl_W en X N zb wb C T1 J1 P1 z1 w1 → cl_qe X N (ha_E X) T J P L T1 J1 P1 L1 → ha_S J1 X = ha_lp rec sf (ha_dd J0 X) (J0 (X + 27)) (J0 (X + 28)) p done fin st col dep k (ha_S J X) → J1 (X + 161) = p →
      m_wp en (d + 6) mHa_goOn 59 [some (.ref (X + 160)), some (.int (m_i (done : Int))), some (.int (m_i fin)), some (.int (m_i st)), some (.int (m_i col)), some (.int (m_i dep)), some (.int (m_i (k : Int))), o7, o8, o9, o10] [] (T1, m_I J1, P1, L1, z1, w1) Q := by
  intro r
  induction r with
  | zero =>
    intro k T J1 P L z w o7 o8 o9 o10 hk hW hqe hS hp1
    obtain rfl : k = n := by omega
    have hX := hW.1.1
    have e29 : J1 (X + 29) 10 = (k : Int) := (ha_lo hqe _ _ (by omega)).trans ((hJ0 _ _ (by omega)).trans hH0.1)
    have n6 := hH0.2.1
    refine r_il eHa_goOn_59 rfl ?_
    refine r_aln eHa_goOn_61 rfl ?_
    refine m_getR eHa_goOn_62 rfl (cl_t hX (i := 154) rfl) (cl_p hX (i := 129) rfl) ?_
    refine m_getR eHa_goOn_65 rfl (cl_t hX (i := 17) rfl) (cl_p hX (i := 37) rfl) ?_
    refine r_bip eHa_goOn_68 (by decide) ?_
    refine r_ialde (x := J1 (X + 29) 10) eHa_goOn_70 (cl_t hX (i := 29) rfl) (by decide) (by omega) (by omega) rfl ?_
    refine r_cge (tgt := 252) eHa_goOn_71 rfl ⟨(by omega), (by omega)⟩ ⟨(by omega), (by omega)⟩ (fun c71 => ?_) (fun c71 => ?_)
    · refine r_ret eHa_goOn_252 rfl ?_
      exact hq T J1 P L z w hW hqe hS hp1
    · exfalso; omega
  | succ r ih =>
    intro k T J1 P L z w o7 o8 o9 o10 hk hW hqe hS hp1
    have hX := hW.1.1
    have hlo := ha_lo hqe
    have hlo0 : ∀ b i, b < X + 132 → J1 b i = J0 b i := fun b i q => (hlo b i q).trans (hJ0 b i q)
    have hH : ha_H J1 X n C sf := ha_H_e hH0 hlo0
    have e29 : J1 (X + 29) 10 = (n : Int) := hH.1
    have n6 := hH.2.1
    have hkn : k < n := by omega
    have k0 : 4 ≤ J1 (X + 17) 0 ∧ J1 (X + 17) 0 ≤ 16 := hW.2.1.1.1
    obtain ⟨fr, efr0⟩ : ∃ fr, fr = J0 (X + 27) k := ⟨_, rfl⟩
    obtain ⟨to, eto0⟩ : ∃ to, to = J0 (X + 28) k := ⟨_, rfl⟩
    have efr : J1 (X + 27) ((k : Int)).toNat = fr := by rw [Int.toNat_natCast, efr0]; exact hlo0 _ _ (by omega)
    have eto : J1 (X + 28) ((k : Int)).toNat = to := by rw [Int.toNat_natCast, eto0]; exact hlo0 _ _ (by omega)
    have hjb : (0 ≤ fr ∧ fr < 16) ∧ 0 ≤ to ∧ to < 16 := by rw [efr0, eto0]; exact hpok0.2.2.2.2.2.2.2.2.2.2.2.2 k (by omega)
    have hbs := a_bs (b := fin) (by omega) (t := (k : Int)) ⟨by omega, by omega⟩
    obtain ⟨bi, ebi⟩ : ∃ bi, bi = a_bit fin (k : Int) := ⟨_, rfl⟩
    have hb01 : 0 ≤ bi ∧ bi ≤ 1 := by omega
    have ebi2 : m_and (m_shr fin (k : Int)) 1 = bi := ebi.symm
    obtain ⟨sv, esv⟩ : ∃ sv, sv = a_set fin (k : Int) := ⟨_, rfl⟩
    have esv2 : m_or fin (m_shl 1 (k : Int)) = sv := esv.symm
    have hsv : 0 ≤ sv ∧ sv < 8 := by rw [esv]; exact w_set8 hv (by omega)
    obtain ⟨mo, emo0⟩ : ∃ mo, mo = ha_mo sf (J0 (X + 27)) (J0 (X + 28)) p fin col dep k := ⟨_, rfl⟩
    have emo : mo = if bi ≠ 0 then -2 else sf p col dep fr to := by rw [emo0]; unfold ha_mo; rw [← ebi, ← efr0, ← eto0]
    have hdd : -1 ≤ ha_dd J0 X p to ∧ ha_dd J0 X p to ≤ 5 := by
      have := pl_fr_b (x := to) hpok0 (fun i hi => (hpb i hi).1)
      unfold ha_dd
      omega
    clear hbs
    have hlp : ha_lp rec sf (ha_dd J0 X) (J0 (X + 27)) (J0 (X + 28)) p done fin st col dep (k + 1) (ha_S J X) = if 0 ≤ mo then rec (ha_mv p fr to) sv (st + mo) to (ha_dd J0 X p to) ((fun i => if i = done then (k : Int) else J1 (X + 162) i), (ha_S J1 X).2) else ha_S J1 X := by
      have eo : (ha_lp rec sf (ha_dd J0 X) (J0 (X + 27)) (J0 (X + 28)) p done fin st col dep k (ha_S J X)).1 = J1 (X + 162) := by rw [← hS]; rfl
      rw [hS]
      show (if 0 ≤ ha_mo sf (J0 (X + 27)) (J0 (X + 28)) p fin col dep k then _ else _) = _
      rw [← emo0, eo, ← efr0, ← eto0, ← esv]
    have hnext : ∀ T2 J2 P2 L2 z2 w2 o7 o8 o9 o10, cl_W en X N zb wb C T2 J2 P2 z2 w2 → cl_qe X N (ha_E X) T J1 P L T2 J2 P2 L2 → ha_S J2 X = ha_lp rec sf (ha_dd J0 X) (J0 (X + 27)) (J0 (X + 28)) p done fin st col dep (k + 1) (ha_S J X) → J2 (X + 161) = p → m_wp en (d + 6) mHa_goOn 59 [some (.ref (X + 160)), some (.int (m_i (done : Int))), some (.int (m_i fin)), some (.int (m_i st)), some (.int (m_i col)), some (.int (m_i dep)), some (.int (m_i ((k : Int) + 1))), o7, o8, o9, o10] [] (T2, m_I J2, P2, L2, z2, w2) Q := fun T2 J2 P2 L2 z2 w2 o7 o8 o9 o10 a1 a2 a3 a4 => by
      have := ih (k + 1) T2 J2 P2 L2 z2 w2 o7 o8 o9 o10 (by omega) a1 (cl_qe_t hqe a2) a3 a4
      rw [show ((k + 1 : Nat) : Int) = (k : Int) + 1 by omega] at this
      exact this
    have hskip : ∀ o7 o8 o9 o10, bi ≠ 0 → m_wp en (d + 6) mHa_goOn 59 [some (.ref (X + 160)), some (.int (m_i (done : Int))), some (.int (m_i fin)), some (.int (m_i st)), some (.int (m_i col)), some (.int (m_i dep)), some (.int (m_i ((k : Int) + 1))), o7, o8, o9, o10] [] (T, m_I J1, P, L, z, w) Q := fun o7 o8 o9 o10 q => hnext T J1 P L z w o7 o8 o9 o10 hW cl_qe_r (by rw [hlp, emo, if_pos q]; rfl) hp1
    have hneg : ∀ T2 J2 P2 L2 z2 w2 o7 o8 o9 o10, mo < 0 → cl_W en X N zb wb C T2 J2 P2 z2 w2 → cl_q X N T J1 P L T2 J2 P2 L2 → m_wp en (d + 6) mHa_goOn 59 [some (.ref (X + 160)), some (.int (m_i (done : Int))), some (.int (m_i fin)), some (.int (m_i st)), some (.int (m_i col)), some (.int (m_i dep)), some (.int (m_i ((k : Int) + 1))), o7, o8, o9, o10] [] (T2, m_I J2, P2, L2, z2, w2) Q := fun T2 J2 P2 L2 z2 w2 o7 o8 o9 o10 q2 a1 a2 =>
      hnext T2 J2 P2 L2 z2 w2 o7 o8 o9 o10 a1 (cl_qe_q a2) (by rw [hlp, if_neg (by omega)]; exact (ha_q_S a2 hN).1) ((ha_q_S a2 hN).2.trans hp1)
    have hrec : ∀ T2 J2 P2 L2 z2 w2 J5 x (Q2 : m_Q), cl_W en X N zb wb C T2 J2 P2 z2 w2 → cl_q X N T J1 P L T2 J2 P2 L2 → J2 (X + 161) = p → 0 ≤ x → x < 200000 → x = mo → ((0 ≤ fr ∧ fr < J1 (X + 17) 0) ∧ (0 ≤ to ∧ to < J1 (X + 17) 0) ∧ 1 ≤ p fr.toNat) → J5 = m_up (m_up (m_up J2 (X + 162) ((done : Int)).toNat (k : Int)) (X + 161) fr.toNat (J2 (X + 161) fr.toNat - 1)) (X + 161) to.toNat (m_up (m_up J2 (X + 162) ((done : Int)).toNat (k : Int)) (X + 161) fr.toNat (J2 (X + 161) fr.toNat - 1) (X + 161) to.toNat + 1) → (∀ T3 J3 P3 L3 z3 w3, cl_W en X N zb wb C T3 J3 P3 z3 w3 → cl_qe X N (ha_E X) T J1 P L T3 J3 P3 L3 → ha_S J3 X = ha_lp rec sf (ha_dd J0 X) (J0 (X + 27)) (J0 (X + 28)) p done fin st col dep (k + 1) (ha_S J X) → J3 (X + 161) = ha_mv p fr to → Q2 none (T3, m_I J3, P3, L3, z3, w3)) → m_call en (d + 6) mHa_goOn [.ref (X + 160), .int (m_i ((done : Int) + 1)), .int (m_i sv), .int (m_i (st + x)), .int (m_i to), .int (m_i (ha_dd J0 X p to))] (T2, m_I J5, P2, L2, z2, w2) Q2 := fun T2 J2 P2 L2 z2 w2 J5 x Q2 a1 a2 a3 a4 a5 a6 a7 a8 a9 => by
      rw [Int.toNat_natCast] at a8
      have e2 : m_up J2 (X + 162) done (k : Int) (X + 161) fr.toNat = J2 (X + 161) fr.toNat := m_up_o (by omega)
      rw [← e2] at a8
      obtain ⟨c1, c2⟩ := ha_m1 a8
      have e3 : m_up J2 (X + 162) done (k : Int) (X + 161) = p := by rw [← a3]; funext i; exact m_up_o (by omega)
      rw [e3] at c1
      have c3 : ∀ b i, b ≠ X + 161 → b ≠ X + 162 → J5 b i = J2 b i := fun b i q1 q2 => by rw [c2 b i q1, m_up_o q2]
      have eS : ha_S J5 X = ((fun i => if i = done then (k : Int) else J1 (X + 162) i), (ha_S J1 X).2) := by
        have hs := (ha_q_S a2 hN).1
        unfold ha_S at hs ⊢
        refine Prod.ext ?_ ?_
        · funext i
          simp only
          rw [c2 _ _ (by omega), m_up_at]
          by_cases q : i = done
          · rw [if_pos ⟨rfl, q⟩, if_pos q]
          · rw [if_neg (fun e => q e.2), if_neg q]; exact a2.2.1 _ i (by omega)
        · have e1 : J5 (X + 163) = J2 (X + 163) := funext (fun i => c3 _ i (by omega) (by omega))
          simp only
          rw [e1, c3 (X + 160) 6 (by omega) (by omega)]
          exact congrArg Prod.snd hs
      refine hcall (ha_mv p fr to) sv (st + x) to (ha_dd J0 X p to) T2 J5 P2 L2 z2 w2 Q2 hsv (by omega) (by omega) (by omega) (cl_W_z a1 (fun b i q => c3 b i (by omega) (by omega))) (fun b i q => ?_) (fun i hi => by have := ha_mv_b (to := to) hpb a7.2.2 i hi; omega) c1 ?_ (fun T3 J3 P3 L3 z3 w3 b1 b2 b3 b4 => a9 T3 J3 P3 L3 z3 w3 b1 (cl_qe_t (cl_qe_t (cl_qe_q a2) (cl_qe_J (fun b i q q2 => c3 b i (fun e => q2 (Or.inl e)) (fun e => q2 (Or.inr (Or.inl e)))))) b2) ?_ b4)
      · rw [c3 b i (by omega) (by omega), a2.2.1 b i (by omega)]; exact hlo0 b i q
      · have h9 := hrb k (by omega)
        rw [← hS] at h9
        have h8 : J2 (X + 160) 6 = (ha_S J1 X).2.1 := a2.2.1 _ _ (by omega)
        rw [c3 _ _ (by omega) (by omega), h8]
        exact h9
      · rw [b3, eS, hlp, if_pos (by omega), a6]
    have hback : ∀ T2 J6 P2 L2 z2 w2 J7 o7 o8 o9 o10, cl_W en X N zb wb C T2 J6 P2 z2 w2 → cl_qe X N (ha_E X) T J1 P L T2 J6 P2 L2 → ha_S J6 X = ha_lp rec sf (ha_dd J0 X) (J0 (X + 27)) (J0 (X + 28)) p done fin st col dep (k + 1) (ha_S J X) → J6 (X + 161) = ha_mv p fr to → J7 = m_up (m_up J6 (X + 161) fr.toNat (J6 (X + 161) fr.toNat + 1)) (X + 161) to.toNat (m_up J6 (X + 161) fr.toNat (J6 (X + 161) fr.toNat + 1) (X + 161) to.toNat - 1) → m_wp en (d + 6) mHa_goOn 59 [some (.ref (X + 160)), some (.int (m_i (done : Int))), some (.int (m_i fin)), some (.int (m_i st)), some (.int (m_i col)), some (.int (m_i dep)), some (.int (m_i ((k : Int) + 1))), o7, o8, o9, o10] [] (T2, m_I J7, P2, L2, z2, w2) Q := fun T2 J6 P2 L2 z2 w2 J7 o7 o8 o9 o10 a1 a2 a3 a4 a5 => by
      obtain ⟨c1, c2⟩ := ha_m2 a4 a5
      refine hnext T2 J7 P2 L2 z2 w2 o7 o8 o9 o10 (cl_W_z a1 (fun b i q => c2 b i (by omega))) (cl_qe_t a2 (cl_qe_J (fun b i q q2 => c2 b i (fun e => q2 (Or.inl e))))) ?_ c1
      rw [← a3]
      unfold ha_S
      have e1 : J7 (X + 162) = J6 (X + 162) := funext (fun i => c2 _ i (by omega))
      have e2 : J7 (X + 163) = J6 (X + 163) := funext (fun i => c2 _ i (by omega))
      rw [e1, e2, c2 (X + 160) 6 (by omega)]
    clear hnext hlp hrb hcall ih
    refine r_il eHa_goOn_59 rfl ?_
    refine r_aln eHa_goOn_61 rfl ?_
    refine m_getR eHa_goOn_62 rfl (cl_t hX (i := 154) rfl) (cl_p hX (i := 129) rfl) ?_
    refine m_getR eHa_goOn_65 rfl (cl_t hX (i := 17) rfl) (cl_p hX (i := 37) rfl) ?_
    refine r_bip eHa_goOn_68 (by decide) ?_
    refine r_ialde (x := J1 (X + 29) 10) eHa_goOn_70 (cl_t hX (i := 29) rfl) (by decide) (by omega) (by omega) rfl ?_
    refine r_cge (tgt := 252) eHa_goOn_71 rfl ⟨(by omega), (by omega)⟩ ⟨(by omega), (by omega)⟩ (fun c71 => ?_) (fun c71 => ?_)
    · exfalso; omega
    · refine r_il eHa_goOn_74 rfl ?_
      refine r_con eHa_goOn_76 ?_
      refine r_cge (tgt := 252) eHa_goOn_77 rfl ⟨(by omega), (by omega)⟩ ⟨(by omega), (by omega)⟩ (fun c77 => ?_) (fun c77 => ?_)
      · exfalso; omega
      · refine r_aln eHa_goOn_80 rfl ?_
        refine m_getR eHa_goOn_81 rfl (cl_t hX (i := 154) rfl) (cl_p hX (i := 129) rfl) ?_
        refine m_getR eHa_goOn_84 rfl (cl_t hX (i := 17) rfl) (cl_p hX (i := 35) rfl) ?_
        refine r_il eHa_goOn_87 rfl ?_
        refine r_ialde (x := J1 (X + 27) (((k : Int)).toNat)) eHa_goOn_89 (cl_t hX (i := 27) rfl) (by decide) (by omega) (by omega) rfl ?_
        rw [efr]
        refine r_is (ls' := [some (.ref (X + 160)), some (.int (m_i ((done : Int)))), some (.int (m_i (fin))), some (.int (m_i (st))), some (.int (m_i (col))), some (.int (m_i (dep))), some (.int (m_i ((k : Int)))), some (.int (m_i (fr))), o8, o9, o10]) eHa_goOn_90 (Nat.le_of_ble_eq_true rfl) rfl ?_
        refine r_aln eHa_goOn_92 rfl ?_
        refine m_getR eHa_goOn_93 rfl (cl_t hX (i := 154) rfl) (cl_p hX (i := 129) rfl) ?_
        refine m_getR eHa_goOn_96 rfl (cl_t hX (i := 17) rfl) (cl_p hX (i := 36) rfl) ?_
        refine r_il eHa_goOn_99 rfl ?_
        refine r_ialde (x := J1 (X + 28) (((k : Int)).toNat)) eHa_goOn_101 (cl_t hX (i := 28) rfl) (by decide) (by omega) (by omega) rfl ?_
        rw [eto]
        refine r_is (ls' := [some (.ref (X + 160)), some (.int (m_i ((done : Int)))), some (.int (m_i (fin))), some (.int (m_i (st))), some (.int (m_i (col))), some (.int (m_i (dep))), some (.int (m_i ((k : Int)))), some (.int (m_i (fr))), some (.int (m_i (to))), o9, o10]) eHa_goOn_102 (Nat.le_of_ble_eq_true rfl) rfl ?_
        refine r_iln eHa_goOn_104 rfl ?_
        refine r_il eHa_goOn_105 rfl ?_
        refine r_shr eHa_goOn_107 ?_
        refine r_con eHa_goOn_108 ?_
        refine r_and eHa_goOn_109 ?_
        rw [ebi2]
        refine r_zeq (tgt := 118) eHa_goOn_110 rfl ⟨(by omega), (by omega)⟩ (fun c110 => ?_) (fun c110 => ?_)
        · refine r_aln eHa_goOn_118 rfl ?_
          refine r_il eHa_goOn_119 rfl ?_
          refine r_il eHa_goOn_121 rfl ?_
          refine r_il eHa_goOn_123 rfl ?_
          refine r_il eHa_goOn_125 rfl ?_
          refine r_vir eHa_goOn_127 rfl rfl rfl (cl_t hX (i := 154) rfl) rfl rfl ?_
          refine c_Ha_stepsOf hW (by rw [hp1]; exact fun i hi => ⟨(hpb i hi).1, by have := (hpb i hi).2; omega⟩) hcol hdep (by omega) (by omega) (fun T J2 P L z w r k1 k2 k4 k6 => ?_)
          have hX := k1.1.1
          rw [hp1] at k4
          have k7 : 0 ≤ r → (0 ≤ fr ∧ fr < J1 (X + 17) 0) ∧ (0 ≤ to ∧ to < J1 (X + 17) 0) ∧ 1 ≤ p fr.toNat := fun q => ha_so_v k4 q
          have k8 : bi = 0 → r = mo := fun q => by rw [emo, if_neg (by omega)]; exact hH.2.2.1 _ _ _ _ _ _ k4
          have k9 : J2 (X + 17) 0 = J1 (X + 17) 0 := k2.2.1 _ _ (by omega)
          have kp : J2 (X + 161) = p := (ha_q_S k2 hN).2.trans hp1
          have kpok : pl_ok J2 (X + 17) := k1.2.1.1
          show m_wp en _ mHa_goOn 130 [some (.ref (X + 160)), some (.int (m_i ((done : Int)))), some (.int (m_i (fin))), some (.int (m_i (st))), some (.int (m_i (col))), some (.int (m_i (dep))), some (.int (m_i ((k : Int)))), some (.int (m_i (fr))), some (.int (m_i (to))), o9, o10] [(.int (m_i (r)))] (T, m_I J2, P, L, z, w) Q
          refine r_is (ls' := [some (.ref (X + 160)), some (.int (m_i ((done : Int)))), some (.int (m_i (fin))), some (.int (m_i (st))), some (.int (m_i (col))), some (.int (m_i (dep))), some (.int (m_i ((k : Int)))), some (.int (m_i (fr))), some (.int (m_i (to))), some (.int (m_i (r))), o10]) eHa_goOn_130 (Nat.le_of_ble_eq_true rfl) rfl ?_
          refine r_il eHa_goOn_132 rfl ?_
          refine r_zlt (tgt := 246) eHa_goOn_134 rfl ⟨(by omega), (by omega)⟩ (fun c134 => ?_) (fun c134 => ?_)
          · refine r_inc (ls' := [some (.ref (X + 160)), some (.int (m_i ((done : Int)))), some (.int (m_i (fin))), some (.int (m_i (st))), some (.int (m_i (col))), some (.int (m_i (dep))), some (.int (m_i ((k : Int) + 1))), some (.int (m_i (fr))), some (.int (m_i (to))), some (.int (m_i (r))), o10]) eHa_goOn_246 rfl rfl ?_
            refine r_go (tgt := 59) eHa_goOn_249 rfl ?_
            first | exact hskip _ _ _ _ (by omega) | exact hneg T J2 P L z w _ _ _ _ (by have := k8 (by omega); omega) k1 k2 | exact hback T J6 P L z w _ _ _ _ _ g1 g2 g3 g4 rfl | (exfalso; omega)
          · refine r_aln eHa_goOn_137 rfl ?_
            refine m_getR eHa_goOn_138 rfl (cl_t hX (i := 154) rfl) (cl_p hX (i := 129) rfl) ?_
            refine r_il eHa_goOn_141 rfl ?_
            refine r_vir eHa_goOn_143 rfl rfl rfl (cl_t hX (i := 17) rfl) rfl rfl ?_
            refine c_Pl_hasColumn (cl_plan hX) kpok ⟨by omega, by omega⟩ ?_
            rw [a_b_t (decide_eq_true (show 0 ≤ fr ∧ fr < J2 (X + 17) 0 by have := k7 (by omega); omega))]
            show m_wp en _ mHa_goOn 146 [some (.ref (X + 160)), some (.int (m_i ((done : Int)))), some (.int (m_i (fin))), some (.int (m_i (st))), some (.int (m_i (col))), some (.int (m_i (dep))), some (.int (m_i ((k : Int)))), some (.int (m_i (fr))), some (.int (m_i (to))), some (.int (m_i (r))), o10] [(.int (m_i (1)))] (T, m_I J2, P, L, z, w) Q
            refine r_zeq (tgt := 246) eHa_goOn_146 rfl ⟨(by omega), (by omega)⟩ (fun c146 => ?_) (fun c146 => ?_)
            · exfalso; omega
            · refine r_aln eHa_goOn_149 rfl ?_
              refine m_getR eHa_goOn_150 rfl (cl_t hX (i := 154) rfl) (cl_p hX (i := 129) rfl) ?_
              refine r_il eHa_goOn_153 rfl ?_
              refine r_vir eHa_goOn_155 rfl rfl rfl (cl_t hX (i := 17) rfl) rfl rfl ?_
              refine c_Pl_hasColumn (cl_plan hX) kpok ⟨by omega, by omega⟩ ?_
              rw [a_b_t (decide_eq_true (show 0 ≤ to ∧ to < J2 (X + 17) 0 by have := k7 (by omega); omega))]
              show m_wp en _ mHa_goOn 158 [some (.ref (X + 160)), some (.int (m_i ((done : Int)))), some (.int (m_i (fin))), some (.int (m_i (st))), some (.int (m_i (col))), some (.int (m_i (dep))), some (.int (m_i ((k : Int)))), some (.int (m_i (fr))), some (.int (m_i (to))), some (.int (m_i (r))), o10] [(.int (m_i (1)))] (T, m_I J2, P, L, z, w) Q
              refine r_zeq (tgt := 246) eHa_goOn_158 rfl ⟨(by omega), (by omega)⟩ (fun c158 => ?_) (fun c158 => ?_)
              · exfalso; omega
              · refine r_iln eHa_goOn_161 rfl ?_
                refine r_zlt (tgt := 246) eHa_goOn_162 rfl ⟨(by omega), (by omega)⟩ (fun c162 => ?_) (fun c162 => ?_)
                · refine r_inc (ls' := [some (.ref (X + 160)), some (.int (m_i ((done : Int)))), some (.int (m_i (fin))), some (.int (m_i (st))), some (.int (m_i (col))), some (.int (m_i (dep))), some (.int (m_i ((k : Int) + 1))), some (.int (m_i (fr))), some (.int (m_i (to))), some (.int (m_i (r))), o10]) eHa_goOn_246 rfl rfl ?_
                  refine r_go (tgt := 59) eHa_goOn_249 rfl ?_
                  first | exact hskip _ _ _ _ (by omega) | exact hneg T J2 P L z w _ _ _ _ (by have := k8 (by omega); omega) k1 k2 | exact hback T J6 P L z w _ _ _ _ _ g1 g2 g3 g4 rfl | (exfalso; omega)
                · refine r_aln eHa_goOn_165 rfl ?_
                  refine r_il eHa_goOn_166 rfl ?_
                  refine r_vir eHa_goOn_168 rfl rfl rfl (cl_t hX (i := 154) rfl) rfl rfl ?_
                  refine c_Ha_dropDepth hX kpok (by rw [kp]; exact fun i hi => by have := hpb i hi; omega) ⟨by omega, by omega⟩ ?_
                  rw [kp, pl_fr_e (fun b i q => k2.2.1 b i (by omega)), show pl_fr J1 (X + 17) p to = pl_fr J0 (X + 17) p to from pl_fr_e hlo0]
                  show m_wp en _ mHa_goOn 171 [some (.ref (X + 160)), some (.int (m_i ((done : Int)))), some (.int (m_i (fin))), some (.int (m_i (st))), some (.int (m_i (col))), some (.int (m_i (dep))), some (.int (m_i ((k : Int)))), some (.int (m_i (fr))), some (.int (m_i (to))), some (.int (m_i (r))), o10] [(.int (m_i ((ha_dd J0 X p to))))] (T, m_I J2, P, L, z, w) Q
                  refine r_is (ls' := [some (.ref (X + 160)), some (.int (m_i ((done : Int)))), some (.int (m_i (fin))), some (.int (m_i (st))), some (.int (m_i (col))), some (.int (m_i (dep))), some (.int (m_i ((k : Int)))), some (.int (m_i (fr))), some (.int (m_i (to))), some (.int (m_i (r))), some (.int (m_i ((ha_dd J0 X p to))))]) eHa_goOn_171 (Nat.le_of_ble_eq_true rfl) rfl ?_
                  refine r_aln eHa_goOn_173 rfl ?_
                  refine m_getR eHa_goOn_174 rfl (cl_t hX (i := 154) rfl) (cl_p hX (i := 133) rfl) ?_
                  refine r_iln eHa_goOn_177 rfl ?_
                  refine r_il eHa_goOn_178 rfl ?_
                  refine r_iast eHa_goOn_180 (cl_t hX (i := 156) rfl) (by decide) (by omega) (by omega) (cl_e hX 162) ?_
                  refine r_aln eHa_goOn_181 rfl ?_
                  refine m_getR eHa_goOn_182 rfl (cl_t hX (i := 154) rfl) (cl_p hX (i := 132) rfl) ?_
                  refine r_il eHa_goOn_185 rfl ?_
                  refine r_dup2 eHa_goOn_187 ?_
                  refine r_ialde (x := J2 (X + 161) ((fr).toNat)) eHa_goOn_188 (cl_t hX (i := 155) rfl) (by decide) (by omega) (by omega) (by rw [m_up_at, if_neg (by omega)]) ?_
                  refine r_con eHa_goOn_189 ?_
                  refine r_sub eHa_goOn_190 ?_
                  refine r_iast eHa_goOn_191 (cl_t hX (i := 155) rfl) (by decide) (by omega) (by omega) (cl_e hX 161) ?_
                  refine r_aln eHa_goOn_192 rfl ?_
                  refine m_getR eHa_goOn_193 rfl (cl_t hX (i := 154) rfl) (cl_p hX (i := 132) rfl) ?_
                  refine r_il eHa_goOn_196 rfl ?_
                  refine r_dup2 eHa_goOn_198 ?_
                  refine r_ialde (x := (m_up (m_up J2 (X + 162) (((done : Int)).toNat) ((k : Int))) (X + 161) ((fr).toNat) ((J2 (X + 161) ((fr).toNat)) - (1))) (X + 161) ((to).toNat)) eHa_goOn_199 (cl_t hX (i := 155) rfl) (by decide) (by omega) (by omega) rfl ?_
                  refine r_con eHa_goOn_200 ?_
                  refine r_add eHa_goOn_201 ?_
                  refine r_iast eHa_goOn_202 (cl_t hX (i := 155) rfl) (by decide) (by omega) (by omega) (cl_e hX 161) ?_
                  obtain ⟨J5, eJ5⟩ : ∃ J5, J5 = ((m_up (m_up (m_up J2 (X + 162) (((done : Int)).toNat) ((k : Int))) (X + 161) ((fr).toNat) ((J2 (X + 161) ((fr).toNat)) - (1))) (X + 161) ((to).toNat) (((m_up (m_up J2 (X + 162) (((done : Int)).toNat) ((k : Int))) (X + 161) ((fr).toNat) ((J2 (X + 161) ((fr).toNat)) - (1))) (X + 161) ((to).toNat)) + (1)))) := ⟨_, rfl⟩; rw [← eJ5]
                  refine r_aln eHa_goOn_203 rfl ?_
                  refine r_iln eHa_goOn_204 rfl ?_
                  refine r_con eHa_goOn_205 ?_
                  refine r_add eHa_goOn_206 ?_
                  refine r_iln eHa_goOn_207 rfl ?_
                  refine r_con eHa_goOn_208 ?_
                  refine r_il eHa_goOn_209 rfl ?_
                  refine r_shl eHa_goOn_211 ?_
                  refine r_or eHa_goOn_212 ?_
                  refine r_iln eHa_goOn_213 rfl ?_
                  refine r_il eHa_goOn_214 rfl ?_
                  refine r_add eHa_goOn_216 ?_
                  refine r_il eHa_goOn_217 rfl ?_
                  refine r_il eHa_goOn_219 rfl ?_
                  refine r_vir eHa_goOn_221 rfl rfl rfl (cl_t hX (i := 154) rfl) rfl rfl ?_
                  rw [esv2]
                  refine hrec T J2 P L z w J5 r _ k1 k2 kp (by omega) k6.2 (k8 (by omega)) (k7 (by omega)) eJ5 (fun T J6 P L z w g1 g2 g3 g4 => ?_)
                  have hX := g1.1.1
                  show m_wp en _ mHa_goOn 224 [some (.ref (X + 160)), some (.int (m_i ((done : Int)))), some (.int (m_i (fin))), some (.int (m_i (st))), some (.int (m_i (col))), some (.int (m_i (dep))), some (.int (m_i ((k : Int)))), some (.int (m_i (fr))), some (.int (m_i (to))), some (.int (m_i (r))), some (.int (m_i ((ha_dd J0 X p to))))] [] (T, m_I J6, P, L, z, w) Q
                  refine r_aln eHa_goOn_224 rfl ?_
                  refine m_getR eHa_goOn_225 rfl (cl_t hX (i := 154) rfl) (cl_p hX (i := 132) rfl) ?_
                  refine r_il eHa_goOn_228 rfl ?_
                  refine r_dup2 eHa_goOn_230 ?_
                  refine r_ialde (x := J6 (X + 161) ((fr).toNat)) eHa_goOn_231 (cl_t hX (i := 155) rfl) (by decide) (by omega) (by omega) rfl ?_
                  refine r_con eHa_goOn_232 ?_
                  refine r_add eHa_goOn_233 ?_
                  refine r_iast eHa_goOn_234 (cl_t hX (i := 155) rfl) (by decide) (by omega) (by omega) (cl_e hX 161) ?_
                  refine r_aln eHa_goOn_235 rfl ?_
                  refine m_getR eHa_goOn_236 rfl (cl_t hX (i := 154) rfl) (cl_p hX (i := 132) rfl) ?_
                  refine r_il eHa_goOn_239 rfl ?_
                  refine r_dup2 eHa_goOn_241 ?_
                  refine r_ialde (x := (m_up J6 (X + 161) ((fr).toNat) ((J6 (X + 161) ((fr).toNat)) + (1))) (X + 161) ((to).toNat)) eHa_goOn_242 (cl_t hX (i := 155) rfl) (by decide) (by omega) (by omega) rfl ?_
                  refine r_con eHa_goOn_243 ?_
                  refine r_sub eHa_goOn_244 ?_
                  refine r_iast eHa_goOn_245 (cl_t hX (i := 155) rfl) (by decide) (by omega) (by omega) (cl_e hX 161) ?_
                  refine r_inc (ls' := [some (.ref (X + 160)), some (.int (m_i ((done : Int)))), some (.int (m_i (fin))), some (.int (m_i (st))), some (.int (m_i (col))), some (.int (m_i (dep))), some (.int (m_i ((k : Int) + 1))), some (.int (m_i (fr))), some (.int (m_i (to))), some (.int (m_i (r))), some (.int (m_i ((ha_dd J0 X p to))))]) eHa_goOn_246 rfl rfl ?_
                  refine r_go (tgt := 59) eHa_goOn_249 rfl ?_
                  first | exact hskip _ _ _ _ (by omega) | exact hneg T J2 P L z w _ _ _ _ (by have := k8 (by omega); omega) k1 k2 | exact hback T J6 P L z w _ _ _ _ _ g1 g2 g3 g4 rfl | (exfalso; omega)
        · refine r_bip eHa_goOn_113 (by decide) ?_
          refine r_go (tgt := 130) eHa_goOn_115 rfl ?_
          refine r_is (ls' := [some (.ref (X + 160)), some (.int (m_i ((done : Int)))), some (.int (m_i (fin))), some (.int (m_i (st))), some (.int (m_i (col))), some (.int (m_i (dep))), some (.int (m_i ((k : Int)))), some (.int (m_i (fr))), some (.int (m_i (to))), some (.int (m_i ((-2)))), o10]) eHa_goOn_130 (Nat.le_of_ble_eq_true rfl) rfl ?_
          refine r_il eHa_goOn_132 rfl ?_
          refine r_zlt (tgt := 246) eHa_goOn_134 rfl ⟨(by omega), (by omega)⟩ (fun c134 => ?_) (fun c134 => ?_)
          · refine r_inc (ls' := [some (.ref (X + 160)), some (.int (m_i ((done : Int)))), some (.int (m_i (fin))), some (.int (m_i (st))), some (.int (m_i (col))), some (.int (m_i (dep))), some (.int (m_i ((k : Int) + 1))), some (.int (m_i (fr))), some (.int (m_i (to))), some (.int (m_i ((-2)))), o10]) eHa_goOn_246 rfl rfl ?_
            refine r_go (tgt := 59) eHa_goOn_249 rfl ?_
            first | exact hskip _ _ _ _ (by omega) | exact hneg T J2 P L z w _ _ _ _ (by have := k8 (by omega); omega) k1 k2 | exact hback T J6 P L z w _ _ _ _ _ g1 g2 g3 g4 rfl | (exfalso; omega)
          · exfalso; omega
end HG
