/-! the class: a box carried -/
/-- steps to a box and with it, from a place (or from now, if the column is -1) -/
def ha_so (J : Nat → Nat → Int) (X : Nat) (C : a_C) (p : Nat → Int) (col dep fr to r : Int) : Prop :=
  (¬ ((0 ≤ fr ∧ fr < J (X + 17) 0) ∧ (0 ≤ to ∧ to < J (X + 17) 0) ∧ 1 ≤ p fr.toNat) ∧ r = -2) ∨
  (((0 ≤ fr ∧ fr < J (X + 17) 0) ∧ (0 ≤ to ∧ to < J (X + 17) 0) ∧ 1 ≤ p fr.toNat) ∧ ∃ r1, (if col = -1 then cl_fw C (po_get J (X + 31)) (fr, 0, 0, 0, pl_fr J (X + 17) p fr) r1 else cl_fx (pl_cf J (X + 17) p 0) 511 4 (col, 0, 0, 0, dep) (fr, 0, 0, 0, pl_fr J (X + 17) p fr) r1) ∧
    ((r1 < 0 ∧ r = -2) ∨ (0 ≤ r1 ∧ ∃ r2, cl_fx (pl_cf J (X + 17) (fun i => if i = fr.toNat then p i - 1 else p i) 1) 511 4 (fr, 0, 0, 0, pl_fr J (X + 17) p fr) (to, 0, 0, 0, pl_fr J (X + 17) p to - 1) r2 ∧ r = if r2 < 0 then -2 else r1 + r2)))
section HAU
variable {en : Nat → Nat} {d : Nat} {T T' T2 T0 : Nat → Option (Nat × Nat)} {J J' J0 J1 J2 J3 K H : Nat → Nat → Int} {P P' P2 P0 : Nat → Nat → Option Nat} {L L' L2 L0 : Nat → Nat → Int64} {z w z' w' z0 w0 A B R U S X N zb wb o o' A0 R' U' n' : Nat} {Q : m_Q} {σ τ γ π ρ : a_S} {C C2 : a_C} {bw most by_ gl : Int} {E : Nat → Nat → Prop} {n : Nat} {p : Nat → Int} {h : Int}
theorem pl_cf_e (e : ∀ b i, b < X + 132 → J' b i = J b i) : pl_cf J' (X + 17) p h = pl_cf J (X + 17) p h := by
  have f0 : J' (X + 17) = J (X + 17) := funext (fun i => e _ i (by omega))
  have f1 : J' (X + 17 + 1) = J (X + 17 + 1) := funext (fun i => e _ i (by omega))
  unfold pl_cf
  rw [f0]
  congr 5
  funext x
  unfold pl_fr
  rw [f0, f1]
theorem pl_fr_e (e : ∀ b i, b < X + 132 → J' b i = J b i) {x : Int} : pl_fr J' (X + 17) p x = pl_fr J (X + 17) p x := by
  have f0 : J' (X + 17) = J (X + 17) := funext (fun i => e _ i (by omega))
  have f1 : J' (X + 17 + 1) = J (X + 17 + 1) := funext (fun i => e _ i (by omega))
  unfold pl_fr
  rw [f0, f1]
theorem pl_fr_b (ok : pl_ok J (X + 17)) (hp : ∀ i : Nat, i < 16 → 0 ≤ p i) {x : Int} : 0 ≤ pl_fr J (X + 17) p x ∧ pl_fr J (X + 17) p x ≤ 6 := by
  have k0 := ok.1
  have k1 := ok.2.1
  unfold pl_fr
  split
  · next q =>
    have := hp x.toNat (by omega)
    omega
  · omega
theorem ha_so_e (e : ∀ b i, b < X + 132 → J' b i = J b i) {col dep fr to r : Int} : ha_so J' X C p col dep fr to r ↔ ha_so J X C p col dep fr to r := by
  unfold ha_so
  rw [e (X + 17) 0 (by omega), po_get_e (fun i => e (X + 31) i (by omega))]
  simp only [pl_cf_e e, pl_fr_e e]
theorem c_Ha_dropDepth (hX : cl_sh en X T P) (pok : pl_ok J (X + 17)) (hr : ∀ i : Nat, i < 16 → -1000 ≤ J (X + 161) i ∧ J (X + 161) i ≤ 1000) {x : Int} (hx : m_in x) (hq : Q (some (.int (m_i (pl_fr J (X + 17) (J (X + 161)) x - 1)))) (T, m_I J, P, L, z, w)) : m_call en (d + 3) mHa_dropDepth [.ref (X + 160), .int (m_i x)] (T, m_I J, P, L, z, w) Q := by
  refine m_into (by decide) (Nat.le_of_ble_eq_true rfl) rfl ?_
  show m_wp en _ mHa_dropDepth 0 [some (.ref (X + 160)), some (.int (m_i (x)))] [] (T, m_I J, P, L, z, w) Q
  refine r_aln eHa_dropDepth_0 rfl ?_
  refine m_getR eHa_dropDepth_1 rfl (cl_t hX (i := 154) rfl) (cl_p hX (i := 129) rfl) ?_
  refine r_aln eHa_dropDepth_4 rfl ?_
  refine m_getR eHa_dropDepth_5 rfl (cl_t hX (i := 154) rfl) (cl_p hX (i := 132) rfl) ?_
  refine r_iln eHa_dropDepth_8 rfl ?_
  refine r_vir eHa_dropDepth_9 rfl rfl rfl (cl_t hX (i := 17) rfl) rfl rfl ?_
  refine c_Pl_freeOf (cl_plan hX) pok (hX.2.1 (161, 20, 16) (by decide)) hr hx ?_
  show m_wp en _ mHa_dropDepth 12 [some (.ref (X + 160)), some (.int (m_i (x)))] [(.int (m_i ((pl_fr J (X + 17) (J (X + 161)) x))))] (T, m_I J, P, L, z, w) Q
  refine r_con eHa_dropDepth_12 ?_
  refine r_sub eHa_dropDepth_13 ?_
  refine r_iret eHa_dropDepth_14 rfl ?_
  exact hq
/-- the supposed space is laid -/
theorem cl_W_lay (h : cl_W en X N zb wb C T J P z w) {h1 : Int} : cl_W en X N zb wb C T (sp_L J (X + 136) (X + 17) R h1) P z w := cl_W_sp h (fun b i q => sp_L_o (by omega))
theorem cl_q_lay {h1 : Int} : cl_q X N T J P L T (sp_L J (X + 136) (X + 17) R h1) P L := cl_q_J (fun b i q => sp_L_o (by omega))
theorem l106_Ha_stepsOf (h : cl_W en X N zb wb C T J P z w) (hr0 : ∀ i : Nat, i < 16 → 0 ≤ J (X + 161) i ∧ J (X + 161) i ≤ 1000) {fr to gd r1 : Int} {o1 o2 : Option Value} (hfr : 0 ≤ fr ∧ fr < J (X + 17) 0) (hto : 0 ≤ to ∧ to < J (X + 17) 0) (hpf : 1 ≤ J (X + 161) fr.toNat) (hgd : 0 ≤ gd ∧ gd ≤ 6) (hr1 : -2 ≤ r1 ∧ r1 < 100000)
    (hq0 : r1 < 0 → Q (some (.int (m_i (-2)))) (T, m_I J, P, L, z, w))
    (hq : 0 ≤ r1 → ∀ T' J' P' L' z' w' r2, cl_W en X N zb wb C T' J' P' z' w' → cl_q X N T J P L T' J' P' L' → cl_fx (pl_cf J (X + 17) (fun i => if i = fr.toNat then J (X + 161) i - 1 else J (X + 161) i) 1) 511 4 (fr, 0, 0, 0, gd) (to, 0, 0, 0, pl_fr J (X + 17) (J (X + 161)) to - 1) r2 → (-2 ≤ r2 ∧ r2 < 100000) → Q (some (.int (m_i (if r2 < 0 then -2 else r1 + r2)))) (T', m_I J', P', L', z', w')) :
    m_wp en (d + 5) mHa_stepsOf 106 [some (.ref (X + 160)), o1, o2, some (.int (m_i fr)), some (.int (m_i to)), some (.int (m_i gd)), some (.int (m_i r1)), none] [] (T, m_I J, P, L, z, w) Q := by
  have h0 := h
  obtain ⟨hV, ⟨pok, h2, ok, h4, hC⟩, h6, h7, h8⟩ := h0
  have hX := hV.1
  have hN := hV.2.1
  have k0 := pok.1
  have hpx := hr0 fr.toNat (by omega)
  have hft := pl_fr_b (x := to) pok (fun i hi => (hr0 i hi).1)
  obtain ⟨J1, eJ1⟩ : ∃ J1, J1 = m_up J (X + 161) fr.toNat (J (X + 161) fr.toNat - 1) := ⟨_, rfl⟩
  have o1' : ∀ b i, b ≠ X + 161 → J1 b i = J b i := fun b i q => by rw [eJ1]; exact m_up_o q
  have ep : J1 (X + 161) = fun i => if i = fr.toNat then J (X + 161) i - 1 else J (X + 161) i := by
    funext i
    rw [eJ1, m_up_at]
    by_cases q : i = fr.toNat
    · rw [if_pos ⟨rfl, q⟩, if_pos q, q]
    · rw [if_neg (fun e => q e.2), if_neg q]
  have pok1 : pl_ok J1 (X + 17) := pl_ok_e pok (fun b i _ _ => o1' b i (by omega))
  have hr1' : ∀ i : Nat, i < 16 → 0 ≤ J1 (X + 161) i ∧ J1 (X + 161) i ≤ 1000 := fun i hi => by
    have := hr0 i hi
    rw [ep]
    simp only
    split
    · next q => subst q; omega
    · exact this
  have ec : pl_cf J1 (X + 17) (J1 (X + 161)) 1 = pl_cf J (X + 17) (J1 (X + 161)) 1 := by
    have f0 : J1 (X + 17) = J (X + 17) := funext (fun i => o1' _ i (by omega))
    have f1 : J1 (X + 17 + 1) = J (X + 17 + 1) := funext (fun i => o1' _ i (by omega))
    unfold pl_cf
    rw [f0]
    congr 5
    funext y
    unfold pl_fr
    rw [f0, f1]
  obtain ⟨C2, eC2⟩ : ∃ C2, C2 = pl_cf J (X + 17) (J1 (X + 161)) 1 := ⟨_, rfl⟩
  have ok2 : a_ok C2 := by rw [eC2, ← ec]; exact pl_cf_ok pok1 (fun i hi => (hr1' i hi).1) (Or.inr rfl)
  obtain ⟨J2, eJ2⟩ : ∃ J2, J2 = m_up (sp_L J1 (X + 136) (X + 17) (X + 161) 1) (X + 161) fr.toNat (J (X + 161) fr.toNat - 1 + 1) := ⟨_, rfl⟩
  have fr2 : ∀ b i, ¬ (X + 136 ≤ b ∧ b ≤ X + 138) → J2 b i = J b i := fun b i q => by
    rw [eJ2, m_up_at]
    by_cases q2 : b = X + 161 ∧ i = fr.toNat
    · rw [if_pos q2, q2.1, q2.2]; omega
    · rw [if_neg q2, sp_L_o (by omega), eJ1, m_up_at, if_neg q2]
  have hC2 : sp_is J2 (X + 136) C2 := by
    rw [eC2, ← ec]
    refine sp_is_e (sp_L_is (A := X + 136) (B := X + 17) (R := X + 161) (h := 1) pok1) (fun i => ?_) (fun i => ?_) (fun i => ?_)
    · rw [eJ2, m_up_o (by omega)]
    · rw [eJ2, m_up_o (by omega)]
    · rw [eJ2, m_up_o (by omega)]
  have hW2 : cl_W en X N zb wb C T J2 P z w := cl_W_sp h fr2
  have hqz : cl_q X N T J P L T J2 P L := cl_q_J (fun b i q => fr2 b i (by omega))
  have e161 : J2 (X + 161) = J (X + 161) := funext (fun i => fr2 _ i (by omega))
  have hr2 : ∀ i : Nat, i < 16 → -1000 ≤ J2 (X + 161) i ∧ J2 (X + 161) i ≤ 1000 := fun i hi => by rw [e161]; have := hr0 i hi; omega
  have edd : pl_fr J2 (X + 17) (J2 (X + 161)) to = pl_fr J (X + 17) (J (X + 161)) to := by rw [e161]; exact pl_fr_e (fun b i q => fr2 b i (by omega))
  have eL1 : sp_L J1 (X + 136) (X + 17) (X + 161) 1 (X + 161) fr.toNat = J (X + 161) fr.toNat - 1 := by rw [sp_L_o (by omega), eJ1, m_up_same]
  rw [← ep, ← eC2] at hq
  have hr1 := hr1
  clear h4 h6 h7 h8 hC
  refine r_il eHa_stepsOf_106 rfl ?_
  refine r_zge (tgt := 114) eHa_stepsOf_108 rfl ⟨(by omega), (by omega)⟩ (fun c108 => ?_) (fun c108 => ?_)
  · refine r_aln eHa_stepsOf_114 rfl ?_
    refine m_getR eHa_stepsOf_115 rfl (cl_t hX (i := 154) rfl) (cl_p hX (i := 132) rfl) ?_
    refine r_iln eHa_stepsOf_118 rfl ?_
    refine r_dup2 eHa_stepsOf_119 ?_
    refine r_ialde (x := J (X + 161) ((fr).toNat)) eHa_stepsOf_120 (cl_t hX (i := 155) rfl) (by decide) (by omega) (by omega) rfl ?_
    refine r_con eHa_stepsOf_121 ?_
    refine r_sub eHa_stepsOf_122 ?_
    refine r_iast eHa_stepsOf_123 (cl_t hX (i := 155) rfl) (by decide) (by omega) (by omega) (cl_e hX 161) ?_
    rw [← eJ1]
    refine r_aln eHa_stepsOf_124 rfl ?_
    refine m_getR eHa_stepsOf_125 rfl (cl_t hX (i := 154) rfl) (cl_p hX (i := 131) rfl) ?_
    refine m_getR eHa_stepsOf_128 rfl (cl_t hX (i := 132) rfl) (cl_p hX (i := 108) rfl) ?_
    refine r_aln eHa_stepsOf_131 rfl ?_
    refine m_getR eHa_stepsOf_132 rfl (cl_t hX (i := 154) rfl) (cl_p hX (i := 129) rfl) ?_
    refine r_aln eHa_stepsOf_135 rfl ?_
    refine m_getR eHa_stepsOf_136 rfl (cl_t hX (i := 154) rfl) (cl_p hX (i := 132) rfl) ?_
    refine r_con eHa_stepsOf_139 ?_
    refine r_vir eHa_stepsOf_140 rfl rfl rfl (cl_t hX (i := 136) rfl) rfl rfl ?_
    refine c_Sp_lay (cl_sp hX (Or.inr rfl)) (cl_plan hX) (hX.2.1 (161, 20, 16) (by decide)) pok1 hr1' (by omega) (by omega) (Or.inr rfl) ?_
    show m_wp en _ mHa_stepsOf 143 [some (.ref (X + 160)), o1, o2, some (.int (m_i (fr))), some (.int (m_i (to))), some (.int (m_i (gd))), some (.int (m_i (r1))), none] [] (T, m_I (((sp_L J1 (X + 136) (X + 17) (X + 161) 1))), P, L, z, w) Q
    refine r_aln eHa_stepsOf_143 rfl ?_
    refine m_getR eHa_stepsOf_144 rfl (cl_t hX (i := 154) rfl) (cl_p hX (i := 132) rfl) ?_
    refine r_iln eHa_stepsOf_147 rfl ?_
    refine r_dup2 eHa_stepsOf_148 ?_
    refine r_ialde (x := ((sp_L J1 (X + 136) (X + 17) (X + 161) 1)) (X + 161) ((fr).toNat)) eHa_stepsOf_149 (cl_t hX (i := 155) rfl) (by decide) (by omega) (by omega) rfl ?_
    rw [eL1]
    refine r_con eHa_stepsOf_150 ?_
    refine r_add eHa_stepsOf_151 ?_
    refine r_iast eHa_stepsOf_152 (cl_t hX (i := 155) rfl) (by decide) (by omega) (by omega) (cl_e hX 161) ?_
    rw [← eJ2]
    refine r_aln eHa_stepsOf_153 rfl ?_
    refine m_getR eHa_stepsOf_154 rfl (cl_t hX (i := 154) rfl) (cl_p hX (i := 131) rfl) ?_
    refine r_iln eHa_stepsOf_157 rfl ?_
    refine r_il eHa_stepsOf_158 rfl ?_
    refine r_il eHa_stepsOf_160 rfl ?_
    refine r_aln eHa_stepsOf_162 rfl ?_
    refine r_il eHa_stepsOf_163 rfl ?_
    refine r_vir eHa_stepsOf_165 rfl rfl rfl (cl_t hX (i := 154) rfl) rfl rfl ?_
    refine c_Ha_dropDepth hX hW2.2.1.1 hr2 ⟨by omega, by omega⟩ ?_
    rw [edd]
    show m_wp en _ mHa_stepsOf 168 [some (.ref (X + 160)), o1, o2, some (.int (m_i (fr))), some (.int (m_i (to))), some (.int (m_i (gd))), some (.int (m_i (r1))), none] [(.int (m_i ((pl_fr J (X + 17) (J (X + 161)) to - 1)))), (.int (m_i (to))), (.int (m_i (gd))), (.int (m_i (fr))), (.ref (X + 132))] (T, m_I J2, P, L, z, w) Q
    refine r_vir eHa_stepsOf_168 rfl rfl rfl (cl_t hX (i := 132) rfl) rfl rfl ?_
    refine c_Wa_supposedSteps hW2 ok2 hC2 (by omega) (by omega) (by omega) (by omega) (fun T J3 P L z w r2 k1 k2 k3 k4 k5 => ?_)
    have hX := k1.1.1
    show m_wp en _ mHa_stepsOf 171 [some (.ref (X + 160)), o1, o2, some (.int (m_i (fr))), some (.int (m_i (to))), some (.int (m_i (gd))), some (.int (m_i (r1))), none] [(.int (m_i (r2)))] (T, m_I J3, P, L, z, w) Q
    refine r_is (ls' := [some (.ref (X + 160)), o1, o2, some (.int (m_i (fr))), some (.int (m_i (to))), some (.int (m_i (gd))), some (.int (m_i (r1))), some (.int (m_i (r2)))]) eHa_stepsOf_171 (Nat.le_of_ble_eq_true rfl) rfl ?_
    refine r_il eHa_stepsOf_173 rfl ?_
    refine r_zge (tgt := 183) eHa_stepsOf_175 rfl ⟨(by omega), (by omega)⟩ (fun c175 => ?_) (fun c175 => ?_)
    · refine r_il eHa_stepsOf_183 rfl ?_
      refine r_il eHa_stepsOf_185 rfl ?_
      refine r_add eHa_stepsOf_187 ?_
      refine r_iret eHa_stepsOf_188 rfl ?_
      have hz := hq (by omega) T J3 P L z w r2 k1 (cl_q_t hqz k2) k4 k5
      first | (rw [if_pos (by omega)] at hz; exact hz) | (rw [if_neg (by omega)] at hz; exact hz)
    · refine r_bip eHa_stepsOf_178 (by decide) ?_
      refine r_go (tgt := 188) eHa_stepsOf_180 rfl ?_
      refine r_iret eHa_stepsOf_188 rfl ?_
      have hz := hq (by omega) T J3 P L z w r2 k1 (cl_q_t hqz k2) k4 k5
      first | (rw [if_pos (by omega)] at hz; exact hz) | (rw [if_neg (by omega)] at hz; exact hz)
  · refine r_bip eHa_stepsOf_111 (by decide) ?_
    refine r_iret eHa_stepsOf_113 rfl ?_
    exact hq0 (by omega)
theorem c_Ha_stepsOf (h : cl_W en X N zb wb C T J P z w) (hr0 : ∀ i : Nat, i < 16 → 0 ≤ J (X + 161) i ∧ J (X + 161) i ≤ 1000) {col dep fr to : Int} (hco : -1 ≤ col ∧ col ≤ 100) (hde : -1 ≤ dep ∧ dep ≤ 100) (hfr : -100 ≤ fr ∧ fr ≤ 100) (hto : -100 ≤ to ∧ to ≤ 100)
    (hq : ∀ T' J' P' L' z' w' r, cl_W en X N zb wb C T' J' P' z' w' → cl_q X N T J P L T' J' P' L' → ha_so J X C (J (X + 161)) col dep fr to r → (-2 ≤ r ∧ r < 200000) → Q (some (.int (m_i r))) (T', m_I J', P', L', z', w')) :
    m_call en (d + 6) mHa_stepsOf [.ref (X + 160), .int (m_i col), .int (m_i dep), .int (m_i fr), .int (m_i to)] (T, m_I J, P, L, z, w) Q := by
  have h0 := h
  obtain ⟨hV, ⟨pok, h2, ok, h4, hC⟩, h6, h7, h8⟩ := h0
  have hX := hV.1
  have hN := hV.2.1
  have k0 := pok.1
  have hr : ∀ i : Nat, i < 16 → -1000 ≤ J (X + 161) i ∧ J (X + 161) i ≤ 1000 := fun i hi => by have := hr0 i hi; omega
  obtain ⟨gd, eg⟩ : ∃ gd, gd = pl_fr J (X + 17) (J (X + 161)) fr := ⟨_, rfl⟩
  have hgd : 0 ≤ gd ∧ gd ≤ 6 := by rw [eg]; exact pl_fr_b pok (fun i hi => (hr0 i hi).1)
  have hb1 : (a_b (decide (0 ≤ fr ∧ fr < J (X + 17) 0)) = 1 ∧ (0 ≤ fr ∧ fr < J (X + 17) 0)) ∨ (a_b (decide (0 ≤ fr ∧ fr < J (X + 17) 0)) = 0 ∧ ¬ (0 ≤ fr ∧ fr < J (X + 17) 0)) := by
    by_cases q : 0 ≤ fr ∧ fr < J (X + 17) 0
    · exact Or.inl ⟨a_b_t (decide_eq_true q), q⟩
    · exact Or.inr ⟨a_b_f (by rw [decide_eq_true_eq]; exact q), q⟩
  have hb2 : (a_b (decide (0 ≤ to ∧ to < J (X + 17) 0)) = 1 ∧ (0 ≤ to ∧ to < J (X + 17) 0)) ∨ (a_b (decide (0 ≤ to ∧ to < J (X + 17) 0)) = 0 ∧ ¬ (0 ≤ to ∧ to < J (X + 17) 0)) := by
    by_cases q : 0 ≤ to ∧ to < J (X + 17) 0
    · exact Or.inl ⟨a_b_t (decide_eq_true q), q⟩
    · exact Or.inr ⟨a_b_f (by rw [decide_eq_true_eq]; exact q), q⟩
  have hpf : (0 ≤ fr ∧ fr < J (X + 17) 0) → 0 ≤ J (X + 161) fr.toNat ∧ J (X + 161) fr.toNat ≤ 1000 := fun q => hr0 _ (by omega)
  have ok0 : a_ok (pl_cf J (X + 17) (J (X + 161)) 0) := pl_cf_ok pok (fun i hi => (hr0 i hi).1) (Or.inl rfl)
  have hsp0 : sp_is (sp_L J (X + 136) (X + 17) (X + 161) 0) (X + 136) (pl_cf J (X + 17) (J (X + 161)) 0) := sp_L_is pok
  have hno : ¬ ((0 ≤ fr ∧ fr < J (X + 17) 0) ∧ (0 ≤ to ∧ to < J (X + 17) 0) ∧ 1 ≤ J (X + 161) fr.toNat) → Q (some (.int (m_i (-2)))) (T, m_I J, P, L, z, w) := fun q => hq T J P L z w (-2) h cl_q_r (Or.inl ⟨q, rfl⟩) (by omega)
  have h106 : ((0 ≤ fr ∧ fr < J (X + 17) 0) ∧ (0 ≤ to ∧ to < J (X + 17) 0) ∧ 1 ≤ J (X + 161) fr.toNat) → ∀ T2 J2 P2 L2 z2 w2 r1 o1 o2, cl_W en X N zb wb C T2 J2 P2 z2 w2 → cl_q X N T J P L T2 J2 P2 L2 → (if col = -1 then cl_fw C (po_get J (X + 31)) (fr, 0, 0, 0, gd) r1 else cl_fx (pl_cf J (X + 17) (J (X + 161)) 0) 511 4 (col, 0, 0, 0, dep) (fr, 0, 0, 0, gd) r1) → (-2 ≤ r1 ∧ r1 < 100000) → m_wp en (d + 5) mHa_stepsOf 106 [some (.ref (X + 160)), o1, o2, some (.int (m_i fr)), some (.int (m_i to)), some (.int (m_i gd)), some (.int (m_i r1)), none] [] (T2, m_I J2, P2, L2, z2, w2) Q := fun hv T2 J2 P2 L2 z2 w2 r1 o1 o2 a1 a2 a3 a4 => by
    have e161 : J2 (X + 161) = J (X + 161) := funext (fun i => a2.2.1 _ i (by omega))
    have e17 : J2 (X + 17) 0 = J (X + 17) 0 := a2.2.1 _ _ (by omega)
    have lo : ∀ b i, b < X + 132 → J2 b i = J b i := fun b i q => a2.2.1 b i (by omega)
    rw [eg] at a3
    refine l106_Ha_stepsOf a1 (by rw [e161]; exact hr0) (by omega) (by omega) (by rw [e161]; exact hv.2.2) hgd a4 (fun q => ?_) (fun q T3 J3 P3 L3 z3 w3 r2 b1 b2 b3 b4 => ?_)
    · exact hq T2 J2 P2 L2 z2 w2 (-2) a1 a2 (Or.inr ⟨hv, r1, a3, Or.inl ⟨q, rfl⟩⟩) (by omega)
    · rw [e161, pl_cf_e lo, pl_fr_e lo, eg] at b3
      refine hq T3 J3 P3 L3 z3 w3 _ b1 (cl_q_t a2 b2) (Or.inr ⟨hv, r1, a3, Or.inr ⟨q, r2, b3, rfl⟩⟩) ?_
      split <;> omega
  refine m_into (by decide) (Nat.le_of_ble_eq_true rfl) rfl ?_
  show m_wp en _ mHa_stepsOf 0 [some (.ref (X + 160)), some (.int (m_i (col))), some (.int (m_i (dep))), some (.int (m_i (fr))), some (.int (m_i (to))), none, none, none] [] (T, m_I J, P, L, z, w) Q
  refine r_aln eHa_stepsOf_0 rfl ?_
  refine m_getR eHa_stepsOf_1 rfl (cl_t hX (i := 154) rfl) (cl_p hX (i := 129) rfl) ?_
  refine r_iln eHa_stepsOf_4 rfl ?_
  refine r_vir eHa_stepsOf_5 rfl rfl rfl (cl_t hX (i := 17) rfl) rfl rfl ?_
  refine c_Pl_hasColumn (cl_plan hX) pok ⟨by omega, by omega⟩ ?_
  show m_wp en _ mHa_stepsOf 8 [some (.ref (X + 160)), some (.int (m_i (col))), some (.int (m_i (dep))), some (.int (m_i (fr))), some (.int (m_i (to))), none, none, none] [(.int (m_i ((a_b (decide (0 ≤ fr ∧ fr < J (X + 17) 0))))))] (T, m_I J, P, L, z, w) Q
  refine r_zeq (tgt := 33) eHa_stepsOf_8 rfl ⟨(by omega), (by omega)⟩ (fun c8 => ?_) (fun c8 => ?_)
  · refine r_bip eHa_stepsOf_33 (by decide) ?_
    refine r_iret eHa_stepsOf_35 rfl ?_
    exact hno (by omega)
  · refine r_aln eHa_stepsOf_11 rfl ?_
    refine m_getR eHa_stepsOf_12 rfl (cl_t hX (i := 154) rfl) (cl_p hX (i := 129) rfl) ?_
    refine r_il eHa_stepsOf_15 rfl ?_
    refine r_vir eHa_stepsOf_17 rfl rfl rfl (cl_t hX (i := 17) rfl) rfl rfl ?_
    refine c_Pl_hasColumn (cl_plan hX) pok ⟨by omega, by omega⟩ ?_
    show m_wp en _ mHa_stepsOf 20 [some (.ref (X + 160)), some (.int (m_i (col))), some (.int (m_i (dep))), some (.int (m_i (fr))), some (.int (m_i (to))), none, none, none] [(.int (m_i ((a_b (decide (0 ≤ to ∧ to < J (X + 17) 0))))))] (T, m_I J, P, L, z, w) Q
    refine r_zeq (tgt := 33) eHa_stepsOf_20 rfl ⟨(by omega), (by omega)⟩ (fun c20 => ?_) (fun c20 => ?_)
    · refine r_bip eHa_stepsOf_33 (by decide) ?_
      refine r_iret eHa_stepsOf_35 rfl ?_
      exact hno (by omega)
    · have hpf2 := hpf (by omega)
      refine r_aln eHa_stepsOf_23 rfl ?_
      refine m_getR eHa_stepsOf_24 rfl (cl_t hX (i := 154) rfl) (cl_p hX (i := 132) rfl) ?_
      refine r_iln eHa_stepsOf_27 rfl ?_
      refine r_ialde (x := J (X + 161) ((fr).toNat)) eHa_stepsOf_28 (cl_t hX (i := 155) rfl) (by decide) (by omega) (by omega) rfl ?_
      refine r_con eHa_stepsOf_29 ?_
      refine r_cge (tgt := 36) eHa_stepsOf_30 rfl ⟨(by omega), (by omega)⟩ ⟨(by omega), (by omega)⟩ (fun c30 => ?_) (fun c30 => ?_)
      · refine r_aln eHa_stepsOf_36 rfl ?_
        refine m_getR eHa_stepsOf_37 rfl (cl_t hX (i := 154) rfl) (cl_p hX (i := 129) rfl) ?_
        refine r_aln eHa_stepsOf_40 rfl ?_
        refine m_getR eHa_stepsOf_41 rfl (cl_t hX (i := 154) rfl) (cl_p hX (i := 132) rfl) ?_
        refine r_iln eHa_stepsOf_44 rfl ?_
        refine r_vir eHa_stepsOf_45 rfl rfl rfl (cl_t hX (i := 17) rfl) rfl rfl ?_
        refine c_Pl_freeOf (cl_plan hX) pok (hX.2.1 (161, 20, 16) (by decide)) hr ⟨by omega, by omega⟩ ?_
        rw [← eg]
        show m_wp en _ mHa_stepsOf 48 [some (.ref (X + 160)), some (.int (m_i (col))), some (.int (m_i (dep))), some (.int (m_i (fr))), some (.int (m_i (to))), none, none, none] [(.int (m_i (gd)))] (T, m_I J, P, L, z, w) Q
        refine r_is (ls' := [some (.ref (X + 160)), some (.int (m_i (col))), some (.int (m_i (dep))), some (.int (m_i (fr))), some (.int (m_i (to))), some (.int (m_i (gd))), none, none]) eHa_stepsOf_48 (Nat.le_of_ble_eq_true rfl) rfl ?_
        refine r_con eHa_stepsOf_50 ?_
        refine r_is (ls' := [some (.ref (X + 160)), some (.int (m_i (col))), some (.int (m_i (dep))), some (.int (m_i (fr))), some (.int (m_i (to))), some (.int (m_i (gd))), some (.int (m_i (0))), none]) eHa_stepsOf_51 (Nat.le_of_ble_eq_true rfl) rfl ?_
        refine r_iln eHa_stepsOf_53 rfl ?_
        refine r_con eHa_stepsOf_54 ?_
        refine r_cne (tgt := 73) eHa_stepsOf_55 rfl ⟨(by omega), (by omega)⟩ ⟨(by omega), (by omega)⟩ (fun c55 => ?_) (fun c55 => ?_)
        · refine r_aln eHa_stepsOf_73 rfl ?_
          refine m_getR eHa_stepsOf_74 rfl (cl_t hX (i := 154) rfl) (cl_p hX (i := 131) rfl) ?_
          refine m_getR eHa_stepsOf_77 rfl (cl_t hX (i := 132) rfl) (cl_p hX (i := 108) rfl) ?_
          refine r_aln eHa_stepsOf_80 rfl ?_
          refine m_getR eHa_stepsOf_81 rfl (cl_t hX (i := 154) rfl) (cl_p hX (i := 129) rfl) ?_
          refine r_aln eHa_stepsOf_84 rfl ?_
          refine m_getR eHa_stepsOf_85 rfl (cl_t hX (i := 154) rfl) (cl_p hX (i := 132) rfl) ?_
          refine r_con eHa_stepsOf_88 ?_
          refine r_vir eHa_stepsOf_89 rfl rfl rfl (cl_t hX (i := 136) rfl) rfl rfl ?_
          refine c_Sp_lay (cl_sp hX (Or.inr rfl)) (cl_plan hX) (hX.2.1 (161, 20, 16) (by decide)) pok hr0 (by omega) (by omega) (Or.inl rfl) ?_
          show m_wp en _ mHa_stepsOf 92 [some (.ref (X + 160)), some (.int (m_i (col))), some (.int (m_i (dep))), some (.int (m_i (fr))), some (.int (m_i (to))), some (.int (m_i (gd))), some (.int (m_i (0))), none] [] (T, m_I (((sp_L J (X + 136) (X + 17) (X + 161) 0))), P, L, z, w) Q
          refine r_aln eHa_stepsOf_92 rfl ?_
          refine m_getR eHa_stepsOf_93 rfl (cl_t hX (i := 154) rfl) (cl_p hX (i := 131) rfl) ?_
          refine r_iln eHa_stepsOf_96 rfl ?_
          refine r_iln eHa_stepsOf_97 rfl ?_
          refine r_iln eHa_stepsOf_98 rfl ?_
          refine r_il eHa_stepsOf_99 rfl ?_
          refine r_vir eHa_stepsOf_101 rfl rfl rfl (cl_t hX (i := 132) rfl) rfl rfl ?_
          refine c_Wa_supposedSteps (cl_W_lay h) ok0 hsp0 (by omega) (by omega) (by omega) (by omega) (fun T J2 P L z w r1 k1 k2 k3 k4 k5 => ?_)
          have hX := k1.1.1
          have k9 := cl_q_t cl_q_lay k2
          have k8 : (if col = -1 then cl_fw C (po_get J (X + 31)) (fr, 0, 0, 0, gd) r1 else cl_fx (pl_cf J (X + 17) (J (X + 161)) 0) 511 4 (col, 0, 0, 0, dep) (fr, 0, 0, 0, gd) r1) := by rw [if_neg (by omega)]; exact k4
          show m_wp en _ mHa_stepsOf 104 [some (.ref (X + 160)), some (.int (m_i (col))), some (.int (m_i (dep))), some (.int (m_i (fr))), some (.int (m_i (to))), some (.int (m_i (gd))), some (.int (m_i (0))), none] [(.int (m_i (r1)))] (T, m_I J2, P, L, z, w) Q
          refine r_is (ls' := [some (.ref (X + 160)), some (.int (m_i (col))), some (.int (m_i (dep))), some (.int (m_i (fr))), some (.int (m_i (to))), some (.int (m_i (gd))), some (.int (m_i (r1))), none]) eHa_stepsOf_104 (Nat.le_of_ble_eq_true rfl) rfl ?_
          exact h106 (by omega) T J2 P L z w r1 _ _ k1 k9 k8 k5
        · refine r_aln eHa_stepsOf_58 rfl ?_
          refine m_getR eHa_stepsOf_59 rfl (cl_t hX (i := 154) rfl) (cl_p hX (i := 131) rfl) ?_
          refine r_iln eHa_stepsOf_62 rfl ?_
          refine r_il eHa_stepsOf_63 rfl ?_
          refine r_vir eHa_stepsOf_65 rfl rfl rfl (cl_t hX (i := 132) rfl) rfl rfl ?_
          refine c_Wa_stepsToRest h (by omega) (by omega) (fun T J2 P L z w r1 k1 k2 k3 k4 k5 => ?_)
          have hX := k1.1.1
          have k9 := k2
          have k8 : (if col = -1 then cl_fw C (po_get J (X + 31)) (fr, 0, 0, 0, gd) r1 else cl_fx (pl_cf J (X + 17) (J (X + 161)) 0) 511 4 (col, 0, 0, 0, dep) (fr, 0, 0, 0, gd) r1) := by rw [if_pos (by omega)]; exact k4
          show m_wp en _ mHa_stepsOf 68 [some (.ref (X + 160)), some (.int (m_i (col))), some (.int (m_i (dep))), some (.int (m_i (fr))), some (.int (m_i (to))), some (.int (m_i (gd))), some (.int (m_i (0))), none] [(.int (m_i (r1)))] (T, m_I J2, P, L, z, w) Q
          refine r_is (ls' := [some (.ref (X + 160)), some (.int (m_i (col))), some (.int (m_i (dep))), some (.int (m_i (fr))), some (.int (m_i (to))), some (.int (m_i (gd))), some (.int (m_i (r1))), none]) eHa_stepsOf_68 (Nat.le_of_ble_eq_true rfl) rfl ?_
          refine r_go (tgt := 106) eHa_stepsOf_70 rfl ?_
          exact h106 (by omega) T J2 P L z w r1 _ _ k1 k9 k8 k5
      · refine r_bip eHa_stepsOf_33 (by decide) ?_
        refine r_iret eHa_stepsOf_35 rfl ?_
        exact hno (by omega)
end HAU
