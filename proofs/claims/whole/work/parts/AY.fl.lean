/-! the class: orders, flow -/
def cl_oc (i : Nat) : Int := if i = 0 then 7 else if i = 1 then 1 else if i = 2 then 3 else if i = 3 then 5 else 4
/-- the class's own row of the orders' steps -/
def cl_os (en : Nat → Nat) (T : Nat → Option (Nat × Nat)) (J : Nat → Nat → Int) : Prop := (T (en 3) = some (20, 5) ∧ en 3 < en 0) ∧ ∀ i : Nat, i < 5 → J (en 3) i = cl_oc i
/-- the word of the order that is to be done -/
def cl_ow (J : Nat → Nat → Int) (X : Nat) : Int := a_oa (J (X + 17 + 8)) (J (X + 17 + 9)) (J (X + 30) 4) (J (X + 17 + 12) 8).toNat 0 0
def cl_or (C : a_C) (σ : a_S) (o k : Int) : Prop := (o < 17 ∧ k = cl_oc (o - 12).toNat) ∨ (¬ o < 17 ∧ s_stl C (a_no σ) k)
section SCF
variable {en : Nat → Nat} {d : Nat} {T T' : Nat → Option (Nat × Nat)} {J J' J0 K H : Nat → Nat → Int} {P P' : Nat → Nat → Option Nat} {L L' : Nat → Nat → Int64} {z w z' w' A B R X N zb wb : Nat} {Q : m_Q} {σ τ : a_S} {C : a_C} {k v : Int}
theorem cl_oc_b {i : Nat} : 0 ≤ cl_oc i ∧ cl_oc i < 9 := by
  unfold cl_oc
  repeat' split
  all_goals omega
/-- what a tick of the orders may come to -/
def cl_ft (X : Nat) (C : a_C) (Q : m_Q) (T : Nat → Option (Nat × Nat)) (J : Nat → Nat → Int) (P : Nat → Nat → Option Nat) (L : Nat → Nat → Int64) (z w : Nat) (k : Int) (τ : a_S) : Prop := (¬ J (X + 30) 3 < 9999 → Q (some (.int (m_i 0))) (T, m_I J, P, L, z, w)) ∧ (J (X + 30) 3 < 9999 → a_why C τ ≠ 0 → Q (some (.int (m_i 0))) (T, m_I (po_put J (X + 164) τ), P, L, z, w)) ∧ (J (X + 30) 3 < 9999 → a_why C τ = 0 → Q (some (.int (m_i 1))) (T, m_I (cl_tk J X k 1 τ), P, L, z, w))
theorem l_Sc_flowOn (h : cl_W en X N zb wb C T J P z w) (ho : lo_ok J (X + 33)) (he : 0 ≤ J (X + 35) 1 ∧ J (X + 35) 1 < 30) (hs : 0 ≤ J (X + 35) 2 ∧ J (X + 35) 2 ≤ 30) {o o2 : Int} (hk : 0 ≤ k ∧ k < 9) (hq : cl_ft X C Q T J P L z w k (a_step (po_get J (X + 31)) k (cl_wd J X (J (X + 30) 3)))) : m_wp en (d + 4) mSc_flowOn 59 [some (.ref X), some (.int (m_i o)), some (.int (m_i o2)), some (.int (m_i k))] [] (T, m_I J, P, L, z, w) Q := by
  have hX := h.1.1
  obtain ⟨h0, h1, h2⟩ := hq
  refine r_aln eSc_flowOn_59 rfl ?_
  refine r_iln eSc_flowOn_60 rfl ?_
  refine r_con eSc_flowOn_61 ?_
  refine r_vir eSc_flowOn_62 rfl rfl rfl (cl_t hX (i := 0) rfl) rfl rfl ?_
  refine k_Sc_tickBy hX h.2.1.1 h.2.1.2.1 h.2.1.2.2.1 h.2.1.2.2.2.2 ho he hs hk (Or.inr rfl) rfl (fun q => ?_) (fun q q2 => ?_) (fun q q2 K1 e1 => ?_)
  · show m_wp en _ mSc_flowOn 65 [some (.ref X), some (.int (m_i (o))), some (.int (m_i (o2))), some (.int (m_i (k)))] [(.int (m_i (0)))] (T, m_I J, P, L, z, w) Q
    refine r_zret eSc_flowOn_65 rfl (by first | exact Or.inl rfl | exact Or.inr rfl | omega) ?_
    first | exact h0 q | exact h1 q q2 | (rw [e1]; exact h2 q q2)
  · show m_wp en _ mSc_flowOn 65 [some (.ref X), some (.int (m_i (o))), some (.int (m_i (o2))), some (.int (m_i (k)))] [(.int (m_i (0)))] (T, m_I (((po_put J (X + 164) (a_step (po_get J (X + 31)) k (cl_wd J X (J (X + 30) 3)))))), P, L, z, w) Q
    refine r_zret eSc_flowOn_65 rfl (by first | exact Or.inl rfl | exact Or.inr rfl | omega) ?_
    first | exact h0 q | exact h1 q q2 | (rw [e1]; exact h2 q q2)
  · show m_wp en _ mSc_flowOn 65 [some (.ref X), some (.int (m_i (o))), some (.int (m_i (o2))), some (.int (m_i (k)))] [(.int (m_i (1)))] (T, m_I K1, P, L, z, w) Q
    refine r_zret eSc_flowOn_65 rfl (by first | exact Or.inl rfl | exact Or.inr rfl | omega) ?_
    first | exact h0 q | exact h1 q q2 | (rw [e1]; exact h2 q q2)
theorem c_Sc_flowOn (h : cl_W en X N zb wb C T J P z w) (hst : cl_os en T J) (ho : lo_ok J (X + 33)) (he : 0 ≤ J (X + 35) 1 ∧ J (X + 35) 1 < 30) (hs : 0 ≤ J (X + 35) 2 ∧ J (X + 35) 2 ≤ 30) (how : -1 ≤ cl_ow J X ∧ cl_ow J X ≤ 17)
    (hq0 : cl_ow J X < 12 → Q (some (.int (m_i 0))) (T, m_I J, P, L, z, w))
    (hq1 : 12 ≤ cl_ow J X → ∀ T' J' P' L' z' w' k, cl_W en X N zb wb C T' J' P' z' w' → cl_q X N T J P L T' J' P' L' → (∀ i, J' (X + 164) i = J (X + 164) i) → cl_or C (po_get J (X + 31)) (cl_ow J X) k → (0 ≤ k ∧ k < 9) → cl_ft X C Q T' J' P' L' z' w' k (a_step (po_get J' (X + 31)) k (cl_wd J' X (J' (X + 30) 3)))) : m_call en (d + 6) mSc_flowOn [.ref X] (T, m_I J, P, L, z, w) Q := by
  have h0 := h
  obtain ⟨hV, ⟨pok, hmo, ok, h4, hC⟩, h6, h7, h8⟩ := h
  have hX := hV.1
  have hg := hmo.2.2.2.1
  obtain ⟨o, eo⟩ : ∃ o, o = cl_ow J X := ⟨_, rfl⟩
  have eo2 : o = a_oa (J (X + 17 + 8)) (J (X + 17 + 9)) (J (X + 30) 4) (J (X + 17 + 12) 8).toNat 0 0 := eo
  rw [← eo] at how hq0 hq1
  have hen : en 3 < X := Nat.lt_of_lt_of_le hst.1.2 hX.1
  have h59 : 12 ≤ o → ∀ T' J' P' L' z' w' k, cl_W en X N zb wb C T' J' P' z' w' → cl_q X N T J P L T' J' P' L' → (∀ i, J' (X + 164) i = J (X + 164) i) → cl_or C (po_get J (X + 31)) o k → (0 ≤ k ∧ k < 9) → m_wp en (d + 5) mSc_flowOn 59 [some (.ref X), some (.int (m_i o)), some (.int (m_i (o - 12))), some (.int (m_i k))] [] (T', m_I J', P', L', z', w') Q := fun a T' J' P' L' z' w' k b c e f g => by
    refine l_Sc_flowOn (d := d + 1) b ?_ ?_ ?_ g (hq1 a T' J' P' L' z' w' k b c e f g)
    · unfold lo_ok
      rw [c.2.1 (X + 33) 1 (by omega), c.2.1 (X + 33) 2 (by omega)]
      exact ⟨ho.1, ho.2.1, fun i hi => by rw [c.2.1 (X + 33 + 1) i (by omega)]; exact ho.2.2 i hi⟩
    · rw [c.2.1 (X + 35) 1 (by omega)]; exact he
    · rw [c.2.1 (X + 35) 2 (by omega)]; exact hs
  have hst2 : o < 17 → 12 ≤ o → J (en 3) (o - 12).toNat = cl_oc (o - 12).toNat := fun a b => hst.2 _ (by omega)
  refine m_into (by decide) (Nat.le_of_ble_eq_true rfl) rfl ?_
  show m_wp en _ mSc_flowOn 0 [some (.ref X), none, none, none] [] (T, m_I J, P, L, z, w) Q
  refine r_aln eSc_flowOn_0 rfl ?_
  refine m_getR eSc_flowOn_1 rfl (cl_t hX (i := 0) rfl) (cl_p hX (i := 1) rfl) ?_
  refine r_aln eSc_flowOn_4 rfl ?_
  refine m_getR eSc_flowOn_5 rfl (cl_t hX (i := 0) rfl) (cl_p hX (i := 2) rfl) ?_
  refine r_gete (x := J (X + 30) 4) eSc_flowOn_8 rfl (by decide) (cl_t hX (i := 30) rfl) rfl ?_
  refine r_vir eSc_flowOn_11 rfl rfl rfl (cl_t hX (i := 17) rfl) rfl rfl ?_
  refine c_Pl_orderAt (cl_plan hX) pok ⟨by omega, by omega⟩ ?_
  rw [← eo2]
  show m_wp en _ mSc_flowOn 14 [some (.ref X), none, none, none] [(.int (m_i (o)))] (T, m_I J, P, L, z, w) Q
  refine r_isn (ls' := [some (.ref X), some (.int (m_i (o))), none, none]) eSc_flowOn_14 (Nat.le_of_ble_eq_true rfl) rfl ?_
  refine r_iln eSc_flowOn_15 rfl ?_
  refine r_bip eSc_flowOn_16 (by decide) ?_
  refine r_cge (tgt := 23) eSc_flowOn_18 rfl ⟨(by omega), (by omega)⟩ ⟨(by omega), (by omega)⟩ (fun c18 => ?_) (fun c18 => ?_)
  · refine r_iln eSc_flowOn_23 rfl ?_
    refine r_bip eSc_flowOn_24 (by decide) ?_
    refine r_sub eSc_flowOn_26 ?_
    refine r_isn (ls' := [some (.ref X), some (.int (m_i (o))), some (.int (m_i ((o) - (12)))), none]) eSc_flowOn_27 (Nat.le_of_ble_eq_true rfl) rfl ?_
    refine r_iln eSc_flowOn_28 rfl ?_
    refine r_gst (k := 3) eSc_flowOn_29 rfl ?_
    refine r_alen eSc_flowOn_32 hst.1.1 (by decide) ?_
    refine r_cge (tgt := 44) eSc_flowOn_33 rfl ⟨(by omega), (by omega)⟩ ⟨(by omega), (by omega)⟩ (fun c33 => ?_) (fun c33 => ?_)
    · refine r_aln eSc_flowOn_44 rfl ?_
      refine m_getR eSc_flowOn_45 rfl (cl_t hX (i := 0) rfl) (cl_p hX (i := 7) rfl) ?_
      refine r_aln eSc_flowOn_48 rfl ?_
      refine m_getR eSc_flowOn_49 rfl (cl_t hX (i := 0) rfl) (cl_p hX (i := 2) rfl) ?_
      refine m_getR eSc_flowOn_52 rfl (cl_t hX (i := 30) rfl) (cl_p hX (i := 38) rfl) ?_
      refine r_vir eSc_flowOn_55 rfl rfl rfl (cl_t hX (i := 132) rfl) rfl rfl ?_
      refine m_call_le (by omega) (c_Wa_codeHome (d := d) h0 (k := 31) (by decide) (Or.inl rfl) rfl hmo.2.2.2.2 (fun T J2 P L z w r k1 k2 k3 k4 k5 => ?_))
      show m_wp en _ mSc_flowOn 58 [some (.ref X), some (.int (m_i (o))), some (.int (m_i ((o) - (12)))), none] [(.int (m_i (r)))] (T, m_I J2, P, L, z, w) Q
      refine r_isn (ls' := [some (.ref X), some (.int (m_i (o))), some (.int (m_i ((o) - (12)))), some (.int (m_i (r)))]) eSc_flowOn_58 (Nat.le_of_ble_eq_true rfl) rfl ?_
      first | exact h59 (by omega) T J2 P L z w r k1 k2 k3 (Or.inr ⟨by omega, k4⟩) k5 | (have e3 := hst2 (by omega) (by omega); rw [e3]; exact h59 (by omega) T J P L z w _ h0 cl_q_r (fun _ => rfl) (Or.inl ⟨by omega, rfl⟩) cl_oc_b)
    · refine r_gst (k := 3) eSc_flowOn_36 rfl ?_
      refine r_iln eSc_flowOn_39 rfl ?_
      refine r_ialde (x := J (en 3) (((o) - (12)).toNat)) eSc_flowOn_40 hst.1.1 (by decide) (by omega) (by omega) rfl ?_
      refine r_go (tgt := 58) eSc_flowOn_41 rfl ?_
      refine r_isn (ls' := [some (.ref X), some (.int (m_i (o))), some (.int (m_i ((o) - (12)))), some (.int (m_i (J (en 3) (((o) - (12)).toNat))))]) eSc_flowOn_58 (Nat.le_of_ble_eq_true rfl) rfl ?_
      first | exact h59 (by omega) T J2 P L z w r k1 k2 k3 (Or.inr ⟨by omega, k4⟩) k5 | (have e3 := hst2 (by omega) (by omega); rw [e3]; exact h59 (by omega) T J P L z w _ h0 cl_q_r (fun _ => rfl) (Or.inl ⟨by omega, rfl⟩) cl_oc_b)
  · refine r_con eSc_flowOn_21 ?_
    refine r_zret eSc_flowOn_22 rfl (by first | exact Or.inl rfl | exact Or.inr rfl | omega) ?_
    exact hq0 (by omega)
theorem l_Sc_flow {n : Int} (hn : 1 ≤ n ∧ n ≤ 40) {I : Int → (Nat → Option (Nat × Nat)) → (Nat → Nat → Int) → (Nat → Nat → Option Nat) → (Nat → Nat → Int64) → Nat → Nat → Prop} (hc : ∀ k T J P L z w, I k T J P L z w → T X = some (11, 0))
    (hI : ∀ k T J P L z w, I k T J P L z w → k < n → m_call en d mSc_flowOn [.ref X] (T, m_I J, P, L, z, w) (fun r s => ∃ T' J' P' L' z' w', s = (T', m_I J', P', L', z', w') ∧ ((r = some (.int (m_i 0)) ∧ Q (some (.int (m_i k))) s) ∨ (r = some (.int (m_i 1)) ∧ I (k + 1) T' J' P' L' z' w'))))
    (hQ : ∀ T J P L z w, I n T J P L z w → Q (some (.int (m_i n))) (T, m_I J, P, L, z, w)) :
    ∀ (m : Nat) (k : Int) T J P L z w, 0 ≤ k → k + m = n → I k T J P L z w → m_wp en d mSc_flow 15 [some (.ref X), some (.int (m_i n)), some (.int (m_i k))] [] (T, m_I J, P, L, z, w) Q := by
  intro m
  induction m with
  | zero =>
    intro k T J P L z w hk0 hk hi
    obtain rfl : k = n := by omega
    have hq := hQ T J P L z w hi
    refine r_iln eSc_flow_15 rfl ?_
    refine r_iln eSc_flow_16 rfl ?_
    refine r_cge (tgt := 35) eSc_flow_17 rfl ⟨by omega, by omega⟩ ⟨by omega, by omega⟩ (fun c => ?_) (fun c => ?_)
    · refine r_iln eSc_flow_35 rfl ?_
      exact r_iret eSc_flow_36 rfl hq
    · exfalso; omega
  | succ m ih =>
    intro k T J P L z w hk0 hk hi
    refine r_iln eSc_flow_15 rfl ?_
    refine r_iln eSc_flow_16 rfl ?_
    refine r_cge (tgt := 35) eSc_flow_17 rfl ⟨by omega, by omega⟩ ⟨by omega, by omega⟩ (fun c => ?_) (fun c => ?_)
    · exfalso; omega
    · refine r_aln eSc_flow_20 rfl ?_
      refine r_vir eSc_flow_21 rfl rfl rfl (hc _ _ _ _ _ _ _ hi) rfl rfl ?_
      refine m_call_mono _ _ _ _ _ _ (fun v t hv => ?_) (hI k T J P L z w hi (by omega))
      obtain ⟨T', J', P', L', z', w', rfl, hv⟩ := hv
      rcases hv with ⟨rfl, hv⟩ | ⟨rfl, hv⟩
      · refine r_zne (tgt := 29) eSc_flow_24 rfl ⟨by omega, by omega⟩ (fun c => ?_) (fun c => ?_)
        · exfalso; omega
        · refine r_iln eSc_flow_27 rfl ?_
          exact r_iret eSc_flow_28 rfl hv
      · refine r_zne (tgt := 29) eSc_flow_24 rfl ⟨by omega, by omega⟩ (fun c => ?_) (fun c => ?_)
        · refine r_inc (ls' := [some (.ref X), some (.int (m_i n)), some (.int (m_i (k + 1)))]) eSc_flow_29 rfl rfl ?_
          refine r_go (tgt := 15) eSc_flow_32 rfl ?_
          exact ih (k + 1) T' J' P' L' z' w' (by omega) (by omega) hv
        · exfalso; omega
end SCF
