/-! the class: codeHome, countHoming -/
section CHN
variable {en : Nat → Nat} {d : Nat} {T T' T2 T0 : Nat → Option (Nat × Nat)} {J J' J0 J1 J2 J3 K H : Nat → Nat → Int} {P P' P2 P0 : Nat → Nat → Option Nat} {L L' L2 L0 : Nat → Nat → Int64} {z w z' w' z0 w0 A B R U S n X N zb wb o o' A0 R' U' n' : Nat} {Q : m_Q} {σ τ γ π ρ : a_S} {C : a_C} {bw most by_ gl : Int} {Sd : a_S → Prop} {g : g_T} {x e st : Int}
theorem l19_Wa_codeHome {o0 o1 o3 : Option Value} (hst : -2 ≤ st ∧ st ≤ 0) (hq : Q (some (.int (m_i 4))) (T, m_I J, P, L, z, w)) : m_wp en (d + 1) mWa_codeHome 19 [o0, o1, some (.int (m_i st)), o3] [] (T, m_I J, P, L, z, w) Q := by
  refine r_iln eWa_codeHome_19 rfl ?_
  refine r_zle (tgt := 78) eWa_codeHome_20 rfl ⟨(by omega), (by omega)⟩ (fun c20 => ?_) (fun c20 => ?_)
  · refine r_con eWa_codeHome_78 ?_
    refine r_iret eWa_codeHome_79 rfl ?_
    exact hq
  · exfalso; omega
theorem s_stl_no (ok : a_ok C) (hbx : a_bx σ) (h : cl_fh C σ st) (h0 : st ≤ 0) : s_stl C (a_no σ) 4 := by
  refine Or.inl ⟨?_, rfl⟩
  rintro ⟨h1, t, h2, h3⟩
  rw [a_of_no hbx] at h1
  rcases h with ⟨q, q2⟩ | ⟨q, -⟩
  · have := s_ans_u h3 ((w_home ok w_shr q).mpr q2)
    omega
  · exact q h1
theorem w_still (ok : a_ok C) (hbx : a_bx σ) (hr : w_rs σ) : s_stl C (a_no σ) 4 := by
  by_cases q : a_is C σ = true
  · exact s_stl_no (st := 0) ok hbx (Or.inl ⟨q, Or.inl ⟨0, rfl, ⟨q, hr⟩, fun _ _ => Nat.zero_le _⟩⟩) (by omega)
  · exact s_stl_no (st := -2) ok hbx (Or.inr ⟨q, rfl⟩) (by omega)
theorem c_Wa_codeHome (h : cl_W en X N zb wb C T J P z w) {k : Nat} (hB : (k, 5, 0) ∈ cl_ob) (hk : k = 31 ∨ k = 164) (eσ : po_get J (X + k) = σ) (hbx : a_bx σ)
    (hq : ∀ T' J' P' L' z' w' r, cl_W en X N zb wb C T' J' P' z' w' → cl_q X N T J P L T' J' P' L' → (∀ i, J' (X + 164) i = J (X + 164) i) → s_stl C (a_no σ) r → (0 ≤ r ∧ r < 9) → Q (some (.int (m_i r))) (T', m_I J', P', L', z', w')) :
    m_call en (d + 5) mWa_codeHome [.ref (X + 132), .ref (X + k)] (T, m_I J, P, L, z, w) Q := by
  have h0 := h
  obtain ⟨hV, ⟨h1, h2, ok, h4, hC⟩, h6, h7, h8⟩ := h0
  have hX := hV.1
  have hb := a_b_01 (decide (J (X + k) 1 = 0 ∧ J (X + k) 2 = 0 ∧ J (X + k) 3 = 0))
  have hs0 : a_b (decide (J (X + k) 1 = 0 ∧ J (X + k) 2 = 0 ∧ J (X + k) 3 = 0)) ≠ 0 → Q (some (.int (m_i 4))) (T, m_I J, P, L, z, w) := fun q => by
    refine hq T J P L z w 4 h cl_q_r (fun _ => rfl) (w_still ok hbx ?_) (by omega)
    have q2 : decide (J (X + k) 1 = 0 ∧ J (X + k) 2 = 0 ∧ J (X + k) 3 = 0) = true := by
      cases e : decide (J (X + k) 1 = 0 ∧ J (X + k) 2 = 0 ∧ J (X + k) 3 = 0) with
      | true => rfl
      | false => rw [e] at q; exact absurd rfl q
    have q3 := of_decide_eq_true q2
    rw [← eσ]
    exact q3
  have hsm : ∀ J2 : Nat → Nat → Int, (∀ b i, b < X + 132 ∨ (X + 156 ≤ b ∧ b < N) ∨ (b = X + 132 ∧ i = 13) → J2 b i = J b i) → (∀ i, J2 (X + 164) i = J (X + 164) i) → po_get J2 (X + k) = σ := fun J2 f1 f2 => by
    rw [← eσ]
    refine po_get_e (fun i => ?_)
    rcases hk with e | e
    · subst e; exact f1 _ i (by omega)
    · subst e; exact f2 i
  have hfin : ∀ T2 J2 P2 L2 z2 w2 st, cl_W en X N zb wb C T2 J2 P2 z2 w2 → cl_q X N T J P L T2 J2 P2 L2 → J2 (X + 132) 10 = 1 → cl_fh C σ st → (a_is C σ = true → st = a_met (J2 (sR P2 (X + 144))) (sN T2 P2 (X + 144)) (a_nb C σ)) → (∀ i, J2 (X + 164) i = J (X + 164) i) → (-2 ≤ st ∧ st < 100000) → ∀ J', cl_W en X N zb wb C T2 J' P2 z2 w2 → cl_q X N T2 J2 P2 L2 T2 J' P2 L2 → (∀ i, J' (X + 164) i = J2 (X + 164) i) → ∀ r, ((0 < st ∧ ∃ c : Int, (0 ≤ c ∧ c < 9) ∧ r = c ∧ a_met (J2 (sR P2 (X + 144))) (sN T2 P2 (X + 144)) (a_nb C (a_step σ c 0)) = st - 1 ∧ ∀ c' : Int, 0 ≤ c' → c' < c → a_met (J2 (sR P2 (X + 144))) (sN T2 P2 (X + 144)) (a_nb C (a_step σ c' 0)) ≠ st - 1) ∨ (r = 4 ∧ (st ≤ 0 ∨ ∀ c' : Int, 0 ≤ c' → c' < 9 → a_met (J2 (sR P2 (X + 144))) (sN T2 P2 (X + 144)) (a_nb C (a_step σ c' 0)) ≠ st - 1))) → Q (some (.int (m_i r))) (T2, m_I J', P2, L2, z2, w2) := by
    intro T2 J2 P2 L2 z2 w2 st k1 k2 k3 k4 k5 k6 k7 J' y1 y2 y3 r y4
    refine hq T2 J' P2 L2 z2 w2 r y1 (cl_q_t k2 y2) (fun i => (y3 i).trans (k6 i)) ?_ ?_
    · by_cases q0 : st ≤ 0
      · have hr : r = 4 := by
          rcases y4 with ⟨a, -⟩ | ⟨a, -⟩
          · omega
          · exact a
        rw [hr]
        exact s_stl_no ok hbx k4 q0
      · have his : a_is C σ = true := by
          rcases k4 with a | a
          · exact a.1
          · omega
        have hg : cl_g T2 J2 P2 X 144 (X + 133) C 1 511 4 (w_sh C) := by
          rcases k1.2.2.2.1 with q | q
          · omega
          · exact q.2
        obtain ⟨-, -, -, -, gsz, -, s9, par9, cod9, gI⟩ := hg
        have hsa : s_ans C (-1) 0 (a_no σ) st := by
          rcases k4 with a | a
          · exact (w_home ok w_shr his).mpr a.2
          · exact absurd his a.1
        have nr : ∀ c : Int, 0 ≤ c ∧ c < 9 → (a_met (J2 (sR P2 (X + 144))) (sN T2 P2 (X + 144)) (a_nb C (a_step σ c 0)) = st - 1 ↔ s_nr C (-1) (a_no σ) c) := fun c hc => hm_nr ok gI gsz his (k5 his) (by omega) hc
        refine Or.inr ⟨⟨by rw [a_of_no hbx]; exact his, st, by omega, hsa⟩, ?_⟩
        rcases y4 with ⟨-, c, hc, rfl, a1, a2⟩ | ⟨-, a | a⟩
        · exact ⟨hc, (nr r hc).mp a1, fun c' b1 b2 b3 => a2 c' b1 b2 ((nr c' ⟨b1, by omega⟩).mpr b3)⟩
        · omega
        · obtain ⟨c, hc, b⟩ := hm_ex ok his hsa (by omega)
          exact absurd ((nr c hc).mpr b) (a c hc.1 hc.2)
    · rcases y4 with ⟨-, c, hc, rfl, -⟩ | ⟨a, -⟩
      · exact hc
      · omega
  refine m_into (by decide) (Nat.le_of_ble_eq_true rfl) rfl ?_
  show m_wp en _ mWa_codeHome 0 [some (.ref (X + 132)), some (.ref (X + k)), none, none] [] (T, m_I J, P, L, z, w) Q
  refine r_aln eWa_codeHome_0 rfl ?_
  refine r_vir eWa_codeHome_1 rfl rfl rfl (cl_po hX hB).2.1 rfl rfl ?_
  refine c_Po_isStill (cl_po hX hB) (by rw [eσ]; exact a_bx_sm hbx) ?_
  show m_wp en _ mWa_codeHome 4 [some (.ref (X + 132)), some (.ref (X + k)), none, none] [(.int (m_i ((a_b (decide (J (X + k) 1 = 0 ∧ J (X + k) 2 = 0 ∧ J (X + k) 3 = 0))))))] (T, m_I J, P, L, z, w) Q
  refine r_zeq (tgt := 11) eWa_codeHome_4 rfl ⟨(by omega), (by omega)⟩ (fun c4 => ?_) (fun c4 => ?_)
  · refine r_aln eWa_codeHome_11 rfl ?_
    refine r_aln eWa_codeHome_12 rfl ?_
    refine r_vir eWa_codeHome_13 rfl rfl rfl (cl_t hX (i := 132) rfl) rfl rfl ?_
    refine c_Wa_stepsHome h hB (by rw [eσ]; exact a_bx_sm hbx) (fun T J2 P L z w st k1 k2 k3 k4 k5 k6 k7 => ?_)
    rw [eσ] at k4 k5
    have hX := k1.1.1
    show m_wp en _ mWa_codeHome 16 [some (.ref (X + 132)), some (.ref (X + k)), none, none] [(.int (m_i (st)))] (T, m_I J2, P, L, z, w) Q
    refine r_isn (ls' := [some (.ref (X + 132)), some (.ref (X + k)), some (.int (m_i (st))), none]) eWa_codeHome_16 (Nat.le_of_ble_eq_true rfl) rfl ?_
    refine r_con eWa_codeHome_17 ?_
    refine r_isn (ls' := [some (.ref (X + 132)), some (.ref (X + k)), some (.int (m_i (st))), some (.int (m_i (0)))]) eWa_codeHome_18 (Nat.le_of_ble_eq_true rfl) rfl ?_
    first | exact l19_Wa_codeHome (by omega) (hs0 (by omega)) | (have hsame := hsm J2 k2.2.1 k6; exact l_Wa_codeHome (d := d + 3) k1 k3 hB hk hsame hbx k7 (fun J' y1 y2 y3 r y4 => hfin T J2 P L z w st k1 k2 k3 k4 k5 k6 k7 J' y1 y2 y3 r y4) 9 0 J2 (by omega) (fun _ _ _ => rfl) (fun c' a b => by omega))
  · refine r_con eWa_codeHome_7 ?_
    refine r_go (tgt := 16) eWa_codeHome_8 rfl ?_
    refine r_isn (ls' := [some (.ref (X + 132)), some (.ref (X + k)), some (.int (m_i (0))), none]) eWa_codeHome_16 (Nat.le_of_ble_eq_true rfl) rfl ?_
    refine r_con eWa_codeHome_17 ?_
    refine r_isn (ls' := [some (.ref (X + 132)), some (.ref (X + k)), some (.int (m_i (0))), some (.int (m_i (0)))]) eWa_codeHome_18 (Nat.le_of_ble_eq_true rfl) rfl ?_
    first | exact l19_Wa_codeHome (by omega) (hs0 (by omega)) | (have hsame := hsm J2 k2.2.1 k6; exact l_Wa_codeHome (d := d + 3) k1 k3 hB hk hsame hbx k7 (fun J' y1 y2 y3 r y4 => hfin T J2 P L z w st k1 k2 k3 k4 k5 k6 k7 J' y1 y2 y3 r y4) 9 0 J2 (by omega) (fun _ _ _ => rfl) (fun c' a b => by omega))
theorem cl_cnt {s k : Nat} {par cod : Nat → Nat} (h : g_I C n bw most by_ Sd s g par cod k 0) (hk : k = g.2.2.toNat) : (∀ i j, i < k → j < k → g_q g i = g_q g j → i = j) ∧ ∀ σ, (∃ i, i < k ∧ g_q g i = σ) ↔ ∃ t, b_D Sd (g_E C bw most by_) t σ := by
  subst hk
  refine ⟨h.1.2.2.2.1, fun σ => ⟨?_, ?_⟩⟩
  · rintro ⟨i, hi, rfl⟩
    obtain ⟨t, -, h2⟩ := h.2.1.2.2.1 i hi
    exact ⟨t, h2⟩
  · rintro ⟨t, ht⟩
    obtain ⟨t', h1, -⟩ := b_all h.2.1 rfl ht
    exact h.2.1.2.1 σ t' h1
/-- all of home -/
theorem c_hmc (h : cl_W en X N zb wb C T J P z w) (h9 : J (X + 132) 10 = 1)
    (hq : ∀ (J' : Nat → Nat → Int) (q : Nat → a_S), cl_W en X N zb wb C T J' P z w → cl_q X N T J P L T J' P L → (0 ≤ J' (X + 144) 3 ∧ J' (X + 144) 3 ≤ 38880) → (∀ i j, i < (J' (X + 144) 3).toNat → j < (J' (X + 144) 3).toNat → q i = q j → i = j) → (∀ σ, (∃ i, i < (J' (X + 144) 3).toNat ∧ q i = σ) ↔ ∃ t, b_D (w_sh C) (g_E C 1 4 511) t σ) → Q (some (.int (m_i (J' (X + 144) 3)))) (T, m_I J', P, L, z, w)) :
    m_call en (d + 3) mSe_countMet [.ref (X + 144)] (T, m_I J, P, L, z, w) Q := by
  have h0 := h
  obtain ⟨hV, ⟨h1, h2, ok, h4, hC⟩, h6, h7, h8⟩ := h0
  have hN := hV.2.1
  have hg : cl_g T J P X 144 (X + 133) C 1 511 4 (w_sh C) := by
    rcases h7 with q | q
    · omega
    · exact q.2
  obtain ⟨g4, g5, g6, g7, gsz, g2, s, par, cod, gI⟩ := hg
  have hS := cl_at hV (Or.inr (Or.inl rfl)) (Or.inl rfl) g4
  refine c_Se_countMet hS ok hC g5 (Or.inr rfl) g6 (by omega) g7 (by omega) gsz gI g2 (fun J' par' cod' a3 a4 a5 a6 => ?_)
  have fb := cl_fr_b hV (Or.inr (Or.inl rfl)) a3
  have e9 : J' (X + 132) 10 = J (X + 132) 10 := fb _ _ (by omega) (by omega)
  have hne := se_at_ne hS
  have f5 : ∀ i, i ≠ 2 → i ≠ 3 → J' (X + 144) i = J (X + 144) i := fun i i2 i3 => a3 _ i (fun e => hne.1 e.symm) (fun e => hne.2.2.2.1 e.symm) (by omega) (by omega) (by omega)
  have hc := cl_cnt a4 (by rw [a6]; rfl)
  rw [a6] at hc
  have h30 := a4.1.1
  have hn9 : sN T P (X + 144) ≤ 38880 := hS.2.2.2.2.2.2.1
  refine hq J' _ (cl_W_g h hV (fun b i q1 q2 => fb b i (by omega) (by omega)) (cl_ch_e h6 (fb _ _ (by omega) (by omega)) (fun i => fb _ _ (by omega) (by omega)) (cl_sm_fr hV (Or.inr (Or.inl rfl)) (Or.inl rfl) (by omega) a3)) ?_ (cl_cl_e h8 (fb _ _ (by omega) (by omega)) (fun b i q1 => fb b i (by omega) (by omega)) (fun i => fb _ i (by omega) (by omega)))) (cl_q_fr hV (Or.inr (Or.inl rfl)) a3) ?_ hc.1 hc.2
  · exact Or.inr ⟨by rw [e9]; exact h9, g4, (f5 5 (by omega) (by omega)).trans g5, (f5 6 (by omega) (by omega)).trans g6, (f5 7 (by omega) (by omega)).trans g7, gsz, a5, s, par', cod', a4⟩
  · have h31 : 0 ≤ J' (X + 144) 3 ∧ J' (X + 144) 3 ≤ sN T P (X + 144) := h30
    omega
theorem c_Wa_countHoming (h : cl_W en X N zb wb C T J P z w)
    (hq : ∀ T' J' P' L' z' w' (r : Nat) (q : Nat → a_S), cl_W en X N zb wb C T' J' P' z' w' → cl_q X N T J P L T' J' P' L' → (r ≤ 38880) → (∀ i j, i < r → j < r → q i = q j → i = j) → (∀ σ, (∃ i, i < r ∧ q i = σ) ↔ ∃ t, b_D (w_sh C) (g_E C 1 4 511) t σ) → Q (some (.int (m_i (r : Int)))) (T', m_I J', P', L', z', w')) :
    m_call en (d + 4) mWa_countHoming [.ref (X + 132)] (T, m_I J, P, L, z, w) Q := by
  have hX := h.1.1
  refine m_into (by decide) (Nat.le_of_ble_eq_true rfl) rfl ?_
  show m_wp en _ mWa_countHoming 0 [some (.ref (X + 132))] [] (T, m_I J, P, L, z, w) Q
  refine r_aln eWa_countHoming_0 rfl ?_
  refine r_vir eWa_countHoming_1 rfl rfl rfl (cl_t hX (i := 132) rfl) rfl rfl ?_
  refine c_Wa_toHome h (fun T J2 P L z w k1 k2 k3 k4 => ?_)
  have hX := k1.1.1
  show m_wp en _ mWa_countHoming 4 [some (.ref (X + 132))] [(.ref (X + 144))] (T, m_I J2, P, L, z, w) Q
  refine r_vir eWa_countHoming_4 rfl rfl rfl (cl_t hX (i := 142) rfl) rfl rfl ?_
  refine c_hmc k1 k3 (fun J3 q m1 m2 m3 m4 m5 => ?_)
  show m_wp en _ mWa_countHoming 7 [some (.ref (X + 132))] [(.int (m_i ((J3 (X + 144) 3))))] (T, m_I J3, P, L, z, w) Q
  refine r_iret eWa_countHoming_7 rfl ?_
  have hz9 := hq T J3 P L z w (J3 (X + 144) 3).toNat q m1 (cl_q_t k2 m2) (by omega) m4 m5
  rw [show (((J3 (X + 144) 3).toNat : Nat) : Int) = J3 (X + 144) 3 by omega] at hz9
  exact hz9
end CHN
