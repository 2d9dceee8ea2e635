/-! THE TIE: text, the call -/
section TXU
variable {en : Nat → Nat} {X M N O z0 w0 : Nat} {T0 : Nat → Option (Nat × Nat)} {J0 : Nat → Nat → Int} {k : Nat} {T T' : Nat → Option (Nat × Nat)} {J J' J1 K : Nat → Nat → Int} {P P' : Nat → Nat → Option Nat} {L L' : Nat → Nat → Int64} {z w z' w' zb wb : Nat} {C : a_C}
theorem md_top_0 (h : md_top J M) : md_top (m_up J M 0 0) M := by
  refine ⟨h.1.fy md_fy_0 (md_kp_0 h.1.hkp), fun k q1 q2 i hi => by rw [m_up_z (by omega)]; exact h.2.1 k q1 q2 i hi, ?_, by rw [m_up_z (by omega)]; exact h.2.2.2⟩
  rw [m_up_z (by omega), show m_up J M 0 0 (M + 1) = J (M + 1) from funext (fun i => m_up_z (by omega))]
  exact h.2.2.1
theorem rd_R_e {A B H : Nat → Nat → Int} (h : rd_R A B X M) (e : ∀ k, 2 ≤ k → k ≤ 16 → H (M + k) = B (M + k)) (e18 : H M 18 = B M 18) : rd_R A H X M := by
  have ec : ∀ i k, a_cb H M i k = a_cb B M i k := fun i k => a_cb_e (e 7 (by omega) (by omega)) (e 8 (by omega) (by omega)) (e 9 (by omega) (by omega)) k
  unfold rd_R at h ⊢
  rw [e 2 (by omega) (by omega), e 3 (by omega) (by omega), e 4 (by omega) (by omega), e 5 (by omega) (by omega), e 6 (by omega) (by omega), e 10 (by omega) (by omega), e 11 (by omega) (by omega), e 12 (by omega) (by omega), e 13 (by omega) (by omega), e 14 (by omega) (by omega), e 15 (by omega) (by omega), e 16 (by omega) (by omega), e18]
  obtain ⟨h1, h2, h3, h4, h5, h6, h7, h8, h9⟩ := h
  exact ⟨h1, h2, h3, h4, h5, h6, h7, h8, fun i hi => by rw [ec]; exact h9 i hi⟩
theorem cl_tx_o {b i : Nat} (h0 : ¬ (b = X + 30 ∧ (i = 2 ∨ i = 3 ∨ i = 4))) (h1 : ¬ (b = X + 31 ∧ i < 5)) (h2 : ¬ (b = X + 32 ∧ i < 16)) (h3 : ¬ ((b = X + 33 ∨ b = X + 35) ∧ (i = 1 ∨ i = 2))) (h4 : ¬ (b = X ∧ i = 7)) : cl_tx K X b i = K b i := by
  unfold cl_tx mo_bg
  rw [m_up_z (by omega), m_up_z (by omega), m_up_z (by omega), m_up_z (by omega), m_up_z (by omega), m_up_z (by omega), m_up_z (by omega), m_up_z (by omega)]
  by_cases c : b = X + 32
  · rw [c, show X + 30 + 2 = X + 32 from rfl, m_fl_x (by omega), po_put_o (by omega)]
  · rw [m_fl_o (by omega), po_put_o (by omega)]
theorem cl_tx_v : (cl_tx K X (X + 30) 2 = 0 ∧ cl_tx K X (X + 30) 3 = 0 ∧ cl_tx K X (X + 30) 4 = 0) ∧ po_get (cl_tx K X) (X + 31) = (K (X + 17) 5, 0, 0, 0, K (X + 17) 6) ∧ (∀ i : Nat, i < 16 → cl_tx K X (X + 32) i = K (X + 19) i) ∧ (cl_tx K X (X + 33) 1 = 0 ∧ cl_tx K X (X + 33) 2 = 0 ∧ cl_tx K X (X + 35) 1 = 0 ∧ cl_tx K X (X + 35) 2 = 0 ∧ cl_tx K X X 7 = 0) := by
  unfold cl_tx mo_bg
  refine ⟨⟨?_, ?_, ?_⟩, ?_, fun i hi => ?_, ?_, ?_, ?_, ?_, m_up_e⟩
  · rw [m_up_z (by omega), m_up_z (by omega), m_up_z (by omega), m_up_z (by omega), m_up_z (by omega), m_up_z (by omega), m_up_z (by omega), m_up_e]
  · rw [m_up_z (by omega), m_up_z (by omega), m_up_z (by omega), m_up_z (by omega), m_up_z (by omega), m_up_z (by omega), m_up_e]
  · rw [m_up_z (by omega), m_up_z (by omega), m_up_z (by omega), m_up_z (by omega), m_up_z (by omega), m_up_e]
  · have e : ∀ i, i < 5 → m_up (m_up (m_up (m_up (m_up (m_up (m_up (m_up (m_fl (po_put K (X + 30 + 1) (K (X + 17) 5, 0, 0, 0, K (X + 17) 6)) (X + 30 + 2) 0 (K (X + 17 + 2)) 16) (X + 30) 2 0) (X + 30) 3 0) (X + 30) 4 0) (X + 33) 1 0) (X + 33) 2 0) (X + 35) 1 0) (X + 35) 2 0) X 7 0 (X + 31) i = po_put K (X + 31) (K (X + 17) 5, 0, 0, 0, K (X + 17) 6) (X + 31) i := fun i q => by
      rw [m_up_z (by omega), m_up_z (by omega), m_up_z (by omega), m_up_z (by omega), m_up_z (by omega), m_up_z (by omega), m_up_z (by omega), m_up_z (by omega), m_fl_o (by omega)]
    unfold po_get
    rw [e 0 (by omega), e 1 (by omega), e 2 (by omega), e 3 (by omega), e 4 (by omega), po_put_0, po_put_1, po_put_2, po_put_3, po_put_4]
  · rw [m_up_z (by omega), m_up_z (by omega), m_up_z (by omega), m_up_z (by omega), m_up_z (by omega), m_up_z (by omega), m_up_z (by omega), m_up_z (by omega), show X + 30 + 2 = X + 32 from rfl, m_fl_i (by omega)]
    rfl
  · rw [m_up_z (by omega), m_up_z (by omega), m_up_z (by omega), m_up_z (by omega), m_up_e]
  · rw [m_up_z (by omega), m_up_z (by omega), m_up_z (by omega), m_up_e]
  · rw [m_up_z (by omega), m_up_z (by omega), m_up_e]
  · rw [m_up_z (by omega), m_up_e]
theorem pl_ok_cp {A B : Nat} (h : pl_ok J A) (e0 : ∀ i, i < 7 → K B i = J A i) (e1 : ∀ k, 1 ≤ k ∧ k ≤ 12 → ∀ i, i < pl_n k → K (B + k) i = J (A + k) i) : pl_ok K B := by
  unfold pl_ok at h ⊢
  have n1 : ∀ i, i < 16 → K (B + 1) i = J (A + 1) i := fun i q => e1 1 (by omega) i q
  have n2 : ∀ i, i < 16 → K (B + 2) i = J (A + 2) i := fun i q => e1 2 (by omega) i q
  have n3 : ∀ i, i < 6 → K (B + 3) i = J (A + 3) i := fun i q => e1 3 (by omega) i q
  have n4 : ∀ i, i < 6 → K (B + 4) i = J (A + 4) i := fun i q => e1 4 (by omega) i q
  have n5 : ∀ i, i < 6 → K (B + 5) i = J (A + 5) i := fun i q => e1 5 (by omega) i q
  have n6 : ∀ i, i < 8 → K (B + 6) i = J (A + 6) i := fun i q => e1 6 (by omega) i q
  have n7 : ∀ i, i < 8 → K (B + 7) i = J (A + 7) i := fun i q => e1 7 (by omega) i q
  have n8 : ∀ i, i < 16 → K (B + 8) i = J (A + 8) i := fun i q => e1 8 (by omega) i q
  have n9 : ∀ i, i < 16 → K (B + 9) i = J (A + 9) i := fun i q => e1 9 (by omega) i q
  have n10 : ∀ i, i < 3 → K (B + 10) i = J (A + 10) i := fun i q => e1 10 (by omega) i q
  have n11 : ∀ i, i < 3 → K (B + 11) i = J (A + 11) i := fun i q => e1 11 (by omega) i q
  have n12 : ∀ i, i < 12 → K (B + 12) i = J (A + 12) i := fun i q => e1 12 (by omega) i q
  rw [e0 0 (by omega), e0 1 (by omega), e0 2 (by omega), e0 3 (by omega), n12 5 (by omega), n12 7 (by omega), n12 8 (by omega), n12 10 (by omega)]
  obtain ⟨h0, h1, h2, h3, h4, h5, h6, h7, h8, h9, h10, h11, h12⟩ := h
  refine ⟨h0, h1, h2, h3, h4, h5, h6, h7, fun i hi => ?_, fun i hi => ?_, fun i hi => ?_, fun i hi => ?_, fun i hi => ?_⟩
  · rw [n1 i hi, n2 i hi]; exact h8 i hi
  · rw [n3 i hi, n4 i hi, n5 i hi]; exact h9 i hi
  · rw [n6 i hi, n7 i hi]; exact h10 i hi
  · rw [n8 i hi, n9 i hi]; exact h11 i hi
  · rw [n10 i hi, n11 i hi]; exact h12 i hi
theorem tx_hmo {K1 K2 : Nat → Nat → Int} {y : a_Q} (hok : re_ok en T J1 X) (e1 : K1 = re_q J1 X y.1 y.2.1 y.2.2.1 y.2.2.2.1 y.2.2.2.2.1 y.2.2.2.2.2) (e2 : pl_cq K1 K2 (X + 17) (X + 3)) : pl_ok (cl_tx K2 X) (X + 17) ∧ cl_mo (cl_tx K2 X) X := by
  obtain ⟨-, pok, -, -, -, -, hs⟩ := hok
  obtain ⟨c0, c1, c2⟩ := e2
  have k1 : ∀ b i, b ≠ X + 1 → K1 b i = J1 b i := fun b i q => by rw [e1, re_q_o (by omega)]
  have p2 : pl_ok K2 (X + 17) := pl_ok_cp pok (fun i q => by rw [c0 i q, k1 _ _ (by omega)]) (fun k hk i q => by rw [c1 k hk i q, k1 _ _ (by omega)])
  obtain ⟨⟨t2, t3, t4⟩, tp, ts, -⟩ := cl_tx_v (K := K2) (X := X)
  refine ⟨pl_ok_e p2 (fun b i q1 q2 => cl_tx_o (by omega) (by omega) (by omega) (by omega) (by omega)), fun i hi => ?_, Or.inl t2, by rw [t3]; omega, by rw [t4]; omega, ?_⟩
  · have := pok.2.2.2.2.2.2.2.2.1 i hi
    have e : cl_tx K2 X (X + 32) i = J1 (X + 5) i := by
      rw [ts i hi]
      exact (c1 2 (by omega) i hi).trans (k1 _ _ (by omega))
    rw [e, show J1 (X + 5) i = J1 (X + 3 + 2) i from rfl]
    omega
  · rw [tp, c0 5 (by omega), c0 6 (by omega), k1 _ _ (by omega), k1 _ _ (by omega)]
    exact ⟨⟨by show 0 ≤ J1 (X + 3) 5; omega, by show J1 (X + 3) 5 < 16; omega⟩, ⟨by show (-2 : Int) ≤ 0; omega, by show (0 : Int) ≤ 2; omega⟩, ⟨by show (-4 : Int) ≤ 0; omega, by show (0 : Int) ≤ 4; omega⟩, ⟨by show (-4 : Int) ≤ 0; omega, by show (0 : Int) ≤ 4; omega⟩, ⟨by show 1 ≤ J1 (X + 3) 6; omega, by show J1 (X + 3) 6 ≤ 6; omega⟩⟩
theorem t_text (h : to_I en X M N O z0 w0 T0 J0 k T J P L z w) {x : Int} (hx : m_in x) : m_call en 40 mSc_text [.ref X, .int (m_i x)] (T, m_I J, P, L, z, w) (to_C en X M N O z0 w0 T0 J0 k mMd_text [.ref M, .int (m_i x)]) := by
  have hb := h.2.1.1
  have hre := h.rel.2.2.2.2
  have htop := h.top
  have ht0 := htop.2.2.1
  have ht1 : 0 ≤ J M 2 ∧ J M 2 ≤ 700 := ht0.1
  have tpR : 0 ≤ x ∧ x ≤ J M 2 → tp_R (J (X + 2)) (J (M + 1)) x := fun q => ⟨⟨q.1, by omega⟩, fun i hi => ⟨hre.2.1 i (by omega), ht0.2 i (by omega)⟩⟩
  have tpB : 0 ≤ x ∧ x ≤ J M 2 → a_tpb (J (M + 1)) x := fun q => ⟨by omega, ht0.2⟩
  have e1 := hre.1
  refine c_Sc_text (d := 32) h.csh h.cK.1 hx (fun q J1 y l K1 K2 a1 a2 a3 a4 => tx_hmo a1.2.1 a2 a4) (fun q => ?_) (fun q J1 y l K1 a1 a2 a3 => ?_) (fun q J1 y l K1 K2 a1 a2 a3 a4 J2 b1 hsp h9 h10 h8 h13 => ?_)
  · refine to_mk h (fun K Q eK hK eX hQ => ?_)
    have e2 : K M 2 = J M 2 := by rw [← eK, m_up_z (by omega)]
    rw [e1] at q
    exact c_Md_text (d := 30) hK.sh eK hK.top hx (fun _ => hQ K (md_fy.refl K M) hK.inv.hkp) (fun c => by rw [e2] at c; exact absurd c q)
  · rw [e1] at q
    obtain ⟨r1, r2, r3, r4, r5, r6⟩ := a1
    have k1 : ∀ b i, b < X + 3 ∨ X + 16 ≤ b → b ≠ X + 1 → K1 b i = J b i := fun b i p1 p2 => by rw [a2, re_q_o (by omega), r4 b i p1 p2]
    have dM : ∀ b, M ≤ b → b ≤ M + 26 → K1 b = J b := fun b q1 q2 => funext (fun i => k1 _ _ (by omega) (by omega))
    have ht2 := md_top_0 (md_top_e htop (dM M (by omega) (by omega)) (fun k q => dM _ (by omega) (by omega)))
    obtain ⟨G, hG⟩ : ∃ G, G = m_up K1 M 0 0 := ⟨_, rfl⟩
    rw [← hG] at ht2
    have gO : ∀ b i, ¬ (b = M ∧ i = 0) → G b i = K1 b i := fun b i q => by rw [hG, m_up_z q]
    have g1 : G (M + 1) = J (M + 1) := funext (fun i => by rw [gO _ _ (by omega), dM _ (by omega) (by omega)])
    have g2 : G M 2 = J M 2 := by rw [gO _ _ (by omega), dM _ (by omega) (by omega)]
    refine ⟨-1, T, K1, P, L, z, w, rfl, rfl, fun b c => ⟨(h.lo b c).1, (funext (fun i => k1 _ _ (by omega) (by omega))).trans (h.lo b c).2⟩, ?_⟩
    refine c_Md_text (d := 30) h.sh hG.symm ht2 hx (fun c => by rw [g2] at c; exact absurd q c) (fun c B' x1 x' s1 s2 s3 s4 s5 => ?_)
    have tt := tx_tie (J := J) (X := X) (M := M) (G := G) (n := x) (by omega) (by rw [g1]; exact tpR q) h.cK.2.2.2.1 ht2.2.1 (by rw [g1]; exact tpB q) s1 r1 s2
    have hF : rs_F y x' := tt.resolve_right (fun p => a3 p.2.1.1)
    have hx' : x'.2.2.2.2.1 ≠ 0 := fun p => a3 (hF.2.1.symm.trans p)
    refine ⟨fun _ => ⟨_, rfl, rfl, ?_⟩, fun p => absurd p hx'⟩
    have f0 : ∀ b i, ¬ dr_c M b i → ¬ (b = M ∧ (i = 20 ∨ i = 2 ∨ i = 27 ∨ i = 28 ∨ i = 0)) → md_tx B' M x' b i = K1 b i := fun b i p1 p2 => by
      by_cases hbM : b = M
      · subst hbM
        rw [md_tx_M (by unfold dr_c at p1; omega) (by omega), s4 _ _ p1, m_up_z (by omega), gO _ _ (by omega)]
      · rw [md_tx_o hbM, s4 _ _ p1, m_up_z (by omega), gO _ _ (by omega)]
    have fX : ∀ b i, ¬ (M ≤ b ∧ b ≤ M + 26) → md_tx B' M x' b i = K1 b i := fun b i p => f0 b i (by unfold dr_c; omega) (by omega)
    have fM : ∀ b i, ¬ dr_c M b i → ¬ (b = M ∧ (i = 20 ∨ i = 2 ∨ i = 27 ∨ i = 28 ∨ i = 0)) → (M ≤ b ∧ b ≤ M + 26) → md_tx B' M x' b i = J b i := fun b i p1 p2 p3 => by rw [f0 b i p1 p2, dM _ p3.1 p3.2]
    refine to_rd h (fun b i p1 p2 p3 => by rw [fX b i p3, k1 b i (by omega) p1]) ?_ ?_ (fun i hi => ?_) (md_tx_top ht2 (by rw [g2]; exact q) s3 s4 s5) ?_ ⟨fun i hi => fM _ _ (by unfold dr_c; omega) (by omega) (by omega), fun k q1 q2 i hi => fM _ _ (by unfold dr_c; omega) (by omega) (by omega), fun k q1 i hi => fM _ _ (by unfold dr_c; omega) (by omega) (by omega), fun k q1 i hi => fM _ _ (by unfold dr_c; omega) (by omega) (by omega), fun k q1 i hi => fM _ _ (by unfold dr_c; omega) (by omega) (by omega), fun k q1 q2 => funext (fun i => fM _ _ (by unfold dr_c; omega) (by omega) (by omega))⟩ (fM _ _ (by unfold dr_c; omega) (by omega) (by omega)) (fM _ _ (by unfold dr_c; omega) (by omega) (by omega)) ?_ ?_
    · rw [fX _ _ (by omega), a2, re_q_o (by omega)]; exact r5.1
    · exact pl_ok_e r2.2.1 (fun b i p1 p2 => by rw [fX _ _ (by omega), a2, re_q_o (by omega)])
    · rw [fX _ _ (by omega), a2, re_q_o (by omega)]; exact r2.2.2.2.2.2.1 i hi
    · unfold md_tx
      rw [q_f (by omega), m_up_z (by omega), m_up_z (by omega), m_up_e]
    · rw [fX _ _ (by omega), a2, re_q_3]
      unfold md_tx
      rw [q_f (by omega), m_up_z (by omega), m_up_e]
      exact hF.2.1.symm
    · rw [fX _ _ (by omega), a2, re_q_4]
      unfold md_tx
      rw [q_f (by omega), m_up_e, if_neg hx']
      exact hF.2.2.symm
  · rw [e1] at q
    obtain ⟨r1, r2, r3, r4, r5, r6⟩ := a1
    obtain ⟨hp, hm⟩ := tx_hmo (T := T) (en := en) r2 a2 a4
    obtain ⟨c0, c1, c2⟩ := a4
    obtain ⟨⟨t2, t3, t4⟩, tp, ts, t5, t6, t7, t8, t9⟩ := cl_tx_v (K := K2) (X := X)
    have k1 : ∀ b i, b < X + 3 ∨ X + 16 ≤ b → b ≠ X + 1 → K1 b i = J b i := fun b i p1 p2 => by rw [a2, re_q_o (by omega), r4 b i p1 p2]
    have k1' : ∀ b i, b ≠ X + 1 → K1 b i = J1 b i := fun b i p => by rw [a2, re_q_o (by omega)]
    have tO : ∀ b i, (b < X ∨ (X < b ∧ b < X + 17) ∨ (X + 127 ≤ b ∧ ¬ (X + 132 ≤ b ∧ b ≤ X + 135)) ∨ b = X + 34) → J2 b i = K1 b i := fun b i p => by rw [b1 _ _ (by omega), cl_tx_o (by omega) (by omega) (by omega) (by omega) (by omega), c2 _ _ (by omega)]
    have dM : ∀ b, M ≤ b → b ≤ M + 26 → J2 b = J b := fun b q1 q2 => funext (fun i => by rw [tO _ _ (by omega), k1 _ _ (by omega) (by omega)])
    have ht2 := md_top_0 (md_top_e htop (dM M (by omega) (by omega)) (fun k q => dM _ (by omega) (by omega)))
    obtain ⟨G, hG⟩ : ∃ G, G = m_up J2 M 0 0 := ⟨_, rfl⟩
    rw [← hG] at ht2
    have gO : ∀ b i, ¬ (b = M ∧ i = 0) → G b i = J2 b i := fun b i q => by rw [hG, m_up_z q]
    have g1 : G (M + 1) = J (M + 1) := funext (fun i => by rw [gO _ _ (by omega), dM _ (by omega) (by omega)])
    have g2 : G M 2 = J M 2 := by rw [gO _ _ (by omega), dM _ (by omega) (by omega)]
    refine ⟨l, T, J2, P, L, z, w, rfl, rfl, fun b c => ⟨(h.lo b c).1, (funext (fun i => by rw [tO _ _ (by omega), k1 _ _ (by omega) (by omega)])).trans (h.lo b c).2⟩, ?_⟩
    refine c_Md_text (d := 30) h.sh hG.symm ht2 hx (fun c => by rw [g2] at c; exact absurd q c) (fun c B' x1 x' s1 s2 s3 s4 s5 => ?_)
    have tt := tx_tie (J := J) (X := X) (M := M) (G := G) (n := x) (by omega) (by rw [g1]; exact tpR q) h.cK.2.2.2.1 ht2.2.1 (by rw [g1]; exact tpB q) s1 r1 s2
    obtain ⟨⟨⟨hR, hbB⟩, hl⟩, ⟨hy0, hx'⟩, hy1⟩ := tt.resolve_left (fun p => p.1 a3)
    refine ⟨fun p => absurd hx' p, fun _ => ⟨_, by rw [hl], rfl, ?_⟩⟩
    obtain ⟨H, hH⟩ : ∃ H, H = md_tx B' M x' := ⟨_, rfl⟩
    have htH : md_top H M := by rw [hH]; exact md_tx_top ht2 (by rw [g2]; exact q) s3 s4 s5
    have hdH : dr_b H M := by rw [hH]; exact md_tx_b s3
    have hRH : rd_R J1 H X M := rd_R_e hR (fun k q1 q2 => funext (fun i => by rw [hH, md_tx_o (by omega)])) (by rw [hH, md_tx_M (by omega) (by omega)])
    have hbH := dr_rd hdH
    have hX : ∀ b i, ¬ (M ≤ b ∧ b ≤ M + 26) → H b i = J2 b i := fun b i p => by
      rw [hH, md_tx_o (by omega), s4 _ _ (by unfold dr_c; omega), m_up_z (by omega), gO _ _ (by omega)]
    have h2 : H M 2 = 0 := by rw [hH]; unfold md_tx; rw [q_f (by omega), m_up_z (by omega), m_up_z (by omega), m_up_e]
    have h27 : H M 27 = 0 := by rw [hH]; unfold md_tx; rw [q_f (by omega), m_up_z (by omega), m_up_e]; exact hx'
    have h28 : H M 28 = -1 := by rw [hH]; unfold md_tx; rw [q_f (by omega), m_up_e, if_pos hx']
    rw [← hH]
    obtain ⟨u0, u1, u2, u3, u4, u5, u6⟩ := tx_tt hbH
    obtain ⟨F, hF⟩ : ∃ F, F = md_bg (md_tt H M) M := ⟨_, rfl⟩
    rw [← hF]
    have fo : ∀ b i, b ≠ M → b ≠ M + 18 → b ≠ M + 19 → b ≠ M + 22 → F b i = md_tt H M b i := fun b i p1 p2 p3 p4 => by rw [hF, md_bg_o p1 p2 p3 p4]
    have fX : ∀ b i, ¬ (M ≤ b ∧ b ≤ M + 26) → F b i = J2 b i := fun b i p => by rw [fo _ _ (by omega) (by omega) (by omega) (by omega), md_tt_x (by omega), hX _ _ p]
    have fM : ∀ i, i ≠ 32 ∧ i ≠ 40 ∧ i ≠ 45 ∧ i ≠ 46 → F M i = H M i := fun i p => by rw [hF, md_bg_M p, md_tt_x (by omega)]
    have fc : ∀ b i, b < X + 132 → F b i = cl_tx K2 X b i := fun b i p => by rw [fX _ _ (by omega), b1 _ _ (by omega)]
    have fd : ∀ b i, (X < b ∧ b < X + 17) → F b i = K1 b i := fun b i p => by rw [fX _ _ (by omega), tO _ _ (by omega)]
    have f22 : ∀ i : Nat, i < 143 → F (M + 22) i = if 7 ≤ i ∧ i < 23 then F (M + 16) (i - 7) else if i = 0 then a_no (F (M + 2) 9, 0, 0, 0, F (M + 2) 10) else 0 := fun i hi => by
      rw [fo (M + 16) _ (by omega) (by omega) (by omega) (by omega), fo (M + 2) _ (by omega) (by omega) (by omega) (by omega), fo (M + 2) _ (by omega) (by omega) (by omega) (by omega), hF]
      unfold md_bg
      rw [md_as_o _ _ (by omega) (by omega) (by omega), md_b2_r]
      by_cases p1 : 7 ≤ i ∧ i < 23
      · rw [if_pos p1, if_pos p1]
      · rw [if_neg p1, if_neg p1]
        by_cases p2 : i = 0
        · rw [if_pos p2, if_pos p2]
        · rw [if_neg p2, if_neg p2, if_pos hi]
    have f45 : F M 45 = 0 := by
      rw [hF]; unfold md_bg; rw [md_as_M _ _ (by omega) (by omega)]; unfold md_b2; rw [m_up_z (by omega), m_up_e]
    have f46 : F M 46 = 0 := by
      rw [hF]; unfold md_bg; rw [md_as_M _ _ (by omega) (by omega)]; unfold md_b2; rw [m_up_e]
    have hP : tx_P J1 H F X M := by
      refine ⟨⟨fun i hi => ?_, fun k q1 q2 i hi => ?_⟩, ⟨fun i hi => ?_, fun k q1 q2 i hi => ?_, fun k q1 i hi => ?_, fun k q1 i hi => ?_, fun k q1 i hi => ?_⟩, fun i hi => ?_, fun i hi => ?_⟩
      · rw [fc _ _ (by omega), cl_tx_o (by omega) (by omega) (by omega) (by omega) (by omega), c0 i hi, k1' _ _ (by omega)]
      · rw [fc _ _ (by omega), cl_tx_o (by omega) (by omega) (by omega) (by omega) (by omega), c1 k ⟨q1, q2⟩ i hi, k1' _ _ (by omega)]
      · rw [fo _ _ (by omega) (by omega) (by omega) (by omega), u0 i hi]
      · rw [fo _ _ (by omega) (by omega) (by omega) (by omega), u1 k q1 q2 i hi]
      · rw [fo _ _ (by omega) (by omega) (by omega) (by omega), u2 k q1 i hi]
      · rw [fo _ _ (by omega) (by omega) (by omega) (by omega), u3 k q1 i hi]
      · rw [fo _ _ (by omega) (by omega) (by omega) (by omega), u4 k q1 i hi]
      · rw [fo _ _ (by omega) (by omega) (by omega) (by omega), u5 i hi]
      · rw [fo _ _ (by omega) (by omega) (by omega) (by omega), u6 i hi]
    have hd1 := r2.2.2.2.2.2.2.2.1
    have ecf : cl_cf F X = cl_cf (cl_tx K2 X) X := cl_cf_e fc
    refine to_tx h (fun zb wb hWJ => cl_W_0 hWJ (pl_ok_e hp (fun b i p1 p2 => fc b i (by omega))) (cl_mo_e hm fc) (by rw [ecf]; exact sp_is_e hsp (fun i => fX _ _ (by omega)) (fun i => fX _ _ (by omega)) (fun i => fX _ _ (by omega))) (by rw [fX _ _ (by omega)]; exact h9) (by rw [fX _ _ (by omega)]; exact h10) (by rw [fX _ _ (by omega)]; exact h8)) (by rw [hF]; exact md_bt_top htH hdH) (fun b p => funext (fun i => by rw [fX _ _ (by omega), tO _ _ (by omega), k1 _ _ (by omega) (by omega)])) (funext (fun i => by rw [fd _ _ (by omega), k1 _ _ (by omega) (by omega)])) (funext (fun i => by rw [fd _ _ (by omega), k1 _ _ (by omega) (by omega)])) (fun b p1 p2 => funext (fun i => by rw [fX _ _ (by omega), tO _ _ (by omega), k1 _ _ (by omega) (by omega)])) ?_ (pl_ok_e r2.2.1 (fun b i p1 p2 => by rw [fd _ _ (by omega), k1' _ _ (by omega)])) (fun i hi => by rw [fd _ _ (by omega), k1' _ _ (by omega)]; exact r2.2.2.2.2.2.1 i hi) (by rw [fc _ _ (by omega)]; exact t5) (by rw [fc _ _ (by omega)]; exact t6) (funext (fun i => by rw [fX _ _ (by omega), tO _ _ (by omega), k1 _ _ (by omega) (by omega)])) ?_ (by rw [fX _ _ (by omega), tO _ _ (by omega), k1 _ _ (by omega) (by omega)]) (by rw [fX _ _ (by omega), tO _ _ (by omega), k1 _ _ (by omega) (by omega)]) (tx_pl hRH hbH hP) (tx_mo hRH hbH hd1.1 hP ?_ (fun i hi => ?_) (by rw [fc _ _ (by omega)]; exact t2) (by rw [fc _ _ (by omega)]; exact t3) (by rw [fc _ _ (by omega)]; exact t4) f22) (by rw [fc _ _ (by omega)]; exact t7) (by rw [fc _ _ (by omega)]; exact t8) f45 (by rw [fc _ _ (by omega)]; exact t9) f46 ?_ (by rw [fM _ (by omega)]; exact h2) ?_ ?_
    · rw [fd _ _ (by omega), a2, re_q_o (by omega)]; exact r5.1
    · rw [fX _ _ (by omega), h13, cl_tx_o (by omega) (by omega) (by omega) (by omega) (by omega), c2 _ _ (by omega), k1 _ _ (by omega) (by omega)]
    · rw [po_get_e (J := cl_tx K2 X) (fun i => fc _ _ (by omega)), tp, c0 5 (by omega), c0 6 (by omega), k1' _ _ (by omega), k1' _ _ (by omega)]
    · rw [fc _ _ (by omega), ts i hi]
      exact (c1 2 (by omega) i hi).trans (k1' _ _ (by omega))
    · rw [f22 6 (by omega), if_neg (by omega), if_neg (by omega)]
    · rw [fd _ _ (by omega), a2, re_q_3, fM _ (by omega), h27]; exact hy0
    · rw [fd _ _ (by omega), a2, re_q_4, fM _ (by omega), h28]; exact hy1
end TXU
