/-! THE TIE: a box grabbed, dropped -/
section TGD
variable {en : Nat → Nat} {X M N O z0 w0 : Nat} {T0 : Nat → Option (Nat × Nat)} {J0 : Nat → Nat → Int} {k : Nat} {T T' : Nat → Option (Nat × Nat)} {J J' J1 K : Nat → Nat → Int} {P P' : Nat → Nat → Option Nat} {L L' : Nat → Nat → Int64} {z w z' w' zb wb : Nat} {C : a_C}
theorem cl_W_0 {F : Nat → Nat → Int} (h : cl_W en X N zb wb C T J P z w) (pok : pl_ok F (X + 17)) (hm : cl_mo F X) (hs : sp_is F (X + 133) (cl_cf F X)) (h9 : F (X + 132) 9 = 0) (h10 : F (X + 132) 10 = 0) (h8 : F (X + 132) 8 = 0) : cl_W en X N zb wb (cl_cf F X) T F P z w := by
  refine ⟨h.1, ⟨pok, hm, pl_cf_ok pok (fun i hi => (hm.1 i hi).1) hm.2.1, ⟨rfl, rfl, rfl, rfl, rfl, fun _ _ _ => rfl⟩, hs⟩, Or.inl h9, Or.inl h10, ⟨by rw [h8]; omega, fun f _ q => ?_⟩⟩
  rw [h8, Int.zero_ediv] at q
  exact absurd q (by decide)
theorem to_new {F : Nat → Nat → Int} (h : to_I en X M N O z0 w0 T0 J0 k T J P L z w) (hW : ∀ zb wb, cl_W en X N zb wb (cl_cf J X) T J P z w → cl_W en X N zb wb (cl_cf F X) T F P z w) (hinv : md_inv F M)
    (el : ∀ b, b < X + 30 → F b = J b) (eh : ∀ b, X + 127 ≤ b → b < X + 132 → F b = J b) (m1 : ∀ k, 1 ≤ k → k ≤ 17 → F (M + k) = J (M + k)) (mf : ∀ i, i = 2 ∨ i = 24 ∨ i = 27 ∨ i = 28 ∨ i = 46 → F M i = J M i) (m23 : ∀ i, F (M + 23) (4290 + i) = J (M + 23) (4290 + i))
    (hlo : lo_ok F (X + 33)) (ver : F (X + 132) 13 = J (X + 132) 13 + 1) (e157 : F (X + 157) 5 = J (X + 157) 5) (e160 : F (X + 160) 7 = J (X + 160) 7)
    (hm : mo_R F M (X + 30) (F (M + 22))) (hl : lo_R (F (X + 34)) (F (X + 33) 1) (F (X + 33) 2) 0 (F (M + 22))) (hp : pa_R F X M) : to_I en X M N O z0 w0 T0 J0 (k + 1) T F P L z w := by
  have hen := h.en0
  obtain ⟨⟨⟨zb, wb, hWJ, hz, hw⟩, hM, -, hr, htp, hv⟩, hO, hK, hR, hB, hlw⟩ := h
  obtain ⟨⟨a1, a2, a3, a4, a5⟩, a6, ⟨a7, a8⟩, a9, a10, a11, a12⟩ := hK
  obtain ⟨hpl, -, -, hi, hre⟩ := hR
  have m2 := m1 2 (by omega) (by omega)
  have m13 := m1 13 (by omega) (by omega)
  refine ⟨⟨⟨zb, wb, hW zb wb hWJ, by omega, by omega⟩, hM, hinv, fun k2 a b i hi2 => ?_, ?_, ?_⟩, hO, ⟨⟨?_, pl_ok_e a2 (fun b i p q => by rw [el b (by omega)]), ?_, ?_, ?_⟩, ?_, ⟨hlo, ?_⟩, ?_, ?_, ?_, ?_⟩, ⟨pl_R_f hpl (fun k2 q1 q2 => el _ (by omega)) m1, ⟨hm, hl⟩, hp, ?_, ?_⟩, ⟨fun q => ?_, fun q => ?_⟩, fun b q => ⟨(hlw b q).1, by rw [el b (by omega)]; exact (hlw b q).2⟩⟩
  · by_cases k17 : k2 ≤ 17
    · rw [m1 k2 (by omega) k17]; exact hr k2 a b i hi2
    · omega
  · rw [m1 1 (by omega) (by omega), mf 2 (by omega)]; exact htp
  · rw [mf 24 (by omega)]; exact hv
  · rw [el (X + 1) (by omega), el (X + 2) (by omega)]; exact a1
  · rw [el (X + 16) (by omega)]; exact a3
  · unfold re_st at a4 ⊢
    rw [el _ (by have := a4.1.2; omega)]
    exact a4
  · rw [el (X + 9) (by omega)]; exact a5
  · unfold cl_os at a6 ⊢
    rw [el _ (by have := a6.1.2; omega)]
    exact a6
  · unfold lo_ok at a8 ⊢
    rw [eh (X + 130) (by omega) (by omega), eh (X + 130 + 1) (by omega) (by omega)]
    exact a8
  · rw [el (X + 16) (by omega)]; exact a9
  · rw [ver, Int.natCast_add]; omega
  · rw [ver, e157]; omega
  · rw [ver, e160]; omega
  · unfold im_R at hi ⊢
    rw [el X (by omega), mf 46 (by omega), eh (X + 130) (by omega) (by omega), eh (X + 131) (by omega) (by omega)]
    simp only [m23]
    exact ⟨hi.1, fun q => ⟨mo_R_e (hi.2 q).1 (eh _ (by omega) (by omega)) (eh _ (by omega) (by omega)) (eh _ (by omega) (by omega)) m2 m13, (hi.2 q).2⟩⟩
  · unfold re_R at hre ⊢
    rw [el (X + 1) (by omega), el (X + 2) (by omega), mf 2 (by omega), mf 27 (by omega), mf 28 (by omega), m1 1 (by omega) (by omega)]
    exact hre
  · rw [ver, e157] at q; omega
  · rw [ver, e160] at q; omega
theorem lo_R_q {f r r' : Nat → Int} {e s t : Int} (h : lo_R f e s t r) (q : ∀ i, i = 6 ∨ 23 ≤ i → r' i = r i) : lo_R f e s t r' := by
  obtain ⟨h1, h2, h3⟩ := h
  unfold lo_R
  rw [q 6 (by omega)]
  refine ⟨h1, h2, fun k hk => ?_⟩
  rw [q _ (by omega), q _ (by omega), q _ (by omega)]
  exact h3 k hk
/-- the reference's rows behind a box grabbed or dropped, but for what asItIs lays -/
theorem gd_o {G : Nat → Nat → Int} {v : Int} (hG : G = md_gd K M v) {b i : Nat} (h : b ≠ M) (h2 : b ≠ M + 22) (h3 : b ≠ M + 23) : G b i = K b i := by
  rw [hG]
  unfold md_gd md_tb
  rw [m_up_o (by omega), m_up_o (by omega), md_rem_o _ _ (by omega) (by omega), md_put_o _ _ _ (by omega)]
theorem gd_M {G : Nat → Nat → Int} {v : Int} (hG : G = md_gd K M v) {i : Nat} (h : i < 33 ∨ 37 < i) (h2 : i ≠ 45) : G M i = K M i := by
  rw [hG]
  unfold md_gd md_tb
  rw [m_up_o (by omega), m_up_o (by omega), md_rem_M _ _ h2, md_put_f _ _ _ (by omega)]
theorem gd_45 {G : Nat → Nat → Int} {v : Int} (hG : G = md_gd K M v) : G M 45 = if K M 45 = 30 then 30 else K M 45 + 1 := by
  rw [hG]
  unfold md_gd md_tb
  rw [m_up_o (by omega), m_up_o (by omega), md_rem_45, md_put_f _ _ _ (by omega)]
theorem gd_23 {G : Nat → Nat → Int} {v : Int} (hG : G = md_gd K M v) (hu : 0 ≤ K M 45 ∧ K M 45 ≤ 30) (i : Nat) : G (M + 23) i = md_rem K M (M + 23) i := by
  rw [hG]
  unfold md_gd md_tb
  rw [m_up_o (by omega), m_up_o (by omega)]
  exact md_rem_c (md_put_f _ _ _ (by omega)) (funext (fun i => md_put_o _ _ _ (by omega))) (funext (fun i => md_put_o _ _ _ (by omega))) hu i
theorem gd_22 {G : Nat → Nat → Int} {v : Int} (hG : G = md_gd K M v) (i : Nat) : G (M + 22) i = if i = 5 then v else if i = (7 + (a_of (K (M + 22) 0)).1).toNat then K (M + 22) i + (if v = 0 then 1 else -1) else K (M + 22) i := by
  have e : ∀ σ j, md_rem (md_put K M σ) M (M + 22) j = K (M + 22) j := fun σ j => by rw [md_rem_o _ _ (by omega) (by omega), md_put_o _ _ _ (by omega)]
  rw [hG]
  unfold md_gd md_tb
  rw [m_up_at]
  by_cases h5 : i = 5
  · rw [if_pos ⟨rfl, h5⟩, if_pos h5]
  · rw [if_neg (fun q => h5 q.2), if_neg h5, m_up_at]
    by_cases h7 : i = (7 + (a_of (K (M + 22) 0)).1).toNat
    · rw [if_pos ⟨rfl, h7⟩, if_pos h7, e, ← h7]
    · rw [if_neg (fun q => h7 q.2), if_neg h7, e]
/-- a box: the class has changed, the reference too -/
theorem to_gd {F J2 : Nat → Nat → Int} {v dv : Int} (h : to_I en X M N O z0 w0 T0 J0 k T J P L z w) (hv : (v = 1 ∧ dv = -1) ∨ (v = 0 ∧ dv = 1)) (hw : a_why (md_cf J M) (a_of (J (M + 22) 0)) = 0) (hpv : 0 ≤ J (M + 22) (7 + (a_of (J (M + 22) 0)).1.toNat) + dv ∧ J (M + 22) (7 + (a_of (J (M + 22) 0)).1.toNat) + dv ≤ 6)
    (e2 : ∀ b i, ¬ (X + 132 ≤ b ∧ b ≤ X + 135) → J2 b i = cl_gd J X (J (X + 31) 0) dv v b i) (hsp : sp_is J2 (X + 133) (cl_cf (cl_gd J X (J (X + 31) 0) dv v) X)) (h9 : J2 (X + 132) 9 = 0) (h10 : J2 (X + 132) 10 = 0) (h8 : J2 (X + 132) 8 = 0) (h13 : J2 (X + 132) 13 = J (X + 132) 13 + 1)
    (hmo : cl_mo (cl_gd J X (J (X + 31) 0) dv v) X) (hF : F = md_as (md_gd (m_up J2 M 0 0) M v) M) : md_pb (md_gd (m_up J2 M 0 0) M v) M ∧ to_I en X M N O z0 w0 T0 J0 (k + 1) T F P L z w := by
  have hb := h.2.1.1
  have he := h.rel.2.2.1.2.1
  have hbx := to_bx h
  have hpi := to_pi h
  have hcol : J (X + 31) 0 = (a_of (J (M + 22) 0)).1 := by rw [← hpi]; rfl
  have hc16 := hbx.1
  obtain ⟨hp, ⟨hm, hlg⟩, ha, hi, hre⟩ := h.rel
  have ek : ∀ b i, (M ≤ b ∧ b ≤ M + 26) → ¬ (b = M ∧ i = 0) → m_up J2 M 0 0 b i = J b i := fun b i q q2 => by rw [m_up_z q2, e2 _ _ (by omega), cl_gd_o he (by omega)]
  have hE : md_E M (m_up J2 M 0 0) J := ⟨fun k q => funext (fun i => ek _ _ (by omega) (by omega)), fun i q => ek _ _ (by omega) (by omega)⟩
  have e22 : m_up J2 M 0 0 (M + 22) = J (M + 22) := hE.1 22 (by omega)
  have e45 : m_up J2 M 0 0 M 45 = J M 45 := hE.2 45 (by omega)
  have hu : 0 ≤ m_up J2 M 0 0 M 45 ∧ m_up J2 M 0 0 M 45 ≤ 30 := by rw [e45]; exact h.inv.hu
  obtain ⟨G, hG⟩ : ∃ G, G = md_gd (m_up J2 M 0 0) M v := ⟨_, rfl⟩
  have g22 : ∀ i, G (M + 22) i = if i = 5 then v else if i = 7 + (a_of (J (M + 22) 0)).1.toNat then J (M + 22) i + dv else J (M + 22) i := fun i => by
    rw [gd_22 hG, e22, show (7 + (a_of (J (M + 22) 0)).1).toNat = 7 + (a_of (J (M + 22) 0)).1.toNat from by omega]
    rcases hv with ⟨v1, d1⟩ | ⟨v1, d1⟩ <;> subst v1 <;> subst d1 <;> rfl
  have hrow : md_row (G (M + 22)) := by
    obtain ⟨r1, r2, r3, r4, r5, r6, r7, r8⟩ := h.inv.row
    refine ⟨?_, ?_, ?_, ?_, ?_, ?_, fun i hi => ?_, fun i hi => ?_⟩
    · rw [g22, if_neg (by omega), if_neg (by omega)]; exact r1
    · rw [g22, if_neg (by omega), if_neg (by omega)]; exact r2
    · rw [g22, if_neg (by omega), if_neg (by omega)]; exact r3
    · rw [g22, g22, g22, if_neg (by omega), if_neg (by omega), if_neg (by omega), if_neg (by omega), if_neg (by omega), if_neg (by omega)]; exact r4
    · rw [g22, if_pos rfl]; omega
    · rw [g22, if_neg (by omega), if_neg (by omega)]; exact r6
    · rw [g22, if_neg (by omega)]
      by_cases q : 7 + i = 7 + (a_of (J (M + 22) 0)).1.toNat
      · rw [if_pos q, q]; exact hpv
      · rw [if_neg q]; exact r7 i hi
    · rw [g22]
      have := r8 i hi
      by_cases q5 : i = 5
      · rw [if_pos q5]; omega
      · rw [if_neg q5]
        by_cases q : i = 7 + (a_of (J (M + 22) 0)).1.toNat
        · rw [if_pos q, q]; omega
        · rw [if_neg q]; exact this
  have go : ∀ b i, b ≠ M → b ≠ M + 22 → b ≠ M + 23 → (M ≤ b ∧ b ≤ M + 26) → G b i = J b i := fun b i q1 q2 q3 q4 => by rw [gd_o hG q1 q2 q3, ek _ _ q4 (by omega)]
  have gM : ∀ i, (0 < i ∧ i < 33) ∨ 37 < i → i ≠ 45 → G M i = J M i := fun i q q2 => by rw [gd_M hG (by omega) q2, ek _ _ (by omega) (by omega)]
  have hpre : md_pre G M := by
    obtain ⟨⟨p1, p2, p3, p4⟩, -, -⟩ := h.inv
    refine ⟨?_, hrow, ?_, ?_, fun i hi => ?_⟩
    · have er : ∀ k, 1 ≤ k → k ≤ 17 → G (M + k) = J (M + k) := fun k q1 q2 => funext (fun i => go _ _ (by omega) (by omega) (by omega) (by omega))
      unfold md_pl at p1 ⊢
      rw [er 2 (by omega) (by omega), er 4 (by omega) (by omega), er 5 (by omega) (by omega), er 6 (by omega) (by omega), er 10 (by omega) (by omega), er 11 (by omega) (by omega), er 12 (by omega) (by omega), er 13 (by omega) (by omega), er 14 (by omega) (by omega), er 15 (by omega) (by omega), er 17 (by omega) (by omega)]
      exact p1
    · exact md_kr_rem (J := J) p3 p2 (by rw [gd_45 hG, e45]) (gM 46 (by omega) (by omega)) (fun i => by rw [gd_23 hG hu, md_tt_23 hE h.inv.hu])
    · rw [gM 41 (by omega) (by omega)]; exact p4.1
    · rw [go _ _ (by omega) (by omega) (by omega) (by omega)]; exact p4.2 i hi
  have hinv := md_as_inv hpre
  rw [← hG] at hF
  rw [← hG, hF]
  refine ⟨md_row_pb hpre.1 hpre.2.1, ?_⟩
  have fX : ∀ b i, ¬ (M ≤ b ∧ b ≤ M + 26) → md_as G M b i = J2 b i := fun b i q => by
    rw [md_as_o _ _ (by omega) (by omega) (by omega), gd_o hG (by omega) (by omega) (by omega), m_up_z (by omega)]
  have fc : ∀ b i, b < X + 132 ∨ (X + 136 ≤ b ∧ b < X + 165) → md_as G M b i = cl_gd J X (J (X + 31) 0) dv v b i := fun b i q => by rw [fX _ _ (by omega), e2 _ _ (by omega)]
  have fo : ∀ b i, M < b → b ≤ M + 26 → b ≠ M + 18 → b ≠ M + 19 → b ≠ M + 22 → b ≠ M + 23 → md_as G M b i = J b i := fun b i q1 q2 q3 q4 q5 q6 => by rw [md_as_o _ _ (by omega) q3 q4, go _ _ (by omega) q5 q6 (by omega)]
  have f22 : ∀ i, md_as G M (M + 22) i = G (M + 22) i := fun i => md_as_o _ _ (by omega) (by omega) (by omega)
  have f23 : ∀ i, md_as G M (M + 23) i = md_rem J M (M + 23) i := fun i => by rw [md_as_o _ _ (by omega) (by omega) (by omega), gd_23 hG hu, md_tt_23 hE h.inv.hu]
  have ecf : cl_cf (md_as G M) X = cl_cf (cl_gd J X (J (X + 31) 0) dv v) X := cl_cf_e (fun b i q => fc b i (by omega))
  have m1 : ∀ k, 1 ≤ k → k ≤ 17 → md_as G M (M + k) = J (M + k) := fun k q1 q2 => funext (fun i => fo _ _ (by omega) (by omega) (by omega) (by omega) (by omega) (by omega))
  have el : ∀ b, b < X + 30 → md_as G M b = J b := fun b q => funext (fun i => by rw [fc _ _ (by omega), cl_gd_o he (by omega)])
  have e33 : md_as G M (X + 33) = J (X + 33) := funext (fun i => by rw [fc _ _ (by omega), cl_gd_o he (by omega)])
  have e34 : md_as G M (X + 34) = J (X + 34) := funext (fun i => by rw [fc _ _ (by omega), cl_gd_o he (by omega)])
  have e31 : md_as G M (X + 31) = J (X + 31) := funext (fun i => by rw [fc _ _ (by omega), cl_gd_o he (by omega)])
  have e30 : ∀ i, md_as G M (X + 30) i = if i = 2 then v else J (X + 30) i := fun i => by
    rw [fc _ _ (by omega)]
    unfold cl_gd
    rw [m_up_at]
    by_cases q : i = 2
    · rw [if_pos ⟨rfl, q⟩, if_pos q]
    · rw [if_neg (fun q2 => q q2.2), if_neg q, m_up_o (by omega), pa_pu_o he (by omega)]
  have e32 : ∀ i, md_as G M (X + 32) i = if i = (a_of (J (M + 22) 0)).1.toNat then J (X + 32) i + dv else J (X + 32) i := fun i => by
    rw [fc _ _ (by omega)]
    unfold cl_gd
    rw [m_up_o (by omega), m_up_at, hcol]
    by_cases q : i = (a_of (J (M + 22) 0)).1.toNat
    · rw [if_pos ⟨rfl, q⟩, if_pos q, ← q]
    · rw [if_neg (fun q2 => q q2.2), if_neg q, pa_pu_o he (by omega)]
  have epa : ∀ b i, X + 35 ≤ b → b < X + 127 → md_as G M b i = pa_pu J X (X + 30) b i := fun b i q1 q2 => by
    rw [fc _ _ (by omega)]
    unfold cl_gd
    rw [m_up_o (by omega), m_up_o (by omega)]
  refine to_new h (fun zb wb hWJ => cl_W_0 hWJ (pl_ok_e h.pok (fun b i p q => by rw [el b (by omega)])) (cl_mo_e hmo (fun b i q => fc b i (by omega))) (by rw [ecf]; exact sp_is_e hsp (fun i => fX _ _ (by omega)) (fun i => fX _ _ (by omega)) (fun i => fX _ _ (by omega))) (by rw [fX _ _ (by omega)]; exact h9) (by rw [fX _ _ (by omega)]; exact h10) (by rw [fX _ _ (by omega)]; exact h8)) hinv el (fun b q1 q2 => funext (fun i => by rw [fc _ _ (by omega), cl_gd_o he (by omega)])) m1 (fun i q => by rw [md_as_M _ _ (by omega) (by omega), gM _ (by omega) (by omega)]) (fun i => ?_) ?_ (by rw [fX _ _ (by omega)]; exact h13) (by rw [fc _ _ (by omega), cl_gd_o he (by omega)]) (by rw [fc _ _ (by omega), cl_gd_o he (by omega)]) ?_ ?_ ?_
  · rw [f23]
    by_cases q : J M 45 = 30
    · rw [md_rem_30 q, if_neg (by omega), if_neg (by omega)]
    · have := h.inv.hu
      rw [md_rem_n (by omega), if_neg (by omega)]
  · have := h.cK.2.2.1.1
    unfold lo_ok at this ⊢
    rw [e33, show md_as G M (X + 33 + 1) = J (X + 33 + 1) from e34]
    exact this
  · rw [show md_as G M (M + 22) = G (M + 22) from funext f22]
    unfold mo_R
    have gi : ∀ i, i < 5 → G (M + 22) i = J (M + 22) i := fun i hi => by rw [g22, if_neg (by omega), if_neg (by omega)]
    have g5 : G (M + 22) 5 = v := by rw [g22, if_pos rfl]
    have b2 : md_as G M (X + 30) 2 = v := by rw [e30, if_pos rfl]
    have b3 : md_as G M (X + 30) 3 = J (X + 30) 3 := by rw [e30, if_neg (by omega)]
    have b4 : md_as G M (X + 30) 4 = J (X + 30) 4 := by rw [e30, if_neg (by omega)]
    rw [m1 2 (by omega) (by omega), m1 13 (by omega) (by omega), b2, b3, b4, gi 0 (by omega), gi 1 (by omega), gi 2 (by omega), gi 3 (by omega), gi 4 (by omega), g5]
    refine ⟨?_, fun i hi2 => ?_, ⟨rfl, hm.2.2.1.2.1, hm.2.2.1.2.2⟩, hm.2.2.2.1, hm.2.2.2.2⟩
    · rw [← hm.1]
      exact po_get_e (fun i => by rw [show X + 30 + 1 = X + 31 from rfl, e31])
    · have := hm.2.1 i hi2
      rw [show J (X + 30 + 2) i = J (X + 32) i from rfl] at this
      rw [show md_as G M (X + 30 + 2) i = md_as G M (X + 32) i from rfl, e32, g22 (7 + i), if_neg (show ¬ 7 + i = 5 from by omega)]
      by_cases q : i = (a_of (J (M + 22) 0)).1.toNat
      · rw [if_pos q, if_pos (show 7 + i = 7 + (a_of (J (M + 22) 0)).1.toNat from by omega), this]
      · rw [if_neg q, if_neg (show ¬ 7 + i = 7 + (a_of (J (M + 22) 0)).1.toNat from by omega), this]
  · rw [e33, e34]
    exact lo_R_q hlg (fun i hi2 => by rw [f22, g22, if_neg (by omega), if_neg (by omega)])
  · refine pa_push ha hlg h.inv.hu (by rw [epa _ _ (by omega) (by omega), pa_pu_1]) (by rw [epa _ _ (by omega) (by omega), pa_pu_2]) ?_ (fun j hj hne => ?_) (m1 2 (by omega) (by omega)) (m1 13 (by omega) (by omega)) (by rw [md_as_M _ _ (by omega) (by omega), gd_45 hG, e45]) f23 (by have q1 : md_as G M (M + 22) 1 = J (M + 22) 1 := (by rw [f22, g22, if_neg (by omega), if_neg (by omega)]); exact ⟨by omega, fun q => absurd q1 q⟩) (dt := 0) (Or.inl rfl) (by rw [f22, g22, if_neg (by omega), if_neg (by omega)]; omega) (fun t r _ q => by rw [e33, e34, Int.add_zero]; exact q)
    · refine mo_R_cp hm ?_ ?_ ?_ ?_ (fun i hi2 => ?_) (m1 2 (by omega) (by omega)) (m1 13 (by omega) (by omega))
      · rw [epa _ _ (by omega) (by omega), pa_pu_s (by omega), mo_cp_2]
      · rw [epa _ _ (by omega) (by omega), pa_pu_s (by omega), mo_cp_3]
      · rw [epa _ _ (by omega) (by omega), pa_pu_s (by omega), mo_cp_4]
      · rw [po_get_e (J := mo_cp J (X + 37 + 3 * (J (X + 35) 1).toNat) (X + 30)) (fun i => by rw [epa _ _ (by omega) (by omega), pa_pu_s (by omega)]), mo_cp_p]
      · rw [epa _ _ (by omega) (by omega), pa_pu_s (by omega), mo_cp_s hi2]
    · refine ⟨funext (fun i => ?_), funext (fun i => ?_), funext (fun i => ?_)⟩ <;> rw [epa _ _ (by omega) (by omega), pa_pu_s (by omega), mo_cp_x (by omega)]
theorem gd_mo {v dv : Int} (h : to_I en X M N O z0 w0 T0 J0 k T J P L z w) (hv : v = 0 ∨ v = 1) (hp : 0 ≤ J (X + 32) (J (X + 31) 0).toNat + dv ∧ J (X + 32) (J (X + 31) 0).toNat + dv ≤ 100) : cl_mo (cl_gd J X (J (X + 31) 0) dv v) X := by
  have he := h.rel.2.2.1.2.1
  obtain ⟨q1, q2, q3, q4, q5⟩ := h.mo
  have e30 : ∀ i, i ≠ 2 → cl_gd J X (J (X + 31) 0) dv v (X + 30) i = J (X + 30) i := fun i q => by
    unfold cl_gd
    rw [m_up_z (by omega), m_up_o (by omega), pa_pu_o he (by omega)]
  refine ⟨fun i hi => ?_, ?_, ?_, ?_, ?_⟩
  · unfold cl_gd
    rw [m_up_o (by omega), m_up_at]
    by_cases q : i = (J (X + 31) 0).toNat
    · rw [if_pos ⟨rfl, q⟩]; exact hp
    · rw [if_neg (fun q2 => q q2.2), pa_pu_o he (by omega)]; exact q1 i hi
  · unfold cl_gd
    rw [m_up_e]; exact hv
  · rw [e30 3 (by omega)]; exact q3
  · rw [e30 4 (by omega)]; exact q4
  · rw [po_get_e (J := J) (fun i => cl_gd_o he (by omega))]; exact q5
theorem a_hs_1 {σ : a_S} : a_b (a_hs σ) = 1 ↔ σ.2.1 = 0 ∧ σ.2.2.1 = 0 ∧ σ.2.2.2.1 = 0 := by
  unfold a_hs
  rcases a_bd2 (p := σ.2.1 = 0 ∧ σ.2.2.1 = 0 ∧ σ.2.2.2.1 = 0) with ⟨e, q⟩ | ⟨e, q⟩
  · rw [e]; exact ⟨fun _ => q, fun _ => rfl⟩
  · rw [e]; exact ⟨fun c => absurd c (by decide), fun c => absurd c q⟩
theorem a_why_col {σ : a_S} (h : a_why C σ = 0) : 0 ≤ σ.1 ∧ σ.1 < C.1 := by
  unfold a_why at h
  by_cases c : 0 ≤ σ.1 ∧ σ.1 < C.1
  · exact c
  · rw [if_pos c] at h; omega
theorem to_cg (h : to_I en X M N O z0 w0 T0 J0 k T J P L z w) : md_cg J M ↔ (J (X + 30) 2 = 0 ∧ ((J (X + 31) 1 = 0 ∧ J (X + 31) 2 = 0 ∧ J (X + 31) 3 = 0) ∧ a_why (cl_cf J X) (po_get J (X + 31)) = 0) ∧ (0 ≤ J (X + 31) 0 ∧ J (X + 31) 0 < J (X + 17) 0) ∧ 1 ≤ J (X + 32) (J (X + 31) 0).toNat ∧ J (X + 31) 4 = pl_fr J (X + 17) (J (X + 32)) (J (X + 31) 0)) := by
  have hpi := to_pi h
  have p0 : J (X + 31) 0 = (a_of (J (M + 22) 0)).1 := by rw [← hpi]; rfl
  have p1 : J (X + 31) 1 = (a_of (J (M + 22) 0)).2.1 := by rw [← hpi]; rfl
  have p2 : J (X + 31) 2 = (a_of (J (M + 22) 0)).2.2.1 := by rw [← hpi]; rfl
  have p3 : J (X + 31) 3 = (a_of (J (M + 22) 0)).2.2.2.1 := by rw [← hpi]; rfl
  have p4 : J (X + 31) 4 = (a_of (J (M + 22) 0)).2.2.2.2 := by rw [← hpi]; rfl
  have hc := (to_bx h).1
  have e1 : J (X + 30) 2 = J M 32 := h.rel.2.1.1.2.2.1.1.trans h.inv.2.1.1.symm
  have e2 : J (X + 32) (a_of (J (M + 22) 0)).1.toNat = J (M + 18) (a_of (J (M + 22) 0)).1.toNat := (h.rel.2.1.1.2.1 _ (by omega)).trans (h.inv.2.1.2.1 _ (by omega)).symm
  unfold md_cg
  rw [a_hs_1, hpi, to_why h, p0, p1, p2, p3, p4, e1, e2, to_wid h]
  constructor
  · rintro ⟨a1, a2, a3, a4, a5⟩
    have a6 := a_why_col a1
    refine ⟨a3, ⟨a2, a1⟩, a6, by omega, ?_⟩
    rw [to_fr h a6]
    exact a5
  · rintro ⟨a3, ⟨a2, a1⟩, a6, a4, a5⟩
    rw [to_fr h a6] at a5
    exact ⟨a1, a2, a3, by omega, a5⟩
theorem to_cd (h : to_I en X M N O z0 w0 T0 J0 k T J P L z w) : md_cd J M ↔ (J (X + 30) 2 ≠ 0 ∧ ((J (X + 31) 1 = 0 ∧ J (X + 31) 2 = 0 ∧ J (X + 31) 3 = 0) ∧ a_why (cl_cf J X) (po_get J (X + 31)) = 0) ∧ (0 ≤ J (X + 31) 0 ∧ J (X + 31) 0 < J (X + 17) 0) ∧ J (X + 31) 4 + 1 = pl_fr J (X + 17) (J (X + 32)) (J (X + 31) 0)) := by
  have hpi := to_pi h
  have p0 : J (X + 31) 0 = (a_of (J (M + 22) 0)).1 := by rw [← hpi]; rfl
  have p1 : J (X + 31) 1 = (a_of (J (M + 22) 0)).2.1 := by rw [← hpi]; rfl
  have p2 : J (X + 31) 2 = (a_of (J (M + 22) 0)).2.2.1 := by rw [← hpi]; rfl
  have p3 : J (X + 31) 3 = (a_of (J (M + 22) 0)).2.2.2.1 := by rw [← hpi]; rfl
  have p4 : J (X + 31) 4 = (a_of (J (M + 22) 0)).2.2.2.2 := by rw [← hpi]; rfl
  have e1 : J (X + 30) 2 = J M 32 := h.rel.2.1.1.2.2.1.1.trans h.inv.2.1.1.symm
  have h32 := h.inv.h32
  unfold md_cd
  rw [a_hs_1, hpi, to_why h, p0, p1, p2, p3, p4, e1, to_wid h]
  constructor
  · rintro ⟨a1, a2, a3, a5⟩
    have a6 := a_why_col a1
    refine ⟨by omega, ⟨a2, a1⟩, a6, ?_⟩
    rw [to_fr h a6]
    exact a5
  · rintro ⟨a3, ⟨a2, a1⟩, a6, a5⟩
    rw [to_fr h a6] at a5
    exact ⟨a1, a2, by omega, a5⟩
theorem t_grab (h : to_I en X M N O z0 w0 T0 J0 k T J P L z w) : m_call en 40 mSc_grab [.ref X] (T, m_I J, P, L, z, w) (to_C en X M N O z0 w0 T0 J0 k mMd_grab [.ref M]) := by
  have ha := h.rel.2.2.1
  have hu := h.inv.hu
  have hcg := to_cg h
  have hb := h.2.1.1
  have hbx := (to_bx h).1
  have p0 : J (X + 31) 0 = (a_of (J (M + 22) 0)).1 := by rw [← to_pi h]; rfl
  have e18 : J (X + 32) (a_of (J (M + 22) 0)).1.toNat = J (M + 22) (7 + (a_of (J (M + 22) 0)).1.toNat) := h.rel.2.1.1.2.1 _ (by omega)
  have h6 := h.inv.row.2.2.2.2.2.2.1 (a_of (J (M + 22) 0)).1.toNat (by omega)
  have hmo : (J (X + 30) 2 = 0 ∧ ((J (X + 31) 1 = 0 ∧ J (X + 31) 2 = 0 ∧ J (X + 31) 3 = 0) ∧ a_why (cl_cf J X) (po_get J (X + 31)) = 0) ∧ (0 ≤ J (X + 31) 0 ∧ J (X + 31) 0 < J (X + 17) 0) ∧ 1 ≤ J (X + 32) (J (X + 31) 0).toNat ∧ J (X + 31) 4 = pl_fr J (X + 17) (J (X + 32)) (J (X + 31) 0)) → cl_mo (cl_gd J X (J (X + 31) 0) (-1) 1) X := fun q => gd_mo h (Or.inr rfl) (by have := q.2.2.2.1; rw [p0] at this ⊢; omega)
  refine c_Sc_grab h.csh h.pok h.mo h.ok h.spi ha.2.1 (by rw [ha.1]; exact hu) Iff.rfl Iff.rfl hmo (fun q => ?_) (fun q J2 e2 hsp h9 h10 h8 h13 => ?_)
  · refine to_mk h (fun K Q eK hK eX hQ => ?_)
    have hn : ¬ md_cg K M := fun c => q (by
      have := (to_cg hK).mp c
      have e : ∀ b, b < X + 132 → K b = J b := fun b p => eX b (by omega)
      rw [e (X + 30) (by omega), e (X + 31) (by omega), e (X + 32) (by omega), x_cf e, x_pi e, pl_fr_x (fun k q => e _ (by omega)), e (X + 17) (by omega)] at this
      exact this)
    exact c_Md_grab hK.sh eK hK.inv.ok hK.inv.hs hK.inv.hu hK.inv.hp (fun c => absurd c hn) (fun _ => hQ _ ((md_fx.refl K M).put _).fy (md_kp_put _ hK.inv.hkp)) (fun c => absurd c hn)
  · have ek : ∀ b i, M ≤ b ∧ b ≤ M + 26 → J2 b i = J b i := fun b i q => by rw [e2 _ _ (by omega), cl_gd_o ha.2.1 (by omega)]
    have hE : md_E M (m_up J2 M 0 0) J := ⟨fun k q => funext (fun i => by rw [m_up_z (by omega), ek _ _ (by omega)]), fun i q => by rw [m_up_z (by omega), ek _ _ (by omega)]⟩
    have ht2 := md_top_e h.top (funext (fun i => ek _ i (by omega))) (fun k q => funext (fun i => ek _ i (by omega)))
    have hin : md_inv (m_up J2 M 0 0) M := ht2.1.fy md_fy_0 (md_kp_0 ht2.1.hkp)
    have hc : md_cg (m_up J2 M 0 0) M := by
      have := hcg.mpr q
      unfold md_cg at this ⊢
      rw [hE.cf, hE.1 22 (by omega), hE.2 32 (by omega), hE.1 18 (by omega), hE.1 19 (by omega)]
      exact this
    have hgd := to_gd (F := md_as (md_gd (m_up J2 M 0 0) M 1) M) h (Or.inl ⟨rfl, rfl⟩) (hcg.mpr q).1 (by have := q.2.2.2.1; rw [p0] at this; omega) e2 hsp h9 h10 h8 h13 (hmo q) rfl
    refine ⟨1, T, J2, P, L, z, w, rfl, rfl, fun b q => ⟨(h.lo b q).1, (funext (fun i => by rw [e2 _ _ (by omega), cl_gd_o ha.2.1 (by omega)])).trans (h.lo b q).2⟩, ?_⟩
    exact c_Md_grab h.sh rfl hin.ok hin.hs hin.hu hin.hp (fun _ => hgd.1) (fun c => absurd hc c) (fun _ => ⟨_, rfl, rfl, hgd.2⟩)
theorem t_drop (h : to_I en X M N O z0 w0 T0 J0 k T J P L z w) : m_call en 40 mSc_drop [.ref X] (T, m_I J, P, L, z, w) (to_C en X M N O z0 w0 T0 J0 k mMd_drop [.ref M]) := by
  have ha := h.rel.2.2.1
  have hu := h.inv.hu
  have hcg := to_cd h
  have hb := h.2.1.1
  have hbx := (to_bx h).1
  have p0 : J (X + 31) 0 = (a_of (J (M + 22) 0)).1 := by rw [← to_pi h]; rfl
  have e18 : J (X + 32) (a_of (J (M + 22) 0)).1.toNat = J (M + 22) (7 + (a_of (J (M + 22) 0)).1.toNat) := h.rel.2.1.1.2.1 _ (by omega)
  have h6 := h.inv.row.2.2.2.2.2.2.1 (a_of (J (M + 22) 0)).1.toNat (by omega)
  have hd6 := (to_bx h).2.2.2.2
  have hmo : (J (X + 30) 2 ≠ 0 ∧ ((J (X + 31) 1 = 0 ∧ J (X + 31) 2 = 0 ∧ J (X + 31) 3 = 0) ∧ a_why (cl_cf J X) (po_get J (X + 31)) = 0) ∧ (0 ≤ J (X + 31) 0 ∧ J (X + 31) 0 < J (X + 17) 0) ∧ J (X + 31) 4 + 1 = pl_fr J (X + 17) (J (X + 32)) (J (X + 31) 0)) → cl_mo (cl_gd J X (J (X + 31) 0) 1 0) X := fun q => gd_mo h (Or.inl rfl) (by rw [p0]; omega)
  refine c_Sc_drop h.csh h.pok h.mo h.ok h.spi ha.2.1 (by rw [ha.1]; exact hu) Iff.rfl Iff.rfl hmo (fun q => ?_) (fun q J2 e2 hsp h9 h10 h8 h13 => ?_)
  · refine to_mk h (fun K Q eK hK eX hQ => ?_)
    have hn : ¬ md_cd K M := fun c => q (by
      have := (to_cd hK).mp c
      have e : ∀ b, b < X + 132 → K b = J b := fun b p => eX b (by omega)
      rw [e (X + 30) (by omega), e (X + 31) (by omega), e (X + 32) (by omega), x_cf e, x_pi e, pl_fr_x (fun k q => e _ (by omega)), e (X + 17) (by omega)] at this
      exact this)
    exact c_Md_drop hK.sh eK hK.inv.ok hK.inv.hs hK.inv.hu (fun c => absurd c hn) (fun _ => hQ _ ((md_fx.refl K M).put _).fy (md_kp_put _ hK.inv.hkp)) (fun c => absurd c hn)
  · have ek : ∀ b i, M ≤ b ∧ b ≤ M + 26 → J2 b i = J b i := fun b i q => by rw [e2 _ _ (by omega), cl_gd_o ha.2.1 (by omega)]
    have hE : md_E M (m_up J2 M 0 0) J := ⟨fun k q => funext (fun i => by rw [m_up_z (by omega), ek _ _ (by omega)]), fun i q => by rw [m_up_z (by omega), ek _ _ (by omega)]⟩
    have ht2 := md_top_e h.top (funext (fun i => ek _ i (by omega))) (fun k q => funext (fun i => ek _ i (by omega)))
    have hin : md_inv (m_up J2 M 0 0) M := ht2.1.fy md_fy_0 (md_kp_0 ht2.1.hkp)
    have hcJ := hcg.mpr q
    have hc : md_cd (m_up J2 M 0 0) M := by
      have := hcJ
      unfold md_cd at this ⊢
      rw [hE.cf, hE.1 22 (by omega), hE.2 32 (by omega), hE.1 19 (by omega)]
      exact this
    have hp6 : J (M + 22) (7 + (a_of (J (M + 22) 0)).1.toNat) + 1 ≤ 6 := by
      have f1 := hcJ.2.2.2
      rw [h.inv.2.1.2.2 _ (by omega)] at f1
      unfold md_fr at f1
      rw [h.inv.2.1.2.1 _ (by omega)] at f1
      have := h.inv.hcl (a_of (J (M + 22) 0)).1.toNat (by omega)
      split at f1 <;> omega
    have hgd := to_gd (F := md_as (md_gd (m_up J2 M 0 0) M 0) M) h (Or.inr ⟨rfl, rfl⟩) hcJ.1 (by omega) e2 hsp h9 h10 h8 h13 (hmo q) rfl
    refine ⟨1, T, J2, P, L, z, w, rfl, rfl, fun b q => ⟨(h.lo b q).1, (funext (fun i => by rw [e2 _ _ (by omega), cl_gd_o ha.2.1 (by omega)])).trans (h.lo b q).2⟩, ?_⟩
    exact c_Md_drop h.sh rfl hin.ok hin.hs hin.hu (fun _ => hgd.1) (fun c => absurd hc c) (fun _ => ⟨_, rfl, rfl, hgd.2⟩)
end TGD
