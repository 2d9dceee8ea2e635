/-! THE TIE: a tick -/
section TTK
variable {en : Nat → Nat} {X M N O z0 w0 : Nat} {T0 : Nat → Option (Nat × Nat)} {J0 : Nat → Nat → Int} {k : Nat} {T T' : Nat → Option (Nat × Nat)} {J J' J1 K : Nat → Nat → Int} {P P' : Nat → Nat → Option Nat} {L L' : Nat → Nat → Int64} {z w z' w' zb wb : Nat} {C : a_C}
theorem m_up_z {f : Nat → Nat → Int} {a j b i : Nat} {v : Int} (h : ¬ (b = a ∧ i = j)) : m_up f a j v b i = f b i := if_neg h
theorem m_up_e {f : Nat → Nat → Int} {a j : Nat} {v : Int} : m_up f a j v a j = v := if_pos ⟨rfl, rfl⟩
/-- a moment copied keeps its relation -/
theorem mo_R_cp {F : Nat → Nat → Int} {A B : Nat} {r : Nat → Int} (h : mo_R J M B r) (f2 : F A 2 = J B 2) (f3 : F A 3 = J B 3) (f4 : F A 4 = J B 4) (fp : po_get F (A + 1) = po_get J (B + 1)) (fs : ∀ i : Nat, i < 16 → F (A + 2) i = J (B + 2) i) (m2 : F (M + 2) = J (M + 2)) (m13 : F (M + 13) = J (M + 13)) : mo_R F M A r := by
  obtain ⟨h1, h2, h3, h4, h5⟩ := h
  unfold mo_R
  rw [fp, f2, f3, f4, m2, m13]
  exact ⟨h1, fun i hi => by rw [fs i hi]; exact h2 i hi, h3, h4, h5⟩
theorem mo_cp_x {A B b i : Nat} (h : b < A ∨ A + 3 ≤ b) : mo_cp J A B b i = J b i := by
  unfold mo_cp
  rw [m_up_o (by omega), m_up_o (by omega), m_up_o (by omega), m_fl_o (by omega), po_put_o (by omega)]
theorem pa_pu_1 {B : Nat} : pa_pu J X B (X + 35) 1 = if J (X + 35) 1 + 1 < 30 then J (X + 35) 1 + 1 else 0 := by
  unfold pa_pu
  rw [m_up_z (by omega), m_up_e]
theorem pa_pu_2 {B : Nat} : pa_pu J X B (X + 35) 2 = min 30 (J (X + 35) 2 + 1) := by
  unfold pa_pu
  rw [m_up_e]
theorem pa_pu_s {B b i : Nat} (h : b ≠ X + 35) : pa_pu J X B b i = mo_cp J (X + 37 + 3 * (J (X + 35) 1).toNat) B b i := by
  unfold pa_pu
  rw [m_up_o h, m_up_o h]
/-- the class's rows behind a tick: log and past -/
theorem cl_tk_3x {c v : Int} {τ : a_S} {b i : Nat} (h : X + 33 ≤ b ∧ b < X + 127) : cl_tk J X c v τ b i = cl_t3 (po_put J (X + 164) τ) X c b i := by
  unfold cl_tk
  rw [cl_mv_o (by omega)]
  unfold cl_t6 cl_t5
  split
  · rw [m_up_o (by omega)]
    unfold cl_t4
    rw [po_put_o (by omega)]
  · rw [m_up_o (by omega), m_up_o (by omega)]
    unfold cl_t4
    rw [po_put_o (by omega)]
theorem cl_tk_pa {c v : Int} {τ : a_S} {b i : Nat} (h : X + 35 ≤ b ∧ b < X + 127) : cl_tk J X c v τ b i = pa_pu (po_put J (X + 164) τ) X (X + 30) b i := by
  rw [cl_tk_3x (by omega)]
  unfold cl_t3
  rw [lo_ad_o (by omega)]
theorem cl_tk_33 {c v : Int} {τ : a_S} (he : 0 ≤ J (X + 35) 1 ∧ J (X + 35) 1 < 30) : cl_tk J X c v τ (X + 33) 1 = (if J (X + 33) 1 + 1 < 70 then J (X + 33) 1 + 1 else 0) ∧ cl_tk J X c v τ (X + 33) 2 = min 70 (J (X + 33) 2 + 1) := by
  have e : ∀ b i, b < X + 35 → pa_pu (po_put J (X + 164) τ) X (X + 30) b i = J b i := fun b i q => by
    rw [pa_pu_o (by rw [po_put_o (by omega)]; exact he) (by omega), po_put_o (by omega)]
  rw [cl_tk_3x (by omega), cl_tk_3x (by omega)]
  unfold cl_t3 lo_ad
  rw [m_up_z (j := 2) (i := 1) (by omega), m_up_e, m_up_e, e _ _ (by omega), e _ _ (by omega)]
  exact ⟨rfl, rfl⟩
theorem cl_tk_34 {c v : Int} {τ : a_S} (he : 0 ≤ J (X + 35) 1 ∧ J (X + 35) 1 < 30) : (∀ i : Nat, i ≠ (J (X + 33) 1).toNat → cl_tk J X c v τ (X + 34) i = J (X + 34) i) ∧ cl_tk J X c v τ (X + 34) (J (X + 33) 1).toNat = lo_en c (J (X + 30) 3) := by
  have e : ∀ b i, b < X + 35 → pa_pu (po_put J (X + 164) τ) X (X + 30) b i = J b i := fun b i q => by
    rw [pa_pu_o (by rw [po_put_o (by omega)]; exact he) (by omega), po_put_o (by omega)]
  refine ⟨fun i hi => ?_, ?_⟩
  · rw [cl_tk_3x (by omega)]
    unfold cl_t3 lo_ad
    rw [m_up_o (by omega), m_up_o (by omega), m_up_z (by rw [e _ _ (by omega)]; omega), e _ _ (by omega)]
  · rw [cl_tk_3x (by omega)]
    unfold cl_t3 lo_ad
    rw [m_up_o (by omega), m_up_o (by omega), e _ _ (by omega), e _ _ (by omega)]
    exact m_up_e
theorem cl_tk_132 {c v : Int} {τ : a_S} (he : 0 ≤ J (X + 35) 1 ∧ J (X + 35) 1 < 30) : cl_tk J X c v τ (X + 132) 13 = J (X + 132) 13 + 1 ∧ cl_tk J X c v τ (X + 132) 9 = 0 ∧ ∀ i, i ≠ 13 → i ≠ 9 → cl_tk J X c v τ (X + 132) i = J (X + 132) i := by
  have e : ∀ i, cl_t6 (po_put J (X + 164) τ) X c v (X + 132) i = J (X + 132) i := fun i => by
    unfold cl_t6 cl_t5
    split
    · rw [m_up_o (by omega), cl_t4_o he (by omega), po_put_o (by omega)]
    · rw [m_up_o (by omega), m_up_o (by omega), cl_t4_o he (by omega), po_put_o (by omega)]
  unfold cl_tk cl_mv
  refine ⟨by rw [m_up_e, e], by rw [m_up_z (by omega), m_up_e], fun i h1 h2 => by rw [m_up_z (by omega), m_up_z (by omega), e]⟩
/-- the slot of the ring that a tick fills, and those that it leaves -/
theorem cl_tk_sl {c v : Int} {τ : a_S} (he : 0 ≤ J (X + 35) 1 ∧ J (X + 35) 1 < 30) {A : Nat} (hA : A = X + 37 + 3 * (J (X + 35) 1).toNat) : (cl_tk J X c v τ A 2 = J (X + 30) 2 ∧ cl_tk J X c v τ A 3 = J (X + 30) 3 ∧ cl_tk J X c v τ A 4 = J (X + 30) 4) ∧ po_get (cl_tk J X c v τ) (A + 1) = po_get J (X + 31) ∧ (∀ i : Nat, i < 16 → cl_tk J X c v τ (A + 2) i = J (X + 32) i) ∧
    ∀ b i, X + 37 ≤ b → b < X + 127 → ¬ (A ≤ b ∧ b < A + 3) → cl_tk J X c v τ b i = J b i := by
  have hA2 : X + 37 + 3 * (po_put J (X + 164) τ (X + 35) 1).toNat = A := by rw [po_put_o (by omega)]; exact hA.symm
  have e : ∀ b i, X + 37 ≤ b → b < X + 127 → cl_tk J X c v τ b i = mo_cp (po_put J (X + 164) τ) A (X + 30) b i := fun b i q1 q2 => by rw [cl_tk_pa (by omega), pa_pu_s (by omega), hA2]
  refine ⟨⟨?_, ?_, ?_⟩, ?_, fun i hi => ?_, fun b i q1 q2 q3 => ?_⟩
  · rw [e _ _ (by omega) (by omega), mo_cp_2, po_put_o (by omega)]
  · rw [e _ _ (by omega) (by omega), mo_cp_3, po_put_o (by omega)]
  · rw [e _ _ (by omega) (by omega), mo_cp_4, po_put_o (by omega)]
  · rw [po_get_e (J := mo_cp (po_put J (X + 164) τ) A (X + 30)) (fun i => e _ i (by omega) (by omega)), mo_cp_p]
    exact po_get_e (fun i => po_put_o (by omega))
  · rw [e _ _ (by omega) (by omega), mo_cp_s hi, po_put_o (by omega)]
  · rw [e _ _ q1 q2, mo_cp_x (by omega), po_put_o (by omega)]
/-- a world whose searches from now are forgotten -/
theorem cl_W_mv {F : Nat → Nat → Int} (h : cl_W en X N zb wb (cl_cf J X) T J P z w) (hm : cl_mo F X) (f1 : ∀ b i, (X + 17 ≤ b ∧ b < X + 30) ∨ b = X + 32 ∨ (X + 133 ≤ b ∧ b < X + 164) ∨ N ≤ b → F b i = J b i) (f2 : F (X + 30) 2 = J (X + 30) 2) (f9 : F (X + 132) 9 = 0) (f10 : F (X + 132) 10 = J (X + 132) 10) (f8 : F (X + 132) 8 = J (X + 132) 8) : cl_cf F X = cl_cf J X ∧ cl_W en X N zb wb (cl_cf F X) T F P z w := by
  obtain ⟨hV, ⟨h1, h2, h3, h4, h5⟩, h6, h7, h8⟩ := h
  have ecf : cl_cf F X = cl_cf J X := by
    unfold cl_cf pl_cf
    have e1 : pl_fr F (X + 17) = pl_fr J (X + 17) := by
      funext f x
      unfold pl_fr
      rw [f1 (X + 17) 0 (by omega), f1 (X + 17) 1 (by omega), f1 (X + 17 + 1) _ (by omega)]
    rw [e1, f1 (X + 17) 0 (by omega), f1 (X + 17) 1 (by omega), f1 (X + 17) 2 (by omega), f1 (X + 17) 3 (by omega), f2, show F (X + 32) = J (X + 32) from funext (fun i => f1 _ i (by omega))]
  refine ⟨ecf, ?_⟩
  rw [ecf]
  have hz := cl_z hV (o := 144) (Or.inr (Or.inl rfl))
  have hs : cl_sm X 144 T J P T F P := ⟨⟨rfl, rfl, rfl, rfl⟩, fun i => f1 _ i (by omega), funext (fun i => f1 _ i (by omega)), funext (fun i => f1 _ i (by omega))⟩
  refine ⟨hV, ⟨pl_ok_e h1 (fun b i p q => f1 b i (by omega)), hm, h3, by rw [ecf]; exact h4, sp_is_e h5 (fun i => f1 _ i (by omega)) (fun i => f1 _ i (by omega)) (fun i => f1 _ i (by omega))⟩, Or.inl f9, ?_, ?_⟩
  · unfold cl_cm at h7 ⊢
    rw [f10]
    rcases h7 with q | q
    · exact Or.inl q
    · exact Or.inr ⟨q.1, cl_g_sm hs q.2⟩
  · have e1 : ∀ k, cl_spt F X k = cl_spt J X k := fun k => by unfold cl_spt; rw [f1 (X + 21) k (by omega), f1 (X + 22) k (by omega)]
    unfold cl_cl cl_leg at h8 ⊢
    simp only [f8, f1 (X + 154) _ (by omega), e1, f1 (X + 29) 5 (by omega)]
    exact h8
theorem pl_R_f (h : pl_R J X M) (eX : ∀ k, 17 ≤ k → k < 30 → J' (X + k) = J (X + k)) (eM : ∀ k, 1 ≤ k → k ≤ 17 → J' (M + k) = J (M + k)) : pl_R J' X M := by
  unfold pl_R at h ⊢
  rw [eX 17 (by omega) (by omega), eX 18 (by omega) (by omega), eX 20 (by omega) (by omega), eX 21 (by omega) (by omega), eX 22 (by omega) (by omega), eX 23 (by omega) (by omega), eX 24 (by omega) (by omega), eX 25 (by omega) (by omega), eX 26 (by omega) (by omega), eX 27 (by omega) (by omega), eX 28 (by omega) (by omega), eX 29 (by omega) (by omega), eM 2 (by omega) (by omega), eM 4 (by omega) (by omega), eM 5 (by omega) (by omega), eM 6 (by omega) (by omega), eM 10 (by omega) (by omega), eM 11 (by omega) (by omega), eM 12 (by omega) (by omega), eM 13 (by omega) (by omega), eM 14 (by omega) (by omega), eM 15 (by omega) (by omega), eM 17 (by omega) (by omega)]
  exact h
theorem a_why_sw {σ : a_S} (h : a_why C σ = 0) : a_abs σ.2.1 ≤ C.2.2.1 ∧ a_abs σ.2.2.1 ≤ C.2.2.2.1 := by
  unfold a_why at h
  by_cases c1 : C.2.2.1 < a_abs σ.2.1
  · rw [if_pos c1] at h
    split at h <;> omega
  · by_cases c2 : C.2.2.2.1 < a_abs σ.2.2.1
    · rw [if_neg c1, if_pos c2] at h
      split at h
      · omega
      · split at h <;> omega
    · omega
/-- a tick of the class and of the reference: r' is the reference's row behind it -/
theorem to_tk {F : Nat → Nat → Int} {c v : Int} {τ : a_S} {r' : Nat → Int} (h : to_I en X M N O z0 w0 T0 J0 k T J P L z w) (hv0 : v = 0 ∨ v = 1) (hc : 0 ≤ c ∧ c < 9) (eτ : τ = a_step (po_get J (X + 31)) c (cl_wd J X (J (X + 30) 3))) (ht : J (X + 30) 3 < 9999) (hw : a_why (cl_cf J X) τ = 0) (hk : J (X + 132) 13 + 1 ≤ 50 * (k : Int) + 10)
    (fX : ∀ b i, b < M ∨ M + 27 ≤ b → F b i = cl_tk J X c v τ b i) (fo : ∀ b i, M < b → b ≤ M + 26 → b ≠ M + 22 → b ≠ M + 23 → F b i = J b i) (fM : ∀ i, (0 < i ∧ i < 33) ∨ 37 < i → i ≠ 45 → F M i = J M i)
    (f45 : F M 45 = if J M 45 = 30 then 30 else J M 45 + 1) (f23 : ∀ i, F (M + 23) i = md_rem J M (M + 23) i) (f22 : ∀ i, F (M + 22) i = r' i) (hinv : md_inv F M)
    (hr0 : r' 0 = a_no τ) (hr1 : r' 1 = J (M + 22) 1 + 1) (hr5 : r' 5 = J (M + 22) 5) (hr7 : ∀ i : Nat, i < 16 → r' (7 + i) = J (M + 22) (7 + i)) (hr : ∀ i, 5 ≤ i → r' i = a_tik (J (M + 22)) c (a_no τ) i) (hr4 : r' 4 = J (M + 22) 4 + (if v = 0 then 0 else 1))
    (ho : r' 4 = a_sum (J (M + 13)) (r' 2).toNat + r' 3 ∧ r' 2 ≤ J (M + 2) 5 ∧ (r' 2 < J (M + 2) 5 → r' 3 < J (M + 13) (r' 2).toNat) ∧ (r' 2 = J (M + 2) 5 → r' 3 = 0)) : to_I en X M N O z0 w0 T0 J0 k T F P L z w ∧ F (X + 132) 13 = J (X + 132) 13 + 1 := by
  have hen := h.en0
  have ht2 := h.top
  have hR := h.rel
  have hpi := to_pi h
  have hwd := to_why h
  have hmo := h.mo
  have hlo := h.cK.2.2.1
  obtain ⟨⟨⟨zb, wb, hW, hz, hwb⟩, hM, -⟩, ⟨hb, hO, hO2⟩, hK, -, hB, hl⟩ := id h
  obtain ⟨hp, ⟨hm, hlg⟩, ha, hi, hre⟩ := id hR
  have he := ha.2.1
  have hn := ht2.1.hu
  have hbx : a_bx τ := by
    rw [hwd, eτ, hpi] at hw
    rw [eτ, hpi]
    exact a_why_bx ht2.1.ok ht2.1.hs.1 (by have := ht2.1.hs; omega) hw
  obtain ⟨k13, k9, k132⟩ := cl_tk_132 (J := J) (X := X) (c := c) (v := v) (τ := τ) he
  obtain ⟨⟨s2, s3, s4⟩, s5, s6, s7⟩ := cl_tk_sl (J := J) (X := X) (c := c) (v := v) (τ := τ) he (A := X + 37 + 3 * (J (X + 35) 1).toNat) rfl
  obtain ⟨g1, g2⟩ := cl_tk_33 (J := J) (X := X) (c := c) (v := v) (τ := τ) he
  obtain ⟨g3, g4⟩ := cl_tk_34 (J := J) (X := X) (c := c) (v := v) (τ := τ) he
  have hmoF : cl_mo F X := by
    obtain ⟨q1, q2, q3, q4, q5⟩ := hmo
    refine ⟨fun i hi => ?_, ?_, ?_, ?_, ?_⟩
    · rw [fX _ _ (by omega), cl_tk_o he (by omega)]; exact q1 i hi
    · rw [fX _ _ (by omega), cl_tk_2 he]; exact q2
    · rw [fX _ _ (by omega), cl_tk_3 he]; omega
    · rw [fX _ _ (by omega), cl_tk_4 he]
      have := ht2.1.row.2.2.2.1
      rw [hm.2.2.1.2.2]
      rw [hm.2.2.1.2.1] at ht
      split <;> omega
    · rw [po_get_e (J := cl_tk J X c v τ) (fun i => fX _ i (by omega)), cl_tk_p he]
      exact hbx
  have f1 : ∀ b i, (X + 17 ≤ b ∧ b < X + 30) ∨ b = X + 32 ∨ (X + 133 ≤ b ∧ b < X + 164) ∨ N ≤ b → F b i = J b i := fun b i q => by
    rw [fX _ _ (by omega), cl_tk_o he (by omega)]
  obtain ⟨ecf, hWF⟩ := cl_W_mv hW hmoF f1 (by rw [fX _ _ (by omega), cl_tk_2 he]) (by rw [fX _ _ (by omega), k9]) (by rw [fX _ _ (by omega), k132 _ (by omega) (by omega)]) (by rw [fX _ _ (by omega), k132 _ (by omega) (by omega)])
  have m2 : F (M + 2) = J (M + 2) := funext (fun i => fo _ _ (by omega) (by omega) (by omega) (by omega))
  have m13 : F (M + 13) = J (M + 13) := funext (fun i => fo _ _ (by omega) (by omega) (by omega) (by omega))
  have ver : F (X + 132) 13 = J (X + 132) 13 + 1 := by rw [fX _ _ (by omega), k13]
  have e157 : F (X + 157) = J (X + 157) := funext (fun i => f1 _ _ (by omega))
  have e160 : F (X + 160) = J (X + 160) := funext (fun i => f1 _ _ (by omega))
  have el : ∀ b, b < X + 30 → F b = J b := fun b q => funext (fun i => by rw [fX _ _ (by omega), cl_tk_o he (by omega)])
  have eh : ∀ b, X + 127 ≤ b → b < X + 132 → F b = J b := fun b q q2 => funext (fun i => by rw [fX _ _ (by omega), cl_tk_o he (by omega)])
  have e34 : ∀ i, F (X + 34) i = cl_tk J X c v τ (X + 34) i := fun i => fX _ _ (by omega)
  have e33 : ∀ i, F (X + 33) i = cl_tk J X c v τ (X + 33) i := fun i => fX _ _ (by omega)
  have ht3 : 0 ≤ J (M + 22) 1 ∧ J (M + 22) 1 ≤ 9999 := ht2.1.ht
  have hfN : ∀ i : Nat, i < 70 → i ≠ (J (X + 33) 1).toNat → F (X + 34) i = J (X + 34) i := fun i _ q => by rw [e34, g3 i q]
  have hlv := lo_en_v hc ht3
  have hal := a_let_bd c
  refine ⟨⟨⟨⟨zb, wb, hWF, hz, hwb⟩, hM, hinv, ?_, ?_, ?_⟩, ⟨hb, hO, hO2⟩, ?_, ⟨?_, ⟨?_, ?_⟩, ?_, ?_, ?_⟩, ?_, fun b q => ⟨(hl b q).1, by rw [el b (by omega)]; exact (hl b q).2⟩⟩, ver⟩
  · intro k2 a b i hi
    rw [fo _ _ (by omega) (by omega) (by omega) (by omega)]
    exact ht2.2.1 k2 a b i hi
  · rw [fM 2 (by omega) (by omega), show F (M + 1) = J (M + 1) from funext (fun i => fo _ _ (by omega) (by omega) (by omega) (by omega))]
    exact ht2.2.2.1
  · rw [fM 24 (by omega) (by omega)]
    exact ht2.2.2.2
  · obtain ⟨⟨a1, a2, a3, a4, a5⟩, a6, ⟨a7, a8⟩, a9, a10, a11, a12⟩ := hK
    refine ⟨⟨?_, pl_ok_e a2 (fun b i p q => by rw [el b (by omega)]), ?_, ?_, ?_⟩, ?_, ⟨?_, ?_⟩, ?_, ?_, ?_, ?_⟩
    · rw [el _ (by omega), el _ (by omega)]; exact a1
    · rw [el _ (by omega)]; exact a3
    · unfold re_st at a4 ⊢
      rw [el _ (by have := a4.1.2; omega)]
      exact a4
    · rw [el _ (by omega)]; exact a5
    · unfold cl_os at a6 ⊢
      rw [el _ (by have := a6.1.2; omega)]
      exact a6
    · refine ⟨?_, ?_, fun i hi => ?_⟩
      · rw [e33, g1]; have := a7.1; split <;> omega
      · rw [e33, g2]; have := a7.2.1; omega
      · by_cases q : i = (J (X + 33) 1).toNat
        · rw [show F (X + 33 + 1) i = F (X + 34) i from rfl, e34, q, g4, hm.2.2.1.2.1, hlv]
          have hv : (if c % 3 = 0 then (1 : Int) else 0) = 0 ∨ (if c % 3 = 0 then (1 : Int) else 0) = 1 := by split <;> omega
          omega
        · rw [show F (X + 33 + 1) i = F (X + 34) i from rfl, hfN i hi q]
          exact a7.2.2 i hi
    · unfold lo_ok at a8 ⊢
      rw [eh (X + 130) (by omega) (by omega), eh (X + 130 + 1) (by omega) (by omega)]
      exact a8
    · rw [el _ (by omega)]; exact a9
    · rw [ver]; omega
    · rw [ver, e157]; omega
    · rw [ver, e160]; omega
  · exact pl_R_f hp (fun k2 q1 q2 => el _ (by omega)) (fun k2 q1 q2 => funext (fun i => fo _ _ (by omega) (by omega) (by omega) (by omega)))
  · rw [show F (M + 22) = r' from funext f22]
    refine ⟨?_, fun i hi => ?_, ⟨?_, ?_, ?_⟩, ⟨?_, ?_⟩, ?_⟩
    · rw [po_get_e (J := cl_tk J X c v τ) (fun i => fX _ i (by omega)), cl_tk_p he, hr0, a_of_no hbx]
    · rw [show F (X + 30 + 2) i = J (X + 32) i from f1 _ _ (by omega), hr7 i hi]
      exact hm.2.1 i hi
    · rw [fX _ _ (by omega), cl_tk_2 he, hr5]
      exact hm.2.2.1.1
    · rw [fX _ _ (by omega), cl_tk_3 he, hr1, hm.2.2.1.2.1]
    · rw [fX _ _ (by omega), cl_tk_4 he, hr4, hm.2.2.1.2.2]
    · rw [hr0, a_of_no hbx, m2]
      have hs := (a_why_sw hw).2
      show a_abs τ.2.2.1 ≤ J (M + 2) 3
      rw [← hp.1.1.2.2.2.1]
      exact hs
    · rw [hr0, a_of_no hbx, m2, eτ, hpi]
      exact hm.2.2.2.1.1
    · rw [m2, m13]
      exact ho
  · rw [show F (M + 22) = r' from funext f22, e33, e33, g1, g2]
    have h12 := lo_R_new (f := J (X + 34)) (f' := F (X + 34)) (e := J (X + 33) 1) (s := J (X + 33) 2) (c := c) (n := a_no τ) (r := J (M + 22)) (r' := a_tik (J (M + 22)) c (a_no τ)) hlo.1.1 hlo.1.2.1 hc ht3 hfN (by rw [e34, g4, hm.2.2.1.2.1]) (fun _ => rfl) hlg
    refine ⟨h12.1, ?_, fun k2 hk2 => ?_⟩
    · rw [hr 6 (by omega)]; exact h12.2.1
    · rw [hr 6 (by omega)] at hk2
      rw [hr (23 + k2) (by omega), hr (63 + k2) (by omega), hr (103 + k2) (by omega)]
      exact h12.2.2 k2 hk2
  · refine pa_push ha hlg hn (by rw [fX _ _ (by omega), cl_tk_pa (by omega), pa_pu_1, po_put_o (by omega)]) (by rw [fX _ _ (by omega), cl_tk_pa (by omega), pa_pu_2, po_put_o (by omega)]) ?_ (fun j hj hne => ⟨?_, ?_, ?_⟩) m2 m13 f45 f23 ⟨by rw [f22, hr1]; omega, fun _ => ⟨by rw [f22, hr5], fun i hi => by rw [f22, hr7 i hi]⟩⟩ (dt := 1) (Or.inr rfl) (by rw [f22, hr1]) (fun t r ht4 hlr => ?_)
    · refine mo_R_cp hm ?_ ?_ ?_ ?_ (fun i hi => ?_) m2 m13
      · rw [fX _ _ (by omega), s2]
      · rw [fX _ _ (by omega), s3]
      · rw [fX _ _ (by omega), s4]
      · rw [po_get_e (J := cl_tk J X c v τ) (fun i => fX _ i (by omega)), s5]
      · rw [fX _ _ (by omega), s6 i hi]
    · exact funext (fun i => by rw [fX _ _ (by omega), s7 _ _ (by omega) (by omega) (by omega)])
    · exact funext (fun i => by rw [fX _ _ (by omega), s7 _ _ (by omega) (by omega) (by omega)])
    · exact funext (fun i => by rw [fX _ _ (by omega), s7 _ _ (by omega) (by omega) (by omega)])
    · rw [e33, e33, g1, g2]
      exact lo_R_add hlo.1.1 hlo.1.2.1 hfN ht4 hlr
  · unfold im_R at hi ⊢
    rw [el X (by omega), fM 46 (by omega) (by omega), eh (X + 130) (by omega) (by omega), eh (X + 131) (by omega) (by omega)]
    have e23 : ∀ i, F (M + 23) (4290 + i) = J (M + 23) (4290 + i) := fun i => by
      rw [f23]
      by_cases q : J M 45 = 30
      · rw [md_rem_30 q, if_neg (by omega), if_neg (by omega)]
      · rw [md_rem_n (by omega), if_neg (by omega)]
    simp only [e23]
    exact ⟨hi.1, fun q => ⟨mo_R_e (hi.2 q).1 (eh _ (by omega) (by omega)) (eh _ (by omega) (by omega)) (eh _ (by omega) (by omega)) m2 m13, (hi.2 q).2⟩⟩
  · unfold re_R at hre ⊢
    rw [el (X + 1) (by omega), el (X + 2) (by omega), fM 2 (by omega) (by omega), fM 27 (by omega) (by omega), fM 28 (by omega) (by omega), show F (M + 1) = J (M + 1) from funext (fun i => fo _ _ (by omega) (by omega) (by omega) (by omega))]
    exact hre
  · refine ⟨fun q => ?_, fun q => ?_⟩
    · rw [ver, e157] at q
      have := hK.2.2.2.2.2.1
      omega
    · rw [ver, e160] at q
      have := hK.2.2.2.2.2.2
      omega
end TTK
