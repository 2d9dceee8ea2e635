/-! THE TIE: text -/
section TXT
variable {en : Nat → Nat} {X M N O z0 w0 : Nat} {T0 : Nat → Option (Nat × Nat)} {J0 : Nat → Nat → Int} {k : Nat} {T T' : Nat → Option (Nat × Nat)} {J J' J1 K : Nat → Nat → Int} {P P' : Nat → Nat → Option Nat} {L L' : Nat → Nat → Int64} {z w z' w' zb wb : Nat} {C : a_C}
theorem a_sum_p {f g : Nat → Int} : ∀ n : Nat, (∀ i, i < n → f i = g i) → a_sum f n = a_sum g n := by
  intro n
  induction n with
  | zero => intro _; rfl
  | succ n ih => intro h; unfold a_sum; rw [ih (fun i q => h i (by omega)), h n (by omega)]
theorem mo_R_q {F : Nat → Nat → Int} {B : Nat} {r : Nat → Int} (h : mo_R J M B r) (e0 : F B = J B) (e1 : F (B + 1) = J (B + 1)) (e2 : F (B + 2) = J (B + 2)) (m2 : ∀ i : Nat, i < 13 → F (M + 2) i = J (M + 2) i) (m13 : ∀ i : Nat, i < 16 → F (M + 13) i = J (M + 13) i) (b5 : J (M + 2) 5 ≤ 16) : mo_R F M B r := by
  obtain ⟨h1, h2, h3, h4, h5, h6, h7, h8⟩ := h
  unfold mo_R
  rw [e0, e2, m2 3 (by omega), m2 5 (by omega), a_sum_p (f := F (M + 13)) (g := J (M + 13)) _ (fun i q => m13 i (by omega)), po_get_e (J := J) (fun i => by rw [e1])]
  refine ⟨h1, h2, h3, h4, h5, h6, fun q => ?_, h8⟩
  rw [m13 _ (by omega)]
  exact h7 q
/-- rows of the reference whose first halves are as they were -/
def md_H (F J : Nat → Nat → Int) (M : Nat) : Prop := (∀ i : Nat, i < 13 → F (M + 2) i = J (M + 2) i) ∧ (∀ k : Nat, 4 ≤ k → k ≤ 9 → ∀ i : Nat, i < 6 → F (M + k) i = J (M + k) i) ∧ (∀ k : Nat, k = 10 ∨ k = 11 → ∀ i : Nat, i < 8 → F (M + k) i = J (M + k) i) ∧ (∀ k : Nat, k = 12 ∨ k = 13 → ∀ i : Nat, i < 16 → F (M + k) i = J (M + k) i) ∧ (∀ k : Nat, k = 14 ∨ k = 15 → ∀ i : Nat, i < 3 → F (M + k) i = J (M + k) i) ∧ ∀ k : Nat, 17 ≤ k → k ≤ 26 → F (M + k) = J (M + k)
theorem pl_R_q {F : Nat → Nat → Int} (h : pl_R J X M) (eX : ∀ k, 17 ≤ k → k < 30 → F (X + k) = J (X + k)) (hH : md_H F J M) (hp : md_pl J M) : pl_R F X M := by
  obtain ⟨m0, m1, m2, m3, m4, m5⟩ := hH
  obtain ⟨-, -, -, -, b4, b5, b6, -, b11, -⟩ := hp
  obtain ⟨p0, p1, p2, p3, p4, p5, p6⟩ := h
  unfold pl_R
  rw [eX 17 (by omega) (by omega), eX 18 (by omega) (by omega), eX 20 (by omega) (by omega), eX 21 (by omega) (by omega), eX 22 (by omega) (by omega), eX 23 (by omega) (by omega), eX 24 (by omega) (by omega), eX 25 (by omega) (by omega), eX 26 (by omega) (by omega), eX 27 (by omega) (by omega), eX 28 (by omega) (by omega), eX 29 (by omega) (by omega), m0 0 (by omega), m0 1 (by omega), m0 2 (by omega), m0 3 (by omega), m0 4 (by omega), m0 5 (by omega), m0 6 (by omega), m0 8 (by omega), m0 11 (by omega), m5 17 (by omega) (by omega)]
  refine ⟨p0, fun i hi => ?_, fun i hi => ?_, fun i j hij hj => ?_, fun i hi => ?_, fun i hi => ?_, p6⟩
  · rw [m1 4 (by omega) (by omega) i (by omega), m1 5 (by omega) (by omega) i (by omega), m1 6 (by omega) (by omega) i (by omega)]; exact p1 i hi
  · rw [m2 10 (by omega) i (by omega), m2 11 (by omega) i (by omega)]; exact p2 i hi
  · rw [m2 10 (by omega) i (by omega), m2 10 (by omega) j (by omega)]; exact p3 i j hij hj
  · rw [m3 12 (by omega) i (by omega), m3 13 (by omega) i (by omega)]; exact p4 i hi
  · rw [m4 14 (by omega) i (by omega), m4 15 (by omega) i (by omega)]; exact p5 i hi
/-- a text was read with a fault -/
theorem to_rd {F : Nat → Nat → Int} (h : to_I en X M N O z0 w0 T0 J0 k T J P L z w) (fX : ∀ b i, b ≠ X + 1 → ¬ (X + 3 ≤ b ∧ b ≤ X + 15) → ¬ (M ≤ b ∧ b ≤ M + 26) → F b i = J b i) (f1 : F (X + 1) 1 = 0) (hpk : pl_ok F (X + 3)) (hwt : ∀ i : Nat, i < 8 → 0 ≤ F (X + 9) i ∧ F (X + 9) i ≤ 1000 + (i : Int)) (htop : md_top F M) (hm2 : F M 2 = 0) (hH : md_H F J M) (h45 : F M 45 = J M 45) (h46 : F M 46 = J M 46) (hf3 : F (X + 1) 3 = F M 27) (hf4 : F (X + 1) 4 = F M 28) : to_I en X M N O z0 w0 T0 J0 (k + 1) T F P L z w := by
  have hen := h.en0
  have hu := h.inv.hu
  have hmp := h.inv.1.1
  have b5 : J (M + 2) 5 ≤ 16 := hmp.2.2.2.2.2.1.2
  obtain ⟨⟨⟨zb, wb, hWJ, hz, hw⟩, hM, -, hr, -, hv⟩, hO, hK, hR, hB, hlw⟩ := h
  have hb := hO.1
  obtain ⟨⟨a1, a2, a3, a4, a5⟩, a6, ⟨a7, a8⟩, a9, a10, a11, a12⟩ := hK
  obtain ⟨hpl, ⟨hm, hl⟩, hp, hi, hre0⟩ := hR
  have er : ∀ k, 16 ≤ k → k < 165 → F (X + k) = J (X + k) := fun k q1 q2 => funext (fun i => fX _ _ (by omega) (by omega) (by omega))
  have el : ∀ b, b < X + 1 → F b = J b := fun b q => funext (fun i => fX _ _ (by omega) (by omega) (by omega))
  have e2 : F (X + 2) = J (X + 2) := funext (fun i => fX _ _ (by omega) (by omega) (by omega))
  have m0 := hH.1
  have m13 := hH.2.2.2.1 13 (by omega)
  have mk := hH.2.2.2.2.2
  have m22 := mk 22 (by omega) (by omega)
  have m23 := mk 23 (by omega) (by omega)
  obtain ⟨ecf, hWF⟩ := cl_W_y hWJ (fun b i q => fX b i (by omega) (by omega) (by omega))
  refine ⟨⟨⟨zb, wb, hWF, by omega, by omega⟩, hM, htop⟩, hO, ⟨⟨⟨by omega, by rw [e2]; exact a1.2⟩, hpk, ?_, ?_, hwt⟩, ?_, ⟨?_, ?_⟩, ?_, ?_, ?_, ?_⟩, ⟨pl_R_q hpl (fun k2 q1 q2 => er _ (by omega) (by omega)) hH hmp, ⟨?_, ?_⟩, ?_, ?_, ⟨by rw [f1, hm2], fun i q => by rw [hm2] at q; omega, hf3, hf4⟩⟩, ?_, fun b q => ⟨(hlw b q).1, by rw [el b (by omega)]; exact (hlw b q).2⟩⟩
  · rw [er 16 (by omega) (by omega)]; exact a3
  · unfold re_st at a4 ⊢
    rw [el _ (by have := a4.1.2; omega)]
    exact a4
  · unfold cl_os at a6 ⊢
    rw [el _ (by have := a6.1.2; omega)]
    exact a6
  · unfold lo_ok at a7 ⊢
    rw [er 33 (by omega) (by omega), show F (X + 33 + 1) = J (X + 33 + 1) from er 34 (by omega) (by omega)]
    exact a7
  · unfold lo_ok at a8 ⊢
    rw [er 130 (by omega) (by omega), show F (X + 130 + 1) = J (X + 130 + 1) from er 131 (by omega) (by omega)]
    exact a8
  · rw [er 16 (by omega) (by omega)]; exact a9
  · rw [er 132 (by omega) (by omega), Int.natCast_add]; omega
  · rw [er 132 (by omega) (by omega), er 157 (by omega) (by omega)]; exact a11
  · rw [er 132 (by omega) (by omega), er 160 (by omega) (by omega)]; exact a12
  · rw [m22]
    exact mo_R_q hm (er 30 (by omega) (by omega)) (er 31 (by omega) (by omega)) (er 32 (by omega) (by omega)) m0 m13 b5
  · rw [m22, er 33 (by omega) (by omega), er 34 (by omega) (by omega)]
    exact hl
  · obtain ⟨h1, h2, h3, h4⟩ := hp
    unfold pa_R
    rw [er 35 (by omega) (by omega), er 34 (by omega) (by omega), er 33 (by omega) (by omega), m22, m23, h45]
    refine ⟨h1, h2, fun k2 hk => ?_, h4⟩
    have hbx := pa_ix_b h2 hu.2 ⟨Int.natCast_nonneg k2, hk⟩
    obtain ⟨x1, x2, x3⟩ := h3 k2 hk
    refine ⟨mo_R_q x1 ?_ ?_ ?_ m0 m13 b5, x2, x3⟩
    · rw [Nat.add_assoc X 37]; exact er _ (by omega) (by omega)
    · rw [Nat.add_assoc X 37, Nat.add_assoc X]; exact er _ (by omega) (by omega)
    · rw [Nat.add_assoc X 37, Nat.add_assoc X]; exact er _ (by omega) (by omega)
  · unfold im_R at hi ⊢
    rw [el X (by omega), h46, m23, er 130 (by omega) (by omega), er 131 (by omega) (by omega)]
    exact ⟨hi.1, fun q => ⟨mo_R_q (hi.2 q).1 (er 127 (by omega) (by omega)) (er 128 (by omega) (by omega)) (er 129 (by omega) (by omega)) m0 m13 b5, (hi.2 q).2⟩⟩
  · rw [ecf]
    exact cl_B_g hB (fun k2 q1 q2 => er _ (by omega) (by omega)) (by rw [er 132 (by omega) (by omega)]) (er 157 (by omega) (by omega)) (er 159 (by omega) (by omega)) (er 160 (by omega) (by omega)) (er 163 (by omega) (by omega))
/-- a text was taken -/
theorem to_tx {F : Nat → Nat → Int} (h : to_I en X M N O z0 w0 T0 J0 k T J P L z w) (hW : ∀ zb wb, cl_W en X N zb wb (cl_cf J X) T J P z w → cl_W en X N zb wb (cl_cf F X) T F P z w) (htop : md_top F M) (el : ∀ b, b < X → F b = J b) (e2 : F (X + 2) = J (X + 2)) (e16 : F (X + 16) = J (X + 16)) (eh : ∀ b, X + 127 ≤ b → b < X + 132 → F b = J b) (f1 : F (X + 1) 1 = 0) (hpk : pl_ok F (X + 3)) (hwt : ∀ i : Nat, i < 8 → 0 ≤ F (X + 9) i ∧ F (X + 9) i ≤ 1000 + (i : Int))
    (l1 : F (X + 33) 1 = 0) (l2 : F (X + 33) 2 = 0) (l3 : F (X + 34) = J (X + 34)) (ver : F (X + 132) 13 = J (X + 132) 13 + 1) (e157 : F (X + 157) 5 = J (X + 157) 5) (e160 : F (X + 160) 7 = J (X + 160) 7)
    (hpl : pl_R F X M) (hm : mo_R F M (X + 30) (F (M + 22))) (p1 : F (X + 35) 1 = 0) (p2 : F (X + 35) 2 = 0) (h45 : F M 45 = 0) (h7 : F X 7 = 0) (h46 : F M 46 = 0) (h6 : F (M + 22) 6 = 0) (hm2 : F M 2 = 0) (hf3 : F (X + 1) 3 = F M 27) (hf4 : F (X + 1) 4 = F M 28) : to_I en X M N O z0 w0 T0 J0 (k + 1) T F P L z w := by
  have hen := h.en0
  obtain ⟨⟨⟨zb, wb, hWJ, hz, hw⟩, hM, -, -⟩, hO, hK, -, hB, hlw⟩ := h
  obtain ⟨⟨a1, a2, a3, a4, a5⟩, a6, ⟨a7, a8⟩, a9, a10, a11, a12⟩ := hK
  refine ⟨⟨⟨zb, wb, hW zb wb hWJ, by omega, by omega⟩, hM, htop⟩, hO, ⟨⟨⟨by omega, by rw [e2]; exact a1.2⟩, hpk, ?_, ?_, hwt⟩, ?_, ⟨?_, ?_⟩, ?_, ?_, ?_, ?_⟩, ⟨hpl, ⟨hm, ?_⟩, ?_, ⟨by rw [h7, h46], fun q => by rw [h46] at q; omega⟩, ⟨by rw [f1, hm2], fun i q => by rw [hm2] at q; omega, hf3, hf4⟩⟩, ⟨fun q => ?_, fun q => ?_⟩, fun b q => ⟨(hlw b q).1, by rw [el b q]; exact (hlw b q).2⟩⟩
  · rw [e16]; exact a3
  · unfold re_st at a4 ⊢
    rw [el _ (by have := a4.1.2; omega)]
    exact a4
  · unfold cl_os at a6 ⊢
    rw [el _ (by have := a6.1.2; omega)]
    exact a6
  · unfold lo_ok at a7 ⊢
    rw [l1, l2, show F (X + 33 + 1) = J (X + 33 + 1) from l3]
    exact ⟨by omega, by omega, a7.2.2⟩
  · unfold lo_ok at a8 ⊢
    rw [eh (X + 130) (by omega) (by omega), eh (X + 130 + 1) (by omega) (by omega)]
    exact a8
  · rw [e16]; exact a9
  · rw [ver, Int.natCast_add]; omega
  · rw [ver, e157]; omega
  · rw [ver, e160]; omega
  · unfold lo_R
    rw [l2, h6]
    exact ⟨by omega, by omega, fun k2 q => by omega⟩
  · unfold pa_R
    rw [p1, p2, h45]
    exact ⟨rfl, by omega, fun k2 q => by omega, fun k2 q => by omega, fun k2 q => by omega⟩
  · rw [ver, e157] at q; omega
  · rw [ver, e160] at q; omega
end TXT
