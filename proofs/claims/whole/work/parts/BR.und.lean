/-! THE TIE: undo, keep, back -/
section TUN
variable {en : Nat → Nat} {X M N O z0 w0 : Nat} {T0 : Nat → Option (Nat × Nat)} {J0 : Nat → Nat → Int} {k : Nat} {T T' : Nat → Option (Nat × Nat)} {J J' J1 K : Nat → Nat → Int} {P P' : Nat → Nat → Option Nat} {L L' : Nat → Nat → Int64} {z w z' w' zb wb : Nat} {C : a_C}
theorem cl_W_y {F : Nat → Nat → Int} (h : cl_W en X N zb wb (cl_cf J X) T J P z w) (f1 : ∀ b i, (X + 17 ≤ b ∧ b ≤ X + 32) ∨ (X + 132 ≤ b ∧ b < X + 165) ∨ N ≤ b → F b i = J b i) : cl_cf F X = cl_cf J X ∧ cl_W en X N zb wb (cl_cf F X) T F P z w := by
  obtain ⟨hV, ⟨h1, h2, h3, h4, h5⟩, h6, h7, h8⟩ := h
  have ecf : cl_cf F X = cl_cf J X := by
    unfold cl_cf pl_cf
    have e1 : pl_fr F (X + 17) = pl_fr J (X + 17) := by
      funext f x
      unfold pl_fr
      rw [f1 (X + 17) 0 (by omega), f1 (X + 17) 1 (by omega), f1 (X + 17 + 1) _ (by omega)]
    rw [e1, f1 (X + 17) 0 (by omega), f1 (X + 17) 1 (by omega), f1 (X + 17) 2 (by omega), f1 (X + 17) 3 (by omega), f1 (X + 30) 2 (by omega), show F (X + 32) = J (X + 32) from funext (fun i => f1 _ i (by omega))]
  refine ⟨ecf, ?_⟩
  rw [ecf]
  have hs : ∀ o, cl_o o → cl_sm X o T J P T F P := fun o ho => by
    have hz := cl_z hV ho
    have ho2 := ho
    unfold cl_o at ho2
    exact ⟨⟨rfl, rfl, rfl, rfl⟩, fun i => f1 _ i (by omega), funext (fun i => f1 _ i (by omega)), funext (fun i => f1 _ i (by omega))⟩
  have ep : po_get F (X + 31) = po_get J (X + 31) := po_get_e (fun i => f1 _ i (by omega))
  refine ⟨hV, ⟨pl_ok_e h1 (fun b i p q => f1 b i (by omega)), ?_, h3, by rw [ecf]; exact h4, sp_is_e h5 (fun i => f1 _ i (by omega)) (fun i => f1 _ i (by omega)) (fun i => f1 _ i (by omega))⟩, ?_, ?_, ?_⟩
  · unfold cl_mo at h2 ⊢
    rw [ep, f1 (X + 30) 2 (by omega), f1 (X + 30) 3 (by omega), f1 (X + 30) 4 (by omega), show F (X + 32) = J (X + 32) from funext (fun i => f1 _ i (by omega))]
    exact h2
  · unfold cl_ch at h6 ⊢
    rw [f1 (X + 132) 9 (by omega), ep]
    rcases h6 with q | q
    · exact Or.inl q
    · exact Or.inr ⟨q.1, cl_g_sm (hs 139 (Or.inl rfl)) q.2⟩
  · unfold cl_cm at h7 ⊢
    rw [f1 (X + 132) 10 (by omega)]
    rcases h7 with q | q
    · exact Or.inl q
    · exact Or.inr ⟨q.1, cl_g_sm (hs 144 (Or.inr (Or.inl rfl))) q.2⟩
  · have e1 : ∀ k, cl_spt F X k = cl_spt J X k := fun k => by unfold cl_spt; rw [f1 (X + 21) k (by omega), f1 (X + 22) k (by omega)]
    unfold cl_cl cl_leg at h8 ⊢
    simp only [f1 (X + 132) 8 (by omega), f1 (X + 154) _ (by omega), e1, f1 (X + 29) 5 (by omega)]
    exact h8
theorem lo_R_fg {f r : Nat → Int} {e s t : Int} (he : 0 ≤ e ∧ e < 70) (ht : 1 ≤ t ∧ t ≤ 30) (h : lo_R f e s t r) : lo_R f (if 0 < e then e - 1 else 69) (s - 1) (t - 1) r := by
  obtain ⟨h1, h2, h3⟩ := h
  refine ⟨by omega, by omega, fun k hk => ?_⟩
  have e1 : lo_at (if 0 < e then e - 1 else 69) ((k : Int) + (t - 1)) = lo_at e ((k : Int) + t) := by
    unfold lo_at
    split <;> split <;> split <;> omega
  rw [e1]
  exact h3 k hk
theorem pa_tk (h : pa_R J X M) {n : Nat} (hn : (n : Int) < J M 45) : ∀ k : Nat, k ≤ n → J (M + 23) (143 * k + 1) ≤ J (M + 23) (143 * n + 1) ∧ J (M + 23) (143 * n + 1) ≤ J (M + 23) (143 * k + 1) + ((n : Int) - (k : Int)) := by
  induction n with
  | zero => intro k hk; rw [show k = 0 from by omega]; omega
  | succ n ih =>
    intro k hk
    by_cases e : k = n + 1
    · rw [e]; omega
    · have i1 := ih (by omega) k (by omega)
      have i2 : J (M + 23) (143 * n + 1) ≤ J (M + 23) (143 * (n + 1) + 1) ∧ J (M + 23) (143 * (n + 1) + 1) ≤ J (M + 23) (143 * n + 1) + 1 := (h.2.2.2.1 n (by omega)).1
      rw [Int.natCast_add]
      omega
/-- one row of the past is taken back -/
theorem pa_pop {F : Nat → Nat → Int} (h : pa_R J X M) (hn : 1 ≤ J M 45 ∧ J M 45 ≤ 30) (f1 : F (X + 35) 1 = pa_en (J (X + 35) 1)) (f2 : F (X + 35) 2 = J (X + 35) 2 - 1) (fo : ∀ b, X + 37 ≤ b → b < X + 127 → F b = J b) (m2 : F (M + 2) = J (M + 2)) (m13 : F (M + 13) = J (M + 13)) (f45 : F M 45 = J M 45 - 1) (f23 : F (M + 23) = J (M + 23))
    (f22 : ∀ i, i < 143 → F (M + 22) i = J (M + 23) (143 * (J M 45 - 1).toNat + i))
    (hL : ∀ t r, J (M + 22) 1 - J (M + 23) (143 * (J M 45 - 1).toNat + 1) ≤ t → t ≤ 30 → lo_R (J (X + 34)) (J (X + 33) 1) (J (X + 33) 2) t r → lo_R (F (X + 34)) (F (X + 33) 1) (F (X + 33) 2) (t - (J (M + 22) 1 - J (M + 23) (143 * (J M 45 - 1).toNat + 1))) r) : pa_R F X M := by
  obtain ⟨h1, h2, h3, h4, h5⟩ := id h
  have he' : 0 ≤ pa_en (J (X + 35) 1) ∧ pa_en (J (X + 35) 1) < 30 := by unfold pa_en; split <;> omega
  refine ⟨by rw [f2, f45, h1], by rw [f1]; exact he', fun k hk => ?_, fun k hk => ?_, fun k hk => ?_⟩
  · rw [f45] at hk
    have hk1 := h3 k (by omega)
    have hb := pa_ix_b h2 hn.2 (k := (k : Int)) (by omega)
    have e1 : pa_ix (pa_en (J (X + 35) 1)) (J M 45 - 1) (k : Int) = pa_ix (J (X + 35) 1) (J M 45) (k : Int) := by
      unfold pa_ix pa_en
      split <;> split <;> split <;> omega
    have htk := pa_tk h (n := (J M 45 - 1).toNat) (by omega) k (by omega)
    rw [f1, f45, f23, f22 1 (by omega), e1]
    refine ⟨mo_R_e hk1.1 (fo _ (by omega) (by omega)) (fo _ (by omega) (by omega)) (fo _ (by omega) (by omega)) m2 m13, ?_, by omega⟩
    have := hL _ _ (by omega) (by have := hk1.2.2; omega) hk1.2.1
    rw [show J (M + 22) 1 - J (M + 23) (143 * k + 1) - (J (M + 22) 1 - J (M + 23) (143 * (J M 45 - 1).toNat + 1)) = J (M + 23) (143 * (J M 45 - 1).toNat + 1) - J (M + 23) (143 * k + 1) from by omega] at this
    exact this
  · rw [f45] at hk
    rw [f23]
    exact h4 k (by omega)
  · rw [f45] at hk
    rw [f23]
    refine pa_nx_c (h4 k (by omega)) (fun i hi => rfl) (fun i hi => ?_)
    show F (M + 22) i = J (M + 23) (143 * (k + 1) + i)
    rw [f22 i (by omega), show (J M 45 - 1).toNat = k + 1 from by omega]
/-- the bounds that a moment of the class has from the row of the reference -/
theorem mo_R_b {B : Nat} {r : Nat → Int} (h : mo_R J M B r) (hr : md_row r) : (∀ i : Nat, i < 16 → 0 ≤ J (B + 2) i ∧ J (B + 2) i ≤ 100) ∧ (J B 2 = 0 ∨ J B 2 = 1) ∧ (0 ≤ J B 3 ∧ J B 3 ≤ 9999) ∧ (0 ≤ J B 4 ∧ J B 4 ≤ 9999) ∧ a_bx (po_get J (B + 1)) := by
  obtain ⟨r1, r2, r3, r4, r5, r6, r7, r8⟩ := hr
  refine ⟨fun i hi => by rw [h.2.1 i hi]; have := r7 i hi; omega, by rw [h.2.2.1.1]; exact r5, by rw [h.2.2.1.2.1]; exact r2, by rw [h.2.2.1.2.2]; omega, by rw [h.1]; exact a_of_bx r1.1 r1.2⟩
theorem z_Sc_back {Q : m_Q} {d : Nat} (hX : cl_sh en X T P) (hk : J X 7 = 0) (h0 : Q (some (.int (m_i (-1)))) (T, m_I J, P, L, z, w)) : m_call en (d + 6) mSc_back [.ref X] (T, m_I J, P, L, z, w) Q := by
  refine m_into (by decide) (Nat.le_of_ble_eq_true rfl) rfl ?_
  show m_wp en _ mSc_back 0 [some (.ref X)] [] (T, m_I J, P, L, z, w) Q
  refine r_aln eSc_back_0 rfl ?_
  refine r_gete (x := J X 7) eSc_back_1 rfl (by decide) (cl_t hX (i := 0) rfl) rfl ?_
  refine r_zne (tgt := 9) eSc_back_4 rfl ⟨(by omega), (by omega)⟩ (fun c4 => ?_) (fun c4 => ?_)
  · exact absurd hk c4
  · refine r_con eSc_back_7 ?_
    refine r_iret eSc_back_8 rfl ?_
    exact h0
/-- the reference's rows behind a row laid back -/
theorem bk_o {G : Nat → Nat → Int} {k2 : Int} {b i : Nat} (h : b ≠ M + 22) : md_bk G M k2 b i = G b i := m_fl_o h
theorem bk_22 {G : Nat → Nat → Int} {k2 : Int} {i : Nat} (h : i < 143) : md_bk G M k2 (M + 22) i = G (M + 23) ((143 * k2).toNat + i) := by
  unfold md_bk
  rw [m_fl_i (by omega)]
  rfl
theorem bk_inv {G : Nat → Nat → Int} {k2 : Int} (h : md_inv J M) (hk : 0 ≤ k2 ∧ k2 ≤ 30) (hr : md_row (fun i => J (M + 23) ((143 * k2).toNat + i))) (eo : ∀ b i, ¬ (b = M ∧ i = 45) → (M ≤ b ∧ b ≤ M + 26) → ¬ (b = M ∧ i = 0) → G b i = J b i) (e45 : 0 ≤ G M 45 ∧ G M 45 ≤ J M 45) : md_pre (md_bk G M k2) M := by
  obtain ⟨⟨p1, p2, p3, p4⟩, -, -⟩ := h
  refine ⟨?_, md_row_c (fun i hi => ?_) hr, ?_, ?_, fun i hi => ?_⟩
  · have er : ∀ k, 1 ≤ k → k ≤ 17 → md_bk G M k2 (M + k) = J (M + k) := fun k q1 q2 => funext (fun i => by rw [bk_o (by omega), eo _ _ (by omega) (by omega) (by omega)])
    unfold md_pl at p1 ⊢
    rw [er 2 (by omega) (by omega), er 4 (by omega) (by omega), er 5 (by omega) (by omega), er 6 (by omega) (by omega), er 10 (by omega) (by omega), er 11 (by omega) (by omega), er 12 (by omega) (by omega), er 13 (by omega) (by omega), er 14 (by omega) (by omega), er 15 (by omega) (by omega), er 17 (by omega) (by omega)]
    exact p1
  · rw [bk_22 hi, eo _ _ (by omega) (by omega) (by omega)]
  · obtain ⟨k1, k3, k4, k5⟩ := p3
    have e23 : md_bk G M k2 (M + 23) = J (M + 23) := funext (fun i => by rw [bk_o (by omega), eo _ _ (by omega) (by omega) (by omega)])
    refine ⟨by rw [bk_o (by omega)]; omega, by rw [bk_o (by omega), eo _ _ (by omega) (by omega) (by omega)]; exact k3, fun k hk => ?_, fun q => ?_⟩
    · rw [bk_o (by omega)] at hk
      rw [e23]
      exact k4 k (by omega)
    · rw [bk_o (by omega), eo _ _ (by omega) (by omega) (by omega)] at q
      rw [e23]
      exact k5 q
  · rw [bk_o (by omega), eo _ _ (by omega) (by omega) (by omega)]; exact p4.1
  · rw [bk_o (by omega), eo _ _ (by omega) (by omega) (by omega)]; exact p4.2 i hi
end TUN
