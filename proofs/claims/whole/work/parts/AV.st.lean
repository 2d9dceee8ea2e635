/-! the class: a step, a box grabbed or dropped -/
section SCS
variable {en : Nat → Nat} {d : Nat} {T : Nat → Option (Nat × Nat)} {J J' J0 K H : Nat → Nat → Int} {P : Nat → Nat → Option Nat} {L : Nat → Nat → Int64} {z w A B R X N zb wb : Nat} {Q : m_Q} {σ τ : a_S} {C : a_C} {k v : Int}
theorem cl_t4_o (he : 0 ≤ J (X + 35) 1 ∧ J (X + 35) 1 < 30) {b i : Nat} (h : b < X + 31 ∨ b = X + 32 ∨ X + 127 ≤ b) : cl_t4 (po_put J (X + 164) τ) X k b i = po_put J (X + 164) τ b i := by
  unfold cl_t4 cl_t3
  rw [po_put_o (by omega), lo_ad_o (by omega), pa_pu_o (by rw [po_put_o (by omega)]; exact he) (by omega)]
theorem cl_tk_o (he : 0 ≤ J (X + 35) 1 ∧ J (X + 35) 1 < 30) {b i : Nat} (h : b < X + 30 ∨ b = X + 32 ∨ (X + 127 ≤ b ∧ b ≠ X + 132 ∧ b ≠ X + 164)) : cl_tk J X k v τ b i = J b i := by
  unfold cl_tk
  rw [cl_mv_o (by omega)]
  unfold cl_t6 cl_t5
  split
  · rw [m_up_o (by omega), cl_t4_o he (by omega), po_put_o (by omega)]
  · rw [m_up_o (by omega), m_up_o (by omega), cl_t4_o he (by omega), po_put_o (by omega)]
theorem cl_tk_3 (he : 0 ≤ J (X + 35) 1 ∧ J (X + 35) 1 < 30) : cl_tk J X k v τ (X + 30) 3 = J (X + 30) 3 + 1 := by
  unfold cl_tk
  rw [cl_mv_o (by omega)]
  have e : cl_t5 (po_put J (X + 164) τ) X k (X + 30) 3 = J (X + 30) 3 + 1 := by
    unfold cl_t5
    rw [show ∀ (f : Nat → Nat → Int) (y : Int), m_up f (X + 30) 3 y (X + 30) 3 = y from fun f y => if_pos ⟨rfl, rfl⟩, cl_t4_o he (by omega), po_put_o (by omega)]
  unfold cl_t6
  split
  · exact e
  · rw [m_up_j (by decide)]; exact e
theorem cl_tk_4 (he : 0 ≤ J (X + 35) 1 ∧ J (X + 35) 1 < 30) : cl_tk J X k v τ (X + 30) 4 = J (X + 30) 4 + (if v = 0 then 0 else 1) := by
  unfold cl_tk
  rw [cl_mv_o (by omega)]
  unfold cl_t6 cl_t5
  split
  · rw [m_up_j (by decide), cl_t4_o he (by omega), po_put_o (by omega)]; omega
  · rw [show ∀ (f : Nat → Nat → Int) (y : Int), m_up f (X + 30) 4 y (X + 30) 4 = y from fun f y => if_pos ⟨rfl, rfl⟩, cl_t4_o he (by omega), po_put_o (by omega)]
theorem cl_tk_2 (he : 0 ≤ J (X + 35) 1 ∧ J (X + 35) 1 < 30) : cl_tk J X k v τ (X + 30) 2 = J (X + 30) 2 := by
  unfold cl_tk
  rw [cl_mv_o (by omega)]
  unfold cl_t6 cl_t5
  split
  · rw [m_up_j (by decide), cl_t4_o he (by omega), po_put_o (by omega)]
  · rw [m_up_j (by decide), m_up_j (by decide), cl_t4_o he (by omega), po_put_o (by omega)]
theorem cl_tk_p (he : 0 ≤ J (X + 35) 1 ∧ J (X + 35) 1 < 30) : po_get (cl_tk J X k v τ) (X + 31) = τ := by
  have e1 : ∀ i, cl_tk J X k v τ (X + 31) i = cl_t4 (po_put J (X + 164) τ) X k (X + 31) i := fun i => by
    unfold cl_tk
    rw [cl_mv_o (by omega)]
    unfold cl_t6 cl_t5
    split
    · rw [m_up_o (by omega)]
    · rw [m_up_o (by omega), m_up_o (by omega)]
  have e2 : ∀ i, cl_t3 (po_put J (X + 164) τ) X k (X + 164) i = po_put J (X + 164) τ (X + 164) i := fun i => by
    unfold cl_t3
    rw [lo_ad_o (by omega), pa_pu_o (by rw [po_put_o (by omega)]; exact he) (by omega)]
  rw [po_get_e e1]
  unfold cl_t4
  rw [po_get_put, po_get_e e2, po_get_put]
theorem k_Sc_tickBy (hX : cl_sh en X T P) (pok : pl_ok J (X + 17)) (hm : cl_mo J X) (ok : a_ok C) (hC : sp_is J (X + 133) C) (ho : lo_ok J (X + 33)) (he : 0 ≤ J (X + 35) 1 ∧ J (X + 35) 1 < 30) (hs : 0 ≤ J (X + 35) 2 ∧ J (X + 35) 2 ≤ 30) {k v : Int} (hk : 0 ≤ k ∧ k < 9) (hv : v = 0 ∨ v = 1) (eτ : τ = a_step (po_get J (X + 31)) k (cl_wd J X (J (X + 30) 3))) (h0 : ¬ J (X + 30) 3 < 9999 → Q (some (.int (m_i 0))) (T, m_I J, P, L, z, w)) (h1 : J (X + 30) 3 < 9999 → a_why C τ ≠ 0 → Q (some (.int (m_i 0))) (T, m_I (po_put J (X + 164) τ), P, L, z, w)) (h2 : J (X + 30) 3 < 9999 → a_why C τ = 0 → ∀ K, K = cl_tk J X k v τ → Q (some (.int (m_i 1))) (T, m_I K, P, L, z, w)) : m_call en (d + 4) mSc_tickBy [.ref X, .int (m_i k), .int (m_i v)] (T, m_I J, P, L, z, w) Q := c_Sc_tickBy hX pok hm ok hC ho he hs hk hv eτ h0 h1 (fun a b => h2 a b _ rfl)
theorem c_Sc_step (hX : cl_sh en X T P) (pok : pl_ok J (X + 17)) (hm : cl_mo J X) (ok : a_ok C) (hC : sp_is J (X + 133) C) (ho : lo_ok J (X + 33)) (he : 0 ≤ J (X + 35) 1 ∧ J (X + 35) 1 < 30) (hs : 0 ≤ J (X + 35) 2 ∧ J (X + 35) 2 ≤ 30) {a u : Int} (ha : m_in a) (hu : m_in u) (eτ : τ = a_step (po_get J (X + 31)) (3 * (a + 1) + u + 1) (cl_wd J X (J (X + 30) 3))) (h0 : ¬ ((-1 ≤ a ∧ a ≤ 1) ∧ -1 ≤ u ∧ u ≤ 1) → Q (some (.int (m_i (-1)))) (T, m_I J, P, L, z, w)) (h1 : ((-1 ≤ a ∧ a ≤ 1) ∧ -1 ≤ u ∧ u ≤ 1) → ¬ J (X + 30) 3 < 9999 → Q (some (.int (m_i (-2)))) (T, m_I J, P, L, z, w)) (h2 : ((-1 ≤ a ∧ a ≤ 1) ∧ -1 ≤ u ∧ u ≤ 1) → J (X + 30) 3 < 9999 → a_why C τ ≠ 0 → Q (some (.int (m_i (-2)))) (T, m_I (po_put J (X + 164) τ), P, L, z, w))
    (h3 : ((-1 ≤ a ∧ a ≤ 1) ∧ -1 ≤ u ∧ u ≤ 1) → J (X + 30) 3 < 9999 → a_why C τ = 0 → Q (some (.int (m_i (J (X + 30) 3 + 1)))) (T, m_I (cl_tk J X (3 * (a + 1) + u + 1) 0 τ), P, L, z, w)) : m_call en (d + 5) mSc_step [.ref X, .int (m_i a), .int (m_i u)] (T, m_I J, P, L, z, w) Q := by
  unfold m_in at ha hu
  refine m_into (by decide) (Nat.le_of_ble_eq_true rfl) rfl ?_
  show m_wp en _ mSc_step 0 [some (.ref X), some (.int (m_i (a))), some (.int (m_i (u)))] [] (T, m_I J, P, L, z, w) Q
  refine r_iln eSc_step_0 rfl ?_
  refine r_con eSc_step_1 ?_
  refine r_clt (tgt := 20) eSc_step_2 rfl ⟨(by omega), (by omega)⟩ ⟨(by omega), (by omega)⟩ (fun c2 => ?_) (fun c2 => ?_)
  · refine r_con eSc_step_20 ?_
    refine r_iret eSc_step_21 rfl ?_
    exact h0 (by omega)
  · refine r_iln eSc_step_5 rfl ?_
    refine r_con eSc_step_6 ?_
    refine r_cgt (tgt := 20) eSc_step_7 rfl ⟨(by omega), (by omega)⟩ ⟨(by omega), (by omega)⟩ (fun c7 => ?_) (fun c7 => ?_)
    · refine r_con eSc_step_20 ?_
      refine r_iret eSc_step_21 rfl ?_
      exact h0 (by omega)
    · refine r_iln eSc_step_10 rfl ?_
      refine r_con eSc_step_11 ?_
      refine r_clt (tgt := 20) eSc_step_12 rfl ⟨(by omega), (by omega)⟩ ⟨(by omega), (by omega)⟩ (fun c12 => ?_) (fun c12 => ?_)
      · refine r_con eSc_step_20 ?_
        refine r_iret eSc_step_21 rfl ?_
        exact h0 (by omega)
      · refine r_iln eSc_step_15 rfl ?_
        refine r_con eSc_step_16 ?_
        refine r_cle (tgt := 22) eSc_step_17 rfl ⟨(by omega), (by omega)⟩ ⟨(by omega), (by omega)⟩ (fun c17 => ?_) (fun c17 => ?_)
        · refine r_aln eSc_step_22 rfl ?_
          refine r_con eSc_step_23 ?_
          refine r_iln eSc_step_24 rfl ?_
          refine r_con eSc_step_25 ?_
          refine r_add eSc_step_26 ?_
          refine r_mul eSc_step_27 ?_
          refine r_iln eSc_step_28 rfl ?_
          refine r_add eSc_step_29 ?_
          refine r_con eSc_step_30 ?_
          refine r_add eSc_step_31 ?_
          refine r_con eSc_step_32 ?_
          refine r_vir eSc_step_33 rfl rfl rfl (cl_t hX (i := 0) rfl) rfl rfl ?_
          refine k_Sc_tickBy hX pok hm ok hC ho he hs (by omega) (Or.inl rfl) eτ (fun q => ?_) (fun q q2 => ?_) (fun q q2 K1 e1 => ?_)
          · show m_wp en _ mSc_step 36 [some (.ref X), some (.int (m_i (a))), some (.int (m_i (u)))] [(.int (m_i (0)))] (T, m_I J, P, L, z, w) Q
            refine r_zeq (tgt := 49) eSc_step_36 rfl ⟨(by omega), (by omega)⟩ (fun c36 => ?_) (fun c36 => ?_)
            · refine r_bip eSc_step_49 (by decide) ?_
              refine r_iret eSc_step_51 rfl ?_
              first | exact h1 (by omega) q | exact h2 (by omega) q q2 | (rw [e1, cl_tk_3 he]; exact h3 (by omega) q q2)
            · exfalso; omega
          · show m_wp en _ mSc_step 36 [some (.ref X), some (.int (m_i (a))), some (.int (m_i (u)))] [(.int (m_i (0)))] (T, m_I (((po_put J (X + 164) τ))), P, L, z, w) Q
            refine r_zeq (tgt := 49) eSc_step_36 rfl ⟨(by omega), (by omega)⟩ (fun c36 => ?_) (fun c36 => ?_)
            · refine r_bip eSc_step_49 (by decide) ?_
              refine r_iret eSc_step_51 rfl ?_
              first | exact h1 (by omega) q | exact h2 (by omega) q q2 | (rw [e1, cl_tk_3 he]; exact h3 (by omega) q q2)
            · exfalso; omega
          · show m_wp en _ mSc_step 36 [some (.ref X), some (.int (m_i (a))), some (.int (m_i (u)))] [(.int (m_i (1)))] (T, m_I K1, P, L, z, w) Q
            refine r_zeq (tgt := 49) eSc_step_36 rfl ⟨(by omega), (by omega)⟩ (fun c36 => ?_) (fun c36 => ?_)
            · exfalso; omega
            · refine r_aln eSc_step_39 rfl ?_
              refine m_getR eSc_step_40 rfl (cl_t hX (i := 0) rfl) (cl_p hX (i := 2) rfl) ?_
              refine r_gete (x := K1 (X + 30) 3) eSc_step_43 rfl (by decide) (cl_t hX (i := 30) rfl) rfl ?_
              refine r_go (tgt := 51) eSc_step_46 rfl ?_
              refine r_iret eSc_step_51 rfl ?_
              first | exact h1 (by omega) q | exact h2 (by omega) q q2 | (rw [e1, cl_tk_3 he]; exact h3 (by omega) q q2)
        · refine r_con eSc_step_20 ?_
          refine r_iret eSc_step_21 rfl ?_
          exact h0 (by omega)
end SCS
