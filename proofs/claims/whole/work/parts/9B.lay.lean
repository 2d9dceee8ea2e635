/-! a space is laid: which ropes stand -/
def a_sd (C : a_C) (x e t : Int) : Bool := decide (0 ≤ x + t ∧ x + t < C.1) && a_cl C (x, 0, t, 0, e)
/-- the row of what stands -/
def sp_r (C : a_C) (i : Int) : Int := if i < C.1 * C.2.1 * (2 * C.2.2.2.1 + 1) then a_b (a_sd C (i / (2 * C.2.2.2.1 + 1) / C.2.1) (i / (2 * C.2.2.2.1 + 1) % C.2.1 + 1) (i % (2 * C.2.2.2.1 + 1) - C.2.2.2.1)) else 0
theorem a_sd_iff {C : a_C} {x e t : Int} : a_sd C x e t = true ↔ (0 ≤ x + t ∧ x + t < C.1) ∧ a_cl C (x, 0, t, 0, e) = true := by
  unfold a_sd
  rw [Bool.and_eq_true, decide_eq_true_eq]
theorem sp_ix {W D S x e r : Int} (hx : 0 ≤ x ∧ x < W) (he : 1 ≤ e ∧ e ≤ D) (hr : 0 ≤ r ∧ r < S) : (0 ≤ (x * D + e - 1) * S ∧ (x * D + e - 1) * S + S ≤ W * D * S) ∧ ((x * D + e - 1) * S + r) / S = x * D + e - 1 ∧ ((x * D + e - 1) * S + r) % S = r ∧ (x * D + e - 1) / D = x ∧ (x * D + e - 1) % D = e - 1 := by
  have h1 : 0 ≤ x * D := Int.mul_nonneg hx.1 (by omega)
  have h2 : (x + 1) * D ≤ W * D := Int.mul_le_mul_of_nonneg_right (by omega) (by omega)
  rw [Int.add_mul, Int.one_mul] at h2
  have h3 : (x * D + e - 1 + 1) * S ≤ W * D * S := Int.mul_le_mul_of_nonneg_right (by omega) (by omega)
  rw [Int.add_mul (x * D + e - 1) 1 S, Int.one_mul] at h3
  have h4 := (Int.ediv_emod_unique (a := (x * D + e - 1) * S + r) (b := S) (r := r) (q := x * D + e - 1) (by omega)).mpr ⟨by rw [Int.mul_comm S, Int.add_comm], hr.1, hr.2⟩
  have h5 := (Int.ediv_emod_unique (a := x * D + e - 1) (b := D) (r := e - 1) (q := x) (by omega)).mpr ⟨by rw [Int.mul_comm D]; omega, by omega, by omega⟩
  exact ⟨⟨Int.mul_nonneg (by omega) (by omega), h3⟩, h4.1, h4.2, h5.1, h5.2⟩
theorem sp_r_e {C : a_C} (ok : a_ok C) {x e t : Int} (hx : 0 ≤ x ∧ x < C.1) (he : 1 ≤ e ∧ e ≤ C.2.1) (ht : -C.2.2.2.1 ≤ t ∧ t ≤ C.2.2.2.1) : sp_r C ((x * C.2.1 + e - 1) * (2 * C.2.2.2.1 + 1) + (t + C.2.2.2.1)) = a_b (a_sd C x e t) := by
  have h := sp_ix (W := C.1) (D := C.2.1) (S := 2 * C.2.2.2.1 + 1) (r := t + C.2.2.2.1) hx he (by omega)
  unfold sp_r
  rw [h.2.1, h.2.2.1, h.2.2.2.1, h.2.2.2.2, if_pos (by omega), show e - 1 + 1 = e by omega, show t + C.2.2.2.1 - C.2.2.2.1 = t by omega]
def sp_h (K : Nat → Nat → Int) (A : Nat) (C : a_C) (k : Int) : Nat → Nat → Int := m_up (m_fl K (A + 2) 0 (fun i => sp_r C (i : Int)) k) A 8 (a_sum (fun i => sp_r C (i : Int)) k.toNat)
section SPL
variable {en : Nat → Nat} {d : Nat} {T : Nat → Option (Nat × Nat)} {J K : Nat → Nat → Int} {P : Nat → Nat → Option Nat} {L : Nat → Nat → Int64} {z w A B R : Nat} {Q : m_Q} {σ : a_S} {C : a_C}
theorem sp_h_0 {k : Int} (h : 0 ≤ k ∧ k < 864) (hz : ∀ i : Nat, i < 864 → K (A + 2) i = 0) (hr : sp_r C k = 0) : sp_h K A C k = sp_h K A C (k + 1) := by
  have e2 : (k + 1).toNat = k.toNat + 1 := by omega
  have ek : ((k.toNat : Nat) : Int) = k := by omega
  have es : a_sum (fun i => sp_r C (i : Int)) (k.toNat + 1) = a_sum (fun i => sp_r C (i : Int)) k.toNat := by
    show a_sum (fun i => sp_r C (i : Int)) k.toNat + sp_r C ((k.toNat : Nat) : Int) = _
    rw [ek, hr, Int.add_zero]
  unfold sp_h
  rw [e2, es]
  have : m_fl K (A + 2) 0 (fun i => sp_r C (i : Int)) k = m_fl K (A + 2) 0 (fun i => sp_r C (i : Int)) (k + 1) := by
    funext b i
    by_cases hb : b = A + 2
    · subst hb
      by_cases q : (i : Int) < k
      · rw [m_fl_i (by omega), m_fl_i (by omega)]
      · by_cases q2 : (i : Int) = k
        · rw [m_fl_x (by omega), m_fl_i (by omega), hz i (by omega)]
          show (0 : Int) = sp_r C ((i - 0 : Nat) : Int)
          rw [Nat.sub_zero, q2, hr]
        · rw [m_fl_x (by omega), m_fl_x (by omega)]
    · rw [m_fl_o hb, m_fl_o hb]
  rw [this]
theorem sp_h_1 {k : Int} (h : 0 ≤ k ∧ k < 864) (hr : sp_r C k = 1) : m_up (m_up (sp_h K A C k) (A + 2) k.toNat 1) A 8 (a_sum (fun i => sp_r C (i : Int)) k.toNat + 1) = sp_h K A C (k + 1) := by
  have e2 : (k + 1).toNat = k.toNat + 1 := by omega
  have ek : ((k.toNat : Nat) : Int) = k := by omega
  unfold sp_h
  rw [e2]
  have es : a_sum (fun i => sp_r C (i : Int)) (k.toNat + 1) = a_sum (fun i => sp_r C (i : Int)) k.toNat + 1 := by
    show a_sum (fun i => sp_r C (i : Int)) k.toNat + sp_r C ((k.toNat : Nat) : Int) = _
    rw [ek, hr]
  rw [es, ← m_fl_s (n := k.toNat) (v := 1) h.1 (by omega) (by show (1 : Int) = sp_r C ((k.toNat : Nat) : Int); rw [ek, hr])]
  funext b i
  rw [m_up_at, m_up_at, m_up_at, m_up_at, m_up_at]
  by_cases q : b = A ∧ i = 8
  · rw [if_pos q, if_pos q]
  · rw [if_neg q, if_neg q, if_neg q]
theorem sp_i0_h (hC : sp_i0 K A C) (k : Int) : sp_i0 (sp_h K A C k) A C := by
  have f : ∀ b i, b ≠ A + 2 → ¬ (b = A ∧ i = 8) → sp_h K A C k b i = K b i := fun b i h h2 => by
    unfold sp_h
    rw [m_up_at, if_neg h2, m_fl_o h]
  unfold sp_i0
  rw [f _ 0 (by omega) (by omega), f _ 1 (by omega) (by omega), f _ 2 (by omega) (by omega), f _ 3 (by omega) (by omega), f _ 5 (by omega) (by omega)]
  exact ⟨hC.1, hC.2.1, hC.2.2.1, hC.2.2.2.1, hC.2.2.2.2.1, fun x a b => by rw [f _ _ (by omega) (by omega)]; exact hC.2.2.2.2.2 x a b⟩
theorem l_Sp_layRopes (hA : sp_sh en A T P) (hC : sp_i0 K A C) (ok : a_ok C) (h7 : K A 7 = 2 * K A 3 + 1) (hz : ∀ i : Nat, i < 864 → K (A + 2) i = 0) {x e b : Int} (hx : 0 ≤ x ∧ x < K A 0) (he : 1 ≤ e ∧ e ≤ K A 1) (hb : b = (x * K A 1 + e - 1) * K A 7) (hb2 : 0 ≤ b ∧ b + K A 7 ≤ 864) (hr : ∀ t : Int, -K A 3 ≤ t → t ≤ K A 3 → sp_r C (b + t + K A 3) = a_b (a_sd C x e t)) (hq : Q none (T, m_I (sp_h K A C (b + K A 7)), P, L, z, w)) :
    ∀ (m : Nat) (t : Int) (o4 o5 : Option Value), t + m = K A 3 + 1 → -K A 3 ≤ t → m_wp en (d + 2) mSp_layRopes 6 [some (.ref A), some (.int (m_i x)), some (.int (m_i e)), some (.int (m_i t)), o4, o5] [] (T, m_I (sp_h K A C (b + t + K A 3)), P, L, z, w) Q := by
  have e0 : K A 0 = C.1 := hC.1
  have e1 : K A 1 = C.2.1 := hC.2.1
  have e3 : K A 3 = C.2.2.2.1 := hC.2.2.2.1
  have k0 := ok.1
  have k1 := ok.2.1
  have k3 := ok.2.2.2.1
  intro m
  induction m with
  | zero =>
    intro t o4 o5 hm ht
    rw [show b + K A 7 = b + t + K A 3 by omega] at hq
    unfold sp_h at hq ⊢
    refine r_iln eSp_layRopes_6 rfl ?_
    refine r_aln eSp_layRopes_7 rfl ?_
    refine r_gete (x := K A 3) eSp_layRopes_8 rfl (by decide) hA.2.1 (by rw [m_up_at, if_neg (by omega), m_fl_o (by omega)]) ?_
    refine r_cgt (tgt := 115) eSp_layRopes_11 rfl ⟨(by omega), (by omega)⟩ ⟨(by omega), (by omega)⟩ (fun c11 => ?_) (fun c11 => ?_)
    · refine r_ret eSp_layRopes_115 rfl ?_
      exact hq
    · exfalso; omega
  | succ m ih =>
    intro t o4 o5 hm ht
    have hi := fun o4 o5 => ih (t + 1) o4 o5 (by omega) (by omega)
    rw [show b + (t + 1) + K A 3 = b + t + K A 3 + 1 by omega] at hi
    have hsd := a_sd_iff (C := C) (x := x) (e := e) (t := t)
    have hrt := hr t ht (by omega)
    have hcb : (a_b (a_cl C (x, 0, t, 0, e)) = 1 ∧ a_cl C (x, 0, t, 0, e) = true) ∨ (a_b (a_cl C (x, 0, t, 0, e)) = 0 ∧ ¬ a_cl C (x, 0, t, 0, e) = true) := by
      by_cases q : a_cl C (x, 0, t, 0, e) = true
      · exact Or.inl ⟨a_b_t q, q⟩
      · exact Or.inr ⟨a_b_f q, q⟩
    have h0 : ¬ a_sd C x e t = true → ∀ o4 o5, m_wp en (d + 2) mSp_layRopes 6 [some (.ref A), some (.int (m_i x)), some (.int (m_i e)), some (.int (m_i (t + 1))), o4, o5] [] (T, m_I (sp_h K A C (b + t + K A 3)), P, L, z, w) Q := fun q o4 o5 => by
      rw [sp_h_0 (by omega) hz (hrt.trans (a_b_f q))]
      exact hi o4 o5
    have h1 : a_sd C x e t = true → ∀ o4 o5, m_wp en (d + 2) mSp_layRopes 6 [some (.ref A), some (.int (m_i x)), some (.int (m_i e)), some (.int (m_i (t + 1))), o4, o5] [] (T, m_I (m_up (m_up (sp_h K A C (b + t + K A 3)) (A + 2) (b + t + K A 3).toNat 1) A 8 (a_sum (fun i => sp_r C (i : Int)) (b + t + K A 3).toNat + 1)), P, L, z, w) Q := fun q o4 o5 => by
      rw [sp_h_1 (by omega) (hrt.trans (a_b_t q))]
      exact hi o4 o5
    unfold sp_h at h0 h1 ⊢
    refine r_iln eSp_layRopes_6 rfl ?_
    refine r_aln eSp_layRopes_7 rfl ?_
    refine r_gete (x := K A 3) eSp_layRopes_8 rfl (by decide) hA.2.1 (by rw [m_up_at, if_neg (by omega), m_fl_o (by omega)]) ?_
    refine r_cgt (tgt := 115) eSp_layRopes_11 rfl ⟨(by omega), (by omega)⟩ ⟨(by omega), (by omega)⟩ (fun c11 => ?_) (fun c11 => ?_)
    · exfalso; omega
    · refine r_iln eSp_layRopes_14 rfl ?_
      refine r_aln eSp_layRopes_15 rfl ?_
      refine r_gete (x := K A 1) eSp_layRopes_16 rfl (by decide) hA.2.1 (by rw [m_up_at, if_neg (by omega), m_fl_o (by omega)]) ?_
      refine r_mul eSp_layRopes_19 ?_
      refine r_iln eSp_layRopes_20 rfl ?_
      refine r_add eSp_layRopes_21 ?_
      refine r_con eSp_layRopes_22 ?_
      refine r_sub eSp_layRopes_23 ?_
      refine r_aln eSp_layRopes_24 rfl ?_
      refine r_gete (x := K A 7) eSp_layRopes_25 rfl (by decide) hA.2.1 (by rw [m_up_at, if_neg (by omega), m_fl_o (by omega)]) ?_
      refine r_mul eSp_layRopes_28 ?_
      refine r_iln eSp_layRopes_29 rfl ?_
      refine r_add eSp_layRopes_30 ?_
      refine r_aln eSp_layRopes_31 rfl ?_
      refine r_gete (x := K A 3) eSp_layRopes_32 rfl (by decide) hA.2.1 (by rw [m_up_at, if_neg (by omega), m_fl_o (by omega)]) ?_
      refine r_add eSp_layRopes_35 ?_
      rw [← hb]
      refine r_is (ls' := [some (.ref A), some (.int (m_i (x))), some (.int (m_i (e))), some (.int (m_i (t))), some (.int (m_i (b + t + K A 3))), o5]) eSp_layRopes_36 (Nat.le_of_ble_eq_true rfl) rfl ?_
      refine r_iln eSp_layRopes_38 rfl ?_
      refine r_iln eSp_layRopes_39 rfl ?_
      refine r_add eSp_layRopes_40 ?_
      refine r_zlt (tgt := 58) eSp_layRopes_41 rfl ⟨(by omega), (by omega)⟩ (fun c41 => ?_) (fun c41 => ?_)
      · refine r_con eSp_layRopes_58 ?_
        refine r_is (ls' := [some (.ref A), some (.int (m_i (x))), some (.int (m_i (e))), some (.int (m_i (t))), some (.int (m_i (b + t + K A 3))), some (.int (m_i (0)))]) eSp_layRopes_59 (Nat.le_of_ble_eq_true rfl) rfl ?_
        refine r_il eSp_layRopes_61 rfl ?_
        refine r_zeq (tgt := 109) eSp_layRopes_63 rfl ⟨(by omega), (by omega)⟩ (fun c63 => ?_) (fun c63 => ?_)
        · refine r_inc (ls' := [some (.ref A), some (.int (m_i (x))), some (.int (m_i (e))), some (.int (m_i (t + 1))), some (.int (m_i (b + t + K A 3))), some (.int (m_i (0)))]) eSp_layRopes_109 rfl rfl ?_
          refine r_go (tgt := 6) eSp_layRopes_112 rfl ?_
          first | (exfalso; omega) | exact h0 (fun q => by have g := hsd.mp q; omega) _ _ | exact h0 (fun q => by have g := (hsd.mp q).2; rcases hcb with ⟨g1, g2⟩ | ⟨g1, g2⟩; (omega); (exact g2 g)) _ _ | exact h1 (hsd.mpr ⟨by omega, by rcases hcb with ⟨g1, g2⟩ | ⟨g1, g2⟩; (exact g2); (exfalso; omega)⟩) _ _
        · exfalso; omega
      · refine r_iln eSp_layRopes_44 rfl ?_
        refine r_iln eSp_layRopes_45 rfl ?_
        refine r_add eSp_layRopes_46 ?_
        refine r_aln eSp_layRopes_47 rfl ?_
        refine r_gete (x := K A 0) eSp_layRopes_48 rfl (by decide) hA.2.1 (by rw [m_up_at, if_neg (by omega), m_fl_o (by omega)]) ?_
        refine r_cge (tgt := 58) eSp_layRopes_51 rfl ⟨(by omega), (by omega)⟩ ⟨(by omega), (by omega)⟩ (fun c51 => ?_) (fun c51 => ?_)
        · refine r_con eSp_layRopes_58 ?_
          refine r_is (ls' := [some (.ref A), some (.int (m_i (x))), some (.int (m_i (e))), some (.int (m_i (t))), some (.int (m_i (b + t + K A 3))), some (.int (m_i (0)))]) eSp_layRopes_59 (Nat.le_of_ble_eq_true rfl) rfl ?_
          refine r_il eSp_layRopes_61 rfl ?_
          refine r_zeq (tgt := 109) eSp_layRopes_63 rfl ⟨(by omega), (by omega)⟩ (fun c63 => ?_) (fun c63 => ?_)
          · refine r_inc (ls' := [some (.ref A), some (.int (m_i (x))), some (.int (m_i (e))), some (.int (m_i (t + 1))), some (.int (m_i (b + t + K A 3))), some (.int (m_i (0)))]) eSp_layRopes_109 rfl rfl ?_
            refine r_go (tgt := 6) eSp_layRopes_112 rfl ?_
            first | (exfalso; omega) | exact h0 (fun q => by have g := hsd.mp q; omega) _ _ | exact h0 (fun q => by have g := (hsd.mp q).2; rcases hcb with ⟨g1, g2⟩ | ⟨g1, g2⟩; (omega); (exact g2 g)) _ _ | exact h1 (hsd.mpr ⟨by omega, by rcases hcb with ⟨g1, g2⟩ | ⟨g1, g2⟩; (exact g2); (exfalso; omega)⟩) _ _
          · exfalso; omega
        · refine r_con eSp_layRopes_54 ?_
          refine r_go (tgt := 59) eSp_layRopes_55 rfl ?_
          refine r_is (ls' := [some (.ref A), some (.int (m_i (x))), some (.int (m_i (e))), some (.int (m_i (t))), some (.int (m_i (b + t + K A 3))), some (.int (m_i (1)))]) eSp_layRopes_59 (Nat.le_of_ble_eq_true rfl) rfl ?_
          refine r_il eSp_layRopes_61 rfl ?_
          refine r_zeq (tgt := 109) eSp_layRopes_63 rfl ⟨(by omega), (by omega)⟩ (fun c63 => ?_) (fun c63 => ?_)
          · exfalso; omega
          · refine r_il eSp_layRopes_66 rfl ?_
            refine r_zlt (tgt := 109) eSp_layRopes_68 rfl ⟨(by omega), (by omega)⟩ (fun c68 => ?_) (fun c68 => ?_)
            · refine r_inc (ls' := [some (.ref A), some (.int (m_i (x))), some (.int (m_i (e))), some (.int (m_i (t + 1))), some (.int (m_i (b + t + K A 3))), some (.int (m_i (1)))]) eSp_layRopes_109 rfl rfl ?_
              refine r_go (tgt := 6) eSp_layRopes_112 rfl ?_
              first | (exfalso; omega) | exact h0 (fun q => by have g := hsd.mp q; omega) _ _ | exact h0 (fun q => by have g := (hsd.mp q).2; rcases hcb with ⟨g1, g2⟩ | ⟨g1, g2⟩; (omega); (exact g2 g)) _ _ | exact h1 (hsd.mpr ⟨by omega, by rcases hcb with ⟨g1, g2⟩ | ⟨g1, g2⟩; (exact g2); (exfalso; omega)⟩) _ _
            · refine r_il eSp_layRopes_71 rfl ?_
              refine r_aln eSp_layRopes_73 rfl ?_
              refine m_getR eSp_layRopes_74 rfl hA.2.1 (ob_p hA (i := 1) rfl) ?_
              refine r_alen eSp_layRopes_77 (ob_t hA (i := 1) rfl) (by decide) ?_
              refine r_cge (tgt := 109) eSp_layRopes_78 rfl ⟨(by omega), (by omega)⟩ ⟨(by omega), (by omega)⟩ (fun c78 => ?_) (fun c78 => ?_)
              · refine r_inc (ls' := [some (.ref A), some (.int (m_i (x))), some (.int (m_i (e))), some (.int (m_i (t + 1))), some (.int (m_i (b + t + K A 3))), some (.int (m_i (1)))]) eSp_layRopes_109 rfl rfl ?_
                refine r_go (tgt := 6) eSp_layRopes_112 rfl ?_
                first | (exfalso; omega) | exact h0 (fun q => by have g := hsd.mp q; omega) _ _ | exact h0 (fun q => by have g := (hsd.mp q).2; rcases hcb with ⟨g1, g2⟩ | ⟨g1, g2⟩; (omega); (exact g2 g)) _ _ | exact h1 (hsd.mpr ⟨by omega, by rcases hcb with ⟨g1, g2⟩ | ⟨g1, g2⟩; (exact g2); (exfalso; omega)⟩) _ _
              · refine r_aln eSp_layRopes_81 rfl ?_
                refine r_iln eSp_layRopes_82 rfl ?_
                refine r_iln eSp_layRopes_83 rfl ?_
                refine r_iln eSp_layRopes_84 rfl ?_
                refine r_vir eSp_layRopes_85 rfl rfl rfl hA.2.1 rfl rfl ?_
                refine c_Sp_isClear (v := 0) (t' := 0) hA (sp_i0_h hC _) ok (by omega) (by omega) (by omega) ?_
                show m_wp en _ mSp_layRopes 88 [some (.ref A), some (.int (m_i (x))), some (.int (m_i (e))), some (.int (m_i (t))), some (.int (m_i (b + t + K A 3))), some (.int (m_i (1)))] [(.int (m_i ((a_b (a_cl C (x, 0, t, 0, e))))))] (T, m_I ((((m_up (m_fl K (A + 2) 0 (fun i => sp_r C (i : Int)) (b + t + K A 3)) A 8 (a_sum (fun i => sp_r C (i : Int)) (b + t + K A 3).toNat))))), P, L, z, w) Q
                refine r_zeq (tgt := 109) eSp_layRopes_88 rfl ⟨(by omega), (by omega)⟩ (fun c88 => ?_) (fun c88 => ?_)
                · refine r_inc (ls' := [some (.ref A), some (.int (m_i (x))), some (.int (m_i (e))), some (.int (m_i (t + 1))), some (.int (m_i (b + t + K A 3))), some (.int (m_i (1)))]) eSp_layRopes_109 rfl rfl ?_
                  refine r_go (tgt := 6) eSp_layRopes_112 rfl ?_
                  first | (exfalso; omega) | exact h0 (fun q => by have g := hsd.mp q; omega) _ _ | exact h0 (fun q => by have g := (hsd.mp q).2; rcases hcb with ⟨g1, g2⟩ | ⟨g1, g2⟩; (omega); (exact g2 g)) _ _ | exact h1 (hsd.mpr ⟨by omega, by rcases hcb with ⟨g1, g2⟩ | ⟨g1, g2⟩; (exact g2); (exfalso; omega)⟩) _ _
                · refine r_aln eSp_layRopes_91 rfl ?_
                  refine m_getR eSp_layRopes_92 rfl hA.2.1 (ob_p hA (i := 1) rfl) ?_
                  refine r_il eSp_layRopes_95 rfl ?_
                  refine r_con eSp_layRopes_97 ?_
                  refine r_zast eSp_layRopes_98 (ob_t hA (i := 1) rfl) (by decide) (by omega) (by omega) (ob_b hA 2) (by first | exact Or.inl rfl | exact Or.inr rfl | omega) ?_
                  refine r_aln eSp_layRopes_99 rfl ?_
                  refine r_dupr eSp_layRopes_100 ?_
                  refine r_gete (x := (a_sum (fun i => sp_r C (i : Int)) (b + t + K A 3).toNat)) eSp_layRopes_101 rfl (by decide) hA.2.1 (by rw [m_up_at, if_neg (by omega), m_up_same]) ?_
                  refine r_con eSp_layRopes_104 ?_
                  refine r_add eSp_layRopes_105 ?_
                  refine r_put eSp_layRopes_106 rfl hA.2.1 hA.1 (Or.inl rfl) ?_
                  refine r_inc (ls' := [some (.ref A), some (.int (m_i (x))), some (.int (m_i (e))), some (.int (m_i (t + 1))), some (.int (m_i (b + t + K A 3))), some (.int (m_i (1)))]) eSp_layRopes_109 rfl rfl ?_
                  refine r_go (tgt := 6) eSp_layRopes_112 rfl ?_
                  first | (exfalso; omega) | exact h0 (fun q => by have g := hsd.mp q; omega) _ _ | exact h0 (fun q => by have g := (hsd.mp q).2; rcases hcb with ⟨g1, g2⟩ | ⟨g1, g2⟩; (omega); (exact g2 g)) _ _ | exact h1 (hsd.mpr ⟨by omega, by rcases hcb with ⟨g1, g2⟩ | ⟨g1, g2⟩; (exact g2); (exfalso; omega)⟩) _ _
theorem c_Sp_layRopes (hA : sp_sh en A T P) (hC : sp_i0 K A C) (ok : a_ok C) (h7 : K A 7 = 2 * K A 3 + 1) (hz : ∀ i : Nat, i < 864 → K (A + 2) i = 0) {x e b : Int} (hx : 0 ≤ x ∧ x < K A 0) (he : 1 ≤ e ∧ e ≤ K A 1) (hb : b = (x * K A 1 + e - 1) * K A 7) (hb2 : 0 ≤ b ∧ b + K A 7 ≤ 864) (hr : ∀ t : Int, -K A 3 ≤ t → t ≤ K A 3 → sp_r C (b + t + K A 3) = a_b (a_sd C x e t)) (hq : Q none (T, m_I (sp_h K A C (b + K A 7)), P, L, z, w)) : m_call en (d + 3) mSp_layRopes [.ref A, .int (m_i x), .int (m_i e)] (T, m_I (sp_h K A C b), P, L, z, w) Q := by
  have e3 : K A 3 = C.2.2.2.1 := hC.2.2.2.1
  have k3 := ok.2.2.2.1
  have h6 := l_Sp_layRopes (d := d) hA hC ok h7 hz hx he hb hb2 hr hq (2 * K A 3 + 1).toNat (-K A 3) none none (by omega) (by omega)
  rw [show b + -K A 3 + K A 3 = b by omega] at h6
  refine m_into (by decide) (Nat.le_of_ble_eq_true rfl) rfl ?_
  unfold sp_h at h6 ⊢
  show m_wp en _ mSp_layRopes 0 [some (.ref A), some (.int (m_i (x))), some (.int (m_i (e))), none, none, none] [] (T, m_I ((m_up (m_fl K (A + 2) 0 (fun i => sp_r C (i : Int)) b) A 8 (a_sum (fun i => sp_r C (i : Int)) b.toNat))), P, L, z, w) Q
  refine r_aln eSp_layRopes_0 rfl ?_
  refine r_gete (x := K A 3) eSp_layRopes_1 rfl (by decide) hA.2.1 (by rw [m_up_at, if_neg (by omega), m_fl_o (by omega)]) ?_
  refine r_neg eSp_layRopes_4 ?_
  refine r_isn (ls' := [some (.ref A), some (.int (m_i (x))), some (.int (m_i (e))), some (.int (m_i (-(K A 3)))), none, none]) eSp_layRopes_5 (Nat.le_of_ble_eq_true rfl) rfl ?_
  exact h6
end SPL
