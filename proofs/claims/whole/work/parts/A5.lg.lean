/-! the class: steps from spot to spot -/
theorem w_set_d : ∀ b : Fin 64, ∀ f : Fin 6, (0 ≤ a_set (b.val : Int) (f.val : Int) ∧ a_set (b.val : Int) (f.val : Int) < 64) ∧ ∀ t : Fin 6, (a_set (b.val : Int) (f.val : Int) / ((2 ^ t.val : Nat) : Int) % 2 = 1 ↔ (t.val = f.val ∨ (b.val : Int) / ((2 ^ t.val : Nat) : Int) % 2 = 1)) := by decide +kernel
theorem w_set {b : Int} (hb : 0 ≤ b ∧ b < 64) {f : Nat} (hf : f < 6) : (0 ≤ a_set b (f : Int) ∧ a_set b (f : Int) < 64) ∧ ∀ t : Nat, t < 6 → (a_set b (f : Int) / ((2 ^ t : Nat) : Int) % 2 = 1 ↔ (t = f ∨ b / ((2 ^ t : Nat) : Int) % 2 = 1)) := by
  obtain ⟨c, rfl⟩ : ∃ c : Nat, b = c := ⟨b.toNat, by omega⟩
  have := w_set_d ⟨c, by omega⟩ ⟨f, hf⟩
  exact ⟨this.1, fun t ht => this.2 ⟨t, ht⟩⟩
section LEG
variable {en : Nat → Nat} {d : Nat} {T T' T2 T0 : Nat → Option (Nat × Nat)} {J J' J0 J1 J2 J3 K H : Nat → Nat → Int} {P P' P2 P0 : Nat → Nat → Option Nat} {L L' L2 L0 : Nat → Nat → Int64} {z w z' w' z0 w0 A B R U S n X N zb wb o o' A0 R' U' n' : Nat} {Q : m_Q} {σ τ γ π ρ : a_S} {C C2 : a_C} {bw most by_ gl : Int} {Sd : a_S → Prop} {g : g_T} {x e st : Int}
theorem w_sd_no (h : ¬ a_is C ρ = true) {E : a_S → a_S → Prop} : ∀ (t : Nat) (σ : a_S), ¬ b_D (w_sd C ρ) E t σ := by
  intro t
  induction t with
  | zero => exact fun σ q => h q.1
  | succ t ih =>
    rintro σ ⟨x, q, -⟩
    exact ih x q
theorem cl_fx_leg {f t : Nat} {r : Int} (h : cl_fx C 511 4 (cl_spt J X f) (cl_spt J X t) r) (ht : (t : Int) < J (X + 29) 5) : cl_leg J X C f t r := by
  unfold cl_leg
  by_cases q : ((t : Int) < J (X + 29) 5 ∧ a_is C (cl_spt J X f) = true) ∧ a_is C (cl_spt J X t) = true
  · rw [if_pos q]
    rcases h with a | a
    · exact a.2
    · exact absurd q.2 a.1
  · rw [if_neg q]
    rcases h with a | a
    · rcases a.2 with ⟨t', b1, b2, b3⟩ | ⟨b1, -⟩
      · exact absurd b2 (w_sd_no (fun e => q ⟨⟨ht, e⟩, a.1⟩) t' _)
      · exact b1
    · exact a.2
theorem w_no : a_nb C (-1, 0, 0, 0, 0) = -1 ∧ ¬ a_is C (-1, 0, 0, 0, 0) = true := by
  have h : ¬ a_is C (-1, 0, 0, 0, 0) = true := fun q => by
    have := (a_is_sd.mp q).1
    omega
  exact ⟨by unfold a_nb; rw [if_neg h], h⟩
/-- a leg is noted in a row that isn't known yet -/
theorem cl_W_lg (h : cl_W en X N zb wb C T J P z w) {f t : Nat} (hf : f < 6) (ht : t < 6) (hb : ¬ J (X + 132) 8 / ((2 ^ f : Nat) : Int) % 2 = 1) {v : Int} : cl_W en X N zb wb C T (m_up J (X + 154) (6 * f + t) v) P z w := by
  have sm : ∀ o, cl_o o → cl_sm X o T J P T (m_up J (X + 154) (6 * f + t) v) P := fun o ho => cl_sm_up h.1 ho (by omega) ⟨⟨rfl, rfl, rfl, rfl⟩, fun _ => rfl, rfl, rfl⟩
  have f0 : ∀ b i, b < X + 154 → m_up J (X + 154) (6 * f + t) v b i = J b i := fun b i q => m_up_o (by omega)
  refine cl_W_g h h.1 (fun b i q _ => f0 b i (by omega)) (cl_ch_e h.2.2.1 (f0 _ _ (by omega)) (fun i => f0 _ i (by omega)) (sm 139 (Or.inl rfl))) (cl_cm_e h.2.2.2.1 (f0 _ _ (by omega)) (sm 144 (Or.inr (Or.inl rfl)))) ?_
  obtain ⟨c1, c2⟩ := h.2.2.2.2
  unfold cl_cl
  rw [f0 (X + 132) 8 (by omega)]
  refine ⟨c1, fun f' hf' hb' t' ht' => ?_⟩
  rw [cl_leg_e (fun b i q => f0 b i (by omega)), m_up_j (fun e => ?_)]
  · exact c2 f' hf' hb' t' ht'
  · have : f' = f := by omega
    subst this
    exact hb hb'
theorem l_Wa_searchLegs (hX : cl_sh en X T P) (ok : a_ok C) {f : Nat} (hf : f < 6) (k5 : 0 ≤ J (X + 29) 5 ∧ J (X + 29) 5 ≤ 6) (hN : X + 165 ≤ N) (h80 : ¬ J (X + 132) 8 / ((2 ^ f : Nat) : Int) % 2 = 1)
    (hq : ∀ J', cl_W en X N zb wb C T J' P z w → cl_q X N T J P L T J' P L → J' (X + 132) 8 = J (X + 132) 8 → (∀ t : Nat, t < 6 → cl_leg J X C f t (J' (X + 154) (6 * f + t))) → Q none (T, m_I J', P, L, z, w)) :
    ∀ (r t : Nat) (J1 : Nat → Nat → Int) (o3 : Option Value), t + r = 6 → cl_W en X N zb wb C T J1 P z w → cl_q X N T J P L T J1 P L → cl_g T J1 P X 149 (X + 133) C 0 511 4 (w_sd C (cl_spt J X f)) → J1 (X + 132) 8 = J (X + 132) 8 → (∀ u : Nat, u < t → cl_leg J X C f u (J1 (X + 154) (6 * f + u))) →
      m_wp en (d + 3) mWa_searchLegs 41 [some (.ref (X + 132)), some (.int (m_i (f : Int))), some (.int (m_i (t : Int))), o3] [] (T, m_I J1, P, L, z, w) Q := by
  intro r
  induction r with
  | zero =>
    intro t J1 o3 ht hW hqq hg h8 hl
    obtain rfl : t = 6 := by omega
    refine r_iln eWa_searchLegs_41 rfl ?_
    refine r_bip eWa_searchLegs_42 (by decide) ?_
    refine r_cge (tgt := 95) eWa_searchLegs_44 rfl ⟨(by omega), (by omega)⟩ ⟨(by omega), (by omega)⟩ (fun c44 => ?_) (fun c44 => ?_)
    · refine r_ret eWa_searchLegs_95 rfl ?_
      exact hq J1 hW hqq h8 hl
    · exfalso; omega
  | succ r ih =>
    intro t J1 o3 ht hW hqq hg h8 hl
    have e29 : J1 (X + 29) 5 = J (X + 29) 5 := hqq.2.1 _ _ (by omega)
    have hout : ¬ (0 ≤ (t : Int) ∧ (t : Int) < J1 (X + 29) 5) → ∃ γ9, (-1 : Int) = a_nb C γ9 ∧ ∀ r, cl_fx C 511 4 (cl_spt J X f) γ9 r → cl_leg J X C f t r := fun q => ⟨(-1, 0, 0, 0, 0), w_no.1.symm, fun r h => by
      unfold cl_leg
      rw [if_neg (fun e => by omega)]
      rcases h with a | a
      · exact absurd a.1 w_no.2
      · exact a.2⟩
    have hnext : ∀ J4 r, cl_W en X N zb wb C T J4 P z w → cl_q X N T J P L T J4 P L → cl_g T J4 P X 149 (X + 133) C 0 511 4 (w_sd C (cl_spt J X f)) → J4 (X + 132) 8 = J1 (X + 132) 8 → (∀ i, J4 (X + 154) i = J1 (X + 154) i) → cl_leg J X C f t r → m_wp en (d + 3) mWa_searchLegs 41 [some (.ref (X + 132)), some (.int (m_i (f : Int))), some (.int (m_i ((t : Int) + 1))), some (.int (m_i (6 * (f : Int) + (t : Int))))] [] (T, m_I (m_up J4 (X + 154) (6 * (f : Int) + (t : Int)).toNat r), P, L, z, w) Q := fun J4 r a1 a2 a3 a4 a5 a6 => by
      have ei : (6 * (f : Int) + (t : Int)).toNat = 6 * f + t := by omega
      rw [ei]
      have := ih (t + 1) (m_up J4 (X + 154) (6 * f + t) r) (some (.int (m_i (6 * (f : Int) + (t : Int))))) (by omega) (cl_W_lg a1 hf (by omega) (by rw [a4, h8]; exact h80)) (cl_q_t a2 (cl_q_J (fun b i q => m_up_o (by omega)))) (cl_g_sm (cl_sm_up a1.1 cl_o149 (by omega) ⟨⟨rfl, rfl, rfl, rfl⟩, fun _ => rfl, rfl, rfl⟩) a3) (by rw [m_up_o (by omega), a4]; exact h8) (fun u hu => by
        rcases Nat.lt_or_eq_of_le (Nat.le_of_lt_succ hu) with q | q
        · rw [m_up_j (by omega), a5]; exact hl u q
        · subst q; rw [m_up_same]; exact a6)
      rw [show ((t + 1 : Nat) : Int) = (t : Int) + 1 by omega] at this
      exact this
    refine r_iln eWa_searchLegs_41 rfl ?_
    refine r_bip eWa_searchLegs_42 (by decide) ?_
    refine r_cge (tgt := 95) eWa_searchLegs_44 rfl ⟨(by omega), (by omega)⟩ ⟨(by omega), (by omega)⟩ (fun c44 => ?_) (fun c44 => ?_)
    · exfalso; omega
    · refine r_bip eWa_searchLegs_47 (by decide) ?_
      refine r_iln eWa_searchLegs_49 rfl ?_
      refine r_mul eWa_searchLegs_50 ?_
      refine r_iln eWa_searchLegs_51 rfl ?_
      refine r_add eWa_searchLegs_52 ?_
      refine r_isn (ls' := [some (.ref (X + 132)), some (.int (m_i ((f : Int)))), some (.int (m_i ((t : Int)))), some (.int (m_i (((6) * ((f : Int))) + ((t : Int)))))]) eWa_searchLegs_53 (Nat.le_of_ble_eq_true rfl) rfl ?_
      refine r_iln eWa_searchLegs_54 rfl ?_
      refine r_zlt (tgt := 89) eWa_searchLegs_55 rfl ⟨(by omega), (by omega)⟩ (fun c55 => ?_) (fun c55 => ?_)
      · refine r_inc (ls' := [some (.ref (X + 132)), some (.int (m_i ((f : Int)))), some (.int (m_i ((t : Int) + 1))), some (.int (m_i (((6) * ((f : Int))) + ((t : Int)))))]) eWa_searchLegs_89 rfl rfl ?_
        refine r_go (tgt := 41) eWa_searchLegs_92 rfl ?_
        first | (exfalso; omega) | exact hnext J4 r m1 (cl_q_t (cl_q_t hqq w8) m2) m3 m8 (fun i => (m6 _ i (by omega) (by omega)).trans (w7 i)) (hγ9 r m4)
      · refine r_iln eWa_searchLegs_58 rfl ?_
        refine r_aln eWa_searchLegs_59 rfl ?_
        refine m_getR eWa_searchLegs_60 rfl (cl_t hX (i := 132) rfl) (cl_p hX (i := 112) rfl) ?_
        refine r_alen eWa_searchLegs_63 (cl_t hX (i := 148) rfl) (by decide) ?_
        refine r_cge (tgt := 89) eWa_searchLegs_64 rfl ⟨(by omega), (by omega)⟩ ⟨(by omega), (by omega)⟩ (fun c64 => ?_) (fun c64 => ?_)
        · refine r_inc (ls' := [some (.ref (X + 132)), some (.int (m_i ((f : Int)))), some (.int (m_i ((t : Int) + 1))), some (.int (m_i (((6) * ((f : Int))) + ((t : Int)))))]) eWa_searchLegs_89 rfl rfl ?_
          refine r_go (tgt := 41) eWa_searchLegs_92 rfl ?_
          first | (exfalso; omega) | exact hnext J4 r m1 (cl_q_t (cl_q_t hqq w8) m2) m3 m8 (fun i => (m6 _ i (by omega) (by omega)).trans (w7 i)) (hγ9 r m4)
        · refine r_aln eWa_searchLegs_67 rfl ?_
          refine m_getR eWa_searchLegs_68 rfl (cl_t hX (i := 132) rfl) (cl_p hX (i := 112) rfl) ?_
          refine r_iln eWa_searchLegs_71 rfl ?_
          refine r_aln eWa_searchLegs_72 rfl ?_
          refine m_getR eWa_searchLegs_73 rfl (cl_t hX (i := 132) rfl) (cl_p hX (i := 111) rfl) ?_
          refine r_aln eWa_searchLegs_76 rfl ?_
          refine r_aln eWa_searchLegs_77 rfl ?_
          refine m_getR eWa_searchLegs_78 rfl (cl_t hX (i := 132) rfl) (cl_p hX (i := 107) rfl) ?_
          refine r_iln eWa_searchLegs_81 rfl ?_
          refine r_vir eWa_searchLegs_82 rfl rfl rfl (cl_t hX (i := 132) rfl) rfl rfl ?_
          refine c_Wa_spotNumber hX (Or.inl rfl) ok hW.2.1.2.2.2.2 hW.2.1.1 ⟨by omega, by omega⟩ (fun q9 => ?_) (fun q9 => ?_)
          · obtain ⟨γ9, eγ9, hγ9⟩ : ∃ γ9, (-1 : Int) = a_nb C γ9 ∧ ∀ r, cl_fx C 511 4 (cl_spt J X f) γ9 r → cl_leg J X C f t r := hout q9
            have w5 := hW
            have w6 := hg
            have w7 : ∀ i, J1 (X + 154) i = J1 (X + 154) i := fun _ => rfl
            have w8 : cl_q X N T J1 P L T J1 P L := cl_q_r
            have w9 : J1 (X + 132) 8 = J1 (X + 132) 8 := rfl
            show m_wp en _ mWa_searchLegs 85 [some (.ref (X + 132)), some (.int (m_i ((f : Int)))), some (.int (m_i ((t : Int)))), some (.int (m_i (((6) * ((f : Int))) + ((t : Int)))))] [(.int (m_i ((-1)))), (.ref (X + 149)), (.int (m_i (((6) * ((f : Int))) + ((t : Int))))), (.ref (X + 154))] (T, m_I J1, P, L, z, w) Q
            refine r_vir eWa_searchLegs_85 rfl rfl rfl (cl_t hX (i := 145) rfl) rfl rfl ?_
            refine c_as w5 (Or.inl rfl) ok w5.2.1.2.2.2.2 (by omega) (by omega) w6 (γ := γ9) eγ9 (fun J4 r m1 m2 m3 m4 m5 m6 => ?_)
            have m8 : J4 (X + 132) 8 = J1 (X + 132) 8 := (m6 _ _ (by omega) (by omega)).trans w9
            show m_wp en _ mWa_searchLegs 88 [some (.ref (X + 132)), some (.int (m_i ((f : Int)))), some (.int (m_i ((t : Int)))), some (.int (m_i (((6) * ((f : Int))) + ((t : Int)))))] [(.int (m_i (r))), (.int (m_i (((6) * ((f : Int))) + ((t : Int))))), (.ref (X + 154))] (T, m_I J4, P, L, z, w) Q
            refine r_iast eWa_searchLegs_88 (cl_t hX (i := 148) rfl) (by decide) (by omega) (by omega) (cl_e hX 154) ?_
            refine r_inc (ls' := [some (.ref (X + 132)), some (.int (m_i ((f : Int)))), some (.int (m_i ((t : Int) + 1))), some (.int (m_i (((6) * ((f : Int))) + ((t : Int)))))]) eWa_searchLegs_89 rfl rfl ?_
            refine r_go (tgt := 41) eWa_searchLegs_92 rfl ?_
            first | (exfalso; omega) | exact hnext J4 r m1 (cl_q_t (cl_q_t hqq w8) m2) m3 m8 (fun i => (m6 _ i (by omega) (by omega)).trans (w7 i)) (hγ9 r m4)
          · rw [Int.toNat_natCast, cl_spt_e (fun b i q => hqq.2.1 b i (by omega))]
            obtain ⟨γ9, eγ9, hγ9⟩ : ∃ γ9, a_nb C (cl_spt J X t) = a_nb C γ9 ∧ ∀ r, cl_fx C 511 4 (cl_spt J X f) γ9 r → cl_leg J X C f t r := ⟨cl_spt J X t, rfl, fun r q => cl_fx_leg q (by omega)⟩
            have w5 := cl_W_po (τ := cl_spt J X t) hW (k := 155) (by omega)
            have w6 := cl_g_po (τ := cl_spt J X t) (k := 155) hW.1 cl_o149 (by omega) hg
            have w7 : ∀ i, po_put J1 (X + 155) (cl_spt J X t) (X + 154) i = J1 (X + 154) i := fun i => po_put_o (by omega)
            have w8 : cl_q X N T J1 P L T (po_put J1 (X + 155) (cl_spt J X t)) P L := cl_q_po (by omega)
            have w9 : po_put J1 (X + 155) (cl_spt J X t) (X + 132) 8 = J1 (X + 132) 8 := po_put_o (by omega)
            show m_wp en _ mWa_searchLegs 85 [some (.ref (X + 132)), some (.int (m_i ((f : Int)))), some (.int (m_i ((t : Int)))), some (.int (m_i (((6) * ((f : Int))) + ((t : Int)))))] [(.int (m_i ((a_nb C (cl_spt J X t))))), (.ref (X + 149)), (.int (m_i (((6) * ((f : Int))) + ((t : Int))))), (.ref (X + 154))] (T, m_I (((po_put J1 (X + 155) (cl_spt J X t)))), P, L, z, w) Q
            refine r_vir eWa_searchLegs_85 rfl rfl rfl (cl_t hX (i := 145) rfl) rfl rfl ?_
            refine c_as w5 (Or.inl rfl) ok w5.2.1.2.2.2.2 (by omega) (by omega) w6 (γ := γ9) eγ9 (fun J4 r m1 m2 m3 m4 m5 m6 => ?_)
            have m8 : J4 (X + 132) 8 = J1 (X + 132) 8 := (m6 _ _ (by omega) (by omega)).trans w9
            show m_wp en _ mWa_searchLegs 88 [some (.ref (X + 132)), some (.int (m_i ((f : Int)))), some (.int (m_i ((t : Int)))), some (.int (m_i (((6) * ((f : Int))) + ((t : Int)))))] [(.int (m_i (r))), (.int (m_i (((6) * ((f : Int))) + ((t : Int))))), (.ref (X + 154))] (T, m_I J4, P, L, z, w) Q
            refine r_iast eWa_searchLegs_88 (cl_t hX (i := 148) rfl) (by decide) (by omega) (by omega) (cl_e hX 154) ?_
            refine r_inc (ls' := [some (.ref (X + 132)), some (.int (m_i ((f : Int)))), some (.int (m_i ((t : Int) + 1))), some (.int (m_i (((6) * ((f : Int))) + ((t : Int)))))]) eWa_searchLegs_89 rfl rfl ?_
            refine r_go (tgt := 41) eWa_searchLegs_92 rfl ?_
            first | (exfalso; omega) | exact hnext J4 r m1 (cl_q_t (cl_q_t hqq w8) m2) m3 m8 (fun i => (m6 _ i (by omega) (by omega)).trans (w7 i)) (hγ9 r m4)
end LEG
