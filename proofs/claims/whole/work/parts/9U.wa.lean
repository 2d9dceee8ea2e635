/-! the class's world with its caches -/
/-- two tellings of the same stand -/
def cf_eq (C C' : a_C) : Prop := C.1 = C'.1 ∧ C.2.1 = C'.2.1 ∧ C.2.2.1 = C'.2.2.1 ∧ C.2.2.2.1 = C'.2.2.2.1 ∧ C.2.2.2.2.1 = C'.2.2.2.2.1 ∧ ∀ x : Int, 0 ≤ x → x < 16 → C.2.2.2.2.2 x = C'.2.2.2.2.2 x
def cl_cf (J : Nat → Nat → Int) (X : Nat) : a_C := pl_cf J (X + 17) (J (X + 32)) (J (X + 30) 2)
def cl_mo (J : Nat → Nat → Int) (X : Nat) : Prop := (∀ i : Nat, i < 16 → 0 ≤ J (X + 32) i ∧ J (X + 32) i ≤ 100) ∧ (J (X + 30) 2 = 0 ∨ J (X + 30) 2 = 1) ∧ (0 ≤ J (X + 30) 3 ∧ J (X + 30) 3 ≤ 9999) ∧ (0 ≤ J (X + 30) 4 ∧ J (X + 30) 4 ≤ 9999) ∧ a_bx (po_get J (X + 31))
def w_sd (C : a_C) (π : a_S) : a_S → Prop := fun x => a_is C π = true ∧ x = π
def w_sh (C : a_C) : a_S → Prop := fun x => a_is C x = true ∧ w_rs x
/-- a search that was begun -/
def cl_g (T : Nat → Option (Nat × Nat)) (J : Nat → Nat → Int) (P : Nat → Nat → Option Nat) (X o A : Nat) (C : a_C) (bw by_ most : Int) (Sd : a_S → Prop) : Prop := P (X + o) 4 = some A ∧ J (X + o) 5 = bw ∧ J (X + o) 6 = by_ ∧ J (X + o) 7 = most ∧ a_sz C ≤ sN T P (X + o) ∧ 0 ≤ J (X + o) 2 ∧ ∃ s par cod, g_I C (sN T P (X + o)) bw most by_ Sd s (se_g J (X + o) (sR P (X + o)) (sU P (X + o))) par cod (J (X + o) 2).toNat 0
def cl_spt (J : Nat → Nat → Int) (X k : Nat) : a_S := (J (X + 21) k, 0, 0, 0, J (X + 22) k)
/-- steps from rest to rest -/
def cl_leg (J : Nat → Nat → Int) (X : Nat) (C : a_C) (f t : Nat) (r : Int) : Prop := if ((t : Int) < J (X + 29) 5 ∧ a_is C (cl_spt J X f) = true) ∧ a_is C (cl_spt J X t) = true then b_ans (w_sd C (cl_spt J X f)) (g_E C 0 4 511) (cl_spt J X t) r else r = -2
def cl_ch (T : Nat → Option (Nat × Nat)) (J : Nat → Nat → Int) (P : Nat → Nat → Option Nat) (X : Nat) (C : a_C) : Prop := J (X + 132) 9 = 0 ∨ (J (X + 132) 9 = 1 ∧ cl_g T J P X 139 (X + 133) C 0 511 4 (w_sd C (po_get J (X + 31))))
def cl_cm (T : Nat → Option (Nat × Nat)) (J : Nat → Nat → Int) (P : Nat → Nat → Option Nat) (X : Nat) (C : a_C) : Prop := J (X + 132) 10 = 0 ∨ (J (X + 132) 10 = 1 ∧ cl_g T J P X 144 (X + 133) C 1 511 4 (w_sh C))
def cl_cl (J : Nat → Nat → Int) (X : Nat) (C : a_C) : Prop := (0 ≤ J (X + 132) 8 ∧ J (X + 132) 8 < 64) ∧ ∀ f : Nat, f < 6 → J (X + 132) 8 / ((2 ^ f : Nat) : Int) % 2 = 1 → ∀ t : Nat, t < 6 → cl_leg J X C f t (J (X + 154) (6 * f + t))
def cl_W (en : Nat → Nat) (X N zb wb : Nat) (C : a_C) (T : Nat → Option (Nat × Nat)) (J : Nat → Nat → Int) (P : Nat → Nat → Option Nat) (z w : Nat) : Prop := cl_V en X N zb wb T P z w ∧ (pl_ok J (X + 17) ∧ cl_mo J X ∧ a_ok C ∧ cf_eq (cl_cf J X) C ∧ sp_is J (X + 133) C) ∧ cl_ch T J P X C ∧ cl_cm T J P X C ∧ cl_cl J X C
/-- a search is as it was -/
def cl_sm (X o : Nat) (T : Nat → Option (Nat × Nat)) (J : Nat → Nat → Int) (P : Nat → Nat → Option Nat) (T' : Nat → Option (Nat × Nat)) (J' : Nat → Nat → Int) (P' : Nat → Nat → Option Nat) : Prop := (sR P' (X + o) = sR P (X + o) ∧ sU P' (X + o) = sU P (X + o) ∧ sN T' P' (X + o) = sN T P (X + o) ∧ P' (X + o) 4 = P (X + o) 4) ∧ (∀ i, J' (X + o) i = J (X + o) i) ∧ J' (sR P (X + o)) = J (sR P (X + o)) ∧ J' (sU P (X + o)) = J (sU P (X + o))
section WA
variable {en : Nat → Nat} {d : Nat} {T T' T2 : Nat → Option (Nat × Nat)} {J J' J0 J1 J2 K H : Nat → Nat → Int} {P P' P2 : Nat → Nat → Option Nat} {L L' L2 : Nat → Nat → Int64} {z w z' w' A B R U S n X N zb wb o o' A0 : Nat} {Q : m_Q} {σ τ γ π : a_S} {C : a_C} {bw most by_ : Int} {Sd : a_S → Prop}
theorem pl_ok_e (h : pl_ok J A) (e : ∀ b i, A ≤ b → b ≤ A + 12 → J' b i = J b i) : pl_ok J' A := by
  have f : ∀ k, k ≤ 12 → J' (A + k) = J (A + k) := fun k hk => funext (fun i => e _ i (by omega) (by omega))
  have f0 : J' A = J A := f 0 (by omega)
  unfold pl_ok at h ⊢
  rw [f0, f 1 (by omega), f 2 (by omega), f 3 (by omega), f 4 (by omega), f 5 (by omega), f 6 (by omega), f 7 (by omega), f 8 (by omega), f 9 (by omega), f 10 (by omega), f 11 (by omega), f 12 (by omega)]
  exact h
theorem cl_cf_e (e : ∀ b i, b < X + 132 → J' b i = J b i) : cl_cf J' X = cl_cf J X := by
  have f0 : J' (X + 17) = J (X + 17) := funext (fun i => e _ i (by omega))
  have f1 : J' (X + 17 + 1) = J (X + 17 + 1) := funext (fun i => e _ i (by omega))
  have f2 : J' (X + 32) = J (X + 32) := funext (fun i => e _ i (by omega))
  have f3 : J' (X + 30) = J (X + 30) := funext (fun i => e _ i (by omega))
  unfold cl_cf pl_cf
  rw [f0, f2, f3]
  congr 5
  funext x
  unfold pl_fr
  rw [f0, f1]
theorem cl_mo_e (h : cl_mo J X) (e : ∀ b i, b < X + 132 → J' b i = J b i) : cl_mo J' X := by
  have f2 : J' (X + 32) = J (X + 32) := funext (fun i => e _ i (by omega))
  have f3 : J' (X + 30) = J (X + 30) := funext (fun i => e _ i (by omega))
  have f4 : J' (X + 31) = J (X + 31) := funext (fun i => e _ i (by omega))
  unfold cl_mo po_get at h ⊢
  rw [f2, f3, f4]
  exact h
theorem cl_spt_e (e : ∀ b i, b < X + 132 → J' b i = J b i) {k : Nat} : cl_spt J' X k = cl_spt J X k := by
  unfold cl_spt
  rw [e _ _ (by omega), e _ _ (by omega)]
theorem po_get_e (e : ∀ i, J' A i = J A i) : po_get J' A = po_get J A := by
  unfold po_get
  rw [e, e, e, e, e]
theorem cl_g_sm (h : cl_sm X o T J P T' J' P') (hg : cl_g T J P X o A C bw by_ most Sd) : cl_g T' J' P' X o A C bw by_ most Sd := by
  obtain ⟨⟨h1, h2, h3, h4⟩, h5, h6, h7⟩ := h
  unfold cl_g se_g at hg ⊢
  rw [h1, h2, h3, h4, h5, h5, h5, h5, h5, h6, h7]
  exact hg
/-- all is as it was but for what no cache looks at -/
theorem cl_W_e (h : cl_W en X N zb wb C T J P z w) (hV : cl_V en X N zb wb T' P' z' w') (f1 : ∀ b i, b < X + 136 → J' b i = J b i) (f2 : ∀ i, J' (X + 154) i = J (X + 154) i) (f3 : cl_sm X 139 T J P T' J' P') (f4 : cl_sm X 144 T J P T' J' P') : cl_W en X N zb wb C T' J' P' z' w' := by
  obtain ⟨-, ⟨h1, h2, h3, h4, h5⟩, h6, h7, h8⟩ := h
  have f0 : ∀ b i, b < X + 132 → J' b i = J b i := fun b i q => f1 b i (by omega)
  refine ⟨hV, ⟨pl_ok_e h1 (fun b i _ _ => f0 b i (by omega)), cl_mo_e h2 f0, h3, by rw [cl_cf_e f0]; exact h4, sp_is_e h5 (fun i => f1 _ i (by omega)) (fun i => f1 _ i (by omega)) (fun i => f1 _ i (by omega))⟩, ?_, ?_, ?_⟩
  · unfold cl_ch at h6 ⊢
    rw [f1 (X + 132) 9 (by omega), po_get_e (fun i => f0 (X + 31) i (by omega))]
    rcases h6 with q | q
    · exact Or.inl q
    · exact Or.inr ⟨q.1, cl_g_sm f3 q.2⟩
  · unfold cl_cm at h7 ⊢
    rw [f1 (X + 132) 10 (by omega)]
    rcases h7 with q | q
    · exact Or.inl q
    · exact Or.inr ⟨q.1, cl_g_sm f4 q.2⟩
  · unfold cl_cl cl_leg at h8 ⊢
    simp only [f1 (X + 132) 8 (by omega), f2, cl_spt_e f0, f0 (X + 29) 5 (by omega)]
    exact h8
/-- a search on one leaves the others -/
theorem cl_sm_fr (hV : cl_V en X N zb wb T P z w) (ho : cl_o o) (ho' : cl_o o') (hne : o' ≠ o) (hf : se_fr J J' (X + o) (sR P (X + o)) (sU P (X + o))) : cl_sm X o' T J P T J' P := by
  have d1 := hV.2.2.1 o o' ho ho' (fun e => hne e.symm)
  have d2 := hV.2.2.1 o' o ho' ho hne
  have hN := hV.2.1
  obtain ⟨z1, z2, z3⟩ := cl_z hV ho
  obtain ⟨y1, y2, y3⟩ := cl_z hV ho'
  unfold cl_o at ho ho'
  refine ⟨⟨rfl, rfl, rfl, rfl⟩, fun i => hf _ i (by omega) (by omega) (by omega) (by omega) (by omega), funext (fun i => hf _ i (fun e => d1.1 e.symm) (fun e => d2.2.1 e) (by omega) (by omega) (by omega)), funext (fun i => hf _ i (fun e => d1.2.1 e.symm) (fun e => d1.2.2 e.symm) (by omega) (by omega) (by omega))⟩
theorem cl_sm_z (hV : cl_V en X N zb wb T P z w) (ho : cl_o o) (hf : ∀ b i, ¬ (X + 154 ≤ b ∧ b < X + 165) → J' b i = J b i) : cl_sm X o T J P T J' P := by
  have hN := hV.2.1
  obtain ⟨z1, z2, z3⟩ := cl_z hV ho
  unfold cl_o at ho
  exact ⟨⟨rfl, rfl, rfl, rfl⟩, fun i => hf _ i (by omega), funext (fun i => hf _ i (by omega)), funext (fun i => hf _ i (by omega))⟩
/-- a pose that no cache looks at -/
theorem cl_W_z (h : cl_W en X N zb wb C T J P z w) (hf : ∀ b i, ¬ (X + 155 ≤ b ∧ b < X + 165) → J' b i = J b i) : cl_W en X N zb wb C T J' P z w :=
  cl_W_e h h.1 (fun b i q => hf b i (by omega)) (fun i => hf _ i (by omega)) (cl_sm_z h.1 (Or.inl rfl) (fun b i q => hf b i (by omega))) (cl_sm_z h.1 (Or.inr (Or.inl rfl)) (fun b i q => hf b i (by omega)))
theorem cl_W_po (h : cl_W en X N zb wb C T J P z w) {k : Nat} (hk : 155 ≤ k ∧ k < 165) : cl_W en X N zb wb C T (po_put J (X + k) τ) P z w := cl_W_z h (fun b i q => po_put_o (by omega))
theorem cl_q_po {k : Nat} (hk : 133 ≤ k ∧ k < 156) : cl_q X N T J P L T (po_put J (X + k) τ) P L := cl_q_J (fun b i q => po_put_o (by omega))
theorem cl_q_fr (hV : cl_V en X N zb wb T P z w) (ho : cl_o o) (hf : se_fr J J' (X + o) (sR P (X + o)) (sU P (X + o))) : cl_q X N T J P L T J' P L := by
  have hN := hV.2.1
  obtain ⟨z1, z2, z3⟩ := cl_z hV ho
  unfold cl_o at ho
  exact cl_q_J (fun b i q => hf b i (by omega) (by omega) (by omega) (by omega) (by omega))
theorem cl_fr_b (hV : cl_V en X N zb wb T P z w) (ho : cl_o o) (hf : se_fr J J' (X + o) (sR P (X + o)) (sU P (X + o))) : ∀ b i, b < N → ¬ (X + o ≤ b ∧ b < X + o + 5) → J' b i = J b i := fun b i q q2 => by
  have hN := hV.2.1
  obtain ⟨z1, z2, z3⟩ := cl_z hV ho
  exact hf b i (by omega) (by omega) (by omega) (by omega) (by omega)
theorem a_bx_sm (h : a_bx σ) : a_sm σ := by
  obtain ⟨h0, h1, h2, h3, h4⟩ := h
  unfold a_sm
  omega
theorem c_Wa_restNumber (hX : cl_sh en X T P) (hA : A = X + 133 ∨ A = X + 136) (ok : a_ok C) (hC : sp_is J A C) {x e : Int} (hx : -1000 ≤ x ∧ x ≤ 1000) (he : -1000 ≤ e ∧ e ≤ 1000) (hq : Q (some (.int (m_i (a_nb C (x, 0, 0, 0, e))))) (T, m_I (po_put J (X + 155) (x, 0, 0, 0, e)), P, L, z, w)) : m_call en (d + 2) mWa_restNumber [.ref (X + 132), .ref A, .int (m_i x), .int (m_i e)] (T, m_I J, P, L, z, w) Q := by
  refine m_into (by decide) (Nat.le_of_ble_eq_true rfl) rfl ?_
  show m_wp en _ mWa_restNumber 0 [some (.ref (X + 132)), some (.ref A), some (.int (m_i (x))), some (.int (m_i (e)))] [] (T, m_I J, P, L, z, w) Q
  refine r_aln eWa_restNumber_0 rfl ?_
  refine m_getR eWa_restNumber_1 rfl (cl_t hX (i := 132) rfl) (cl_p hX (i := 113) rfl) ?_
  refine r_iln eWa_restNumber_4 rfl ?_
  refine r_iln eWa_restNumber_5 rfl ?_
  refine r_vir eWa_restNumber_6 rfl rfl rfl (cl_t hX (i := 149) rfl) rfl rfl ?_
  refine c_Po_hang (cl_po hX (k := 155) (by decide)) ?_
  show m_wp en _ mWa_restNumber 9 [some (.ref (X + 132)), some (.ref A), some (.int (m_i (x))), some (.int (m_i (e)))] [] (T, m_I (((po_put J (X + 155) (x, 0, 0, 0, e)))), P, L, z, w) Q
  refine r_aln eWa_restNumber_9 rfl ?_
  refine r_aln eWa_restNumber_10 rfl ?_
  refine m_getR eWa_restNumber_11 rfl (cl_t hX (i := 132) rfl) (cl_p hX (i := 113) rfl) ?_
  refine r_vir eWa_restNumber_14 rfl rfl rfl (cl_sp hX hA).2.1 rfl rfl ?_
  refine c_Sp_numberOf (cl_sp hX hA) (cl_po hX (k := 155) (by decide)) (sp_is_e hC (fun i => po_put_o (by omega)) (fun i => po_put_o (by omega)) (fun i => po_put_o (by omega))) ok (by rw [po_get_put]; exact ⟨by simp only; omega, by simp only; omega, by simp only; omega, by simp only; omega, by simp only; omega⟩) ?_
  rw [po_get_put]
  show m_wp en _ mWa_restNumber 17 [some (.ref (X + 132)), some (.ref A), some (.int (m_i (x))), some (.int (m_i (e)))] [(.int (m_i ((a_nb C (x, 0, 0, 0, e)))))] (T, m_I (((((po_put J (X + 155) (x, 0, 0, 0, e)))))), P, L, z, w) Q
  refine r_iret eWa_restNumber_17 rfl ?_
  exact hq
theorem c_Wa_spotNumber (hX : cl_sh en X T P) (hA : A = X + 133 ∨ A = X + 136) (ok : a_ok C) (hC : sp_is J A C) (pok : pl_ok J (X + 17)) {s : Int} (hs : m_in s) (h0 : ¬ (0 ≤ s ∧ s < J (X + 29) 5) → Q (some (.int (m_i (-1)))) (T, m_I J, P, L, z, w)) (h1 : (0 ≤ s ∧ s < J (X + 29) 5) → Q (some (.int (m_i (a_nb C (cl_spt J X s.toNat))))) (T, m_I (po_put J (X + 155) (cl_spt J X s.toNat)), P, L, z, w)) : m_call en (d + 3) mWa_spotNumber [.ref (X + 132), .ref A, .int (m_i s)] (T, m_I J, P, L, z, w) Q := by
  have k5 : 0 ≤ J (X + 17 + 12) 5 ∧ J (X + 17 + 12) 5 ≤ 6 := pok.2.2.2.2.1
  have e29 : J (X + 29) 5 = J (X + 17 + 12) 5 := rfl
  have hb : (a_b (decide (0 ≤ s ∧ s < J (X + 17 + 12) 5)) = 1 ∧ (0 ≤ s ∧ s < J (X + 17 + 12) 5)) ∨ (a_b (decide (0 ≤ s ∧ s < J (X + 17 + 12) 5)) = 0 ∧ ¬ (0 ≤ s ∧ s < J (X + 17 + 12) 5)) := by
    by_cases q : 0 ≤ s ∧ s < J (X + 17 + 12) 5
    · exact Or.inl ⟨a_b_t (decide_eq_true q), q⟩
    · exact Or.inr ⟨a_b_f (by rw [decide_eq_true_eq]; exact q), q⟩
  have hsp : (0 ≤ s ∧ s < 6) → (0 ≤ J (X + 21) s.toNat ∧ J (X + 21) s.toNat < 16) ∧ 0 ≤ J (X + 22) s.toNat ∧ J (X + 22) s.toNat ≤ 6 := fun q => (pok.2.2.2.2.2.2.2.2.2.1 s.toNat (by omega)).2
  refine m_into (by decide) (Nat.le_of_ble_eq_true rfl) rfl ?_
  show m_wp en _ mWa_spotNumber 0 [some (.ref (X + 132)), some (.ref A), some (.int (m_i (s)))] [] (T, m_I J, P, L, z, w) Q
  refine r_aln eWa_spotNumber_0 rfl ?_
  refine m_getR eWa_spotNumber_1 rfl (cl_t hX (i := 132) rfl) (cl_p hX (i := 105) rfl) ?_
  refine r_iln eWa_spotNumber_4 rfl ?_
  refine r_vir eWa_spotNumber_5 rfl rfl rfl (cl_t hX (i := 17) rfl) rfl rfl ?_
  refine c_Pl_hasSpot (cl_plan hX) pok hs ?_
  show m_wp en _ mWa_spotNumber 8 [some (.ref (X + 132)), some (.ref A), some (.int (m_i (s)))] [(.int (m_i ((a_b (decide (0 ≤ s ∧ s < J (X + 17 + 12) 5))))))] (T, m_I J, P, L, z, w) Q
  refine r_zeq (tgt := 37) eWa_spotNumber_8 rfl ⟨(by omega), (by omega)⟩ (fun c8 => ?_) (fun c8 => ?_)
  · refine r_con eWa_spotNumber_37 ?_
    refine r_iret eWa_spotNumber_38 rfl ?_
    first | exact h1 (by omega) | exact h0 (by omega)
  · have hsp2 := hsp (by omega)
    refine r_aln eWa_spotNumber_11 rfl ?_
    refine r_aln eWa_spotNumber_12 rfl ?_
    refine r_aln eWa_spotNumber_13 rfl ?_
    refine m_getR eWa_spotNumber_14 rfl (cl_t hX (i := 132) rfl) (cl_p hX (i := 105) rfl) ?_
    refine m_getR eWa_spotNumber_17 rfl (cl_t hX (i := 17) rfl) (cl_p hX (i := 29) rfl) ?_
    refine r_iln eWa_spotNumber_20 rfl ?_
    refine r_ialde (x := J (X + 21) ((s).toNat)) eWa_spotNumber_21 (cl_t hX (i := 21) rfl) (by decide) (by omega) (by omega) rfl ?_
    refine r_aln eWa_spotNumber_22 rfl ?_
    refine m_getR eWa_spotNumber_23 rfl (cl_t hX (i := 132) rfl) (cl_p hX (i := 105) rfl) ?_
    refine m_getR eWa_spotNumber_26 rfl (cl_t hX (i := 17) rfl) (cl_p hX (i := 30) rfl) ?_
    refine r_iln eWa_spotNumber_29 rfl ?_
    refine r_ialde (x := J (X + 22) ((s).toNat)) eWa_spotNumber_30 (cl_t hX (i := 22) rfl) (by decide) (by omega) (by omega) rfl ?_
    refine r_vir eWa_spotNumber_31 rfl rfl rfl (cl_t hX (i := 132) rfl) rfl rfl ?_
    refine c_Wa_restNumber hX hA ok hC (by omega) (by omega) ?_
    show m_wp en _ mWa_spotNumber 34 [some (.ref (X + 132)), some (.ref A), some (.int (m_i (s)))] [(.int (m_i ((a_nb C (J (X + 21) s.toNat, 0, 0, 0, J (X + 22) s.toNat)))))] (T, m_I (((po_put J (X + 155) (J (X + 21) s.toNat, 0, 0, 0, J (X + 22) s.toNat)))), P, L, z, w) Q
    refine r_go (tgt := 38) eWa_spotNumber_34 rfl ?_
    refine r_iret eWa_spotNumber_38 rfl ?_
    first | exact h1 (by omega) | exact h0 (by omega)
end WA
