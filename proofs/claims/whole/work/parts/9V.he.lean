/-! the class: from here -/
def cl_fw (C : a_C) (π γ : a_S) (r : Int) : Prop := (a_is C γ = true ∧ b_ans (w_sd C π) (g_E C 0 4 511) γ r) ∨ (¬ a_is C γ = true ∧ r = -2)
section HE
variable {en : Nat → Nat} {d : Nat} {T T' T2 T0 : Nat → Option (Nat × Nat)} {J J' J0 J1 J2 J3 K H : Nat → Nat → Int} {P P' P2 P0 : Nat → Nat → Option Nat} {L L' L2 L0 : Nat → Nat → Int64} {z w z' w' z0 w0 A B R U S n X N zb wb o o' A0 R' U' n' : Nat} {Q : m_Q} {σ τ γ π ρ : a_S} {C : a_C} {bw most by_ gl : Int} {Sd : a_S → Prop} {g : g_T}
theorem cl_ch_e (h : cl_ch T J P X C) (e9 : J' (X + 132) 9 = J (X + 132) 9) (e31 : ∀ i, J' (X + 31) i = J (X + 31) i) (f3 : cl_sm X 139 T J P T' J' P') : cl_ch T' J' P' X C := by
  unfold cl_ch at h ⊢
  rw [e9, po_get_e e31]
  rcases h with q | q
  · exact Or.inl q
  · exact Or.inr ⟨q.1, cl_g_sm f3 q.2⟩
theorem cl_cm_e (h : cl_cm T J P X C) (e10 : J' (X + 132) 10 = J (X + 132) 10) (f4 : cl_sm X 144 T J P T' J' P') : cl_cm T' J' P' X C := by
  unfold cl_cm at h ⊢
  rw [e10]
  rcases h with q | q
  · exact Or.inl q
  · exact Or.inr ⟨q.1, cl_g_sm f4 q.2⟩
theorem cl_leg_e (f0 : ∀ b i, b < X + 132 → J' b i = J b i) {f t : Nat} {r : Int} : cl_leg J' X C f t r ↔ cl_leg J X C f t r := by
  unfold cl_leg
  rw [cl_spt_e f0, cl_spt_e f0, f0 (X + 29) 5 (by omega)]
theorem cl_cl_e (h : cl_cl J X C) (e8 : J' (X + 132) 8 = J (X + 132) 8) (f0 : ∀ b i, b < X + 132 → J' b i = J b i) (f2 : ∀ i, J' (X + 154) i = J (X + 154) i) : cl_cl J' X C := by
  unfold cl_cl at h ⊢
  rw [e8]
  refine ⟨h.1, fun f hf hb t ht => ?_⟩
  rw [f2, cl_leg_e f0]
  exact h.2 f hf hb t ht
theorem cl_W_g (h : cl_W en X N zb wb C T J P z w) (hV : cl_V en X N zb wb T' P' z' w') (f1 : ∀ b i, b < X + 136 → b ≠ X + 132 → J' b i = J b i) (h6 : cl_ch T' J' P' X C) (h7 : cl_cm T' J' P' X C) (h8 : cl_cl J' X C) : cl_W en X N zb wb C T' J' P' z' w' := by
  obtain ⟨-, ⟨h1, h2, h3, h4, h5⟩, -⟩ := h
  have f0 : ∀ b i, b < X + 132 → J' b i = J b i := fun b i q => f1 b i (by omega) (by omega)
  exact ⟨hV, ⟨pl_ok_e h1 (fun b i _ _ => f0 b i (by omega)), cl_mo_e h2 f0, h3, by rw [cl_cf_e f0]; exact h4, sp_is_e h5 (fun i => f1 _ i (by omega) (by omega)) (fun i => f1 _ i (by omega) (by omega)) (fun i => f1 _ i (by omega) (by omega))⟩, h6, h7, h8⟩
/-- the space stays behind begin -/
theorem se_bn_sp (hb : se_bn en S A C bw by_ most R U n T0 J0 P0 L0 z0 w0 R' U' n' T J P L z w) (hz : A + 3 ≤ z0) (hC : sp_is J0 A C) : sp_is J A C := by
  obtain ⟨b1, b2, b3, b4, b5, b6, b7, -⟩ := hb
  have h1 := b1.2.2.2.2.2.2.2.1
  have h2 := b1.2.2.2.2.2.2.2.2.1
  exact sp_is_e hC (fun i => b7 _ i (by omega) (by omega) (by omega)) (fun i => b7 _ i (by omega) (by omega) (by omega)) (fun i => b7 _ i (by omega) (by omega) (by omega))
/-- one seed -/
theorem c_Se_seed1 (hb : se_bn en S A C bw by_ most R U n T0 J0 P0 L0 z0 w0 R' U' n' T J P L z w) (ok : a_ok C) (hC : sp_is J A C) (hB : po_sh en B T P) (hπ : a_sm (po_get J B)) (hBR : B ≠ R') (hBU : B ≠ U') (hBS : B ≠ S)
    (hq : ∀ J3, se_fr J J3 S R' U' → J3 S 2 = 0 → g_Z C n' (se_g J3 S R' U') → (∀ x, w_sd C (po_get J B) x ↔ ∃ i, i < (J3 S 3).toNat ∧ g_q (se_g J3 S R' U') i = x) → Q none (T, m_I J3, P, L, z, w)) :
    m_call en (d + 2) mSe_seed [.ref S, .ref B] (T, m_I J, P, L, z, w) Q := by
  obtain ⟨b1, b2, b3, b4, b5, b6, b7, b8, b9, b10, b11⟩ := hb
  have hne := se_at_ne b1
  have hsz := a_sz_b ok
  have hz0 : g_Z C n' (se_g J S R' U') := g_Z_0 ok (fun i hi => b8 i hi) b10
  refine c_Se_seed b1 ok hC hB hπ hBR hBU hBS b2 (by rw [b10]; omega) (fun q => ?_) (fun q => ?_)
  · refine hq J se_fr_r b9 hz0 (fun x => ⟨fun e => absurd e.1 q, fun e => ?_⟩)
    obtain ⟨i, hi, -⟩ := e
    rw [b10] at hi
    exact absurd hi (by simp)
  · have eg := se_g_ad (J := J) (S := S) (R := R') (U := U') (C := C) (τ := po_get J B) (p := a_pk (po_get J B)) (v := 10) hne.2.2.2.2.2.2 hne.1 hne.2.2.2.1 rfl
    have hnb := a_nb_b ok q
    have hu : (se_g J S R' U').1 (a_nb C (po_get J B)).toNat = 0 := b8 _ (by omega)
    have ht : (se_g J S R' U').2.2.toNat = 0 := by show (J S 3).toNat = 0; rw [b10]; rfl
    have ht0 : 0 ≤ (se_g J S R' U').2.2 := by show 0 ≤ J S 3; omega
    refine hq _ (se_fr_ad se_fr_r) ?_ (by rw [eg]; exact g_Z_add ok hz0 b2 q hu) (fun x => ?_)
    · unfold se_ad
      rw [m_up_j (by omega), m_up_o (fun e => hne.2.2.2.1 e.symm), m_up_o (fun e => hne.1 e.symm)]
      exact b9
    · have e3 : (se_ad J S R' U' (a_nb C (po_get J B)) 10 (a_pk (po_get J B)) S 3).toNat = 1 := by
        unfold se_ad
        rw [m_up_same, b10]
        rfl
      have eq0 : g_q (g_add C (se_g J S R' U') (po_get J B) 10) 0 = po_get J B := by
        have := g_add_m (C := C) (g := se_g J S R' U') (v := 10) (a_is_p5 ok q)
        rw [ht] at this
        exact this
      rw [e3, eg]
      constructor
      · rintro ⟨-, rfl⟩
        exact ⟨0, by omega, eq0⟩
      · rintro ⟨i, hi, e⟩
        obtain rfl : i = 0 := by omega
        exact ⟨q, e.symm.trans eq0⟩
theorem g_met_b (hw : g_wf C n g) (hn : n ≤ 38880) (hsz : a_sz C ≤ n) (ok : a_ok C) (hγ : a_is C γ = true) : -2 ≤ a_met g.1 n (a_nb C γ) ∧ a_met g.1 n (a_nb C γ) < 100000 := by
  have hnb := a_nb_b ok hγ
  have hm := hw.2.1 (a_nb C γ).toNat (by omega)
  unfold a_met
  by_cases q : 0 ≤ a_nb C γ ∧ a_nb C γ < n ∧ g.1 (a_nb C γ).toNat ≠ 0
  · rw [if_pos q]
    obtain ⟨i, hi, e⟩ := hw.2.2.2.2 γ hγ q.2.2
    have h2 := (hw.2.2.1 i hi).2.2.2
    have h0 := hw.1
    rw [e] at h2
    omega
  · rw [if_neg q]
    omega
/-- asked from here -/
theorem c_hr (h : cl_W en X N zb wb C T J P z w) (h9 : J (X + 132) 9 = 1) (hgl : gl = a_nb C γ)
    (hq : ∀ J' r, cl_W en X N zb wb C T J' P z w → cl_q X N T J P L T J' P L → J' (X + 132) 9 = 1 → cl_fw C (po_get J (X + 31)) γ r → (a_is C γ = true → r = a_met (J' (sR P (X + 139))) (sN T P (X + 139)) (a_nb C γ)) → (∀ i, J' (X + 155) i = J (X + 155) i) → (-2 ≤ r ∧ r < 100000) → Q (some (.int (m_i r))) (T, m_I J', P, L, z, w)) :
    m_call en (d + 3) mSe_stepsTo [.ref (X + 139), .int (m_i gl)] (T, m_I J, P, L, z, w) Q := by
  have h0 := h
  obtain ⟨hV, ⟨h1, h2, ok, h4, hC⟩, h6, h7, h8⟩ := h0
  have hN := hV.2.1
  have hg : cl_g T J P X 139 (X + 133) C 0 511 4 (w_sd C (po_get J (X + 31))) := by
    rcases h6 with q | q
    · omega
    · exact q.2
  obtain ⟨g4, g5, g6, g7, gsz, g2, s, par, cod, gI⟩ := hg
  have hS := cl_at hV (Or.inl rfl) (Or.inl rfl) g4
  by_cases q : a_is C γ = true
  · have hnb := a_nb_b ok q
    refine c_Se_stepsTo hS ok hC g5 (Or.inl rfl) g6 (by omega) g7 (by omega) gsz gI g2 (γ := γ) (Or.inr ⟨q, hgl⟩) (fun e => by omega) (fun J' par' cod' r a1 a2 a3 a4 a5 a6 a7 => ?_)
    have fb := cl_fr_b hV (Or.inl rfl) a3
    have e9 : J' (X + 132) 9 = J (X + 132) 9 := fb _ _ (by omega) (by omega)
    refine hq J' r (cl_W_g h hV (fun b i q1 q2 => fb b i (by omega) (by omega)) ?_ (cl_cm_e h7 (fb _ _ (by omega) (by omega)) (cl_sm_fr hV (Or.inl rfl) (Or.inr (Or.inl rfl)) (by omega) a3)) (cl_cl_e h8 (fb _ _ (by omega) (by omega)) (fun b i q1 => fb b i (by omega) (by omega)) (fun i => fb _ i (by omega) (by omega)))) (cl_q_fr hV (Or.inl rfl) a3) (by rw [e9]; exact h9) (Or.inl ⟨q, a6⟩) (fun _ => by rw [← hgl]; exact a7) (fun i => fb _ i (by omega) (by omega)) (by rw [a7, hgl]; exact g_met_b a4.1 hS.2.2.2.2.2.2.1 gsz ok q)
    have hne := se_at_ne hS
    have f5 : ∀ i, i ≠ 2 → i ≠ 3 → J' (X + 139) i = J (X + 139) i := fun i i2 i3 => a3 _ i (fun e => hne.1 e.symm) (fun e => hne.2.2.2.1 e.symm) (by omega) (by omega) (by omega)
    refine Or.inr ⟨by rw [e9]; exact h9, g4, (f5 5 (by omega) (by omega)).trans g5, (f5 6 (by omega) (by omega)).trans g6, (f5 7 (by omega) (by omega)).trans g7, gsz, a5, s, par', cod', ?_⟩
    rw [po_get_e (fun i => fb (X + 31) i (by omega) (by omega))]
    exact a4
  · have e1 : gl = -1 := by rw [hgl]; unfold a_nb; rw [if_neg q]
    refine c_Se_stepsTo hS ok hC g5 (Or.inl rfl) g6 (by omega) g7 (by omega) gsz gI g2 (γ := γ) (Or.inl e1) (fun _ => ?_) (fun J' par' cod' r a1 => absurd a1 q)
    exact hq J (-2) h cl_q_r h9 (Or.inr ⟨q, rfl⟩) (fun e => absurd e q) (fun _ => rfl) (by omega)
/-- behind begin and seeds: what stays -/
theorem cl_bs (hV0 : cl_V en X N zb wb T0 P0 z0 w0) (ho : cl_o o) (hA : A = X + 133 ∨ A = X + 136) (h216 : 216 ≤ a_sz C) (hbn : se_bn en (X + o) A C bw by_ most (sR P0 (X + o)) (sU P0 (X + o)) (sN T0 P0 (X + o)) T0 J0 P0 L0 z0 w0 R' U' n' T J P L z w) (s1 : se_fr J J3 (X + o) R' U') :
    (∀ b i, b < N → ¬ (X + o ≤ b ∧ b < X + o + 5) → J3 b i = J0 b i) ∧ ∀ o', cl_o o' → o' ≠ o → cl_sm X o' T0 J0 P0 T J3 P := by
  obtain ⟨hV, ⟨eR, eU, eN⟩, hoth, hq⟩ := cl_V_bn hV0 ho hA hbn h216
  have hN := hV0.2.1
  obtain ⟨x1, x2, x3⟩ := cl_z hV ho
  rw [eR, eU] at x1
  rw [eR] at x2
  rw [eU] at x3
  have b7 := hbn.2.2.2.2.2.2.1
  refine ⟨fun b i q1 q2 => ?_, fun o' ho' hne => ?_⟩
  · rw [s1 b i (by omega) (by omega) (by omega) (by omega) (by omega)]
    exact b7 b i (by omega) (by omega) (by omega)
  · obtain ⟨e1, e2, e3, e4⟩ := hoth o' ho' hne
    have d1 := hV.2.2.1 o o' ho ho' (fun e => hne e.symm)
    have d2 := hV.2.2.1 o' o ho' ho hne
    rw [eR, eU, e1, e2] at d1
    rw [eR, eU, e1, e2] at d2
    obtain ⟨y1, y2, y3⟩ := cl_z hV0 ho'
    have hoo := ho
    have hoo' := ho'
    unfold cl_o at hoo hoo'
    refine ⟨⟨e1, e2, e3, e4⟩, fun i => ?_, funext (fun i => ?_), funext (fun i => ?_)⟩
    · rw [s1 _ i (by omega) (by omega) (by omega) (by omega) (by omega)]
      exact b7 _ i (by omega) (by omega) (by omega)
    · rw [s1 _ i (fun e => d1.1 e.symm) (fun e => d2.2.1 e) (by omega) (by omega) (by omega)]
      exact b7 _ i y1.2.1 (fun e => d1.1 e.symm) (by omega)
    · rw [s1 _ i (fun e => d1.2.1 e.symm) (fun e => d1.2.2 e.symm) (by omega) (by omega) (by omega)]
      exact b7 _ i y1.2.2 (fun e => d1.2.1 e.symm) (by omega)
theorem cl_sm_up (hV : cl_V en X N zb wb T0 P0 z0 w0) (ho : cl_o o) {k j : Nat} {v : Int} (hk : 132 ≤ k ∧ k < 139 ∨ 154 ≤ k ∧ k < 165) (h : cl_sm X o T0 J0 P0 T J P) : cl_sm X o T0 J0 P0 T (m_up J (X + k) j v) P := by
  have hN := hV.2.1
  obtain ⟨y1, y2, y3⟩ := cl_z hV ho
  obtain ⟨h1, h2, h3, h4⟩ := h
  unfold cl_o at ho
  refine ⟨h1, fun i => ?_, funext (fun i => ?_), funext (fun i => ?_)⟩
  · rw [m_up_o (by omega)]; exact h2 i
  · rw [m_up_o (by omega)]; exact congrFun h3 i
  · rw [m_up_o (by omega)]; exact congrFun h4 i
theorem cl_W_here (h : cl_W en X N zb wb C T0 J0 P0 z0 w0) (hbn : se_bn en (X + 139) (X + 133) C 0 511 4 (sR P0 (X + 139)) (sU P0 (X + 139)) (sN T0 P0 (X + 139)) T0 J0 P0 L0 z0 w0 R' U' n' T J P L z w) (s1 : se_fr J J3 (X + 139) R' U') (s2 : J3 (X + 139) 2 = 0) (s3 : g_Z C n' (se_g J3 (X + 139) R' U')) (s4 : ∀ x, w_sd C (po_get J (X + 31)) x ↔ ∃ i, i < (J3 (X + 139) 3).toNat ∧ g_q (se_g J3 (X + 139) R' U') i = x) :
    cl_W en X N zb wb C T (m_up J3 (X + 132) 9 1) P z w ∧ cl_q X N T0 J0 P0 L0 T (m_up J3 (X + 132) 9 1) P L ∧ ∀ i, m_up J3 (X + 132) 9 1 (X + 155) i = J0 (X + 155) i := by
  have h0 := h
  obtain ⟨hV0, ⟨h1, h2, ok, h4, hC⟩, h6, h7, h8⟩ := h0
  have hszb := a_sz_b ok
  obtain ⟨hV, ⟨eR, eU, eN⟩, hoth, hq⟩ := cl_V_bn hV0 (Or.inl rfl) (Or.inl rfl) hbn hszb.1
  obtain ⟨fb, fs⟩ := cl_bs hV0 (Or.inl rfl) (Or.inl rfl) hszb.1 hbn s1
  have hN := hV0.2.1
  have hne := se_at_ne hbn.1
  have f5 : ∀ i, i ≠ 2 → i ≠ 3 → J3 (X + 139) i = J (X + 139) i := fun i i2 i3 => s1 _ i (fun e => hne.1 e.symm) (fun e => hne.2.2.2.1 e.symm) (by omega) (by omega) (by omega)
  obtain ⟨b1, b2, -, -, -, -, -, -, b9, b10, b11, b12, b13⟩ := hbn
  have fR : m_up J3 (X + 132) 9 1 R' = J3 R' := funext (fun i => m_up_o (by have := (cl_z hV (o := 139) (Or.inl rfl)).2.1; omega))
  have fU : m_up J3 (X + 132) 9 1 U' = J3 U' := funext (fun i => m_up_o (by have := (cl_z hV (o := 139) (Or.inl rfl)).2.2; omega))
  have f139 : ∀ i, m_up J3 (X + 132) 9 1 (X + 139) i = J3 (X + 139) i := fun i => m_up_o (by omega)
  have e31 : po_get (m_up J3 (X + 132) 9 1) (X + 31) = po_get J (X + 31) := by
    rw [po_get_up (by omega)]
    refine po_get_e (fun i => ?_)
    rw [fb _ i (by omega) (by omega)]
    exact (hq.2.1 _ i (by omega)).symm
  refine ⟨cl_W_g h hV (fun b i q1 q2 => ?_) ?_ (cl_cm_e h7 ?_ (cl_sm_up hV0 (Or.inr (Or.inl rfl)) (by omega) (fs 144 (Or.inr (Or.inl rfl)) (by omega)))) (cl_cl_e h8 ?_ (fun b i q1 => ?_) (fun i => ?_)), cl_q_t hq ⟨fun _ _ => rfl, fun b i q1 => ?_, fun _ _ _ => rfl, fun _ _ _ => rfl⟩, fun i => ?_⟩
  · rw [m_up_o q2]; exact fb b i (by omega) (by omega)
  · refine Or.inr ⟨m_up_same, b1.2.2.2.1.1, ?_, ?_, ?_, by rw [eN]; exact b2, ?_, (J3 (X + 139) 3).toNat, fun _ => 0, fun _ => 0, ?_⟩
    · rw [f139, f5 5 (by omega) (by omega)]; exact b11
    · rw [f139, f5 6 (by omega) (by omega)]; exact b12
    · rw [f139, f5 7 (by omega) (by omega)]; exact b13
    · rw [f139, s2]; omega
    · have eg : se_g (m_up J3 (X + 132) 9 1) (X + 139) R' U' = se_g J3 (X + 139) R' U' := by unfold se_g; rw [fR, fU, f139]
      rw [eR, eU, eN, f139, s2, eg, e31]
      exact g_Z_I s3 s4
  · rw [m_up_j (by omega)]; exact fb _ _ (by omega) (by omega)
  · rw [m_up_j (by omega)]; exact fb _ _ (by omega) (by omega)
  · rw [m_up_o (by omega)]; exact fb _ _ (by omega) (by omega)
  · rw [m_up_o (by omega)]; exact fb _ _ (by omega) (by omega)
  · rw [m_up_at, if_neg (by omega), fb b i (by omega) (by omega)]; exact (hq.2.1 b i q1).symm
  · rw [m_up_o (by omega)]; exact fb _ _ (by omega) (by omega)
theorem c_Wa_fromHere (h : cl_W en X N zb wb C T J P z w)
    (hq : ∀ T' J' P' L' z' w', cl_W en X N zb wb C T' J' P' z' w' → cl_q X N T J P L T' J' P' L' → J' (X + 132) 9 = 1 → (∀ i, J' (X + 155) i = J (X + 155) i) → Q (some (.ref (X + 139))) (T', m_I J', P', L', z', w')) :
    m_call en (d + 3) mWa_fromHere [.ref (X + 132)] (T, m_I J, P, L, z, w) Q := by
  have h0 := h
  obtain ⟨hV, ⟨h1, h2, ok, h4, hC⟩, h6, h7, h8⟩ := h0
  have hX := hV.1
  have hN := hV.2.1
  have hbx := h2.2.2.2.2
  have hszb := a_sz_b ok
  obtain ⟨A0, hA0, hS0⟩ := cl_at0 hV (o := 139) (Or.inl rfl)
  have h9 : J (X + 132) 9 = 0 ∨ J (X + 132) 9 = 1 := by
    rcases h6 with q | q
    · exact Or.inl q
    · exact Or.inr q.1
  refine m_into (by decide) (Nat.le_of_ble_eq_true rfl) rfl ?_
  show m_wp en _ mWa_fromHere 0 [some (.ref (X + 132))] [] (T, m_I J, P, L, z, w) Q
  refine r_aln eWa_fromHere_0 rfl ?_
  refine r_gete (x := J (X + 132) 9) eWa_fromHere_1 rfl (by decide) (cl_t hX (i := 132) rfl) rfl ?_
  refine r_zne (tgt := 42) eWa_fromHere_4 rfl ⟨(by omega), (by omega)⟩ (fun c4 => ?_) (fun c4 => ?_)
  · refine r_aln eWa_fromHere_42 rfl ?_
    refine m_getR eWa_fromHere_43 rfl (cl_t hX (i := 132) rfl) (cl_p hX (i := 109) rfl) ?_
    refine r_aret eWa_fromHere_46 rfl ?_
    first | exact hq T J P L z w h cl_q_r (by omega) (fun _ => rfl) | (obtain ⟨y1, y2, y3⟩ := cl_W_here h hbn s1 s2 s3 s4; exact hq T (m_up J3 (X + 132) 9 1) P L z w y1 y2 m_up_same y3)
  · refine r_aln eWa_fromHere_7 rfl ?_
    refine m_getR eWa_fromHere_8 rfl (cl_t hX (i := 132) rfl) (cl_p hX (i := 109) rfl) ?_
    refine r_aln eWa_fromHere_11 rfl ?_
    refine m_getR eWa_fromHere_12 rfl (cl_t hX (i := 132) rfl) (cl_p hX (i := 107) rfl) ?_
    refine r_con eWa_fromHere_15 ?_
    refine r_sip eWa_fromHere_16 (by decide) ?_
    refine r_con eWa_fromHere_19 ?_
    refine r_vir eWa_fromHere_20 rfl rfl rfl (cl_t hX (i := 139) rfl) rfl rfl ?_
    refine c_Se_begin hS0 (cl_sp hX (Or.inl rfl)) (by omega) ok hC (cl_z hV (Or.inl rfl)).1 (Or.inl rfl) (fun R' U' n' T J2 P L z w hbn => ?_)
    obtain ⟨hV2, ⟨eR, eU, eN⟩, hoth, hq2⟩ := cl_V_bn hV (Or.inl rfl) (Or.inl rfl) hbn hszb.1
    have hX := hV2.1
    have hz2 := cl_z hV2 (o := 139) (Or.inl rfl)
    rw [eR, eU] at hz2
    have hC2 := se_bn_sp hbn (by omega) hC
    have e31 : ∀ i, J2 (X + 31) i = J (X + 31) i := fun i => hq2.2.1 _ i (by omega)
    have hN2 := hV2.2.1
    show m_wp en _ mWa_fromHere 23 [some (.ref (X + 132))] [] (T, m_I J2, P, L, z, w) Q
    refine r_aln eWa_fromHere_23 rfl ?_
    refine m_getR eWa_fromHere_24 rfl (cl_t hX (i := 132) rfl) (cl_p hX (i := 109) rfl) ?_
    refine r_aln eWa_fromHere_27 rfl ?_
    refine m_getR eWa_fromHere_28 rfl (cl_t hX (i := 132) rfl) (cl_p hX (i := 106) rfl) ?_
    refine m_getR eWa_fromHere_31 rfl (cl_t hX (i := 30) rfl) (cl_p hX (i := 38) rfl) ?_
    refine r_vir eWa_fromHere_34 rfl rfl rfl (cl_t hX (i := 139) rfl) rfl rfl ?_
    refine c_Se_seed1 hbn ok hC2 (cl_po hX (k := 31) (by decide)) (by rw [po_get_e e31]; exact a_bx_sm hbx) (by omega) (by omega) (by omega) (fun J3 s1 s2 s3 s4 => ?_)
    show m_wp en _ mWa_fromHere 37 [some (.ref (X + 132))] [] (T, m_I J3, P, L, z, w) Q
    refine r_aln eWa_fromHere_37 rfl ?_
    refine r_con eWa_fromHere_38 ?_
    refine r_puz eWa_fromHere_39 rfl (cl_t hX (i := 132) rfl) (cl_e hX 132) (Or.inl rfl) (by first | exact Or.inl rfl | exact Or.inr rfl | omega) ?_
    refine r_aln eWa_fromHere_42 rfl ?_
    refine m_getR eWa_fromHere_43 rfl (cl_t hX (i := 132) rfl) (cl_p hX (i := 109) rfl) ?_
    refine r_aret eWa_fromHere_46 rfl ?_
    first | exact hq T J P L z w h cl_q_r (by omega) (fun _ => rfl) | (obtain ⟨y1, y2, y3⟩ := cl_W_here h hbn s1 s2 s3 s4; exact hq T (m_up J3 (X + 132) 9 1) P L z w y1 y2 m_up_same y3)
end HE
