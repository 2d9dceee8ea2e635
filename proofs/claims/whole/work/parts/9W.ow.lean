/-! the class: steps to a spot, the way there -/
/-- a way, told from its end: states, codes, how many -/
def cl_wy (C : a_C) (π γ : a_S) (f : Nat → a_S) (c : Nat → Int) (t : Nat) : Prop := f 0 = γ ∧ f t = π ∧ (∀ j, j ≤ t → a_is C (f j) = true) ∧ ∀ j, j < t → f j = a_step (f (j + 1)) (c j) 0 ∧ s_first C (a_no γ) (a_no (f (j + 1))) (c j)
section OW
variable {en : Nat → Nat} {d : Nat} {T T' T2 T0 : Nat → Option (Nat × Nat)} {J J' J0 J1 J2 J3 K H : Nat → Nat → Int} {P P' P2 P0 : Nat → Nat → Option Nat} {L L' L2 L0 : Nat → Nat → Int64} {z w z' w' z0 w0 A B R U S n X N zb wb o o' A0 R' U' n' : Nat} {Q : m_Q} {σ τ γ π ρ : a_S} {C : a_C} {bw most by_ gl : Int} {Sd : a_S → Prop}
theorem g_cm (ok : a_ok C) {s k : Nat} {g : g_T} {par cod : Nat → Nat} (h : g_I C n bw most by_ Sd s g par cod k 0) (hsz : a_sz C ≤ n) {i : Nat} (hi : i < g.2.2.toNat) : (s ≤ i → a_cm g.1 n (a_nb C (g_q g i)) = (cod i : Int)) ∧ (i < s → a_cm g.1 n (a_nb C (g_q g i)) = -1) ∧ a_met g.1 n (a_nb C (g_q g i)) = (g_lv C g i : Int) := by
  have hw := h.1.2.2.1 i hi
  have hnb := a_nb_b ok hw.1
  have hm := h.1.2.1 (a_nb C (g_q g i)).toNat (by omega)
  refine ⟨fun q => ?_, fun q => ?_, ?_⟩
  · obtain ⟨a1, a2, a3, a4, a5, a6⟩ := h.2.2.1 i q hi
    have e : g.1 (a_nb C (g_q g i)).toNat % 16 - 1 = (cod i : Int) := by omega
    unfold a_cm
    rw [if_pos ⟨hnb.1, by omega, hw.2.2.1, by omega⟩, e]
  · have := h.2.2.2.2.2.2 i q
    unfold a_cm
    rw [if_neg (fun e => by omega)]
  · unfold a_met g_lv
    rw [if_pos ⟨hnb.1, by omega, hw.2.2.1⟩]
    omega
theorem g_wy (ok : a_ok C) {s k : Nat} {g : g_T} {par cod : Nat → Nat} (h : g_I C n 0 4 511 (w_sd C π) s g par cod k 0) (hsz : a_sz C ≤ n) {i : Nat} (hi : i < g.2.2.toNat) (hr : w_rs (g_q g i)) : cl_wy C π (g_q g i) (fun j => g_q g (g_an par i j)) (fun j => (cod (g_an par i j) : Int)) (g_lv C g i) ∧ ∀ j, j < g_lv C g i → a_cm g.1 n (a_nb C (g_q g (g_an par i j))) = (cod (g_an par i j) : Int) := by
  have hl : g_lv C g i = 0 + g_lv C g i := by omega
  refine ⟨⟨rfl, ?_, fun j hj => ?_, fun j hj => ?_⟩, fun j hj => ?_⟩
  · obtain ⟨b1, b2, -⟩ := g_an_lv ok h hi hl (g_lv C g i) (Nat.le_refl _)
    exact (g_lv0 ok h b1 (by omega)).2
  · exact (h.1.2.2.1 _ (g_an_lv ok h hi hl j hj).1).1
  · have := g_fst ok h hi hr (l := g_lv C g i - (j + 1)) (r := j) (by omega)
    exact ⟨this.2, this.1⟩
  · obtain ⟨b1, b2, b3⟩ := g_an_lv ok h hi hl j (by omega)
    exact (g_cm ok h hsz b1).1 (b3 hj)
/-- the way that the search from here has met -/
theorem cl_way (h : cl_W en X N zb wb C T J P z w) (h9 : J (X + 132) 9 = 1) (hγ : a_is C γ = true) (hr : w_rs γ) {r : Int} (hm : r = a_met (J (sR P (X + 139))) (sN T P (X + 139)) (a_nb C γ)) (h0 : 0 ≤ r) :
    ∃ f c, cl_wy C (po_get J (X + 31)) γ f c r.toNat ∧ r < 100000 ∧ (∀ j, j < r.toNat → a_cm (J (sR P (X + 139))) (sN T P (X + 139)) (a_nb C (f j)) = c j) ∧ ∀ σ, a_is C σ = true → m_in (J (sR P (X + 139)) (a_nb C σ).toNat) := by
  obtain ⟨hV, ⟨h1, h2, ok, h4, hC⟩, h6, h7, h8⟩ := h
  have hg : cl_g T J P X 139 (X + 133) C 0 511 4 (w_sd C (po_get J (X + 31))) := by
    rcases h6 with q | q
    · omega
    · exact q.2
  obtain ⟨g4, g5, g6, g7, gsz, g2, s, par, cod, gI⟩ := hg
  have hnb := a_nb_b ok hγ
  have hmet : J (sR P (X + 139)) (a_nb C γ).toNat ≠ 0 := fun e => by
    unfold a_met at hm
    rw [if_neg (fun x => x.2.2 e)] at hm
    omega
  obtain ⟨i, hi, ei⟩ := gI.1.2.2.2.2 γ hγ hmet
  have hlv : r = (g_lv C (se_g J (X + 139) (sR P (X + 139)) (sU P (X + 139))) i : Int) := by
    rw [hm, ← (g_cm ok gI gsz hi).2.2, ei]
    rfl
  obtain ⟨w1, w2⟩ := g_wy ok gI gsz hi (by rw [ei]; exact hr)
  rw [ei] at w1
  have el : r.toNat = g_lv C (se_g J (X + 139) (sR P (X + 139)) (sU P (X + 139))) i := by omega
  refine ⟨_, _, by rw [el]; exact w1, ?_, fun j hj => w2 j (by omega), fun σ hσ => ?_⟩
  · have hb := (gI.1.2.2.1 i hi).2.2.2
    have ht := gI.1.1
    have hn : sN T P (X + 139) ≤ 38880 := by
      obtain ⟨c, u, hs, -, -⟩ := hV.2.2.2
      exact (hs 139 (Or.inl rfl)).2.2.2.1
    have hm0 := gI.1.2.1 (a_nb C γ).toNat (by omega)
    unfold g_lv at hlv
    rw [ei] at hlv hb
    omega
  · have hb := a_nb_b ok hσ
    have h3 : 0 ≤ J (sR P (X + 139)) (a_nb C σ).toNat ∧ J (sR P (X + 139)) (a_nb C σ).toNat < 2147483648 := gI.1.2.1 (a_nb C σ).toNat (by omega)
    exact ⟨by omega, by omega⟩
theorem c_Wa_stepsToSpot (h : cl_W en X N zb wb C T J P z w) {s : Int} (hs : 0 ≤ s ∧ s < J (X + 29) 5)
    (hq : ∀ T' J' P' L' z' w' r, cl_W en X N zb wb C T' J' P' z' w' → cl_q X N T J P L T' J' P' L' → J' (X + 132) 9 = 1 → cl_fw C (po_get J (X + 31)) (cl_spt J X s.toNat) r → (a_is C (cl_spt J X s.toNat) = true → r = a_met (J' (sR P' (X + 139))) (sN T' P' (X + 139)) (a_nb C (cl_spt J X s.toNat))) → (-2 ≤ r ∧ r < 100000) → Q (some (.int (m_i r))) (T', m_I J', P', L', z', w')) :
    m_call en (d + 4) mWa_stepsToSpot [.ref (X + 132), .int (m_i s)] (T, m_I J, P, L, z, w) Q := by
  have h0 := h
  obtain ⟨hV, ⟨h1, h2, ok, h4, hC⟩, h6, h7, h8⟩ := h0
  have hX := hV.1
  have k5 : 0 ≤ J (X + 29) 5 ∧ J (X + 29) 5 ≤ 6 := h1.2.2.2.2.1
  refine m_into (by decide) (Nat.le_of_ble_eq_true rfl) rfl ?_
  show m_wp en _ mWa_stepsToSpot 0 [some (.ref (X + 132)), some (.int (m_i (s))), none] [] (T, m_I J, P, L, z, w) Q
  refine r_aln eWa_stepsToSpot_0 rfl ?_
  refine r_aln eWa_stepsToSpot_1 rfl ?_
  refine m_getR eWa_stepsToSpot_2 rfl (cl_t hX (i := 132) rfl) (cl_p hX (i := 107) rfl) ?_
  refine r_iln eWa_stepsToSpot_5 rfl ?_
  refine r_vir eWa_stepsToSpot_6 rfl rfl rfl (cl_t hX (i := 132) rfl) rfl rfl ?_
  refine c_Wa_spotNumber hX (Or.inl rfl) ok hC h1 ⟨by omega, by omega⟩ (fun q9 => absurd hs q9) (fun q9 => ?_)
  have hW1 := cl_W_po (τ := cl_spt J X s.toNat) h (k := 155) (by omega)
  show m_wp en _ mWa_stepsToSpot 9 [some (.ref (X + 132)), some (.int (m_i (s))), none] [(.int (m_i ((a_nb C (cl_spt J X s.toNat)))))] (T, m_I (((po_put J (X + 155) (cl_spt J X s.toNat)))), P, L, z, w) Q
  refine r_isn (ls' := [some (.ref (X + 132)), some (.int (m_i (s))), some (.int (m_i ((a_nb C (cl_spt J X s.toNat)))))]) eWa_stepsToSpot_9 (Nat.le_of_ble_eq_true rfl) rfl ?_
  refine r_aln eWa_stepsToSpot_10 rfl ?_
  refine r_vir eWa_stepsToSpot_11 rfl rfl rfl (cl_t hX (i := 132) rfl) rfl rfl ?_
  refine c_Wa_fromHere hW1 (fun T J2 P L z w k1 k2 k3 k4 => ?_)
  have hX := k1.1.1
  show m_wp en _ mWa_stepsToSpot 14 [some (.ref (X + 132)), some (.int (m_i (s))), some (.int (m_i ((a_nb C (cl_spt J X s.toNat)))))] [(.ref (X + 139))] (T, m_I J2, P, L, z, w) Q
  refine r_iln eWa_stepsToSpot_14 rfl ?_
  refine r_vir eWa_stepsToSpot_15 rfl rfl rfl (cl_t hX (i := 139) rfl) rfl rfl ?_
  refine c_hr k1 k3 (γ := cl_spt J X s.toNat) rfl (fun J3 r m1 m2 m3 m4 m5 m6 m7 => ?_)
  show m_wp en _ mWa_stepsToSpot 18 [some (.ref (X + 132)), some (.int (m_i (s))), some (.int (m_i ((a_nb C (cl_spt J X s.toNat)))))] [(.int (m_i (r)))] (T, m_I J3, P, L, z, w) Q
  refine r_iret eWa_stepsToSpot_18 rfl ?_
  have hqq := cl_q_t (cl_q_t (cl_q_po (by omega)) k2) m2
  refine hq T J3 P L z w r m1 hqq m3 ?_ m5 m7
  rw [po_get_e (fun i => ((cl_q_t (cl_q_po (by omega)) k2).2.1 (X + 31) i (by omega)))] at m4
  exact m4
theorem c_Wa_stepsToRest (h : cl_W en X N zb wb C T J P z w) {x e : Int} (hx : -1000 ≤ x ∧ x ≤ 1000) (he : -1000 ≤ e ∧ e ≤ 1000)
    (hq : ∀ T' J' P' L' z' w' r, cl_W en X N zb wb C T' J' P' z' w' → cl_q X N T J P L T' J' P' L' → J' (X + 132) 9 = 1 → cl_fw C (po_get J (X + 31)) (x, 0, 0, 0, e) r → (-2 ≤ r ∧ r < 100000) → Q (some (.int (m_i r))) (T', m_I J', P', L', z', w')) :
    m_call en (d + 4) mWa_stepsToRest [.ref (X + 132), .int (m_i x), .int (m_i e)] (T, m_I J, P, L, z, w) Q := by
  have h0 := h
  obtain ⟨hV, ⟨h1, h2, ok, h4, hC⟩, h6, h7, h8⟩ := h0
  have hX := hV.1
  refine m_into (by decide) (Nat.le_of_ble_eq_true rfl) rfl ?_
  show m_wp en _ mWa_stepsToRest 0 [some (.ref (X + 132)), some (.int (m_i (x))), some (.int (m_i (e))), none] [] (T, m_I J, P, L, z, w) Q
  refine r_aln eWa_stepsToRest_0 rfl ?_
  refine r_aln eWa_stepsToRest_1 rfl ?_
  refine m_getR eWa_stepsToRest_2 rfl (cl_t hX (i := 132) rfl) (cl_p hX (i := 107) rfl) ?_
  refine r_iln eWa_stepsToRest_5 rfl ?_
  refine r_iln eWa_stepsToRest_6 rfl ?_
  refine r_vir eWa_stepsToRest_7 rfl rfl rfl (cl_t hX (i := 132) rfl) rfl rfl ?_
  refine c_Wa_restNumber hX (Or.inl rfl) ok hC hx he ?_
  have hW1 := cl_W_po (τ := (x, 0, 0, 0, e)) h (k := 155) (by omega)
  show m_wp en _ mWa_stepsToRest 10 [some (.ref (X + 132)), some (.int (m_i (x))), some (.int (m_i (e))), none] [(.int (m_i ((a_nb C (x, 0, 0, 0, e)))))] (T, m_I (((po_put J (X + 155) (x, 0, 0, 0, e)))), P, L, z, w) Q
  refine r_isn (ls' := [some (.ref (X + 132)), some (.int (m_i (x))), some (.int (m_i (e))), some (.int (m_i ((a_nb C (x, 0, 0, 0, e)))))]) eWa_stepsToRest_10 (Nat.le_of_ble_eq_true rfl) rfl ?_
  refine r_aln eWa_stepsToRest_11 rfl ?_
  refine r_vir eWa_stepsToRest_12 rfl rfl rfl (cl_t hX (i := 132) rfl) rfl rfl ?_
  refine c_Wa_fromHere hW1 (fun T J2 P L z w k1 k2 k3 k4 => ?_)
  have hX := k1.1.1
  show m_wp en _ mWa_stepsToRest 15 [some (.ref (X + 132)), some (.int (m_i (x))), some (.int (m_i (e))), some (.int (m_i ((a_nb C (x, 0, 0, 0, e)))))] [(.ref (X + 139))] (T, m_I J2, P, L, z, w) Q
  refine r_iln eWa_stepsToRest_15 rfl ?_
  refine r_vir eWa_stepsToRest_16 rfl rfl rfl (cl_t hX (i := 139) rfl) rfl rfl ?_
  refine c_hr k1 k3 (γ := (x, 0, 0, 0, e)) rfl (fun J3 r m1 m2 m3 m4 m5 m6 m7 => ?_)
  show m_wp en _ mWa_stepsToRest 19 [some (.ref (X + 132)), some (.int (m_i (x))), some (.int (m_i (e))), some (.int (m_i ((a_nb C (x, 0, 0, 0, e)))))] [(.int (m_i (r)))] (T, m_I J3, P, L, z, w) Q
  refine r_iret eWa_stepsToRest_19 rfl ?_
  have hqq := cl_q_t (cl_q_t (cl_q_po (by omega)) k2) m2
  refine hq T J3 P L z w r m1 hqq m3 ?_ m7
  rw [po_get_e (fun i => ((cl_q_t (cl_q_po (by omega)) k2).2.1 (X + 31) i (by omega)))] at m4
  exact m4
theorem c_Wa_stepsAtRest (h : cl_W en X N zb wb C T J P z w) {x e : Int} (hx : -1000 ≤ x ∧ x ≤ 1000) (he : -1000 ≤ e ∧ e ≤ 1000)
    (hq : ∀ J', cl_W en X N zb wb C T J' P z w → cl_q X N T J P L T J' P L → Q (some (.int (m_i (if a_is C (x, 0, 0, 0, e) = true then 0 else -2)))) (T, m_I J', P, L, z, w)) :
    m_call en (d + 3) mWa_stepsAtRest [.ref (X + 132), .int (m_i x), .int (m_i e)] (T, m_I J, P, L, z, w) Q := by
  have h0 := h
  obtain ⟨hV, ⟨h1, h2, ok, h4, hC⟩, h6, h7, h8⟩ := h0
  have hX := hV.1
  have hq2 := hq _ (cl_W_po (τ := (x, 0, 0, 0, e)) h (k := 155) (by omega)) (cl_q_po (by omega))
  have hszb := a_sz_b ok
  have hnb : (0 ≤ a_nb C (x, 0, 0, 0, e) ∧ a_nb C (x, 0, 0, 0, e) < 100000) ∨ a_nb C (x, 0, 0, 0, e) = -1 := by
    by_cases e9 : a_is C (x, 0, 0, 0, e) = true
    · have := a_nb_b ok e9
      exact Or.inl ⟨this.1, by omega⟩
    · exact Or.inr (by unfold a_nb; rw [if_neg e9])
  have hy : 0 ≤ a_nb C (x, 0, 0, 0, e) → Q (some (.int (m_i 0))) (T, m_I (po_put J (X + 155) (x, 0, 0, 0, e)), P, L, z, w) := fun q => by
    by_cases e9 : a_is C (x, 0, 0, 0, e) = true
    · rw [if_pos e9] at hq2; exact hq2
    · unfold a_nb at q; rw [if_neg e9] at q; omega
  have hn : ¬ 0 ≤ a_nb C (x, 0, 0, 0, e) → Q (some (.int (m_i (-2)))) (T, m_I (po_put J (X + 155) (x, 0, 0, 0, e)), P, L, z, w) := fun q => by
    by_cases e9 : a_is C (x, 0, 0, 0, e) = true
    · have := a_nb_b ok e9; omega
    · rw [if_neg e9] at hq2; exact hq2
  refine m_into (by decide) (Nat.le_of_ble_eq_true rfl) rfl ?_
  show m_wp en _ mWa_stepsAtRest 0 [some (.ref (X + 132)), some (.int (m_i (x))), some (.int (m_i (e)))] [] (T, m_I J, P, L, z, w) Q
  refine r_aln eWa_stepsAtRest_0 rfl ?_
  refine r_aln eWa_stepsAtRest_1 rfl ?_
  refine m_getR eWa_stepsAtRest_2 rfl (cl_t hX (i := 132) rfl) (cl_p hX (i := 107) rfl) ?_
  refine r_iln eWa_stepsAtRest_5 rfl ?_
  refine r_iln eWa_stepsAtRest_6 rfl ?_
  refine r_vir eWa_stepsAtRest_7 rfl rfl rfl (cl_t hX (i := 132) rfl) rfl rfl ?_
  refine c_Wa_restNumber hX (Or.inl rfl) ok hC hx he ?_
  show m_wp en _ mWa_stepsAtRest 10 [some (.ref (X + 132)), some (.int (m_i (x))), some (.int (m_i (e)))] [(.int (m_i ((a_nb C (x, 0, 0, 0, e)))))] (T, m_I (((po_put J (X + 155) (x, 0, 0, 0, e)))), P, L, z, w) Q
  refine r_zge (tgt := 18) eWa_stepsAtRest_10 rfl ⟨(by omega), (by omega)⟩ (fun c10 => ?_) (fun c10 => ?_)
  · refine r_con eWa_stepsAtRest_18 ?_
    refine r_iret eWa_stepsAtRest_19 rfl ?_
    first | exact hy (by omega) | exact hn (by omega)
  · refine r_bip eWa_stepsAtRest_13 (by decide) ?_
    refine r_go (tgt := 19) eWa_stepsAtRest_15 rfl ?_
    refine r_iret eWa_stepsAtRest_19 rfl ?_
    first | exact hy (by omega) | exact hn (by omega)
end OW
