/-! the class: sway, drift, gap, now -/
section SCB
variable {en : Nat → Nat} {d : Nat} {T T' T2 T0 : Nat → Option (Nat × Nat)} {J J' J0 J1 J2 J3 K H : Nat → Nat → Int} {P P' P2 P0 : Nat → Nat → Option Nat} {L L' L2 L0 : Nat → Nat → Int64} {z w z' w' z0 w0 A B R U S n X N zb wb : Nat} {Q : m_Q} {σ τ γ π ρ : a_S} {C : a_C} {x e st : Int}
/-- how far a load swings by itself -/
def a_ib (σ : a_S) (n : Int) : Prop := (-16 - 2 * n ≤ σ.1 ∧ σ.1 ≤ 16 + 2 * n) ∧ (-2 ≤ σ.2.1 ∧ σ.2.1 ≤ 2) ∧ (-8 ≤ σ.2.2.1 ∧ σ.2.2.1 ≤ 8) ∧ (-8 ≤ σ.2.2.2.1 ∧ σ.2.2.2.1 ≤ 8) ∧ (1 ≤ σ.2.2.2.2 ∧ σ.2.2.2.2 ≤ 6) ∧ (σ.2.2.2.2 < 3 → -8 ≤ σ.2.2.1 + σ.2.2.2.1 ∧ σ.2.2.1 + σ.2.2.2.1 ≤ 8) ∧ (5 ≤ σ.2.2.2.2 → -8 ≤ σ.2.2.1 - σ.2.2.2.1 ∧ σ.2.2.1 - σ.2.2.2.1 ≤ 8)
theorem a_ib_s {m : Int} (h : a_ib σ m) : a_ib (a_step σ 4 0) (m + 1) := by
  obtain ⟨x, v, t, l, e⟩ := σ
  unfold a_ib at h ⊢
  unfold a_step
  simp only at h ⊢
  have hg := a_gr_m (e + (4 % 3 - 1)) t
  omega
theorem a_ib_i (h : a_bx σ) : ∀ n : Nat, a_ib (a_idle σ n) (n : Int) := by
  intro n
  induction n with
  | zero =>
    unfold a_bx at h
    unfold a_ib a_idle
    omega
  | succ n ih =>
    have := a_ib_s ih
    rw [show (n : Int) + 1 = ((n + 1 : Nat) : Int) by omega] at this
    exact this
theorem a_ib_sm {m : Int} (h : a_ib σ m) (hm : 0 ≤ m ∧ m ≤ 1000) : a_sm σ := by
  unfold a_ib at h
  unfold a_sm
  omega
theorem l_Sc_sway (hX : cl_sh en X T P) (hbx : a_bx (po_get J (X + 31))) (hn : n ≤ 60) (hq : Q (some (.int (m_i (a_idle (po_get J (X + 31)) n).2.2.1))) (T, m_I (po_put J (X + 164) (a_idle (po_get J (X + 31)) n)), P, L, z, w)) :
    ∀ (r k : Nat), k + r = n → m_wp en (d + 1) mSc_sway 29 [some (.ref X), some (.int (m_i (n : Int))), some (.int (m_i (k : Int)))] [] (T, m_I (po_put J (X + 164) (a_idle (po_get J (X + 31)) k)), P, L, z, w) Q := by
  intro r
  induction r with
  | zero =>
    intro k hk
    obtain rfl : k = n := by omega
    refine r_iln eSc_sway_29 rfl ?_
    refine r_iln eSc_sway_30 rfl ?_
    refine r_cge (tgt := 49) eSc_sway_31 rfl ⟨(by omega), (by omega)⟩ ⟨(by omega), (by omega)⟩ (fun c31 => ?_) (fun c31 => ?_)
    · refine r_aln eSc_sway_49 rfl ?_
      refine m_getR eSc_sway_50 rfl (cl_t hX (i := 0) rfl) (cl_p hX (i := 10) rfl) ?_
      refine r_gete (x := ((a_idle (po_get J (X + 31)) k)).2.2.1) eSc_sway_53 rfl (by decide) (cl_t hX (i := 158) rfl) (by rw [po_put_2]) ?_
      refine r_iret eSc_sway_56 rfl ?_
      exact hq
    · exfalso; omega
  | succ r ih =>
    intro k hk
    have hi := ih (k + 1) (by omega)
    rw [show ((k + 1 : Nat) : Int) = (k : Int) + 1 by omega] at hi
    refine r_iln eSc_sway_29 rfl ?_
    refine r_iln eSc_sway_30 rfl ?_
    refine r_cge (tgt := 49) eSc_sway_31 rfl ⟨(by omega), (by omega)⟩ ⟨(by omega), (by omega)⟩ (fun c31 => ?_) (fun c31 => ?_)
    · exfalso; omega
    · refine r_aln eSc_sway_34 rfl ?_
      refine m_getR eSc_sway_35 rfl (cl_t hX (i := 0) rfl) (cl_p hX (i := 10) rfl) ?_
      refine r_con eSc_sway_38 ?_
      refine r_con eSc_sway_39 ?_
      refine r_vir eSc_sway_40 rfl rfl rfl (cl_t hX (i := 158) rfl) rfl rfl ?_
      refine c_Po_move (cl_po hX (k := 164) (by decide)) (by rw [po_get_put]; exact a_ib_sm (a_ib_i hbx k) (by omega)) ⟨by omega, by omega⟩ ⟨by omega, by omega⟩ ?_
      rw [po_get_put, po_put_put]
      show m_wp en _ mSc_sway 43 [some (.ref X), some (.int (m_i ((n : Int)))), some (.int (m_i ((k : Int))))] [] (T, m_I (((po_put J (X + 164) (a_idle (po_get J (X + 31)) (k + 1))))), P, L, z, w) Q
      refine r_inc (ls' := [some (.ref X), some (.int (m_i ((n : Int)))), some (.int (m_i ((k : Int) + 1)))]) eSc_sway_43 rfl rfl ?_
      refine r_go (tgt := 29) eSc_sway_46 rfl ?_
      exact hi
theorem c_Sc_sway (h : cl_W en X N zb wb C T J P z w) {x : Int} (hx : m_in x) (h0 : ¬ (0 ≤ x ∧ x ≤ 60) → Q (some (.int (m_i (-100)))) (T, m_I J, P, L, z, w)) (h1 : (0 ≤ x ∧ x ≤ 60) → Q (some (.int (m_i (a_idle (po_get J (X + 31)) x.toNat).2.2.1))) (T, m_I (po_put J (X + 164) (a_idle (po_get J (X + 31)) x.toNat)), P, L, z, w)) : m_call en (d + 2) mSc_sway [.ref X, .int (m_i x)] (T, m_I J, P, L, z, w) Q := by
  obtain ⟨hV, ⟨p1, hmo, ok, h4, hC⟩, -⟩ := h
  have hX := hV.1
  unfold m_in at hx
  have h29 : (0 ≤ x ∧ x ≤ 60) → m_wp en (d + 1) mSc_sway 29 [some (.ref X), some (.int (m_i x)), some (.int (m_i 0))] [] (T, m_I (po_put J (X + 164) (po_get J (X + 31))), P, L, z, w) Q := fun q => by
    have := l_Sc_sway (d := d) (n := x.toNat) hX hmo.2.2.2.2 (by omega) (h1 q) x.toNat 0 (by omega)
    rw [show ((x.toNat : Nat) : Int) = x by omega] at this
    exact this
  refine m_into (by decide) (Nat.le_of_ble_eq_true rfl) rfl ?_
  show m_wp en _ mSc_sway 0 [some (.ref X), some (.int (m_i (x))), none] [] (T, m_I J, P, L, z, w) Q
  refine r_iln eSc_sway_0 rfl ?_
  refine r_zlt (tgt := 10) eSc_sway_1 rfl ⟨(by omega), (by omega)⟩ (fun c1 => ?_) (fun c1 => ?_)
  · refine r_bip eSc_sway_10 (by decide) ?_
    refine r_iret eSc_sway_12 rfl ?_
    exact h0 (by omega)
  · refine r_iln eSc_sway_4 rfl ?_
    refine r_bip eSc_sway_5 (by decide) ?_
    refine r_cle (tgt := 13) eSc_sway_7 rfl ⟨(by omega), (by omega)⟩ ⟨(by omega), (by omega)⟩ (fun c7 => ?_) (fun c7 => ?_)
    · refine r_aln eSc_sway_13 rfl ?_
      refine m_getR eSc_sway_14 rfl (cl_t hX (i := 0) rfl) (cl_p hX (i := 10) rfl) ?_
      refine r_aln eSc_sway_17 rfl ?_
      refine m_getR eSc_sway_18 rfl (cl_t hX (i := 0) rfl) (cl_p hX (i := 2) rfl) ?_
      refine m_getR eSc_sway_21 rfl (cl_t hX (i := 30) rfl) (cl_p hX (i := 38) rfl) ?_
      refine r_vir eSc_sway_24 rfl rfl rfl (cl_t hX (i := 158) rfl) rfl rfl ?_
      refine c_Po_set (cl_po hX (k := 164) (by decide)) (cl_po hX (k := 31) (by decide)) (by omega) ?_
      show m_wp en _ mSc_sway 27 [some (.ref X), some (.int (m_i (x))), none] [] (T, m_I (((po_put J (X + 164) (po_get J (X + 31))))), P, L, z, w) Q
      refine r_con eSc_sway_27 ?_
      refine r_isn (ls' := [some (.ref X), some (.int (m_i (x))), some (.int (m_i (0)))]) eSc_sway_28 (Nat.le_of_ble_eq_true rfl) rfl ?_
      exact h29 (by omega)
    · refine r_bip eSc_sway_10 (by decide) ?_
      refine r_iret eSc_sway_12 rfl ?_
      exact h0 (by omega)
theorem a_w1_b {f g : Nat → Int} {t : Int} (h : ∀ i, i < 8 → -100 ≤ g i ∧ g i ≤ 100) : ∀ (m k : Nat), k + m ≤ 8 → -100 ≤ a_w1 f g t m k ∧ a_w1 f g t m k ≤ 100 := by
  intro m
  induction m with
  | zero => intro k _; unfold a_w1; omega
  | succ m ih =>
    intro k hk
    unfold a_w1
    split
    · exact h k (by omega)
    · exact ih (k + 1) (by omega)
theorem cl_wd_b (pok : pl_ok J (X + 17)) {t : Int} : -100 ≤ cl_wd J X t ∧ cl_wd J X t ≤ 100 := by
  have h7 : 0 ≤ J (X + 29) 7 ∧ J (X + 29) 7 ≤ 8 := pok.2.2.2.2.2.1
  exact a_w1_b (fun i hi => (pok.2.2.2.2.2.2.2.2.2.2.1 i hi).2) _ 0 (by omega)
theorem a_bx_st (ok : a_ok C) (h : a_bx σ) {k f : Int} (hw : a_why C (a_step σ k f) = 0) : a_bx (a_step σ k f) := by
  obtain ⟨g1, g2, g3, g4, g5, g6⟩ := a_why_0 hw
  have e1 := a_abs_le g2
  have e2 := a_abs_le g4
  obtain ⟨k1, k2, k3, k4, -⟩ := ok
  have h3 : (a_step σ k f).2.2.2.1 = σ.2.2.1 := rfl
  unfold a_bx at h ⊢
  rw [h3]
  omega
theorem l_Sc_drift (hX : cl_sh en X T P) (ok : a_ok C) (pok : pl_ok J (X + 17)) (hC : sp_is J (X + 133) C) (ht : 0 ≤ J (X + 30) 3 ∧ J (X + 30) 3 ≤ 9999) :
    ∀ (m : Nat) (k : Int) (σ : a_S) (J4 : Nat → Nat → Int), k + m = 60 → 0 ≤ k → a_bx σ → po_get J4 (X + 164) = σ → (∀ b i, b ≠ X + 164 → J4 b i = J b i) → (∀ J', (∀ b i, b ≠ X + 164 → J' b i = J b i) → Q (some (.int (m_i (a_dr C (cl_wd J X) (J (X + 30) 3) m (a_no σ) k)))) (T, m_I J', P, L, z, w)) →
      m_wp en (d + 4) mSc_drift 16 [some (.ref X), some (.int (m_i k))] [] (T, m_I J4, P, L, z, w) Q := by
  intro m
  induction m with
  | zero =>
    intro k σ J4 hk hk0 hbs eσ h4 hq
    obtain rfl : k = 60 := by omega
    have hq := hq J4 h4
    unfold a_dr at hq
    refine r_iln eSc_drift_16 rfl ?_
    refine r_bip eSc_drift_17 (by decide) ?_
    refine r_cge (tgt := 88) eSc_drift_19 rfl ⟨(by omega), (by omega)⟩ ⟨(by omega), (by omega)⟩ (fun c19 => ?_) (fun c19 => ?_)
    · refine r_bip eSc_drift_88 (by decide) ?_
      refine r_iret eSc_drift_90 rfl ?_
      exact hq
    · exfalso; omega
  | succ m ih =>
    intro k σ J4 hk hk0 hbs eσ h4 hq
    have e30 : J4 (X + 30) 3 = J (X + 30) 3 := h4 _ _ (by omega)
    have hwd := cl_wd_b (t := J (X + 30) 3 + k) pok
    have ewd : a_w1 (J4 (X + 17 + 6)) (J4 (X + 17 + 7)) (J4 (X + 30) 3 + k) (J4 (X + 17 + 12) 7).toNat 0 = cl_wd J X (J (X + 30) 3 + k) := by
      have q1 : J4 (X + 17 + 6) = J (X + 23) := funext (fun i => h4 _ i (by omega))
      have q2 : J4 (X + 17 + 7) = J (X + 24) := funext (fun i => h4 _ i (by omega))
      have q3 : J4 (X + 17 + 12) 7 = J (X + 29) 7 := h4 _ _ (by omega)
      rw [q1, q2, q3, e30]
      rfl
    have h5 : ∀ b i, b ≠ X + 164 → po_put J4 (X + 164) (a_step σ 4 (cl_wd J X (J (X + 30) 3 + k))) b i = J b i := fun b i q => by rw [po_put_o (fun e => q e.1)]; exact h4 b i q
    have hwb := a_why_bd C (a_step σ 4 (cl_wd J X (J (X + 30) 3 + k)))
    unfold a_dr at hq
    rw [a_of_no hbs] at hq
    have hno : ¬ (J (X + 30) 3 + k < 9999 ∧ a_why C (a_step σ 4 (cl_wd J X (J (X + 30) 3 + k))) = 0) → ∀ J', (∀ b i, b ≠ X + 164 → J' b i = J b i) → Q (some (.int (m_i k))) (T, m_I J', P, L, z, w) := fun q J' hJ => by
      have := hq J' hJ
      rw [if_neg q] at this
      exact this
    have hyes : (J (X + 30) 3 + k < 9999 ∧ a_why C (a_step σ 4 (cl_wd J X (J (X + 30) 3 + k))) = 0) → m_wp en (d + 4) mSc_drift 16 [some (.ref X), some (.int (m_i (k + 1)))] [] (T, m_I (po_put J4 (X + 164) (a_step σ 4 (cl_wd J X (J (X + 30) 3 + k)))), P, L, z, w) Q := fun q => ih (k + 1) _ _ (by omega) (by omega) (a_bx_st ok hbs q.2) po_get_put h5 (fun J' hJ => by
      have := hq J' hJ
      rw [if_pos q] at this
      exact this)
    refine r_iln eSc_drift_16 rfl ?_
    refine r_bip eSc_drift_17 (by decide) ?_
    refine r_cge (tgt := 88) eSc_drift_19 rfl ⟨(by omega), (by omega)⟩ ⟨(by omega), (by omega)⟩ (fun c19 => ?_) (fun c19 => ?_)
    · exfalso; omega
    · refine r_aln eSc_drift_22 rfl ?_
      refine m_getR eSc_drift_23 rfl (cl_t hX (i := 0) rfl) (cl_p hX (i := 2) rfl) ?_
      refine r_gete (x := J4 (X + 30) 3) eSc_drift_26 rfl (by decide) (cl_t hX (i := 30) rfl) rfl ?_
      refine r_iln eSc_drift_29 rfl ?_
      refine r_add eSc_drift_30 ?_
      refine r_sip eSc_drift_31 (by decide) ?_
      refine r_clt (tgt := 39) eSc_drift_34 rfl ⟨(by omega), (by omega)⟩ ⟨(by omega), (by omega)⟩ (fun c34 => ?_) (fun c34 => ?_)
      · refine r_aln eSc_drift_39 rfl ?_
        refine m_getR eSc_drift_40 rfl (cl_t hX (i := 0) rfl) (cl_p hX (i := 10) rfl) ?_
        refine r_con eSc_drift_43 ?_
        refine r_aln eSc_drift_44 rfl ?_
        refine m_getR eSc_drift_45 rfl (cl_t hX (i := 0) rfl) (cl_p hX (i := 1) rfl) ?_
        refine r_aln eSc_drift_48 rfl ?_
        refine m_getR eSc_drift_49 rfl (cl_t hX (i := 0) rfl) (cl_p hX (i := 2) rfl) ?_
        refine r_gete (x := J4 (X + 30) 3) eSc_drift_52 rfl (by decide) (cl_t hX (i := 30) rfl) rfl ?_
        refine r_iln eSc_drift_55 rfl ?_
        refine r_add eSc_drift_56 ?_
        refine r_vir eSc_drift_57 rfl rfl rfl (cl_t hX (i := 17) rfl) rfl rfl ?_
        refine c_Pl_windAt (cl_plan hX) (pl_ok_e pok (fun b i q1 q2 => h4 b i (by omega))) ⟨by omega, by omega⟩ ?_
        rw [ewd]
        show m_wp en _ mSc_drift 60 [some (.ref X), some (.int (m_i (k)))] [(.int (m_i ((cl_wd J X (J (X + 30) 3 + k))))), (.int (m_i (4))), (.ref (X + 164))] (T, m_I J4, P, L, z, w) Q
        refine r_vir eSc_drift_60 rfl rfl rfl (cl_t hX (i := 158) rfl) rfl rfl ?_
        refine c_Po_move (cl_po hX (k := 164) (by decide)) (by rw [eσ]; exact a_bx_sm hbs) ⟨by omega, by omega⟩ ⟨by omega, by omega⟩ ?_
        rw [eσ]
        show m_wp en _ mSc_drift 63 [some (.ref X), some (.int (m_i (k)))] [] (T, m_I (((po_put J4 (X + 164) (a_step σ 4 (cl_wd J X (J (X + 30) 3 + k)))))), P, L, z, w) Q
        refine r_aln eSc_drift_63 rfl ?_
        refine m_getR eSc_drift_64 rfl (cl_t hX (i := 0) rfl) (cl_p hX (i := 7) rfl) ?_
        refine m_getR eSc_drift_67 rfl (cl_t hX (i := 132) rfl) (cl_p hX (i := 107) rfl) ?_
        refine r_aln eSc_drift_70 rfl ?_
        refine m_getR eSc_drift_71 rfl (cl_t hX (i := 0) rfl) (cl_p hX (i := 10) rfl) ?_
        refine r_vir eSc_drift_74 rfl rfl rfl (cl_t hX (i := 133) rfl) rfl rfl ?_
        refine c_Sp_whyNot (cl_sp hX (Or.inl rfl)) (cl_po hX (k := 164) (by decide)) (sp_is_e hC (fun i => h5 _ i (by omega)) (fun i => h5 _ i (by omega)) (fun i => h5 _ i (by omega))).1 ok (by rw [po_get_put]; exact a_step_sm (a_bx_t hbs) (by omega) (by omega)) ?_
        rw [po_get_put]
        show m_wp en _ mSc_drift 77 [some (.ref X), some (.int (m_i (k)))] [(.int (m_i ((a_why C (a_step σ 4 (cl_wd J X (J (X + 30) 3 + k)))))))] (T, m_I (((((po_put J4 (X + 164) (a_step σ 4 (cl_wd J X (J (X + 30) 3 + k)))))))), P, L, z, w) Q
        refine r_zeq (tgt := 82) eSc_drift_77 rfl ⟨(by omega), (by omega)⟩ (fun c77 => ?_) (fun c77 => ?_)
        · refine r_inc (ls' := [some (.ref X), some (.int (m_i (k + 1)))]) eSc_drift_82 rfl rfl ?_
          refine r_go (tgt := 16) eSc_drift_85 rfl ?_
          exact hyes (by omega)
        · refine r_iln eSc_drift_80 rfl ?_
          refine r_iret eSc_drift_81 rfl ?_
          exact hno (by omega) _ h5
      · refine r_iln eSc_drift_37 rfl ?_
        refine r_iret eSc_drift_38 rfl ?_
        exact hno (by omega) J4 h4
theorem c_Sc_drift (h : cl_W en X N zb wb C T J P z w) (hq : ∀ J', (∀ b i, b ≠ X + 164 → J' b i = J b i) → Q (some (.int (m_i (a_dr C (cl_wd J X) (J (X + 30) 3) 60 (a_no (po_get J (X + 31))) 0)))) (T, m_I J', P, L, z, w)) : m_call en (d + 5) mSc_drift [.ref X] (T, m_I J, P, L, z, w) Q := by
  obtain ⟨hV, ⟨p1, hmo, ok, h4, hC⟩, -⟩ := h
  have hX := hV.1
  have h16 := l_Sc_drift (d := d) (Q := Q) (L := L) (z := z) (w := w) hX ok p1 hC hmo.2.2.1 60 0 (po_get J (X + 31)) (po_put J (X + 164) (po_get J (X + 31))) (by omega) (by omega) hmo.2.2.2.2 po_get_put (fun b i q => po_put_o (fun e => q e.1)) hq
  refine m_into (by decide) (Nat.le_of_ble_eq_true rfl) rfl ?_
  show m_wp en _ mSc_drift 0 [some (.ref X), none] [] (T, m_I J, P, L, z, w) Q
  refine r_aln eSc_drift_0 rfl ?_
  refine m_getR eSc_drift_1 rfl (cl_t hX (i := 0) rfl) (cl_p hX (i := 10) rfl) ?_
  refine r_aln eSc_drift_4 rfl ?_
  refine m_getR eSc_drift_5 rfl (cl_t hX (i := 0) rfl) (cl_p hX (i := 2) rfl) ?_
  refine m_getR eSc_drift_8 rfl (cl_t hX (i := 30) rfl) (cl_p hX (i := 38) rfl) ?_
  refine r_vir eSc_drift_11 rfl rfl rfl (cl_t hX (i := 158) rfl) rfl rfl ?_
  refine c_Po_set (cl_po hX (k := 164) (by decide)) (cl_po hX (k := 31) (by decide)) (by omega) ?_
  show m_wp en _ mSc_drift 14 [some (.ref X), none] [] (T, m_I (((po_put J (X + 164) (po_get J (X + 31))))), P, L, z, w) Q
  refine r_con eSc_drift_14 ?_
  refine r_isn (ls' := [some (.ref X), some (.int (m_i (0)))]) eSc_drift_15 (Nat.le_of_ble_eq_true rfl) rfl ?_
  exact h16
theorem l_Sc_gap (hX : cl_sh en X T P) (pok : pl_ok J (X + 17)) (hmo : cl_mo J X) {hi : Int} (hhi : hi < 16) {o1 o2 o3 : Option Value} :
    ∀ (m : Nat) (c l : Int), c + m = hi + 1 → 0 ≤ c → (0 ≤ l ∧ l ≤ 6) → Q (some (.int (m_i (a_gp (fun i => pl_fr J (X + 17) (J (X + 32)) (i : Int)) 1 m c l)))) (T, m_I J, P, L, z, w) → m_wp en (d + 2) mSc_gap 44 [some (.ref X), o1, o2, o3, some (.int (m_i hi)), some (.int (m_i l)), some (.int (m_i c))] [] (T, m_I J, P, L, z, w) Q := by
  intro m
  induction m with
  | zero =>
    intro c l hc h0 hl hq
    unfold a_gp at hq
    refine r_il eSc_gap_44 rfl ?_
    refine r_il eSc_gap_46 rfl ?_
    refine r_cgt (tgt := 80) eSc_gap_48 rfl ⟨(by omega), (by omega)⟩ ⟨(by omega), (by omega)⟩ (fun c48 => ?_) (fun c48 => ?_)
    · refine r_il eSc_gap_80 rfl ?_
      refine r_iret eSc_gap_82 rfl ?_
      exact hq
    · exfalso; omega
  | succ m ih =>
    intro c l hc h0 hl hq
    have hfb := pl_fr_b (p := J (X + 32)) (x := c) pok (fun i hi => (hmo.1 i hi).1)
    unfold a_gp at hq
    have em : a_mn (pl_fr J (X + 17) (J (X + 32)) ((c.toNat : Nat) : Int)) l = min l (pl_fr J (X + 17) (J (X + 32)) c) := by
      rw [show ((c.toNat : Nat) : Int) = c by omega]
      unfold a_mn
      split <;> omega
    rw [em] at hq
    have hi2 := ih (c + 1) (min l (pl_fr J (X + 17) (J (X + 32)) c)) (by omega) (by omega) (by omega) hq
    refine r_il eSc_gap_44 rfl ?_
    refine r_il eSc_gap_46 rfl ?_
    refine r_cgt (tgt := 80) eSc_gap_48 rfl ⟨(by omega), (by omega)⟩ ⟨(by omega), (by omega)⟩ (fun c48 => ?_) (fun c48 => ?_)
    · exfalso; omega
    · refine r_il eSc_gap_51 rfl ?_
      refine r_aln eSc_gap_53 rfl ?_
      refine m_getR eSc_gap_54 rfl (cl_t hX (i := 0) rfl) (cl_p hX (i := 1) rfl) ?_
      refine r_aln eSc_gap_57 rfl ?_
      refine m_getR eSc_gap_58 rfl (cl_t hX (i := 0) rfl) (cl_p hX (i := 2) rfl) ?_
      refine m_getR eSc_gap_61 rfl (cl_t hX (i := 30) rfl) (cl_p hX (i := 39) rfl) ?_
      refine r_il eSc_gap_64 rfl ?_
      refine r_vir eSc_gap_66 rfl rfl rfl (cl_t hX (i := 17) rfl) rfl rfl ?_
      refine c_Pl_freeOf (cl_plan hX) pok (cl_t hX (i := 32) rfl) (fun i hi => by have := hmo.1 i hi; omega) ⟨by omega, by omega⟩ ?_
      show m_wp en _ mSc_gap 69 [some (.ref X), o1, o2, o3, some (.int (m_i (hi))), some (.int (m_i (l))), some (.int (m_i (c)))] [(.int (m_i ((pl_fr J (X + 17) (J (X + 32)) c)))), (.int (m_i (l)))] (T, m_I J, P, L, z, w) Q
      refine r_min eSc_gap_69 rfl (Nat.le_of_ble_eq_true rfl) ⟨(by omega), (by omega)⟩ ⟨(by omega), (by omega)⟩ ?_
      refine r_is (ls' := [some (.ref X), o1, o2, o3, some (.int (m_i (hi))), some (.int (m_i (min (l) ((pl_fr J (X + 17) (J (X + 32)) c))))), some (.int (m_i (c)))]) eSc_gap_72 (Nat.le_of_ble_eq_true rfl) rfl ?_
      refine r_inc (ls' := [some (.ref X), o1, o2, o3, some (.int (m_i (hi))), some (.int (m_i (min (l) ((pl_fr J (X + 17) (J (X + 32)) c))))), some (.int (m_i (c + 1)))]) eSc_gap_74 rfl rfl ?_
      refine r_go (tgt := 44) eSc_gap_77 rfl ?_
      exact hi2
theorem c_Sc_gap (h : cl_W en X N zb wb C T J P z w) {a b : Int} (ha : m_in a) (hb : m_in b) (h0 : ¬ ((0 ≤ a ∧ a < J (X + 17) 0) ∧ 0 ≤ b ∧ b < J (X + 17) 0) → Q (some (.int (m_i (-1)))) (T, m_I J, P, L, z, w)) (h1 : ((0 ≤ a ∧ a < J (X + 17) 0) ∧ 0 ≤ b ∧ b < J (X + 17) 0) → Q (some (.int (m_i (a_gp (fun i => pl_fr J (X + 17) (J (X + 32)) (i : Int)) 1 (max a b - min a b + 1).toNat (min a b) 6)))) (T, m_I J, P, L, z, w)) : m_call en (d + 3) mSc_gap [.ref X, .int (m_i a), .int (m_i b)] (T, m_I J, P, L, z, w) Q := by
  obtain ⟨hV, ⟨pok, hmo, ok, h4, hC⟩, -⟩ := h
  have hX := hV.1
  have k0 := pok.1
  unfold m_in at ha hb
  have hb1 : (a_b (decide (0 ≤ a ∧ a < J (X + 17) 0)) = 1 ∧ (0 ≤ a ∧ a < J (X + 17) 0)) ∨ (a_b (decide (0 ≤ a ∧ a < J (X + 17) 0)) = 0 ∧ ¬ (0 ≤ a ∧ a < J (X + 17) 0)) := by
    by_cases q : 0 ≤ a ∧ a < J (X + 17) 0
    · exact Or.inl ⟨a_b_t (decide_eq_true q), q⟩
    · exact Or.inr ⟨a_b_f (by rw [decide_eq_true_eq]; exact q), q⟩
  have hb2 : (a_b (decide (0 ≤ b ∧ b < J (X + 17) 0)) = 1 ∧ (0 ≤ b ∧ b < J (X + 17) 0)) ∨ (a_b (decide (0 ≤ b ∧ b < J (X + 17) 0)) = 0 ∧ ¬ (0 ≤ b ∧ b < J (X + 17) 0)) := by
    by_cases q : 0 ≤ b ∧ b < J (X + 17) 0
    · exact Or.inl ⟨a_b_t (decide_eq_true q), q⟩
    · exact Or.inr ⟨a_b_f (by rw [decide_eq_true_eq]; exact q), q⟩
  have h44 : ((0 ≤ a ∧ a < J (X + 17) 0) ∧ 0 ≤ b ∧ b < J (X + 17) 0) → ∀ o1 o2 o3, m_wp en (d + 2) mSc_gap 44 [some (.ref X), o1, o2, o3, some (.int (m_i (max a b))), some (.int (m_i 6)), some (.int (m_i (min a b)))] [] (T, m_I J, P, L, z, w) Q := fun q o1 o2 o3 => l_Sc_gap (d := d) hX pok hmo (by omega) (max a b - min a b + 1).toNat (min a b) 6 (by omega) (by omega) (by omega) (h1 q)
  refine m_into (by decide) (Nat.le_of_ble_eq_true rfl) rfl ?_
  show m_wp en _ mSc_gap 0 [some (.ref X), some (.int (m_i (a))), some (.int (m_i (b))), none, none, none, none] [] (T, m_I J, P, L, z, w) Q
  refine r_aln eSc_gap_0 rfl ?_
  refine m_getR eSc_gap_1 rfl (cl_t hX (i := 0) rfl) (cl_p hX (i := 1) rfl) ?_
  refine r_iln eSc_gap_4 rfl ?_
  refine r_vir eSc_gap_5 rfl rfl rfl (cl_t hX (i := 17) rfl) rfl rfl ?_
  refine c_Pl_hasColumn (cl_plan hX) pok ⟨by omega, by omega⟩ ?_
  show m_wp en _ mSc_gap 8 [some (.ref X), some (.int (m_i (a))), some (.int (m_i (b))), none, none, none, none] [(.int (m_i ((a_b (decide (0 ≤ a ∧ a < J (X + 17) 0))))))] (T, m_I J, P, L, z, w) Q
  refine r_zeq (tgt := 22) eSc_gap_8 rfl ⟨(by omega), (by omega)⟩ (fun c8 => ?_) (fun c8 => ?_)
  · refine r_con eSc_gap_22 ?_
    refine r_iret eSc_gap_23 rfl ?_
    exact h0 (by omega)
  · refine r_aln eSc_gap_11 rfl ?_
    refine m_getR eSc_gap_12 rfl (cl_t hX (i := 0) rfl) (cl_p hX (i := 1) rfl) ?_
    refine r_iln eSc_gap_15 rfl ?_
    refine r_vir eSc_gap_16 rfl rfl rfl (cl_t hX (i := 17) rfl) rfl rfl ?_
    refine c_Pl_hasColumn (cl_plan hX) pok ⟨by omega, by omega⟩ ?_
    show m_wp en _ mSc_gap 19 [some (.ref X), some (.int (m_i (a))), some (.int (m_i (b))), none, none, none, none] [(.int (m_i ((a_b (decide (0 ≤ b ∧ b < J (X + 17) 0))))))] (T, m_I J, P, L, z, w) Q
    refine r_zne (tgt := 24) eSc_gap_19 rfl ⟨(by omega), (by omega)⟩ (fun c19 => ?_) (fun c19 => ?_)
    · refine r_iln eSc_gap_24 rfl ?_
      refine r_iln eSc_gap_25 rfl ?_
      refine r_min eSc_gap_26 rfl (Nat.le_of_ble_eq_true rfl) ⟨(by omega), (by omega)⟩ ⟨(by omega), (by omega)⟩ ?_
      refine r_isn (ls' := [some (.ref X), some (.int (m_i (a))), some (.int (m_i (b))), some (.int (m_i (min (a) (b)))), none, none, none]) eSc_gap_29 (Nat.le_of_ble_eq_true rfl) rfl ?_
      refine r_iln eSc_gap_30 rfl ?_
      refine r_iln eSc_gap_31 rfl ?_
      refine r_max eSc_gap_32 rfl (Nat.le_of_ble_eq_true rfl) ⟨(by omega), (by omega)⟩ ⟨(by omega), (by omega)⟩ ?_
      refine r_is (ls' := [some (.ref X), some (.int (m_i (a))), some (.int (m_i (b))), some (.int (m_i (min (a) (b)))), some (.int (m_i (max (a) (b)))), none, none]) eSc_gap_35 (Nat.le_of_ble_eq_true rfl) rfl ?_
      refine r_bip eSc_gap_37 (by decide) ?_
      refine r_is (ls' := [some (.ref X), some (.int (m_i (a))), some (.int (m_i (b))), some (.int (m_i (min (a) (b)))), some (.int (m_i (max (a) (b)))), some (.int (m_i (6))), none]) eSc_gap_39 (Nat.le_of_ble_eq_true rfl) rfl ?_
      refine r_iln eSc_gap_41 rfl ?_
      refine r_is (ls' := [some (.ref X), some (.int (m_i (a))), some (.int (m_i (b))), some (.int (m_i (min (a) (b)))), some (.int (m_i (max (a) (b)))), some (.int (m_i (6))), some (.int (m_i (min (a) (b))))]) eSc_gap_42 (Nat.le_of_ble_eq_true rfl) rfl ?_
      exact h44 (by omega) _ _ _
    · refine r_con eSc_gap_22 ?_
      refine r_iret eSc_gap_23 rfl ?_
      exact h0 (by omega)
end SCB
