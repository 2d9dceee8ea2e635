/-! the class: to any rest -/
/-- rests ahead of a place -/
def w_hs (C : a_C) (x e : Int) (σ : a_S) : Prop := a_is C σ = true ∧ w_rs σ ∧ (σ.1 < x ∨ (σ.1 = x ∧ σ.2.2.2.2 < e))
section HM
variable {en : Nat → Nat} {d : Nat} {T T' T2 T0 : Nat → Option (Nat × Nat)} {J J' J0 J1 J2 J3 K H : Nat → Nat → Int} {P P' P2 P0 : Nat → Nat → Option Nat} {L L' L2 L0 : Nat → Nat → Int64} {z w z' w' z0 w0 A B R U S n X N zb wb o o' A0 R' U' n' : Nat} {Q : m_Q} {σ τ γ π ρ : a_S} {C : a_C} {bw most by_ gl : Int} {Sd : a_S → Prop} {g : g_T} {x e : Int}
theorem w_hs_n (h : ¬ a_is C (x, 0, 0, 0, e) = true) : w_hs C x (e + 1) σ ↔ w_hs C x e σ := by
  constructor
  · rintro ⟨h1, h2, h3⟩
    refine ⟨h1, h2, ?_⟩
    rcases h3 with q | q
    · exact Or.inl q
    · rcases Int.lt_or_eq_of_le (Int.lt_add_one_iff.mp q.2) with q2 | q2
      · exact Or.inr ⟨q.1, q2⟩
      · exfalso
        obtain ⟨a, b, c, d, f⟩ := σ
        obtain ⟨r1, r2, r3⟩ := h2
        simp only at q q2 r1 r2 r3
        rw [q.1, r1, r2, r3, q2] at h1
        exact h h1
  · rintro ⟨h1, h2, h3⟩
    exact ⟨h1, h2, by omega⟩
theorem w_hs_y (h : a_is C (x, 0, 0, 0, e) = true) : w_hs C x (e + 1) σ ↔ w_hs C x e σ ∨ σ = (x, 0, 0, 0, e) := by
  constructor
  · rintro ⟨h1, h2, h3⟩
    by_cases q : σ.1 < x ∨ (σ.1 = x ∧ σ.2.2.2.2 < e)
    · exact Or.inl ⟨h1, h2, q⟩
    · right
      obtain ⟨a, b, c, d, f⟩ := σ
      obtain ⟨r1, r2, r3⟩ := h2
      simp only at h3 q r1 r2 r3
      rw [r1, r2, r3, show a = x by omega, show f = e by omega]
  · rintro (⟨h1, h2, h3⟩ | rfl)
    · exact ⟨h1, h2, by omega⟩
    · exact ⟨h, ⟨rfl, rfl, rfl⟩, Or.inr ⟨rfl, by simp only; omega⟩⟩
theorem w_hs_x (ok : a_ok C) : w_hs C (x + 1) 1 σ ↔ w_hs C x (C.2.1 + 1) σ := by
  constructor
  · rintro ⟨h1, h2, h3⟩
    obtain ⟨a, b, c, d, f⟩ := σ
    have := (a_is_sd.mp h1).2.2.1
    exact ⟨h1, h2, by simp only at h3 ⊢; omega⟩
  · rintro ⟨h1, h2, h3⟩
    exact ⟨h1, h2, by omega⟩
theorem w_hs_0 : ¬ w_hs C 0 1 σ := by
  rintro ⟨h1, h2, h3⟩
  obtain ⟨a, b, c, d, f⟩ := σ
  have := a_is_sd.mp h1
  simp only at h3
  omega
theorem w_hs_W : w_hs C C.1 1 σ ↔ w_sh C σ := by
  constructor
  · rintro ⟨h1, h2, h3⟩
    exact ⟨h1, h2⟩
  · rintro ⟨h1, h2⟩
    obtain ⟨a, b, c, d, f⟩ := σ
    have := a_is_sd.mp h1
    exact ⟨h1, h2, Or.inl this.1.2⟩
theorem c_Se_seed2 (hS : se_at en S R U n A T P) (ok : a_ok C) (hC : sp_is J A C) (hB : po_sh en B T P) (hπ : a_sm (po_get J B)) (hBR : B ≠ R) (hBU : B ≠ U) (hBS : B ≠ S) (hsz : a_sz C ≤ n) (h3 : 0 ≤ J S 3 ∧ J S 3 ≤ n) (h3' : a_is C (po_get J B) = true → J S 3 < n)
    (h0 : ¬ a_is C (po_get J B) = true → Q none (T, m_I J, P, L, z, w)) (h1 : a_is C (po_get J B) = true → Q none (T, m_I (se_ad J S R U (a_nb C (po_get J B)) 10 (a_pk (po_get J B))), P, L, z, w)) :
    m_call en (d + 2) mSe_seed [.ref S, .ref B] (T, m_I J, P, L, z, w) Q := by
  have hS0 := hS
  obtain ⟨⟨b0, t0⟩, ⟨p0, tR, bR⟩, ⟨p1, tU, bU⟩, ⟨p4, hA⟩, ⟨p8, hfm⟩, ⟨p9, hnr⟩, hn, hAS, hRS, hUS, hRU⟩ := hS0
  have hnb : (0 ≤ a_nb C (po_get J B) ∧ a_nb C (po_get J B) < n ∧ a_is C (po_get J B) = true) ∨ (a_nb C (po_get J B) = -1 ∧ ¬ a_is C (po_get J B) = true) := by
    by_cases e : a_is C (po_get J B) = true
    · have := a_nb_b ok e
      exact Or.inl ⟨this.1, by omega, e⟩
    · exact Or.inr ⟨by unfold a_nb; rw [if_neg e], e⟩
  have hnb2 : (0 ≤ a_nb C (po_get J B) ∧ a_nb C (po_get J B) < n) ∨ a_nb C (po_get J B) = -1 := by
    rcases hnb with q | q
    · exact Or.inl ⟨q.1, q.2.1⟩
    · exact Or.inr q.1
  have hy : 0 ≤ a_nb C (po_get J B) → a_is C (po_get J B) = true := fun q => by
    rcases hnb with r | r
    · exact r.2.2
    · omega
  have hy0 : a_nb C (po_get J B) < 0 → ¬ a_is C (po_get J B) = true := fun q => by
    rcases hnb with r | r
    · omega
    · exact r.2
  have hne := se_at_ne hS
  clear hRS hUS hRU hnb
  unfold se_ad at h1
  refine m_into (by decide) (Nat.le_of_ble_eq_true rfl) rfl ?_
  show m_wp en _ mSe_seed 0 [some (.ref S), some (.ref B), none] [] (T, m_I J, P, L, z, w) Q
  refine r_aln eSe_seed_0 rfl ?_
  refine m_getR eSe_seed_1 rfl t0 p4 ?_
  refine r_aln eSe_seed_4 rfl ?_
  refine r_vir eSe_seed_5 rfl rfl rfl hA.2.1 rfl rfl ?_
  refine c_Sp_numberOf hA hB hC ok hπ ?_
  show m_wp en _ mSe_seed 8 [some (.ref S), some (.ref B), none] [(.int (m_i ((a_nb C (po_get J B)))))] (T, m_I J, P, L, z, w) Q
  refine r_isn (ls' := [some (.ref S), some (.ref B), some (.int (m_i ((a_nb C (po_get J B)))))]) eSe_seed_8 (Nat.le_of_ble_eq_true rfl) rfl ?_
  refine r_iln eSe_seed_9 rfl ?_
  refine r_zlt (tgt := 72) eSe_seed_10 rfl ⟨(by omega), (by omega)⟩ (fun c10 => ?_) (fun c10 => ?_)
  · refine r_ret eSe_seed_72 rfl ?_
    first | exact h1 (hy (by omega)) | exact h0 (hy0 (by omega)) | (exfalso; omega)
  · have h3m := h3' (hy (by omega))
    refine r_iln eSe_seed_13 rfl ?_
    refine r_aln eSe_seed_14 rfl ?_
    refine m_getR eSe_seed_15 rfl t0 p0 ?_
    refine r_alen eSe_seed_18 tR (by decide) ?_
    refine r_cge (tgt := 72) eSe_seed_19 rfl ⟨(by omega), (by omega)⟩ ⟨(by omega), (by omega)⟩ (fun c19 => ?_) (fun c19 => ?_)
    · refine r_ret eSe_seed_72 rfl ?_
      first | exact h1 (hy (by omega)) | exact h0 (hy0 (by omega)) | (exfalso; omega)
    · refine r_aln eSe_seed_22 rfl ?_
      refine r_gete (x := J S 3) eSe_seed_23 rfl (by decide) t0 rfl ?_
      refine r_zlt (tgt := 72) eSe_seed_26 rfl ⟨(by omega), (by omega)⟩ (fun c26 => ?_) (fun c26 => ?_)
      · refine r_ret eSe_seed_72 rfl ?_
        first | exact h1 (hy (by omega)) | exact h0 (hy0 (by omega)) | (exfalso; omega)
      · refine r_aln eSe_seed_29 rfl ?_
        refine r_gete (x := J S 3) eSe_seed_30 rfl (by decide) t0 rfl ?_
        refine r_aln eSe_seed_33 rfl ?_
        refine m_getR eSe_seed_34 rfl t0 p1 ?_
        refine r_alen eSe_seed_37 tU (by decide) ?_
        refine r_cge (tgt := 72) eSe_seed_38 rfl ⟨(by omega), (by omega)⟩ ⟨(by omega), (by omega)⟩ (fun c38 => ?_) (fun c38 => ?_)
        · refine r_ret eSe_seed_72 rfl ?_
          first | exact h1 (hy (by omega)) | exact h0 (hy0 (by omega)) | (exfalso; omega)
        · refine r_aln eSe_seed_41 rfl ?_
          refine m_getR eSe_seed_42 rfl t0 p0 ?_
          refine r_iln eSe_seed_45 rfl ?_
          refine r_bip eSe_seed_46 (by decide) ?_
          refine r_iast eSe_seed_48 tR (by omega) (by omega) (by omega) bR ?_
          refine r_aln eSe_seed_49 rfl ?_
          refine m_getR eSe_seed_50 rfl t0 p1 ?_
          refine r_aln eSe_seed_53 rfl ?_
          refine r_gete (x := J S 3) eSe_seed_54 rfl (by decide) t0 (by rw [m_up_at, if_neg (by first | (exact fun q => absurd q.1 hne.2.2.1) | (exact fun q => absurd q.1 hne.2.1) | (exact fun q => absurd q.1 hne.2.2.2.2.1) | (exact fun q => absurd q.1 hne.2.2.2.2.2.1) | (exact fun q => absurd q.1.symm hne.1) | (exact fun q => absurd q.1.symm hne.2.2.2.1) | (exact fun q => absurd q.1 hne.2.2.2.2.2.2) | (exact fun q => absurd q.1.symm hne.2.2.2.2.2.2) | omega)]) ?_
          refine r_aln eSe_seed_57 rfl ?_
          refine r_vir eSe_seed_58 rfl rfl rfl hB.2.1 rfl rfl ?_
          refine c_Po_packed hB (by rw [po_get_up hBR]; exact a_is_p5 ok (hy (by omega))) ?_
          rw [po_get_up hBR]
          show m_wp en _ mSe_seed 61 [some (.ref S), some (.ref B), some (.int (m_i ((a_nb C (po_get J B)))))] [(.int (m_i ((a_pk (po_get J B))))), (.int (m_i (J S 3))), (.ref U)] (T, m_I ((((m_up J R (((a_nb C (po_get J B))).toNat) (10))))), P, L, z, w) Q
          refine r_iast eSe_seed_61 tU (by omega) (by omega) (by omega) bU ?_
          refine r_aln eSe_seed_62 rfl ?_
          refine r_dupr eSe_seed_63 ?_
          refine r_gete (x := J S 3) eSe_seed_64 rfl (by decide) t0 (by rw [m_up_at, if_neg (by first | (exact fun q => absurd q.1 hne.2.2.1) | (exact fun q => absurd q.1 hne.2.1) | (exact fun q => absurd q.1 hne.2.2.2.2.1) | (exact fun q => absurd q.1 hne.2.2.2.2.2.1) | (exact fun q => absurd q.1.symm hne.1) | (exact fun q => absurd q.1.symm hne.2.2.2.1) | (exact fun q => absurd q.1 hne.2.2.2.2.2.2) | (exact fun q => absurd q.1.symm hne.2.2.2.2.2.2) | omega), m_up_at, if_neg (by first | (exact fun q => absurd q.1 hne.2.2.1) | (exact fun q => absurd q.1 hne.2.1) | (exact fun q => absurd q.1 hne.2.2.2.2.1) | (exact fun q => absurd q.1 hne.2.2.2.2.2.1) | (exact fun q => absurd q.1.symm hne.1) | (exact fun q => absurd q.1.symm hne.2.2.2.1) | (exact fun q => absurd q.1 hne.2.2.2.2.2.2) | (exact fun q => absurd q.1.symm hne.2.2.2.2.2.2) | omega)]) ?_
          refine r_con eSe_seed_67 ?_
          refine r_add eSe_seed_68 ?_
          refine r_put eSe_seed_69 rfl t0 b0 (Or.inl rfl) ?_
          refine r_ret eSe_seed_72 rfl ?_
          first | exact h1 (hy (by omega)) | exact h0 (hy0 (by omega)) | (exfalso; omega)
/-- the seeds so far -/
def hm_I (C : a_C) (J2 J3 : Nat → Nat → Int) (X R U n : Nat) (x e : Int) : Prop := (∀ b i, b ≠ R → b ≠ U → ¬ (b = X + 144 ∧ (i = 2 ∨ i = 3)) → b ≠ X + 144 + 3 → b ≠ X + 144 + 4 → b ≠ X + 155 → J3 b i = J2 b i) ∧ J3 (X + 144) 2 = 0 ∧ g_Z C n (se_g J3 (X + 144) R U) ∧ ∀ σ, w_hs C x e σ ↔ ∃ i, i < (J3 (X + 144) 3).toNat ∧ g_q (se_g J3 (X + 144) R U) i = σ
theorem hm_po (h : hm_I C J2 J3 X R U n x e) (hR : R ≠ X + 155) (hU : U ≠ X + 155) : hm_I C J2 (po_put J3 (X + 155) τ) X R U n x e := by
  obtain ⟨h1, h2, h3, h4⟩ := h
  have e1 : po_put J3 (X + 155) τ R = J3 R := funext (fun i => po_put_o (fun q => hR q.1))
  have e2 : po_put J3 (X + 155) τ U = J3 U := funext (fun i => po_put_o (fun q => hU q.1))
  have e3 : ∀ i, po_put J3 (X + 155) τ (X + 144) i = J3 (X + 144) i := fun i => po_put_o (by omega)
  have eg : se_g (po_put J3 (X + 155) τ) (X + 144) R U = se_g J3 (X + 144) R U := by unfold se_g; rw [e1, e2, e3]
  refine ⟨fun b i a1 a2 a3 a4 a5 a6 => ?_, by rw [e3]; exact h2, by rw [eg]; exact h3, fun σ => by rw [eg, e3]; exact h4 σ⟩
  rw [po_put_o (fun q => a6 q.1)]
  exact h1 b i a1 a2 a3 a4 a5 a6
/-- one more rest -/
theorem hm_add (ok : a_ok C) (hne : se_ne (X + 144) R U) (h : hm_I C J2 J3 X R U n x e) (hsz : a_sz C ≤ n) (h5 : a_is C (x, 0, 0, 0, e) = true) : hm_I C J2 (se_ad J3 (X + 144) R U (a_nb C (x, 0, 0, 0, e)) 10 (a_pk (x, 0, 0, 0, e))) X R U n x (e + 1) ∧ J3 (X + 144) 3 < n := by
  obtain ⟨h1, h2, h3, h4⟩ := h
  have hu : (se_g J3 (X + 144) R U).1 (a_nb C (x, 0, 0, 0, e)).toNat = 0 := by
    rcases Classical.em ((se_g J3 (X + 144) R U).1 (a_nb C (x, 0, 0, 0, e)).toNat = 0) with q | q
    · exact q
    · obtain ⟨i, a1, a2⟩ := h3.1.2.2.2.2 _ h5 q
      have := (h4 _).mpr ⟨i, a1, a2⟩
      obtain ⟨-, -, r⟩ := this
      simp only at r
      omega
  have hr := g_room ok h3.1 hsz h5 hu
  have eg := se_g_ad (J := J3) (S := X + 144) (R := R) (U := U) (C := C) (τ := (x, 0, 0, 0, e)) (p := a_pk (x, 0, 0, 0, e)) (v := 10) hne.2.2.2.2.2.2 hne.1 hne.2.2.2.1 rfl
  have h30 := h3.1.1
  have et : (se_ad J3 (X + 144) R U (a_nb C (x, 0, 0, 0, e)) 10 (a_pk (x, 0, 0, 0, e)) (X + 144) 3).toNat = (J3 (X + 144) 3).toNat + 1 := by
    unfold se_ad
    rw [m_up_same]
    have : 0 ≤ J3 (X + 144) 3 := h30.1
    omega
  refine ⟨⟨fun b i a1 a2 a3 a4 a5 a6 => ?_, ?_, by rw [eg]; exact g_Z_add ok h3 hsz h5 hu, fun σ => ?_⟩, hr⟩
  · unfold se_ad
    rw [m_up_at, if_neg (fun q => a3 ⟨q.1, Or.inr q.2⟩), m_up_o a2, m_up_o a1]
    exact h1 b i a1 a2 a3 a4 a5 a6
  · unfold se_ad
    rw [m_up_j (by omega), m_up_o (fun e => hne.2.2.2.1 e.symm), m_up_o (fun e => hne.1 e.symm)]
    exact h2
  · rw [w_hs_y h5, h4, et, eg]
    have p5 := a_is_p5 ok h5
    constructor
    · rintro (⟨i, a1, a2⟩ | rfl)
      · exact ⟨i, by omega, by rw [g_add_q a1]; exact a2⟩
      · exact ⟨(J3 (X + 144) 3).toNat, by omega, g_add_m p5⟩
    · rintro ⟨i, a1, a2⟩
      rcases Nat.lt_or_eq_of_le (Nat.le_of_lt_succ a1) with q | q
      · rw [g_add_q q] at a2
        exact Or.inl ⟨i, q, a2⟩
      · subst q
        right
        rw [← a2]
        exact g_add_m p5
theorem l38_Wa_toHome (hX : cl_sh en X T P) (ok : a_ok C) (hC : sp_is J2 (X + 133) C) (hw : J2 (X + 17) 0 = C.1 ∧ J2 (X + 17) 1 = C.2.1) (hbn : se_bn en (X + 144) (X + 133) C 1 511 4 R U n T0 J0 P0 L0 z0 w0 R' U' n' T J2 P L z w) (hR : R' = X + 145 ∨ X + 165 ≤ R') (hU : U' = X + 146 ∨ X + 165 ≤ U') {x : Nat} (hx : (x : Int) < C.1)
    (hq : ∀ J3 o2, hm_I C J2 J3 X R' U' n' ((x : Int) + 1) 1 → m_wp en (d + 2) mWa_toHome 75 [some (.ref (X + 132)), some (.int (m_i (x : Int))), o2] [] (T, m_I J3, P, L, z, w) Q) :
    ∀ (r e : Nat) (J3 : Nat → Nat → Int), (e : Int) + r = C.2.1 + 1 → 1 ≤ e → hm_I C J2 J3 X R' U' n' (x : Int) (e : Int) → m_wp en (d + 2) mWa_toHome 38 [some (.ref (X + 132)), some (.int (m_i (x : Int))), some (.int (m_i (e : Int)))] [] (T, m_I J3, P, L, z, w) Q := by
  have k0 := ok.1
  have k1 := ok.2.1
  have hne := se_at_ne hbn.1
  intro r
  induction r with
  | zero =>
    intro e J3 he he1 hI
    have f17 : J3 (X + 17) 1 = C.2.1 := (hI.1 _ _ (by omega) (by omega) (by omega) (by omega) (by omega) (by omega)).trans hw.2
    have h75 := hq J3 (some (.int (m_i (e : Int)))) ⟨hI.1, hI.2.1, hI.2.2.1, fun σ => by rw [w_hs_x ok, show C.2.1 + 1 = (e : Int) by omega]; exact hI.2.2.2 σ⟩
    refine r_iln eWa_toHome_38 rfl ?_
    refine r_aln eWa_toHome_39 rfl ?_
    refine m_getR eWa_toHome_40 rfl (cl_t hX (i := 132) rfl) (cl_p hX (i := 105) rfl) ?_
    refine r_gete (x := J3 (X + 17) 1) eWa_toHome_43 rfl (by decide) (cl_t hX (i := 17) rfl) rfl ?_
    refine r_cgt (tgt := 75) eWa_toHome_46 rfl ⟨(by omega), (by omega)⟩ ⟨(by omega), (by omega)⟩ (fun c46 => ?_) (fun c46 => ?_)
    · exact h75
    · exfalso; omega
  | succ r ih =>
    intro e J3 he he1 hI
    have f17 : J3 (X + 17) 1 = C.2.1 := (hI.1 _ _ (by omega) (by omega) (by omega) (by omega) (by omega) (by omega)).trans hw.2
    have hpo := hm_po (τ := ((x : Int), 0, 0, 0, (e : Int))) hI (by omega) (by omega)
    have f1 := hpo.1
    have hi := fun J3 => ih (e + 1) J3 (by omega) (by omega)
    rw [show ((e + 1 : Nat) : Int) = (e : Int) + 1 by omega] at hi
    refine r_iln eWa_toHome_38 rfl ?_
    refine r_aln eWa_toHome_39 rfl ?_
    refine m_getR eWa_toHome_40 rfl (cl_t hX (i := 132) rfl) (cl_p hX (i := 105) rfl) ?_
    refine r_gete (x := J3 (X + 17) 1) eWa_toHome_43 rfl (by decide) (cl_t hX (i := 17) rfl) rfl ?_
    refine r_cgt (tgt := 75) eWa_toHome_46 rfl ⟨(by omega), (by omega)⟩ ⟨(by omega), (by omega)⟩ (fun c46 => ?_) (fun c46 => ?_)
    · exfalso; omega
    · refine r_aln eWa_toHome_49 rfl ?_
      refine m_getR eWa_toHome_50 rfl (cl_t hX (i := 132) rfl) (cl_p hX (i := 113) rfl) ?_
      refine r_iln eWa_toHome_53 rfl ?_
      refine r_iln eWa_toHome_54 rfl ?_
      refine r_vir eWa_toHome_55 rfl rfl rfl (cl_t hX (i := 149) rfl) rfl rfl ?_
      refine c_Po_hang (cl_po hX (k := 155) (by decide)) ?_
      show m_wp en _ mWa_toHome 58 [some (.ref (X + 132)), some (.int (m_i ((x : Int)))), some (.int (m_i ((e : Int))))] [] (T, m_I (((po_put J3 (X + 155) ((x : Int), 0, 0, 0, (e : Int))))), P, L, z, w) Q
      refine r_aln eWa_toHome_58 rfl ?_
      refine m_getR eWa_toHome_59 rfl (cl_t hX (i := 132) rfl) (cl_p hX (i := 110) rfl) ?_
      refine r_aln eWa_toHome_62 rfl ?_
      refine m_getR eWa_toHome_63 rfl (cl_t hX (i := 132) rfl) (cl_p hX (i := 113) rfl) ?_
      refine r_vir eWa_toHome_66 rfl rfl rfl (cl_t hX (i := 142) rfl) rfl rfl ?_
      refine c_Se_seed2 hbn.1 ok (sp_is_e hC (fun i => f1 _ i (by omega) (by omega) (by omega) (by omega) (by omega) (by omega)) (fun i => f1 _ i (by omega) (by omega) (by omega) (by omega) (by omega) (by omega)) (fun i => f1 _ i (by omega) (by omega) (by omega) (by omega) (by omega) (by omega))) (cl_po hX (k := 155) (by decide)) (by rw [po_get_put]; exact ⟨by simp only; omega, by simp only; omega, by simp only; omega, by simp only; omega, by simp only; omega⟩) (by omega) (by omega) (by omega) hbn.2.1 hpo.2.2.1.1.1 (fun q => by rw [po_get_put] at q; exact (hm_add ok hne hpo hbn.2.1 q).2) (fun q31 => ?_) (fun q31 => ?_)
      · rw [po_get_put] at q31
        have hnew : hm_I C J2 (po_put J3 (X + 155) ((x : Int), 0, 0, 0, (e : Int))) X R' U' n' x ((e : Int) + 1) := ⟨hpo.1, hpo.2.1, hpo.2.2.1, fun σ => by rw [w_hs_n q31]; exact hpo.2.2.2 σ⟩
        show m_wp en _ mWa_toHome 69 [some (.ref (X + 132)), some (.int (m_i ((x : Int)))), some (.int (m_i ((e : Int))))] [] (T, m_I (((po_put J3 (X + 155) ((x : Int), 0, 0, 0, (e : Int))))), P, L, z, w) Q
        refine r_inc (ls' := [some (.ref (X + 132)), some (.int (m_i ((x : Int)))), some (.int (m_i ((e : Int) + 1)))]) eWa_toHome_69 rfl rfl ?_
        refine r_go (tgt := 38) eWa_toHome_72 rfl ?_
        exact hi _ hnew
      · rw [po_get_put] at q31 ⊢
        have hnew := (hm_add ok hne hpo hbn.2.1 q31).1
        show m_wp en _ mWa_toHome 69 [some (.ref (X + 132)), some (.int (m_i ((x : Int)))), some (.int (m_i ((e : Int))))] [] (T, m_I (((se_ad (po_put J3 (X + 155) ((x : Int), 0, 0, 0, (e : Int))) (X + 144) R' U' (a_nb C ((x : Int), 0, 0, 0, (e : Int))) 10 (a_pk ((x : Int), 0, 0, 0, (e : Int)))))), P, L, z, w) Q
        refine r_inc (ls' := [some (.ref (X + 132)), some (.int (m_i ((x : Int)))), some (.int (m_i ((e : Int) + 1)))]) eWa_toHome_69 rfl rfl ?_
        refine r_go (tgt := 38) eWa_toHome_72 rfl ?_
        exact hi _ hnew
theorem l25_Wa_toHome (hX : cl_sh en X T P) (ok : a_ok C) (hC : sp_is J2 (X + 133) C) (hw : J2 (X + 17) 0 = C.1 ∧ J2 (X + 17) 1 = C.2.1) (hbn : se_bn en (X + 144) (X + 133) C 1 511 4 R U n T0 J0 P0 L0 z0 w0 R' U' n' T J2 P L z w) (hR : R' = X + 145 ∨ X + 165 ≤ R') (hU : U' = X + 146 ∨ X + 165 ≤ U')
    (hq : ∀ J3 o1 o2, hm_I C J2 J3 X R' U' n' C.1 1 → m_wp en (d + 2) mWa_toHome 81 [some (.ref (X + 132)), o1, o2] [] (T, m_I J3, P, L, z, w) Q) :
    ∀ (r x : Nat) (J3 : Nat → Nat → Int) (o2 : Option Value), (x : Int) + r = C.1 → hm_I C J2 J3 X R' U' n' (x : Int) 1 → m_wp en (d + 2) mWa_toHome 25 [some (.ref (X + 132)), some (.int (m_i (x : Int))), o2] [] (T, m_I J3, P, L, z, w) Q := by
  have k0 := ok.1
  have k1 := ok.2.1
  intro r
  induction r with
  | zero =>
    intro x J3 o2 hx hI
    have f17 : J3 (X + 17) 0 = C.1 := (hI.1 _ _ (by omega) (by omega) (by omega) (by omega) (by omega) (by omega)).trans hw.1
    have h81 := hq J3 (some (.int (m_i (x : Int)))) o2 (by rw [show C.1 = (x : Int) by omega]; exact hI)
    refine r_iln eWa_toHome_25 rfl ?_
    refine r_aln eWa_toHome_26 rfl ?_
    refine m_getR eWa_toHome_27 rfl (cl_t hX (i := 132) rfl) (cl_p hX (i := 105) rfl) ?_
    refine r_gete (x := J3 (X + 17) 0) eWa_toHome_30 rfl (by decide) (cl_t hX (i := 17) rfl) rfl ?_
    refine r_cge (tgt := 81) eWa_toHome_33 rfl ⟨(by omega), (by omega)⟩ ⟨(by omega), (by omega)⟩ (fun c33 => ?_) (fun c33 => ?_)
    · exact h81
    · exfalso; omega
  | succ r ih =>
    intro x J3 o2 hx hI
    have f17 : J3 (X + 17) 0 = C.1 := (hI.1 _ _ (by omega) (by omega) (by omega) (by omega) (by omega) (by omega)).trans hw.1
    have h38 := l38_Wa_toHome (d := d) (Q := Q) (x := x) hX ok hC hw hbn hR hU (by omega) (fun J4 o3 h4 => by
      have hi := ih (x + 1) J4 o3 (by omega) (by rw [show ((x + 1 : Nat) : Int) = (x : Int) + 1 by omega]; exact h4)
      rw [show ((x + 1 : Nat) : Int) = (x : Int) + 1 by omega] at hi
      refine r_inc (ls' := [some (.ref (X + 132)), some (.int (m_i ((x : Int) + 1))), o3]) eWa_toHome_75 rfl rfl ?_
      refine r_go (tgt := 25) eWa_toHome_78 rfl ?_
      exact hi) (C.2.1).toNat 1 J3 (by omega) (by omega) hI
    refine r_iln eWa_toHome_25 rfl ?_
    refine r_aln eWa_toHome_26 rfl ?_
    refine m_getR eWa_toHome_27 rfl (cl_t hX (i := 132) rfl) (cl_p hX (i := 105) rfl) ?_
    refine r_gete (x := J3 (X + 17) 0) eWa_toHome_30 rfl (by decide) (cl_t hX (i := 17) rfl) rfl ?_
    refine r_cge (tgt := 81) eWa_toHome_33 rfl ⟨(by omega), (by omega)⟩ ⟨(by omega), (by omega)⟩ (fun c33 => ?_) (fun c33 => ?_)
    · exfalso; omega
    · refine r_con eWa_toHome_36 ?_
      refine r_isn (ls' := [some (.ref (X + 132)), some (.int (m_i ((x : Int)))), some (.int (m_i (1)))]) eWa_toHome_37 (Nat.le_of_ble_eq_true rfl) rfl ?_
      exact h38
end HM
