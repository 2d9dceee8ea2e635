/-! the class: a tick, a step -/
section SCV
variable {en : Nat → Nat} {d : Nat} {T : Nat → Option (Nat × Nat)} {J J' J0 K H : Nat → Nat → Int} {P : Nat → Nat → Option Nat} {L : Nat → Nat → Int64} {z w A B R X N zb wb : Nat} {Q : m_Q} {σ τ : a_S} {C : a_C}
/-- the heap behind a tick, piece by piece -/
def cl_t3 (J : Nat → Nat → Int) (X : Nat) (k : Int) : Nat → Nat → Int := lo_ad (pa_pu J X (X + 30)) (X + 33) (lo_en k (pa_pu J X (X + 30) (X + 30) 3))
def cl_t4 (J : Nat → Nat → Int) (X : Nat) (k : Int) : Nat → Nat → Int := po_put (cl_t3 J X k) (X + 31) (po_get (cl_t3 J X k) (X + 164))
def cl_t5 (J : Nat → Nat → Int) (X : Nat) (k : Int) : Nat → Nat → Int := m_up (cl_t4 J X k) (X + 30) 3 (cl_t4 J X k (X + 30) 3 + 1)
def cl_t6 (J : Nat → Nat → Int) (X : Nat) (k b : Int) : Nat → Nat → Int := if b = 0 then cl_t5 J X k else m_up (cl_t5 J X k) (X + 30) 4 (cl_t4 J X k (X + 30) 4 + 1)
def cl_tk (J : Nat → Nat → Int) (X : Nat) (k b : Int) (τ : a_S) : Nat → Nat → Int := cl_mv (cl_t6 (po_put J (X + 164) τ) X k b) X
theorem k_Lo_add (hX : cl_sh en X T P) (he : 0 ≤ J (X + 33) 1 ∧ J (X + 33) 1 < 70) (hs : 0 ≤ J (X + 33) 2 ∧ J (X + 33) 2 ≤ 70) {k f : Int} (hk : 0 ≤ k ∧ k < 9) (hq : ∀ K, K = lo_ad J (X + 33) (lo_en k f) → Q none (T, m_I K, P, L, z, w)) : m_call en (d + 2) mLo_add [.ref (X + 33), .int (m_i k), .int (m_i f)] (T, m_I J, P, L, z, w) Q := c_Lo_add (cl_hist hX) he hs hk (hq _ rfl)
theorem k_Po_set (hA : po_sh en A T P) (hB : po_sh en B T P) (hAB : A ≠ B) (hq : ∀ K, K = po_put J A (po_get J B) → Q none (T, m_I K, P, L, z, w)) : m_call en (d + 1) mPo_set [.ref A, .ref B] (T, m_I J, P, L, z, w) Q := c_Po_set hA hB hAB (hq _ rfl)
theorem cl_wd_e (e : ∀ b i, X + 17 ≤ b → b ≤ X + 29 → J' b i = J b i) {t : Int} : cl_wd J' X t = cl_wd J X t := by
  unfold cl_wd
  rw [show J' (X + 23) = J (X + 23) from funext fun i => e _ i (by omega) (by omega), show J' (X + 24) = J (X + 24) from funext fun i => e _ i (by omega) (by omega), e _ _ (by omega) (by omega)]
theorem lo_ad_o {b i : Nat} {v : Int} (h : b ≠ A ∧ b ≠ A + 1) : lo_ad J A v b i = J b i := by
  unfold lo_ad
  rw [m_up_o (by omega), m_up_o (by omega), m_up_o (by omega)]
theorem k_Po_move (hX : cl_sh en X T P) {k f : Int} (eJ : H = po_put J (X + 164) σ) (hs : a_bx σ) (hk : 0 ≤ k ∧ k < 9) (hf : -1000 ≤ f ∧ f ≤ 1000) (hq : ∀ K, K = po_put J (X + 164) (a_step σ k f) → Q none (T, m_I K, P, L, z, w)) : m_call en (d + 1) mPo_move [.ref (X + 164), .int (m_i k), .int (m_i f)] (T, m_I H, P, L, z, w) Q := by
  subst eJ
  refine c_Po_move (cl_po hX (k := 164) (by decide)) (by rw [po_get_put]; exact a_bx_sm hs) hk hf ?_
  rw [po_get_put, po_put_put]
  exact hq _ rfl
theorem c_Sc_tickBy (hX : cl_sh en X T P) (pok : pl_ok J (X + 17)) (hm : cl_mo J X) (ok : a_ok C) (hC : sp_is J (X + 133) C) (ho : lo_ok J (X + 33)) (he : 0 ≤ J (X + 35) 1 ∧ J (X + 35) 1 < 30) (hs : 0 ≤ J (X + 35) 2 ∧ J (X + 35) 2 ≤ 30) {k v : Int} (hk : 0 ≤ k ∧ k < 9) (hv : v = 0 ∨ v = 1) (eτ : τ = a_step (po_get J (X + 31)) k (cl_wd J X (J (X + 30) 3))) (h0 : ¬ J (X + 30) 3 < 9999 → Q (some (.int (m_i 0))) (T, m_I J, P, L, z, w)) (h1 : J (X + 30) 3 < 9999 → a_why C τ ≠ 0 → Q (some (.int (m_i 0))) (T, m_I (po_put J (X + 164) τ), P, L, z, w)) (h2 : J (X + 30) 3 < 9999 → a_why C τ = 0 → Q (some (.int (m_i 1))) (T, m_I (cl_tk J X k v τ), P, L, z, w)) : m_call en (d + 4) mSc_tickBy [.ref X, .int (m_i k), .int (m_i v)] (T, m_I J, P, L, z, w) Q := by
  obtain ⟨f, ef⟩ : ∃ f, f = cl_wd J X (J (X + 30) 3) := ⟨_, rfl⟩
  have hfb := cl_wd_b (t := J (X + 30) 3) pok
  rw [← ef] at eτ hfb
  have hsm : a_sm τ := by rw [eτ]; exact a_step_sm (a_bx_t hm.2.2.2.2) hk (by omega)
  have hwb := a_why_bd C τ
  have hwe : ∀ K, K = po_put J (X + 164) (po_get J (X + 31)) → a_w1 (K (X + 17 + 6)) (K (X + 17 + 7)) (K (X + 30) 3) (K (X + 17 + 12) 7).toNat 0 = cl_wd J X (J (X + 30) 3) := fun K e => by
    have := cl_wd_e (J := J) (J' := K) (X := X) (fun b i q1 q2 => by rw [e]; exact po_put_o (by omega)) (t := K (X + 30) 3)
    rw [show K (X + 30) 3 = J (X + 30) 3 from by rw [e]; exact po_put_o (by omega)] at this ⊢
    exact this
  have hte : ∀ K, K = po_put J (X + 164) (po_get J (X + 31)) → K (X + 30) 3 = J (X + 30) 3 := fun K e => by rw [e]; exact po_put_o (by omega)
  have hCe : ∀ K, K = po_put J (X + 164) τ → sp_i0 K (X + 133) C := fun K e => by rw [e]; exact (sp_po2 (by omega) hC).1
  have hfe : ∀ K H, K = po_put J (X + 164) τ → H = pa_pu K X (X + 30) → ∀ b i, b < X + 35 → H b i = J b i := fun K H e1 e2 b i q => by
    rw [e2, pa_pu_o (by rw [e1, po_put_o (by omega)]; exact he) (by omega), e1, po_put_o (by omega)]
  have t3 := hm.2.2.1
  refine m_into (by decide) (Nat.le_of_ble_eq_true rfl) rfl ?_
  show m_wp en _ mSc_tickBy 0 [some (.ref X), some (.int (m_i (k))), some (.int (m_i (v)))] [] (T, m_I J, P, L, z, w) Q
  refine r_aln eSc_tickBy_0 rfl ?_
  refine m_getR eSc_tickBy_1 rfl (cl_t hX (i := 0) rfl) (cl_p hX (i := 2) rfl) ?_
  refine r_gete (x := J (X + 30) 3) eSc_tickBy_4 rfl (by decide) (cl_t hX (i := 30) rfl) rfl ?_
  refine r_sip eSc_tickBy_7 (by decide) ?_
  refine r_clt (tgt := 15) eSc_tickBy_10 rfl ⟨(by omega), (by omega)⟩ ⟨(by omega), (by omega)⟩ (fun c10 => ?_) (fun c10 => ?_)
  · refine r_aln eSc_tickBy_15 rfl ?_
    refine m_getR eSc_tickBy_16 rfl (cl_t hX (i := 0) rfl) (cl_p hX (i := 10) rfl) ?_
    refine r_aln eSc_tickBy_19 rfl ?_
    refine m_getR eSc_tickBy_20 rfl (cl_t hX (i := 0) rfl) (cl_p hX (i := 2) rfl) ?_
    refine m_getR eSc_tickBy_23 rfl (cl_t hX (i := 30) rfl) (cl_p hX (i := 38) rfl) ?_
    refine r_vir eSc_tickBy_26 rfl rfl rfl (cl_t hX (i := 158) rfl) rfl rfl ?_
    refine k_Po_set (cl_po hX (by decide)) (cl_po hX (by decide)) (by omega) (fun K26 e26 => ?_)
    show m_wp en _ mSc_tickBy 29 [some (.ref X), some (.int (m_i (k))), some (.int (m_i (v)))] [] (T, m_I K26, P, L, z, w) Q
    refine r_aln eSc_tickBy_29 rfl ?_
    refine m_getR eSc_tickBy_30 rfl (cl_t hX (i := 0) rfl) (cl_p hX (i := 10) rfl) ?_
    refine r_iln eSc_tickBy_33 rfl ?_
    refine r_aln eSc_tickBy_34 rfl ?_
    refine m_getR eSc_tickBy_35 rfl (cl_t hX (i := 0) rfl) (cl_p hX (i := 1) rfl) ?_
    refine r_aln eSc_tickBy_38 rfl ?_
    refine m_getR eSc_tickBy_39 rfl (cl_t hX (i := 0) rfl) (cl_p hX (i := 2) rfl) ?_
    refine r_gete (x := K26 (X + 30) 3) eSc_tickBy_42 rfl (by decide) (cl_t hX (i := 30) rfl) rfl ?_
    refine r_vir eSc_tickBy_45 rfl rfl rfl (cl_t hX (i := 17) rfl) rfl rfl ?_
    have tt := hte _ e26
    refine c_Pl_windAt (cl_plan hX) (pl_ok_e pok (fun b i q1 q2 => by rw [e26]; exact po_put_o (by omega))) ⟨by omega, by omega⟩ ?_
    rw [show a_w1 (K26 (X + 17 + 6)) (K26 (X + 17 + 7)) (K26 (X + 30) 3) (K26 (X + 17 + 12) 7).toNat 0 = f from by rw [ef]; exact hwe _ e26]
    show m_wp en _ mSc_tickBy 48 [some (.ref X), some (.int (m_i (k))), some (.int (m_i (v)))] [(.int (m_i (f))), (.int (m_i (k))), (.ref (X + 164))] (T, m_I K26, P, L, z, w) Q
    refine r_vir eSc_tickBy_48 rfl rfl rfl (cl_t hX (i := 158) rfl) rfl rfl ?_
    refine k_Po_move hX e26 hm.2.2.2.2 hk (by omega) (fun K48 e48 => ?_)
    rw [← eτ] at e48
    show m_wp en _ mSc_tickBy 51 [some (.ref X), some (.int (m_i (k))), some (.int (m_i (v)))] [] (T, m_I K48, P, L, z, w) Q
    refine r_aln eSc_tickBy_51 rfl ?_
    refine m_getR eSc_tickBy_52 rfl (cl_t hX (i := 0) rfl) (cl_p hX (i := 7) rfl) ?_
    refine m_getR eSc_tickBy_55 rfl (cl_t hX (i := 132) rfl) (cl_p hX (i := 107) rfl) ?_
    refine r_aln eSc_tickBy_58 rfl ?_
    refine m_getR eSc_tickBy_59 rfl (cl_t hX (i := 0) rfl) (cl_p hX (i := 10) rfl) ?_
    refine r_vir eSc_tickBy_62 rfl rfl rfl (cl_t hX (i := 133) rfl) rfl rfl ?_
    refine c_Sp_whyNot (cl_sp hX (Or.inl rfl)) (cl_po hX (k := 164) (by decide)) (hCe _ e48) ok (by rw [e48, po_get_put]; exact hsm) ?_
    rw [show po_get K48 (X + 164) = τ from by rw [e48, po_get_put]]
    show m_wp en _ mSc_tickBy 65 [some (.ref X), some (.int (m_i (k))), some (.int (m_i (v)))] [(.int (m_i ((a_why C τ))))] (T, m_I K48, P, L, z, w) Q
    refine r_zeq (tgt := 70) eSc_tickBy_65 rfl ⟨(by omega), (by omega)⟩ (fun c65 => ?_) (fun c65 => ?_)
    · refine r_aln eSc_tickBy_70 rfl ?_
      refine m_getR eSc_tickBy_71 rfl (cl_t hX (i := 0) rfl) (cl_p hX (i := 4) rfl) ?_
      refine r_aln eSc_tickBy_74 rfl ?_
      refine m_getR eSc_tickBy_75 rfl (cl_t hX (i := 0) rfl) (cl_p hX (i := 2) rfl) ?_
      refine r_vir eSc_tickBy_78 rfl rfl rfl (cl_t hX (i := 35) rfl) rfl rfl ?_
      refine k_Pa_push hX (by rw [e48, po_put_o (by omega)]; exact he) (by rw [e48, po_put_o (by omega)]; exact hs) (fun K78 e78 => ?_)
      have f78 : ∀ b i, b < X + 35 → K78 b i = J b i := hfe _ _ e48 e78
      show m_wp en _ mSc_tickBy 81 [some (.ref X), some (.int (m_i (k))), some (.int (m_i (v)))] [] (T, m_I K78, P, L, z, w) Q
      refine r_aln eSc_tickBy_81 rfl ?_
      refine m_getR eSc_tickBy_82 rfl (cl_t hX (i := 0) rfl) (cl_p hX (i := 3) rfl) ?_
      refine r_iln eSc_tickBy_85 rfl ?_
      refine r_aln eSc_tickBy_86 rfl ?_
      refine m_getR eSc_tickBy_87 rfl (cl_t hX (i := 0) rfl) (cl_p hX (i := 2) rfl) ?_
      refine r_gete (x := K78 (X + 30) 3) eSc_tickBy_90 rfl (by decide) (cl_t hX (i := 30) rfl) rfl ?_
      refine r_vir eSc_tickBy_93 rfl rfl rfl (cl_t hX (i := 33) rfl) rfl rfl ?_
      refine k_Lo_add hX (by rw [f78 _ _ (by omega)]; exact ho.1) (by rw [f78 _ _ (by omega)]; exact ho.2.1) hk (fun K93 e93 => ?_)
      show m_wp en _ mSc_tickBy 96 [some (.ref X), some (.int (m_i (k))), some (.int (m_i (v)))] [] (T, m_I K93, P, L, z, w) Q
      refine r_aln eSc_tickBy_96 rfl ?_
      refine m_getR eSc_tickBy_97 rfl (cl_t hX (i := 0) rfl) (cl_p hX (i := 2) rfl) ?_
      refine m_getR eSc_tickBy_100 rfl (cl_t hX (i := 30) rfl) (cl_p hX (i := 38) rfl) ?_
      refine r_aln eSc_tickBy_103 rfl ?_
      refine m_getR eSc_tickBy_104 rfl (cl_t hX (i := 0) rfl) (cl_p hX (i := 10) rfl) ?_
      refine r_vir eSc_tickBy_107 rfl rfl rfl (cl_t hX (i := 31) rfl) rfl rfl ?_
      refine k_Po_set (cl_po hX (by decide)) (cl_po hX (by decide)) (by omega) (fun K107 e107 => ?_)
      show m_wp en _ mSc_tickBy 110 [some (.ref X), some (.int (m_i (k))), some (.int (m_i (v)))] [] (T, m_I K107, P, L, z, w) Q
      refine r_aln eSc_tickBy_110 rfl ?_
      refine m_getR eSc_tickBy_111 rfl (cl_t hX (i := 0) rfl) (cl_p hX (i := 2) rfl) ?_
      refine r_dupr eSc_tickBy_114 ?_
      refine r_gete (x := K107 (X + 30) 3) eSc_tickBy_115 rfl (by decide) (cl_t hX (i := 30) rfl) rfl ?_
      refine r_con eSc_tickBy_118 ?_
      refine r_add eSc_tickBy_119 ?_
      refine r_put eSc_tickBy_120 rfl (cl_t hX (i := 30) rfl) (cl_e hX 30) (Or.inl rfl) ?_
      refine r_iln eSc_tickBy_123 rfl ?_
      refine r_zeq (tgt := 140) eSc_tickBy_124 rfl ⟨(by omega), (by omega)⟩ (fun c124 => ?_) (fun c124 => ?_)
      · refine r_aln eSc_tickBy_140 rfl ?_
        refine m_getR eSc_tickBy_141 rfl (cl_t hX (i := 0) rfl) (cl_p hX (i := 7) rfl) ?_
        refine r_vir eSc_tickBy_144 rfl rfl rfl (cl_t hX (i := 132) rfl) rfl rfl ?_
        refine k_Wa_moved hX (fun K5 e5 => ?_)
        show m_wp en _ mSc_tickBy 147 [some (.ref X), some (.int (m_i (k))), some (.int (m_i (v)))] [] (T, m_I K5, P, L, z, w) Q
        refine r_con eSc_tickBy_147 ?_
        refine r_zret eSc_tickBy_148 rfl (by first | exact Or.inl rfl | exact Or.inr rfl | omega) ?_
        have h9 := h2 (by omega) (by omega)
        unfold cl_tk cl_t6 cl_t5 cl_t4 cl_t3 at h9
        first | (rw [if_pos (by omega)] at h9; rw [e5, e107, e93, e78, e48]; exact h9) | (rw [if_neg (by omega)] at h9; rw [e5, e107, e93, e78, e48]; exact h9)
      · refine r_aln eSc_tickBy_127 rfl ?_
        refine m_getR eSc_tickBy_128 rfl (cl_t hX (i := 0) rfl) (cl_p hX (i := 2) rfl) ?_
        refine r_dupr eSc_tickBy_131 ?_
        refine r_gete (x := K107 (X + 30) 4) eSc_tickBy_132 rfl (by decide) (cl_t hX (i := 30) rfl) (by rw [m_up_at, if_neg (by omega)]) ?_
        refine r_con eSc_tickBy_135 ?_
        refine r_add eSc_tickBy_136 ?_
        refine r_put eSc_tickBy_137 rfl (cl_t hX (i := 30) rfl) (cl_e hX 30) (Or.inl rfl) ?_
        refine r_aln eSc_tickBy_140 rfl ?_
        refine m_getR eSc_tickBy_141 rfl (cl_t hX (i := 0) rfl) (cl_p hX (i := 7) rfl) ?_
        refine r_vir eSc_tickBy_144 rfl rfl rfl (cl_t hX (i := 132) rfl) rfl rfl ?_
        refine k_Wa_moved hX (fun K5 e5 => ?_)
        show m_wp en _ mSc_tickBy 147 [some (.ref X), some (.int (m_i (k))), some (.int (m_i (v)))] [] (T, m_I K5, P, L, z, w) Q
        refine r_con eSc_tickBy_147 ?_
        refine r_zret eSc_tickBy_148 rfl (by first | exact Or.inl rfl | exact Or.inr rfl | omega) ?_
        have h9 := h2 (by omega) (by omega)
        unfold cl_tk cl_t6 cl_t5 cl_t4 cl_t3 at h9
        first | (rw [if_pos (by omega)] at h9; rw [e5, e107, e93, e78, e48]; exact h9) | (rw [if_neg (by omega)] at h9; rw [e5, e107, e93, e78, e48]; exact h9)
    · refine r_con eSc_tickBy_68 ?_
      refine r_zret eSc_tickBy_69 rfl (by first | exact Or.inl rfl | exact Or.inr rfl | omega) ?_
      rw [e48]
      exact h1 (by omega) (by omega)
  · refine r_con eSc_tickBy_13 ?_
    refine r_zret eSc_tickBy_14 rfl (by first | exact Or.inl rfl | exact Or.inr rfl | omega) ?_
    exact h0 (by omega)
end SCV
