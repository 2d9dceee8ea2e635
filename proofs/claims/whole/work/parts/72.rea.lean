/-! walks, reach, safe of the reference -/
section MDWK
variable {en : Nat → Nat} {d : Nat} {T : Nat → Option (Nat × Nat)} {J J0 J1 : Nat → Nat → Int} {P : Nat → Nat → Option Nat} {L : Nat → Nat → Int64} {z w M : Nat} {Q : m_Q} {σ : a_S}
theorem l_Md_wk_body (hM : md_sh en M T P) (ok : a_ok (md_cf J M)) {k c : Int} (hk : 0 ≤ k ∧ k < 38880) (hc : 0 ≤ c ∧ c < 9) {r f : Int} {τ : a_S} (er : J (M + 21) k.toNat = r) (ef : J (M + 20) r.toNat = f) (eτ : a_step (a_of r) c 0 = τ) (hr : 0 ≤ r ∧ r < 38880) (hf : 0 ≤ f ∧ f < 29999) (hft : ∀ i : Nat, i < 38880 → 0 ≤ J (M + 20) i ∧ J (M + 20) i ≤ 30000)
    (hroom : a_is (md_cf J M) τ = true → f + 1 < J (M + 20) (a_no τ).toNat → 0 ≤ J M 42 ∧ J M 42 < 38880)
    (h1 : ¬ a_is (md_cf J M) τ = true → m_wp en (d + 4) mMd_walks 107 [some (.ref M), some (.int (m_i k)), some (.int (m_i c))] [] (T, m_I (md_put J M τ), P, L, z, w) Q)
    (h2 : a_is (md_cf J M) τ = true → J (M + 20) (a_no τ).toNat ≤ f + 1 → m_wp en (d + 4) mMd_walks 107 [some (.ref M), some (.int (m_i k)), some (.int (m_i c))] [] (T, m_I (md_put J M τ), P, L, z, w) Q)
    (h3 : a_is (md_cf J M) τ = true → f + 1 < J (M + 20) (a_no τ).toNat → m_wp en (d + 4) mMd_walks 107 [some (.ref M), some (.int (m_i k)), some (.int (m_i c))] [] (T, m_I (md_add (md_put J M τ) M (a_no τ) (f + 1)), P, L, z, w) Q) :
    m_wp en (d + 4) mMd_walks 63 [some (.ref M), some (.int (m_i k)), some (.int (m_i c))] [] (T, m_I J, P, L, z, w) Q := by
  have ht0 := a_of_t hr.1 (show r < 100000 by omega)
  have hd0 := ht0.2.2.2.2
  have sm : a_sm τ := by rw [← eτ]; exact a_step_sm ht0 hc (by omega)
  have hb01 := a_b_01 (a_is (md_cf J M) τ)
  have hN : a_is (md_cf J M) τ = true → 0 ≤ a_no τ ∧ a_no τ < 38880 := fun q => a_no_bd (a_is_bx ok q)
  refine r_aln eMd_walks_63 rfl ?_
  refine r_aln eMd_walks_64 rfl ?_
  refine m_getR eMd_walks_65 rfl hM.2.1 (md_line_p hM) ?_
  refine r_iln eMd_walks_68 rfl ?_
  refine r_ialde (x := J (M + 21) ((k).toNat)) eMd_walks_69 (md_line_t hM) (by decide) (by omega) (by omega) rfl ?_
  rw [er]
  refine r_vir eMd_walks_70 rfl rfl rfl hM.2.1 rfl rfl ?_
  refine c_Md_lays hM (by omega) (by omega) ?_
  show m_wp en _ mMd_walks 73 [some (.ref M), some (.int (m_i (k))), some (.int (m_i (c)))] [] (T, m_I ((md_put J M (a_of r))), P, L, z, w) Q
  refine r_aln eMd_walks_73 rfl ?_
  refine r_iln eMd_walks_74 rfl ?_
  refine r_con eMd_walks_75 ?_
  refine r_vir eMd_walks_76 rfl rfl rfl hM.2.1 rfl rfl ?_
  refine s_Md_steps hM (by omega) (by omega) ⟨by omega, by omega⟩ ?_
  show m_wp en _ mMd_walks 79 [some (.ref M), some (.int (m_i (k))), some (.int (m_i (c)))] [] (T, m_I ((md_put J M (a_step ((a_of r)) c 0))), P, L, z, w) Q
  rw [eτ]
  refine r_aln eMd_walks_79 rfl ?_
  refine r_vir eMd_walks_80 rfl rfl rfl hM.2.1 rfl rfl ?_
  refine s_Md_isState hM ok sm ?_
  show m_wp en _ mMd_walks 83 [some (.ref M), some (.int (m_i (k))), some (.int (m_i (c)))] [(.int (m_i (a_b (a_is (md_cf J M) τ))))] (T, m_I ((md_put J M τ)), P, L, z, w) Q
  refine r_zeq (tgt := 107) eMd_walks_83 rfl ⟨(by omega), (by omega)⟩ (fun c83 => ?_) (fun c83 => ?_)
  · first | exact h1 (fun q => by rw [a_b_t q] at c83; omega) | exact h2 his hA | exact h3 his hA
  · have his : a_is (md_cf J M) τ = true := Classical.byContradiction (fun q => c83 (a_b_f q))
    refine r_aln eMd_walks_86 rfl ?_
    refine r_aln eMd_walks_87 rfl ?_
    refine r_vir eMd_walks_88 rfl rfl rfl hM.2.1 rfl rfl ?_
    refine s_Md_laid hM ?_
    show m_wp en _ mMd_walks 91 [some (.ref M), some (.int (m_i (k))), some (.int (m_i (c)))] [(.int (m_i (a_no τ))), (.ref M)] (T, m_I ((md_put J M τ)), P, L, z, w) Q
    refine r_aln eMd_walks_91 rfl ?_
    refine m_getR eMd_walks_92 rfl hM.2.1 (md_far_p hM) ?_
    refine r_aln eMd_walks_95 rfl ?_
    refine m_getR eMd_walks_96 rfl hM.2.1 (md_line_p hM) ?_
    refine r_iln eMd_walks_99 rfl ?_
    refine r_ialde (x := J (M + 21) ((k).toNat)) eMd_walks_100 (md_line_t hM) (by decide) (by omega) (by omega) (by simp [m_up, md_put_at, m_fl]) ?_
    rw [er]
    refine r_salde (x := J (M + 20) ((r).toNat)) eMd_walks_101 (md_far_t hM) (by decide) (by omega) (by omega) (by simp [m_up, md_put_at, m_fl]) ?_
    rw [ef]
    refine r_con eMd_walks_102 ?_
    refine r_add eMd_walks_103 ?_
    refine r_vir eMd_walks_104 rfl rfl rfl hM.2.1 rfl rfl ?_
    refine c_Md_adds hM (hN his) (by omega) ?_ ?_ (fun hA => ?_) (fun hA => ?_)
    · rw [md_put_o J M _ (by omega)]; exact hft _ (by have := hN his; omega)
    · intro q; rw [md_put_f J M _ (by omega)]; rw [md_put_o J M _ (by omega)] at q; exact hroom his q
    · rw [md_put_o J M _ (by omega)] at hA
      show m_wp en _ mMd_walks 107 [some (.ref M), some (.int (m_i (k))), some (.int (m_i (c)))] [] (T, m_I ((md_put J M τ)), P, L, z, w) Q
      first | exact h1 (fun q => by rw [a_b_t q] at c83; omega) | exact h2 his hA | exact h3 his hA
    · rw [md_put_o J M _ (by omega)] at hA
      show m_wp en _ mMd_walks 107 [some (.ref M), some (.int (m_i (k))), some (.int (m_i (c)))] [] (T, m_I ((md_add ((md_put J M τ)) M (a_no τ) ((f) + (1)))), P, L, z, w) Q
      first | exact h1 (fun q => by rw [a_b_t q] at c83; omega) | exact h2 his hA | exact h3 his hA
theorem l_Md_walks1 (hM : md_sh en M T P) (ok : a_ok (md_cf J0 M)) {n0 : Int} {k : Nat} (hbd : ∀ t n, b_D (fun x => x = n0) (s_F (md_cf J0 M)) t n → (∀ t', b_D (fun x => x = n0) (s_F (md_cf J0 M)) t' n → t ≤ t') → t < 29999)
    (hk : ∀ (J : Nat → Nat → Int) (o : Option Value), md_fs J0 J M → rw_ok J M → b_I (fun x => x = n0) (s_F (md_cf J0 M)) (rf J M) (rq J M) (J M 42).toNat (k + 1) → m_wp en (d + 4) mMd_walks 47 [some (.ref M), some (.int (m_i ((k + 1 : Nat) : Int))), o] [] (T, m_I J, P, L, z, w) Q) :
    ∀ (n : Nat) (c : Int) (J : Nat → Nat → Int), c + n = 9 → 0 ≤ c → md_fs J0 J M → rc_I (fun x => x = n0) (s_F (md_cf J0 M)) (fun x c => a_is (md_cf J0 M) (a_step (a_of x) c 0) = true) (fun x c => a_no (a_step (a_of x) c 0)) J M k c →
      m_wp en (d + 4) mMd_walks 57 [some (.ref M), some (.int (m_i (k : Int))), some (.int (m_i c))] [] (T, m_I J, P, L, z, w) Q := by
  intro n
  induction n with
  | zero =>
    intro c J hc h0 hfx hI
    obtain rfl : c = 9 := by omega
    have r2 := hI.1.2.1
    have hkm := hI.2.2.1
    obtain ⟨e1, e2⟩ := rc_end hI (fun n m h => by obtain ⟨c, c1, c2, c3⟩ := h; exact ⟨c, c1, c2, c3⟩)
    refine r_iln eMd_walks_57 rfl ?_
    refine r_bip eMd_walks_58 (by decide) ?_
    refine r_cge (tgt := 113) eMd_walks_60 rfl ⟨(by omega), (by omega)⟩ ⟨(by omega), (by omega)⟩ (fun c60 => ?_) (fun c60 => ?_)
    · refine r_inc (ls' := [some (.ref M), some (.int (m_i ((k : Int) + 1))), some (.int (m_i (9)))]) eMd_walks_113 rfl rfl ?_
      refine r_go (tgt := 47) eMd_walks_116 rfl ?_
      exact hk J _ hfx e1 e2
    · exfalso; omega
  | succ n ih =>
    intro c J hc h0 hfx hI
    have r2 := hI.1.2.1
    have hkm := hI.2.2.1
    have okJ : a_ok (md_cf J M) := by rw [hfx.cf]; exact ok
    obtain ⟨hr, hf0, hf1⟩ := rc_far hI hbd
    have erq : J (M + 21) (k : Int).toNat = rq J M k := by rw [Int.toNat_natCast]; rfl
    have st : ∀ J' : Nat → Nat → Int, m_wp en (d + 4) mMd_walks 57 [some (.ref M), some (.int (m_i (k : Int))), some (.int (m_i (c + 1)))] [] (T, m_I J', P, L, z, w) Q → m_wp en (d + 4) mMd_walks 107 [some (.ref M), some (.int (m_i (k : Int))), some (.int (m_i c))] [] (T, m_I J', P, L, z, w) Q := by
      intro J' h
      refine r_inc (ls' := [some (.ref M), some (.int (m_i ((k : Int)))), some (.int (m_i (c + 1)))]) eMd_walks_107 rfl rfl ?_
      refine r_go (tgt := 57) eMd_walks_110 rfl ?_
      exact h
    have hNb : a_is (md_cf J M) (a_step (a_of (rq J M k)) c 0) = true → 0 ≤ a_no (a_step (a_of (rq J M k)) c 0) ∧ a_no (a_step (a_of (rq J M k)) c 0) < 38880 := fun q => a_no_bd (a_is_bx okJ q)
    have body : m_wp en (d + 4) mMd_walks 63 [some (.ref M), some (.int (m_i (k : Int))), some (.int (m_i c))] [] (T, m_I J, P, L, z, w) Q := by
      refine l_Md_wk_body hM okJ (by omega) (by omega) erq rfl rfl hr ⟨hf0, hf1⟩ hI.1.1 (fun his hlt => (rc_new hI (hNb his) hlt).2) (fun hn => st _ ?_) (fun his hle => st _ ?_) (fun his hgt => st _ ?_)
      · exact ih (c + 1) _ (by omega) (by omega) (hfx.put _) (rc_put _ (rc_skip hI (by rw [← hfx.cf]; exact hn)))
      · exact ih (c + 1) _ (by omega) (by omega) (hfx.put _) (rc_put _ (rc_old hI (hNb his) hle hf1))
      · have hI2 := rc_put (a_step (a_of (rq J M k)) c 0) hI
        have e20 : md_put J M (a_step (a_of (rq J M k)) c 0) (M + 20) = J (M + 20) := md_put_r J M _ (by omega)
        have a := (rc_add hI2 (by rw [rq_put]; exact ⟨c, by omega, by rw [← hfx.cf]; exact his, rfl⟩) (by rw [rq_put]; exact hNb his) (by rw [rq_put, e20]; exact hgt) (by rw [rq_put, e20]; exact hf1)).1
        rw [rq_put, e20] at a
        exact ih (c + 1) _ (by omega) (by omega) ((hfx.put _).add _ _) a
    refine r_iln eMd_walks_57 rfl ?_
    refine r_bip eMd_walks_58 (by decide) ?_
    refine r_cge (tgt := 113) eMd_walks_60 rfl ⟨(by omega), (by omega)⟩ ⟨(by omega), (by omega)⟩ (fun c60 => ?_) (fun c60 => ?_)
    · exfalso; omega
    · exact body
theorem l_Md_walks2 (hM : md_sh en M T P) (ok : a_ok (md_cf J0 M)) {n0 : Int} (hbd : ∀ t n, b_D (fun x => x = n0) (s_F (md_cf J0 M)) t n → (∀ t', b_D (fun x => x = n0) (s_F (md_cf J0 M)) t' n → t ≤ t') → t < 29999)
    (hq : ∀ (J : Nat → Nat → Int), md_fs J0 J M → rw_ok J M → b_I (fun x => x = n0) (s_F (md_cf J0 M)) (rf J M) (rq J M) (J M 42).toNat (J M 42).toNat → Q none (T, m_I J, P, L, z, w)) :
    ∀ (n k : Nat) (J : Nat → Nat → Int) (o : Option Value), k + n = 38881 → md_fs J0 J M → rw_ok J M → b_I (fun x => x = n0) (s_F (md_cf J0 M)) (rf J M) (rq J M) (J M 42).toNat k →
      m_wp en (d + 4) mMd_walks 47 [some (.ref M), some (.int (m_i (k : Int))), o] [] (T, m_I J, P, L, z, w) Q := by
  intro n
  induction n with
  | zero =>
    intro k J o hk hfx rok hI
    have h1 := hI.2.2.2.2.2.2.2
    have r2 := rok.2.1
    exfalso
    omega
  | succ n ih =>
    intro k J o hk hfx rok hI
    have h1 := hI.2.2.2.2.2.2.2
    have r2 := rok.2.1
    have hin : k < (J M 42).toNat → m_wp en (d + 4) mMd_walks 57 [some (.ref M), some (.int (m_i (k : Int))), some (.int (m_i 0))] [] (T, m_I J, P, L, z, w) Q := fun hkm =>
      l_Md_walks1 hM ok hbd (fun J' o' f1 f2 f3 => ih (k + 1) J' o' (by omega) f1 f2 f3) 9 0 J (by omega) (by omega) hfx (rc_beg rok hI hkm)
    refine r_iln eMd_walks_47 rfl ?_
    refine r_aln eMd_walks_48 rfl ?_
    refine r_gete (x := J M 42) eMd_walks_49 rfl (by decide) hM.2.1 rfl ?_
    refine r_cge (tgt := 119) eMd_walks_52 rfl ⟨(by omega), (by omega)⟩ ⟨(by omega), (by omega)⟩ (fun c52 => ?_) (fun c52 => ?_)
    · refine r_ret eMd_walks_119 rfl ?_
      refine hq J hfx rok ?_
      have e : k = (J M 42).toNat := by omega
      rw [← e] at hI ⊢
      exact hI
    · refine r_con eMd_walks_55 ?_
      refine r_isn (ls' := [some (.ref M), some (.int (m_i ((k : Int)))), some (.int (m_i (0)))]) eMd_walks_56 (Nat.le_of_ble_eq_true rfl) rfl ?_
      exact hin (by omega)
theorem l_Md_walks3 (hM : md_sh en M T P) {o2 : Option Value}
    (hnext : m_wp en d mMd_walks 34 [some (.ref M), some (.int (m_i 38880)), o2] [] (T, m_I (m_fl J1 (M + 20) 0 (fun _ => 30000) 38880), P, L, z, w) Q) :
    ∀ (n : Nat) (k : Int), k + n = 38880 → 0 ≤ k → m_wp en d mMd_walks 13 [some (.ref M), some (.int (m_i k)), o2] [] (T, m_I (m_fl J1 (M + 20) 0 (fun _ => 30000) k), P, L, z, w) Q := by
  intro n
  induction n with
  | zero =>
    intro k hk h0
    obtain rfl : k = 38880 := by omega
    refine r_iln eMd_walks_13 rfl ?_
    refine r_ldc (x := 38880) eMd_walks_14 rfl (by decide) ?_
    refine r_cge (tgt := 34) eMd_walks_16 rfl ⟨(by omega), (by omega)⟩ ⟨(by omega), (by omega)⟩ (fun c16 => ?_) (fun c16 => ?_)
    · exact hnext
    · exfalso; omega
  | succ n ih =>
    intro k hk h0
    refine r_iln eMd_walks_13 rfl ?_
    refine r_ldc (x := 38880) eMd_walks_14 rfl (by decide) ?_
    refine r_cge (tgt := 34) eMd_walks_16 rfl ⟨(by omega), (by omega)⟩ ⟨(by omega), (by omega)⟩ (fun c16 => ?_) (fun c16 => ?_)
    · exfalso; omega
    · refine r_aln eMd_walks_19 rfl ?_
      refine m_getR eMd_walks_20 rfl hM.2.1 (md_far_p hM) ?_
      refine r_iln eMd_walks_23 rfl ?_
      refine r_sip eMd_walks_24 (by decide) ?_
      refine r_sast eMd_walks_27 (md_far_t hM) (by decide) (by omega) (by omega) (md_b hM 20) (m_s16_id ⟨(by omega), (by omega)⟩) ?_
      refine r_inc (ls' := [some (.ref M), some (.int (m_i (k + 1))), o2]) eMd_walks_28 rfl rfl ?_
      refine r_go (tgt := 13) eMd_walks_31 rfl ?_
      refine Eq.mp ?_ (ih (k + 1) (by omega) (by omega))
      rw [m_fl_s h0 (by omega) rfl]
/-- the heap where a search is begun -/
def md_e0 (J : Nat → Nat → Int) (M : Nat) : Nat → Nat → Int := m_fl (m_up (m_up J M 40 (-2)) M 42 0) (M + 20) 0 (fun _ => 30000) 38880
theorem md_e0_20 (J : Nat → Nat → Int) (M : Nat) (i : Nat) (hi : i < 38880) : md_e0 J M (M + 20) i = 30000 := m_fl_i (by omega)
theorem md_e0_42 (J : Nat → Nat → Int) (M : Nat) : md_e0 J M M 42 = 0 := by
  unfold md_e0
  rw [m_fl_o (by omega)]
  exact m_up_same
theorem md_e0_fs (J : Nat → Nat → Int) (M : Nat) : md_fs (m_up J M 40 (-2)) (md_e0 J M) M := fun b i a1 a2 a3 => by
  unfold md_e0
  rw [m_fl_o a1, m_up_at, if_neg (by omega)]
theorem md_40_fx (J : Nat → Nat → Int) (M : Nat) : md_fx J (m_up J M 40 (-2)) M := fun b i _ _ a3 => by rw [m_up_at, if_neg (by omega)]
theorem md_fs.m2 {J J1 : Nat → Nat → Int} {M : Nat} (h : md_fs (m_up J M 40 (-2)) J1 M) : md_fx J J1 M ∧ J1 M 40 = -2 ∧ J1 M 41 = J M 41 := ⟨(md_40_fx J M).trans h.fx, by rw [h M 40 (by omega) (by omega) (by omega)]; exact m_up_same, by rw [h M 41 (by omega) (by omega) (by omega), m_up_at, if_neg (by omega)]⟩
theorem c_Md_walks (hM : md_sh en M T P) (ok : a_ok (md_cf J M)) (hn : 0 ≤ J (M + 22) 0 ∧ J (M + 22) 0 < 38880) (h0 : a_why (md_cf J M) (a_of (J (M + 22) 0)) = 0)
    (hq : ∀ (J1 : Nat → Nat → Int), md_fx J J1 M → J1 M 40 = -2 ∧ J1 M 41 = J M 41 → rw_ok J1 M → b_I (fun x => x = J (M + 22) 0) (s_F (md_cf J M)) (rf J1 M) (rq J1 M) (J1 M 42).toNat (J1 M 42).toNat → Q none (T, m_I J1, P, L, z, w)) : m_call en (d + 5) mMd_walks [.ref M] (T, m_I J, P, L, z, w) Q := by
  have f0 := md_40_fx J M
  have e22 : md_e0 J M (M + 22) 0 = J (M + 22) 0 := (md_e0_fs J M _ _ (by omega) (by omega) (by omega)).trans (by rw [m_up_at, if_neg (by omega)])
  have h34 : m_wp en (d + 4) mMd_walks 34 [some (.ref M), some (.int (m_i 38880)), none] [] (T, m_I (md_e0 J M), P, L, z, w) Q := by
    refine r_aln eMd_walks_34 rfl ?_
    refine r_aln eMd_walks_35 rfl ?_
    refine m_getR eMd_walks_36 rfl hM.2.1 (md_s_p hM) ?_
    refine r_con eMd_walks_39 ?_
    refine r_ialde (x := (md_e0 J M) (M + 22) 0) eMd_walks_40 (md_s_t hM) (by decide) (by omega) (by omega) rfl ?_
    rw [e22]
    refine r_con eMd_walks_41 ?_
    refine r_vir eMd_walks_42 rfl rfl rfl hM.2.1 rfl rfl ?_
    refine c_Md_adds hM hn (by omega) (by rw [md_e0_20 J M _ (by omega)]; omega) (fun _ => by rw [md_e0_42]; omega) (fun hA => ?_) (fun hA => ?_)
    · exfalso
      rw [md_e0_20 J M _ (by omega)] at hA
      omega
    · show m_wp en _ mMd_walks 45 [some (.ref M), some (.int (m_i (38880))), none] [] (T, m_I ((md_add ((md_e0 J M)) M (J (M + 22) 0) 0)), P, L, z, w) Q
      refine r_con eMd_walks_45 ?_
      refine r_isn (ls' := [some (.ref M), some (.int (m_i (0))), none]) eMd_walks_46 (Nat.le_of_ble_eq_true rfl) rfl ?_
      obtain ⟨g1, g2⟩ := rc_one (E := s_F (md_cf J M)) hn (md_e0_20 J M) (md_e0_42 J M)
      refine l_Md_walks2 (J0 := m_up J M 40 (-2)) hM (by rw [f0.cf]; exact ok) (by rw [f0.cf]; exact s_F_bound ok h0) (fun J1 a1 a2 a3 => hq J1 a1.m2.1 a1.m2.2 a2 (by rw [f0.cf] at a3; exact a3)) 38881 0 _ _ (by omega) ((md_e0_fs J M).add _ _) g1 (by rw [f0.cf]; exact g2)
  refine m_into (by decide) (Nat.le_of_ble_eq_true rfl) rfl ?_
  show m_wp en _ mMd_walks 0 [some (.ref M), none, none] [] (T, m_I J, P, L, z, w) Q
  refine r_aln eMd_walks_0 rfl ?_
  refine r_bip eMd_walks_1 (by decide) ?_
  refine r_put eMd_walks_3 rfl hM.2.1 hM.1 (Or.inl rfl) ?_
  refine r_aln eMd_walks_6 rfl ?_
  refine r_con eMd_walks_7 ?_
  refine r_put eMd_walks_8 rfl hM.2.1 hM.1 (Or.inl rfl) ?_
  refine r_con eMd_walks_11 ?_
  refine r_isn (ls' := [some (.ref M), some (.int (m_i (0))), none]) eMd_walks_12 (Nat.le_of_ble_eq_true rfl) rfl ?_
  have h := l_Md_walks3 (d := d + 4) (z := z) (w := w) (L := L) (P := P) (Q := Q) (J1 := ((m_up (m_up J M 40 ((-2))) M 42 (0)))) (o2 := none) hM h34 38880 0 (by omega) (by omega)
  rw [m_fl_0] at h
  exact h
end MDWK
/-- forward: fewest steps from n0 to n -/
def s_fw (C : a_C) (n0 n r : Int) : Prop := (r = -2 ∧ ∀ t, ¬ b_D (fun x => x = n0) (s_F C) t n) ∨ ∃ t : Nat, r = (t : Int) ∧ b_D (fun x => x = n0) (s_F C) t n ∧ ∀ t', b_D (fun x => x = n0) (s_F C) t' n → t ≤ t'
theorem s_fw_of {C : a_C} {J1 : Nat → Nat → Int} {M : Nat} {n0 n : Int} (rok : rw_ok J1 M) (hI : b_I (fun x => x = n0) (s_F C) (rf J1 M) (rq J1 M) (J1 M 42).toNat (J1 M 42).toNat) (hn : 0 ≤ n ∧ n < 38880) : s_fw C n0 n (if J1 (M + 20) n.toNat = 30000 then -2 else J1 (M + 20) n.toNat) := by
  by_cases hf : J1 (M + 20) n.toNat = 30000
  · rw [if_pos hf]
    refine Or.inl ⟨rfl, fun t ht => ?_⟩
    obtain ⟨n', a, -⟩ := b_all hI rfl ht
    exact (rf_inv a).2.1 hf
  · rw [if_neg hf]
    have h1 := b_exact hI (rf_some hn hf)
    have hb := rok.1 n.toNat (by omega)
    exact Or.inr ⟨(J1 (M + 20) n.toNat).toNat, by omega, h1.1, h1.2⟩
/-- one still state is counted: how many, to how many there is a way, the most steps -/
def s_rst (C : a_C) (n0 nw x e : Int) (u r : Int × Int × Int) : Prop := (¬ a_is C (x, 0, 0, 0, e) = true ∧ r = u) ∨ (a_is C (x, 0, 0, 0, e) = true ∧ (nw = 0 ∨ s_fw C n0 (a_no (x, 0, 0, 0, e)) (-2)) ∧ r = (u.1 + 1, u.2.1, u.2.2)) ∨ (a_is C (x, 0, 0, 0, e) = true ∧ nw ≠ 0 ∧ ∃ t, 0 ≤ t ∧ s_fw C n0 (a_no (x, 0, 0, 0, e)) t ∧ r = (u.1 + 1, u.2.1 + 1, a_gt t u.2.2))
def s_rc1 (C : a_C) (n0 nw x : Int) : Nat → Int × Int × Int → Int × Int × Int → Prop
  | 0, u, r => r = u
  | k + 1, u, r => ∃ v, s_rc1 C n0 nw x k u v ∧ s_rst C n0 nw x ((k : Int) + 1) v r
def s_rc2 (C : a_C) (n0 nw : Int) : Nat → Int × Int × Int → Prop
  | 0, r => r = (0, 0, -2)
  | k + 1, r => ∃ u, s_rc2 C n0 nw k u ∧ s_rc1 C n0 nw (k : Int) C.2.1.toNat u r
section MDRE
variable {en : Nat → Nat} {d : Nat} {T : Nat → Option (Nat × Nat)} {J J0 J1 : Nat → Nat → Int} {P : Nat → Nat → Option Nat} {L : Nat → Nat → Int64} {z w M : Nat} {Q : m_Q} {σ : a_S}
theorem l_Md_rea1 (hM : md_sh en M T P) (ok : a_ok (md_cf J1 M)) {what nw n0 x : Int} {u : Int × Int × Int} (hx : 0 ≤ x ∧ x < 16) (hnw : nw = 0 ∨ nw = 1) (hfw : nw ≠ 0 → ∀ n : Int, 0 ≤ n ∧ n < 38880 → s_fw (md_cf J1 M) n0 n (if J1 (M + 20) n.toNat = 30000 then -2 else J1 (M + 20) n.toNat) ∧ 0 ≤ J1 (M + 20) n.toNat ∧ J1 (M + 20) n.toNat ≤ 30000)
    (hnext : ∀ (v : Int × Int × Int) (σ : a_S) (o : Option Value), s_rc1 (md_cf J1 M) n0 nw x (J1 (M + 2) 1).toNat u v → (-2 ≤ v.2.2 ∧ v.2.2 ≤ 30000) → m_wp en (d + 5) mMd_reach 49 [some (.ref M), some (.int (m_i what)), some (.int (m_i nw)), some (.int (m_i v.1)), some (.int (m_i v.2.1)), some (.int (m_i v.2.2)), some (.int (m_i (x + 1))), o] [] (T, m_I (md_put J1 M σ), P, L, z, w) Q) :
    ∀ (m k : Nat) (v : Int × Int × Int) (σ : a_S), (k : Int) + m = J1 (M + 2) 1 → s_rc1 (md_cf J1 M) n0 nw x k u v → (-2 ≤ v.2.2 ∧ v.2.2 ≤ 30000) → m_wp en (d + 5) mMd_reach 63 [some (.ref M), some (.int (m_i what)), some (.int (m_i nw)), some (.int (m_i v.1)), some (.int (m_i v.2.1)), some (.int (m_i v.2.2)), some (.int (m_i x)), some (.int (m_i ((k : Int) + 1)))] [] (T, m_I (md_put J1 M σ), P, L, z, w) Q := by
  have k2 : 2 ≤ J1 (M + 2) 1 ∧ J1 (M + 2) 1 ≤ 6 := ok.2.1
  intro m
  induction m with
  | zero =>
    intro k v σ hk hr hb
    have e : (J1 (M + 2) 1).toNat = k := by omega
    refine r_il eMd_reach_63 rfl ?_
    refine r_aln eMd_reach_65 rfl ?_
    refine m_getR eMd_reach_66 rfl hM.2.1 (md_number_p hM) ?_
    refine r_con eMd_reach_69 ?_
    refine r_ialde (x := J1 (M + 2) 1) eMd_reach_70 (md_number_t hM) (by decide) (by omega) (by omega) (by simp [m_up, md_put_at, m_fl]) ?_
    refine r_cgt (tgt := 168) eMd_reach_71 rfl ⟨(by omega), (by omega)⟩ ⟨(by omega), (by omega)⟩ (fun c71 => ?_) (fun c71 => ?_)
    · refine r_inc (ls' := [some (.ref M), some (.int (m_i (what))), some (.int (m_i (nw))), some (.int (m_i (v.1))), some (.int (m_i (v.2.1))), some (.int (m_i (v.2.2))), some (.int (m_i (x + 1))), some (.int (m_i ((k : Int) + 1)))]) eMd_reach_168 rfl rfl ?_
      refine r_go (tgt := 49) eMd_reach_171 rfl ?_
      exact hnext v σ _ (by rw [e]; exact hr) hb
    · exfalso; omega
  | succ m ih =>
    intro k v σ hk hr hb
    have hbx := a_still_bx (x := x) (e := (k : Int) + 1) (by omega) (by omega)
    have hN := a_no_bd hbx
    have hof := a_of_no hbx
    have hb01 := a_b_01 (a_is (md_cf J1 M) (a_of (a_no (x, 0, 0, 0, (k : Int) + 1))))
    have nos : a_b (a_is (md_cf J1 M) (a_of (a_no (x, 0, 0, 0, (k : Int) + 1)))) = 0 → ¬ a_is (md_cf J1 M) (x, 0, 0, 0, (k : Int) + 1) = true := fun q q2 => by
      rw [hof, a_b_t q2] at q
      omega
    have yes : ¬ a_b (a_is (md_cf J1 M) (a_of (a_no (x, 0, 0, 0, (k : Int) + 1)))) = 0 → a_is (md_cf J1 M) (x, 0, 0, 0, (k : Int) + 1) = true := fun q => by
      rw [hof] at q
      exact Classical.byContradiction (fun q2 => q (a_b_f q2))
    refine r_il eMd_reach_63 rfl ?_
    refine r_aln eMd_reach_65 rfl ?_
    refine m_getR eMd_reach_66 rfl hM.2.1 (md_number_p hM) ?_
    refine r_con eMd_reach_69 ?_
    refine r_ialde (x := J1 (M + 2) 1) eMd_reach_70 (md_number_t hM) (by decide) (by omega) (by omega) (by simp [m_up, md_put_at, m_fl]) ?_
    refine r_cgt (tgt := 168) eMd_reach_71 rfl ⟨(by omega), (by omega)⟩ ⟨(by omega), (by omega)⟩ (fun c71 => ?_) (fun c71 => ?_)
    · exfalso; omega
    · refine r_aln eMd_reach_74 rfl ?_
      refine r_aln eMd_reach_75 rfl ?_
      refine r_il eMd_reach_76 rfl ?_
      refine r_il eMd_reach_78 rfl ?_
      refine r_vir eMd_reach_80 rfl rfl rfl hM.2.1 rfl rfl ?_
      refine c_Md_still hM ?_
      show m_wp en _ mMd_reach 83 [some (.ref M), some (.int (m_i (what))), some (.int (m_i (nw))), some (.int (m_i (v.1))), some (.int (m_i (v.2.1))), some (.int (m_i (v.2.2))), some (.int (m_i (x))), some (.int (m_i ((k : Int) + 1)))] [(.int (m_i (a_no (x, 0, 0, 0, ((k : Int) + 1))))), (.ref M)] (T, m_I ((md_put J1 M σ)), P, L, z, w) Q
      refine r_vir eMd_reach_83 rfl rfl rfl hM.2.1 rfl rfl ?_
      refine s_Md_doesStand hM ok (by omega) (by omega) ?_
      show m_wp en _ mMd_reach 86 [some (.ref M), some (.int (m_i (what))), some (.int (m_i (nw))), some (.int (m_i (v.1))), some (.int (m_i (v.2.1))), some (.int (m_i (v.2.2))), some (.int (m_i (x))), some (.int (m_i ((k : Int) + 1)))] [(.int (m_i (a_b (a_is (md_cf J1 M) (a_of ((a_no (x, 0, 0, 0, ((k : Int) + 1)))))))))] (T, m_I ((md_put J1 M (a_of ((a_no (x, 0, 0, 0, ((k : Int) + 1))))))), P, L, z, w) Q
      refine r_zne (tgt := 92) eMd_reach_86 rfl ⟨(by omega), (by omega)⟩ (fun c86 => ?_) (fun c86 => ?_)
      · refine r_inc (ls' := [some (.ref M), some (.int (m_i (what))), some (.int (m_i (nw))), some (.int (m_i (v.1 + 1))), some (.int (m_i (v.2.1))), some (.int (m_i (v.2.2))), some (.int (m_i (x))), some (.int (m_i ((k : Int) + 1)))]) eMd_reach_92 rfl rfl ?_
        refine r_iln eMd_reach_95 rfl ?_
        refine r_zeq (tgt := 162) eMd_reach_96 rfl ⟨(by omega), (by omega)⟩ (fun c96 => ?_) (fun c96 => ?_)
        · refine r_inc (ls' := [some (.ref M), some (.int (m_i (what))), some (.int (m_i (nw))), some (.int (m_i (v.1 + 1))), some (.int (m_i (v.2.1))), some (.int (m_i (v.2.2))), some (.int (m_i (x))), some (.int (m_i ((k : Int) + 1 + 1)))]) eMd_reach_162 rfl rfl ?_
          refine r_go (tgt := 63) eMd_reach_165 rfl ?_
          first | exact ih (k + 1) v _ (by omega) ⟨v, hr, Or.inl ⟨nos (by omega), rfl⟩⟩ hb | exact ih (k + 1) (v.1 + 1, v.2.1, v.2.2) _ (by omega) ⟨v, hr, Or.inr (Or.inl ⟨yes (by omega), Or.inl (by omega), rfl⟩)⟩ hb | exact ih (k + 1) (v.1 + 1, v.2.1, v.2.2) _ (by omega) ⟨v, hr, Or.inr (Or.inl ⟨yes (by omega), Or.inr (by rw [if_pos (by omega)] at f1; exact f1), rfl⟩)⟩ hb | (rw [if_neg (by omega)] at f1; have eg : a_gt (J1 (M + 20) (a_no (x, 0, 0, 0, (k : Int) + 1)).toNat) v.2.2 = J1 (M + 20) (a_no (x, 0, 0, 0, (k : Int) + 1)).toNat := if_pos (by omega); exact ih (k + 1) (v.1 + 1, v.2.1 + 1, J1 (M + 20) (a_no (x, 0, 0, 0, (k : Int) + 1)).toNat) _ (by omega) ⟨v, hr, Or.inr (Or.inr ⟨yes (by omega), by omega, _, f2.1, f1, by rw [eg]⟩)⟩ f2') | (rw [if_neg (by omega)] at f1; have eg : a_gt (J1 (M + 20) (a_no (x, 0, 0, 0, (k : Int) + 1)).toNat) v.2.2 = v.2.2 := if_neg (by omega); exact ih (k + 1) (v.1 + 1, v.2.1 + 1, v.2.2) _ (by omega) ⟨v, hr, Or.inr (Or.inr ⟨yes (by omega), by omega, _, f2.1, f1, by rw [eg]⟩)⟩ hb)
        · obtain ⟨f1, f2⟩ := hfw (by omega) _ hN
          refine r_aln eMd_reach_99 rfl ?_
          refine m_getR eMd_reach_100 rfl hM.2.1 (md_far_p hM) ?_
          refine r_aln eMd_reach_103 rfl ?_
          refine r_il eMd_reach_104 rfl ?_
          refine r_il eMd_reach_106 rfl ?_
          refine r_vir eMd_reach_108 rfl rfl rfl hM.2.1 rfl rfl ?_
          refine c_Md_still hM ?_
          show m_wp en _ mMd_reach 111 [some (.ref M), some (.int (m_i (what))), some (.int (m_i (nw))), some (.int (m_i (v.1 + 1))), some (.int (m_i (v.2.1))), some (.int (m_i (v.2.2))), some (.int (m_i (x))), some (.int (m_i ((k : Int) + 1)))] [(.int (m_i (a_no (x, 0, 0, 0, ((k : Int) + 1))))), (.ref (M + 20))] (T, m_I ((md_put J1 M (a_of ((a_no (x, 0, 0, 0, ((k : Int) + 1))))))), P, L, z, w) Q
          refine r_salde (x := J1 (M + 20) ((a_no (x, 0, 0, 0, ((k : Int) + 1))).toNat)) eMd_reach_111 (md_far_t hM) (by decide) (by omega) (by omega) (by simp [m_up, md_put_at, m_fl]) ?_
          refine r_sip eMd_reach_112 (by decide) ?_
          refine r_cne (tgt := 121) eMd_reach_115 rfl ⟨(by omega), (by omega)⟩ ⟨(by omega), (by omega)⟩ (fun c115 => ?_) (fun c115 => ?_)
          · have f2' : -2 ≤ J1 (M + 20) (a_no (x, 0, 0, 0, (k : Int) + 1)).toNat ∧ J1 (M + 20) (a_no (x, 0, 0, 0, (k : Int) + 1)).toNat ≤ 30000 := by omega
            refine r_inc (ls' := [some (.ref M), some (.int (m_i (what))), some (.int (m_i (nw))), some (.int (m_i (v.1 + 1))), some (.int (m_i (v.2.1 + 1))), some (.int (m_i (v.2.2))), some (.int (m_i (x))), some (.int (m_i ((k : Int) + 1)))]) eMd_reach_121 rfl rfl ?_
            refine r_aln eMd_reach_124 rfl ?_
            refine m_getR eMd_reach_125 rfl hM.2.1 (md_far_p hM) ?_
            refine r_aln eMd_reach_128 rfl ?_
            refine r_il eMd_reach_129 rfl ?_
            refine r_il eMd_reach_131 rfl ?_
            refine r_vir eMd_reach_133 rfl rfl rfl hM.2.1 rfl rfl ?_
            refine c_Md_still hM ?_
            show m_wp en _ mMd_reach 136 [some (.ref M), some (.int (m_i (what))), some (.int (m_i (nw))), some (.int (m_i (v.1 + 1))), some (.int (m_i (v.2.1 + 1))), some (.int (m_i (v.2.2))), some (.int (m_i (x))), some (.int (m_i ((k : Int) + 1)))] [(.int (m_i (a_no (x, 0, 0, 0, ((k : Int) + 1))))), (.ref (M + 20))] (T, m_I ((md_put J1 M (a_of ((a_no (x, 0, 0, 0, ((k : Int) + 1))))))), P, L, z, w) Q
            refine r_salde (x := J1 (M + 20) ((a_no (x, 0, 0, 0, ((k : Int) + 1))).toNat)) eMd_reach_136 (md_far_t hM) (by decide) (by omega) (by omega) (by simp [m_up, md_put_at, m_fl]) ?_
            refine r_il eMd_reach_137 rfl ?_
            refine r_cle (tgt := 158) eMd_reach_139 rfl ⟨(by omega), (by omega)⟩ ⟨(by omega), (by omega)⟩ (fun c139 => ?_) (fun c139 => ?_)
            · refine r_il eMd_reach_158 rfl ?_
              refine r_is (ls' := [some (.ref M), some (.int (m_i (what))), some (.int (m_i (nw))), some (.int (m_i (v.1 + 1))), some (.int (m_i (v.2.1 + 1))), some (.int (m_i (v.2.2))), some (.int (m_i (x))), some (.int (m_i ((k : Int) + 1)))]) eMd_reach_160 (Nat.le_of_ble_eq_true rfl) rfl ?_
              refine r_inc (ls' := [some (.ref M), some (.int (m_i (what))), some (.int (m_i (nw))), some (.int (m_i (v.1 + 1))), some (.int (m_i (v.2.1 + 1))), some (.int (m_i (v.2.2))), some (.int (m_i (x))), some (.int (m_i ((k : Int) + 1 + 1)))]) eMd_reach_162 rfl rfl ?_
              refine r_go (tgt := 63) eMd_reach_165 rfl ?_
              first | exact ih (k + 1) v _ (by omega) ⟨v, hr, Or.inl ⟨nos (by omega), rfl⟩⟩ hb | exact ih (k + 1) (v.1 + 1, v.2.1, v.2.2) _ (by omega) ⟨v, hr, Or.inr (Or.inl ⟨yes (by omega), Or.inl (by omega), rfl⟩)⟩ hb | exact ih (k + 1) (v.1 + 1, v.2.1, v.2.2) _ (by omega) ⟨v, hr, Or.inr (Or.inl ⟨yes (by omega), Or.inr (by rw [if_pos (by omega)] at f1; exact f1), rfl⟩)⟩ hb | (rw [if_neg (by omega)] at f1; have eg : a_gt (J1 (M + 20) (a_no (x, 0, 0, 0, (k : Int) + 1)).toNat) v.2.2 = J1 (M + 20) (a_no (x, 0, 0, 0, (k : Int) + 1)).toNat := if_pos (by omega); exact ih (k + 1) (v.1 + 1, v.2.1 + 1, J1 (M + 20) (a_no (x, 0, 0, 0, (k : Int) + 1)).toNat) _ (by omega) ⟨v, hr, Or.inr (Or.inr ⟨yes (by omega), by omega, _, f2.1, f1, by rw [eg]⟩)⟩ f2') | (rw [if_neg (by omega)] at f1; have eg : a_gt (J1 (M + 20) (a_no (x, 0, 0, 0, (k : Int) + 1)).toNat) v.2.2 = v.2.2 := if_neg (by omega); exact ih (k + 1) (v.1 + 1, v.2.1 + 1, v.2.2) _ (by omega) ⟨v, hr, Or.inr (Or.inr ⟨yes (by omega), by omega, _, f2.1, f1, by rw [eg]⟩)⟩ hb)
            · refine r_aln eMd_reach_142 rfl ?_
              refine m_getR eMd_reach_143 rfl hM.2.1 (md_far_p hM) ?_
              refine r_aln eMd_reach_146 rfl ?_
              refine r_il eMd_reach_147 rfl ?_
              refine r_il eMd_reach_149 rfl ?_
              refine r_vir eMd_reach_151 rfl rfl rfl hM.2.1 rfl rfl ?_
              refine c_Md_still hM ?_
              show m_wp en _ mMd_reach 154 [some (.ref M), some (.int (m_i (what))), some (.int (m_i (nw))), some (.int (m_i (v.1 + 1))), some (.int (m_i (v.2.1 + 1))), some (.int (m_i (v.2.2))), some (.int (m_i (x))), some (.int (m_i ((k : Int) + 1)))] [(.int (m_i (a_no (x, 0, 0, 0, ((k : Int) + 1))))), (.ref (M + 20))] (T, m_I ((md_put J1 M (a_of ((a_no (x, 0, 0, 0, ((k : Int) + 1))))))), P, L, z, w) Q
              refine r_salde (x := J1 (M + 20) ((a_no (x, 0, 0, 0, ((k : Int) + 1))).toNat)) eMd_reach_154 (md_far_t hM) (by decide) (by omega) (by omega) (by simp [m_up, md_put_at, m_fl]) ?_
              refine r_go (tgt := 160) eMd_reach_155 rfl ?_
              refine r_is (ls' := [some (.ref M), some (.int (m_i (what))), some (.int (m_i (nw))), some (.int (m_i (v.1 + 1))), some (.int (m_i (v.2.1 + 1))), some (.int (m_i (J1 (M + 20) ((a_no (x, 0, 0, 0, ((k : Int) + 1))).toNat)))), some (.int (m_i (x))), some (.int (m_i ((k : Int) + 1)))]) eMd_reach_160 (Nat.le_of_ble_eq_true rfl) rfl ?_
              refine r_inc (ls' := [some (.ref M), some (.int (m_i (what))), some (.int (m_i (nw))), some (.int (m_i (v.1 + 1))), some (.int (m_i (v.2.1 + 1))), some (.int (m_i (J1 (M + 20) ((a_no (x, 0, 0, 0, ((k : Int) + 1))).toNat)))), some (.int (m_i (x))), some (.int (m_i ((k : Int) + 1 + 1)))]) eMd_reach_162 rfl rfl ?_
              refine r_go (tgt := 63) eMd_reach_165 rfl ?_
              first | exact ih (k + 1) v _ (by omega) ⟨v, hr, Or.inl ⟨nos (by omega), rfl⟩⟩ hb | exact ih (k + 1) (v.1 + 1, v.2.1, v.2.2) _ (by omega) ⟨v, hr, Or.inr (Or.inl ⟨yes (by omega), Or.inl (by omega), rfl⟩)⟩ hb | exact ih (k + 1) (v.1 + 1, v.2.1, v.2.2) _ (by omega) ⟨v, hr, Or.inr (Or.inl ⟨yes (by omega), Or.inr (by rw [if_pos (by omega)] at f1; exact f1), rfl⟩)⟩ hb | (rw [if_neg (by omega)] at f1; have eg : a_gt (J1 (M + 20) (a_no (x, 0, 0, 0, (k : Int) + 1)).toNat) v.2.2 = J1 (M + 20) (a_no (x, 0, 0, 0, (k : Int) + 1)).toNat := if_pos (by omega); exact ih (k + 1) (v.1 + 1, v.2.1 + 1, J1 (M + 20) (a_no (x, 0, 0, 0, (k : Int) + 1)).toNat) _ (by omega) ⟨v, hr, Or.inr (Or.inr ⟨yes (by omega), by omega, _, f2.1, f1, by rw [eg]⟩)⟩ f2') | (rw [if_neg (by omega)] at f1; have eg : a_gt (J1 (M + 20) (a_no (x, 0, 0, 0, (k : Int) + 1)).toNat) v.2.2 = v.2.2 := if_neg (by omega); exact ih (k + 1) (v.1 + 1, v.2.1 + 1, v.2.2) _ (by omega) ⟨v, hr, Or.inr (Or.inr ⟨yes (by omega), by omega, _, f2.1, f1, by rw [eg]⟩)⟩ hb)
          · refine r_go (tgt := 162) eMd_reach_118 rfl ?_
            refine r_inc (ls' := [some (.ref M), some (.int (m_i (what))), some (.int (m_i (nw))), some (.int (m_i (v.1 + 1))), some (.int (m_i (v.2.1))), some (.int (m_i (v.2.2))), some (.int (m_i (x))), some (.int (m_i ((k : Int) + 1 + 1)))]) eMd_reach_162 rfl rfl ?_
            refine r_go (tgt := 63) eMd_reach_165 rfl ?_
            first | exact ih (k + 1) v _ (by omega) ⟨v, hr, Or.inl ⟨nos (by omega), rfl⟩⟩ hb | exact ih (k + 1) (v.1 + 1, v.2.1, v.2.2) _ (by omega) ⟨v, hr, Or.inr (Or.inl ⟨yes (by omega), Or.inl (by omega), rfl⟩)⟩ hb | exact ih (k + 1) (v.1 + 1, v.2.1, v.2.2) _ (by omega) ⟨v, hr, Or.inr (Or.inl ⟨yes (by omega), Or.inr (by rw [if_pos (by omega)] at f1; exact f1), rfl⟩)⟩ hb | (rw [if_neg (by omega)] at f1; have eg : a_gt (J1 (M + 20) (a_no (x, 0, 0, 0, (k : Int) + 1)).toNat) v.2.2 = J1 (M + 20) (a_no (x, 0, 0, 0, (k : Int) + 1)).toNat := if_pos (by omega); exact ih (k + 1) (v.1 + 1, v.2.1 + 1, J1 (M + 20) (a_no (x, 0, 0, 0, (k : Int) + 1)).toNat) _ (by omega) ⟨v, hr, Or.inr (Or.inr ⟨yes (by omega), by omega, _, f2.1, f1, by rw [eg]⟩)⟩ f2') | (rw [if_neg (by omega)] at f1; have eg : a_gt (J1 (M + 20) (a_no (x, 0, 0, 0, (k : Int) + 1)).toNat) v.2.2 = v.2.2 := if_neg (by omega); exact ih (k + 1) (v.1 + 1, v.2.1 + 1, v.2.2) _ (by omega) ⟨v, hr, Or.inr (Or.inr ⟨yes (by omega), by omega, _, f2.1, f1, by rw [eg]⟩)⟩ hb)
      · refine r_go (tgt := 162) eMd_reach_89 rfl ?_
        refine r_inc (ls' := [some (.ref M), some (.int (m_i (what))), some (.int (m_i (nw))), some (.int (m_i (v.1))), some (.int (m_i (v.2.1))), some (.int (m_i (v.2.2))), some (.int (m_i (x))), some (.int (m_i ((k : Int) + 1 + 1)))]) eMd_reach_162 rfl rfl ?_
        refine r_go (tgt := 63) eMd_reach_165 rfl ?_
        first | exact ih (k + 1) v _ (by omega) ⟨v, hr, Or.inl ⟨nos (by omega), rfl⟩⟩ hb | exact ih (k + 1) (v.1 + 1, v.2.1, v.2.2) _ (by omega) ⟨v, hr, Or.inr (Or.inl ⟨yes (by omega), Or.inl (by omega), rfl⟩)⟩ hb | exact ih (k + 1) (v.1 + 1, v.2.1, v.2.2) _ (by omega) ⟨v, hr, Or.inr (Or.inl ⟨yes (by omega), Or.inr (by rw [if_pos (by omega)] at f1; exact f1), rfl⟩)⟩ hb | (rw [if_neg (by omega)] at f1; have eg : a_gt (J1 (M + 20) (a_no (x, 0, 0, 0, (k : Int) + 1)).toNat) v.2.2 = J1 (M + 20) (a_no (x, 0, 0, 0, (k : Int) + 1)).toNat := if_pos (by omega); exact ih (k + 1) (v.1 + 1, v.2.1 + 1, J1 (M + 20) (a_no (x, 0, 0, 0, (k : Int) + 1)).toNat) _ (by omega) ⟨v, hr, Or.inr (Or.inr ⟨yes (by omega), by omega, _, f2.1, f1, by rw [eg]⟩)⟩ f2') | (rw [if_neg (by omega)] at f1; have eg : a_gt (J1 (M + 20) (a_no (x, 0, 0, 0, (k : Int) + 1)).toNat) v.2.2 = v.2.2 := if_neg (by omega); exact ih (k + 1) (v.1 + 1, v.2.1 + 1, v.2.2) _ (by omega) ⟨v, hr, Or.inr (Or.inr ⟨yes (by omega), by omega, _, f2.1, f1, by rw [eg]⟩)⟩ hb)
theorem l_Md_rea2 (hM : md_sh en M T P) (ok : a_ok (md_cf J1 M)) {what nw n0 : Int} (hnw : nw = 0 ∨ nw = 1) (hwh : 0 ≤ what ∧ what ≤ 2) (hfw : nw ≠ 0 → ∀ n : Int, 0 ≤ n ∧ n < 38880 → s_fw (md_cf J1 M) n0 n (if J1 (M + 20) n.toNat = 30000 then -2 else J1 (M + 20) n.toNat) ∧ 0 ≤ J1 (M + 20) n.toNat ∧ J1 (M + 20) n.toNat ≤ 30000)
    (hq : ∀ (v : Int × Int × Int) (σ : a_S), s_rc2 (md_cf J1 M) n0 nw (J1 (M + 2) 0).toNat v → Q (some (.int (m_i (if what = 0 then v.1 else if what = 1 then v.2.1 else v.2.2)))) (T, m_I (md_put J1 M σ), P, L, z, w)) :
    ∀ (m k : Nat) (v : Int × Int × Int) (σ : a_S) (o : Option Value), (k : Int) + m = J1 (M + 2) 0 → s_rc2 (md_cf J1 M) n0 nw k v → (-2 ≤ v.2.2 ∧ v.2.2 ≤ 30000) → m_wp en (d + 5) mMd_reach 49 [some (.ref M), some (.int (m_i what)), some (.int (m_i nw)), some (.int (m_i v.1)), some (.int (m_i v.2.1)), some (.int (m_i v.2.2)), some (.int (m_i (k : Int))), o] [] (T, m_I (md_put J1 M σ), P, L, z, w) Q := by
  have k1 : 4 ≤ J1 (M + 2) 0 ∧ J1 (M + 2) 0 ≤ 16 := ok.1
  have k2 : 2 ≤ J1 (M + 2) 1 ∧ J1 (M + 2) 1 ≤ 6 := ok.2.1
  intro m
  induction m with
  | zero =>
    intro k v σ o hk hr hb
    have e : (J1 (M + 2) 0).toNat = k := by omega
    have hq2 := hq v σ (by rw [e]; exact hr)
    refine r_il eMd_reach_49 rfl ?_
    refine r_aln eMd_reach_51 rfl ?_
    refine m_getR eMd_reach_52 rfl hM.2.1 (md_number_p hM) ?_
    refine r_con eMd_reach_55 ?_
    refine r_ialde (x := J1 (M + 2) 0) eMd_reach_56 (md_number_t hM) (by decide) (by omega) (by omega) (by simp [m_up, md_put_at, m_fl]) ?_
    refine r_cge (tgt := 174) eMd_reach_57 rfl ⟨(by omega), (by omega)⟩ ⟨(by omega), (by omega)⟩ (fun c57 => ?_) (fun c57 => ?_)
    · refine r_iln eMd_reach_174 rfl ?_
      refine r_zne (tgt := 182) eMd_reach_175 rfl ⟨(by omega), (by omega)⟩ (fun c175 => ?_) (fun c175 => ?_)
      · refine r_iln eMd_reach_182 rfl ?_
        refine r_con eMd_reach_183 ?_
        refine r_cne (tgt := 192) eMd_reach_184 rfl ⟨(by omega), (by omega)⟩ ⟨(by omega), (by omega)⟩ (fun c184 => ?_) (fun c184 => ?_)
        · refine r_il eMd_reach_192 rfl ?_
          refine r_iret eMd_reach_194 rfl ?_
          (repeat (first | rw [if_pos (by omega)] at hq2 | rw [if_neg (by omega)] at hq2))
          exact hq2
        · refine r_il eMd_reach_187 rfl ?_
          refine r_go (tgt := 194) eMd_reach_189 rfl ?_
          refine r_iret eMd_reach_194 rfl ?_
          (repeat (first | rw [if_pos (by omega)] at hq2 | rw [if_neg (by omega)] at hq2))
          exact hq2
      · refine r_iln eMd_reach_178 rfl ?_
        refine r_go (tgt := 194) eMd_reach_179 rfl ?_
        refine r_iret eMd_reach_194 rfl ?_
        (repeat (first | rw [if_pos (by omega)] at hq2 | rw [if_neg (by omega)] at hq2))
        exact hq2
    · exfalso; omega
  | succ m ih =>
    intro k v σ o hk hr hb
    refine r_il eMd_reach_49 rfl ?_
    refine r_aln eMd_reach_51 rfl ?_
    refine m_getR eMd_reach_52 rfl hM.2.1 (md_number_p hM) ?_
    refine r_con eMd_reach_55 ?_
    refine r_ialde (x := J1 (M + 2) 0) eMd_reach_56 (md_number_t hM) (by decide) (by omega) (by omega) (by simp [m_up, md_put_at, m_fl]) ?_
    refine r_cge (tgt := 174) eMd_reach_57 rfl ⟨(by omega), (by omega)⟩ ⟨(by omega), (by omega)⟩ (fun c57 => ?_) (fun c57 => ?_)
    · exfalso; omega
    · refine r_con eMd_reach_60 ?_
      refine r_is (ls' := [some (.ref M), some (.int (m_i (what))), some (.int (m_i (nw))), some (.int (m_i (v.1))), some (.int (m_i (v.2.1))), some (.int (m_i (v.2.2))), some (.int (m_i ((k : Int)))), some (.int (m_i (1)))]) eMd_reach_61 (Nat.le_of_ble_eq_true rfl) rfl ?_
      exact l_Md_rea1 hM ok (by omega) hnw hfw (fun v2 σ2 o2 g1 g2 => ih (k + 1) v2 σ2 o2 (by omega) ⟨v, hr, g1⟩ g2) (J1 (M + 2) 1).toNat 0 v σ (by omega) rfl hb
theorem c_Md_reach (hM : md_sh en M T P) (hJ : m_up J0 M 0 0 = J) (hinv : md_inv J M) {what : Int} (hw : m_in what)
    (hq0 : ¬ (0 ≤ what ∧ what ≤ 2) → Q (some (.int (m_i (-1)))) (T, m_I J, P, L, z, w))
    (hq1 : 0 ≤ what ∧ what ≤ 2 → ∀ (J1 : Nat → Nat → Int) (v : Int × Int × Int), md_fx J J1 M → md_inv J1 M → s_rc2 (md_cf J M) (J (M + 22) 0) (if a_why (md_cf J M) (a_of (J (M + 22) 0)) = 0 then 1 else 0) (J (M + 2) 0).toNat v → Q (some (.int (m_i (if what = 0 then v.1 else if what = 1 then v.2.1 else v.2.2)))) (T, m_I J1, P, L, z, w)) : m_call en (d + 6) mMd_reach [.ref M, .int (m_i what)] (T, m_I J0, P, L, z, w) Q := by
  unfold m_in at hw
  have hwb := a_why_bd (md_cf J M) (a_of (J (M + 22) 0))
  have k1 := hinv.pl.1
  refine m_into (by decide) (Nat.le_of_ble_eq_true rfl) rfl ?_
  show m_wp en _ mMd_reach 0 [some (.ref M), some (.int (m_i (what))), none, none, none, none, none, none] [] (T, m_I J0, P, L, z, w) Q
  refine r_aln eMd_reach_0 rfl ?_
  refine r_con eMd_reach_1 ?_
  refine r_put eMd_reach_2 rfl hM.2.1 hM.1 (Or.inl rfl) ?_
  rw [hJ]
  refine r_iln eMd_reach_5 rfl ?_
  refine r_zlt (tgt := 14) eMd_reach_6 rfl ⟨(by omega), (by omega)⟩ (fun c6 => ?_) (fun c6 => ?_)
  · refine r_con eMd_reach_14 ?_
    refine r_iret eMd_reach_15 rfl ?_
    exact hq0 (by omega)
  · refine r_iln eMd_reach_9 rfl ?_
    refine r_con eMd_reach_10 ?_
    refine r_cle (tgt := 16) eMd_reach_11 rfl ⟨(by omega), (by omega)⟩ ⟨(by omega), (by omega)⟩ (fun c11 => ?_) (fun c11 => ?_)
    · refine r_aln eMd_reach_16 rfl ?_
      refine r_vir eMd_reach_17 rfl rfl rfl hM.2.1 rfl rfl ?_
      refine z_Md_whyNow hM hinv.ok hinv.hs ?_
      show m_wp en _ mMd_reach 20 [some (.ref M), some (.int (m_i (what))), none, none, none, none, none, none] [(.int (m_i (a_why (md_cf J M) (a_of (J (M + 22) 0)))))] (T, m_I ((md_put J M (a_of (J (M + 22) 0)))), P, L, z, w) Q
      refine r_zne (tgt := 27) eMd_reach_20 rfl ⟨(by omega), (by omega)⟩ (fun c20 => ?_) (fun c20 => ?_)
      · refine r_con eMd_reach_27 ?_
        refine r_isn (ls' := [some (.ref M), some (.int (m_i (what))), some (.int (m_i (0))), none, none, none, none, none]) eMd_reach_28 (Nat.le_of_ble_eq_true rfl) rfl ?_
        refine r_con eMd_reach_29 ?_
        refine r_isn (ls' := [some (.ref M), some (.int (m_i (what))), some (.int (m_i (0))), some (.int (m_i (0))), none, none, none, none]) eMd_reach_30 (Nat.le_of_ble_eq_true rfl) rfl ?_
        refine r_con eMd_reach_31 ?_
        refine r_is (ls' := [some (.ref M), some (.int (m_i (what))), some (.int (m_i (0))), some (.int (m_i (0))), some (.int (m_i (0))), none, none, none]) eMd_reach_32 (Nat.le_of_ble_eq_true rfl) rfl ?_
        refine r_bip eMd_reach_34 (by decide) ?_
        refine r_is (ls' := [some (.ref M), some (.int (m_i (what))), some (.int (m_i (0))), some (.int (m_i (0))), some (.int (m_i (0))), some (.int (m_i ((-2)))), none, none]) eMd_reach_36 (Nat.le_of_ble_eq_true rfl) rfl ?_
        refine r_iln eMd_reach_38 rfl ?_
        refine r_zeq (tgt := 46) eMd_reach_39 rfl ⟨(by omega), (by omega)⟩ (fun c39 => ?_) (fun c39 => ?_)
        · refine r_con eMd_reach_46 ?_
          refine r_is (ls' := [some (.ref M), some (.int (m_i (what))), some (.int (m_i (0))), some (.int (m_i (0))), some (.int (m_i (0))), some (.int (m_i ((-2)))), some (.int (m_i (0))), none]) eMd_reach_47 (Nat.le_of_ble_eq_true rfl) rfl ?_
          first | (have hfx1 : md_fx J J1 M := ((md_fx.refl J M).put _).trans g1) | skip
          first | (have h := l_Md_rea2 (d := d) (z := z) (w := w) (L := L) (P := P) (Q := Q) (J1 := J1) (what := what) (nw := 1) (n0 := J (M + 22) 0) hM (by rw [hfx1.cf]; exact hinv.ok) (Or.inr rfl) (by omega) (fun _ n hn => ⟨by rw [hfx1.cf]; exact s_fw_of g3 g4 hn, g3.1 n.toNat (by omega)⟩) (fun v σ hr => hq1 (by omega) (md_put J1 M σ) v (hfx1.put _) (hinv.fx (hfx1.put _) (md_kp_put _ (md_kp_m2 g2.1 ⟨by rw [g2.2, md_put_f J M _ (by omega)]; exact hinv.hkp.1.2.1, g3.1⟩))) (by rw [if_pos (by omega), ← hfx1.cf, ← hfx1 (M + 2) 0 (by omega) (by omega) (by omega)]; exact hr)) (J1 (M + 2) 0).toNat 0 (0, 0, -2) (md_get J1 M) none (by rw [hfx1 (M + 2) 0 (by omega) (by omega) (by omega)]; omega) rfl (show (-2 : Int) ≤ -2 ∧ (-2 : Int) ≤ 30000 by omega); rw [md_put_get] at h; exact h) | exact l_Md_rea2 (J1 := J) (nw := 0) (n0 := J (M + 22) 0) hM hinv.ok (Or.inl rfl) (by omega) (fun q => absurd rfl q) (fun v σ hr => hq1 (by omega) (md_put J M σ) v ((md_fx.refl J M).put _) (hinv.put _) (by rw [if_neg (by omega)]; exact hr)) (J (M + 2) 0).toNat 0 (0, 0, -2) _ none (by omega) rfl (show (-2 : Int) ≤ -2 ∧ (-2 : Int) ≤ 30000 by omega)
        · exfalso; omega
      · refine r_con eMd_reach_23 ?_
        refine r_go (tgt := 28) eMd_reach_24 rfl ?_
        refine r_isn (ls' := [some (.ref M), some (.int (m_i (what))), some (.int (m_i (1))), none, none, none, none, none]) eMd_reach_28 (Nat.le_of_ble_eq_true rfl) rfl ?_
        refine r_con eMd_reach_29 ?_
        refine r_isn (ls' := [some (.ref M), some (.int (m_i (what))), some (.int (m_i (1))), some (.int (m_i (0))), none, none, none, none]) eMd_reach_30 (Nat.le_of_ble_eq_true rfl) rfl ?_
        refine r_con eMd_reach_31 ?_
        refine r_is (ls' := [some (.ref M), some (.int (m_i (what))), some (.int (m_i (1))), some (.int (m_i (0))), some (.int (m_i (0))), none, none, none]) eMd_reach_32 (Nat.le_of_ble_eq_true rfl) rfl ?_
        refine r_bip eMd_reach_34 (by decide) ?_
        refine r_is (ls' := [some (.ref M), some (.int (m_i (what))), some (.int (m_i (1))), some (.int (m_i (0))), some (.int (m_i (0))), some (.int (m_i ((-2)))), none, none]) eMd_reach_36 (Nat.le_of_ble_eq_true rfl) rfl ?_
        refine r_iln eMd_reach_38 rfl ?_
        refine r_zeq (tgt := 46) eMd_reach_39 rfl ⟨(by omega), (by omega)⟩ (fun c39 => ?_) (fun c39 => ?_)
        · exfalso; omega
        · refine r_aln eMd_reach_42 rfl ?_
          refine r_vir eMd_reach_43 rfl rfl rfl hM.2.1 rfl rfl ?_
          refine c_Md_walks hM (by rw [md_cf_put]; exact hinv.ok) (by rw [md_put_o J M _ (by omega)]; exact hinv.hs) (by rw [md_cf_put, md_put_o J M _ (by omega)]; omega) (fun J1 g1 g2 g3 g4 => ?_)
          · rw [md_cf_put, md_put_o J M _ (by omega)] at g4
            show m_wp en _ mMd_reach 46 [some (.ref M), some (.int (m_i (what))), some (.int (m_i (1))), some (.int (m_i (0))), some (.int (m_i (0))), some (.int (m_i ((-2)))), none, none] [] (T, m_I J1, P, L, z, w) Q
            refine r_con eMd_reach_46 ?_
            refine r_is (ls' := [some (.ref M), some (.int (m_i (what))), some (.int (m_i (1))), some (.int (m_i (0))), some (.int (m_i (0))), some (.int (m_i ((-2)))), some (.int (m_i (0))), none]) eMd_reach_47 (Nat.le_of_ble_eq_true rfl) rfl ?_
            first | (have hfx1 : md_fx J J1 M := ((md_fx.refl J M).put _).trans g1) | skip
            first | (have h := l_Md_rea2 (d := d) (z := z) (w := w) (L := L) (P := P) (Q := Q) (J1 := J1) (what := what) (nw := 1) (n0 := J (M + 22) 0) hM (by rw [hfx1.cf]; exact hinv.ok) (Or.inr rfl) (by omega) (fun _ n hn => ⟨by rw [hfx1.cf]; exact s_fw_of g3 g4 hn, g3.1 n.toNat (by omega)⟩) (fun v σ hr => hq1 (by omega) (md_put J1 M σ) v (hfx1.put _) (hinv.fx (hfx1.put _) (md_kp_put _ (md_kp_m2 g2.1 ⟨by rw [g2.2, md_put_f J M _ (by omega)]; exact hinv.hkp.1.2.1, g3.1⟩))) (by rw [if_pos (by omega), ← hfx1.cf, ← hfx1 (M + 2) 0 (by omega) (by omega) (by omega)]; exact hr)) (J1 (M + 2) 0).toNat 0 (0, 0, -2) (md_get J1 M) none (by rw [hfx1 (M + 2) 0 (by omega) (by omega) (by omega)]; omega) rfl (show (-2 : Int) ≤ -2 ∧ (-2 : Int) ≤ 30000 by omega); rw [md_put_get] at h; exact h) | exact l_Md_rea2 (J1 := J) (nw := 0) (n0 := J (M + 22) 0) hM hinv.ok (Or.inl rfl) (by omega) (fun q => absurd rfl q) (fun v σ hr => hq1 (by omega) (md_put J M σ) v ((md_fx.refl J M).put _) (hinv.put _) (by rw [if_neg (by omega)]; exact hr)) (J (M + 2) 0).toNat 0 (0, 0, -2) _ none (by omega) rfl (show (-2 : Int) ≤ -2 ∧ (-2 : Int) ≤ 30000 by omega)
    · refine r_con eMd_reach_14 ?_
      refine r_iret eMd_reach_15 rfl ?_
      exact hq0 (by omega)
end MDRE
