/-! the first step of a way -/
theorem a_step_back (σ : a_S) (k : Int) : a_step (a_back σ k) k 0 = σ := by
  obtain ⟨c, v, s, l, e⟩ := σ
  simp only [a_step, a_back]
  rw [show e - (k % 3 - 1) + (k % 3 - 1) = e by omega, show v - (k / 3 - 1) + (k / 3 - 1) = v by omega]
  refine Prod.ext ?_ (Prod.ext rfl (Prod.ext ?_ rfl)) <;> simp only <;> omega
theorem a_back_step (σ : a_S) (k : Int) : a_back (a_step σ k 0) k = σ := by
  obtain ⟨c, v, s, l, e⟩ := σ
  simp only [a_step, a_back]
  refine Prod.ext ?_ (Prod.ext ?_ (Prod.ext rfl (Prod.ext ?_ ?_))) <;> simp only <;> omega
/-- whether a code leads one nearer -/
def s_near (C : a_C) (J : Nat → Nat → Int) (M : Nat) (n c : Int) : Prop := a_is C (a_step (a_of n) c 0) = true ∧ J (M + 20) (a_no (a_step (a_of n) c 0)).toNat = J (M + 20) n.toNat - 1
theorem s_has {C : a_C} (ok : a_ok C) {goal : Int} {J : Nat → Nat → Int} {M k : Nat} (rok : rw_ok J M) (hI : b_I (s_S C goal) (s_E C 0) (rf J M) (rq J M) (J M 42).toNat k) (hk : k = (J M 42).toNat) {n : Int} (hn : 0 ≤ n ∧ n < 38880) (hf : J (M + 20) n.toNat ≠ 30000) (hp : 0 < J (M + 20) n.toNat) : ∃ c : Int, (0 ≤ c ∧ c < 9) ∧ s_near C J M n c := by
  have h1 := b_exact hI (rf_some hn hf)
  have hb := rok.1 n.toNat (by omega)
  obtain ⟨t, ht⟩ : ∃ t : Nat, J (M + 20) n.toNat = (t : Int) + 1 := ⟨(J (M + 20) n.toNat - 1).toNat, by omega⟩
  rw [ht, show ((t : Int) + 1).toNat = t + 1 by omega] at h1
  obtain ⟨⟨τ, h2, c, c1, c2, c3, c4⟩, h3⟩ := h1
  obtain ⟨n', a, b⟩ := b_all hI hk h2
  obtain ⟨r1, r2, r3⟩ := rf_inv a
  have hbx := a_is_bx ok c3
  have hs : a_step (a_of n) c 0 = a_of τ := by rw [c4, a_of_no hbx, a_step_back]
  have hτ : a_is C (a_of τ) = true := by
    obtain ⟨d0, -⟩ := b_exact hI a
    cases n' with
    | zero => exact d0.2.1
    | succ n' =>
      obtain ⟨ρ, -, c', -, -, e3, e4⟩ := d0
      rw [e4, a_of_no (a_is_bx ok e3)]
      exact e3
  refine ⟨c, c1, by rw [hs]; exact hτ, ?_⟩
  rw [hs, a_no_of r1.1, ht]
  have hb2 := rok.1 τ.toNat (by omega)
  have h5 := h3 (n' + 1) ⟨τ, (b_exact hI a).1, c, c1, c2, c3, c4⟩
  omega
section MDP
variable {en : Nat → Nat} {d : Nat} {T : Nat → Option (Nat × Nat)} {J J0 : Nat → Nat → Int} {P : Nat → Nat → Option Nat} {L : Nat → Nat → Int64} {z w M : Nat} {Q : m_Q} {σ : a_S}
theorem l_Md_firstStep (hM : md_sh en M T P) (ok : a_ok (md_cf J M)) (hft : ∀ i : Nat, i < 38880 → 0 ≤ J (M + 20) i ∧ J (M + 20) i ≤ 30000) {n its : Int} (hn : 0 ≤ n ∧ n < 38880) (hits : J (M + 20) n.toNat = its) {c0 : Int} (hc0 : 0 ≤ c0 ∧ c0 < 9) (hnear : s_near (md_cf J M) J M n c0) (hfirst : ∀ c, 0 ≤ c → c < c0 → ¬ s_near (md_cf J M) J M n c) (hq : Q (some (.int (m_i c0))) (T, m_I (md_put J M (a_step (a_of n) c0 0)), P, L, z, w)) :
    ∀ (m : Nat) (c : Int) (σ : a_S), c + m = c0 → 0 ≤ c → m_wp en (d + 4) mMd_firstStep 9 [some (.ref M), some (.int (m_i n)), some (.int (m_i its)), some (.int (m_i c))] [] (T, m_I (md_put J M σ), P, L, z, w) Q := by
  have ht0 := a_of_t hn.1 (show n < 100000 by omega)
  have hd0 := ht0.2.2.2.2
  have hib := hft n.toNat (by omega)
  have hN : ∀ c, a_is (md_cf J M) (a_step (a_of n) c 0) = true → 0 ≤ a_no (a_step (a_of n) c 0) ∧ a_no (a_step (a_of n) c 0) < 38880 := fun c q => a_no_bd (a_is_bx ok q)
  intro m
  induction m with
  | zero =>
    intro c σ hc h0
    obtain rfl : c = c0 := by omega
    have sm := a_step_sm ht0 (k := c) (f := 0) hc0 (by omega)
    have his := hnear.1
    have hNc := hN c his
    have hfb := hft (a_no (a_step (a_of n) c 0)).toNat (by omega)
    have hf2 := hnear.2
    refine r_aln eMd_firstStep_9 rfl ?_
    refine r_iln eMd_firstStep_10 rfl ?_
    refine r_vir eMd_firstStep_11 rfl rfl rfl hM.2.1 rfl rfl ?_
    refine s_Md_lays hM (by omega) (by omega) ?_
    show m_wp en _ mMd_firstStep 14 [some (.ref M), some (.int (m_i (n))), some (.int (m_i (its))), some (.int (m_i (c)))] [] (T, m_I ((md_put J M (a_of n))), P, L, z, w) Q
    refine r_aln eMd_firstStep_14 rfl ?_
    refine r_iln eMd_firstStep_15 rfl ?_
    refine r_con eMd_firstStep_16 ?_
    refine r_vir eMd_firstStep_17 rfl rfl rfl hM.2.1 rfl rfl ?_
    refine s_Md_steps hM (by omega) (by omega) ⟨by omega, by omega⟩ ?_
    show m_wp en _ mMd_firstStep 20 [some (.ref M), some (.int (m_i (n))), some (.int (m_i (its))), some (.int (m_i (c)))] [] (T, m_I ((md_put J M (a_step ((a_of n)) c 0))), P, L, z, w) Q
    refine r_aln eMd_firstStep_20 rfl ?_
    refine r_vir eMd_firstStep_21 rfl rfl rfl hM.2.1 rfl rfl ?_
    refine s_Md_isState hM ok sm ?_
    show m_wp en _ mMd_firstStep 24 [some (.ref M), some (.int (m_i (n))), some (.int (m_i (its))), some (.int (m_i (c)))] [(.int (m_i (a_b (a_is (md_cf J M) ((a_step ((a_of n)) c 0))))))] (T, m_I ((md_put J M (a_step ((a_of n)) c 0))), P, L, z, w) Q
    rw [a_b_t his]
    refine r_zeq (tgt := 44) eMd_firstStep_24 rfl ⟨(by omega), (by omega)⟩ (fun c24 => ?_) (fun c24 => ?_)
    · exfalso; omega
    · refine r_aln eMd_firstStep_27 rfl ?_
      refine m_getR eMd_firstStep_28 rfl hM.2.1 (md_far_p hM) ?_
      refine r_aln eMd_firstStep_31 rfl ?_
      refine r_vir eMd_firstStep_32 rfl rfl rfl hM.2.1 rfl rfl ?_
      refine s_Md_laid hM ?_
      show m_wp en _ mMd_firstStep 35 [some (.ref M), some (.int (m_i (n))), some (.int (m_i (its))), some (.int (m_i (c)))] [(.int (m_i (a_no ((a_step ((a_of n)) c 0))))), (.ref (M + 20))] (T, m_I ((md_put J M (a_step ((a_of n)) c 0))), P, L, z, w) Q
      refine r_salde (x := J (M + 20) ((a_no ((a_step ((a_of n)) c 0))).toNat)) eMd_firstStep_35 (md_far_t hM) (by decide) (by omega) (by omega) (by simp [m_up, md_put_at, m_fl]) ?_
      refine r_iln eMd_firstStep_36 rfl ?_
      refine r_con eMd_firstStep_37 ?_
      refine r_sub eMd_firstStep_38 ?_
      refine r_cne (tgt := 44) eMd_firstStep_39 rfl ⟨(by omega), (by omega)⟩ ⟨(by omega), (by omega)⟩ (fun c39 => ?_) (fun c39 => ?_)
      · exfalso; omega
      · refine r_iln eMd_firstStep_42 rfl ?_
        refine r_iret eMd_firstStep_43 rfl ?_
        exact hq
  | succ m ih =>
    intro c σ hc h0
    have sm := a_step_sm ht0 (k := c) (f := 0) (by omega) (by omega)
    have hno := hfirst c h0 (by omega)
    have hb01 := a_b_01 (a_is (md_cf J M) (a_step (a_of n) c 0))
    refine r_aln eMd_firstStep_9 rfl ?_
    refine r_iln eMd_firstStep_10 rfl ?_
    refine r_vir eMd_firstStep_11 rfl rfl rfl hM.2.1 rfl rfl ?_
    refine s_Md_lays hM (by omega) (by omega) ?_
    show m_wp en _ mMd_firstStep 14 [some (.ref M), some (.int (m_i (n))), some (.int (m_i (its))), some (.int (m_i (c)))] [] (T, m_I ((md_put J M (a_of n))), P, L, z, w) Q
    refine r_aln eMd_firstStep_14 rfl ?_
    refine r_iln eMd_firstStep_15 rfl ?_
    refine r_con eMd_firstStep_16 ?_
    refine r_vir eMd_firstStep_17 rfl rfl rfl hM.2.1 rfl rfl ?_
    refine s_Md_steps hM (by omega) (by omega) ⟨by omega, by omega⟩ ?_
    show m_wp en _ mMd_firstStep 20 [some (.ref M), some (.int (m_i (n))), some (.int (m_i (its))), some (.int (m_i (c)))] [] (T, m_I ((md_put J M (a_step ((a_of n)) c 0))), P, L, z, w) Q
    refine r_aln eMd_firstStep_20 rfl ?_
    refine r_vir eMd_firstStep_21 rfl rfl rfl hM.2.1 rfl rfl ?_
    refine s_Md_isState hM ok sm ?_
    show m_wp en _ mMd_firstStep 24 [some (.ref M), some (.int (m_i (n))), some (.int (m_i (its))), some (.int (m_i (c)))] [(.int (m_i (a_b (a_is (md_cf J M) ((a_step ((a_of n)) c 0))))))] (T, m_I ((md_put J M (a_step ((a_of n)) c 0))), P, L, z, w) Q
    refine r_zeq (tgt := 44) eMd_firstStep_24 rfl ⟨(by omega), (by omega)⟩ (fun c24 => ?_) (fun c24 => ?_)
    · refine r_inc (ls' := [some (.ref M), some (.int (m_i (n))), some (.int (m_i (its))), some (.int (m_i (c + 1)))]) eMd_firstStep_44 rfl rfl ?_
      refine r_go (tgt := 9) eMd_firstStep_47 rfl ?_
      exact ih (c + 1) _ (by omega) (by omega)
    · have his : a_is (md_cf J M) (a_step (a_of n) c 0) = true := Classical.byContradiction (fun q => c24 (a_b_f q))
      have hNc := hN c his
      have hfb := hft (a_no (a_step (a_of n) c 0)).toNat (by omega)
      refine r_aln eMd_firstStep_27 rfl ?_
      refine m_getR eMd_firstStep_28 rfl hM.2.1 (md_far_p hM) ?_
      refine r_aln eMd_firstStep_31 rfl ?_
      refine r_vir eMd_firstStep_32 rfl rfl rfl hM.2.1 rfl rfl ?_
      refine s_Md_laid hM ?_
      show m_wp en _ mMd_firstStep 35 [some (.ref M), some (.int (m_i (n))), some (.int (m_i (its))), some (.int (m_i (c)))] [(.int (m_i (a_no ((a_step ((a_of n)) c 0))))), (.ref (M + 20))] (T, m_I ((md_put J M (a_step ((a_of n)) c 0))), P, L, z, w) Q
      refine r_salde (x := J (M + 20) ((a_no ((a_step ((a_of n)) c 0))).toNat)) eMd_firstStep_35 (md_far_t hM) (by decide) (by omega) (by omega) (by simp [m_up, md_put_at, m_fl]) ?_
      refine r_iln eMd_firstStep_36 rfl ?_
      refine r_con eMd_firstStep_37 ?_
      refine r_sub eMd_firstStep_38 ?_
      refine r_cne (tgt := 44) eMd_firstStep_39 rfl ⟨(by omega), (by omega)⟩ ⟨(by omega), (by omega)⟩ (fun c39 => ?_) (fun c39 => ?_)
      · refine r_inc (ls' := [some (.ref M), some (.int (m_i (n))), some (.int (m_i (its))), some (.int (m_i (c + 1)))]) eMd_firstStep_44 rfl rfl ?_
        refine r_go (tgt := 9) eMd_firstStep_47 rfl ?_
        exact ih (c + 1) _ (by omega) (by omega)
      · refine r_iln eMd_firstStep_42 rfl ?_
        refine r_iret eMd_firstStep_43 rfl ?_
        exact absurd ⟨his, by omega⟩ hno
theorem c_Md_firstStep (hM : md_sh en M T P) (ok : a_ok (md_cf J M)) (hft : ∀ i : Nat, i < 38880 → 0 ≤ J (M + 20) i ∧ J (M + 20) i ≤ 30000) {n : Int} (hn : 0 ≤ n ∧ n < 38880) {c0 : Int} (hc0 : 0 ≤ c0 ∧ c0 < 9) (hnear : s_near (md_cf J M) J M n c0) (hfirst : ∀ c, 0 ≤ c → c < c0 → ¬ s_near (md_cf J M) J M n c) (hq : Q (some (.int (m_i c0))) (T, m_I (md_put J M (a_step (a_of n) c0 0)), P, L, z, w)) : m_call en (d + 5) mMd_firstStep [.ref M, .int (m_i n)] (T, m_I (md_put J M σ), P, L, z, w) Q := by
  have e1 : md_put J M σ (M + 20) n.toNat = J (M + 20) n.toNat := md_put_o J M σ (by omega)
  refine m_into (by decide) (Nat.le_of_ble_eq_true rfl) rfl ?_
  show m_wp en _ mMd_firstStep 0 [some (.ref M), some (.int (m_i (n))), none, none] [] (T, m_I ((md_put J M σ)), P, L, z, w) Q
  refine r_aln eMd_firstStep_0 rfl ?_
  refine m_getR eMd_firstStep_1 rfl hM.2.1 (md_far_p hM) ?_
  refine r_iln eMd_firstStep_4 rfl ?_
  refine r_salde (x := J (M + 20) ((n).toNat)) eMd_firstStep_5 (md_far_t hM) (by decide) (by omega) (by omega) (by simp [m_up, md_put_at, m_fl]) ?_
  refine r_isn (ls' := [some (.ref M), some (.int (m_i (n))), some (.int (m_i (J (M + 20) ((n).toNat)))), none]) eMd_firstStep_6 (Nat.le_of_ble_eq_true rfl) rfl ?_
  refine r_con eMd_firstStep_7 ?_
  refine r_isn (ls' := [some (.ref M), some (.int (m_i (n))), some (.int (m_i (J (M + 20) ((n).toNat)))), some (.int (m_i (0)))]) eMd_firstStep_8 (Nat.le_of_ble_eq_true rfl) rfl ?_
  exact l_Md_firstStep hM ok hft hn rfl hc0 hnear hfirst hq c0.toNat 0 σ (by omega) (by omega)
end MDP
