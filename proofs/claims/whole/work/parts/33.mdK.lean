section MDK
variable {en : Nat → Nat} {d : Nat} {T : Nat → Option (Nat × Nat)} {J J0 : Nat → Nat → Int} {P : Nat → Nat → Option Nat} {L : Nat → Nat → Int64} {z w M : Nat} {Q : m_Q} {σ : a_S}
/-- one code of one of the line: three ends -/
theorem l_Md_sf_body (hM : md_sh en M T P) (ok : a_ok (md_cf J M)) {goal lev fr k c : Int} {o6 : Option Value} (hk : 0 ≤ k ∧ k < 38880) (hc : 0 ≤ c ∧ c < 9) {r f : Int} {τ : a_S} (er : J (M + 21) k.toNat = r) (ef : J (M + 20) r.toNat = f) (eτ : a_back (a_of r) c = τ) (hr : 0 ≤ r ∧ r < 38880) (hf : 0 ≤ f ∧ f < 29999) (hft : ∀ i : Nat, i < 38880 → 0 ≤ J (M + 20) i ∧ J (M + 20) i ≤ 30000)
    (hroom : a_is (md_cf J M) τ = true → f + 1 < J (M + 20) (a_no τ).toNat → 0 ≤ J M 42 ∧ J M 42 < 38880)
    (h1 : ¬ a_is (md_cf J M) τ = true → m_wp en (d + 4) mMd_seeksFrom 235 [some (.ref M), some (.int (m_i goal)), some (.int (m_i lev)), some (.int (m_i fr)), some (.int (m_i k)), some (.int (m_i c)), o6] [] (T, m_I (md_put J M τ), P, L, z, w) Q)
    (h2 : a_is (md_cf J M) τ = true → J (M + 20) (a_no τ).toNat ≤ f + 1 → m_wp en (d + 4) mMd_seeksFrom 235 [some (.ref M), some (.int (m_i goal)), some (.int (m_i lev)), some (.int (m_i fr)), some (.int (m_i k)), some (.int (m_i c)), o6] [] (T, m_I (md_put J M τ), P, L, z, w) Q)
    (h3 : a_is (md_cf J M) τ = true → f + 1 < J (M + 20) (a_no τ).toNat → m_wp en (d + 4) mMd_seeksFrom 235 [some (.ref M), some (.int (m_i goal)), some (.int (m_i lev)), some (.int (m_i fr)), some (.int (m_i k)), some (.int (m_i c)), o6] [] (T, m_I (md_add (md_put J M τ) M (a_no τ) (f + 1)), P, L, z, w) Q) :
    m_wp en (d + 4) mMd_seeksFrom 189 [some (.ref M), some (.int (m_i goal)), some (.int (m_i lev)), some (.int (m_i fr)), some (.int (m_i k)), some (.int (m_i c)), o6] [] (T, m_I J, P, L, z, w) Q := by
  have ht0 := a_of_t hr.1 (show r < 100000 by omega)
  have hd0 := ht0.2.2.2.2
  have sm : a_sm τ := by rw [← eτ]; exact a_back_sm ht0 hc
  have hb01 := a_b_01 (a_is (md_cf J M) τ)
  have hN : a_is (md_cf J M) τ = true → 0 ≤ a_no τ ∧ a_no τ < 38880 := fun q => a_no_bd (a_is_bx ok q)
  refine r_aln eMd_seeksFrom_189 rfl ?_
  refine r_aln eMd_seeksFrom_190 rfl ?_
  refine m_getR eMd_seeksFrom_191 rfl hM.2.1 (md_line_p hM) ?_
  refine r_il eMd_seeksFrom_194 rfl ?_
  refine r_ialde (x := J (M + 21) ((k).toNat)) eMd_seeksFrom_196 (md_line_t hM) (by decide) (by omega) (by omega) rfl ?_
  rw [er]
  refine r_vir eMd_seeksFrom_197 rfl rfl rfl hM.2.1 rfl rfl ?_
  refine c_Md_lays hM (by omega) (by omega) ?_
  show m_wp en _ mMd_seeksFrom 200 [some (.ref M), some (.int (m_i (goal))), some (.int (m_i (lev))), some (.int (m_i (fr))), some (.int (m_i (k))), some (.int (m_i (c))), o6] [] (T, m_I ((md_put J M (a_of r))), P, L, z, w) Q
  refine r_aln eMd_seeksFrom_200 rfl ?_
  refine r_il eMd_seeksFrom_201 rfl ?_
  refine r_vir eMd_seeksFrom_203 rfl rfl rfl hM.2.1 rfl rfl ?_
  refine s_Md_stepsBack hM (by omega) (by omega) ⟨by omega, by omega⟩ ?_
  show m_wp en _ mMd_seeksFrom 206 [some (.ref M), some (.int (m_i (goal))), some (.int (m_i (lev))), some (.int (m_i (fr))), some (.int (m_i (k))), some (.int (m_i (c))), o6] [] (T, m_I ((md_put J M (a_back ((a_of r)) c))), P, L, z, w) Q
  rw [eτ]
  refine r_aln eMd_seeksFrom_206 rfl ?_
  refine r_vir eMd_seeksFrom_207 rfl rfl rfl hM.2.1 rfl rfl ?_
  refine s_Md_isState hM ok sm ?_
  show m_wp en _ mMd_seeksFrom 210 [some (.ref M), some (.int (m_i (goal))), some (.int (m_i (lev))), some (.int (m_i (fr))), some (.int (m_i (k))), some (.int (m_i (c))), o6] [(.int (m_i (a_b (a_is (md_cf J M) τ))))] (T, m_I ((md_put J M τ)), P, L, z, w) Q
  refine r_zeq (tgt := 235) eMd_seeksFrom_210 rfl ⟨(by omega), (by omega)⟩ (fun c210 => ?_) (fun c210 => ?_)
  · first | exact h1 (fun q => by rw [a_b_t q] at c210; omega) | exact h2 his hA | exact h3 his hA
  · have his : a_is (md_cf J M) τ = true := Classical.byContradiction (fun q => c210 (a_b_f q))
    refine r_aln eMd_seeksFrom_213 rfl ?_
    refine r_aln eMd_seeksFrom_214 rfl ?_
    refine r_vir eMd_seeksFrom_215 rfl rfl rfl hM.2.1 rfl rfl ?_
    refine s_Md_laid hM ?_
    show m_wp en _ mMd_seeksFrom 218 [some (.ref M), some (.int (m_i (goal))), some (.int (m_i (lev))), some (.int (m_i (fr))), some (.int (m_i (k))), some (.int (m_i (c))), o6] [(.int (m_i (a_no τ))), (.ref M)] (T, m_I ((md_put J M τ)), P, L, z, w) Q
    refine r_aln eMd_seeksFrom_218 rfl ?_
    refine m_getR eMd_seeksFrom_219 rfl hM.2.1 (md_far_p hM) ?_
    refine r_aln eMd_seeksFrom_222 rfl ?_
    refine m_getR eMd_seeksFrom_223 rfl hM.2.1 (md_line_p hM) ?_
    refine r_il eMd_seeksFrom_226 rfl ?_
    refine r_ialde (x := J (M + 21) ((k).toNat)) eMd_seeksFrom_228 (md_line_t hM) (by decide) (by omega) (by omega) (by simp [m_up, md_put_at, m_fl]) ?_
    rw [er]
    refine r_salde (x := J (M + 20) ((r).toNat)) eMd_seeksFrom_229 (md_far_t hM) (by decide) (by omega) (by omega) (by simp [m_up, md_put_at, m_fl]) ?_
    rw [ef]
    refine r_con eMd_seeksFrom_230 ?_
    refine r_add eMd_seeksFrom_231 ?_
    refine r_vir eMd_seeksFrom_232 rfl rfl rfl hM.2.1 rfl rfl ?_
    refine c_Md_adds hM (hN his) (by omega) ?_ ?_ (fun hA => ?_) (fun hA => ?_)
    · rw [md_put_o J M _ (by omega)]; exact hft _ (by have := hN his; omega)
    · intro q; rw [md_put_f J M _ (by omega)]; rw [md_put_o J M _ (by omega)] at q; exact hroom his q
    · rw [md_put_o J M _ (by omega)] at hA
      show m_wp en _ mMd_seeksFrom 235 [some (.ref M), some (.int (m_i (goal))), some (.int (m_i (lev))), some (.int (m_i (fr))), some (.int (m_i (k))), some (.int (m_i (c))), o6] [] (T, m_I ((md_put J M τ)), P, L, z, w) Q
      first | exact h1 (fun q => by rw [a_b_t q] at c210; omega) | exact h2 his hA | exact h3 his hA
    · rw [md_put_o J M _ (by omega)] at hA
      show m_wp en _ mMd_seeksFrom 235 [some (.ref M), some (.int (m_i (goal))), some (.int (m_i (lev))), some (.int (m_i (fr))), some (.int (m_i (k))), some (.int (m_i (c))), o6] [] (T, m_I ((md_add ((md_put J M τ)) M (a_no τ) ((f) + (1)))), P, L, z, w) Q
      first | exact h1 (fun q => by rw [a_b_t q] at c210; omega) | exact h2 his hA | exact h3 his hA
theorem l_Md_seeksFrom1 (hM : md_sh en M T P) (ok : a_ok (md_cf J0 M)) {goal lev fr : Int} {k : Nat} {o6 : Option Value} (hlev : lev = 0 ∨ lev = 1) (hbd : ∀ t n, b_D (s_S (md_cf J0 M) goal) (s_E (md_cf J0 M) lev) t n → (∀ t', b_D (s_S (md_cf J0 M) goal) (s_E (md_cf J0 M) lev) t' n → t ≤ t') → t < 29999)
    (hk : ∀ (J : Nat → Nat → Int) (o : Option Value), md_fs J0 J M → rw_ok J M → b_I (s_S (md_cf J0 M) goal) (s_E (md_cf J0 M) lev) (rf J M) (rq J M) (J M 42).toNat (k + 1) → m_wp en (d + 4) mMd_seeksFrom 137 [some (.ref M), some (.int (m_i goal)), some (.int (m_i lev)), some (.int (m_i fr)), some (.int (m_i ((k + 1 : Nat) : Int))), o, o6] [] (T, m_I J, P, L, z, w) Q) :
    ∀ (n : Nat) (c : Int) (J : Nat → Nat → Int), c + n = 9 → 0 ≤ c → md_fs J0 J M → rw_ok J M → b_I (s_S (md_cf J0 M) goal) (s_E (md_cf J0 M) lev) (rf J M) (rq J M) (J M 42).toNat k → k < (J M 42).toNat → (∀ c', 0 ≤ c' → c' < c → (lev = 0 ∨ c' % 3 = 1) → a_is (md_cf J0 M) (a_back (a_of (rq J M k)) c') = true → ∃ n', rf J M (a_no (a_back (a_of (rq J M k)) c')) = some n' ∧ (n' : Int) ≤ J (M + 20) (rq J M k).toNat + 1) →
      m_wp en (d + 4) mMd_seeksFrom 167 [some (.ref M), some (.int (m_i goal)), some (.int (m_i lev)), some (.int (m_i fr)), some (.int (m_i (k : Int))), some (.int (m_i c)), o6] [] (T, m_I J, P, L, z, w) Q := by
  intro n
  induction n with
  | zero =>
    intro c J hc h0 hfx rok hI hkm hall
    obtain rfl : c = 9 := by omega
    have r2 := rok.2.1
    have hJ : b_I (s_S (md_cf J0 M) goal) (s_E (md_cf J0 M) lev) (rf J M) (rq J M) (J M 42).toNat (k + 1) := b_next hI hkm (fun t τ h1 h2 => by
      obtain ⟨c', b1, b2, b3, rfl⟩ := h2
      obtain ⟨n', d1, d2⟩ := hall c' b1.1 b1.2 b2 b3
      refine ⟨n', d1, ?_⟩
      have := (rf_inv h1).2.2
      omega)
    refine r_il eMd_seeksFrom_167 rfl ?_
    refine r_bip eMd_seeksFrom_169 (by decide) ?_
    refine r_cge (tgt := 241) eMd_seeksFrom_171 rfl ⟨(by omega), (by omega)⟩ ⟨(by omega), (by omega)⟩ (fun c171 => ?_) (fun c171 => ?_)
    · refine r_inc (ls' := [some (.ref M), some (.int (m_i (goal))), some (.int (m_i (lev))), some (.int (m_i (fr))), some (.int (m_i ((k : Int) + 1))), some (.int (m_i (9))), o6]) eMd_seeksFrom_241 rfl rfl ?_
      refine r_go (tgt := 137) eMd_seeksFrom_244 rfl ?_
      exact hk J _ hfx rok hJ
    · exfalso; omega
  | succ n ih =>
    intro c J hc h0 hfx rok hI hkm hall
    have r2 := rok.2.1
    have hk2 : (k : Int).toNat = k := Int.toNat_natCast k
    have rk := rok.2.2 k hkm
    obtain ⟨t, ht, -⟩ := hI.2.2.1 k hkm
    have hex := b_exact hI ht
    have hlt := hbd t _ hex.1 hex.2
    obtain ⟨u1, u2, u3⟩ := rf_inv ht
    have hfk := rok.1 (J (M + 21) k).toNat (by omega)
    have u4 : J (M + 20) (J (M + 21) k).toNat < 29999 := by unfold rq at u3; omega
    have okJ : a_ok (md_cf J M) := by rw [hfx.cf]; exact ok
    have ht0 := a_of_t (show 0 ≤ J (M + 21) k by omega) (show J (M + 21) k < 100000 by omega)
    have hd0 := ht0.2.2.2.2
    have sm := a_back_sm ht0 (k := c) (by omega)
    have hb01 := a_b_01 (a_is (md_cf J M) (a_back (a_of (J (M + 21) k)) c))
    have key : ∀ J' : Nat → Nat → Int, md_fs J0 J' M → rw_ok J' M → b_I (s_S (md_cf J0 M) goal) (s_E (md_cf J0 M) lev) (rf J' M) (rq J' M) (J' M 42).toNat k → k < (J' M 42).toNat → rq J' M k = rq J M k → J' (M + 20) (rq J M k).toNat = J (M + 20) (rq J M k).toNat → (∀ x n', rf J M x = some n' → rf J' M x = some n') → ((lev = 0 ∨ c % 3 = 1) → a_is (md_cf J0 M) (a_back (a_of (rq J M k)) c) = true → ∃ n', rf J' M (a_no (a_back (a_of (rq J M k)) c)) = some n' ∧ (n' : Int) ≤ J (M + 20) (rq J M k).toNat + 1) →
        m_wp en (d + 4) mMd_seeksFrom 167 [some (.ref M), some (.int (m_i goal)), some (.int (m_i lev)), some (.int (m_i fr)), some (.int (m_i (k : Int))), some (.int (m_i (c + 1))), o6] [] (T, m_I J', P, L, z, w) Q := by
      intro J' f1 f2 f3 f4 f5 f6 f7 f8
      refine ih (c + 1) J' (by omega) (by omega) f1 f2 f3 f4 (fun c' g0 g1 g2 g3 => ?_)
      rw [f5] at g3 ⊢
      rw [f6]
      rcases Int.lt_or_eq_of_le (Int.lt_add_one_iff.mp g1) with q | q
      · obtain ⟨n', b1, b2⟩ := hall c' g0 q g2 g3
        exact ⟨n', f7 _ _ b1, b2⟩
      · subst q
        exact f8 g2 g3
    have keyp : ∀ τ : a_S, (¬ (lev = 0 ∨ c % 3 = 1) ∨ ¬ a_is (md_cf J0 M) (a_back (a_of (rq J M k)) c) = true ∨ ∃ n', rf J M (a_no (a_back (a_of (rq J M k)) c)) = some n' ∧ (n' : Int) ≤ J (M + 20) (rq J M k).toNat + 1) → m_wp en (d + 4) mMd_seeksFrom 167 [some (.ref M), some (.int (m_i goal)), some (.int (m_i lev)), some (.int (m_i fr)), some (.int (m_i (k : Int))), some (.int (m_i (c + 1))), o6] [] (T, m_I (md_put J M τ), P, L, z, w) Q := by
      intro τ h9
      have e42 : md_put J M τ M 42 = J M 42 := md_put_f J M τ (by omega)
      refine key (md_put J M τ) (hfx.put τ) (rw_put τ rok) (by rw [rf_put, rq_put, e42]; exact hI) (by rw [e42]; exact hkm) (by rw [rq_put]) (md_put_o J M τ (by omega)) (fun x n' h => by rw [rf_put]; exact h) (fun g1 g2 => ?_)
      rw [rf_put]
      rcases h9 with q | q | q
      · exact absurd g1 q
      · exact absurd g2 q
      · exact q
    have st : ∀ J' : Nat → Nat → Int, m_wp en (d + 4) mMd_seeksFrom 167 [some (.ref M), some (.int (m_i goal)), some (.int (m_i lev)), some (.int (m_i fr)), some (.int (m_i (k : Int))), some (.int (m_i (c + 1))), o6] [] (T, m_I J', P, L, z, w) Q → m_wp en (d + 4) mMd_seeksFrom 235 [some (.ref M), some (.int (m_i goal)), some (.int (m_i lev)), some (.int (m_i fr)), some (.int (m_i (k : Int))), some (.int (m_i c)), o6] [] (T, m_I J', P, L, z, w) Q := by
      intro J' h
      refine r_inc (ls' := [some (.ref M), some (.int (m_i (goal))), some (.int (m_i (lev))), some (.int (m_i (fr))), some (.int (m_i ((k : Int)))), some (.int (m_i (c + 1))), o6]) eMd_seeksFrom_235 rfl rfl ?_
      refine r_go (tgt := 167) eMd_seeksFrom_238 rfl ?_
      exact h
    have erq : J (M + 21) (k : Int).toNat = rq J M k := by rw [hk2]; rfl
    have hfk : 0 ≤ J (M + 20) (rq J M k).toNat ∧ J (M + 20) (rq J M k).toNat < 29999 := by
      have := rok.1 (rq J M k).toNat (by unfold rq; omega)
      omega
    have body : (lev = 0 ∨ c % 3 = 1) → m_wp en (d + 4) mMd_seeksFrom 189 [some (.ref M), some (.int (m_i goal)), some (.int (m_i lev)), some (.int (m_i fr)), some (.int (m_i (k : Int))), some (.int (m_i c)), o6] [] (T, m_I J, P, L, z, w) Q := by
      intro hal
      refine l_Md_sf_body hM okJ (by omega) (by omega) erq rfl rfl (by unfold rq; omega) hfk rok.1 (fun his hlt2 => ?_) (fun hn => st _ ?_) (fun his hle => st _ ?_) (fun his hgt => st _ ?_)
      · have hN := a_no_bd (a_is_bx okJ his)
        have hu : J (M + 20) (a_no (a_back (a_of (rq J M k)) c)).toNat = 30000 := by
          rcases Classical.em (J (M + 20) (a_no (a_back (a_of (rq J M k)) c)).toNat = 30000) with q | q
          · exact q
          · have h5 := hI.2.2.2.2.1 
            obtain ⟨i, hi, ei⟩ := hI.2.1 _ _ (rf_some hN q)
            have h6 := h5 i t (J (M + 20) (a_no (a_back (a_of (rq J M k)) c)).toNat).toNat hkm hi ht (by rw [ei]; exact rf_some hN q)
            have := rok.1 (a_no (a_back (a_of (rq J M k)) c)).toNat (by omega)
            omega
        exact ⟨rok.2.1.1, rb_room hI rok hN hu⟩
      · refine keyp _ (Or.inr (Or.inl ?_))
        rw [hfx.cf] at hn
        exact hn
      · have hN := a_no_bd (a_is_bx okJ his)
        have hb := rok.1 (a_no (a_back (a_of (rq J M k)) c)).toNat (by omega)
        refine keyp _ (Or.inr (Or.inr ⟨_, rf_some hN (by omega), by omega⟩))
      · have hN := a_no_bd (a_is_bx okJ his)
        have hb := rok.1 (a_no (a_back (a_of (rq J M k)) c)).toNat (by omega)
        have hu : J (M + 20) (a_no (a_back (a_of (rq J M k)) c)).toNat = 30000 := by
          rcases Classical.em (J (M + 20) (a_no (a_back (a_of (rq J M k)) c)).toNat = 30000) with q | q
          · exact q
          · have h5 := hI.2.2.2.2.1 
            obtain ⟨i, hi, ei⟩ := hI.2.1 _ _ (rf_some hN q)
            have h6 := h5 i t (J (M + 20) (a_no (a_back (a_of (rq J M k)) c)).toNat).toNat hkm hi ht (by rw [ei]; exact rf_some hN q)
            omega
        have his0 : a_is (md_cf J0 M) (a_back (a_of (rq J M k)) c) = true := by rw [← hfx.cf]; exact his
        have hEd : s_E (md_cf J0 M) lev (rq J M k) (a_no (a_back (a_of (rq J M k)) c)) := ⟨c, by omega, hal, his0, rfl⟩
        have e42 : md_put J M (a_back (a_of (rq J M k)) c) M 42 = J M 42 := md_put_f J M _ (by omega)
        have e20 : ∀ i : Nat, md_put J M (a_back (a_of (rq J M k)) c) (M + 20) i = J (M + 20) i := fun i => md_put_o J M _ (by omega)
        obtain ⟨a1, a2, a3, a4, a5⟩ := rb_add (J := md_put J M (a_back (a_of (rq J M k)) c)) (S := s_S (md_cf J0 M) goal) (E := s_E (md_cf J0 M) lev) (M := M) (k := k) (n := a_no (a_back (a_of (rq J M k)) c)) (its := J (M + 20) (rq J M k).toNat + 1) (by rw [rf_put, rq_put, e42]; exact hI) (rw_put _ rok) (by rw [e42]; exact hkm) hN (by rw [e20]; exact hu) (by rw [rq_put]; exact hEd) (by rw [rq_put, e20]) (by omega)
        have e43 : md_add (md_put J M (a_back (a_of (rq J M k)) c)) M (a_no (a_back (a_of (rq J M k)) c)) (J (M + 20) (rq J M k).toNat + 1) M 42 = J M 42 + 1 := by
          rw [← e42]
          simp [md_add, m_up]
        have hne : rq J M k ≠ a_no (a_back (a_of (rq J M k)) c) := fun q => by
          have := (rf_inv ht).2.1
          rw [q] at this
          exact this hu
        refine key _ ((hfx.put _).add _ _) a2 a1 (by rw [e43]; omega) (by rw [a4 k (by rw [e42]; exact hkm), rq_put]) (by rw [a5 _ (by unfold rq; omega) (by unfold rq; omega) hne, e20]) (fun x n' hx => ?_) (fun g1 g2 => ⟨_, rf_some hN (by rw [a3]; omega), by rw [a3]; omega⟩)
        obtain ⟨x1, x2, x3⟩ := rf_inv hx
        have hxn : x ≠ a_no (a_back (a_of (rq J M k)) c) := fun q => by rw [q] at x2; exact x2 hu
        rw [rf_some x1 (by rw [a5 x x1.1 x1.2 hxn, e20]; exact x2), a5 x x1.1 x1.2 hxn, e20, x3]
    refine r_il eMd_seeksFrom_167 rfl ?_
    refine r_bip eMd_seeksFrom_169 (by decide) ?_
    refine r_cge (tgt := 241) eMd_seeksFrom_171 rfl ⟨(by omega), (by omega)⟩ ⟨(by omega), (by omega)⟩ (fun c171 => ?_) (fun c171 => ?_)
    · exfalso; omega
    · refine r_iln eMd_seeksFrom_174 rfl ?_
      refine r_zeq (tgt := 189) eMd_seeksFrom_175 rfl ⟨(by omega), (by omega)⟩ (fun c175 => ?_) (fun c175 => ?_)
      · exact body (by omega)
      · refine r_il eMd_seeksFrom_178 rfl ?_
        refine r_con eMd_seeksFrom_180 ?_
        refine r_rem eMd_seeksFrom_181 ⟨(by omega), (by omega)⟩ ⟨(by omega), (by omega)⟩ ?_
        refine r_con eMd_seeksFrom_182 ?_
        refine r_ceq (tgt := 189) eMd_seeksFrom_183 rfl ⟨(by omega), (by omega)⟩ ⟨(by omega), (by omega)⟩ (fun c183 => ?_) (fun c183 => ?_)
        · exact body (by omega)
        · refine r_go (tgt := 235) eMd_seeksFrom_186 rfl ?_
          exact st J (key J hfx rok hI hkm rfl rfl (fun _ _ h => h) (fun g1 _ => absurd g1 (by omega)))
end MDK
