/-! steadiest of the reference -/
/-- backward, to states of no more sway than so much -/
def s_G (C : a_C) (mo : Int) (n m : Int) : Prop := ∃ c : Int, (0 ≤ c ∧ c < 9) ∧ (a_is C (a_back (a_of n) c) = true ∧ a_abs (a_back (a_of n) c).2.2.1 ≤ mo) ∧ m = a_no (a_back (a_of n) c)
/-- one comes from a state to a goal by no more sway -/
def s_sdy (C : a_C) (goal fr mo : Int) : Prop := ∃ t n, b_D (fun x => x = goal) (s_G C mo) t n ∧ (n = fr ∨ ∃ c : Int, (0 ≤ c ∧ c < 9) ∧ a_is C (a_back (a_of n) c) = true ∧ fr = a_no (a_back (a_of n) c))
theorem rq_add {J : Nat → Nat → Int} {M : Nat} {n its : Int} {i : Nat} (hi : i < (J M 42).toNat) : rq (md_add J M n its) M i = rq J M i := by
  have e21 : md_add J M n its (M + 21) i = if i = (J M 42).toNat then n else J (M + 21) i := by simp [md_add, m_up]
  unfold rq
  rw [e21, if_neg (by omega)]
section MDSD
variable {en : Nat → Nat} {d : Nat} {T : Nat → Option (Nat × Nat)} {J J0 J1 : Nat → Nat → Int} {P : Nat → Nat → Option Nat} {L : Nat → Nat → Int64} {z w M : Nat} {Q : m_Q} {σ : a_S}
theorem l_Md_sd_body (hM : md_sh en M T P) (ok : a_ok (md_cf J M)) {fr go mo k c : Int} (hk : 0 ≤ k ∧ k < 38880) (hc : 0 ≤ c ∧ c < 9) (hfr : 0 ≤ fr ∧ fr < 38880) (hmo : 0 ≤ mo ∧ mo ≤ 100) {r f : Int} {τ : a_S} (er : J (M + 21) k.toNat = r) (ef : J (M + 20) r.toNat = f) (eτ : a_back (a_of r) c = τ) (hr : 0 ≤ r ∧ r < 38880) (hf : 0 ≤ f ∧ f < 29999) (hft : ∀ i : Nat, i < 38880 → 0 ≤ J (M + 20) i ∧ J (M + 20) i ≤ 30000)
    (hroom : a_is (md_cf J M) τ = true → f + 1 < J (M + 20) (a_no τ).toNat → 0 ≤ J M 42 ∧ J M 42 < 38880)
    (h0 : a_is (md_cf J M) τ = true → a_no τ = fr → Q (some (.int (m_i 1))) (T, m_I (md_put J M τ), P, L, z, w))
    (h1 : ¬ (a_is (md_cf J M) τ = true ∧ a_abs τ.2.2.1 ≤ mo) → ¬ (a_is (md_cf J M) τ = true ∧ a_no τ = fr) → m_wp en (d + 4) mMd_isSteady 115 [some (.ref M), some (.int (m_i fr)), some (.int (m_i go)), some (.int (m_i mo)), some (.int (m_i k)), some (.int (m_i c))] [] (T, m_I (md_put J M τ), P, L, z, w) Q)
    (h2 : a_is (md_cf J M) τ = true ∧ a_abs τ.2.2.1 ≤ mo → a_no τ ≠ fr → J (M + 20) (a_no τ).toNat ≤ f + 1 → m_wp en (d + 4) mMd_isSteady 115 [some (.ref M), some (.int (m_i fr)), some (.int (m_i go)), some (.int (m_i mo)), some (.int (m_i k)), some (.int (m_i c))] [] (T, m_I (md_put J M τ), P, L, z, w) Q)
    (h3 : a_is (md_cf J M) τ = true ∧ a_abs τ.2.2.1 ≤ mo → a_no τ ≠ fr → f + 1 < J (M + 20) (a_no τ).toNat → m_wp en (d + 4) mMd_isSteady 115 [some (.ref M), some (.int (m_i fr)), some (.int (m_i go)), some (.int (m_i mo)), some (.int (m_i k)), some (.int (m_i c))] [] (T, m_I (md_add (md_put J M τ) M (a_no τ) (f + 1)), P, L, z, w) Q) :
    m_wp en (d + 4) mMd_isSteady 45 [some (.ref M), some (.int (m_i fr)), some (.int (m_i go)), some (.int (m_i mo)), some (.int (m_i k)), some (.int (m_i c))] [] (T, m_I J, P, L, z, w) Q := by
  have ht0 := a_of_t hr.1 (show r < 100000 by omega)
  have hd0 := ht0.2.2.2.2
  have sm : a_sm τ := by rw [← eτ]; exact a_back_sm ht0 hc
  have sw := sm.2.2.1
  have hab := a_abs_b sw
  have hb01 := a_b_01 (a_is (md_cf J M) τ)
  have hN : a_is (md_cf J M) τ = true → 0 ≤ a_no τ ∧ a_no τ < 38880 := fun q => a_no_bd (a_is_bx ok q)
  refine r_aln eMd_isSteady_45 rfl ?_
  refine r_aln eMd_isSteady_46 rfl ?_
  refine m_getR eMd_isSteady_47 rfl hM.2.1 (md_line_p hM) ?_
  refine r_il eMd_isSteady_50 rfl ?_
  refine r_ialde (x := J (M + 21) ((k).toNat)) eMd_isSteady_52 (md_line_t hM) (by decide) (by omega) (by omega) rfl ?_
  rw [er]
  refine r_vir eMd_isSteady_53 rfl rfl rfl hM.2.1 rfl rfl ?_
  refine c_Md_lays hM (by omega) (by omega) ?_
  show m_wp en _ mMd_isSteady 56 [some (.ref M), some (.int (m_i (fr))), some (.int (m_i (go))), some (.int (m_i (mo))), some (.int (m_i (k))), some (.int (m_i (c)))] [] (T, m_I ((md_put J M (a_of r))), P, L, z, w) Q
  refine r_aln eMd_isSteady_56 rfl ?_
  refine r_il eMd_isSteady_57 rfl ?_
  refine r_vir eMd_isSteady_59 rfl rfl rfl hM.2.1 rfl rfl ?_
  refine s_Md_stepsBack hM (by omega) (by omega) ⟨by omega, by omega⟩ ?_
  show m_wp en _ mMd_isSteady 62 [some (.ref M), some (.int (m_i (fr))), some (.int (m_i (go))), some (.int (m_i (mo))), some (.int (m_i (k))), some (.int (m_i (c)))] [] (T, m_I ((md_put J M (a_back ((a_of r)) c))), P, L, z, w) Q
  rw [eτ]
  refine r_aln eMd_isSteady_62 rfl ?_
  refine r_vir eMd_isSteady_63 rfl rfl rfl hM.2.1 rfl rfl ?_
  refine s_Md_isState hM ok sm ?_
  show m_wp en _ mMd_isSteady 66 [some (.ref M), some (.int (m_i (fr))), some (.int (m_i (go))), some (.int (m_i (mo))), some (.int (m_i (k))), some (.int (m_i (c)))] [(.int (m_i (a_b (a_is (md_cf J M) τ))))] (T, m_I ((md_put J M τ)), P, L, z, w) Q
  refine r_zne (tgt := 72) eMd_isSteady_66 rfl ⟨(by omega), (by omega)⟩ (fun c66 => ?_) (fun c66 => ?_)
  · have his : a_is (md_cf J M) τ = true := Classical.byContradiction (fun q => c66 (a_b_f q))
    have hNb := hN his
    refine r_aln eMd_isSteady_72 rfl ?_
    refine r_vir eMd_isSteady_73 rfl rfl rfl hM.2.1 rfl rfl ?_
    refine s_Md_laid hM ?_
    show m_wp en _ mMd_isSteady 76 [some (.ref M), some (.int (m_i (fr))), some (.int (m_i (go))), some (.int (m_i (mo))), some (.int (m_i (k))), some (.int (m_i (c)))] [(.int (m_i (a_no τ)))] (T, m_I ((md_put J M τ)), P, L, z, w) Q
    refine r_iln eMd_isSteady_76 rfl ?_
    refine r_cne (tgt := 82) eMd_isSteady_77 rfl ⟨(by omega), (by omega)⟩ ⟨(by omega), (by omega)⟩ (fun c77 => ?_) (fun c77 => ?_)
    · refine r_aln eMd_isSteady_82 rfl ?_
      refine r_gete (x := τ.2.2.1) eMd_isSteady_83 rfl (by decide) hM.2.1 (by simp [m_up, md_put_at, m_fl]) ?_
      refine r_sta eMd_isSteady_86 rfl rfl (by decide) rfl ?_
      refine c_Md_without ⟨by omega, by omega⟩ ?_
      show m_wp en _ mMd_isSteady 89 [some (.ref M), some (.int (m_i (fr))), some (.int (m_i (go))), some (.int (m_i (mo))), some (.int (m_i (k))), some (.int (m_i (c)))] [(.int (m_i (a_abs (τ.2.2.1))))] (T, m_I ((md_put J M τ)), P, L, z, w) Q
      refine r_iln eMd_isSteady_89 rfl ?_
      refine r_cgt (tgt := 115) eMd_isSteady_90 rfl ⟨(by omega), (by omega)⟩ ⟨(by omega), (by omega)⟩ (fun c90 => ?_) (fun c90 => ?_)
      · first | exact h1 (fun q => by rw [a_b_t q.1] at c66; omega) (fun q => by rw [a_b_t q.1] at c66; omega) | exact h1 (fun q => by have := q.2; omega) (fun q => by have := q.2; omega) | exact h2 ⟨his, by omega⟩ (by omega) hA | exact h3 ⟨his, by omega⟩ (by omega) hA
      · refine r_aln eMd_isSteady_93 rfl ?_
        refine r_aln eMd_isSteady_94 rfl ?_
        refine r_vir eMd_isSteady_95 rfl rfl rfl hM.2.1 rfl rfl ?_
        refine s_Md_laid hM ?_
        show m_wp en _ mMd_isSteady 98 [some (.ref M), some (.int (m_i (fr))), some (.int (m_i (go))), some (.int (m_i (mo))), some (.int (m_i (k))), some (.int (m_i (c)))] [(.int (m_i (a_no τ))), (.ref M)] (T, m_I ((md_put J M τ)), P, L, z, w) Q
        refine r_aln eMd_isSteady_98 rfl ?_
        refine m_getR eMd_isSteady_99 rfl hM.2.1 (md_far_p hM) ?_
        refine r_aln eMd_isSteady_102 rfl ?_
        refine m_getR eMd_isSteady_103 rfl hM.2.1 (md_line_p hM) ?_
        refine r_il eMd_isSteady_106 rfl ?_
        refine r_ialde (x := J (M + 21) ((k).toNat)) eMd_isSteady_108 (md_line_t hM) (by decide) (by omega) (by omega) (by simp [m_up, md_put_at, m_fl]) ?_
        rw [er]
        refine r_salde (x := J (M + 20) ((r).toNat)) eMd_isSteady_109 (md_far_t hM) (by decide) (by omega) (by omega) (by simp [m_up, md_put_at, m_fl]) ?_
        rw [ef]
        refine r_con eMd_isSteady_110 ?_
        refine r_add eMd_isSteady_111 ?_
        refine r_vir eMd_isSteady_112 rfl rfl rfl hM.2.1 rfl rfl ?_
        refine c_Md_adds hM (hN his) (by omega) ?_ ?_ (fun hA => ?_) (fun hA => ?_)
        · rw [md_put_o J M _ (by omega)]; exact hft _ (by have := hN his; omega)
        · intro q; rw [md_put_f J M _ (by omega)]; rw [md_put_o J M _ (by omega)] at q; exact hroom his q
        · rw [md_put_o J M _ (by omega)] at hA
          show m_wp en _ mMd_isSteady 115 [some (.ref M), some (.int (m_i (fr))), some (.int (m_i (go))), some (.int (m_i (mo))), some (.int (m_i (k))), some (.int (m_i (c)))] [] (T, m_I ((md_put J M τ)), P, L, z, w) Q
          first | exact h1 (fun q => by rw [a_b_t q.1] at c66; omega) (fun q => by rw [a_b_t q.1] at c66; omega) | exact h1 (fun q => by have := q.2; omega) (fun q => by have := q.2; omega) | exact h2 ⟨his, by omega⟩ (by omega) hA | exact h3 ⟨his, by omega⟩ (by omega) hA
        · rw [md_put_o J M _ (by omega)] at hA
          show m_wp en _ mMd_isSteady 115 [some (.ref M), some (.int (m_i (fr))), some (.int (m_i (go))), some (.int (m_i (mo))), some (.int (m_i (k))), some (.int (m_i (c)))] [] (T, m_I ((md_add ((md_put J M τ)) M (a_no τ) ((f) + (1)))), P, L, z, w) Q
          first | exact h1 (fun q => by rw [a_b_t q.1] at c66; omega) (fun q => by rw [a_b_t q.1] at c66; omega) | exact h1 (fun q => by have := q.2; omega) (fun q => by have := q.2; omega) | exact h2 ⟨his, by omega⟩ (by omega) hA | exact h3 ⟨his, by omega⟩ (by omega) hA
    · refine r_con eMd_isSteady_80 ?_
      refine r_zret eMd_isSteady_81 rfl (by first | exact Or.inl rfl | exact Or.inr rfl | omega) ?_
      exact h0 his (by omega)
  · refine r_go (tgt := 115) eMd_isSteady_69 rfl ?_
    first | exact h1 (fun q => by rw [a_b_t q.1] at c66; omega) (fun q => by rw [a_b_t q.1] at c66; omega) | exact h1 (fun q => by have := q.2; omega) (fun q => by have := q.2; omega) | exact h2 ⟨his, by omega⟩ (by omega) hA | exact h3 ⟨his, by omega⟩ (by omega) hA
/-- none of the first k leads from where it is asked -/
def s_nos (C : a_C) (J : Nat → Nat → Int) (M : Nat) (fr : Int) (k : Nat) : Prop := ∀ i, i < k → rq J M i ≠ fr ∧ ∀ c : Int, 0 ≤ c → c < 9 → a_is C (a_back (a_of (rq J M i)) c) = true → a_no (a_back (a_of (rq J M i)) c) ≠ fr
theorem l_Md_sd1 (hM : md_sh en M T P) (ok : a_ok (md_cf J0 M)) {fr go mo : Int} {k : Nat} (hfr : 0 ≤ fr ∧ fr < 38880) (hmo : 0 ≤ mo ∧ mo ≤ 100) (hbd : ∀ t n, b_D (fun x => x = go) (s_G (md_cf J0 M) mo) t n → (∀ t', b_D (fun x => x = go) (s_G (md_cf J0 M) mo) t' n → t ≤ t') → t < 29999)
    (hq1 : ∀ J, md_fs J0 J M → md_far J M → s_sdy (md_cf J0 M) go fr mo → Q (some (.int (m_i 1))) (T, m_I J, P, L, z, w))
    (hk : ∀ (J : Nat → Nat → Int) (o : Option Value), md_fs J0 J M → rw_ok J M → b_I (fun x => x = go) (s_G (md_cf J0 M) mo) (rf J M) (rq J M) (J M 42).toNat (k + 1) → s_nos (md_cf J0 M) J M fr (k + 1) → m_wp en (d + 4) mMd_isSteady 13 [some (.ref M), some (.int (m_i fr)), some (.int (m_i go)), some (.int (m_i mo)), some (.int (m_i ((k + 1 : Nat) : Int))), o] [] (T, m_I J, P, L, z, w) Q) :
    ∀ (n : Nat) (c : Int) (J : Nat → Nat → Int), c + n = 9 → 0 ≤ c → md_fs J0 J M → rc_I (fun x => x = go) (s_G (md_cf J0 M) mo) (fun x c => a_is (md_cf J0 M) (a_back (a_of x) c) = true ∧ a_abs (a_back (a_of x) c).2.2.1 ≤ mo) (fun x c => a_no (a_back (a_of x) c)) J M k c → s_nos (md_cf J0 M) J M fr k → rq J M k ≠ fr → (∀ c' : Int, 0 ≤ c' → c' < c → a_is (md_cf J0 M) (a_back (a_of (rq J M k)) c') = true → a_no (a_back (a_of (rq J M k)) c') ≠ fr) →
      m_wp en (d + 4) mMd_isSteady 38 [some (.ref M), some (.int (m_i fr)), some (.int (m_i go)), some (.int (m_i mo)), some (.int (m_i (k : Int))), some (.int (m_i c))] [] (T, m_I J, P, L, z, w) Q := by
  intro n
  induction n with
  | zero =>
    intro c J hc h0 hfx hI hno hnk hnc
    obtain rfl : c = 9 := by omega
    have r2 := hI.1.2.1
    have hkm := hI.2.2.1
    obtain ⟨e1, e2⟩ := rc_end hI (fun n m h => by obtain ⟨c, c1, c2, c3⟩ := h; exact ⟨c, c1, c2, c3⟩)
    have hno2 : s_nos (md_cf J0 M) J M fr (k + 1) := fun i hi => by
      rcases Nat.lt_or_eq_of_le (Nat.le_of_lt_succ hi) with q | q
      · exact hno i q
      · subst q
        exact ⟨hnk, hnc⟩
    refine r_il eMd_isSteady_38 rfl ?_
    refine r_bip eMd_isSteady_40 (by decide) ?_
    refine r_cge (tgt := 121) eMd_isSteady_42 rfl ⟨(by omega), (by omega)⟩ ⟨(by omega), (by omega)⟩ (fun c42 => ?_) (fun c42 => ?_)
    · refine r_inc (ls' := [some (.ref M), some (.int (m_i (fr))), some (.int (m_i (go))), some (.int (m_i (mo))), some (.int (m_i ((k : Int) + 1))), some (.int (m_i (9)))]) eMd_isSteady_121 rfl rfl ?_
      refine r_go (tgt := 13) eMd_isSteady_124 rfl ?_
      exact hk J _ hfx e1 e2 hno2
    · exfalso; omega
  | succ n ih =>
    intro c J hc h0 hfx hI hno hnk hnc
    have r2 := hI.1.2.1
    have hkm := hI.2.2.1
    have okJ : a_ok (md_cf J M) := by rw [hfx.cf]; exact ok
    obtain ⟨hr, hf0, hf1⟩ := rc_far hI hbd
    have erq : J (M + 21) (k : Int).toNat = rq J M k := by rw [Int.toNat_natCast]; rfl
    have st : ∀ J' : Nat → Nat → Int, m_wp en (d + 4) mMd_isSteady 38 [some (.ref M), some (.int (m_i fr)), some (.int (m_i go)), some (.int (m_i mo)), some (.int (m_i (k : Int))), some (.int (m_i (c + 1)))] [] (T, m_I J', P, L, z, w) Q → m_wp en (d + 4) mMd_isSteady 115 [some (.ref M), some (.int (m_i fr)), some (.int (m_i go)), some (.int (m_i mo)), some (.int (m_i (k : Int))), some (.int (m_i c))] [] (T, m_I J', P, L, z, w) Q := by
      intro J' h
      refine r_inc (ls' := [some (.ref M), some (.int (m_i (fr))), some (.int (m_i (go))), some (.int (m_i (mo))), some (.int (m_i ((k : Int)))), some (.int (m_i (c + 1)))]) eMd_isSteady_115 rfl rfl ?_
      refine r_go (tgt := 38) eMd_isSteady_118 rfl ?_
      exact h
    have hNb : a_is (md_cf J M) (a_back (a_of (rq J M k)) c) = true → 0 ≤ a_no (a_back (a_of (rq J M k)) c) ∧ a_no (a_back (a_of (rq J M k)) c) < 38880 := fun q => a_no_bd (a_is_bx okJ q)
    have hnc2 : ¬ (a_is (md_cf J M) (a_back (a_of (rq J M k)) c) = true ∧ a_no (a_back (a_of (rq J M k)) c) = fr) → ∀ c' : Int, 0 ≤ c' → c' < c + 1 → a_is (md_cf J0 M) (a_back (a_of (rq J M k)) c') = true → a_no (a_back (a_of (rq J M k)) c') ≠ fr := fun hq c' g0 g1 g2 => by
      rcases Int.lt_or_eq_of_le (Int.lt_add_one_iff.mp g1) with q | q
      · exact hnc c' g0 q g2
      · subst q
        rw [← hfx.cf] at g2
        exact fun q2 => hq ⟨g2, q2⟩
    have hnp : ∀ σ : a_S, s_nos (md_cf J0 M) (md_put J M σ) M fr k := fun σ => by
      unfold s_nos
      rw [rq_put]
      exact hno
    have body : m_wp en (d + 4) mMd_isSteady 45 [some (.ref M), some (.int (m_i fr)), some (.int (m_i go)), some (.int (m_i mo)), some (.int (m_i (k : Int))), some (.int (m_i c))] [] (T, m_I J, P, L, z, w) Q := by
      refine l_Md_sd_body hM okJ (by omega) (by omega) hfr hmo erq rfl rfl hr ⟨hf0, hf1⟩ hI.1.1 (fun his hlt => (rc_new hI (hNb his) hlt).2) (fun his heq => ?_) (fun hn hne => st _ ?_) (fun his hne hle => st _ ?_) (fun his hne hgt => st _ ?_)
      · obtain ⟨t, ht, hD⟩ := hI.2.1.2.2.1 k hkm
        exact hq1 _ (hfx.put _) (fun i hi => by rw [md_put_o J M _ (by omega)]; exact hI.1.1 i hi) ⟨t, rq J M k, hD, Or.inr ⟨c, by omega, by rw [← hfx.cf]; exact his, heq.symm⟩⟩
      · exact ih (c + 1) _ (by omega) (by omega) (hfx.put _) (rc_put _ (rc_skip hI (by rw [← hfx.cf]; exact hn))) (hnp _) (by rw [rq_put]; exact hnk) (by rw [rq_put]; exact hnc2 hne)
      · exact ih (c + 1) _ (by omega) (by omega) (hfx.put _) (rc_put _ (rc_old hI (hNb his.1) hle hf1)) (hnp _) (by rw [rq_put]; exact hnk) (by rw [rq_put]; exact hnc2 (fun q => hne q.2))
      · have hI2 := rc_put (a_back (a_of (rq J M k)) c) hI
        have e20 : md_put J M (a_back (a_of (rq J M k)) c) (M + 20) = J (M + 20) := md_put_r J M _ (by omega)
        have e42 : md_put J M (a_back (a_of (rq J M k)) c) M 42 = J M 42 := md_put_f J M _ (by omega)
        have a := (rc_add hI2 (by rw [rq_put]; exact ⟨c, by omega, ⟨by rw [← hfx.cf]; exact his.1, his.2⟩, rfl⟩) (by rw [rq_put]; exact hNb his.1) (by rw [rq_put, e20]; exact hgt) (by rw [rq_put, e20]; exact hf1)).1
        rw [rq_put, e20] at a
        have eq : ∀ i, i < k + 1 → rq (md_add (md_put J M (a_back (a_of (rq J M k)) c)) M (a_no (a_back (a_of (rq J M k)) c)) (J (M + 20) (rq J M k).toNat + 1)) M i = rq J M i := fun i hi => by rw [rq_add (by rw [e42]; omega), rq_put]
        exact ih (c + 1) _ (by omega) (by omega) ((hfx.put _).add _ _) a (fun i hi => by rw [eq i (by omega)]; exact hno i hi) (by rw [eq k (by omega)]; exact hnk) (by rw [eq k (by omega)]; exact hnc2 (fun q => hne q.2))
    refine r_il eMd_isSteady_38 rfl ?_
    refine r_bip eMd_isSteady_40 (by decide) ?_
    refine r_cge (tgt := 121) eMd_isSteady_42 rfl ⟨(by omega), (by omega)⟩ ⟨(by omega), (by omega)⟩ (fun c42 => ?_) (fun c42 => ?_)
    · exfalso; omega
    · exact body
theorem l_Md_sd2 (hM : md_sh en M T P) (ok : a_ok (md_cf J0 M)) {fr go mo : Int} (hfr : 0 ≤ fr ∧ fr < 38880) (hmo : 0 ≤ mo ∧ mo ≤ 100) (hbd : ∀ t n, b_D (fun x => x = go) (s_G (md_cf J0 M) mo) t n → (∀ t', b_D (fun x => x = go) (s_G (md_cf J0 M) mo) t' n → t ≤ t') → t < 29999)
    (hq1 : ∀ J, md_fs J0 J M → md_far J M → s_sdy (md_cf J0 M) go fr mo → Q (some (.int (m_i 1))) (T, m_I J, P, L, z, w)) (hq0 : ∀ J, md_fs J0 J M → md_far J M → ¬ s_sdy (md_cf J0 M) go fr mo → Q (some (.int (m_i 0))) (T, m_I J, P, L, z, w)) :
    ∀ (n k : Nat) (J : Nat → Nat → Int) (o : Option Value), k + n = 38881 → md_fs J0 J M → rw_ok J M → b_I (fun x => x = go) (s_G (md_cf J0 M) mo) (rf J M) (rq J M) (J M 42).toNat k → s_nos (md_cf J0 M) J M fr k →
      m_wp en (d + 4) mMd_isSteady 13 [some (.ref M), some (.int (m_i fr)), some (.int (m_i go)), some (.int (m_i mo)), some (.int (m_i (k : Int))), o] [] (T, m_I J, P, L, z, w) Q := by
  intro n
  induction n with
  | zero =>
    intro k J o hk hfx rok hI hno
    have h1 := hI.2.2.2.2.2.2.2
    have r2 := rok.2.1
    exfalso
    omega
  | succ n ih =>
    intro k J o hk hfx rok hI hno
    have h1 := hI.2.2.2.2.2.2.2
    have r2 := rok.2.1
    have hin : k < (J M 42).toNat → J (M + 21) (k : Int).toNat ≠ fr → m_wp en (d + 4) mMd_isSteady 38 [some (.ref M), some (.int (m_i fr)), some (.int (m_i go)), some (.int (m_i mo)), some (.int (m_i (k : Int))), some (.int (m_i 0))] [] (T, m_I J, P, L, z, w) Q := fun hkm hne =>
      l_Md_sd1 hM ok hfr hmo hbd hq1 (fun J' o' f1 f2 f3 f4 => ih (k + 1) J' o' (by omega) f1 f2 f3 f4) 9 0 J (by omega) (by omega) hfx (rc_beg rok hI hkm) hno (by rw [Int.toNat_natCast] at hne; exact hne) (fun c' g0 g1 => by omega)
    have hrk : k < (J M 42).toNat → 0 ≤ J (M + 21) (k : Int).toNat ∧ J (M + 21) (k : Int).toNat < 38880 := fun hkm => by rw [Int.toNat_natCast]; exact rok.2.2 k hkm
    refine r_il eMd_isSteady_13 rfl ?_
    refine r_aln eMd_isSteady_15 rfl ?_
    refine r_gete (x := J M 42) eMd_isSteady_16 rfl (by decide) hM.2.1 rfl ?_
    refine r_cge (tgt := 127) eMd_isSteady_19 rfl ⟨(by omega), (by omega)⟩ ⟨(by omega), (by omega)⟩ (fun c19 => ?_) (fun c19 => ?_)
    · refine r_con eMd_isSteady_127 ?_
      refine r_zret eMd_isSteady_128 rfl (by first | exact Or.inl rfl | exact Or.inr rfl | omega) ?_
      refine hq0 J hfx rok.1 (fun q => ?_)
      obtain ⟨t, x, hD, hx⟩ := q
      obtain ⟨n', a, -⟩ := b_all hI (by omega) hD
      obtain ⟨i, hi, rfl⟩ := hI.2.1 _ _ a
      rcases hx with hx | ⟨c, c1, c2, c3⟩
      · exact (hno i (by omega)).1 hx
      · exact (hno i (by omega)).2 c c1.1 c1.2 c2 c3.symm
    · have hrk2 := hrk (by omega)
      refine r_aln eMd_isSteady_22 rfl ?_
      refine m_getR eMd_isSteady_23 rfl hM.2.1 (md_line_p hM) ?_
      refine r_il eMd_isSteady_26 rfl ?_
      refine r_ialde (x := J (M + 21) (((k : Int)).toNat)) eMd_isSteady_28 (md_line_t hM) (by decide) (by omega) (by omega) rfl ?_
      refine r_iln eMd_isSteady_29 rfl ?_
      refine r_cne (tgt := 35) eMd_isSteady_30 rfl ⟨(by omega), (by omega)⟩ ⟨(by omega), (by omega)⟩ (fun c30 => ?_) (fun c30 => ?_)
      · refine r_con eMd_isSteady_35 ?_
        refine r_is (ls' := [some (.ref M), some (.int (m_i (fr))), some (.int (m_i (go))), some (.int (m_i (mo))), some (.int (m_i ((k : Int)))), some (.int (m_i (0)))]) eMd_isSteady_36 (Nat.le_of_ble_eq_true rfl) rfl ?_
        exact hin (by omega) (by omega)
      · refine r_con eMd_isSteady_33 ?_
        refine r_zret eMd_isSteady_34 rfl (by first | exact Or.inl rfl | exact Or.inr rfl | omega) ?_
        obtain ⟨t, ht, hD⟩ := hI.2.2.1 k (by omega)
        exact hq1 J hfx rok.1 ⟨t, rq J M k, hD, Or.inl (by unfold rq; rw [← Int.toNat_natCast k]; omega)⟩
theorem c_Md_isSteady (hM : md_sh en M T P) (ok : a_ok (md_cf J M)) {fr go mo : Int} (hfr : 0 ≤ fr ∧ fr < 38880) (hgo : 0 ≤ go ∧ go < 38880) (hgs : a_is (md_cf J M) (a_of go) = true) (hmo : 0 ≤ mo ∧ mo ≤ 100)
    (hq1 : ∀ J1, md_fx J J1 M → J1 M 40 = -2 ∧ J1 M 41 = J M 41 ∧ md_far J1 M → s_sdy (md_cf J M) go fr mo → Q (some (.int (m_i 1))) (T, m_I J1, P, L, z, w)) (hq0 : ∀ J1, md_fx J J1 M → J1 M 40 = -2 ∧ J1 M 41 = J M 41 ∧ md_far J1 M → ¬ s_sdy (md_cf J M) go fr mo → Q (some (.int (m_i 0))) (T, m_I J1, P, L, z, w)) : m_call en (d + 5) mMd_isSteady [.ref M, .int (m_i fr), .int (m_i go), .int (m_i mo)] (T, m_I J, P, L, z, w) Q := by
  have f0 := md_40_fx J M
  have hbd : ∀ t n, b_D (fun x => x = go) (s_G (md_cf J M) mo) t n → (∀ t', b_D (fun x => x = go) (s_G (md_cf J M) mo) t' n → t ≤ t') → t < 29999 := s_bound_g ok (fun n q => by rw [q]; exact ⟨hgs, hgo⟩) (fun n m q => by obtain ⟨c, c1, c2, c3⟩ := q; exact ⟨c, c1, c2.1, c3⟩)
  refine m_into (by decide) (Nat.le_of_ble_eq_true rfl) rfl ?_
  show m_wp en _ mMd_isSteady 0 [some (.ref M), some (.int (m_i (fr))), some (.int (m_i (go))), some (.int (m_i (mo))), none, none] [] (T, m_I J, P, L, z, w) Q
  refine r_aln eMd_isSteady_0 rfl ?_
  refine r_vir eMd_isSteady_1 rfl rfl rfl hM.2.1 rfl rfl ?_
  refine c_Md_empties hM ?_
  show m_wp en _ mMd_isSteady 4 [some (.ref M), some (.int (m_i (fr))), some (.int (m_i (go))), some (.int (m_i (mo))), none, none] [] (T, m_I ((md_e0 J M)), P, L, z, w) Q
  refine r_aln eMd_isSteady_4 rfl ?_
  refine r_iln eMd_isSteady_5 rfl ?_
  refine r_con eMd_isSteady_6 ?_
  refine r_vir eMd_isSteady_7 rfl rfl rfl hM.2.1 rfl rfl ?_
  refine c_Md_adds hM hgo (by omega) (by rw [md_e0_20 J M _ (by omega)]; omega) (fun _ => by rw [md_e0_42]; omega) (fun hA => ?_) (fun hA => ?_)
  · exfalso
    rw [md_e0_20 J M _ (by omega)] at hA
    omega
  · show m_wp en _ mMd_isSteady 10 [some (.ref M), some (.int (m_i (fr))), some (.int (m_i (go))), some (.int (m_i (mo))), none, none] [] (T, m_I ((md_add ((md_e0 J M)) M go 0)), P, L, z, w) Q
    refine r_con eMd_isSteady_10 ?_
    refine r_is (ls' := [some (.ref M), some (.int (m_i (fr))), some (.int (m_i (go))), some (.int (m_i (mo))), some (.int (m_i (0))), none]) eMd_isSteady_11 (Nat.le_of_ble_eq_true rfl) rfl ?_
    obtain ⟨g1, g2⟩ := rc_one (E := s_G (md_cf J M) mo) hgo (md_e0_20 J M) (md_e0_42 J M)
    refine l_Md_sd2 (J0 := m_up J M 40 (-2)) hM (by rw [f0.cf]; exact ok) hfr hmo (by rw [f0.cf]; exact hbd) (fun J1 a1 a9 a2 => hq1 J1 a1.m2.1 ⟨a1.m2.2.1, a1.m2.2.2, a9⟩ (by rw [f0.cf] at a2; exact a2)) (fun J1 a1 a9 a2 => hq0 J1 a1.m2.1 ⟨a1.m2.2.1, a1.m2.2.2, a9⟩ (by rw [f0.cf] at a2; exact a2)) 38881 0 _ _ (by omega) ((md_e0_fs J M).add _ _) g1 (by rw [f0.cf]; exact g2) (fun i hi => by omega)
/-- the least sway by which one comes to a goal -/
def s_stt (C : a_C) (goal fr r : Int) : Prop := (∃ k : Int, (0 ≤ k ∧ k ≤ C.2.2.2.1) ∧ s_sdy C goal fr k ∧ (∀ j, 0 ≤ j → j < k → ¬ s_sdy C goal fr j) ∧ r = k) ∨ ((∀ j, 0 ≤ j → j ≤ C.2.2.2.1 → ¬ s_sdy C goal fr j) ∧ r = -2)
theorem l_Md_steadiest (hM : md_sh en M T P) {x : Int} (hx : 0 ≤ x ∧ x < 6) (hgs : a_is (md_cf J M) (a_of (md_sp J M x)) = true) (hq : ∀ (J1 : Nat → Nat → Int) (r : Int), md_fx J J1 M → md_inv J1 M → s_stt (md_cf J M) (md_sp J M x) (J (M + 22) 0) r → Q (some (.int (m_i r))) (T, m_I J1, P, L, z, w)) :
    ∀ (n : Nat) (k : Int) (J1 : Nat → Nat → Int), k + n = J (M + 2) 3 + 1 → 0 ≤ k → md_fx J J1 M → md_inv J1 M → (∀ j, 0 ≤ j → j < k → ¬ s_sdy (md_cf J M) (md_sp J M x) (J (M + 22) 0) j) → m_wp en (d + 5) mMd_steadiest 39 [some (.ref M), some (.int (m_i x)), some (.int (m_i k))] [] (T, m_I J1, P, L, z, w) Q := by
  intro n
  induction n with
  | zero =>
    intro k J1 hk h0 hfx hinv hno
    have k4 := hinv.pl.2.2.2.1
    have e3 : J1 (M + 2) 3 = J (M + 2) 3 := hfx _ _ (by omega) (by omega) (by omega)
    refine r_iln eMd_steadiest_39 rfl ?_
    refine r_aln eMd_steadiest_40 rfl ?_
    refine m_getR eMd_steadiest_41 rfl hM.2.1 (md_number_p hM) ?_
    refine r_con eMd_steadiest_44 ?_
    refine r_ialde (x := J1 (M + 2) 3) eMd_steadiest_45 (md_number_t hM) (by decide) (by omega) (by omega) rfl ?_
    refine r_cgt (tgt := 76) eMd_steadiest_46 rfl ⟨(by omega), (by omega)⟩ ⟨(by omega), (by omega)⟩ (fun c46 => ?_) (fun c46 => ?_)
    · refine r_bip eMd_steadiest_76 (by decide) ?_
      refine r_iret eMd_steadiest_78 rfl ?_
      exact hq J1 _ hfx hinv (Or.inr ⟨fun j j0 j1 => hno j j0 (by have : j ≤ J (M + 2) 3 := j1; omega), rfl⟩)
    · exfalso; omega
  | succ n ih =>
    intro k J1 hk h0 hfx hinv hno
    have k4 := hinv.pl.2.2.2.1
    have e3 : J1 (M + 2) 3 = J (M + 2) 3 := hfx _ _ (by omega) (by omega) (by omega)
    have e22 : J1 (M + 22) 0 = J (M + 22) 0 := hfx _ _ (by omega) (by omega) (by omega)
    refine r_iln eMd_steadiest_39 rfl ?_
    refine r_aln eMd_steadiest_40 rfl ?_
    refine m_getR eMd_steadiest_41 rfl hM.2.1 (md_number_p hM) ?_
    refine r_con eMd_steadiest_44 ?_
    refine r_ialde (x := J1 (M + 2) 3) eMd_steadiest_45 (md_number_t hM) (by decide) (by omega) (by omega) rfl ?_
    refine r_cgt (tgt := 76) eMd_steadiest_46 rfl ⟨(by omega), (by omega)⟩ ⟨(by omega), (by omega)⟩ (fun c46 => ?_) (fun c46 => ?_)
    · exfalso; omega
    · refine r_aln eMd_steadiest_49 rfl ?_
      refine r_aln eMd_steadiest_50 rfl ?_
      refine m_getR eMd_steadiest_51 rfl hM.2.1 (md_s_p hM) ?_
      refine r_con eMd_steadiest_54 ?_
      refine r_ialde (x := J1 (M + 22) 0) eMd_steadiest_55 (md_s_t hM) (by decide) (by omega) (by omega) rfl ?_
      refine r_aln eMd_steadiest_56 rfl ?_
      refine r_iln eMd_steadiest_57 rfl ?_
      refine r_vir eMd_steadiest_58 rfl rfl rfl hM.2.1 rfl rfl ?_
      refine c_Md_spotState hM (by omega) ?_
      show m_wp en _ mMd_steadiest 61 [some (.ref M), some (.int (m_i (x))), some (.int (m_i (k)))] [(.int (m_i (md_sp J1 M (x)))), (.int (m_i (J1 (M + 22) 0))), (.ref M)] (T, m_I J1, P, L, z, w) Q
      refine r_iln eMd_steadiest_61 rfl ?_
      refine r_vir eMd_steadiest_62 rfl rfl rfl hM.2.1 rfl rfl ?_
      refine c_Md_isSteady hM hinv.ok hinv.hs (md_sp_bd2 hinv.hsb (by omega)) (by rw [hfx.cf, hfx.fy.sp]; exact hgs) (by omega) (fun J2 f1 f2 f3 => ?_) (fun J2 f1 f2 f3 => ?_)
      · rw [hfx.cf, hfx.fy.sp, e22] at f3
        show m_wp en _ mMd_steadiest 65 [some (.ref M), some (.int (m_i (x))), some (.int (m_i (k)))] [(.int (m_i (1)))] (T, m_I J2, P, L, z, w) Q
        refine r_zeq (tgt := 70) eMd_steadiest_65 rfl ⟨(by omega), (by omega)⟩ (fun c65 => ?_) (fun c65 => ?_)
        · exfalso; omega
        · refine r_iln eMd_steadiest_68 rfl ?_
          refine r_iret eMd_steadiest_69 rfl ?_
          first | (exfalso; omega) | exact hq J2 k (hfx.trans f1) (hinv.fx f1 (md_kp_m2 f2.1 ⟨by rw [f2.2.1]; exact hinv.hkp.1.2.1, f2.2.2⟩)) (Or.inl ⟨k, ⟨h0, by show k ≤ J (M + 2) 3; omega⟩, f3, hno, rfl⟩)
      · rw [hfx.cf, hfx.fy.sp, e22] at f3
        show m_wp en _ mMd_steadiest 65 [some (.ref M), some (.int (m_i (x))), some (.int (m_i (k)))] [(.int (m_i (0)))] (T, m_I J2, P, L, z, w) Q
        refine r_zeq (tgt := 70) eMd_steadiest_65 rfl ⟨(by omega), (by omega)⟩ (fun c65 => ?_) (fun c65 => ?_)
        · refine r_inc (ls' := [some (.ref M), some (.int (m_i (x))), some (.int (m_i (k + 1)))]) eMd_steadiest_70 rfl rfl ?_
          refine r_go (tgt := 39) eMd_steadiest_73 rfl ?_
          refine ih (k + 1) J2 (by omega) (by omega) (hfx.trans f1) (hinv.fx f1 (md_kp_m2 f2.1 ⟨by rw [f2.2.1]; exact hinv.hkp.1.2.1, f2.2.2⟩)) (fun j j0 j1 => ?_)
          rcases Int.lt_or_eq_of_le (Int.lt_add_one_iff.mp j1) with q | q
          · exact hno j j0 q
          · rw [q]; exact f3
        · exfalso; omega
theorem c_Md_steadiest (hM : md_sh en M T P) (hJ : m_up J0 M 0 0 = J) (hinv : md_inv J M) {x : Int} (hx : m_in x)
    (hq0 : ¬ (0 ≤ x ∧ x < J (M + 2) 4) → Q (some (.int (m_i (-1)))) (T, m_I J, P, L, z, w))
    (hq1 : (0 ≤ x ∧ x < J (M + 2) 4) → ¬ (a_why (md_cf J M) (a_of (J (M + 22) 0)) = 0 ∧ a_is (md_cf J M) (a_of (md_sp J M x)) = true) → ∀ (J1 : Nat → Nat → Int), md_fx J J1 M → md_inv J1 M → Q (some (.int (m_i (-2)))) (T, m_I J1, P, L, z, w))
    (hq2 : (0 ≤ x ∧ x < J (M + 2) 4) → (a_why (md_cf J M) (a_of (J (M + 22) 0)) = 0 ∧ a_is (md_cf J M) (a_of (md_sp J M x)) = true) → ∀ (J1 : Nat → Nat → Int) (r : Int), md_fx J J1 M → md_inv J1 M → s_stt (md_cf J M) (md_sp J M x) (J (M + 22) 0) r → Q (some (.int (m_i r))) (T, m_I J1, P, L, z, w)) : m_call en (d + 6) mMd_steadiest [.ref M, .int (m_i x)] (T, m_I J0, P, L, z, w) Q := by
  unfold m_in at hx
  have hsb1 := hinv.hsb.1
  have hwb := a_why_bd (md_cf J M) (a_of (J (M + 22) 0))
  have hspb : 0 ≤ x ∧ x < J (M + 2) 4 → 0 ≤ md_sp J M x ∧ md_sp J M x < 38880 := fun q => md_sp_bd2 hinv.hsb (by omega)
  have hb01 := a_b_01 (a_is (md_cf J M) (a_of (md_sp J M x)))
  have k4 := hinv.pl.2.2.2.1
  refine m_into (by decide) (Nat.le_of_ble_eq_true rfl) rfl ?_
  show m_wp en _ mMd_steadiest 0 [some (.ref M), some (.int (m_i (x))), none] [] (T, m_I J0, P, L, z, w) Q
  refine r_aln eMd_steadiest_0 rfl ?_
  refine r_con eMd_steadiest_1 ?_
  refine r_put eMd_steadiest_2 rfl hM.2.1 hM.1 (Or.inl rfl) ?_
  rw [hJ]
  refine r_aln eMd_steadiest_5 rfl ?_
  refine r_iln eMd_steadiest_6 rfl ?_
  refine r_vir eMd_steadiest_7 rfl rfl rfl hM.2.1 rfl rfl ?_
  refine c_Md_isSpot hM ⟨by omega, by omega⟩ ⟨by omega, by omega⟩ ?_
  show m_wp en _ mMd_steadiest 10 [some (.ref M), some (.int (m_i (x))), none] [(.int (m_i (if 0 ≤ x ∧ x < J (M + 2) 4 then 1 else 0)))] (T, m_I J, P, L, z, w) Q
  refine r_zne (tgt := 15) eMd_steadiest_10 rfl ⟨(by omega), (by omega)⟩ (fun c10 => ?_) (fun c10 => ?_)
  · have hsp2 := hspb (by omega)
    refine r_aln eMd_steadiest_15 rfl ?_
    refine r_vir eMd_steadiest_16 rfl rfl rfl hM.2.1 rfl rfl ?_
    refine z_Md_whyNow hM hinv.ok hinv.hs ?_
    show m_wp en _ mMd_steadiest 19 [some (.ref M), some (.int (m_i (x))), none] [(.int (m_i (a_why (md_cf J M) (a_of (J (M + 22) 0)))))] (T, m_I ((md_put J M (a_of (J (M + 22) 0)))), P, L, z, w) Q
    refine r_zne (tgt := 34) eMd_steadiest_19 rfl ⟨(by omega), (by omega)⟩ (fun c19 => ?_) (fun c19 => ?_)
    · refine r_bip eMd_steadiest_34 (by decide) ?_
      refine r_iret eMd_steadiest_36 rfl ?_
      first | exact hq1 (by omega) (fun q => by have := q.1; omega) _ ((md_fx.refl J M).put _) (hinv.put _) | exact hq1 (by omega) (fun q => by rw [a_b_t q.2] at c31; omega) _ ((md_fx.refl J M).put _) (hinv.put _)
    · refine r_aln eMd_steadiest_22 rfl ?_
      refine r_aln eMd_steadiest_23 rfl ?_
      refine r_iln eMd_steadiest_24 rfl ?_
      refine r_vir eMd_steadiest_25 rfl rfl rfl hM.2.1 rfl rfl ?_
      refine s_Md_spotState hM (by omega) ?_
      show m_wp en _ mMd_steadiest 28 [some (.ref M), some (.int (m_i (x))), none] [(.int (m_i (md_sp J M (x)))), (.ref M)] (T, m_I ((md_put J M (a_of (J (M + 22) 0)))), P, L, z, w) Q
      refine r_vir eMd_steadiest_28 rfl rfl rfl hM.2.1 rfl rfl ?_
      refine s_Md_doesStand hM hinv.ok (by omega) (by omega) ?_
      show m_wp en _ mMd_steadiest 31 [some (.ref M), some (.int (m_i (x))), none] [(.int (m_i (a_b (a_is (md_cf J M) (a_of ((md_sp J M (x))))))))] (T, m_I ((md_put J M (a_of ((md_sp J M (x)))))), P, L, z, w) Q
      refine r_zne (tgt := 37) eMd_steadiest_31 rfl ⟨(by omega), (by omega)⟩ (fun c31 => ?_) (fun c31 => ?_)
      · refine r_con eMd_steadiest_37 ?_
        refine r_isn (ls' := [some (.ref M), some (.int (m_i (x))), some (.int (m_i (0)))]) eMd_steadiest_38 (Nat.le_of_ble_eq_true rfl) rfl ?_
        have hgs : a_is (md_cf J M) (a_of (md_sp J M x)) = true := Classical.byContradiction (fun q => c31 (a_b_f q))
        exact l_Md_steadiest (J := J) hM (by omega) hgs (fun J1 r a1 a2 a3 => hq2 (by omega) ⟨by omega, hgs⟩ J1 r a1 a2 a3) (J (M + 2) 3 + 1).toNat 0 _ (by omega) (by omega) ((md_fx.refl J M).put _) (hinv.put _) (fun j j0 j1 => by omega)
      · refine r_bip eMd_steadiest_34 (by decide) ?_
        refine r_iret eMd_steadiest_36 rfl ?_
        first | exact hq1 (by omega) (fun q => by have := q.1; omega) _ ((md_fx.refl J M).put _) (hinv.put _) | exact hq1 (by omega) (fun q => by rw [a_b_t q.2] at c31; omega) _ ((md_fx.refl J M).put _) (hinv.put _)
  · refine r_con eMd_steadiest_13 ?_
    refine r_iret eMd_steadiest_14 rfl ?_
    exact hq0 (by omega)
end MDSD
