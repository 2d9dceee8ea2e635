/-! between, nearest, ifWind of the reference -/
/-- the same but for what any question writes -/
def md_fy (J J' : Nat → Nat → Int) (M : Nat) : Prop := ∀ b i, b ≠ M + 20 → b ≠ M + 21 → b ≠ M + 24 → b ≠ M + 25 → b ≠ M + 26 → ¬ (b = M ∧ (i = 0 ∨ (33 ≤ i ∧ i ≤ 37) ∨ (40 ≤ i ∧ i ≤ 42) ∨ i = 49 ∨ i = 51 ∨ i = 52)) → J' b i = J b i
section FY
variable {J J1 J2 : Nat → Nat → Int} {M : Nat}
theorem md_fx.fy (h : md_fx J J1 M) : md_fy J J1 M := fun b i a1 a2 _ _ _ a3 => h b i a1 a2 (by omega)
theorem md_fy.refl (J : Nat → Nat → Int) (M : Nat) : md_fy J J M := fun _ _ _ _ _ _ _ _ => rfl
theorem md_fy.trans (h : md_fy J J1 M) (h2 : md_fy J1 J2 M) : md_fy J J2 M := fun b i a1 a2 a3 a4 a5 a6 => (h2 b i a1 a2 a3 a4 a5 a6).trans (h b i a1 a2 a3 a4 a5 a6)
theorem md_fy.r (h : md_fy J J1 M) {k : Nat} (h0 : 0 < k ∧ k ≤ 19 ∨ k = 22 ∨ k = 23) : J1 (M + k) = J (M + k) := funext (fun i => h _ _ (by omega) (by omega) (by omega) (by omega) (by omega) (by omega))
theorem md_fy.f (h : md_fy J J1 M) {i : Nat} (h0 : (0 < i ∧ i < 33) ∨ i = 45 ∨ i = 46) : J1 M i = J M i := h M i (by omega) (by omega) (by omega) (by omega) (by omega) (by omega)
theorem md_fy.cf (h : md_fy J J1 M) : md_cf J1 M = md_cf J M := md_cf_eq (h.r (by omega)) (h.r (by omega)) (h.f (by omega))
theorem md_inv.fy (h : md_inv J M) (fy : md_fy J J1 M) (kp : md_kp J1 M) : md_inv J1 M := by
  have ef : md_fr J1 M = md_fr J M := by
    funext i
    unfold md_fr
    rw [fy.r (k := 17) (by omega), fy.r (k := 18) (by omega)]
  obtain ⟨⟨h1, h2, h3, h4⟩, h5, h6⟩ := h
  refine ⟨⟨?_, ?_, ?_, kp.1.2⟩, ?_, kp⟩
  · unfold md_pl at h1 ⊢
    rw [fy.r (k := 2) (by omega), fy.r (k := 4) (by omega), fy.r (k := 5) (by omega), fy.r (k := 6) (by omega), fy.r (k := 10) (by omega), fy.r (k := 11) (by omega), fy.r (k := 12) (by omega), fy.r (k := 13) (by omega), fy.r (k := 14) (by omega), fy.r (k := 15) (by omega), fy.r (k := 17) (by omega)]
    exact h1
  · rw [fy.r (k := 22) (by omega)]
    exact h2
  · unfold md_kr at h3 ⊢
    rw [fy.r (k := 23) (by omega), fy.f (i := 45) (by omega), fy.f (i := 46) (by omega)]
    exact h3
  · unfold md_co at h5 ⊢
    rw [fy.r (k := 22) (by omega), fy.r (k := 18) (by omega), fy.r (k := 19) (by omega), fy.f (i := 32) (by omega), ef]
    exact h5
theorem md_sp_bd2 (h : md_sb J M) {x : Int} (hx : 0 ≤ x ∧ x < 12) : 0 ≤ md_sp J M x ∧ md_sp J M x < 38880 := by
  have h1 := h.2 x.toNat (by omega)
  unfold md_sp a_no
  simp only
  omega
theorem md_fy.sp (h : md_fy J J1 M) (x : Int) : md_sp J1 M x = md_sp J M x := by
  unfold md_sp
  rw [h.r (k := 5) (by omega), h.r (k := 6) (by omega)]
/-- a search that may have ended early -/
theorem s_half_ans {J0 : Nat → Nat → Int} {goal lev fr : Int} {k : Nat} (rok : rw_ok J M) (hI : b_I (s_S (md_cf J0 M) goal) (s_E (md_cf J0 M) lev) (rf J M) (rq J M) (J M 42).toNat k) (hk : k = (J M 42).toNat ∨ (fr ≠ 38880 ∧ J (M + 20) fr.toNat ≠ 30000)) (hn : 0 ≤ fr ∧ fr < 38880) : s_ans (md_cf J0 M) goal lev fr (if J (M + 20) fr.toNat = 30000 then -2 else J (M + 20) fr.toNat) := by
  by_cases hf : J (M + 20) fr.toNat = 30000
  · rw [if_pos hf]
    refine Or.inl ⟨rfl, fun t ht => ?_⟩
    obtain ⟨n', a, -⟩ := b_all hI (by rcases hk with q | q; exact q; exact absurd hf q.2) ht
    exact (rf_inv a).2.1 hf
  · rw [if_neg hf]
    have h1 := b_exact hI (rf_some hn hf)
    have hb := rok.1 fr.toNat (by omega)
    exact Or.inr ⟨(J (M + 20) fr.toNat).toNat, by omega, h1.1, h1.2⟩
end FY
/-- fewest steps from a state to another one -/
def s_btw (C : a_C) (fr g r : Int) : Prop := (¬ a_is C (a_of fr) = true ∧ r = -2) ∨ (a_is C (a_of fr) = true ∧ fr = g ∧ r = 0) ∨ (a_is C (a_of fr) = true ∧ fr ≠ g ∧ s_ans C g 0 fr r)
theorem s_btw_u {C : a_C} {fr g r r' : Int} (h : s_btw C fr g r) (h' : s_btw C fr g r') : r = r' := by
  rcases h with ⟨a, b⟩ | ⟨a, b, c⟩ | ⟨a, b, c⟩ <;> rcases h' with ⟨a', b'⟩ | ⟨a', b', c'⟩ | ⟨a', b', c'⟩
  · omega
  · exact absurd a' a
  · exact absurd a' a
  · exact absurd a a'
  · omega
  · exact absurd b b'
  · exact absurd a a'
  · exact absurd b' b
  · exact s_ans_u c c'
/-- fewest steps from now to a goal -/
def s_few (C : a_C) (goal lev n r : Int) : Prop := (¬ a_why C (a_of n) = 0 ∧ r = -2) ∨ (a_why C (a_of n) = 0 ∧ s_ans C goal lev n r)
theorem s_few_u {C : a_C} {goal lev n r r' : Int} (h : s_few C goal lev n r) (h' : s_few C goal lev n r') : r = r' := by
  rcases h with ⟨a, b⟩ | ⟨a, b⟩ <;> rcases h' with ⟨a', b'⟩ | ⟨a', b'⟩
  · omega
  · exact absurd a' a
  · exact absurd a a'
  · exact s_ans_u b b'
section MDBT
variable {en : Nat → Nat} {d : Nat} {T : Nat → Option (Nat × Nat)} {J J0 J1 : Nat → Nat → Int} {P : Nat → Nat → Option Nat} {L : Nat → Nat → Int64} {z w M : Nat} {Q : m_Q} {σ : a_S}
theorem c_Md_fewestFrom (hM : md_sh en M T P) (ok : a_ok (md_cf J M)) (hkp : md_kp J M) {fr g : Int} (hfr : 0 ≤ fr ∧ fr < 38880) (hg : -1 ≤ g ∧ g < 100000)
    (hq : ∀ (J1 : Nat → Nat → Int) (r : Int), md_fx J J1 M → md_kp J1 M → s_btw (md_cf J M) fr g r → (-2 ≤ r ∧ r < 30000) → Q (some (.int (m_i r))) (T, m_I J1, P, L, z, w)) : m_call en (d + 7) mMd_fewestFrom [.ref M, .int (m_i fr), .int (m_i g)] (T, m_I J, P, L, z, w) Q := by
  have hb01 := a_b_01 (a_is (md_cf J M) (a_of fr))
  have hgi : m_in g := by unfold m_in; omega
  refine m_into (by decide) (Nat.le_of_ble_eq_true rfl) rfl ?_
  show m_wp en _ mMd_fewestFrom 0 [some (.ref M), some (.int (m_i (fr))), some (.int (m_i (g)))] [] (T, m_I J, P, L, z, w) Q
  refine r_aln eMd_fewestFrom_0 rfl ?_
  refine r_iln eMd_fewestFrom_1 rfl ?_
  refine r_vir eMd_fewestFrom_2 rfl rfl rfl hM.2.1 rfl rfl ?_
  refine c_Md_doesStand hM ok (by omega) (by omega) ?_
  show m_wp en _ mMd_fewestFrom 5 [some (.ref M), some (.int (m_i (fr))), some (.int (m_i (g)))] [(.int (m_i (a_b (a_is (md_cf J M) (a_of fr)))))] (T, m_I ((md_put J M (a_of fr))), P, L, z, w) Q
  refine r_zne (tgt := 11) eMd_fewestFrom_5 rfl ⟨(by omega), (by omega)⟩ (fun c5 => ?_) (fun c5 => ?_)
  · have his : a_is (md_cf J M) (a_of fr) = true := Classical.byContradiction (fun q => c5 (a_b_f q))
    refine r_iln eMd_fewestFrom_11 rfl ?_
    refine r_iln eMd_fewestFrom_12 rfl ?_
    refine r_cne (tgt := 18) eMd_fewestFrom_13 rfl ⟨(by omega), (by omega)⟩ ⟨(by omega), (by omega)⟩ (fun c13 => ?_) (fun c13 => ?_)
    · refine r_aln eMd_fewestFrom_18 rfl ?_
      refine r_iln eMd_fewestFrom_19 rfl ?_
      refine r_con eMd_fewestFrom_20 ?_
      refine r_iln eMd_fewestFrom_21 rfl ?_
      refine r_vir eMd_fewestFrom_22 rfl rfl rfl hM.2.1 rfl rfl ?_
      refine c_Md_seeksFrom hM (by rw [md_cf_put]; exact ok) hgi (by omega) (by omega) (s_bound (by rw [md_cf_put]; exact ok)) (fun J1 k1 f1 f40 f2 f3 f4 => ?_)
      · have ha := s_half_ans f2 f3 f4 hfr
        rw [md_cf_put] at ha
        have hb := f2.1 fr.toNat (by omega)
        have hf := ((md_fx.refl J M).put (a_of fr)).trans f1
        have hk1 : md_kp J1 M := md_kp_m2 f40.1 ⟨by rw [f40.2, md_put_f _ _ _ (by omega)]; exact hkp.1.2.1, f2.1⟩
        show m_wp en _ mMd_fewestFrom 25 [some (.ref M), some (.int (m_i (fr))), some (.int (m_i (g)))] [] (T, m_I J1, P, L, z, w) Q
        refine r_aln eMd_fewestFrom_25 rfl ?_
        refine m_getR eMd_fewestFrom_26 rfl hM.2.1 (md_far_p hM) ?_
        refine r_iln eMd_fewestFrom_29 rfl ?_
        refine r_salde (x := J1 (M + 20) ((fr).toNat)) eMd_fewestFrom_30 (md_far_t hM) (by decide) (by omega) (by omega) rfl ?_
        refine r_sip eMd_fewestFrom_31 (by decide) ?_
        refine r_cne (tgt := 42) eMd_fewestFrom_34 rfl ⟨(by omega), (by omega)⟩ ⟨(by omega), (by omega)⟩ (fun c34 => ?_) (fun c34 => ?_)
        · refine r_aln eMd_fewestFrom_42 rfl ?_
          refine m_getR eMd_fewestFrom_43 rfl hM.2.1 (md_far_p hM) ?_
          refine r_iln eMd_fewestFrom_46 rfl ?_
          refine r_salde (x := J1 (M + 20) ((fr).toNat)) eMd_fewestFrom_47 (md_far_t hM) (by decide) (by omega) (by omega) rfl ?_
          refine r_iret eMd_fewestFrom_48 rfl ?_
          (first | rw [if_pos (by omega)] at ha | rw [if_neg (by omega)] at ha)
          exact hq J1 _ hf hk1 (Or.inr (Or.inr ⟨his, by omega, ha⟩)) (by omega)
        · refine r_bip eMd_fewestFrom_37 (by decide) ?_
          refine r_go (tgt := 48) eMd_fewestFrom_39 rfl ?_
          refine r_iret eMd_fewestFrom_48 rfl ?_
          (first | rw [if_pos (by omega)] at ha | rw [if_neg (by omega)] at ha)
          exact hq J1 _ hf hk1 (Or.inr (Or.inr ⟨his, by omega, ha⟩)) (by omega)
    · refine r_con eMd_fewestFrom_16 ?_
      refine r_iret eMd_fewestFrom_17 rfl ?_
      exact hq _ _ ((md_fx.refl J M).put _) (md_kp_put _ hkp) (Or.inr (Or.inl ⟨his, by omega, rfl⟩)) (by omega)
  · refine r_bip eMd_fewestFrom_8 (by decide) ?_
    refine r_iret eMd_fewestFrom_10 rfl ?_
    exact hq _ _ ((md_fx.refl J M).put _) (md_kp_put _ hkp) (Or.inl ⟨fun q => by rw [a_b_t q] at c5; omega, rfl⟩) (by omega)
theorem c_Md_between (hM : md_sh en M T P) (hJ : m_up J0 M 0 0 = J) (hinv : md_inv J M) {x y : Int} (hx : m_in x) (hy : m_in y)
    (hq0 : ¬ ((0 ≤ x ∧ x < J (M + 2) 4) ∧ 0 ≤ y ∧ y < J (M + 2) 4) → Q (some (.int (m_i (-1)))) (T, m_I J, P, L, z, w))
    (hq1 : ((0 ≤ x ∧ x < J (M + 2) 4) ∧ 0 ≤ y ∧ y < J (M + 2) 4) → x = y → Q (some (.int (m_i 0))) (T, m_I J, P, L, z, w))
    (hq2 : ((0 ≤ x ∧ x < J (M + 2) 4) ∧ 0 ≤ y ∧ y < J (M + 2) 4) → x ≠ y → ∀ (J1 : Nat → Nat → Int) (r : Int), md_fx J J1 M → md_kp J1 M → s_btw (md_cf J M) (md_sp J M x) (md_sp J M y) r → Q (some (.int (m_i r))) (T, m_I J1, P, L, z, w)) : m_call en (d + 8) mMd_between [.ref M, .int (m_i x), .int (m_i y)] (T, m_I J0, P, L, z, w) Q := by
  unfold m_in at hx hy
  have hsb1 := hinv.hsb.1
  refine m_into (by decide) (Nat.le_of_ble_eq_true rfl) rfl ?_
  show m_wp en _ mMd_between 0 [some (.ref M), some (.int (m_i (x))), some (.int (m_i (y)))] [] (T, m_I J0, P, L, z, w) Q
  refine r_aln eMd_between_0 rfl ?_
  refine r_con eMd_between_1 ?_
  refine r_put eMd_between_2 rfl hM.2.1 hM.1 (Or.inl rfl) ?_
  rw [hJ]
  refine r_aln eMd_between_5 rfl ?_
  refine r_iln eMd_between_6 rfl ?_
  refine r_vir eMd_between_7 rfl rfl rfl hM.2.1 rfl rfl ?_
  refine c_Md_isSpot hM ⟨by omega, by omega⟩ ⟨by omega, by omega⟩ ?_
  show m_wp en _ mMd_between 10 [some (.ref M), some (.int (m_i (x))), some (.int (m_i (y)))] [(.int (m_i (if 0 ≤ x ∧ x < J (M + 2) 4 then 1 else 0)))] (T, m_I J, P, L, z, w) Q
  refine r_zeq (tgt := 21) eMd_between_10 rfl ⟨(by omega), (by omega)⟩ (fun c10 => ?_) (fun c10 => ?_)
  · refine r_con eMd_between_21 ?_
    refine r_iret eMd_between_22 rfl ?_
    exact hq0 (by omega)
  · refine r_aln eMd_between_13 rfl ?_
    refine r_iln eMd_between_14 rfl ?_
    refine r_vir eMd_between_15 rfl rfl rfl hM.2.1 rfl rfl ?_
    refine c_Md_isSpot hM ⟨by omega, by omega⟩ ⟨by omega, by omega⟩ ?_
    show m_wp en _ mMd_between 18 [some (.ref M), some (.int (m_i (x))), some (.int (m_i (y)))] [(.int (m_i (if 0 ≤ y ∧ y < J (M + 2) 4 then 1 else 0)))] (T, m_I J, P, L, z, w) Q
    refine r_zne (tgt := 23) eMd_between_18 rfl ⟨(by omega), (by omega)⟩ (fun c18 => ?_) (fun c18 => ?_)
    · refine r_iln eMd_between_23 rfl ?_
      refine r_iln eMd_between_24 rfl ?_
      refine r_cne (tgt := 32) eMd_between_25 rfl ⟨(by omega), (by omega)⟩ ⟨(by omega), (by omega)⟩ (fun c25 => ?_) (fun c25 => ?_)
      · refine r_aln eMd_between_32 rfl ?_
        refine r_aln eMd_between_33 rfl ?_
        refine r_iln eMd_between_34 rfl ?_
        refine r_vir eMd_between_35 rfl rfl rfl hM.2.1 rfl rfl ?_
        refine c_Md_spotState hM (by omega) ?_
        show m_wp en _ mMd_between 38 [some (.ref M), some (.int (m_i (x))), some (.int (m_i (y)))] [(.int (m_i (md_sp J M (x)))), (.ref M)] (T, m_I J, P, L, z, w) Q
        refine r_aln eMd_between_38 rfl ?_
        refine r_iln eMd_between_39 rfl ?_
        refine r_vir eMd_between_40 rfl rfl rfl hM.2.1 rfl rfl ?_
        refine c_Md_spotState hM (by omega) ?_
        show m_wp en _ mMd_between 43 [some (.ref M), some (.int (m_i (x))), some (.int (m_i (y)))] [(.int (m_i (md_sp J M (y)))), (.int (m_i (md_sp J M (x)))), (.ref M)] (T, m_I J, P, L, z, w) Q
        refine r_vir eMd_between_43 rfl rfl rfl hM.2.1 rfl rfl ?_
        refine c_Md_fewestFrom hM hinv.ok hinv.hkp (md_sp_bd2 hinv.hsb (by omega)) (md_sp_bd hinv.hsb (by omega)) (fun J1 r hfx hkp1 hb hrb => ?_)
        · show m_wp en _ mMd_between 46 [some (.ref M), some (.int (m_i (x))), some (.int (m_i (y)))] [(.int (m_i (r)))] (T, m_I J1, P, L, z, w) Q
          refine r_iret eMd_between_46 rfl ?_
          first | exact hq1 (by omega) (by omega) | exact hq2 (by omega) (by omega) J1 r hfx hkp1 hb
      · refine r_con eMd_between_28 ?_
        refine r_go (tgt := 46) eMd_between_29 rfl ?_
        refine r_iret eMd_between_46 rfl ?_
        first | exact hq1 (by omega) (by omega) | exact hq2 (by omega) (by omega) J1 r hfx hkp1 hb
    · refine r_con eMd_between_21 ?_
      refine r_iret eMd_between_22 rfl ?_
      exact hq0 (by omega)
/-- fewestTo, told by one relation -/
theorem f_Md_fewestTo (hM : md_sh en M T P) (ok : a_ok (md_cf J M)) (hs : 0 ≤ J (M + 22) 0 ∧ J (M + 22) 0 < 38880) {goal lev : Int} (hg : -1 ≤ goal ∧ goal < 100000) (hl : lev = 0 ∨ lev = 1) (hkp : md_kp J M)
    (hq : ∀ (J1 : Nat → Nat → Int) (r : Int), md_fx J J1 M → md_kp J1 M → s_few (md_cf J M) goal lev (J (M + 22) 0) r → (-2 ≤ r ∧ r < 30000) → Q (some (.int (m_i r))) (T, m_I J1, P, L, z, w)) : m_call en (d + 8) mMd_fewestTo [.ref M, .int (m_i goal), .int (m_i lev)] (T, m_I J, P, L, z, w) Q :=
  k_Md_fewestTo hM ok hs hg hl hkp (fun h => hq _ _ ((md_fx.refl J M).put _) (md_kp_put _ hkp) (Or.inl ⟨h, rfl⟩) (by omega)) (fun h J1 r a b c e => hq J1 r b.1 a (Or.inr ⟨h, c⟩) e)
/-- the nearest of the first k spots -/
def md_nr (J : Nat → Nat → Int) (M : Nat) : Nat → Int → Int → Prop
  | 0, b, l => b = -2 ∧ l = 30000
  | k + 1, b, l => ∃ b0 l0 r, md_nr J M k b0 l0 ∧ s_few (md_cf J M) (md_sp J M (k : Int)) 0 (J (M + 22) 0) r ∧ (((r = -2 ∨ l0 ≤ r) ∧ b = b0 ∧ l = l0) ∨ (¬ (r = -2 ∨ l0 ≤ r) ∧ b = (k : Int) ∧ l = r))
theorem l_Md_nearest (hM : md_sh en M T P) (hN : 0 ≤ J (M + 2) 4 ∧ J (M + 2) 4 ≤ 6) (hq : ∀ (J1 : Nat → Nat → Int) (b l : Int), md_fx J J1 M → md_inv J1 M → md_nr J M (J (M + 2) 4).toNat b l → Q (some (.int (m_i b))) (T, m_I J1, P, L, z, w)) :
    ∀ (m k : Nat) (b l : Int) (J1 : Nat → Nat → Int) (o4 : Option Value), (k : Int) + m = J (M + 2) 4 → md_fx J J1 M → md_inv J1 M → md_nr J M k b l → (-2 ≤ b ∧ b < 10) → (-2 ≤ l ∧ l ≤ 30000) → m_wp en (d + 8) mMd_nearest 14 [some (.ref M), some (.int (m_i b)), some (.int (m_i l)), some (.int (m_i (k : Int))), o4] [] (T, m_I J1, P, L, z, w) Q := by
  intro m
  induction m with
  | zero =>
    intro k b l J1 o4 hk hfx hinv hnr hb hl
    have e4 : J1 (M + 2) 4 = J (M + 2) 4 := hfx _ _ (by omega) (by omega) (by omega)
    refine r_iln eMd_nearest_14 rfl ?_
    refine r_aln eMd_nearest_15 rfl ?_
    refine m_getR eMd_nearest_16 rfl hM.2.1 (md_number_p hM) ?_
    refine r_con eMd_nearest_19 ?_
    refine r_ialde (x := J1 (M + 2) 4) eMd_nearest_20 (md_number_t hM) (by decide) (by omega) (by omega) rfl ?_
    refine r_cge (tgt := 63) eMd_nearest_21 rfl ⟨(by omega), (by omega)⟩ ⟨(by omega), (by omega)⟩ (fun c21 => ?_) (fun c21 => ?_)
    · refine r_iln eMd_nearest_63 rfl ?_
      refine r_iret eMd_nearest_64 rfl ?_
      refine hq J1 b l hfx hinv ?_
      rw [show (J (M + 2) 4).toNat = k by omega]
      exact hnr
    · exfalso; omega
  | succ m ih =>
    intro k b l J1 o4 hk hfx hinv hnr hb hl
    have e4 : J1 (M + 2) 4 = J (M + 2) 4 := hfx _ _ (by omega) (by omega) (by omega)
    have e22 : J1 (M + 22) 0 = J (M + 22) 0 := hfx _ _ (by omega) (by omega) (by omega)
    refine r_iln eMd_nearest_14 rfl ?_
    refine r_aln eMd_nearest_15 rfl ?_
    refine m_getR eMd_nearest_16 rfl hM.2.1 (md_number_p hM) ?_
    refine r_con eMd_nearest_19 ?_
    refine r_ialde (x := J1 (M + 2) 4) eMd_nearest_20 (md_number_t hM) (by decide) (by omega) (by omega) rfl ?_
    refine r_cge (tgt := 63) eMd_nearest_21 rfl ⟨(by omega), (by omega)⟩ ⟨(by omega), (by omega)⟩ (fun c21 => ?_) (fun c21 => ?_)
    · exfalso; omega
    · refine r_aln eMd_nearest_24 rfl ?_
      refine r_aln eMd_nearest_25 rfl ?_
      refine r_iln eMd_nearest_26 rfl ?_
      refine r_vir eMd_nearest_27 rfl rfl rfl hM.2.1 rfl rfl ?_
      refine c_Md_spotState hM (by omega) ?_
      show m_wp en _ mMd_nearest 30 [some (.ref M), some (.int (m_i (b))), some (.int (m_i (l))), some (.int (m_i ((k : Int)))), o4] [(.int (m_i (md_sp J1 M (((k : Int)))))), (.ref M)] (T, m_I J1, P, L, z, w) Q
      refine r_con eMd_nearest_30 ?_
      refine r_vir eMd_nearest_31 rfl rfl rfl hM.2.1 rfl rfl ?_
      refine f_Md_fewestTo hM hinv.ok hinv.hs (md_sp_bd hinv.hsb (by omega)) (by omega) hinv.hkp (fun J2 r hfx2 hkp2 hfw hrb => ?_)
      · have hfw2 : s_few (md_cf J M) (md_sp J M (k : Int)) 0 (J (M + 22) 0) r := by rw [← hfx.cf, ← hfx.fy.sp, ← e22]; exact hfw
        show m_wp en _ mMd_nearest 34 [some (.ref M), some (.int (m_i (b))), some (.int (m_i (l))), some (.int (m_i ((k : Int)))), o4] [(.int (m_i (r)))] (T, m_I J2, P, L, z, w) Q
        refine r_is (ls' := [some (.ref M), some (.int (m_i (b))), some (.int (m_i (l))), some (.int (m_i ((k : Int)))), some (.int (m_i (r)))]) eMd_nearest_34 (Nat.le_of_ble_eq_true rfl) rfl ?_
        refine r_il eMd_nearest_36 rfl ?_
        refine r_bip eMd_nearest_38 (by decide) ?_
        refine r_ceq (tgt := 57) eMd_nearest_40 rfl ⟨(by omega), (by omega)⟩ ⟨(by omega), (by omega)⟩ (fun c40 => ?_) (fun c40 => ?_)
        · refine r_inc (ls' := [some (.ref M), some (.int (m_i (b))), some (.int (m_i (l))), some (.int (m_i ((k : Int) + 1))), some (.int (m_i (r)))]) eMd_nearest_57 rfl rfl ?_
          refine r_go (tgt := 14) eMd_nearest_60 rfl ?_
          first | exact ih (k + 1) b l J2 _ (by omega) (hfx.trans hfx2) (hinv.fx hfx2 hkp2) ⟨b, l, r, hnr, hfw2, Or.inl ⟨by omega, rfl, rfl⟩⟩ hb hl | exact ih (k + 1) (k : Int) r J2 _ (by omega) (hfx.trans hfx2) (hinv.fx hfx2 hkp2) ⟨b, l, r, hnr, hfw2, Or.inr ⟨by omega, rfl, rfl⟩⟩ (by omega) (by omega)
        · refine r_il eMd_nearest_43 rfl ?_
          refine r_iln eMd_nearest_45 rfl ?_
          refine r_clt (tgt := 52) eMd_nearest_46 rfl ⟨(by omega), (by omega)⟩ ⟨(by omega), (by omega)⟩ (fun c46 => ?_) (fun c46 => ?_)
          · refine r_iln eMd_nearest_52 rfl ?_
            refine r_isn (ls' := [some (.ref M), some (.int (m_i ((k : Int)))), some (.int (m_i (l))), some (.int (m_i ((k : Int)))), some (.int (m_i (r)))]) eMd_nearest_53 (Nat.le_of_ble_eq_true rfl) rfl ?_
            refine r_il eMd_nearest_54 rfl ?_
            refine r_isn (ls' := [some (.ref M), some (.int (m_i ((k : Int)))), some (.int (m_i (r))), some (.int (m_i ((k : Int)))), some (.int (m_i (r)))]) eMd_nearest_56 (Nat.le_of_ble_eq_true rfl) rfl ?_
            refine r_inc (ls' := [some (.ref M), some (.int (m_i ((k : Int)))), some (.int (m_i (r))), some (.int (m_i ((k : Int) + 1))), some (.int (m_i (r)))]) eMd_nearest_57 rfl rfl ?_
            refine r_go (tgt := 14) eMd_nearest_60 rfl ?_
            first | exact ih (k + 1) b l J2 _ (by omega) (hfx.trans hfx2) (hinv.fx hfx2 hkp2) ⟨b, l, r, hnr, hfw2, Or.inl ⟨by omega, rfl, rfl⟩⟩ hb hl | exact ih (k + 1) (k : Int) r J2 _ (by omega) (hfx.trans hfx2) (hinv.fx hfx2 hkp2) ⟨b, l, r, hnr, hfw2, Or.inr ⟨by omega, rfl, rfl⟩⟩ (by omega) (by omega)
          · refine r_go (tgt := 57) eMd_nearest_49 rfl ?_
            refine r_inc (ls' := [some (.ref M), some (.int (m_i (b))), some (.int (m_i (l))), some (.int (m_i ((k : Int) + 1))), some (.int (m_i (r)))]) eMd_nearest_57 rfl rfl ?_
            refine r_go (tgt := 14) eMd_nearest_60 rfl ?_
            first | exact ih (k + 1) b l J2 _ (by omega) (hfx.trans hfx2) (hinv.fx hfx2 hkp2) ⟨b, l, r, hnr, hfw2, Or.inl ⟨by omega, rfl, rfl⟩⟩ hb hl | exact ih (k + 1) (k : Int) r J2 _ (by omega) (hfx.trans hfx2) (hinv.fx hfx2 hkp2) ⟨b, l, r, hnr, hfw2, Or.inr ⟨by omega, rfl, rfl⟩⟩ (by omega) (by omega)
theorem c_Md_nearest (hM : md_sh en M T P) (hJ : m_up J0 M 0 0 = J) (hinv : md_inv J M)
    (hq : ∀ (J1 : Nat → Nat → Int) (b l : Int), md_fx J J1 M → md_inv J1 M → md_nr J M (J (M + 2) 4).toNat b l → Q (some (.int (m_i b))) (T, m_I J1, P, L, z, w)) : m_call en (d + 9) mMd_nearest [.ref M] (T, m_I J0, P, L, z, w) Q := by
  have hsb1 := hinv.hsb.1
  refine m_into (by decide) (Nat.le_of_ble_eq_true rfl) rfl ?_
  show m_wp en _ mMd_nearest 0 [some (.ref M), none, none, none, none] [] (T, m_I J0, P, L, z, w) Q
  refine r_aln eMd_nearest_0 rfl ?_
  refine r_con eMd_nearest_1 ?_
  refine r_put eMd_nearest_2 rfl hM.2.1 hM.1 (Or.inl rfl) ?_
  rw [hJ]
  refine r_bip eMd_nearest_5 (by decide) ?_
  refine r_isn (ls' := [some (.ref M), some (.int (m_i ((-2)))), none, none, none]) eMd_nearest_7 (Nat.le_of_ble_eq_true rfl) rfl ?_
  refine r_sip eMd_nearest_8 (by decide) ?_
  refine r_isn (ls' := [some (.ref M), some (.int (m_i ((-2)))), some (.int (m_i (30000))), none, none]) eMd_nearest_11 (Nat.le_of_ble_eq_true rfl) rfl ?_
  refine r_con eMd_nearest_12 ?_
  refine r_isn (ls' := [some (.ref M), some (.int (m_i ((-2)))), some (.int (m_i (30000))), some (.int (m_i (0))), none]) eMd_nearest_13 (Nat.le_of_ble_eq_true rfl) rfl ?_
  exact l_Md_nearest hM hsb1 hq (J (M + 2) 4).toNat 0 (-2) 30000 J none (by omega) (md_fx.refl J M) hinv ⟨rfl, rfl⟩ (by omega) (by omega)
/-- fewest steps behind a step of nothing with a wind -/
def s_ifw (C : a_C) (n goal x r : Int) : Prop := (¬ a_why C (a_step (a_of n) 4 x) = 0 ∧ r = -2) ∨ (a_why C (a_step (a_of n) 4 x) = 0 ∧ s_ans C goal 0 (a_no (a_step (a_of n) 4 x)) r)
theorem s_Md_spotState (hM : md_sh en M T P) {x : Int} (hx : 0 ≤ x ∧ x < 12) (hq : Q (some (.int (m_i (md_sp J M x)))) (T, m_I (md_put J M σ), P, L, z, w)) : m_call en (d + 3) mMd_spotState [.ref M, .int (m_i x)] (T, m_I (md_put J M σ), P, L, z, w) Q := by
  refine c_Md_spotState hM hx ?_
  rw [md_put_o J M σ (by omega), md_put_o J M σ (by omega)]
  exact hq
theorem z_Md_canStep (hM : md_sh en M T P) (ok : a_ok (md_cf J M)) {n k f : Int} (h0 : 0 ≤ n) (h1 : n < 100000) (hk : 0 ≤ k ∧ k < 9) (hf : -100 ≤ f ∧ f ≤ 100) (hq : Q (some (.int (m_i (a_b (decide (a_why (md_cf J M) (a_step (a_of n) k f) = 0)))))) (T, m_I (md_put J M (a_step (a_of n) k f)), P, L, z, w)) : m_call en (d + 4) mMd_canStep [.ref M, .int (m_i n), .int (m_i k), .int (m_i f)] (T, m_I J, P, L, z, w) Q := by
  have h := s_Md_canStep (d := d) (σ := md_get J M) (z := z) (w := w) (L := L) hM ok h0 h1 hk hf hq
  rw [md_put_get] at h
  exact h
theorem c_Md_ifWind (hM : md_sh en M T P) (hJ : m_up J0 M 0 0 = J) (hinv : md_inv J M) {y x : Int} (hy : m_in y) (hx : m_in x)
    (hq0 : ¬ ((0 ≤ y ∧ y < J (M + 2) 4) ∧ -8 ≤ x ∧ x ≤ 8) → Q (some (.int (m_i (-1)))) (T, m_I J, P, L, z, w))
    (hq1 : ((0 ≤ y ∧ y < J (M + 2) 4) ∧ -8 ≤ x ∧ x ≤ 8) → ∀ (J1 : Nat → Nat → Int) (r : Int), md_fx J J1 M → md_kp J1 M → s_ifw (md_cf J M) (J (M + 22) 0) (md_sp J M y) x r → Q (some (.int (m_i r))) (T, m_I J1, P, L, z, w)) : m_call en (d + 8) mMd_ifWind [.ref M, .int (m_i y), .int (m_i x)] (T, m_I J0, P, L, z, w) Q := by
  unfold m_in at hx hy
  have hsb1 := hinv.hsb.1
  have hs := hinv.hs
  have hb01 := a_b_01 (decide (a_why (md_cf J M) (a_step (a_of (J (M + 22) 0)) 4 x) = 0))
  refine m_into (by decide) (Nat.le_of_ble_eq_true rfl) rfl ?_
  show m_wp en _ mMd_ifWind 0 [some (.ref M), some (.int (m_i (y))), some (.int (m_i (x))), none] [] (T, m_I J0, P, L, z, w) Q
  refine r_aln eMd_ifWind_0 rfl ?_
  refine r_con eMd_ifWind_1 ?_
  refine r_put eMd_ifWind_2 rfl hM.2.1 hM.1 (Or.inl rfl) ?_
  rw [hJ]
  refine r_aln eMd_ifWind_5 rfl ?_
  refine r_iln eMd_ifWind_6 rfl ?_
  refine r_vir eMd_ifWind_7 rfl rfl rfl hM.2.1 rfl rfl ?_
  refine c_Md_isSpot hM ⟨by omega, by omega⟩ ⟨by omega, by omega⟩ ?_
  show m_wp en _ mMd_ifWind 10 [some (.ref M), some (.int (m_i (y))), some (.int (m_i (x))), none] [(.int (m_i (if 0 ≤ y ∧ y < J (M + 2) 4 then 1 else 0)))] (T, m_I J, P, L, z, w) Q
  refine r_zeq (tgt := 25) eMd_ifWind_10 rfl ⟨(by omega), (by omega)⟩ (fun c10 => ?_) (fun c10 => ?_)
  · refine r_con eMd_ifWind_25 ?_
    refine r_iret eMd_ifWind_26 rfl ?_
    exact hq0 (by omega)
  · refine r_iln eMd_ifWind_13 rfl ?_
    refine r_bip eMd_ifWind_14 (by decide) ?_
    refine r_clt (tgt := 25) eMd_ifWind_16 rfl ⟨(by omega), (by omega)⟩ ⟨(by omega), (by omega)⟩ (fun c16 => ?_) (fun c16 => ?_)
    · refine r_con eMd_ifWind_25 ?_
      refine r_iret eMd_ifWind_26 rfl ?_
      exact hq0 (by omega)
    · refine r_iln eMd_ifWind_19 rfl ?_
      refine r_bip eMd_ifWind_20 (by decide) ?_
      refine r_cle (tgt := 27) eMd_ifWind_22 rfl ⟨(by omega), (by omega)⟩ ⟨(by omega), (by omega)⟩ (fun c22 => ?_) (fun c22 => ?_)
      · refine r_aln eMd_ifWind_27 rfl ?_
        refine r_aln eMd_ifWind_28 rfl ?_
        refine m_getR eMd_ifWind_29 rfl hM.2.1 (md_s_p hM) ?_
        refine r_con eMd_ifWind_32 ?_
        refine r_ialde (x := J (M + 22) 0) eMd_ifWind_33 (md_s_t hM) (by decide) (by omega) (by omega) rfl ?_
        refine r_con eMd_ifWind_34 ?_
        refine r_iln eMd_ifWind_35 rfl ?_
        refine r_vir eMd_ifWind_36 rfl rfl rfl hM.2.1 rfl rfl ?_
        refine z_Md_canStep hM hinv.ok (by omega) (by omega) (by omega) (by omega) ?_
        show m_wp en _ mMd_ifWind 39 [some (.ref M), some (.int (m_i (y))), some (.int (m_i (x))), none] [(.int (m_i (a_b (decide (a_why (md_cf J M) (a_step (a_of (J (M + 22) 0)) 4 (x)) = 0)))))] (T, m_I ((md_put J M (a_step (a_of (J (M + 22) 0)) 4 (x)))), P, L, z, w) Q
        refine r_zne (tgt := 45) eMd_ifWind_39 rfl ⟨(by omega), (by omega)⟩ (fun c39 => ?_) (fun c39 => ?_)
        · have hy0 : a_why (md_cf J M) (a_step (a_of (J (M + 22) 0)) 4 x) = 0 := of_decide_eq_true (Classical.byContradiction (fun q => c39 (a_b_f q)))
          have hNb := a_no_bd (a_why_bx hinv.ok hs.1 (by omega) hy0)
          refine r_aln eMd_ifWind_45 rfl ?_
          refine r_vir eMd_ifWind_46 rfl rfl rfl hM.2.1 rfl rfl ?_
          refine s_Md_laid hM ?_
          show m_wp en _ mMd_ifWind 49 [some (.ref M), some (.int (m_i (y))), some (.int (m_i (x))), none] [(.int (m_i (a_no ((a_step (a_of (J (M + 22) 0)) 4 (x))))))] (T, m_I ((md_put J M (a_step (a_of (J (M + 22) 0)) 4 (x)))), P, L, z, w) Q
          refine r_isn (ls' := [some (.ref M), some (.int (m_i (y))), some (.int (m_i (x))), some (.int (m_i (a_no ((a_step (a_of (J (M + 22) 0)) 4 (x))))))]) eMd_ifWind_49 (Nat.le_of_ble_eq_true rfl) rfl ?_
          refine r_aln eMd_ifWind_50 rfl ?_
          refine r_aln eMd_ifWind_51 rfl ?_
          refine r_iln eMd_ifWind_52 rfl ?_
          refine r_vir eMd_ifWind_53 rfl rfl rfl hM.2.1 rfl rfl ?_
          refine s_Md_spotState hM (by omega) ?_
          show m_wp en _ mMd_ifWind 56 [some (.ref M), some (.int (m_i (y))), some (.int (m_i (x))), some (.int (m_i (a_no ((a_step (a_of (J (M + 22) 0)) 4 (x))))))] [(.int (m_i (md_sp J M (y)))), (.ref M)] (T, m_I ((md_put J M (a_step (a_of (J (M + 22) 0)) 4 (x)))), P, L, z, w) Q
          refine r_con eMd_ifWind_56 ?_
          refine r_vir eMd_ifWind_57 rfl rfl rfl hM.2.1 rfl rfl ?_
          refine k_Md_seeks hM (by rw [md_cf_put]; exact hinv.ok) (md_sp_bd hinv.hsb (by omega)) (by omega) (md_kp_put _ hinv.hkp) (fun J1 hfx hkp1 hK0 => ?_)
          · have hK := s_Kn_base hK0
            have hrok := hK.2.1.1 (a_no (a_step (a_of (J (M + 22) 0)) 4 x)).toNat (by omega)
            have ha := s_Kn_ans hK hNb
            show m_wp en _ mMd_ifWind 60 [some (.ref M), some (.int (m_i (y))), some (.int (m_i (x))), some (.int (m_i (a_no ((a_step (a_of (J (M + 22) 0)) 4 (x))))))] [] (T, m_I J1, P, L, z, w) Q
            refine r_aln eMd_ifWind_60 rfl ?_
            refine m_getR eMd_ifWind_61 rfl hM.2.1 (md_far_p hM) ?_
            refine r_iln eMd_ifWind_64 rfl ?_
            refine r_salde (x := J1 (M + 20) ((a_no ((a_step (a_of (J (M + 22) 0)) 4 (x)))).toNat)) eMd_ifWind_65 (md_far_t hM) (by decide) (by omega) (by omega) rfl ?_
            refine r_sip eMd_ifWind_66 (by decide) ?_
            refine r_cne (tgt := 77) eMd_ifWind_69 rfl ⟨(by omega), (by omega)⟩ ⟨(by omega), (by omega)⟩ (fun c69 => ?_) (fun c69 => ?_)
            · refine r_aln eMd_ifWind_77 rfl ?_
              refine m_getR eMd_ifWind_78 rfl hM.2.1 (md_far_p hM) ?_
              refine r_iln eMd_ifWind_81 rfl ?_
              refine r_salde (x := J1 (M + 20) ((a_no ((a_step (a_of (J (M + 22) 0)) 4 (x)))).toNat)) eMd_ifWind_82 (md_far_t hM) (by decide) (by omega) (by omega) rfl ?_
              refine r_iret eMd_ifWind_83 rfl ?_
              (first | rw [if_pos (by omega)] at ha | rw [if_neg (by omega)] at ha)
              exact hq1 (by omega) J1 _ hK.1 hkp1 (Or.inr ⟨hy0, ha⟩)
            · refine r_bip eMd_ifWind_72 (by decide) ?_
              refine r_go (tgt := 83) eMd_ifWind_74 rfl ?_
              refine r_iret eMd_ifWind_83 rfl ?_
              (first | rw [if_pos (by omega)] at ha | rw [if_neg (by omega)] at ha)
              exact hq1 (by omega) J1 _ hK.1 hkp1 (Or.inr ⟨hy0, ha⟩)
        · refine r_bip eMd_ifWind_42 (by decide) ?_
          refine r_iret eMd_ifWind_44 rfl ?_
          exact hq1 (by omega) _ _ ((md_fx.refl J M).put _) (md_kp_put _ hinv.hkp) (Or.inl ⟨fun q => by rw [a_b_t (decide_eq_true q)] at c39; omega, rfl⟩)
      · refine r_con eMd_ifWind_25 ?_
        refine r_iret eMd_ifWind_26 rfl ?_
        exact hq0 (by omega)
end MDBT
