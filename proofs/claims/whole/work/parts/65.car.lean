/-! carry of the reference -/
/-- the same but for the piles and what any question writes -/
def md_fp (J J' : Nat → Nat → Int) (M : Nat) : Prop := ∀ b i, b ≠ M + 20 → b ≠ M + 21 → b ≠ M + 24 → b ≠ M + 25 → b ≠ M + 26 → ¬ (b = M + 18 ∧ i < 16) → ¬ (b = M + 19 ∧ i < 16) → ¬ (b = M ∧ (i = 0 ∨ (32 ≤ i ∧ i ≤ 37) ∨ (40 ≤ i ∧ i ≤ 42) ∨ i = 49 ∨ i = 51 ∨ i = 52)) → J' b i = J b i
/-- the same but for what a carry writes -/
def md_fq (J J' : Nat → Nat → Int) (M : Nat) : Prop := ∀ b i, b ≠ M + 20 → b ≠ M + 21 → ¬ (b = M + 18 ∧ i < 16) → ¬ (b = M + 19 ∧ i < 16) → ¬ (b = M ∧ ((32 ≤ i ∧ i ≤ 37) ∨ (40 ≤ i ∧ i ≤ 42) ∨ i = 49)) → J' b i = J b i
/-- the crane with piles p, holding or not -/
def md_fe (J : Nat → Nat → Int) (M : Nat) (p : Nat → Int) (x : Int) : Int := if x.toNat < 16 then (if p x.toNat < J (M + 17) x.toNat then J (M + 17) x.toNat - p x.toNat else 0) else J (M + 19) x.toNat
def md_cp (J : Nat → Nat → Int) (M : Nat) (p : Nat → Int) (h : Int) : a_C := (J (M + 2) 0, J (M + 2) 1, J (M + 2) 2, J (M + 2) 3, h, md_fe J M p)
def a_pm (p : Nat → Int) (x v : Int) (i : Nat) : Int := if i = x.toNat then p i + v else p i
section PI
variable {J J1 J2 : Nat → Nat → Int} {M : Nat}
theorem md_fq.refl (J : Nat → Nat → Int) (M : Nat) : md_fq J J M := fun _ _ _ _ _ _ _ => rfl
theorem md_fq.trans (h : md_fq J J1 M) (h2 : md_fq J1 J2 M) : md_fq J J2 M := fun b i a1 a2 a3 a4 a5 => (h2 b i a1 a2 a3 a4 a5).trans (h b i a1 a2 a3 a4 a5)
theorem md_fx.fq (h : md_fx J J1 M) : md_fq J J1 M := fun b i a1 a2 _ _ a5 => h b i a1 a2 (by omega)
theorem md_fp.refl (J : Nat → Nat → Int) (M : Nat) : md_fp J J M := fun _ _ _ _ _ _ _ _ _ _ => rfl
theorem md_fp.trans (h : md_fp J J1 M) (h2 : md_fp J1 J2 M) : md_fp J J2 M := fun b i a1 a2 a3 a4 a5 a6 a7 a8 => (h2 b i a1 a2 a3 a4 a5 a6 a7 a8).trans (h b i a1 a2 a3 a4 a5 a6 a7 a8)
theorem md_fq.fp (h : md_fq J J1 M) : md_fp J J1 M := fun b i a1 a2 _ _ _ a3 a4 a5 => h b i a1 a2 a3 a4 (by omega)
theorem md_fy.fp (h : md_fy J J1 M) : md_fp J J1 M := fun b i a1 a2 a3 a4 a5 _ _ a8 => h b i a1 a2 a3 a4 a5 (by omega)
theorem md_fp.r (h : md_fp J J1 M) {k : Nat} (h0 : 0 < k ∧ k ≤ 17 ∨ k = 22 ∨ k = 23) : J1 (M + k) = J (M + k) := funext (fun i => h _ _ (by omega) (by omega) (by omega) (by omega) (by omega) (by omega) (by omega) (by omega))
theorem md_fp.f (h : md_fp J J1 M) {i : Nat} (h0 : (0 < i ∧ i < 32) ∨ i = 45 ∨ i = 46) : J1 M i = J M i := h M i (by omega) (by omega) (by omega) (by omega) (by omega) (by omega) (by omega) (by omega)
theorem md_fq_up (J : Nat → Nat → Int) (M : Nat) {i : Nat} (hi : (32 ≤ i ∧ i ≤ 37) ∨ (40 ≤ i ∧ i ≤ 42) ∨ i = 49) (v : Int) : md_fq J (m_up J M i v) M := fun b j a1 a2 a3 a4 a5 => by
  rw [m_up_at, if_neg (by omega)]
theorem md_fq_18 (J : Nat → Nat → Int) (M : Nat) {i : Nat} (hi : i < 16) (v : Int) : md_fq J (m_up J (M + 18) i v) M := fun b j a1 a2 a3 a4 a5 => by
  rw [m_up_at, if_neg (by omega)]
theorem md_piles_o (J : Nat → Nat → Int) (M : Nat) {b i : Nat} (h : b ≠ M) (h2 : b ≠ M + 19) : md_piles J M b i = J b i := by
  unfold md_piles
  rw [m_up_at, if_neg (fun q => h q.1), m_fl_o h2]
theorem md_piles_M (J : Nat → Nat → Int) (M : Nat) {i : Nat} (h : i ≠ 40) : md_piles J M M i = J M i := by
  unfold md_piles
  rw [m_up_at, if_neg (fun q => h q.2), m_fl_o (by omega)]
theorem md_piles_40 (J : Nat → Nat → Int) (M : Nat) : md_piles J M M 40 = -2 := m_up_same
theorem md_piles_19 (J : Nat → Nat → Int) (M : Nat) {i : Nat} : md_piles J M (M + 19) i = if i < 16 then md_fr J M i else J (M + 19) i := by
  unfold md_piles
  rw [m_up_at, if_neg (by omega)]
  by_cases q : i < 16
  · rw [if_pos q]
    exact m_fl_i (by omega)
  · rw [if_neg q]
    exact m_fl_x (by omega)
theorem md_fq_piles (J : Nat → Nat → Int) (M : Nat) : md_fq J (md_piles J M) M := fun b i a1 a2 a3 a4 a5 => by
  by_cases hb : b = M
  · subst hb
    exact md_piles_M J b (by omega)
  · by_cases h2 : b = M + 19
    · subst h2
      rw [md_piles_19, if_neg (by omega)]
    · exact md_piles_o J M hb h2
theorem md_fp.cf (h : md_fp J J1 M) : md_cf (md_piles J1 M) M = md_cp J M (J1 (M + 18)) (J1 M 32) := by
  have e2 : md_piles J1 M (M + 2) = J (M + 2) := by
    funext i
    rw [md_piles_o J1 M (by omega) (by omega)]
    exact congrFun (h.r (by omega)) i
  have e17 : J1 (M + 17) = J (M + 17) := h.r (by omega)
  have e19 : ∀ x : Int, md_piles J1 M (M + 19) x.toNat = md_fe J M (J1 (M + 18)) x := fun x => by
    rw [md_piles_19]
    unfold md_fe
    by_cases q : x.toNat < 16
    · rw [if_pos q, if_pos q]
      unfold md_fr
      rw [e17]
    · rw [if_neg q, if_neg q]
      exact h _ _ (by omega) (by omega) (by omega) (by omega) (by omega) (by omega) (by omega) (by omega)
  unfold md_cf md_cp
  rw [e2, md_piles_M J1 M (by omega)]
  congr 6
  funext x
  exact e19 x
theorem md_cp_ok (h : md_inv J M) {p : Nat → Int} (hp : ∀ i : Nat, i < 16 → 0 ≤ p i) {b : Int} (hb : b = 0 ∨ b = 1) : a_ok (md_cp J M p b) := by
  refine ⟨h.pl.1, h.pl.2.1, h.pl.2.2.1, h.pl.2.2.2.1, hb, fun x h0 h1 => ?_⟩
  show 0 ≤ md_fe J M p x ∧ md_fe J M p x ≤ 6
  have a := h.hcl x.toNat (by omega)
  have c := hp x.toNat (by omega)
  unfold md_fe
  rw [if_pos (by omega)]
  split <;> omega
theorem md_fe_bd (h : md_inv J M) {p : Nat → Int} (hp : ∀ i : Nat, i < 16 → 0 ≤ p i) {x : Int} (hx : 0 ≤ x ∧ x < 16) : 0 ≤ md_fe J M p x ∧ md_fe J M p x ≤ 6 := (md_cp_ok h hp (Or.inl rfl)).2.2.2.2.2 x hx.1 hx.2
/-- the piles are laid again from the row -/
theorem md_fp.as (h : md_inv J M) (hp : md_fp J J1 M) : md_fy J (md_as J1 M) M := fun b i a1 a2 a3 a4 a5 a6 => by
  have e22 : J1 (M + 22) = J (M + 22) := hp.r (by omega)
  by_cases hb : b = M
  · subst hb
    by_cases hi : i = 32
    · subst hi
      rw [md_as_32, e22, h.2.1.1]
      have := h.row.2.2.2.2.1
      split <;> omega
    · rw [md_as_M J1 b hi (by omega)]
      exact hp b i (by omega) (by omega) (by omega) (by omega) (by omega) (by omega) (by omega) (by omega)
  · by_cases h18 : b = M + 18
    · subst h18
      by_cases hi : i < 16
      · rw [md_as_18 J1 M hi, e22]
        exact (h.2.1.2.1 i hi).symm
      · unfold md_as md_piles
        rw [m_up_at, if_neg (by omega), m_fl_o (by omega), m_fl_x (by omega), m_up_at, if_neg (by omega)]
        exact hp _ i (by omega) (by omega) (by omega) (by omega) (by omega) (by omega) (by omega) (by omega)
    · by_cases h19 : b = M + 19
      · subst h19
        by_cases hi : i < 16
        · rw [md_as_19 J1 M hi, h.2.1.2.2 i hi]
          unfold md_fr
          rw [md_as_18 J1 M hi, md_as_o J1 M (by omega) (by omega) (by omega), e22, h.2.1.2.1 i hi, hp.r (k := 17) (by omega)]
        · unfold md_as md_piles
          rw [m_up_at, if_neg (by omega), m_fl_x (by omega), m_fl_o (by omega), m_up_at, if_neg (by omega)]
          exact hp _ i (by omega) (by omega) (by omega) (by omega) (by omega) (by omega) (by omega) (by omega)
      · rw [md_as_o J1 M hb h18 h19]
        exact hp b i (by omega) (by omega) (by omega) (by omega) (by omega) (by omega) (by omega) (by omega)
theorem md_fp.asi (h : md_inv J M) (hp : md_fp J J1 M) (h41 : md_4 J1 M) : md_inv (md_as J1 M) M := h.fy (hp.as h) (md_kp_m2 (md_as_40 J1 M) (md_4_as h41))
theorem md_fp.pb (h : md_inv J M) (hp : md_fp J J1 M) : md_pb J1 M := by
  have h0 := h.hpb
  unfold md_pb at h0 ⊢
  rw [hp.r (k := 17) (by omega), hp.r (k := 22) (by omega)]
  exact h0
end PI
/-- fewest steps from a state that stands to one that stands -/
def s_std (C : a_C) (a g r : Int) : Prop := (¬ (a_is C (a_of a) = true ∧ a_is C (a_of g) = true) ∧ r = -2) ∨ ((a_is C (a_of a) = true ∧ a_is C (a_of g) = true) ∧ s_btw C a g r)
theorem s_std_u {C : a_C} {a g r r' : Int} (h : s_std C a g r) (h' : s_std C a g r') : r = r' := by
  rcases h with ⟨a, b⟩ | ⟨a, b⟩ <;> rcases h' with ⟨a', b'⟩ | ⟨a', b'⟩
  · omega
  · exact absurd a' a
  · exact absurd a a'
  · exact s_btw_u b b'
/-- a carry by piles p: its steps, the piles then, where it hangs then -/
def s_car (J : Nat → Nat → Int) (M : Nat) (p : Nat → Int) (st fr to r : Int) (p2 : Nat → Int) (ct : Int) : Prop :=
  ((p fr.toNat = 0 ∨ md_fe J M p fr < 1) ∧ r = -2) ∨ (¬ (p fr.toNat = 0 ∨ md_fe J M p fr < 1) ∧ ∃ r1, s_std (md_cp J M p 0) st (a_no (fr, 0, 0, 0, md_fe J M p fr)) r1 ∧
    ((r1 = -2 ∧ r = -2) ∨ (r1 ≠ -2 ∧ ((md_fe J M (a_pm p fr (-1)) to < 2 ∧ r = -2) ∨ (¬ md_fe J M (a_pm p fr (-1)) to < 2 ∧ ∃ r2, s_std (md_cp J M (a_pm p fr (-1)) 1) (a_no (fr, 0, 0, 0, md_fe J M p fr)) (a_no (to, 0, 0, 0, md_fe J M (a_pm p fr (-1)) to - 1)) r2 ∧
      ((r2 = -2 ∧ r = -2) ∨ (r2 ≠ -2 ∧ r = r1 + r2 ∧ p2 = a_pm (a_pm p fr (-1)) to 1 ∧ ct = a_no (to, 0, 0, 0, md_fe J M (a_pm p fr (-1)) to - 1))))))))
section MDCA
variable {en : Nat → Nat} {d : Nat} {T : Nat → Option (Nat × Nat)} {J J0 J1 : Nat → Nat → Int} {P : Nat → Nat → Option Nat} {L : Nat → Nat → Int64} {z w M : Nat} {Q : m_Q} {σ : a_S}
theorem g_Md_piles (hM : md_sh en M T P) (hinv : md_inv J M) (hfp : md_fp J J1 M) (hb : ∀ i : Nat, i < 16 → 0 ≤ J1 (M + 18) i ∧ J1 (M + 18) i ≤ 1000) (h41 : md_4 J1 M) {p : Nat → Int} {h : Int} (ep : J1 (M + 18) = p) (eh : J1 M 32 = h)
    (hq : ∀ Jb, md_fq J1 Jb M → md_kp Jb M → md_cf Jb M = md_cp J M p h → Jb (M + 18) = p → Jb M 49 = J1 M 49 → Q none (T, m_I Jb, P, L, z, w)) : m_call en (d + 1) mMd_piles [.ref M] (T, m_I J1, P, L, z, w) Q := by
  subst ep eh
  refine c_Md_piles hM (fun i hi => ⟨?_, ?_⟩) (hq _ (md_fq_piles J1 M) (md_kp_m2 (md_piles_40 J1 M) ⟨by rw [md_piles_M J1 M (by omega)]; exact h41.1, fun i hi => by rw [md_piles_o J1 M (by omega) (by omega)]; exact h41.2 i hi⟩) hfp.cf (funext (fun i => md_piles_o J1 M (by omega) (by omega))) (md_piles_M J1 M (by omega)))
  · rw [hfp.r (k := 17) (by omega)]
    have := hinv.hcl i hi
    omega
  · have := hb i hi
    omega
theorem c_Md_fewestStanding (hM : md_sh en M T P) (ok : a_ok (md_cf J M)) (hkp : md_kp J M) {a g : Int} (ha : 0 ≤ a ∧ a < 38880) (hg : 0 ≤ g ∧ g < 38880)
    (hq : ∀ (J1 : Nat → Nat → Int) (r : Int), md_fx J J1 M → md_kp J1 M → s_std (md_cf J M) a g r → (-2 ≤ r ∧ r < 30000) → Q (some (.int (m_i r))) (T, m_I J1, P, L, z, w)) : m_call en (d + 8) mMd_fewestStanding [.ref M, .int (m_i a), .int (m_i g)] (T, m_I J, P, L, z, w) Q := by
  have hb01 := a_b_01 (a_is (md_cf J M) (a_of a))
  have hb02 := a_b_01 (a_is (md_cf J M) (a_of g))
  refine m_into (by decide) (Nat.le_of_ble_eq_true rfl) rfl ?_
  show m_wp en _ mMd_fewestStanding 0 [some (.ref M), some (.int (m_i (a))), some (.int (m_i (g)))] [] (T, m_I J, P, L, z, w) Q
  refine r_aln eMd_fewestStanding_0 rfl ?_
  refine r_iln eMd_fewestStanding_1 rfl ?_
  refine r_vir eMd_fewestStanding_2 rfl rfl rfl hM.2.1 rfl rfl ?_
  refine c_Md_doesStand hM ok (by omega) (by omega) ?_
  show m_wp en _ mMd_fewestStanding 5 [some (.ref M), some (.int (m_i (a))), some (.int (m_i (g)))] [(.int (m_i (a_b (a_is (md_cf J M) (a_of (a))))))] (T, m_I ((md_put J M (a_of (a)))), P, L, z, w) Q
  refine r_zeq (tgt := 25) eMd_fewestStanding_5 rfl ⟨(by omega), (by omega)⟩ (fun c5 => ?_) (fun c5 => ?_)
  · refine r_bip eMd_fewestStanding_25 (by decide) ?_
    refine r_iret eMd_fewestStanding_27 rfl ?_
    first | exact hq _ _ ((md_fx.refl J M).put _) (md_kp_put _ hkp) (Or.inl ⟨fun q => by rw [a_b_t q.1] at c5; omega, rfl⟩) (by omega) | exact hq _ _ ((md_fx.refl J M).put _) (md_kp_put _ hkp) (Or.inl ⟨fun q => by rw [a_b_t q.2] at c13; omega, rfl⟩) (by omega) | exact hq J1 r (((md_fx.refl J M).put _).trans hfx) hkp1 (Or.inr ⟨⟨Classical.byContradiction (fun q => c5 (a_b_f q)), Classical.byContradiction (fun q => c13 (a_b_f q))⟩, hb⟩) hrb
  · refine r_aln eMd_fewestStanding_8 rfl ?_
    refine r_iln eMd_fewestStanding_9 rfl ?_
    refine r_vir eMd_fewestStanding_10 rfl rfl rfl hM.2.1 rfl rfl ?_
    refine s_Md_doesStand hM ok (by omega) (by omega) ?_
    show m_wp en _ mMd_fewestStanding 13 [some (.ref M), some (.int (m_i (a))), some (.int (m_i (g)))] [(.int (m_i (a_b (a_is (md_cf J M) (a_of (g))))))] (T, m_I ((md_put J M (a_of (g)))), P, L, z, w) Q
    refine r_zeq (tgt := 25) eMd_fewestStanding_13 rfl ⟨(by omega), (by omega)⟩ (fun c13 => ?_) (fun c13 => ?_)
    · refine r_bip eMd_fewestStanding_25 (by decide) ?_
      refine r_iret eMd_fewestStanding_27 rfl ?_
      first | exact hq _ _ ((md_fx.refl J M).put _) (md_kp_put _ hkp) (Or.inl ⟨fun q => by rw [a_b_t q.1] at c5; omega, rfl⟩) (by omega) | exact hq _ _ ((md_fx.refl J M).put _) (md_kp_put _ hkp) (Or.inl ⟨fun q => by rw [a_b_t q.2] at c13; omega, rfl⟩) (by omega) | exact hq J1 r (((md_fx.refl J M).put _).trans hfx) hkp1 (Or.inr ⟨⟨Classical.byContradiction (fun q => c5 (a_b_f q)), Classical.byContradiction (fun q => c13 (a_b_f q))⟩, hb⟩) hrb
    · refine r_aln eMd_fewestStanding_16 rfl ?_
      refine r_iln eMd_fewestStanding_17 rfl ?_
      refine r_iln eMd_fewestStanding_18 rfl ?_
      refine r_vir eMd_fewestStanding_19 rfl rfl rfl hM.2.1 rfl rfl ?_
      refine c_Md_fewestFrom hM (by rw [md_cf_put]; exact ok) (md_kp_put _ hkp) ha (by omega) (fun J1 r hfx hkp1 hb hrb => ?_)
      · rw [md_cf_put] at hb
        show m_wp en _ mMd_fewestStanding 22 [some (.ref M), some (.int (m_i (a))), some (.int (m_i (g)))] [(.int (m_i (r)))] (T, m_I J1, P, L, z, w) Q
        refine r_go (tgt := 27) eMd_fewestStanding_22 rfl ?_
        refine r_iret eMd_fewestStanding_27 rfl ?_
        first | exact hq _ _ ((md_fx.refl J M).put _) (md_kp_put _ hkp) (Or.inl ⟨fun q => by rw [a_b_t q.1] at c5; omega, rfl⟩) (by omega) | exact hq _ _ ((md_fx.refl J M).put _) (md_kp_put _ hkp) (Or.inl ⟨fun q => by rw [a_b_t q.2] at c13; omega, rfl⟩) (by omega) | exact hq J1 r (((md_fx.refl J M).put _).trans hfx) hkp1 (Or.inr ⟨⟨Classical.byContradiction (fun q => c5 (a_b_f q)), Classical.byContradiction (fun q => c13 (a_b_f q))⟩, hb⟩) hrb
end MDCA
