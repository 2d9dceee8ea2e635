/-- no seed yet -/
theorem s_I_0 {C : a_C} {goal : Int} {J : Nat → Nat → Int} {M : Nat} (h20 : ∀ i : Nat, i < 38880 → J (M + 20) i = 30000) (h42 : J M 42 = 0) : s_I C goal J M 0 1 := by
  have hm : (J M 42).toNat = 0 := by rw [h42]; rfl
  refine ⟨⟨fun i hi => by rw [h20 i hi]; omega, by rw [h42]; omega, fun i hi => by omega⟩, fun n a b => Or.inr ⟨h20 _ (by omega), fun q => ?_⟩, fun i j hi => by omega, fun i hi => by omega⟩
  obtain ⟨hs, hp⟩ := q
  have h1 := a_why_0 (a_is_spec hs.2.1).1
  unfold s_P at hp
  omega
section MDO
variable {en : Nat → Nat} {d : Nat} {T : Nat → Option (Nat × Nat)} {J J0 : Nat → Nat → Int} {P : Nat → Nat → Option Nat} {L : Nat → Nat → Int64} {z w M : Nat} {Q : m_Q} {σ : a_S}
theorem l_Md_sf5 (hM : md_sh en M T P) {J1 : Nat → Nat → Int} {goal lev fr : Int} {o5 o6 : Option Value}
    (hnext : m_wp en d mMd_seeksFrom 40 [some (.ref M), some (.int (m_i goal)), some (.int (m_i lev)), some (.int (m_i fr)), some (.int (m_i 0)), o5, o6] [] (T, m_I (m_fl J1 (M + 20) 0 (fun _ => 30000) 38880), P, L, z, w) Q) :
    ∀ (n : Nat) (k : Int), k + n = 38880 → 0 ≤ k → m_wp en d mMd_seeksFrom 14 [some (.ref M), some (.int (m_i goal)), some (.int (m_i lev)), some (.int (m_i fr)), some (.int (m_i k)), o5, o6] [] (T, m_I (m_fl J1 (M + 20) 0 (fun _ => 30000) k), P, L, z, w) Q := by
  intro n
  induction n with
  | zero =>
    intro k hk h0
    obtain rfl : k = 38880 := by omega
    refine r_il eMd_seeksFrom_14 rfl ?_
    refine r_ldc (x := 38880) eMd_seeksFrom_16 rfl (by decide) ?_
    refine r_cge (tgt := 37) eMd_seeksFrom_18 rfl ⟨(by omega), (by omega)⟩ ⟨(by omega), (by omega)⟩ (fun c18 => ?_) (fun c18 => ?_)
    · refine r_con eMd_seeksFrom_37 ?_
      refine r_is (ls' := [some (.ref M), some (.int (m_i (goal))), some (.int (m_i (lev))), some (.int (m_i (fr))), some (.int (m_i (0))), o5, o6]) eMd_seeksFrom_38 (Nat.le_of_ble_eq_true rfl) rfl ?_
      exact hnext
    · exfalso; omega
  | succ n ih =>
    intro k hk h0
    refine r_il eMd_seeksFrom_14 rfl ?_
    refine r_ldc (x := 38880) eMd_seeksFrom_16 rfl (by decide) ?_
    refine r_cge (tgt := 37) eMd_seeksFrom_18 rfl ⟨(by omega), (by omega)⟩ ⟨(by omega), (by omega)⟩ (fun c18 => ?_) (fun c18 => ?_)
    · exfalso; omega
    · refine r_aln eMd_seeksFrom_21 rfl ?_
      refine m_getR eMd_seeksFrom_22 rfl hM.2.1 (md_far_p hM) ?_
      refine r_il eMd_seeksFrom_25 rfl ?_
      refine r_sip eMd_seeksFrom_27 (by decide) ?_
      refine r_sast eMd_seeksFrom_30 (md_far_t hM) (by decide) (by omega) (by omega) (md_b hM 20) (m_s16_id ⟨(by omega), (by omega)⟩) ?_
      refine r_inc (ls' := [some (.ref M), some (.int (m_i (goal))), some (.int (m_i (lev))), some (.int (m_i (fr))), some (.int (m_i (k + 1))), o5, o6]) eMd_seeksFrom_31 rfl rfl ?_
      refine r_go (tgt := 14) eMd_seeksFrom_34 rfl ?_
      refine Eq.mp ?_ (ih (k + 1) (by omega) (by omega))
      rw [m_fl_s h0 (by omega) rfl]
theorem c_Md_seeksFrom (hM : md_sh en M T P) (ok : a_ok (md_cf J0 M)) {goal lev fr : Int} (hgoal : m_in goal) (hlev : lev = 0 ∨ lev = 1) (hfr : 0 ≤ fr ∧ fr ≤ 38880) (hbd : ∀ t n, b_D (s_S (md_cf J0 M) goal) (s_E (md_cf J0 M) lev) t n → (∀ t', b_D (s_S (md_cf J0 M) goal) (s_E (md_cf J0 M) lev) t' n → t ≤ t') → t < 29999)
    (hq : ∀ (J : Nat → Nat → Int) (k : Nat), md_fx J0 J M → (J M 40 = -2 ∧ J M 41 = J0 M 41) → rw_ok J M → b_I (s_S (md_cf J0 M) goal) (s_E (md_cf J0 M) lev) (rf J M) (rq J M) (J M 42).toNat k → (k = (J M 42).toNat ∨ (fr ≠ 38880 ∧ J (M + 20) fr.toNat ≠ 30000)) → Q none (T, m_I J, P, L, z, w)) : m_call en (d + 6) mMd_seeksFrom [.ref M, .int (m_i goal), .int (m_i lev), .int (m_i fr)] (T, m_I J0, P, L, z, w) Q := by
  have k1 : 4 ≤ J0 (M + 2) 0 ∧ J0 (M + 2) 0 ≤ 16 := ok.1
  have f0 : md_fx J0 (m_up J0 M 40 (-2)) M := fun b i _ _ a3 => by rw [m_up_at, if_neg (by omega)]
  have e2 : m_up J0 M 40 (-2) (M + 2) 0 = J0 (M + 2) 0 := by rw [m_up_at, if_neg (by omega)]
  refine m_into (by decide) (Nat.le_of_ble_eq_true rfl) rfl ?_
  show m_wp en _ mMd_seeksFrom 0 [some (.ref M), some (.int (m_i (goal))), some (.int (m_i (lev))), some (.int (m_i (fr))), none, none, none] [] (T, m_I J0, P, L, z, w) Q
  refine r_aln eMd_seeksFrom_0 rfl ?_
  refine r_bip eMd_seeksFrom_1 (by decide) ?_
  refine r_put eMd_seeksFrom_3 rfl hM.2.1 hM.1 (Or.inl rfl) ?_
  refine r_aln eMd_seeksFrom_6 rfl ?_
  refine r_con eMd_seeksFrom_7 ?_
  refine r_put eMd_seeksFrom_8 rfl hM.2.1 hM.1 (Or.inl rfl) ?_
  refine r_con eMd_seeksFrom_11 ?_
  refine r_is (ls' := [some (.ref M), some (.int (m_i (goal))), some (.int (m_i (lev))), some (.int (m_i (fr))), some (.int (m_i (0))), none, none]) eMd_seeksFrom_12 (Nat.le_of_ble_eq_true rfl) rfl ?_
  refine Eq.mp ?_ (l_Md_sf5 (d := d + 5) (z := z) (w := w) (L := L) (P := P) (Q := Q) (J1 := ((m_up (m_up J0 M 40 ((-2))) M 42 (0)))) (goal := goal) (lev := lev) (fr := fr) (o5 := none) (o6 := none) hM ?_ 38880 0 (by omega) (by omega))
  · rw [m_fl_0]
  · refine l_Md_sf4 (J0 := m_up J0 M 40 (-2)) hM (by rw [f0.cf]; exact ok) hgoal hlev hfr (by rw [f0.cf]; exact hbd) (fun J k a b c e => hq J k (f0.trans a.fx) ⟨by rw [a M 40 (by omega) (by omega) (by omega)]; simp [m_up], by rw [a M 41 (by omega) (by omega) (by omega)]; simp [m_up]⟩ b (by rw [f0.cf] at c; exact c) e) (J0 (M + 2) 0).toNat 0 _ none none (by omega) (by omega) ?_ (s_I_0 (fun i hi => m_fl_i (by omega)) (by rw [m_fl_o (by omega)]; exact m_up_same))
    intro b i a1 a2 a3
    rw [m_fl_o a1, m_up_at, if_neg (by omega)]
/-- what 'seeks' leaves: the distances to a goal, all of them -/
def s_Kn (J0 J : Nat → Nat → Int) (M : Nat) (goal lev : Int) : Prop := md_fx J0 J M ∧ rw_ok J M ∧ (J M 40 = goal ∧ J M 41 = lev) ∧ ∃ k, b_I (s_S (md_cf J0 M) goal) (s_E (md_cf J0 M) lev) (rf J M) (rq J M) (J M 42).toNat k ∧ k = (J M 42).toNat
theorem c_Md_seeks (hM : md_sh en M T P) (ok : a_ok (md_cf J0 M)) {goal lev : Int} (hgoal : m_in goal) (hlev : lev = 0 ∨ lev = 1) (h40 : m_in (J0 M 40)) (h41 : m_in (J0 M 41)) (hbd : ∀ t n, b_D (s_S (md_cf J0 M) goal) (s_E (md_cf J0 M) lev) t n → (∀ t', b_D (s_S (md_cf J0 M) goal) (s_E (md_cf J0 M) lev) t' n → t ≤ t') → t < 29999)
    (hold : J0 M 40 = goal → J0 M 41 = lev → s_Kn J0 J0 M goal lev)
    (hq : ∀ (J : Nat → Nat → Int), s_Kn J0 J M goal lev → Q none (T, m_I J, P, L, z, w)) : m_call en (d + 7) mMd_seeks [.ref M, .int (m_i goal), .int (m_i lev)] (T, m_I J0, P, L, z, w) Q := by
  unfold m_in at h40 h41
  have hg := hgoal
  unfold m_in at hg
  refine m_into (by decide) (Nat.le_of_ble_eq_true rfl) rfl ?_
  show m_wp en _ mMd_seeks 0 [some (.ref M), some (.int (m_i (goal))), some (.int (m_i (lev)))] [] (T, m_I J0, P, L, z, w) Q
  refine r_iln eMd_seeks_0 rfl ?_
  refine r_aln eMd_seeks_1 rfl ?_
  refine r_gete (x := J0 M 40) eMd_seeks_2 rfl (by decide) hM.2.1 rfl ?_
  refine r_cne (tgt := 17) eMd_seeks_5 rfl ⟨(by omega), (by omega)⟩ ⟨(by omega), (by omega)⟩ (fun c5 => ?_) (fun c5 => ?_)
  · refine r_aln eMd_seeks_17 rfl ?_
    refine r_iln eMd_seeks_18 rfl ?_
    refine r_iln eMd_seeks_19 rfl ?_
    refine r_ldc (x := 38880) eMd_seeks_20 rfl (by decide) ?_
    refine r_vir eMd_seeks_22 rfl rfl rfl hM.2.1 rfl rfl ?_
    refine c_Md_seeksFrom hM ok hgoal hlev (by omega) hbd (fun J1 k1 f1 f40 f2 f3 f4 => ?_)
    · show m_wp en _ mMd_seeks 25 [some (.ref M), some (.int (m_i (goal))), some (.int (m_i (lev)))] [] (T, m_I J1, P, L, z, w) Q
      refine r_aln eMd_seeks_25 rfl ?_
      refine r_iln eMd_seeks_26 rfl ?_
      refine r_put eMd_seeks_27 rfl hM.2.1 hM.1 (Or.inl rfl) ?_
      refine r_aln eMd_seeks_30 rfl ?_
      refine r_iln eMd_seeks_31 rfl ?_
      refine r_puz eMd_seeks_32 rfl hM.2.1 hM.1 (Or.inl rfl) (by first | exact Or.inl rfl | exact Or.inr rfl | omega) ?_
      refine r_ret eMd_seeks_35 rfl ?_
      refine hq _ ⟨fun b i a1 a2 a3 => ?_, ⟨fun i hi => ?_, ?_, fun i hi => ?_⟩, ⟨by simp [m_up], by simp [m_up]⟩, k1, ?_, ?_⟩
      · rw [m_up_at, if_neg (by omega), m_up_at, if_neg (by omega)]; exact f1 b i a1 a2 a3
      · have := f2.1 i hi; simpa [m_up] using this
      · have := f2.2.1; simpa [m_up] using this
      · have := f2.2.2 i (by simpa [m_up] using hi); simpa [m_up] using this
      · have e1 : rf (m_up (m_up J1 M 40 goal) M 41 lev) M = rf J1 M := by funext n; simp [rf, m_up]
        have e2 : rq (m_up (m_up J1 M 40 goal) M 41 lev) M = rq J1 M := by funext n; simp [rq, m_up]
        have e3 : (m_up (m_up J1 M 40 goal) M 41 lev) M 42 = J1 M 42 := by simp [m_up]
        rw [e1, e2, e3]; exact f3
      · have e3 : (m_up (m_up J1 M 40 goal) M 41 lev) M 42 = J1 M 42 := by simp [m_up]
        rw [e3]; rcases f4 with q | q
        · exact q
        · exact absurd rfl q.1
  · refine r_iln eMd_seeks_8 rfl ?_
    refine r_aln eMd_seeks_9 rfl ?_
    refine r_gete (x := J0 M 41) eMd_seeks_10 rfl (by decide) hM.2.1 rfl ?_
    refine r_cne (tgt := 17) eMd_seeks_13 rfl ⟨(by omega), (by omega)⟩ ⟨(by omega), (by omega)⟩ (fun c13 => ?_) (fun c13 => ?_)
    · refine r_aln eMd_seeks_17 rfl ?_
      refine r_iln eMd_seeks_18 rfl ?_
      refine r_iln eMd_seeks_19 rfl ?_
      refine r_ldc (x := 38880) eMd_seeks_20 rfl (by decide) ?_
      refine r_vir eMd_seeks_22 rfl rfl rfl hM.2.1 rfl rfl ?_
      refine c_Md_seeksFrom hM ok hgoal hlev (by omega) hbd (fun J1 k1 f1 f40 f2 f3 f4 => ?_)
      · show m_wp en _ mMd_seeks 25 [some (.ref M), some (.int (m_i (goal))), some (.int (m_i (lev)))] [] (T, m_I J1, P, L, z, w) Q
        refine r_aln eMd_seeks_25 rfl ?_
        refine r_iln eMd_seeks_26 rfl ?_
        refine r_put eMd_seeks_27 rfl hM.2.1 hM.1 (Or.inl rfl) ?_
        refine r_aln eMd_seeks_30 rfl ?_
        refine r_iln eMd_seeks_31 rfl ?_
        refine r_puz eMd_seeks_32 rfl hM.2.1 hM.1 (Or.inl rfl) (by first | exact Or.inl rfl | exact Or.inr rfl | omega) ?_
        refine r_ret eMd_seeks_35 rfl ?_
        refine hq _ ⟨fun b i a1 a2 a3 => ?_, ⟨fun i hi => ?_, ?_, fun i hi => ?_⟩, ⟨by simp [m_up], by simp [m_up]⟩, k1, ?_, ?_⟩
        · rw [m_up_at, if_neg (by omega), m_up_at, if_neg (by omega)]; exact f1 b i a1 a2 a3
        · have := f2.1 i hi; simpa [m_up] using this
        · have := f2.2.1; simpa [m_up] using this
        · have := f2.2.2 i (by simpa [m_up] using hi); simpa [m_up] using this
        · have e1 : rf (m_up (m_up J1 M 40 goal) M 41 lev) M = rf J1 M := by funext n; simp [rf, m_up]
          have e2 : rq (m_up (m_up J1 M 40 goal) M 41 lev) M = rq J1 M := by funext n; simp [rq, m_up]
          have e3 : (m_up (m_up J1 M 40 goal) M 41 lev) M 42 = J1 M 42 := by simp [m_up]
          rw [e1, e2, e3]; exact f3
        · have e3 : (m_up (m_up J1 M 40 goal) M 41 lev) M 42 = J1 M 42 := by simp [m_up]
          rw [e3]; rcases f4 with q | q
          · exact q
          · exact absurd rfl q.1
    · refine r_ret eMd_seeks_16 rfl ?_
      exact hq J0 (hold (by omega) (by omega))
end MDO
