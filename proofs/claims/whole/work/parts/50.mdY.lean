/-! the step by which it comes to hang still -/
/-- a code leads one nearer to a goal -/
def s_nr (C : a_C) (goal n c : Int) : Prop := a_is C (a_step (a_of n) c 0) = true ∧ ∃ t : Int, 0 ≤ t ∧ s_ans C goal 0 n (t + 1) ∧ s_ans C goal 0 (a_no (a_step (a_of n) c 0)) t
def s_first (C : a_C) (goal n c : Int) : Prop := (0 ≤ c ∧ c < 9) ∧ s_nr C goal n c ∧ ∀ c', 0 ≤ c' → c' < c → ¬ s_nr C goal n c'
theorem s_first_u {C : a_C} {goal n c c' : Int} (h : s_first C goal n c) (h' : s_first C goal n c') : c = c' := by
  rcases Int.lt_trichotomy c c' with q | q | q
  · exact absurd h.2.1 (h'.2.2 c h.1.1 q)
  · exact q
  · exact absurd h'.2.1 (h.2.2 c' h'.1.1 q)
theorem s_near_nr {J0 J : Nat → Nat → Int} {M : Nat} {goal : Int} (ok : a_ok (md_cf J0 M)) (h : s_Kn J0 J M goal 0) {n : Int} (hn : 0 ≤ n ∧ n < 38880) (hf : J (M + 20) n.toNat ≠ 30000) (hp : 0 < J (M + 20) n.toNat) (c : Int) : s_near (md_cf J0 M) J M n c ↔ s_nr (md_cf J0 M) goal n c := by
  have ha := s_Kn_ans h hn
  rw [if_neg hf] at ha
  have hb := h.2.1.1 n.toNat (by omega)
  constructor
  · intro ⟨h1, h2⟩
    have hm := s_Kn_ans h (a_no_bd (a_is_bx ok h1))
    rw [if_neg (by omega), h2] at hm
    exact ⟨h1, J (M + 20) n.toNat - 1, by omega, by rw [show J (M + 20) n.toNat - 1 + 1 = J (M + 20) n.toNat by omega]; exact ha, hm⟩
  · intro ⟨h1, t, t0, t1, t2⟩
    have hm := s_Kn_ans h (a_no_bd (a_is_bx ok h1))
    have e1 := s_ans_u ha t1
    have e2 := s_ans_u hm t2
    refine ⟨h1, ?_⟩
    by_cases q : J (M + 20) (a_no (a_step (a_of n) c 0)).toNat = 30000
    · rw [if_pos q] at e2
      omega
    · rw [if_neg q] at e2
      omega
theorem a_least {p : Int → Prop} : ∀ (m : Nat) (c : Int), 0 ≤ c → c < (m : Int) → p c → ∃ c0, (0 ≤ c0 ∧ c0 < (m : Int)) ∧ p c0 ∧ ∀ c', 0 ≤ c' → c' < c0 → ¬ p c' := by
  intro m
  induction m with
  | zero => intro c h0 h1; omega
  | succ m ih =>
    intro c h0 h1 hc
    by_cases q : ∃ b, (0 ≤ b ∧ b < (m : Int)) ∧ p b
    · obtain ⟨b, ⟨b0, b1⟩, hb⟩ := q
      obtain ⟨c0, a1, a2, a3⟩ := ih b b0 b1 hb
      exact ⟨c0, ⟨a1.1, by omega⟩, a2, a3⟩
    · exact ⟨c, ⟨h0, by omega⟩, hc, fun c' g0 g1 g2 => q ⟨c', ⟨g0, by omega⟩, g2⟩⟩
section MDY
variable {en : Nat → Nat} {d : Nat} {T : Nat → Option (Nat × Nat)} {J J0 : Nat → Nat → Int} {P : Nat → Nat → Option Nat} {L : Nat → Nat → Int64} {z w M : Nat} {Q : m_Q} {σ : a_S}
/-- the first step of a way, told by the distances -/
theorem k_Md_firstStep (hM : md_sh en M T P) (ok : a_ok (md_cf J0 M)) {goal n : Int} (h : s_Kn J0 J M goal 0) (hn : 0 ≤ n ∧ n < 38880) (hf : J (M + 20) n.toNat ≠ 30000) (hp : 0 < J (M + 20) n.toNat)
    (hq : ∀ c σ', s_first (md_cf J0 M) goal n c → Q (some (.int (m_i c))) (T, m_I (md_put J M σ'), P, L, z, w)) : m_call en (d + 5) mMd_firstStep [.ref M, .int (m_i n)] (T, m_I (md_put J M σ), P, L, z, w) Q := by
  have ecf : md_cf J M = md_cf J0 M := h.1.cf
  have ok2 : a_ok (md_cf J M) := by rw [ecf]; exact ok
  obtain ⟨k, hI, hk⟩ := h.2.2.2
  obtain ⟨c1, hc1, hn1⟩ := s_has ok h.2.1 hI hk hn hf hp
  obtain ⟨c0, a1, a2, a3⟩ := a_least (p := fun c => s_near (md_cf J0 M) J M n c) 9 c1 hc1.1 hc1.2 hn1
  have hfst : s_first (md_cf J0 M) goal n c0 := ⟨a1, (s_near_nr ok h hn hf hp c0).1 a2, fun c' g0 g1 g2 => a3 c' g0 g1 ((s_near_nr ok h hn hf hp c').2 g2)⟩
  exact c_Md_firstStep hM ok2 h.2.1.1 hn a1 (by rw [ecf]; exact a2) (by rw [ecf]; exact a3) (hq c0 _ hfst)
theorem y_Md_firstStep (hM : md_sh en M T P) (ok : a_ok (md_cf J0 M)) {goal n : Int} (h : s_Kn J0 J M goal 0) (hn : 0 ≤ n ∧ n < 38880) (hf : J (M + 20) n.toNat ≠ 30000) (hp : 0 < J (M + 20) n.toNat)
    (hq : ∀ c σ', s_first (md_cf J0 M) goal n c → Q (some (.int (m_i c))) (T, m_I (md_put J M σ'), P, L, z, w)) : m_call en (d + 5) mMd_firstStep [.ref M, .int (m_i n)] (T, m_I J, P, L, z, w) Q := by
  have h2 := k_Md_firstStep (d := d) (σ := md_get J M) (z := z) (w := w) (L := L) hM ok h hn hf hp hq
  rw [md_put_get] at h2
  exact h2
/-- the step that makes still: 4 where it stands in no way, is still, or can't -/
def s_stl (C : a_C) (n c : Int) : Prop := (¬ (a_is C (a_of n) = true ∧ ∃ t : Int, 0 < t ∧ s_ans C (-1) 0 n t) ∧ c = 4) ∨ ((a_is C (a_of n) = true ∧ ∃ t : Int, 0 < t ∧ s_ans C (-1) 0 n t) ∧ s_first C (-1) n c)
theorem c_Md_stillStep (hM : md_sh en M T P) (ok : a_ok (md_cf J M)) (hkp : md_kp J M) {n : Int} (hn : 0 ≤ n ∧ n < 38880)
    (hq : ∀ (J1 : Nat → Nat → Int) (c : Int), md_fx J J1 M → md_kp J1 M → s_stl (md_cf J M) n c → Q (some (.int (m_i c))) (T, m_I J1, P, L, z, w)) : m_call en (d + 8) mMd_stillStep [.ref M, .int (m_i n)] (T, m_I J, P, L, z, w) Q := by
  have hb01 := a_b_01 (a_is (md_cf J M) (a_of n))
  refine m_into (by decide) (Nat.le_of_ble_eq_true rfl) rfl ?_
  show m_wp en _ mMd_stillStep 0 [some (.ref M), some (.int (m_i (n)))] [] (T, m_I J, P, L, z, w) Q
  refine r_aln eMd_stillStep_0 rfl ?_
  refine r_iln eMd_stillStep_1 rfl ?_
  refine r_vir eMd_stillStep_2 rfl rfl rfl hM.2.1 rfl rfl ?_
  refine c_Md_doesStand hM ok (by omega) (by omega) ?_
  show m_wp en _ mMd_stillStep 5 [some (.ref M), some (.int (m_i (n)))] [(.int (m_i (a_b (a_is (md_cf J M) (a_of n)))))] (T, m_I ((md_put J M (a_of n))), P, L, z, w) Q
  refine r_zne (tgt := 10) eMd_stillStep_5 rfl ⟨(by omega), (by omega)⟩ (fun c5 => ?_) (fun c5 => ?_)
  · refine r_aln eMd_stillStep_10 rfl ?_
    refine r_con eMd_stillStep_11 ?_
    refine r_con eMd_stillStep_12 ?_
    refine r_vir eMd_stillStep_13 rfl rfl rfl hM.2.1 rfl rfl ?_
    refine k_Md_seeks hM (by rw [md_cf_put]; exact ok) (by omega) (by omega) (md_kp_put _ hkp) (fun J1 hfx hkp1 hK => ?_)
    · have hrok := hK.2.1.1 n.toNat (by omega)
      have ha := s_Kn_ans hK hn
      rw [md_cf_put] at ha
      show m_wp en _ mMd_stillStep 16 [some (.ref M), some (.int (m_i (n)))] [] (T, m_I J1, P, L, z, w) Q
      refine r_aln eMd_stillStep_16 rfl ?_
      refine m_getR eMd_stillStep_17 rfl hM.2.1 (md_far_p hM) ?_
      refine r_iln eMd_stillStep_20 rfl ?_
      refine r_salde (x := J1 (M + 20) ((n).toNat)) eMd_stillStep_21 (md_far_t hM) (by decide) (by omega) (by omega) rfl ?_
      refine r_zeq (tgt := 37) eMd_stillStep_22 rfl ⟨(by omega), (by omega)⟩ (fun c22 => ?_) (fun c22 => ?_)
      · refine r_con eMd_stillStep_37 ?_
        refine r_go (tgt := 46) eMd_stillStep_38 rfl ?_
        refine r_iret eMd_stillStep_46 rfl ?_
        refine hq _ 4 (((md_fx.refl J M).put _).trans hfx) hkp1 (Or.inl ⟨fun q => ?_, rfl⟩)
        obtain ⟨t, t0, t1⟩ := q.2
        have := s_ans_u ha t1
        (first | (rw [if_pos (by omega)] at this; omega) | (rw [if_neg (by omega)] at this; omega))
      · refine r_aln eMd_stillStep_25 rfl ?_
        refine m_getR eMd_stillStep_26 rfl hM.2.1 (md_far_p hM) ?_
        refine r_iln eMd_stillStep_29 rfl ?_
        refine r_salde (x := J1 (M + 20) ((n).toNat)) eMd_stillStep_30 (md_far_t hM) (by decide) (by omega) (by omega) rfl ?_
        refine r_sip eMd_stillStep_31 (by decide) ?_
        refine r_cne (tgt := 41) eMd_stillStep_34 rfl ⟨(by omega), (by omega)⟩ ⟨(by omega), (by omega)⟩ (fun c34 => ?_) (fun c34 => ?_)
        · refine r_aln eMd_stillStep_41 rfl ?_
          refine r_iln eMd_stillStep_42 rfl ?_
          refine r_vir eMd_stillStep_43 rfl rfl rfl hM.2.1 rfl rfl ?_
          refine y_Md_firstStep hM (by rw [md_cf_put]; exact ok) hK hn (by omega) (by omega) (fun c σ' hfst => ?_)
          · rw [md_cf_put] at hfst
            show m_wp en _ mMd_stillStep 46 [some (.ref M), some (.int (m_i (n)))] [(.int (m_i (c)))] (T, m_I ((md_put J1 M σ')), P, L, z, w) Q
            refine r_iret eMd_stillStep_46 rfl ?_
            refine hq _ c ((((md_fx.refl J M).put _).trans hfx).put _) (md_kp_put _ hkp1) (Or.inr ⟨⟨Classical.byContradiction (fun q => c5 (a_b_f q)), J1 (M + 20) n.toNat, by omega, ?_⟩, hfst⟩)
            rw [if_neg (by omega)] at ha
            exact ha
        · refine r_con eMd_stillStep_37 ?_
          refine r_go (tgt := 46) eMd_stillStep_38 rfl ?_
          refine r_iret eMd_stillStep_46 rfl ?_
          refine hq _ 4 (((md_fx.refl J M).put _).trans hfx) hkp1 (Or.inl ⟨fun q => ?_, rfl⟩)
          obtain ⟨t, t0, t1⟩ := q.2
          have := s_ans_u ha t1
          (first | (rw [if_pos (by omega)] at this; omega) | (rw [if_neg (by omega)] at this; omega))
  · refine r_con eMd_stillStep_8 ?_
    refine r_iret eMd_stillStep_9 rfl ?_
    exact hq _ 4 ((md_fx.refl J M).put _) (md_kp_put _ hkp) (Or.inl ⟨fun q => by have := a_b_t q.1; omega, rfl⟩)
end MDY
