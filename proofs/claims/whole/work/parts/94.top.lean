/-! what holds between the calls, after a text -/
section MDTO
variable {J J1 J' : Nat → Nat → Int} {M : Nat}
theorem dr_pl (h : md_pl J M) (hb : dr_r J1 M) (h2 : ∀ i, i < 13 → J1 (M + 2) i = J (M + 2) i) (h17 : J1 (M + 17) = J (M + 17)) : md_pl J1 M := by
  have mi : ∀ x : Int, -2147483648 ≤ x ∧ x ≤ 2147483647 → m_in x := fun x h => ⟨by omega, by omega⟩
  unfold md_pl at h ⊢
  rw [h2 0 (by omega), h2 1 (by omega), h2 2 (by omega), h2 3 (by omega), h2 4 (by omega), h2 5 (by omega), h2 6 (by omega), h2 8 (by omega), h2 11 (by omega), h17]
  refine ⟨h.1, h.2.1, h.2.2.1, h.2.2.2.1, h.2.2.2.2.1, h.2.2.2.2.2.1, h.2.2.2.2.2.2.1, h.2.2.2.2.2.2.2.1, h.2.2.2.2.2.2.2.2.1, fun i hi => ⟨mi _ (hb 4 (by omega) (by omega) i hi), ?_, hb 6 (by omega) (by omega) i hi⟩, fun i hi => ⟨?_, ?_⟩, fun i hi => ⟨mi _ (hb 12 (by omega) (by omega) i hi), hb 13 (by omega) (by omega) i hi⟩, fun i hi => ⟨?_, ?_⟩, h.2.2.2.2.2.2.2.2.2.2.2.2.2⟩
  · have : (0 : Int) ≤ J1 (M + 5) i ∧ J1 (M + 5) i ≤ 15 := hb 5 (by omega) (by omega) i hi
    omega
  · have : (0 : Int) ≤ J1 (M + 10) i ∧ J1 (M + 10) i ≤ 999 := hb 10 (by omega) (by omega) i hi
    exact ⟨by omega, by omega⟩
  · have : (-4 : Int) ≤ J1 (M + 11) i ∧ J1 (M + 11) i ≤ 4 := hb 11 (by omega) (by omega) i hi
    omega
  · have : (0 : Int) ≤ J1 (M + 14) i ∧ J1 (M + 14) i ≤ 15 := hb 14 (by omega) (by omega) i hi
    omega
  · have : (0 : Int) ≤ J1 (M + 15) i ∧ J1 (M + 15) i ≤ 15 := hb 15 (by omega) (by omega) i hi
    omega
/-- what was read, but not taken, leaves what holds -/
theorem dr_inv (h : md_inv J M) (hb : dr_r J1 M) (h2 : ∀ i, i < 13 → J1 (M + 2) i = J (M + 2) i) (hk : ∀ k, 17 ≤ k → J1 (M + k) = J (M + k)) (hM : ∀ i, 28 < i → J1 M i = J M i) : md_inv J1 M := by
  obtain ⟨⟨h1, hrow, h3, h4⟩, h5, h6⟩ := h
  have ecf : md_cf J1 M = md_cf J M := by
    unfold md_cf
    rw [h2 0 (by omega), h2 1 (by omega), h2 2 (by omega), h2 3 (by omega), hk 19 (by omega), hM 32 (by omega)]
  have ef : md_fr J1 M = md_fr J M := by
    funext i
    unfold md_fr
    rw [hk 17 (by omega), hk 18 (by omega)]
  have kp := md_kp_eq (J1 := J1) (hk 20 (by omega)) (hk 21 (by omega)) (hM 40 (by omega)) (hM 41 (by omega)) (hM 42 (by omega)) ecf h6
  refine ⟨⟨dr_pl h1 hb h2 (hk 17 (by omega)), ?_, ?_, kp.1.2⟩, ?_, kp⟩
  · rw [hk 22 (by omega)]
    exact hrow
  · unfold md_kr at h3 ⊢
    rw [hk 23 (by omega), hM 45 (by omega), hM 46 (by omega)]
    exact h3
  · unfold md_co at h5 ⊢
    rw [hk 22 (by omega), hk 18 (by omega), hk 19 (by omega), hM 32 (by omega), ef]
    exact h5
theorem md_tx_top (ht : md_top J M) {n : Int} {x' : a_Q} (hn : 0 ≤ n ∧ n ≤ J M 2) (hd : dr_b J' M) (hf : dr_f (m_up J M 20 n) J' M) (hx : a_qb n x') : md_top (md_tx J' M x') M := by
  obtain ⟨hinv, hr, htp, hv⟩ := ht
  have hr1 : dr_r (md_tx J' M x') M := fun k h0 h1 i hi => by
    rw [md_tx_o (by omega)]
    exact hd.2.1 k (by omega) h1 i hi
  have f : ∀ b i, ¬ dr_c M b i → ¬ (b = M ∧ (i = 20 ∨ i = 2 ∨ i = 27 ∨ i = 28)) → md_tx J' M x' b i = J b i := fun b i a c => by
    by_cases hb : b = M
    · subst hb
      rw [md_tx_M (by unfold dr_c at a; omega) (by omega), hf _ _ a, m_up_at, if_neg (by omega)]
    · rw [md_tx_o hb, hf _ _ a, m_up_at, if_neg (by omega)]
  have e24 : md_tx J' M x' M 24 = x'.2.2.2.1 := by
    unfold md_tx md_q
    rw [if_neg (by omega), if_neg (by omega), if_neg (by omega), if_pos ⟨rfl, rfl⟩]
  have e2 : md_tx J' M x' M 2 = 0 := by
    unfold md_tx
    rw [q_f (by omega), m_up_at, if_neg (by omega), m_up_at, if_neg (by omega)]
    exact m_up_same
  refine ⟨dr_inv hinv hr1 (fun i hi => f _ _ (by unfold dr_c; omega) (by omega)) (fun k hk => funext (fun i => f _ _ (by unfold dr_c; omega) (by omega))) (fun i hi => f _ _ (by unfold dr_c; omega) (by omega)), hr1, ?_, by rw [e24]; exact hx.2.2.2.1⟩
  rw [e2, show md_tx J' M x' (M + 1) = J (M + 1) from funext (fun i => f _ _ (by unfold dr_c; omega) (by omega))]
  exact ⟨by omega, htp.2⟩
theorem md_bt_top (ht : md_top J M) (hd : dr_b J M) : md_top (md_bg (md_tt J M) M) M := by
  obtain ⟨hinv, hr, htp, hv⟩ := ht
  have hr2 := md_tt_r hd
  refine ⟨md_bg_inv (md_tt_pq hd hinv.hkp.1.2), fun k h0 h1 i hi => ?_, ?_, ?_⟩
  · rw [md_bg_o (by omega) (by omega) (by omega) (by omega)]
    exact hr2 k h0 h1 i hi
  · rw [md_bg_M (by omega), md_tt_x (by omega), show md_bg (md_tt J M) M (M + 1) = J (M + 1) from funext (fun i => by rw [md_bg_o (by omega) (by omega) (by omega) (by omega), md_tt_x (by omega)])]
    exact htp
  · rw [md_bg_M (by omega), md_tt_x (by omega)]
    exact hv
end MDTO
