/-! what holds of the reference between calls -/
/-- a row of the state: numbers within their bounds -/
def md_row (r : Nat → Int) : Prop := (0 ≤ r 0 ∧ r 0 < 38880) ∧ (0 ≤ r 1 ∧ r 1 ≤ 9999) ∧ (0 ≤ r 2 ∧ r 2 ≤ 16) ∧ (0 ≤ r 3 ∧ r 3 ≤ r 4 ∧ r 4 ≤ r 1) ∧ (r 5 = 0 ∨ r 5 = 1) ∧ (0 ≤ r 6 ∧ r 6 ≤ 40) ∧ (∀ i : Nat, i < 16 → 0 ≤ r (7 + i) ∧ r (7 + i) ≤ 6) ∧ ∀ i : Nat, i < 143 → -100000 ≤ r i ∧ r i ≤ 100000
/-- what a text has told -/
def md_pl (J : Nat → Nat → Int) (M : Nat) : Prop := (4 ≤ J (M + 2) 0 ∧ J (M + 2) 0 ≤ 16) ∧ (2 ≤ J (M + 2) 1 ∧ J (M + 2) 1 ≤ 6) ∧ (1 ≤ J (M + 2) 2 ∧ J (M + 2) 2 ≤ 2) ∧ (1 ≤ J (M + 2) 3 ∧ J (M + 2) 3 ≤ 4) ∧ (0 ≤ J (M + 2) 4 ∧ J (M + 2) 4 ≤ 6) ∧ (0 ≤ J (M + 2) 5 ∧ J (M + 2) 5 ≤ 16) ∧ (0 ≤ J (M + 2) 6 ∧ J (M + 2) 6 ≤ 8) ∧ (0 ≤ J (M + 2) 8 ∧ J (M + 2) 8 ≤ 99999) ∧ (0 ≤ J (M + 2) 11 ∧ J (M + 2) 11 ≤ 3) ∧
  (∀ i : Nat, i < 12 → m_in (J (M + 4) i) ∧ (0 ≤ J (M + 5) i ∧ J (M + 5) i < 16) ∧ 0 ≤ J (M + 6) i ∧ J (M + 6) i ≤ 6) ∧ (∀ i : Nat, i < 16 → m_in (J (M + 10) i) ∧ -100 ≤ J (M + 11) i ∧ J (M + 11) i ≤ 100) ∧ (∀ i : Nat, i < 32 → m_in (J (M + 12) i) ∧ 0 ≤ J (M + 13) i ∧ J (M + 13) i ≤ 30) ∧ (∀ i : Nat, i < 8 → (0 ≤ J (M + 14) i ∧ J (M + 14) i < 16) ∧ 0 ≤ J (M + 15) i ∧ J (M + 15) i < 16) ∧ ∀ i : Nat, i < 16 → 0 ≤ J (M + 17) i ∧ J (M + 17) i ≤ 6
/-- the rows that are kept -/
def md_kr (J : Nat → Nat → Int) (M : Nat) : Prop := (0 ≤ J M 45 ∧ J M 45 ≤ 30) ∧ (J M 46 = 0 ∨ J M 46 = 1) ∧ (∀ k : Nat, (k : Int) < J M 45 → md_row (fun i => J (M + 23) (143 * k + i))) ∧ (J M 46 = 1 → md_row (fun i => J (M + 23) (4290 + i)))
def md_pre (J : Nat → Nat → Int) (M : Nat) : Prop := md_pl J M ∧ md_row (J (M + 22)) ∧ md_kr J M ∧ md_4 J M
/-- piles, what is free, whether it holds are those of the row -/
def md_co (J : Nat → Nat → Int) (M : Nat) : Prop := J M 32 = J (M + 22) 5 ∧ (∀ i : Nat, i < 16 → J (M + 18) i = J (M + 22) (7 + i)) ∧ ∀ i : Nat, i < 16 → J (M + 19) i = md_fr J M i
def md_inv (J : Nat → Nat → Int) (M : Nat) : Prop := md_pre J M ∧ md_co J M ∧ md_kp J M
section INV
variable {J J1 : Nat → Nat → Int} {M : Nat}
theorem md_inv.pl (h : md_inv J M) : md_pl J M := h.1.1
theorem md_inv.row (h : md_inv J M) : md_row (J (M + 22)) := h.1.2.1
theorem md_inv.kr (h : md_inv J M) : md_kr J M := h.1.2.2.1
theorem md_inv.hkp (h : md_inv J M) : md_kp J M := h.2.2
theorem md_inv.hs (h : md_inv J M) : 0 ≤ J (M + 22) 0 ∧ J (M + 22) 0 < 38880 := h.row.1
theorem md_inv.ht (h : md_inv J M) : 0 ≤ J (M + 22) 1 ∧ J (M + 22) 1 ≤ 9999 := h.row.2.1
theorem md_inv.h6 (h : md_inv J M) : 0 ≤ J (M + 22) 6 ∧ J (M + 22) 6 ≤ 40 := h.row.2.2.2.2.2.1
theorem md_inv.hu (h : md_inv J M) : 0 ≤ J M 45 ∧ J M 45 ≤ 30 := h.kr.1
theorem md_inv.hwn (h : md_inv J M) : 0 ≤ J (M + 2) 6 ∧ J (M + 2) 6 ≤ 8 := h.pl.2.2.2.2.2.2.1
theorem md_inv.hwb (h : md_inv J M) : ∀ i : Nat, i < 8 → m_in (J (M + 10) i) := fun i hi => (h.pl.2.2.2.2.2.2.2.2.2.2.1 i (by omega)).1
theorem md_inv.hwv (h : md_inv J M) : ∀ i : Nat, i < 8 → -100 ≤ J (M + 11) i ∧ J (M + 11) i ≤ 100 := fun i hi => (h.pl.2.2.2.2.2.2.2.2.2.2.1 i (by omega)).2
theorem md_inv.hsb (h : md_inv J M) : md_sb J M := ⟨h.pl.2.2.2.2.1, fun i hi => (h.pl.2.2.2.2.2.2.2.2.2.1 i hi).2⟩
theorem md_inv.hnm (h : md_inv J M) : ∀ i : Nat, i < 12 → m_in (J (M + 4) i) := fun i hi => (h.pl.2.2.2.2.2.2.2.2.2.1 i hi).1
theorem md_inv.hor (h : md_inv J M) : ∀ i : Nat, i < 32 → m_in (J (M + 12) i) ∧ 0 ≤ J (M + 13) i ∧ J (M + 13) i ≤ 30 := h.pl.2.2.2.2.2.2.2.2.2.2.2.1
theorem md_inv.hjb (h : md_inv J M) : ∀ i : Nat, i < 8 → (0 ≤ J (M + 14) i ∧ J (M + 14) i < 16) ∧ 0 ≤ J (M + 15) i ∧ J (M + 15) i < 16 := h.pl.2.2.2.2.2.2.2.2.2.2.2.2.1
theorem md_inv.hcl (h : md_inv J M) : ∀ i : Nat, i < 16 → 0 ≤ J (M + 17) i ∧ J (M + 17) i ≤ 6 := h.pl.2.2.2.2.2.2.2.2.2.2.2.2.2
theorem md_inv.hpi (h : md_inv J M) : ∀ i : Nat, i < 16 → 0 ≤ J (M + 18) i ∧ J (M + 18) i ≤ 6 := fun i hi => by
  rw [h.2.1.2.1 i hi]
  exact h.row.2.2.2.2.2.2.1 i hi
theorem md_inv.hp (h : md_inv J M) : ∀ i : Nat, i < 16 → -1000 ≤ J (M + 18) i ∧ J (M + 18) i ≤ 1000 := fun i hi => by
  have := h.hpi i hi
  omega
theorem md_fr_bd (h1 : ∀ i : Nat, i < 16 → 0 ≤ J (M + 17) i ∧ J (M + 17) i ≤ 6) (h2 : ∀ i : Nat, i < 16 → 0 ≤ J (M + 18) i) {i : Nat} (hi : i < 16) : 0 ≤ md_fr J M i ∧ md_fr J M i ≤ 6 := by
  have a := h1 i hi
  have b := h2 i hi
  unfold md_fr
  split <;> omega
theorem md_inv.hfr (h : md_inv J M) : ∀ i : Nat, i < 16 → 0 ≤ J (M + 19) i ∧ J (M + 19) i ≤ 6 := fun i hi => by
  rw [h.2.1.2.2 i hi]
  exact md_fr_bd h.hcl (fun j hj => (h.hpi j hj).1) hi
theorem md_inv.h32 (h : md_inv J M) : J M 32 = 0 ∨ J M 32 = 1 := by
  rw [h.2.1.1]
  exact h.row.2.2.2.2.1
theorem md_inv.ok (h : md_inv J M) : a_ok (md_cf J M) := ⟨h.pl.1, h.pl.2.1, h.pl.2.2.1, h.pl.2.2.2.1, h.h32, fun x h0 h1 => h.hfr x.toNat (by omega)⟩
theorem md_row_pb (h : md_pl J M) (h2 : md_row (J (M + 22))) : md_pb J M := ⟨fun i hi => by have := h.2.2.2.2.2.2.2.2.2.2.2.2.2 i hi; omega, h2.2.2.2.2.2.2.2, fun i hi => by have := h2.2.2.2.2.2.2.1 i hi; omega⟩
theorem md_inv.hpb (h : md_inv J M) : md_pb J M := md_row_pb h.pl h.row
/-- the same but for what a search writes -/
theorem md_inv.fx (h : md_inv J M) (fx : md_fx J J1 M) (kp : md_kp J1 M) : md_inv J1 M := by
  have e : ∀ k, 0 < k → k ≠ 20 → k ≠ 21 → J1 (M + k) = J (M + k) := fun k a b c => funext (fun i => fx _ _ (by omega) (by omega) (by omega))
  have f : ∀ i, i < 33 ∨ 42 < i → J1 M i = J M i := fun i a => fx M i (by omega) (by omega) (by omega)
  have ef : md_fr J1 M = md_fr J M := by
    funext i
    unfold md_fr
    rw [e 17 (by omega) (by omega) (by omega), e 18 (by omega) (by omega) (by omega)]
  obtain ⟨⟨h1, h2, h3, h4⟩, h5, h6⟩ := h
  refine ⟨⟨?_, ?_, ?_, kp.1.2⟩, ?_, kp⟩
  · unfold md_pl at h1 ⊢
    rw [e 2 (by omega) (by omega) (by omega), e 4 (by omega) (by omega) (by omega), e 5 (by omega) (by omega) (by omega), e 6 (by omega) (by omega) (by omega), e 10 (by omega) (by omega) (by omega), e 11 (by omega) (by omega) (by omega), e 12 (by omega) (by omega) (by omega), e 13 (by omega) (by omega) (by omega), e 14 (by omega) (by omega) (by omega), e 15 (by omega) (by omega) (by omega), e 17 (by omega) (by omega) (by omega)]
    exact h1
  · rw [e 22 (by omega) (by omega) (by omega)]
    exact h2
  · unfold md_kr at h3 ⊢
    rw [e 23 (by omega) (by omega) (by omega), f 45 (by omega), f 46 (by omega)]
    exact h3
  · unfold md_co at h5 ⊢
    rw [e 22 (by omega) (by omega) (by omega), e 18 (by omega) (by omega) (by omega), e 19 (by omega) (by omega) (by omega), f 32 (by omega), ef]
    exact h5
theorem md_inv.put (h : md_inv J M) (σ : a_S) : md_inv (md_put J M σ) M := h.fx ((md_fx.refl J M).put σ) (md_kp_put σ h.hkp)
theorem md_kp_eq (h20 : J1 (M + 20) = J (M + 20)) (h21 : J1 (M + 21) = J (M + 21)) (h40 : J1 M 40 = J M 40) (h41 : J1 M 41 = J M 41) (h42 : J1 M 42 = J M 42) (hcf : md_cf J1 M = md_cf J M) (h : md_kp J M) : md_kp J1 M := by
  have erf : rf J1 M = rf J M := by
    funext n
    unfold rf
    rw [h20]
  have erq : rq J1 M = rq J M := by
    funext n
    unfold rq
    rw [h21]
  unfold md_kp md_4 md_far at h ⊢
  rw [h40, h41, h20]
  refine ⟨h.1, fun q => ?_⟩
  obtain ⟨fx, rok, g, hk⟩ := h.2 q
  refine ⟨md_fx.refl _ M, ?_, by rw [h40, h41]; exact g, ?_⟩
  · unfold rw_ok at rok ⊢
    rw [h20, h21, h42]
    exact rok
  · rw [hcf, erf, erq, h42]
    exact hk
theorem md_kp_m2 (h40 : J M 40 = -2) (h41 : md_4 J M) : md_kp J M := ⟨⟨by rw [h40]; exact ⟨by omega, by omega⟩, h41⟩, fun q => by omega⟩
/-- the piles and what is free, taken from the row -/
theorem md_as_o (J : Nat → Nat → Int) (M : Nat) {b i : Nat} (h : b ≠ M) (h1 : b ≠ M + 18) (h2 : b ≠ M + 19) : md_as J M b i = J b i := by
  unfold md_as md_piles
  rw [m_up_at, if_neg (fun q => h q.1), m_fl_o h2, m_fl_o h1, m_up_at, if_neg (fun q => h q.1)]
theorem md_as_M (J : Nat → Nat → Int) (M : Nat) {i : Nat} (h : i ≠ 32) (h1 : i ≠ 40) : md_as J M M i = J M i := by
  unfold md_as md_piles
  rw [m_up_at, if_neg (fun q => h1 q.2), m_fl_o (by omega), m_fl_o (by omega), m_up_at, if_neg (fun q => h q.2)]
theorem md_as_40 (J : Nat → Nat → Int) (M : Nat) : md_as J M M 40 = -2 := by
  unfold md_as md_piles
  exact m_up_same
theorem md_as_32 (J : Nat → Nat → Int) (M : Nat) : md_as J M M 32 = if J (M + 22) 5 = 1 then 1 else 0 := by
  unfold md_as md_piles
  rw [m_up_at, if_neg (by omega), m_fl_o (by omega), m_fl_o (by omega)]
  exact m_up_same
theorem md_as_18 (J : Nat → Nat → Int) (M : Nat) {i : Nat} (hi : i < 16) : md_as J M (M + 18) i = J (M + 22) (7 + i) := by
  unfold md_as md_piles
  rw [m_up_at, if_neg (by omega), m_fl_o (by omega), m_fl_i (by omega)]
  rfl
theorem md_as_19 (J : Nat → Nat → Int) (M : Nat) {i : Nat} (hi : i < 16) : md_as J M (M + 19) i = md_fr (md_as J M) M i := by
  have e : md_fr (md_as J M) M i = if J (M + 22) (7 + i) < J (M + 17) i then J (M + 17) i - J (M + 22) (7 + i) else 0 := by
    unfold md_fr
    rw [md_as_18 J M hi, md_as_o J M (by omega) (by omega) (by omega)]
  rw [e]
  unfold md_as md_piles
  rw [m_up_at, if_neg (by omega)]
  have e1 : m_fl (m_up J M 32 (if J (M + 22) 5 = 1 then 1 else 0)) (M + 18) 0 (fun i => J (M + 22) (7 + i)) 16 (M + 17) i = J (M + 17) i := by
    rw [m_fl_o (by omega), m_up_at, if_neg (by omega)]
  have e2 : m_fl (m_up J M 32 (if J (M + 22) 5 = 1 then 1 else 0)) (M + 18) 0 (fun i => J (M + 22) (7 + i)) 16 (M + 18) i = J (M + 22) (7 + i) := m_fl_i (by omega)
  refine (m_fl_i (by omega)).trans ?_
  rw [Nat.sub_zero]
  unfold md_fr
  rw [e1, e2]
theorem md_4_as (h : md_4 J M) : md_4 (md_as J M) M := ⟨by rw [md_as_M J M (by omega) (by omega)]; exact h.1, fun i hi => by rw [md_as_o J M (by omega) (by omega) (by omega)]; exact h.2 i hi⟩
theorem md_4_up {b i : Nat} (h : b ≠ M + 20) (h2 : ¬ (b = M ∧ i = 41)) (v : Int) (h4 : md_4 J M) : md_4 (m_up J b i v) M := ⟨by rw [m_up_at, if_neg (fun q => h2 ⟨q.1.symm, q.2.symm⟩)]; exact h4.1, fun j hj => by rw [m_up_at, if_neg (fun q => h q.1.symm)]; exact h4.2 j hj⟩
theorem md_as_inv (h : md_pre J M) : md_inv (md_as J M) M := by
  have e : ∀ k, 0 < k → k ≠ 18 → k ≠ 19 → md_as J M (M + k) = J (M + k) := fun k a b c => funext (fun i => md_as_o J M (by omega) (by omega) (by omega))
  obtain ⟨h1, h2, h3, h4⟩ := h
  refine ⟨⟨?_, ?_, ?_, ?_⟩, ⟨?_, fun i hi => ?_, fun i hi => md_as_19 J M hi⟩, md_kp_m2 (md_as_40 J M) ?_⟩
  · unfold md_pl at h1 ⊢
    rw [e 2 (by omega) (by omega) (by omega), e 4 (by omega) (by omega) (by omega), e 5 (by omega) (by omega) (by omega), e 6 (by omega) (by omega) (by omega), e 10 (by omega) (by omega) (by omega), e 11 (by omega) (by omega) (by omega), e 12 (by omega) (by omega) (by omega), e 13 (by omega) (by omega) (by omega), e 14 (by omega) (by omega) (by omega), e 15 (by omega) (by omega) (by omega), e 17 (by omega) (by omega) (by omega)]
    exact h1
  · rw [e 22 (by omega) (by omega) (by omega)]
    exact h2
  · unfold md_kr at h3 ⊢
    rw [e 23 (by omega) (by omega) (by omega), md_as_M J M (by omega) (by omega), md_as_M J M (by omega) (by omega)]
    exact h3
  · exact md_4_as h4
  · rw [md_as_32, e 22 (by omega) (by omega) (by omega)]
    have := h2.2.2.2.2.1
    split <;> omega
  · rw [md_as_18 J M hi, e 22 (by omega) (by omega) (by omega)]
  · exact md_4_as h4
end INV
