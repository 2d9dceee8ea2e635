/-! THE TIE: width, deep, top, swing; start; seed: what was read then -/
section LNV
variable {A B A' B' : Nat → Nat → Int} {X M : Nat} {n : Int} {y x x' y' : a_Q}
theorem ra_tie (hT : rd_T A B X M n) (hR : rd_R A B X M) (hS : rs_S n y x) {wd : Nat} (hw : wd < 4) {lo hi : Int} (hlo : 0 ≤ lo) (hhi : hi ≤ 99999) {J' : Nat → Nat → Int} (hr : s_ra B M wd lo hi x J' x') {r : Int} {y2 : a_Q} (hc : (r, y2) = re_nb (A (X + 2)) (A (X + 1) 6) lo hi (re_ms (A (X + 15)) (wd : Int) y)) : rs_B (A (X + 2)) n y2 x' ∧ J' = m_up (m_up B (M + 3) wd 1) (M + 2) (13 + wd) r ∧ (x'.2.2.2.2.1 = 0 → re_bg (A (X + 15)) ≤ 0 ∧ A (X + 15) wd = 0) := by
  obtain ⟨x1, r1, g1, g2, g3⟩ := hr
  have k1 := ms_ra hT hR hS hw g1
  obtain ⟨a1, k2⟩ := nb_tie hT k1 hlo hhi g2 rfl rfl hc
  subst a1
  refine ⟨k2, g3, fun q => ?_⟩
  have h1 := (rs_B_ok k1).mp (nu_f g2 q)
  unfold re_ms at h1
  rw [show ((wd : Int)).toNat = wd from by omega] at h1
  have hmt : re_mt wd = 1 := by
    have : wd = 0 ∨ wd = 1 ∨ wd = 2 ∨ wd = 3 := by omega
    rcases this with e | e | e | e <;> subst e <;> rfl
  rw [hmt] at h1
  have hrf : ∀ k : Int, k ≠ 0 → (re_rf k y).1 ≠ 0 := fun k hk => by unfold re_rf; rw [if_pos hS.1.1]; exact hk
  by_cases c : 0 < re_bg (A (X + 15))
  · rw [if_pos (Or.inr (Or.inr ⟨by omega, c⟩))] at h1
    exact absurd h1 (hrf 1 (by decide))
  · rw [if_neg (fun q => q.elim (fun q => by omega) (fun q => q.elim (fun q => by omega) (fun q => c q.2)))] at h1
    by_cases c2 : 1 ≤ A (X + 15) wd
    · rw [if_pos c2, if_pos rfl] at h1
      exact absurd h1 (hrf 3 (by decide))
    · have := hR.2.1.2.2.1 wd (by omega)
      exact ⟨by omega, by omega⟩
theorem sr_tie (hT : rd_T A B X M n) (hR : rd_R A B X M) (hS : rs_S n y x) (hw : B (M + 2) 13 ≤ 16 ∧ B (M + 2) 14 ≤ 6) {J' : Nat → Nat → Int} (hr : s_sr B M x J' x') {r1 r2 : Int} {y1 y2 : a_Q} (h1 : (r1, y1) = re_nb (A (X + 2)) (A (X + 1) 6) 0 (A (X + 3) 0 - 1) (re_ms (A (X + 15)) 6 y)) (h2 : (r2, y2) = re_nb (A (X + 2)) (A (X + 1) 6) 1 (A (X + 3) 1) y1) : rs_B (A (X + 2)) n y2 x' ∧ J' = m_up (m_up (m_up B (M + 3) 6 1) (M + 2) 22 r1) (M + 2) 23 r2 ∧ (x'.2.2.2.2.1 = 0 → A (X + 15) 6 = 0) := by
  obtain ⟨x1, x2, c1, c2, g1, g2, g3, g4⟩ := hr
  have e0 := hR.1.1
  have k1 : rs_B (A (X + 2)) n (re_ms (A (X + 15)) 6 y) x1 := ms_on hT hR hS (wd := 6) (Or.inl rfl) g1
  obtain ⟨a1, k2⟩ := nb_tie hT k1 (by omega) (by omega) g2 rfl (by rw [e0.1]) h1
  subst a1
  obtain ⟨a2, k3⟩ := nb_tie hT k2 (by omega) (by omega) g3 rfl e0.2.1 h2
  subst a2
  refine ⟨k3, g4, fun q => ?_⟩
  have hh := (rs_B_ok k1).mp (nu_f g2 (nu_f g3 q))
  unfold re_ms at hh
  rw [if_neg (by omega)] at hh
  by_cases c2 : 1 ≤ A (X + 15) 6
  · rw [show re_mt (6 : Int).toNat = 1 from rfl, show A (X + 15) (6 : Int).toNat = A (X + 15) 6 from rfl, if_pos c2, if_pos rfl] at hh
    unfold re_rf at hh
    rw [if_pos hS.1.1] at hh
    exact absurd (show (3 : Int) = 0 from hh) (by decide)
  · have := hR.2.1.2.2.1 6 (by omega)
    omega
theorem se_tie (hT : rd_T A B X M n) (hR : rd_R A B X M) (hS : rs_S n y x) {J' : Nat → Nat → Int} (hr : s_se B M x J' x') {r1 : Int} {y2 : a_Q} (h1 : (r1, y2) = re_nb (A (X + 2)) (A (X + 1) 6) 0 99999 (re_ms (A (X + 15)) 11 y)) : rs_B (A (X + 2)) n y2 x' ∧ J' = m_up (m_up B (M + 3) 11 1) (M + 2) 21 r1 ∧ (x'.2.2.2.2.1 = 0 → A (X + 15) 11 = 0) := by
  obtain ⟨x1, c1, g1, g2, g4⟩ := hr
  have k1 : rs_B (A (X + 2)) n (re_ms (A (X + 15)) 11 y) x1 := ms_on hT hR hS (wd := 11) (Or.inr rfl) g1
  obtain ⟨a1, k2⟩ := nb_tie hT k1 (by omega) (by omega) g2 rfl rfl h1
  subst a1
  refine ⟨k2, g4, fun q => ?_⟩
  have hh := (rs_B_ok k1).mp (nu_f g2 q)
  unfold re_ms at hh
  rw [if_neg (by omega)] at hh
  by_cases c2 : 1 ≤ A (X + 15) 11
  · rw [show re_mt (11 : Int).toNat = 1 from rfl, show A (X + 15) (11 : Int).toNat = A (X + 15) 11 from rfl, if_pos c2, if_pos rfl] at hh
    unfold re_rf at hh
    rw [if_pos hS.1.1] at hh
    exact absurd (show (3 : Int) = 0 from hh) (by decide)
  · have := hR.2.1.2.2.1 11 (by omega)
    omega
/-- what a line leaves: rows of the draft and of what was read, but those named -/
theorem a_cb_e (e7 : B' (M + 7) = B (M + 7)) (e8 : B' (M + 8) = B (M + 8)) (e9 : B' (M + 9) = B (M + 9)) {x : Nat} : ∀ k, a_cb B' M x k = a_cb B M x k := by
  intro k
  induction k with
  | zero => rfl
  | succ k ih => unfold a_cb; rw [e7, e8, e9, ih]
/-- scalars alone have changed: the seven of the draft, and which lines were told -/
theorem rd_sc (hR : rd_R A B X M) (ha : ∀ b i, b ≠ X + 3 → b ≠ X + 15 → A' b i = A b i) (hb : ∀ b i, b ≠ M → b ≠ M + 2 → b ≠ M + 3 → B' b i = B b i) (hc : ∀ i, 17 ≤ i → i ≤ 20 ∨ i = 24 ∨ i = 25 → B' (M + 2) i = B (M + 2) i) (hl : ∀ i, 4 ≤ i → i ≤ 10 → i ≠ 6 → A' (X + 15) i = A (X + 15) i) (h6 : (A' (X + 15) 6 = A (X + 15) 6 ∧ B' M 18 = B M 18) ∨ (A (X + 15) 6 = 0 ∧ A' (X + 15) 6 = 1 ∧ B' M 18 ≠ 0))
    (hs : ((A' (X + 3) 0 = B' (M + 2) 13 ∧ A' (X + 3) 1 = B' (M + 2) 14 ∧ A' (X + 3) 2 = B' (M + 2) 15 ∧ A' (X + 3) 3 = B' (M + 2) 16) ∧ (A' (X + 3) 4 = B' (M + 2) 21 ∧ A' (X + 3) 5 = B' (M + 2) 22 ∧ A' (X + 3) 6 = B' (M + 2) 23))) (hw : ∀ w : Nat, w < 4 ∨ w = 6 ∨ w = 11 → A' (X + 15) w = B' (M + 3) w ∧ (B' (M + 3) w = 0 ∨ B' (M + 3) w = 1)) (h13 : B' (M + 2) 13 = B (M + 2) 13 ∨ B (M + 2) 24 ≤ 0) : rd_R A' B' X M := by
  obtain ⟨-, ⟨⟨c1, c2, c3, c4, c5, c6⟩, d1, d2, d3⟩, p1, p2, p3, p4, p5, p6, p7⟩ := hR
  have ra : ∀ k, k ≠ 3 → k ≠ 15 → A' (X + k) = A (X + k) := fun k q1 q2 => funext (fun i => ha _ _ (by omega) (by omega))
  have rb : ∀ k, 4 ≤ k → B' (M + k) = B (M + k) := fun k q => funext (fun i => hb _ _ (by omega) (by omega) (by omega))
  refine ⟨hs, ⟨⟨?_, ?_, ?_, ?_, ?_, ?_⟩, hw, fun w hw2 => ?_, ?_⟩, ?_, ?_, ?_, ?_, ?_, ?_, ?_⟩
  · rw [hl 5 (by omega) (by omega) (by omega), hc 17 (by omega) (by omega)]; exact c1
  · rw [hl 8 (by omega) (by omega) (by omega), hc 18 (by omega) (by omega)]; exact c2
  · rw [hl 7 (by omega) (by omega) (by omega), hc 19 (by omega) (by omega)]; exact c3
  · rw [hl 4 (by omega) (by omega) (by omega), hc 20 (by omega) (by omega)]; exact c4
  · rw [hl 10 (by omega) (by omega) (by omega), hc 24 (by omega) (by omega)]; exact c5
  · rw [hl 9 (by omega) (by omega) (by omega), hc 25 (by omega) (by omega)]; exact c6
  · by_cases q : w < 4 ∨ w = 6 ∨ w = 11
    · have := hw w q; omega
    · rw [hl w (by omega) (by omega) (by omega)]; exact d2 w hw2
  · have e1 : ∀ i, 4 ≤ i → i ≤ 10 → 0 ≤ A (X + 15) i := fun i _ q2 => d2 i (by omega)
    have := e1 4 (by omega) (by omega)
    have := e1 5 (by omega) (by omega)
    have := e1 7 (by omega) (by omega)
    have := e1 8 (by omega) (by omega)
    have := e1 9 (by omega) (by omega)
    have := e1 10 (by omega) (by omega)
    unfold re_bg at d3 ⊢
    rw [hl 4 (by omega) (by omega) (by omega), hl 5 (by omega) (by omega) (by omega), hl 7 (by omega) (by omega) (by omega), hl 8 (by omega) (by omega) (by omega), hl 9 (by omega) (by omega) (by omega), hl 10 (by omega) (by omega) (by omega)]
    rcases h6 with ⟨h6, h18⟩ | ⟨h6, h6', h6''⟩
    · rw [h6, h18]; exact d3
    · rw [h6']; exact ⟨fun _ => by omega, fun _ => h6''⟩
  · rw [ra 6 (by omega) (by omega), ra 7 (by omega) (by omega), ra 8 (by omega) (by omega), rb 4 (by omega), rb 5 (by omega), rb 6 (by omega), hc 17 (by omega) (by omega)]; exact p1
  · rw [ra 9 (by omega) (by omega), ra 10 (by omega) (by omega), rb 10 (by omega), rb 11 (by omega), hc 19 (by omega) (by omega)]; exact p2
  · rw [rb 10 (by omega), hc 19 (by omega) (by omega)]; exact p3
  · rw [ra 11 (by omega) (by omega), ra 12 (by omega) (by omega), rb 12 (by omega), rb 13 (by omega), hc 18 (by omega) (by omega)]; exact p4
  · rw [ra 13 (by omega) (by omega), ra 14 (by omega) (by omega), rb 14 (by omega), rb 15 (by omega), hc 24 (by omega) (by omega)]
    rcases h13 with h13 | h13
    · rw [h13]; exact p5
    · exact fun i hi => by omega
  · rw [ra 5 (by omega) (by omega), rb 16 (by omega)]; exact p6
  · intro i hi
    rw [ra 4 (by omega) (by omega), hc 20 (by omega) (by omega), a_cb_e (rb 7 (by omega)) (rb 8 (by omega)) (rb 9 (by omega))]
    exact p7 i hi
end LNV
