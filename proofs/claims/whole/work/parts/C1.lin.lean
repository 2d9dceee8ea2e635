/-! THE TIE: the lines -/
section LNT
variable {A B A' B' : Nat → Nat → Int} {X M : Nat} {n : Int} {y x x' y' : a_Q}
theorem rs_B_ok {f : Nat → Int} (h : rs_B f n y x) : x.2.2.2.2.1 = 0 ↔ y.1 = 0 := by
  rcases h with h | h
  · exact ⟨fun q => absurd (h.2.1.symm.trans q) h.1, fun q => absurd q h.1⟩
  · exact ⟨fun _ => h.1.1, fun _ => h.1.2⟩
theorem rs_B_nt {f : Nat → Int} (h : rs_B f n y x) : rs_F (re_nt f n y) x ∨ rs_S n (re_nt f n y) x := by
  rcases h with h | h
  · exact Or.inl h
  · exact Or.inr (A_S h)
theorem rf_SF (hs : rs_F y x ∨ rs_S n y x) {b : Bool} {k : Int} (hk : k ≠ 0) : rs_F (if b = true then re_rf k y else y) (a_wr b k x) ∨ rs_S n (if b = true then re_rf k y else y) (a_wr b k x) := by
  rcases hs with hs | hs
  · have e : (if b = true then re_rf k y else y) = y := by
      split
      · exact rf_id hs.1
      · rfl
    have e2 : a_wr b k x = x := if_neg (fun q => hs.1 (hs.2.1.symm.trans q.2))
    rw [e, e2]
    exact Or.inl hs
  · exact wr_r hk hs
theorem nb_tie (hT : rd_T A B X M n) (hs : rs_B (A (X + 2)) n y x) {lo hi r : Int} (hlo : 0 ≤ lo) (hhi : hi ≤ 99999) (hn : s_nu (B (M + 1)) (B M 20) 0 lo hi x r x') {lo' hi' : Int} (e1 : lo' = lo) (e2 : hi' = hi) {rc : Int} (hc : (rc, y') = re_nb (A (X + 2)) (A (X + 1) 6) lo' hi' y) : rc = r ∧ rs_B (A (X + 2)) n y' x' := by
  rw [hT.2.1.2] at hn
  rw [e1, e2, hT.2.1.1] at hc
  have := nu_tie hT.1 hs hlo hhi hn
  rw [← hc] at this
  exact this
theorem bl_tie (hT : rd_T A B X M n) (hR : rd_R A B X M) (hS : rs_S n y x) (hb : B (M + 2) 20 ≤ 6) (hw : B (M + 2) 13 ≤ 16 ∧ B (M + 2) 14 ≤ 6) {J' : Nat → Nat → Int} (hr : s_bl B M x J' x') {y2 : a_Q} (hc : rl_block A X (re_ms (A (X + 15)) 4 y) A' y2) : rs_B (A (X + 2)) n y2 x' ∧ ∃ r1 r2 r3, (J' = if x'.2.2.2.2.1 = 0 then m_up (m_up (m_up (m_up B (M + 7) (6 + B (M + 2) 20).toNat r1) (M + 8) (6 + B (M + 2) 20).toNat r2) (M + 9) (6 + B (M + 2) 20).toNat r3) (M + 2) 20 (B (M + 2) 20 + 1) else B) ∧ A' = rl_bk A X r1 (r2 + 1) r3 := by
  obtain ⟨x2, x3, x4, r1, r2, r3, g1, g2, g3, g4, g5⟩ := hr
  obtain ⟨c1, c2, c3, ya, yb, h1, h2, h3, h4⟩ := hc
  have k1 := ms_mt hT hS (wd := 4) (c := B (M + 2) 20) (mx := 6) (by omega) rfl (by omega) hR.2.1.1.2.2.2.1 hb g1
  have e0 := hR.1.1
  obtain ⟨a1, k2⟩ := nb_tie hT k1 (by omega) (by omega) g2 rfl (by rw [e0.1]) h1
  subst a1
  have hr1 : 0 ≤ c1 := by
    rcases g2 with ⟨-, q, -⟩ | ⟨-, q⟩
    · omega
    · rcases q with ⟨-, q, -⟩ | ⟨-, q⟩
      · omega
      · rcases q with ⟨-, q, -⟩ | ⟨q, q2, -⟩
        · omega
        · omega
  obtain ⟨a2, k3⟩ := nb_tie hT k2 hr1 (by omega) g3 rfl (by rw [e0.1]) h2
  obtain ⟨a3, k4⟩ := nb_tie hT k3 (by omega) (by omega) g4 rfl e0.2.1 h3
  subst a2
  subst a3
  exact ⟨k4, c1, c2, c3, g5, h4⟩
theorem jb_tie (hT : rd_T A B X M n) (hR : rd_R A B X M) (hS : rs_S n y x) (hb : B (M + 2) 24 ≤ 3) (hw : B (M + 2) 13 ≤ 16) {J' : Nat → Nat → Int} {a : Int} (hr : s_jb B M x J' x') {y2 : a_Q} (hc : rl_job A X a (re_ms (A (X + 15)) 10 y) A' y2) : rs_B (A (X + 2)) n y2 x' ∧ ∃ r1 r2, (J' = if x'.2.2.2.2.1 = 0 then m_up (m_up (m_up B (M + 14) (3 + B (M + 2) 24).toNat r1) (M + 15) (3 + B (M + 2) 24).toNat r2) (M + 2) 24 (B (M + 2) 24 + 1) else B) ∧ A' = if a < 3 then m_up (m_up A (X + 13) a.toNat r1) (X + 14) a.toNat r2 else A := by
  obtain ⟨x2, x3, x4, r1, r2, g1, g2, g3, g4, g5⟩ := hr
  obtain ⟨c1, c2, ya, yb, h1, h2, h3, h4⟩ := hc
  have e0 := hR.1.1
  have k1 := ms_mt hT hS (wd := 10) (c := B (M + 2) 24) (mx := 3) (by omega) rfl (by omega) hR.2.1.1.2.2.2.2.1 hb g1
  obtain ⟨a1, k2⟩ := nb_tie hT k1 (by omega) (by omega) g2 rfl (by rw [e0.1]) h1
  subst a1
  have k3 := ah_tie k2 (by omega) (by omega) g3
  rw [hT.2.1.1, e0.1] at h2
  rw [← h2] at k3
  obtain ⟨a2, k3⟩ := k3
  have a2' : c2 = r2 := a2
  subst a2'
  rw [hT.2.1.2] at g4
  have k4 := wr_SF hT.1 k3 (b := decide (c1 = c2)) (k := 2) (by decide) g4
  have e4 : y2 = if decide (c1 = c2) = true then re_rf 2 yb else yb := by
    rw [h3]
    by_cases c : c2 = c1
    · rw [if_pos c, decide_eq_true c.symm, if_pos rfl]
    · rw [if_neg c, decide_eq_false (fun q => c q.symm), if_neg (by decide)]
  rw [← e4] at k4
  exact ⟨k4, c1, c2, g5, h4⟩
theorem wi_tie (hT : rd_T A B X M n) (hR : rd_R A B X M) (hS : rs_S n y x) (hb : 0 ≤ B (M + 2) 19 ∧ B (M + 2) 19 ≤ 8) (hbt : ∀ i : Nat, i < 16 → 0 ≤ B (M + 10) i ∧ B (M + 10) i ≤ 999) {J' : Nat → Nat → Int} (hr : s_wi B M x J' x') {y2 : a_Q} (hc : rl_wind A X (A (X + 15) 7) (re_ms (A (X + 15)) 7 y) A' y2) : rs_B (A (X + 2)) n y2 x' ∧ ∃ r1 r2, (J' = if x'.2.2.2.2.1 = 0 then m_up (m_up (m_up B (M + 10) (8 + B (M + 2) 19).toNat r1) (M + 11) (8 + B (M + 2) 19).toNat r2) (M + 2) 19 (B (M + 2) 19 + 1) else B) ∧ (x'.2.2.2.2.1 = 0 → A' = if B (M + 2) 19 < 8 then m_up (m_up A (X + 9) (B (M + 2) 19).toNat r1) (X + 10) (B (M + 2) 19).toNat r2 else A) ∧ (x'.2.2.2.2.1 = 0 → B (M + 2) 19 ≠ 0 → B (M + 10) (8 + B (M + 2) 19 - 1).toNat < r1) := by
  obtain ⟨x2, x3, r1, r2, g1, g2, g3, g5⟩ := hr
  obtain ⟨c1, c2, ya, h1, h2, h4⟩ := hc
  have h7 : A (X + 15) 7 = B (M + 2) 19 := hR.2.1.1.2.2.1
  have k1 := ms_mt hT hS (wd := 7) (c := B (M + 2) 19) (mx := 8) (by omega) rfl (by omega) h7 hb.2 g1
  rw [h7] at h1 h4
  have hx2 := rs_B_ok k1
  by_cases hf : x2.2.2.2.2.1 = 0
  · have elo : (if 0 < B (M + 2) 19 ∧ B (M + 2) 19 ≤ 8 then A (X + 9) (B (M + 2) 19 - 1).toNat + 1 else 0) = (if x2.2.2.2.2.1 ≠ 0 ∨ B (M + 2) 19 = 0 then 0 else B (M + 10) (8 + B (M + 2) 19 - 1).toNat + 1) := by
      by_cases c : B (M + 2) 19 = 0
      · rw [if_neg (by omega), if_pos (Or.inr c)]
      · rw [if_pos (by omega), if_neg (fun q => q.elim (fun q => q hf) c), (hR.2.2.2.1 (B (M + 2) 19 - 1).toNat (by omega)).1, show (8 + B (M + 2) 19 - 1).toNat = 8 + (B (M + 2) 19 - 1).toNat from by omega]
    have hlo0 : 0 ≤ (if x2.2.2.2.2.1 ≠ 0 ∨ B (M + 2) 19 = 0 then 0 else B (M + 10) (8 + B (M + 2) 19 - 1).toNat + 1) := by
      split
      · omega
      · have := hbt (8 + B (M + 2) 19 - 1).toNat (by omega)
        omega
    obtain ⟨a1, k2⟩ := nb_tie hT k1 hlo0 (by omega) g2 elo rfl h1
    subst a1
    rw [hT.2.1.2] at g3
    have k3 := sn_tie hT.1 k2 g3
    rw [hT.2.1.1] at h2
    rw [← h2] at k3
    refine ⟨k3.2, c1, r2, g5, fun q => ?_, fun q c => ?_⟩
    · have e : c2 = r2 := k3.1 q
      rw [h4, e]
    · have hx3 : x3.2.2.2.2.1 = 0 := by
        rcases g3 with ⟨g, -, e⟩ | ⟨g, -⟩
        · rw [e] at q; exact absurd q g
        · exact g
      rcases g2 with ⟨g, -⟩ | ⟨-, g2⟩
      · exact absurd hf g
      · rcases g2 with ⟨-, -, e⟩ | ⟨-, g2⟩
        · rw [e] at hx3; exact absurd (show (1 : Int) = 0 from hx3) (by decide)
        · rcases g2 with ⟨-, -, e⟩ | ⟨g, e, -⟩
          · rw [e] at hx3; exact absurd (show (2 : Int) = 0 from hx3) (by decide)
          · rw [if_neg (fun q => q.elim (fun q => q hf) c)] at g
            omega
  · have hy1 : (re_ms (A (X + 15)) 7 y).1 ≠ 0 := fun q => hf (hx2.mpr q)
    have e1 : ya = re_ms (A (X + 15)) 7 y := by
      unfold re_nb at h1
      rw [if_pos hy1] at h1
      exact congrArg (fun p : Int × a_Q => p.2) h1
    have e2 : y2 = re_ms (A (X + 15)) 7 y := by
      unfold re_sn at h2
      rw [e1, if_pos hy1] at h2
      exact congrArg (fun p : Int × a_Q => p.2) h2
    have ex3 : x3 = x2 := by
      rcases g2 with ⟨-, -, e⟩ | ⟨g, -⟩
      · exact e
      · exact absurd g hf
    have ex : x' = x2 := by
      rw [ex3] at g3
      rcases g3 with ⟨-, -, e⟩ | ⟨g, -⟩
      · exact e
      · exact absurd g hf
    rw [e2, ex]
    rw [ex] at g5
    exact ⟨k1, r1, r2, g5, fun q => absurd q hf, fun q => absurd q hf⟩
end LNT
