/-! THE TIE: the other lines -/
section LNU
variable {A B A' B' : Nat → Nat → Int} {X M : Nat} {n : Int} {y x x' y' : a_Q}
theorem wn_tie (hT : rd_T A B X M n) (hS : rs_S n y x) : (x.2.2.1 = 0 ∧ re_wn (A (X + 16)) y = x.2.2.2.1 ∧ 0 ≤ x.2.2.2.1 ∧ x.2.2.2.1 < 18) ∨ (x.2.2.1 ≠ 0 ∧ re_wn (A (X + 16)) y = -1) := by
  rw [rd_wn hT]
  rcases hS.2.1.2 with t | ⟨t1, t⟩ | t | t | t | t
  · exact Or.inr ⟨by omega, if_neg (by omega)⟩
  · rcases t with t | t
    · rw [if_pos t1]
      exact Or.inl ⟨t.1, t.2.1, t.2.2.1, t.2.2.2⟩
    · rw [if_pos t1]
      exact Or.inr ⟨by omega, t.2.1⟩
  · exact Or.inr ⟨by omega, if_neg (by omega)⟩
  · exact Or.inr ⟨by omega, if_neg (by omega)⟩
  · exact Or.inr ⟨by omega, if_neg (by omega)⟩
  · exact Or.inr ⟨by omega, if_neg (by omega)⟩
theorem do_tie (hT : rd_T A B X M n) (hR : rd_R A B X M) (hS : rs_S n y x) (hb : B (M + 2) 18 ≤ 16) {J' : Nat → Nat → Int} {a : Int} (hr : s_do B M x J' x') {y2 : a_Q} (hc : rl_order A X a (re_ms (A (X + 15)) 8 y) A' y2) : rs_B (A (X + 2)) n y2 x' ∧ ∃ r1 r2, (J' = if x'.2.2.2.2.1 = 0 then m_up (m_up (m_up B (M + 12) (16 + B (M + 2) 18).toNat r1) (M + 13) (16 + B (M + 2) 18).toNat r2) (M + 2) 18 (B (M + 2) 18 + 1) else B) ∧ (x'.2.2.2.2.1 = 0 → A' = (if a < 16 then m_up (m_up A (X + 11) a.toNat r1) (X + 12) a.toNat r2 else A) ∧ (12 ≤ r1 ∧ r1 ≤ 17) ∧ 1 ≤ r2) := by
  obtain ⟨x2, x3, r, g1, g2, g3, g5⟩ := hr
  obtain ⟨c, y1, yb, h1, h2, h3, h4⟩ := hc
  have k1 : rs_B (A (X + 2)) n (re_ms (A (X + 15)) 8 y) x2 := ms_mt hT hS (wd := 8) (c := B (M + 2) 18) (mx := 16) (by omega) rfl (by omega) hR.2.1.1.2.1 hb g1
  have k2 := rs_B_nt k1
  rw [hT.2.1.1] at h1
  rw [← h1] at k2
  rw [hT.2.1.2] at g2
  have k3 := wr_SF hT.1 k2 (b := decide (x2.2.2.1 ≠ 0 ∨ x2.2.2.2.1 < 12)) (k := 1) (by decide) g2
  have e2 : yb = if decide (x2.2.2.1 ≠ 0 ∨ x2.2.2.2.1 < 12) = true then re_rf 1 y1 else y1 := by
    rw [h2]
    rcases k2 with k2 | k2
    · rw [rf_id k2.1]
      split <;> split <;> rfl
    · rcases wn_tie hT k2 with ⟨w1, w2, w3⟩ | ⟨w1, w2⟩
      · rw [w2]
        by_cases q : x2.2.2.2.1 < 12
        · rw [if_pos q, decide_eq_true (Or.inr q), if_pos rfl]
        · rw [if_neg q, decide_eq_false (fun p => p.elim (fun p => p w1) q), if_neg (by decide)]
      · rw [w2, if_pos (by omega), decide_eq_true (Or.inl w1), if_pos rfl]
  rw [← e2] at k3
  obtain ⟨a1, k4⟩ := nb_tie hT k3 (by omega) (by omega) g3 rfl rfl h3
  subst a1
  refine ⟨k4, x2.2.2.2.1, c, g5, fun q => ?_⟩
  have hx3 : x3.2.2.2.2.1 = 0 := by
    rcases g3 with ⟨g, -, e⟩ | ⟨g, -⟩
    · rw [e] at q; exact absurd q g
    · exact g
  have hyb := (rs_B_ok k3).mp hx3
  have hc1 : 1 ≤ c := by
    rcases g3 with ⟨g, -⟩ | ⟨-, g⟩
    · exact absurd hx3 g
    · rcases g with ⟨-, e, -⟩ | ⟨-, g⟩
      · omega
      · rcases g with ⟨-, e, -⟩ | ⟨g, e, -⟩ <;> omega
  rcases k2 with k2 | k2
  · have : yb = y1 := by
      rw [h2, rf_id k2.1]
      split <;> rfl
    rw [this] at hyb
    exact absurd hyb k2.1
  · rcases wn_tie hT k2 with ⟨w1, w2, w3⟩ | ⟨w1, w2⟩
    · by_cases q2 : x2.2.2.2.1 < 12
      · rw [h2, w2, if_pos q2] at hyb
        unfold re_rf at hyb
        rw [if_pos k2.1.1] at hyb
        exact absurd (show (1 : Int) = 0 from hyb) (by decide)
      · rw [h4, w2]
        exact ⟨rfl, by omega, hc1⟩
    · rw [h2, w2, if_pos (by omega)] at hyb
      unfold re_rf at hyb
      rw [if_pos k2.1.1] at hyb
      exact absurd (show (1 : Int) = 0 from hyb) (by decide)
theorem pi_tie (hT : rd_T A B X M n) (hR : rd_R A B X M) (hS : rs_S n y x) (hb : B (M + 2) 25 ≤ 8) (hw : (4 ≤ B (M + 2) 13 ∧ B (M + 2) 13 ≤ 16) ∧ B (M + 2) 14 ≤ 6) {J' : Nat → Nat → Int} (hr : s_pi B M x J' x') {y2 : a_Q} (hc : rl_pile A X (re_ms (A (X + 15)) 9 y) A' y2) : rs_B (A (X + 2)) n y2 x' ∧ ∃ r1 r2 : Int, (0 ≤ r1 ∧ r1 < 16) ∧ (J' = if x'.2.2.2.2.1 = 0 then m_up (m_up B (M + 16) (16 + r1).toNat r2) (M + 2) 25 (B (M + 2) 25 + 1) else B) ∧ A' = m_up A (X + 5) r1.toNat r2 := by
  obtain ⟨x2, x3, x4, r1, r2, g1, g2, g3, g4, g5⟩ := hr
  obtain ⟨c1, c2, ya, yb, h1, h2, h3, h4⟩ := hc
  have e0 := hR.1.1
  have k1 : rs_B (A (X + 2)) n (re_ms (A (X + 15)) 9 y) x2 := ms_mt hT hS (wd := 9) (c := B (M + 2) 25) (mx := 8) (by omega) rfl (by omega) hR.2.1.1.2.2.2.2.2 hb g1
  have k2 := ah_tie k1 (by omega) (by omega) g2
  rw [hT.2.1.1, e0.1] at h1
  rw [← h1] at k2
  obtain ⟨a1, k2⟩ := k2
  have a1' : c1 = r1 := a1
  subst a1'
  have hrb : 0 ≤ c1 ∧ c1 < 16 := by
    rcases g2 with ⟨-, e, -⟩ | ⟨-, g⟩
    · omega
    · rcases g with ⟨-, e, -⟩ | ⟨-, g⟩
      · omega
      · rcases g with ⟨-, e, -⟩ | ⟨g, e, -⟩ <;> omega
  have ep : A (X + 5) c1.toNat = B (M + 16) (16 + c1).toNat := by
    rw [show (16 + c1).toNat = 16 + c1.toNat from by omega]
    exact hR.2.2.2.2.2.2.2.1 c1.toNat (by omega)
  rw [hT.2.1.2] at g3
  have k3 := wr_SF hT.1 k2 (b := decide (0 < B (M + 16) (16 + c1).toNat)) (k := 3) (by decide) g3
  have e4 : yb = if decide (0 < B (M + 16) (16 + c1).toNat) = true then re_rf 3 ya else ya := by
    rw [h2, ep]
    by_cases c : 0 < B (M + 16) (16 + c1).toNat
    · rw [if_pos c, decide_eq_true c, if_pos rfl]
    · rw [if_neg c, decide_eq_false c, if_neg (by decide)]
  rw [← e4] at k3
  obtain ⟨a2, k4⟩ := nb_tie hT k3 (by omega) (by omega) g4 rfl e0.2.1 h3
  subst a2
  exact ⟨k4, c1, c2, hrb, g5, h4⟩
theorem find_sh {f g : Nat → Int} {v : Int} {o : Nat} : ∀ (n k : Nat), (∀ i, k ≤ i → i < k + n → f i = g (o + i)) → a_find f v 0 n k = a_find g v o n k := by
  intro n
  induction n with
  | zero => intro k _; rfl
  | succ n ih =>
    intro k h
    unfold a_find
    rw [Nat.zero_add, h k (by omega) (by omega), ih (k + 1) (fun i a b => h i (by omega) (by omega))]
theorem nu_lo {g : Nat → Int} {m lo hi r : Int} (h : s_nu g m 0 lo hi x r x') : lo ≤ r := by
  rcases h with ⟨-, e, -⟩ | ⟨-, h⟩
  · omega
  · rcases h with ⟨-, e, -⟩ | ⟨-, h⟩
    · omega
    · rcases h with ⟨-, e, -⟩ | ⟨h, e, -⟩ <;> omega
theorem nu_f {g : Nat → Int} {m lo hi r : Int} (h : s_nu g m 0 lo hi x r x') (hx : x'.2.2.2.2.1 = 0) : x.2.2.2.2.1 = 0 := by
  rcases h with ⟨h, -, e⟩ | ⟨h, -⟩
  · rw [e] at hx; exact absurd hx h
  · exact h
theorem nu_F {g : Nat → Int} {m lo hi r : Int} (h : s_nu g m 0 lo hi x r x') (hx : x.2.2.2.2.1 ≠ 0) : x' = x := by
  rcases h with ⟨-, -, e⟩ | ⟨h, -⟩
  · exact e
  · exact absurd h hx
theorem nb_F {f : Nat → Int} {m lo hi : Int} (h : y.1 ≠ 0) {r : Int} (hc : (r, y') = re_nb f m lo hi y) : y' = y := by
  unfold re_nb at hc
  rw [if_pos h] at hc
  exact congrArg (fun p : Int × a_Q => p.2) hc
theorem sq_tie (hT : rd_T A B X M n) (hR : rd_R A B X M) (hS : rs_S n y x) (hb : 0 ≤ B (M + 2) 17 ∧ B (M + 2) 17 ≤ 6) (hw : B (M + 2) 13 ≤ 16 ∧ B (M + 2) 14 ≤ 6) {J' : Nat → Nat → Int} {a : Int} (hr : s_sq B M x J' x') {y2 : a_Q} (hc : rl_spot A X a (re_ms (A (X + 15)) 5 y) A' y2) : rs_B (A (X + 2)) n y2 x' ∧ (x'.2.2.2.2.1 = 0 → ∃ v r1 r2, J' = m_up (m_up (m_up (m_up B (M + 4) (6 + B (M + 2) 17).toNat v) (M + 5) (6 + B (M + 2) 17).toNat r1) (M + 6) (6 + B (M + 2) 17).toNat r2) (M + 2) 17 (B (M + 2) 17 + 1) ∧ (A' = if a < 6 then m_up (m_up (m_up A (X + 6) a.toNat v) (X + 7) a.toNat r1) (X + 8) a.toNat r2 else A) ∧ 1 ≤ r2) := by
  obtain ⟨x2, g1, hr⟩ := hr
  obtain ⟨c1, c2, y1, yb, yc, h1, h2, h3, h4, h5⟩ := hc
  have e0 := hR.1.1
  have e17 : A (X + 15) 5 = B (M + 2) 17 := hR.2.1.1.1
  have k1 : rs_B (A (X + 2)) n (re_ms (A (X + 15)) 5 y) x2 := ms_mt hT hS (wd := 5) (c := B (M + 2) 17) (mx := 6) (by omega) rfl (by omega) e17 hb.2 g1
  have k2 := rs_B_nt k1
  have ey1 : y1 = re_nt (A (X + 2)) n (re_ms (A (X + 15)) 5 y) := by rw [h1, hT.2.1.1]
  rw [← ey1] at k2
  have fin : ∀ {xx : a_Q}, rs_F yb xx → rs_F y2 xx := fun q => by
    have e1 := nb_F q.1 h3
    have e2 := nb_F (by rw [e1]; exact q.1) h4
    rw [e2, e1]; exact q
  rcases hr with ⟨f1, f2, f3⟩ | ⟨f1, x3, f2, hr⟩
  · have kF : rs_F y1 x2 := by
      rcases k2 with k | k
      · exact k
      · exact absurd k.1.2 f1
    have eb : yb = y1 := by
      rw [h2, rf_id kF.1, rf_id kF.1]
      split
      · rfl
      · split <;> rfl
    rw [f3]
    exact ⟨Or.inl (fin (by rw [eb]; exact kF)), fun q => absurd q f1⟩
  · have kS : rs_S n y1 x2 := by
      rcases k2 with k | k
      · exact absurd (k.2.1.symm.trans f1) k.1
      · exact k
    have hname : (x2.2.2.1 = 1 ∧ y1.2.2.2.2.1 = 1 ∧ re_wn (A (X + 16)) y1 = -1 ∧ x2.2.2.2.1 = y1.2.2.2.2.2) ∨ (x2.2.2.1 ≠ 1 ∧ (y1.2.2.2.2.1 ≠ 1 ∨ re_wn (A (X + 16)) y1 ≠ -1)) := by
      rw [rd_wn hT]
      rcases kS.2.1.2 with t | ⟨t1, t⟩ | t | t | t | t
      · exact Or.inr ⟨by omega, Or.inl (by omega)⟩
      · rcases t with t | t
        · rw [if_pos t1]
          exact Or.inr ⟨by omega, Or.inr (by omega)⟩
        · rw [if_pos t1]
          exact Or.inl ⟨t.1, t1, t.2.1, t.2.2⟩
      · exact Or.inr ⟨by omega, Or.inl (by omega)⟩
      · exact Or.inr ⟨by omega, Or.inl (by omega)⟩
      · exact Or.inr ⟨by omega, Or.inl (by omega)⟩
      · exact Or.inr ⟨by omega, Or.inl (by omega)⟩
    have k3 : (rs_F yb x3 ∨ rs_S n yb x3) ∧ (x3.2.2.2.2.1 = 0 → yb.2.2.2.2.2 = x3.2.2.2.1) := by
      rcases hname with ⟨n1, n2, n3, n4⟩ | ⟨n1, n2⟩
      · have ef : a_find (A (X + 6)) y1.2.2.2.2.2 0 (A (X + 15) 5).toNat 0 = a_find (B (M + 4)) x2.2.2.2.1 6 (B (M + 2) 17).toNat 0 := by
          rw [e17, n4]
          exact find_sh _ 0 (fun i _ q => (hR.2.2.1 i (by omega)).1.1)
        rw [if_neg (fun q => q n1)] at f2
        rw [if_neg (fun q => q.elim (fun q => q n2) (fun q => q n3)), ef] at h2
        have q := wr_r (b := decide (a_find (B (M + 4)) x2.2.2.2.1 6 (B (M + 2) 17).toNat 0 ≠ -1)) (k := 3) (by decide) kS
        by_cases c : a_find (B (M + 4)) x2.2.2.2.1 6 (B (M + 2) 17).toNat 0 ≠ -1
        · rw [if_pos c] at h2
          rw [decide_eq_true c] at f2 q
          rw [if_pos rfl, ← h2, ← f2] at q
          refine ⟨q, fun z => ?_⟩
          rcases q with q | q
          · exact absurd (q.2.1.symm.trans z) q.1
          · have := q.1.1
            rw [h2] at this
            unfold re_rf at this
            rw [if_pos kS.1.1] at this
            exact absurd (show (3 : Int) = 0 from this) (by decide)
        · rw [if_neg c] at h2
          rw [decide_eq_false c] at f2 q
          rw [if_neg (by decide), ← h2, ← f2] at q
          refine ⟨q, fun z => ?_⟩
          have : x3 = x2 := by rw [f2]; exact if_neg (fun q => absurd q.1 (by decide))
          rw [h2, this, n4]
      · rw [if_pos n1] at f2
        rw [if_pos n2] at h2
        have q := wr_r (b := true) (k := 1) (by decide) kS
        rw [if_pos rfl, ← h2, ← f2] at q
        refine ⟨q, fun z => ?_⟩
        rcases q with q | q
        · exact absurd (q.2.1.symm.trans z) q.1
        · have := q.1.1
          rw [h2] at this
          unfold re_rf at this
          rw [if_pos kS.1.1] at this
          exact absurd (show (1 : Int) = 0 from this) (by decide)
    rcases hr with ⟨u1, u2, u3⟩ | ⟨u1, x4, x5, r1, r2, u2, u3, u4, u5⟩
    · have kF : rs_F yb x3 := by
        rcases k3.1 with k | k
        · exact k
        · exact absurd k.1.2 u1
      rw [u3]
      exact ⟨Or.inl (fin kF), fun q => absurd q u1⟩
    · have kS3 : rs_S n yb x3 := by
        rcases k3.1 with k | k
        · exact absurd (k.2.1.symm.trans u1) k.1
        · exact k
      rw [hT.2.1.2] at u2
      have k4 : rs_B (A (X + 2)) n yb x4 := Or.inr (go_S hT.1 kS3 u2)
      obtain ⟨a1, k5⟩ := nb_tie hT k4 (by omega) (by omega) u3 rfl (by rw [e0.1]) h3
      subst a1
      obtain ⟨a2, k6⟩ := nb_tie hT k5 (by omega) (by omega) u4 rfl e0.2.1 h4
      subst a2
      refine ⟨k6, fun _ => ⟨x3.2.2.2.1, c1, c2, u5, ?_, nu_lo u4⟩⟩
      rw [h5, k3.2 u1]
end LNU
