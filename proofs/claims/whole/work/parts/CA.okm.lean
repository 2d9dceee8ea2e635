/-! THE TIE: a line read by both -/
section LOC
variable {A B A' B' J1 : Nat → Nat → Int} {X M : Nat} {n : Int} {y x x1 x' y2 : a_Q}
theorem ok_ra (hT : rd_T A B X M n) (hR : rd_R A B X M) (hb : rd_b B M) (hS : rs_S n y x) {wd : Nat} (hw : wd < 4) {lo hi : Int} (hlo : 0 ≤ lo) (hhi : hi ≤ 99999) (hlh : lo ≤ hi) (d1 : dn_lo wd = lo) (d2 : dn_hi wd = hi) (hr : s_ra B M wd lo hi x J1 x1) {r : Int} (hc : (r, y2) = re_nb (A (X + 2)) (A (X + 1) 6) lo hi (re_ms (A (X + 15)) (wd : Int) y)) : rs_B (A (X + 2)) n y2 x1 ∧ (x1.2.2.2.2.1 = 0 → rd_L A B (m_up A (X + 3) wd r) J1 X M wd) := by
  obtain ⟨k1, e1, k2⟩ := ra_tie hT hR hS hw hlo hhi hr hc
  refine ⟨k1, fun hf => ?_⟩
  obtain ⟨k3, k4⟩ := k2 hf
  have vb := re_nb_b hlh hc
  have eL : (if 4 ≤ (wd : Int) ∧ (wd : Int) ≤ 10 then m_up J1 M 18 1 else J1) = J1 := if_neg (by omega)
  unfold rd_L
  rw [eL]
  have fb : ∀ b i, ¬ (b = M + 3 ∧ i = wd) → ¬ (b = M + 2 ∧ i = 13 + wd) → J1 b i = B b i := fun b i q1 q2 => by
    rw [e1, m_up_z (by omega), m_up_z (by omega)]
  refine ⟨⟨?_, rd_b_u hb (fun y q => ?_) (fun i q => ?_)⟩, ⟨funext (fun i => fb _ _ (by omega) (by omega)), fb _ _ (by omega) (by omega), fb _ _ (by omega) (by omega)⟩, fun b i q => m_up_z (by omega)⟩
  · rw [e1]; exact rd_ra hR hw k3 k4
  · rw [m_up_z (by omega)]
    by_cases q2 : y = wd
    · subst q2
      right
      rw [e1, m_up_e, d1, d2]
      exact vb
    · exact Or.inl (fb _ _ (by omega) (by omega))
  · rw [m_up_z (by omega)]
    exact Or.inl (fb _ _ (by omega) (by omega))
theorem ok_sr (hT : rd_T A B X M n) (hR : rd_R A B X M) (hb : rd_b B M) (hS : rs_S n y x) (hr : s_sr B M x J1 x1) {r1 r2 : Int} {y1 : a_Q} (h1 : (r1, y1) = re_nb (A (X + 2)) (A (X + 1) 6) 0 (A (X + 3) 0 - 1) (re_ms (A (X + 15)) 6 y)) (h2 : (r2, y2) = re_nb (A (X + 2)) (A (X + 1) 6) 1 (A (X + 3) 1) y1) : rs_B (A (X + 2)) n y2 x1 ∧ (x1.2.2.2.2.1 = 0 → rd_L A B (m_up (m_up A (X + 3) 5 r1) (X + 3) 6 r2) J1 X M 6) := by
  have b0 : 4 ≤ B (M + 2) 13 ∧ B (M + 2) 13 ≤ 16 := hb.1 0 (by omega)
  have b1 : 2 ≤ B (M + 2) 14 ∧ B (M + 2) 14 ≤ 6 := hb.1 1 (by omega)
  have a0 := hR.1.1.1
  have a1 := hR.1.1.2.1
  obtain ⟨k1, e1, k2⟩ := sr_tie hT hR hS ⟨b0.2, b1.2⟩ hr h1 h2
  refine ⟨k1, fun hf => ?_⟩
  have k3 := k2 hf
  have v1 := re_nb_b (by omega) h1
  have v2 := re_nb_b (by omega) h2
  have eL : (if 4 ≤ ((6 : Nat) : Int) ∧ ((6 : Nat) : Int) ≤ 10 then m_up J1 M 18 1 else J1) = m_up J1 M 18 1 := if_pos (by omega)
  unfold rd_L
  rw [eL]
  have fb : ∀ b i, ¬ (b = M + 3 ∧ i = 6) → ¬ (b = M + 2 ∧ (i = 22 ∨ i = 23)) → J1 b i = B b i := fun b i q1 q2 => by
    rw [e1, m_up_z (by omega), m_up_z (by omega), m_up_z (by omega)]
  refine ⟨⟨?_, rd_b_u hb (fun y q => ?_) (fun i q => ?_)⟩, ⟨funext (fun i => fb _ _ (by omega) (by omega)), fb _ _ (by omega) (by omega), fb _ _ (by omega) (by omega)⟩, fun b i q => by rw [m_up_z (by omega), m_up_z (by omega)]⟩
  · rw [e1]; exact rd_sr hR k3
  · rw [m_up_z (by omega), m_up_z (by omega)]
    by_cases q2 : y = 9
    · subst q2
      right
      rw [e1, show (13 + 9 : Nat) = 22 from rfl, m_up_z (by omega), m_up_e]
      exact ⟨by show (0 : Int) ≤ r1; omega, by show r1 ≤ (15 : Int); omega⟩
    · by_cases q3 : y = 10
      · subst q3
        right
        rw [e1, show (13 + 10 : Nat) = 23 from rfl, m_up_e]
        exact ⟨by show (0 : Int) ≤ r2; omega, by show r2 ≤ (6 : Int); omega⟩
      · exact Or.inl (fb _ _ (by omega) (by omega))
  · rw [m_up_z (by omega), m_up_z (by omega)]
    exact Or.inl (fb _ _ (by omega) (by omega))
theorem ok_se (hT : rd_T A B X M n) (hR : rd_R A B X M) (hb : rd_b B M) (hS : rs_S n y x) (hr : s_se B M x J1 x1) {r1 : Int} (h1 : (r1, y2) = re_nb (A (X + 2)) (A (X + 1) 6) 0 99999 (re_ms (A (X + 15)) 11 y)) : rs_B (A (X + 2)) n y2 x1 ∧ (x1.2.2.2.2.1 = 0 → rd_L A B (m_up A (X + 3) 4 r1) J1 X M 11) := by
  obtain ⟨k1, e1, k2⟩ := se_tie hT hR hS hr h1
  refine ⟨k1, fun hf => ?_⟩
  have k3 := k2 hf
  have v1 := re_nb_b (by omega) h1
  have eL : (if 4 ≤ ((11 : Nat) : Int) ∧ ((11 : Nat) : Int) ≤ 10 then m_up J1 M 18 1 else J1) = J1 := if_neg (by omega)
  unfold rd_L
  rw [eL]
  have fb : ∀ b i, ¬ (b = M + 3 ∧ i = 11) → ¬ (b = M + 2 ∧ i = 21) → J1 b i = B b i := fun b i q1 q2 => by
    rw [e1, m_up_z (by omega), m_up_z (by omega)]
  refine ⟨⟨?_, rd_b_u hb (fun y q => ?_) (fun i q => ?_)⟩, ⟨funext (fun i => fb _ _ (by omega) (by omega)), fb _ _ (by omega) (by omega), fb _ _ (by omega) (by omega)⟩, fun b i q => m_up_z (by omega)⟩
  · rw [e1]; exact rd_se hR k3
  · rw [m_up_z (by omega)]
    by_cases q2 : y = 8
    · subst q2
      right
      rw [e1, show (13 + 8 : Nat) = 21 from rfl, m_up_e]
      exact ⟨by show (0 : Int) ≤ r1; omega, by show r1 ≤ (99999 : Int); omega⟩
    · exact Or.inl (fb _ _ (by omega) (by omega))
  · rw [m_up_z (by omega)]
    exact Or.inl (fb _ _ (by omega) (by omega))
theorem sn_F {f : Nat → Int} {m : Int} (h : y.1 ≠ 0) {r : Int} {y' : a_Q} (hc : (r, y') = re_sn f m y) : y' = y := by
  unfold re_sn at hc
  rw [if_pos h] at hc
  exact congrArg (fun p : Int × a_Q => p.2) hc
/-- a fault stays, in the class -/
theorem rl_line_F {J J' : Nat → Nat → Int} {ln a : Int} {y y' : a_Q} (hy : y.1 ≠ 0) (h : rl_line J X ln a y J' y') : y'.1 = y.1 ∧ y'.2.1 = y.2.1 := by
  rcases h with ⟨-, r, e, -⟩ | ⟨-, r, e, -⟩ | ⟨-, r, e, -⟩ | ⟨-, r, e, -⟩ | ⟨-, hb⟩ | ⟨-, hb⟩ | ⟨-, r1, r2, y1, e1, e2, -⟩ | ⟨-, hb⟩ | ⟨-, hb⟩ | ⟨-, hb⟩ | ⟨-, hb⟩ | ⟨-, r, e, -⟩
  · rw [nb_F hy e]; exact ⟨rfl, rfl⟩
  · rw [nb_F hy e]; exact ⟨rfl, rfl⟩
  · rw [nb_F hy e]; exact ⟨rfl, rfl⟩
  · rw [nb_F hy e]; exact ⟨rfl, rfl⟩
  · obtain ⟨r1, r2, r3, y1, y2, e1, e2, e3, -⟩ := hb
    have q1 := nb_F hy e1
    rw [q1] at e2
    have q2 := nb_F hy e2
    rw [q2] at e3
    rw [nb_F hy e3]; exact ⟨rfl, rfl⟩
  · obtain ⟨r1, r2, y1, y2, y3, e1, e2, e3, e4, -⟩ := hb
    have h1 : y1.1 = y.1 ∧ y1.2.1 = y.2.1 := by rw [e1]; exact ⟨rfl, rfl⟩
    have hy1 : y1.1 ≠ 0 := by rw [h1.1]; exact hy
    have q2 : y2 = y1 := by
      rw [e2, rf_id hy1, rf_id hy1]
      split
      · rfl
      · split <;> rfl
    rw [q2] at e3
    have q3 := nb_F hy1 e3
    rw [q3] at e4
    rw [nb_F hy1 e4]; exact h1
  · have q1 := nb_F hy e1
    rw [q1] at e2
    rw [nb_F hy e2]; exact ⟨rfl, rfl⟩
  · obtain ⟨r1, r2, y1, e1, e2, -⟩ := hb
    have q1 := nb_F hy e1
    rw [q1] at e2
    rw [sn_F hy e2]; exact ⟨rfl, rfl⟩
  · obtain ⟨r, y1, y2, e1, e2, e3, -⟩ := hb
    have h1 : y1.1 = y.1 ∧ y1.2.1 = y.2.1 := by rw [e1]; exact ⟨rfl, rfl⟩
    have hy1 : y1.1 ≠ 0 := by rw [h1.1]; exact hy
    have q2 : y2 = y1 := by
      rw [e2, rf_id hy1]
      split <;> rfl
    rw [q2] at e3
    rw [nb_F hy1 e3]; exact h1
  · obtain ⟨r1, r2, y1, y2, e1, e2, e3, -⟩ := hb
    have q1 := nb_F hy e1
    rw [q1] at e2
    have q2 : y2 = y := by
      rw [e2, rf_id hy]
      split <;> rfl
    rw [q2] at e3
    rw [nb_F hy e3]; exact ⟨rfl, rfl⟩
  · obtain ⟨r1, r2, y1, y2, e1, e2, e3, -⟩ := hb
    have q1 := nb_F hy e1
    rw [q1] at e2
    have q2 := nb_F hy e2
    rw [e3, q2, rf_id hy]
    split <;> exact ⟨rfl, rfl⟩
  · rw [nb_F hy e]; exact ⟨rfl, rfl⟩
theorem rl_line_ex {J : Nat → Nat → Int} {a : Int} {y : a_Q} {ln : Nat} (hl : ln < 12) : ∃ J' y', rl_line J X (ln : Int) a y J' y' := by
  have : ln = 0 ∨ ln = 1 ∨ ln = 2 ∨ ln = 3 ∨ ln = 4 ∨ ln = 5 ∨ ln = 6 ∨ ln = 7 ∨ ln = 8 ∨ ln = 9 ∨ ln = 10 ∨ ln = 11 := by omega
  rcases this with e | e | e | e | e | e | e | e | e | e | e | e <;> subst e
  · exact ⟨_, _, Or.inl ⟨rfl, _, rfl, rfl⟩⟩
  · exact ⟨_, _, Or.inr (Or.inl ⟨rfl, _, rfl, rfl⟩)⟩
  · exact ⟨_, _, Or.inr (Or.inr (Or.inl ⟨rfl, _, rfl, rfl⟩))⟩
  · exact ⟨_, _, Or.inr (Or.inr (Or.inr (Or.inl ⟨rfl, _, rfl, rfl⟩)))⟩
  · exact ⟨_, _, Or.inr (Or.inr (Or.inr (Or.inr (Or.inl ⟨rfl, _, _, _, _, _, rfl, rfl, rfl, rfl⟩))))⟩
  · exact ⟨_, _, Or.inr (Or.inr (Or.inr (Or.inr (Or.inr (Or.inl ⟨rfl, _, _, _, _, _, rfl, rfl, rfl, rfl, rfl⟩)))))⟩
  · exact ⟨_, _, Or.inr (Or.inr (Or.inr (Or.inr (Or.inr (Or.inr (Or.inl ⟨rfl, _, _, _, rfl, rfl, rfl⟩))))))⟩
  · exact ⟨_, _, Or.inr (Or.inr (Or.inr (Or.inr (Or.inr (Or.inr (Or.inr (Or.inl ⟨rfl, _, _, _, rfl, rfl, rfl⟩)))))))⟩
  · exact ⟨_, _, Or.inr (Or.inr (Or.inr (Or.inr (Or.inr (Or.inr (Or.inr (Or.inr (Or.inl ⟨rfl, _, _, _, rfl, rfl, rfl, rfl⟩))))))))⟩
  · exact ⟨_, _, Or.inr (Or.inr (Or.inr (Or.inr (Or.inr (Or.inr (Or.inr (Or.inr (Or.inr (Or.inl ⟨rfl, _, _, _, _, rfl, rfl, rfl, rfl⟩)))))))))⟩
  · exact ⟨_, _, Or.inr (Or.inr (Or.inr (Or.inr (Or.inr (Or.inr (Or.inr (Or.inr (Or.inr (Or.inr (Or.inl ⟨rfl, _, _, _, _, rfl, rfl, rfl, rfl⟩))))))))))⟩
  · exact ⟨_, _, Or.inr (Or.inr (Or.inr (Or.inr (Or.inr (Or.inr (Or.inr (Or.inr (Or.inr (Or.inr (Or.inr (⟨rfl, _, rfl, rfl⟩)))))))))))⟩
theorem bd_tie (hT : rd_T A B X M n) (hR : rd_R A B X M) (hb : rd_b B M) (hS : rs_S n y x) {ln : Nat} (hln : ln < 12) (hr : s_bd B M (ln : Int) x J1 x1) (hc : rl_line A X (ln : Int) (A (X + 15) ln) (re_ms (A (X + 15)) (ln : Int) y) A' y2) : rs_B (A (X + 2)) n y2 x1 ∧ (A (X + 15) ln < re_mt ln → x1.2.2.2.2.1 = 0 → rd_L A B A' J1 X M ln) := by
  have : ln = 0 ∨ ln = 1 ∨ ln = 2 ∨ ln = 3 ∨ ln = 4 ∨ ln = 5 ∨ ln = 6 ∨ ln = 7 ∨ ln = 8 ∨ ln = 9 ∨ ln = 10 ∨ ln = 11 := by omega
  rcases this with e | e | e | e | e | e | e | e | e | e | e | e <;> subst e
  · have hr : s_ra B M 0 4 16 x J1 x1 := by
      unfold s_bd at hr
      rw [if_pos (by decide)] at hr
      exact hr
    rcases hc with ⟨q, hc⟩ | ⟨q, hc⟩ | ⟨q, hc⟩ | ⟨q, hc⟩ | ⟨q, hc⟩ | ⟨q, hc⟩ | ⟨q, hc⟩ | ⟨q, hc⟩ | ⟨q, hc⟩ | ⟨q, hc⟩ | ⟨q, hc⟩ | ⟨q, hc⟩
    · obtain ⟨r, e, rfl⟩ := hc
      obtain ⟨k1, k2⟩ := ok_ra (wd := 0) (lo := 4) (hi := 16) hT hR hb hS (by omega) (by omega) (by omega) (by omega) rfl rfl hr e
      exact ⟨k1, fun _ => k2⟩
    · exact absurd q (by decide)
    · exact absurd q (by decide)
    · exact absurd q (by decide)
    · exact absurd q (by decide)
    · exact absurd q (by decide)
    · exact absurd q (by decide)
    · exact absurd q (by decide)
    · exact absurd q (by decide)
    · exact absurd q (by decide)
    · exact absurd q (by decide)
    · exact absurd q (by decide)
  · have hr : s_ra B M 1 2 6 x J1 x1 := by
      unfold s_bd at hr
      rw [if_neg (by decide), if_pos (by decide)] at hr
      exact hr
    rcases hc with ⟨q, hc⟩ | ⟨q, hc⟩ | ⟨q, hc⟩ | ⟨q, hc⟩ | ⟨q, hc⟩ | ⟨q, hc⟩ | ⟨q, hc⟩ | ⟨q, hc⟩ | ⟨q, hc⟩ | ⟨q, hc⟩ | ⟨q, hc⟩ | ⟨q, hc⟩
    · exact absurd q (by decide)
    · obtain ⟨r, e, rfl⟩ := hc
      obtain ⟨k1, k2⟩ := ok_ra (wd := 1) (lo := 2) (hi := 6) hT hR hb hS (by omega) (by omega) (by omega) (by omega) rfl rfl hr e
      exact ⟨k1, fun _ => k2⟩
    · exact absurd q (by decide)
    · exact absurd q (by decide)
    · exact absurd q (by decide)
    · exact absurd q (by decide)
    · exact absurd q (by decide)
    · exact absurd q (by decide)
    · exact absurd q (by decide)
    · exact absurd q (by decide)
    · exact absurd q (by decide)
    · exact absurd q (by decide)
  · have hr : s_ra B M 2 1 2 x J1 x1 := by
      unfold s_bd at hr
      rw [if_neg (by decide), if_neg (by decide), if_pos (by decide)] at hr
      exact hr
    rcases hc with ⟨q, hc⟩ | ⟨q, hc⟩ | ⟨q, hc⟩ | ⟨q, hc⟩ | ⟨q, hc⟩ | ⟨q, hc⟩ | ⟨q, hc⟩ | ⟨q, hc⟩ | ⟨q, hc⟩ | ⟨q, hc⟩ | ⟨q, hc⟩ | ⟨q, hc⟩
    · exact absurd q (by decide)
    · exact absurd q (by decide)
    · obtain ⟨r, e, rfl⟩ := hc
      obtain ⟨k1, k2⟩ := ok_ra (wd := 2) (lo := 1) (hi := 2) hT hR hb hS (by omega) (by omega) (by omega) (by omega) rfl rfl hr e
      exact ⟨k1, fun _ => k2⟩
    · exact absurd q (by decide)
    · exact absurd q (by decide)
    · exact absurd q (by decide)
    · exact absurd q (by decide)
    · exact absurd q (by decide)
    · exact absurd q (by decide)
    · exact absurd q (by decide)
    · exact absurd q (by decide)
    · exact absurd q (by decide)
  · have hr : s_ra B M 3 1 4 x J1 x1 := by
      unfold s_bd at hr
      rw [if_neg (by decide), if_neg (by decide), if_neg (by decide), if_pos (by decide)] at hr
      exact hr
    rcases hc with ⟨q, hc⟩ | ⟨q, hc⟩ | ⟨q, hc⟩ | ⟨q, hc⟩ | ⟨q, hc⟩ | ⟨q, hc⟩ | ⟨q, hc⟩ | ⟨q, hc⟩ | ⟨q, hc⟩ | ⟨q, hc⟩ | ⟨q, hc⟩ | ⟨q, hc⟩
    · exact absurd q (by decide)
    · exact absurd q (by decide)
    · exact absurd q (by decide)
    · obtain ⟨r, e, rfl⟩ := hc
      obtain ⟨k1, k2⟩ := ok_ra (wd := 3) (lo := 1) (hi := 4) hT hR hb hS (by omega) (by omega) (by omega) (by omega) rfl rfl hr e
      exact ⟨k1, fun _ => k2⟩
    · exact absurd q (by decide)
    · exact absurd q (by decide)
    · exact absurd q (by decide)
    · exact absurd q (by decide)
    · exact absurd q (by decide)
    · exact absurd q (by decide)
    · exact absurd q (by decide)
    · exact absurd q (by decide)
  · have hr : s_bl B M x J1 x1 := by
      unfold s_bd at hr
      rw [if_neg (by decide), if_neg (by decide), if_neg (by decide), if_neg (by decide), if_pos (by decide)] at hr
      exact hr
    rcases hc with ⟨q, hc⟩ | ⟨q, hc⟩ | ⟨q, hc⟩ | ⟨q, hc⟩ | ⟨q, hc⟩ | ⟨q, hc⟩ | ⟨q, hc⟩ | ⟨q, hc⟩ | ⟨q, hc⟩ | ⟨q, hc⟩ | ⟨q, hc⟩ | ⟨q, hc⟩
    · exact absurd q (by decide)
    · exact absurd q (by decide)
    · exact absurd q (by decide)
    · exact absurd q (by decide)
    · exact ok_bl hT hR hb hS hr hc
    · exact absurd q (by decide)
    · exact absurd q (by decide)
    · exact absurd q (by decide)
    · exact absurd q (by decide)
    · exact absurd q (by decide)
    · exact absurd q (by decide)
    · exact absurd q (by decide)
  · have hr : s_sq B M x J1 x1 := by
      unfold s_bd at hr
      rw [if_neg (by decide), if_neg (by decide), if_neg (by decide), if_neg (by decide), if_neg (by decide), if_pos (by decide)] at hr
      exact hr
    rcases hc with ⟨q, hc⟩ | ⟨q, hc⟩ | ⟨q, hc⟩ | ⟨q, hc⟩ | ⟨q, hc⟩ | ⟨q, hc⟩ | ⟨q, hc⟩ | ⟨q, hc⟩ | ⟨q, hc⟩ | ⟨q, hc⟩ | ⟨q, hc⟩ | ⟨q, hc⟩
    · exact absurd q (by decide)
    · exact absurd q (by decide)
    · exact absurd q (by decide)
    · exact absurd q (by decide)
    · exact absurd q (by decide)
    · exact ok_sq hT hR hb hS hr hc
    · exact absurd q (by decide)
    · exact absurd q (by decide)
    · exact absurd q (by decide)
    · exact absurd q (by decide)
    · exact absurd q (by decide)
    · exact absurd q (by decide)
  · have hr : s_sr B M x J1 x1 := by
      unfold s_bd at hr
      rw [if_neg (by decide), if_neg (by decide), if_neg (by decide), if_neg (by decide), if_neg (by decide), if_neg (by decide), if_pos (by decide)] at hr
      exact hr
    rcases hc with ⟨q, hc⟩ | ⟨q, hc⟩ | ⟨q, hc⟩ | ⟨q, hc⟩ | ⟨q, hc⟩ | ⟨q, hc⟩ | ⟨q, hc⟩ | ⟨q, hc⟩ | ⟨q, hc⟩ | ⟨q, hc⟩ | ⟨q, hc⟩ | ⟨q, hc⟩
    · exact absurd q (by decide)
    · exact absurd q (by decide)
    · exact absurd q (by decide)
    · exact absurd q (by decide)
    · exact absurd q (by decide)
    · exact absurd q (by decide)
    · obtain ⟨r1, r2, y1, e1, e2, rfl⟩ := hc
      obtain ⟨k1, k2⟩ := ok_sr hT hR hb hS hr e1 e2
      exact ⟨k1, fun _ => k2⟩
    · exact absurd q (by decide)
    · exact absurd q (by decide)
    · exact absurd q (by decide)
    · exact absurd q (by decide)
    · exact absurd q (by decide)
  · have hr : s_wi B M x J1 x1 := by
      unfold s_bd at hr
      rw [if_neg (by decide), if_neg (by decide), if_neg (by decide), if_neg (by decide), if_neg (by decide), if_neg (by decide), if_neg (by decide), if_pos (by decide)] at hr
      exact hr
    rcases hc with ⟨q, hc⟩ | ⟨q, hc⟩ | ⟨q, hc⟩ | ⟨q, hc⟩ | ⟨q, hc⟩ | ⟨q, hc⟩ | ⟨q, hc⟩ | ⟨q, hc⟩ | ⟨q, hc⟩ | ⟨q, hc⟩ | ⟨q, hc⟩ | ⟨q, hc⟩
    · exact absurd q (by decide)
    · exact absurd q (by decide)
    · exact absurd q (by decide)
    · exact absurd q (by decide)
    · exact absurd q (by decide)
    · exact absurd q (by decide)
    · exact absurd q (by decide)
    · exact ok_wi hT hR hb hS hr hc
    · exact absurd q (by decide)
    · exact absurd q (by decide)
    · exact absurd q (by decide)
    · exact absurd q (by decide)
  · have hr : s_do B M x J1 x1 := by
      unfold s_bd at hr
      rw [if_neg (by decide), if_neg (by decide), if_neg (by decide), if_neg (by decide), if_neg (by decide), if_neg (by decide), if_neg (by decide), if_neg (by decide), if_pos (by decide)] at hr
      exact hr
    rcases hc with ⟨q, hc⟩ | ⟨q, hc⟩ | ⟨q, hc⟩ | ⟨q, hc⟩ | ⟨q, hc⟩ | ⟨q, hc⟩ | ⟨q, hc⟩ | ⟨q, hc⟩ | ⟨q, hc⟩ | ⟨q, hc⟩ | ⟨q, hc⟩ | ⟨q, hc⟩
    · exact absurd q (by decide)
    · exact absurd q (by decide)
    · exact absurd q (by decide)
    · exact absurd q (by decide)
    · exact absurd q (by decide)
    · exact absurd q (by decide)
    · exact absurd q (by decide)
    · exact absurd q (by decide)
    · exact ok_do hT hR hb hS hr hc
    · exact absurd q (by decide)
    · exact absurd q (by decide)
    · exact absurd q (by decide)
  · have hr : s_pi B M x J1 x1 := by
      unfold s_bd at hr
      rw [if_neg (by decide), if_neg (by decide), if_neg (by decide), if_neg (by decide), if_neg (by decide), if_neg (by decide), if_neg (by decide), if_neg (by decide), if_neg (by decide), if_pos (by decide)] at hr
      exact hr
    rcases hc with ⟨q, hc⟩ | ⟨q, hc⟩ | ⟨q, hc⟩ | ⟨q, hc⟩ | ⟨q, hc⟩ | ⟨q, hc⟩ | ⟨q, hc⟩ | ⟨q, hc⟩ | ⟨q, hc⟩ | ⟨q, hc⟩ | ⟨q, hc⟩ | ⟨q, hc⟩
    · exact absurd q (by decide)
    · exact absurd q (by decide)
    · exact absurd q (by decide)
    · exact absurd q (by decide)
    · exact absurd q (by decide)
    · exact absurd q (by decide)
    · exact absurd q (by decide)
    · exact absurd q (by decide)
    · exact absurd q (by decide)
    · exact ok_pi hT hR hb hS hr hc
    · exact absurd q (by decide)
    · exact absurd q (by decide)
  · have hr : s_jb B M x J1 x1 := by
      unfold s_bd at hr
      rw [if_neg (by decide), if_neg (by decide), if_neg (by decide), if_neg (by decide), if_neg (by decide), if_neg (by decide), if_neg (by decide), if_neg (by decide), if_neg (by decide), if_neg (by decide), if_pos (by decide)] at hr
      exact hr
    rcases hc with ⟨q, hc⟩ | ⟨q, hc⟩ | ⟨q, hc⟩ | ⟨q, hc⟩ | ⟨q, hc⟩ | ⟨q, hc⟩ | ⟨q, hc⟩ | ⟨q, hc⟩ | ⟨q, hc⟩ | ⟨q, hc⟩ | ⟨q, hc⟩ | ⟨q, hc⟩
    · exact absurd q (by decide)
    · exact absurd q (by decide)
    · exact absurd q (by decide)
    · exact absurd q (by decide)
    · exact absurd q (by decide)
    · exact absurd q (by decide)
    · exact absurd q (by decide)
    · exact absurd q (by decide)
    · exact absurd q (by decide)
    · exact absurd q (by decide)
    · exact ok_jb hT hR hb hS hr hc
    · exact absurd q (by decide)
  · have hr : s_se B M x J1 x1 := by
      unfold s_bd at hr
      rw [if_neg (by decide), if_neg (by decide), if_neg (by decide), if_neg (by decide), if_neg (by decide), if_neg (by decide), if_neg (by decide), if_neg (by decide), if_neg (by decide), if_neg (by decide), if_neg (by decide), if_pos (by decide)] at hr
      exact hr
    rcases hc with ⟨q, hc⟩ | ⟨q, hc⟩ | ⟨q, hc⟩ | ⟨q, hc⟩ | ⟨q, hc⟩ | ⟨q, hc⟩ | ⟨q, hc⟩ | ⟨q, hc⟩ | ⟨q, hc⟩ | ⟨q, hc⟩ | ⟨q, hc⟩ | ⟨q, hc⟩
    · exact absurd q (by decide)
    · exact absurd q (by decide)
    · exact absurd q (by decide)
    · exact absurd q (by decide)
    · exact absurd q (by decide)
    · exact absurd q (by decide)
    · exact absurd q (by decide)
    · exact absurd q (by decide)
    · exact absurd q (by decide)
    · exact absurd q (by decide)
    · exact absurd q (by decide)
    · obtain ⟨r, e, rfl⟩ := hc
      obtain ⟨k1, k2⟩ := ok_se hT hR hb hS hr e
      exact ⟨k1, fun _ => k2⟩
end LOC
