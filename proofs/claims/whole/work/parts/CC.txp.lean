/-! THE TIE: a text that was read is taken -/
/-- the plan in place of the draft, the reference's rows from their second halves to the first -/
def tx_P (A B F : Nat → Nat → Int) (X M : Nat) : Prop :=
  ((∀ i : Nat, i < 7 → F (X + 17) i = A (X + 3) i) ∧ ∀ k : Nat, 1 ≤ k → k ≤ 12 → ∀ i : Nat, i < pl_n k → F (X + 17 + k) i = A (X + 3 + k) i) ∧
  ((∀ i : Nat, i < 13 → F (M + 2) i = B (M + 2) (13 + i)) ∧ (∀ k : Nat, 4 ≤ k → k ≤ 9 → ∀ i : Nat, i < 6 → F (M + k) i = B (M + k) (6 + i)) ∧ (∀ k : Nat, k = 10 ∨ k = 11 → ∀ i : Nat, i < 8 → F (M + k) i = B (M + k) (8 + i)) ∧ (∀ k : Nat, k = 12 ∨ k = 13 → ∀ i : Nat, i < 16 → F (M + k) i = B (M + k) (16 + i)) ∧ (∀ k : Nat, k = 14 ∨ k = 15 → ∀ i : Nat, i < 3 → F (M + k) i = B (M + k) (3 + i))) ∧
  ((∀ i : Nat, i < 16 → F (M + 16) i = B (M + 16) (16 + i)) ∧ ∀ i : Nat, i < 16 → F (M + 17) i = min (B (M + 2) 14) (a_cb B M i (B (M + 2) 20).toNat))
section TXP
variable {A B F G : Nat → Nat → Int} {X M : Nat} {n : Int}
theorem a_clr_cb (h1 : G (M + 2) 1 = B (M + 2) 14) (hd : B (M + 2) 14 ≤ 6) (h : ∀ k : Nat, 4 ≤ k → k ≤ 9 → ∀ i : Nat, i < 6 → G (M + k) i = B (M + k) (6 + i)) (x : Nat) : ∀ m : Nat, m ≤ 6 → a_clr G M x m = min (B (M + 2) 14) (a_cb B M x m) := by
  intro m
  induction m with
  | zero =>
    intro _
    show G (M + 2) 1 = min (B (M + 2) 14) 6
    omega
  | succ m ih =>
    intro hm
    unfold a_clr a_cb
    rw [ih (by omega), h 7 (by omega) (by omega) m (by omega), h 8 (by omega) (by omega) m (by omega), h 9 (by omega) (by omega) m (by omega)]
    by_cases c : B (M + 7) (6 + m) ≤ (x : Int) ∧ (x : Int) ≤ B (M + 8) (6 + m)
    · by_cases c2 : B (M + 9) (6 + m) < a_cb B M x m
      · rw [if_pos (show _ ∧ B (M + 9) (6 + m) < a_cb B M x m from ⟨c, c2⟩)]
        by_cases c3 : B (M + 9) (6 + m) < min (B (M + 2) 14) (a_cb B M x m)
        · rw [if_pos ⟨c, c3⟩]; omega
        · rw [if_neg (fun q => c3 q.2)]; omega
      · rw [if_neg (show ¬ (_ ∧ B (M + 9) (6 + m) < a_cb B M x m) from fun q => c2 q.2), if_neg (fun q => c2 (by omega))]
    · rw [if_neg (fun q => c q.1), if_neg (fun q => c q.1)]
theorem tx_tt (hb : rd_b B M) : (∀ i : Nat, i < 13 → md_tt B M (M + 2) i = B (M + 2) (13 + i)) ∧ (∀ k : Nat, 4 ≤ k → k ≤ 9 → ∀ i : Nat, i < 6 → md_tt B M (M + k) i = B (M + k) (6 + i)) ∧ (∀ k : Nat, k = 10 ∨ k = 11 → ∀ i : Nat, i < 8 → md_tt B M (M + k) i = B (M + k) (8 + i)) ∧ (∀ k : Nat, k = 12 ∨ k = 13 → ∀ i : Nat, i < 16 → md_tt B M (M + k) i = B (M + k) (16 + i)) ∧ (∀ k : Nat, k = 14 ∨ k = 15 → ∀ i : Nat, i < 3 → md_tt B M (M + k) i = B (M + k) (3 + i)) ∧ (∀ i : Nat, i < 16 → md_tt B M (M + 16) i = B (M + 16) (16 + i)) ∧ ∀ i : Nat, i < 16 → md_tt B M (M + 17) i = min (B (M + 2) 14) (a_cb B M i (B (M + 2) 20).toNat) := by
  have b1 : 2 ≤ B (M + 2) 14 ∧ B (M + 2) 14 ≤ 6 := hb.1 1 (by omega)
  have b7 : 0 ≤ B (M + 2) 20 ∧ B (M + 2) 20 ≤ 6 := hb.1 7 (by omega)
  have e1 : ∀ k j, k ≠ 2 → md_t1 B M (M + k) j = B (M + k) j := fun k j q => by
    unfold md_t1
    rw [m_fl_o (by omega)]
  refine ⟨fun i hi => md_tt_2 hi, fun k k0 k1 i hi => ?_, fun k hk i hi => ?_, fun k hk i hi => ?_, fun k hk i hi => ?_, fun i hi => ?_, fun i hi => ?_⟩
  · rw [md_tt_o (by omega) (by omega), md_t5_6 _ _ (by omega) hi]
  · rw [md_tt_o (by omega) (by omega)]
    unfold md_t5 md_t4 md_t3 md_t2
    rw [a_td_x (by omega), a_td_x (by omega), a_td_i (by omega), a_td_x (by omega), e1 _ _ (by omega)]
  · rw [md_tt_o (by omega) (by omega)]
    unfold md_t5 md_t4 md_t3 md_t2
    rw [a_td_x (by omega), a_td_i (by omega), a_td_x (by omega), a_td_x (by omega), e1 _ _ (by omega)]
  · rw [md_tt_o (by omega) (by omega)]
    unfold md_t5 md_t4 md_t3 md_t2
    rw [a_td_i (by omega), a_td_x (by omega), a_td_x (by omega), a_td_x (by omega), e1 _ _ (by omega)]
  · rw [md_tt_16, if_pos hi]
  · unfold md_tt md_tp
    rw [if_neg (by omega), if_pos ⟨rfl, hi⟩, md_t5_2 _ _ (by omega)]
    exact a_clr_cb (md_t5_2 _ _ (by omega)) b1.2 (fun k q1 q2 i q3 => md_t5_6 _ _ (by omega) q3) i _ (by show (B (M + 2) 20).toNat ≤ 6; omega)
theorem tx_pl (hR : rd_R A B X M) (hb : rd_b B M) (h : tx_P A B F X M) : pl_R F X M := by
  obtain ⟨⟨⟨s0, s1, s2, s3⟩, s4, s5, s6⟩, ⟨⟨c1, c2, c3, c4, c5, c6⟩, -⟩, p1, p2, p3, p4, p5, p6, p7⟩ := hR
  obtain ⟨⟨a0, a1⟩, ⟨m0, m1, m2, m3, m4⟩, m5, m6⟩ := h
  have b4 : 0 ≤ B (M + 2) 17 ∧ B (M + 2) 17 ≤ 6 := hb.1 4 (by omega)
  have b5 : 0 ≤ B (M + 2) 18 ∧ B (M + 2) 18 ≤ 16 := hb.1 5 (by omega)
  have b6 : 0 ≤ B (M + 2) 19 ∧ B (M + 2) 19 ≤ 8 := hb.1 6 (by omega)
  have b11 : 0 ≤ B (M + 2) 24 ∧ B (M + 2) 24 ≤ 3 := hb.1 11 (by omega)
  have n1 : ∀ k i : Nat, i < pl_n k → 1 ≤ k → k ≤ 12 → F (X + (17 + k)) i = A (X + (3 + k)) i := fun k i q k0 k1 => by
    rw [← Nat.add_assoc, ← Nat.add_assoc]; exact a1 k k0 k1 i q
  have n12 : ∀ i : Nat, i < 12 → F (X + 29) i = A (X + 15) i := fun i q => n1 12 i q (by omega) (by omega)
  have w0 : F (M + 2) 0 = B (M + 2) 13 := m0 0 (by omega)
  have w4 : F (M + 2) 4 = B (M + 2) 17 := m0 4 (by omega)
  have w5 : F (M + 2) 5 = B (M + 2) 18 := m0 5 (by omega)
  have w6 : F (M + 2) 6 = B (M + 2) 19 := m0 6 (by omega)
  have w11 : F (M + 2) 11 = B (M + 2) 24 := m0 11 (by omega)
  unfold pl_R
  rw [w0, show F (M + 2) 1 = B (M + 2) 14 from m0 1 (by omega), show F (M + 2) 2 = B (M + 2) 15 from m0 2 (by omega), show F (M + 2) 3 = B (M + 2) 16 from m0 3 (by omega), show F (M + 2) 8 = B (M + 2) 21 from m0 8 (by omega), w4, w5, w6, w11, a0 0 (by omega), a0 1 (by omega), a0 2 (by omega), a0 3 (by omega), a0 4 (by omega), n12 5 (by omega), n12 8 (by omega), n12 7 (by omega), n12 10 (by omega)]
  refine ⟨⟨⟨s0, s1, s2, s3, s4⟩, c1, c2, c3, c5⟩, fun i hi => ?_, fun i hi => ?_, fun i j hij hj => ?_, fun i hi => ?_, fun i hi => ?_, fun i hi => ?_⟩
  · have hi2 : i < 6 := by omega
    rw [n1 3 i hi2 (by omega) (by omega), n1 4 i hi2 (by omega) (by omega), n1 5 i hi2 (by omega) (by omega), m1 4 (by omega) (by omega) i hi2, m1 5 (by omega) (by omega) i hi2, m1 6 (by omega) (by omega) i hi2]
    exact p1 i hi
  · have hi2 : i < 8 := by omega
    rw [n1 6 i hi2 (by omega) (by omega), n1 7 i hi2 (by omega) (by omega), m2 10 (by omega) i hi2, m2 11 (by omega) i hi2]
    exact p2 i hi
  · rw [m2 10 (by omega) i (by omega), m2 10 (by omega) j (by omega)]
    exact p3 i j hij hj
  · have hi2 : i < 16 := by omega
    rw [n1 8 i hi2 (by omega) (by omega), n1 9 i hi2 (by omega) (by omega), m3 12 (by omega) i hi2, m3 13 (by omega) i hi2]
    exact p4 i hi
  · have hi2 : i < 3 := by omega
    rw [n1 10 i hi2 (by omega) (by omega), n1 11 i hi2 (by omega) (by omega), m4 14 (by omega) i hi2, m4 15 (by omega) i hi2]
    exact p5 i hi
  · rw [n1 1 i hi (by omega) (by omega), m6 i hi, show A (X + (3 + 1)) i = A (X + 4) i from rfl, p7 i hi]
/-- now at first -/
theorem tx_mo (hR : rd_R A B X M) (hb : rd_b B M) (hd : 1 ≤ A (X + 3) 6) (h : tx_P A B F X M) (hp : po_get F (X + 31) = (A (X + 3) 5, 0, 0, 0, A (X + 3) 6)) (hs : ∀ i : Nat, i < 16 → F (X + 32) i = A (X + 5) i) (h2 : F (X + 30) 2 = 0) (h3 : F (X + 30) 3 = 0) (h4 : F (X + 30) 4 = 0)
    (hr : ∀ i : Nat, i < 143 → F (M + 22) i = if 7 ≤ i ∧ i < 23 then F (M + 16) (i - 7) else if i = 0 then a_no (F (M + 2) 9, 0, 0, 0, F (M + 2) 10) else 0) : mo_R F M (X + 30) (F (M + 22)) := by
  obtain ⟨⟨⟨s0, s1, s2, s3⟩, s4, s5, s6⟩, ⟨⟨c1, c2, c3, c4, c5, c6⟩, -⟩, p1, p2, p3, p4, p5, p6, p7⟩ := hR
  obtain ⟨⟨a0, a1⟩, ⟨m0, m1, m2, m3, m4⟩, m5, m6⟩ := h
  have b3 : 1 ≤ B (M + 2) 16 ∧ B (M + 2) 16 ≤ 4 := hb.1 3 (by omega)
  have b5 : 0 ≤ B (M + 2) 18 ∧ B (M + 2) 18 ≤ 16 := hb.1 5 (by omega)
  have b9 : 0 ≤ B (M + 2) 22 ∧ B (M + 2) 22 ≤ 15 := hb.1 9 (by omega)
  have b10 : 0 ≤ B (M + 2) 23 ∧ B (M + 2) 23 ≤ 6 := hb.1 10 (by omega)
  have r0 : F (M + 22) 0 = a_no (B (M + 2) 22, 0, 0, 0, B (M + 2) 23) := by
    rw [hr 0 (by omega), if_neg (by omega), if_pos rfl, m0 9 (by omega), m0 10 (by omega)]
  have rz : ∀ i : Nat, 1 ≤ i → i < 7 → F (M + 22) i = 0 := fun i q1 q2 => by rw [hr i (by omega), if_neg (by omega), if_neg (by omega)]
  have bx : a_bx (B (M + 2) 22, 0, 0, 0, B (M + 2) 23) := ⟨⟨by show 0 ≤ B (M + 2) 22; omega, by show B (M + 2) 22 < 16; omega⟩, ⟨by show (-2 : Int) ≤ 0; omega, by show (0 : Int) ≤ 2; omega⟩, ⟨by show (-4 : Int) ≤ 0; omega, by show (0 : Int) ≤ 4; omega⟩, ⟨by show (-4 : Int) ≤ 0; omega, by show (0 : Int) ≤ 4; omega⟩, ⟨by show 1 ≤ B (M + 2) 23; omega, by show B (M + 2) 23 ≤ 6; omega⟩⟩
  have eo : a_of (F (M + 22) 0) = (B (M + 2) 22, 0, 0, 0, B (M + 2) 23) := by rw [r0, a_of_no bx]
  unfold mo_R
  rw [eo]
  refine ⟨?_, fun i hi => ?_, ⟨?_, ?_, ?_⟩, ⟨?_, ?_⟩, ?_⟩
  · rw [show X + 30 + 1 = X + 31 from rfl, hp, s5, s6]
  · rw [show X + 30 + 2 = X + 32 from rfl, hs i hi, hr (7 + i) (by omega), if_pos (by omega), show 7 + i - 7 = i from by omega, m5 i hi]
    exact p6 i hi
  · rw [h2, rz 5 (by omega) (by omega)]
  · rw [h3, rz 1 (by omega) (by omega)]
  · rw [h4, rz 4 (by omega) (by omega)]
  · show a_abs 0 ≤ F (M + 2) 3
    rw [m0 3 (by omega)]
    show (0 : Int) ≤ B (M + 2) 16
    omega
  · show a_abs 0 ≤ F (M + 2) 3
    rw [m0 3 (by omega)]
    show (0 : Int) ≤ B (M + 2) 16
    omega
  · rw [rz 4 (by omega) (by omega), rz 2 (by omega) (by omega), rz 3 (by omega) (by omega), m0 5 (by omega)]
    refine ⟨rfl, b5.1, fun q => ?_, fun _ => rfl⟩
    show (0 : Int) < F (M + 13) 0
    rw [m3 13 (by omega) 0 (by omega)]
    have := (p4 0 (by show (0 : Int) < B (M + 2) 18; exact q)).2.2
    omega
end TXP
