/-! THE TIE: a token -/
section TKT
variable {f g : Nat → Int} {n p : Int}
theorem l6_b (h : tp_R f g n) (hp : 0 ≤ p) (hn : p ≤ n) (hin : ∀ j : Int, p ≤ j → j < a_end a_sl g n p → a_sl (a_hr g n j) = true) (hen : a_end a_sl g n p ≤ n) : ∀ k : Nat, (0 ≤ a_l6 g p (a_end a_sl g n p) k ∧ a_l6 g p (a_end a_sl g n p) k < 27) ∧ (p + (k : Int) < a_end a_sl g n p → 1 ≤ a_l6 g p (a_end a_sl g n p) k ∧ a_l6 g p (a_end a_sl g n p) k = g (p + (k : Int)).toNat - 96) := by
  intro k
  unfold a_l6
  by_cases c : p + (k : Int) < a_end a_sl g n p
  · have := of_decide_eq_true (hin (p + (k : Int)) (by omega) c)
    unfold a_hr at this
    rw [if_pos (by omega)] at this
    rw [if_pos c]
    exact ⟨by omega, fun _ => by omega⟩
  · rw [if_neg c]
    exact ⟨by omega, fun q => absurd q c⟩
/-- a word is the m-th of the language just if it is packed so -/
theorem wm_W {e : Int} {m : Nat} (hm : m < 18) (hl : ∀ k : Nat, (0 ≤ a_l6 g p e k ∧ a_l6 g p e k < 27) ∧ (p + (k : Int) < e → 1 ≤ a_l6 g p e k ∧ a_l6 g p e k = g (p + (k : Int)).toNat - 96)) (hpe : p < e) (he : e - p ≤ 6) : a_wm g p e m ↔ a_p6 (a_l6 g p e 0) (a_l6 g p e 1) (a_l6 g p e 2) (a_l6 g p e 3) (a_l6 g p e 4) (a_l6 g p e 5) = re_W m := by
  have z : ∀ k : Nat, ¬ p + (k : Int) < e → a_l6 g p e k = 0 := fun k q => if_neg q
  have h0 := hl 0
  have h1 := hl 1
  have h2 := hl 2
  have h3 := hl 3
  have h4 := hl 4
  have h5 := hl 5
  have z1 := z 1
  have z2 := z 2
  have z3 := z 3
  have z4 := z 4
  have z5 := z 5
  have hc0 : ((0 : Nat) : Int) = 0 := rfl
  have hc1 : ((1 : Nat) : Int) = 1 := rfl
  have hc2 : ((2 : Nat) : Int) = 2 := rfl
  have hc3 : ((3 : Nat) : Int) = 3 := rfl
  have hc4 : ((4 : Nat) : Int) = 4 := rfl
  have hc5 : ((5 : Nat) : Int) = 5 := rfl
  unfold a_p6
  have hall : ∀ (L : Nat) (P : Nat → Prop), (∀ i, i < L → P i) ↔ ((0 < L → P 0) ∧ (1 < L → P 1) ∧ (2 < L → P 2) ∧ (3 < L → P 3) ∧ (4 < L → P 4) ∧ ∀ i, 5 ≤ i → i < L → P i) := fun L P => ⟨fun q => ⟨q 0, q 1, q 2, q 3, q 4, fun i _ => q i⟩, fun q i hi => by
    obtain ⟨q0, q1, q2, q3, q4, q5⟩ := q
    have : i = 0 ∨ i = 1 ∨ i = 2 ∨ i = 3 ∨ i = 4 ∨ 5 ≤ i := by omega
    rcases this with e | e | e | e | e | e
    · subst e; exact q0 hi
    · subst e; exact q1 hi
    · subst e; exact q2 hi
    · subst e; exact q3 hi
    · subst e; exact q4 hi
    · exact q5 i e hi⟩
  have key : ∀ (L : Nat) (c0 c1 c2 c3 c4 : Int), L ≤ 5 → ((0 < L → 1 ≤ c0 ∧ c0 ≤ 26) ∧ (1 < L → 1 ≤ c1 ∧ c1 ≤ 26) ∧ (2 < L → 1 ≤ c2 ∧ c2 ≤ 26) ∧ (3 < L → 1 ≤ c3 ∧ c3 ≤ 26) ∧ (4 < L → 1 ≤ c4 ∧ c4 ≤ 26)) → ((L ≤ 0 → c0 = 0) ∧ (L ≤ 1 → c1 = 0) ∧ (L ≤ 2 → c2 = 0) ∧ (L ≤ 3 → c3 = 0) ∧ (L ≤ 4 → c4 = 0)) → ((e - p = (L : Int) ∧ ∀ i : Nat, i < L → g (p + (i : Int)).toNat = [c0, c1, c2, c3, c4].getD i 0 + 96) ↔ a_l6 g p e 0 * 33554432 + a_l6 g p e 1 * 1048576 + a_l6 g p e 2 * 32768 + a_l6 g p e 3 * 1024 + a_l6 g p e 4 * 32 + a_l6 g p e 5 = c0 * 33554432 + c1 * 1048576 + c2 * 32768 + c3 * 1024 + c4 * 32) := by
    intro L c0 c1 c2 c3 c4 hL hc hz
    obtain ⟨y0, y1, y2, y3, y4⟩ := hc
    obtain ⟨w0, w1, w2, w3, w4⟩ := hz
    rw [hall]
    have n5 : ∀ i : Nat, 5 ≤ i → i < L → g (p + (i : Int)).toNat = [c0, c1, c2, c3, c4].getD i 0 + 96 := fun i a b => by omega
    show (e - p = (L : Int) ∧ (0 < L → g (p + ((0 : Nat) : Int)).toNat = c0 + 96) ∧ (1 < L → g (p + ((1 : Nat) : Int)).toNat = c1 + 96) ∧ (2 < L → g (p + ((2 : Nat) : Int)).toNat = c2 + 96) ∧ (3 < L → g (p + ((3 : Nat) : Int)).toNat = c3 + 96) ∧ (4 < L → g (p + ((4 : Nat) : Int)).toNat = c4 + 96) ∧ ∀ i : Nat, 5 ≤ i → i < L → g (p + (i : Int)).toNat = [c0, c1, c2, c3, c4].getD i 0 + 96) ↔ _
    constructor
    · rintro ⟨q, q0, q1, q2, q3, q4, -⟩
      have : L = 0 ∨ L = 1 ∨ L = 2 ∨ L = 3 ∨ L = 4 ∨ L = 5 := by omega
      rcases this with e | e | e | e | e | e <;> subst e <;> omega
    · intro q
      have r0 : a_l6 g p e 0 = c0 := by
        have : L = 0 ∨ L = 1 ∨ L = 2 ∨ L = 3 ∨ L = 4 ∨ L = 5 := by omega
        rcases this with e | e | e | e | e | e <;> subst e <;> omega
      have r1 : a_l6 g p e 1 = c1 := by
        have : L = 0 ∨ L = 1 ∨ L = 2 ∨ L = 3 ∨ L = 4 ∨ L = 5 := by omega
        rcases this with e | e | e | e | e | e <;> subst e <;> omega
      have r2 : a_l6 g p e 2 = c2 := by
        have : L = 0 ∨ L = 1 ∨ L = 2 ∨ L = 3 ∨ L = 4 ∨ L = 5 := by omega
        rcases this with e | e | e | e | e | e <;> subst e <;> omega
      have r3 : a_l6 g p e 3 = c3 := by
        have : L = 0 ∨ L = 1 ∨ L = 2 ∨ L = 3 ∨ L = 4 ∨ L = 5 := by omega
        rcases this with e | e | e | e | e | e <;> subst e <;> omega
      have r4 : a_l6 g p e 4 = c4 := by
        have : L = 0 ∨ L = 1 ∨ L = 2 ∨ L = 3 ∨ L = 4 ∨ L = 5 := by omega
        rcases this with e | e | e | e | e | e <;> subst e <;> omega
      have r5 : a_l6 g p e 5 = 0 := by omega
      have hLe : e - p = (L : Int) := by
        have : L = 0 ∨ L = 1 ∨ L = 2 ∨ L = 3 ∨ L = 4 ∨ L = 5 := by omega
        rcases this with e | e | e | e | e | e <;> subst e <;> omega
      refine ⟨hLe, fun a => ?_, fun a => ?_, fun a => ?_, fun a => ?_, fun a => ?_, n5⟩
      · have := (h0.2 (by omega)).2; omega
      · have := (h1.2 (by omega)).2; omega
      · have := (h2.2 (by omega)).2; omega
      · have := (h3.2 (by omega)).2; omega
      · have := (h4.2 (by omega)).2; omega
  have hm18 : m = 0 ∨ m = 1 ∨ m = 2 ∨ m = 3 ∨ m = 4 ∨ m = 5 ∨ m = 6 ∨ m = 7 ∨ m = 8 ∨ m = 9 ∨ m = 10 ∨ m = 11 ∨ m = 12 ∨ m = 13 ∨ m = 14 ∨ m = 15 ∨ m = 16 ∨ m = 17 := by omega
  rcases hm18 with q | q | q | q | q | q | q | q | q | q | q | q | q | q | q | q | q | q <;> subst q
  · have hW : re_W 0 = 23 * 33554432 + 9 * 1048576 + 4 * 32768 + 20 * 1024 + 8 * 32 := by decide
    have ht : ∀ i : Nat, i < 5 → a_tx ((a_wst 0 : Int) + (i : Int)) = [(23 : Int), 9, 4, 20, 8].getD i 0 + 96 := by decide
    rw [hW, ← key 5 23 9 4 20 8 (by decide) (by decide) (by decide)]
    exact ⟨fun q => ⟨q.1, fun i hi => (q.2 i hi).trans (ht i hi)⟩, fun q => ⟨q.1, fun i hi => (q.2 i hi).trans (ht i hi).symm⟩⟩
  · have hW : re_W 1 = 4 * 33554432 + 5 * 1048576 + 5 * 32768 + 16 * 1024 + 0 * 32 := by decide
    have ht : ∀ i : Nat, i < 4 → a_tx ((a_wst 1 : Int) + (i : Int)) = [(4 : Int), 5, 5, 16, 0].getD i 0 + 96 := by decide
    rw [hW, ← key 4 4 5 5 16 0 (by decide) (by decide) (by decide)]
    exact ⟨fun q => ⟨q.1, fun i hi => (q.2 i hi).trans (ht i hi)⟩, fun q => ⟨q.1, fun i hi => (q.2 i hi).trans (ht i hi).symm⟩⟩
  · have hW : re_W 2 = 20 * 33554432 + 15 * 1048576 + 16 * 32768 + 0 * 1024 + 0 * 32 := by decide
    have ht : ∀ i : Nat, i < 3 → a_tx ((a_wst 2 : Int) + (i : Int)) = [(20 : Int), 15, 16, 0, 0].getD i 0 + 96 := by decide
    rw [hW, ← key 3 20 15 16 0 0 (by decide) (by decide) (by decide)]
    exact ⟨fun q => ⟨q.1, fun i hi => (q.2 i hi).trans (ht i hi)⟩, fun q => ⟨q.1, fun i hi => (q.2 i hi).trans (ht i hi).symm⟩⟩
  · have hW : re_W 3 = 19 * 33554432 + 23 * 1048576 + 9 * 32768 + 14 * 1024 + 7 * 32 := by decide
    have ht : ∀ i : Nat, i < 5 → a_tx ((a_wst 3 : Int) + (i : Int)) = [(19 : Int), 23, 9, 14, 7].getD i 0 + 96 := by decide
    rw [hW, ← key 5 19 23 9 14 7 (by decide) (by decide) (by decide)]
    exact ⟨fun q => ⟨q.1, fun i hi => (q.2 i hi).trans (ht i hi)⟩, fun q => ⟨q.1, fun i hi => (q.2 i hi).trans (ht i hi).symm⟩⟩
  · have hW : re_W 4 = 2 * 33554432 + 12 * 1048576 + 15 * 32768 + 3 * 1024 + 11 * 32 := by decide
    have ht : ∀ i : Nat, i < 5 → a_tx ((a_wst 4 : Int) + (i : Int)) = [(2 : Int), 12, 15, 3, 11].getD i 0 + 96 := by decide
    rw [hW, ← key 5 2 12 15 3 11 (by decide) (by decide) (by decide)]
    exact ⟨fun q => ⟨q.1, fun i hi => (q.2 i hi).trans (ht i hi)⟩, fun q => ⟨q.1, fun i hi => (q.2 i hi).trans (ht i hi).symm⟩⟩
  · have hW : re_W 5 = 19 * 33554432 + 16 * 1048576 + 15 * 32768 + 20 * 1024 + 0 * 32 := by decide
    have ht : ∀ i : Nat, i < 4 → a_tx ((a_wst 5 : Int) + (i : Int)) = [(19 : Int), 16, 15, 20, 0].getD i 0 + 96 := by decide
    rw [hW, ← key 4 19 16 15 20 0 (by decide) (by decide) (by decide)]
    exact ⟨fun q => ⟨q.1, fun i hi => (q.2 i hi).trans (ht i hi)⟩, fun q => ⟨q.1, fun i hi => (q.2 i hi).trans (ht i hi).symm⟩⟩
  · have hW : re_W 6 = 19 * 33554432 + 20 * 1048576 + 1 * 32768 + 18 * 1024 + 20 * 32 := by decide
    have ht : ∀ i : Nat, i < 5 → a_tx ((a_wst 6 : Int) + (i : Int)) = [(19 : Int), 20, 1, 18, 20].getD i 0 + 96 := by decide
    rw [hW, ← key 5 19 20 1 18 20 (by decide) (by decide) (by decide)]
    exact ⟨fun q => ⟨q.1, fun i hi => (q.2 i hi).trans (ht i hi)⟩, fun q => ⟨q.1, fun i hi => (q.2 i hi).trans (ht i hi).symm⟩⟩
  · have hW : re_W 7 = 23 * 33554432 + 9 * 1048576 + 14 * 32768 + 4 * 1024 + 0 * 32 := by decide
    have ht : ∀ i : Nat, i < 4 → a_tx ((a_wst 7 : Int) + (i : Int)) = [(23 : Int), 9, 14, 4, 0].getD i 0 + 96 := by decide
    rw [hW, ← key 4 23 9 14 4 0 (by decide) (by decide) (by decide)]
    exact ⟨fun q => ⟨q.1, fun i hi => (q.2 i hi).trans (ht i hi)⟩, fun q => ⟨q.1, fun i hi => (q.2 i hi).trans (ht i hi).symm⟩⟩
  · have hW : re_W 8 = 4 * 33554432 + 15 * 1048576 + 0 * 32768 + 0 * 1024 + 0 * 32 := by decide
    have ht : ∀ i : Nat, i < 2 → a_tx ((a_wst 8 : Int) + (i : Int)) = [(4 : Int), 15, 0, 0, 0].getD i 0 + 96 := by decide
    rw [hW, ← key 2 4 15 0 0 0 (by decide) (by decide) (by decide)]
    exact ⟨fun q => ⟨q.1, fun i hi => (q.2 i hi).trans (ht i hi)⟩, fun q => ⟨q.1, fun i hi => (q.2 i hi).trans (ht i hi).symm⟩⟩
  · have hW : re_W 9 = 16 * 33554432 + 9 * 1048576 + 12 * 32768 + 5 * 1024 + 0 * 32 := by decide
    have ht : ∀ i : Nat, i < 4 → a_tx ((a_wst 9 : Int) + (i : Int)) = [(16 : Int), 9, 12, 5, 0].getD i 0 + 96 := by decide
    rw [hW, ← key 4 16 9 12 5 0 (by decide) (by decide) (by decide)]
    exact ⟨fun q => ⟨q.1, fun i hi => (q.2 i hi).trans (ht i hi)⟩, fun q => ⟨q.1, fun i hi => (q.2 i hi).trans (ht i hi).symm⟩⟩
  · have hW : re_W 10 = 10 * 33554432 + 15 * 1048576 + 2 * 32768 + 0 * 1024 + 0 * 32 := by decide
    have ht : ∀ i : Nat, i < 3 → a_tx ((a_wst 10 : Int) + (i : Int)) = [(10 : Int), 15, 2, 0, 0].getD i 0 + 96 := by decide
    rw [hW, ← key 3 10 15 2 0 0 (by decide) (by decide) (by decide)]
    exact ⟨fun q => ⟨q.1, fun i hi => (q.2 i hi).trans (ht i hi)⟩, fun q => ⟨q.1, fun i hi => (q.2 i hi).trans (ht i hi).symm⟩⟩
  · have hW : re_W 11 = 19 * 33554432 + 5 * 1048576 + 5 * 32768 + 4 * 1024 + 0 * 32 := by decide
    have ht : ∀ i : Nat, i < 4 → a_tx ((a_wst 11 : Int) + (i : Int)) = [(19 : Int), 5, 5, 4, 0].getD i 0 + 96 := by decide
    rw [hW, ← key 4 19 5 5 4 0 (by decide) (by decide) (by decide)]
    exact ⟨fun q => ⟨q.1, fun i hi => (q.2 i hi).trans (ht i hi)⟩, fun q => ⟨q.1, fun i hi => (q.2 i hi).trans (ht i hi).symm⟩⟩
  · have hW : re_W 12 = 5 * 33554432 + 1 * 1048576 + 19 * 32768 + 20 * 1024 + 0 * 32 := by decide
    have ht : ∀ i : Nat, i < 4 → a_tx ((a_wst 12 : Int) + (i : Int)) = [(5 : Int), 1, 19, 20, 0].getD i 0 + 96 := by decide
    rw [hW, ← key 4 5 1 19 20 0 (by decide) (by decide) (by decide)]
    exact ⟨fun q => ⟨q.1, fun i hi => (q.2 i hi).trans (ht i hi)⟩, fun q => ⟨q.1, fun i hi => (q.2 i hi).trans (ht i hi).symm⟩⟩
  · have hW : re_W 13 = 23 * 33554432 + 5 * 1048576 + 19 * 32768 + 20 * 1024 + 0 * 32 := by decide
    have ht : ∀ i : Nat, i < 4 → a_tx ((a_wst 13 : Int) + (i : Int)) = [(23 : Int), 5, 19, 20, 0].getD i 0 + 96 := by decide
    rw [hW, ← key 4 23 5 19 20 0 (by decide) (by decide) (by decide)]
    exact ⟨fun q => ⟨q.1, fun i hi => (q.2 i hi).trans (ht i hi)⟩, fun q => ⟨q.1, fun i hi => (q.2 i hi).trans (ht i hi).symm⟩⟩
  · have hW : re_W 14 = 12 * 33554432 + 9 * 1048576 + 6 * 32768 + 20 * 1024 + 0 * 32 := by decide
    have ht : ∀ i : Nat, i < 4 → a_tx ((a_wst 14 : Int) + (i : Int)) = [(12 : Int), 9, 6, 20, 0].getD i 0 + 96 := by decide
    rw [hW, ← key 4 12 9 6 20 0 (by decide) (by decide) (by decide)]
    exact ⟨fun q => ⟨q.1, fun i hi => (q.2 i hi).trans (ht i hi)⟩, fun q => ⟨q.1, fun i hi => (q.2 i hi).trans (ht i hi).symm⟩⟩
  · have hW : re_W 15 = 12 * 33554432 + 15 * 1048576 + 23 * 32768 + 5 * 1024 + 18 * 32 := by decide
    have ht : ∀ i : Nat, i < 5 → a_tx ((a_wst 15 : Int) + (i : Int)) = [(12 : Int), 15, 23, 5, 18].getD i 0 + 96 := by decide
    rw [hW, ← key 5 12 15 23 5 18 (by decide) (by decide) (by decide)]
    exact ⟨fun q => ⟨q.1, fun i hi => (q.2 i hi).trans (ht i hi)⟩, fun q => ⟨q.1, fun i hi => (q.2 i hi).trans (ht i hi).symm⟩⟩
  · have hW : re_W 16 = 23 * 33554432 + 1 * 1048576 + 9 * 32768 + 20 * 1024 + 0 * 32 := by decide
    have ht : ∀ i : Nat, i < 4 → a_tx ((a_wst 16 : Int) + (i : Int)) = [(23 : Int), 1, 9, 20, 0].getD i 0 + 96 := by decide
    rw [hW, ← key 4 23 1 9 20 0 (by decide) (by decide) (by decide)]
    exact ⟨fun q => ⟨q.1, fun i hi => (q.2 i hi).trans (ht i hi)⟩, fun q => ⟨q.1, fun i hi => (q.2 i hi).trans (ht i hi).symm⟩⟩
  · have hW : re_W 17 = 19 * 33554432 + 20 * 1048576 + 9 * 32768 + 12 * 1024 + 12 * 32 := by decide
    have ht : ∀ i : Nat, i < 5 → a_tx ((a_wst 17 : Int) + (i : Int)) = [(19 : Int), 20, 9, 12, 12].getD i 0 + 96 := by decide
    rw [hW, ← key 5 19 20 9 12 12 (by decide) (by decide) (by decide)]
    exact ⟨fun q => ⟨q.1, fun i hi => (q.2 i hi).trans (ht i hi)⟩, fun q => ⟨q.1, fun i hi => (q.2 i hi).trans (ht i hi).symm⟩⟩
end TKT
