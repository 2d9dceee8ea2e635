/-! THE TIE: what was read behind a line of which there may be several -/
section LNX
variable {A B A' B' : Nat → Nat → Int} {X M : Nat} {n : Int}
/-- the counts and the rows have changed, the scalars have not -/
theorem rd_mt (hR : rd_R A B X M) (ha3 : A' (X + 3) = A (X + 3)) (hb3 : B' (M + 3) = B (M + 3)) (hbs : ∀ i, 13 ≤ i → i ≤ 16 ∨ (21 ≤ i ∧ i ≤ 23) → B' (M + 2) i = B (M + 2) i) {wd : Nat} (hwd : 4 ≤ wd ∧ wd ≤ 10 ∧ wd ≠ 6) (hl : ∀ i, A' (X + 15) i = if i = wd then A (X + 15) wd + 1 else A (X + 15) i) (h18 : B' M 18 ≠ 0)
    (hc : A' (X + 15) 5 = B' (M + 2) 17 ∧ A' (X + 15) 8 = B' (M + 2) 18 ∧ A' (X + 15) 7 = B' (M + 2) 19 ∧ A' (X + 15) 4 = B' (M + 2) 20 ∧ A' (X + 15) 10 = B' (M + 2) 24 ∧ A' (X + 15) 9 = B' (M + 2) 25)
    (p : (∀ i : Nat, (i : Int) < B' (M + 2) 17 → (A' (X + 6) i = B' (M + 4) (6 + i) ∧ A' (X + 7) i = B' (M + 5) (6 + i) ∧ A' (X + 8) i = B' (M + 6) (6 + i)) ∧ 1 ≤ B' (M + 6) (6 + i)) ∧
      (∀ i : Nat, (i : Int) < B' (M + 2) 19 → A' (X + 9) i = B' (M + 10) (8 + i) ∧ A' (X + 10) i = B' (M + 11) (8 + i)) ∧
      (∀ i j : Nat, i < j → (j : Int) < B' (M + 2) 19 → B' (M + 10) (8 + i) < B' (M + 10) (8 + j)) ∧
      (∀ i : Nat, (i : Int) < B' (M + 2) 18 → (A' (X + 11) i = B' (M + 12) (16 + i) ∧ A' (X + 12) i = B' (M + 13) (16 + i)) ∧ (12 ≤ B' (M + 12) (16 + i) ∧ B' (M + 12) (16 + i) ≤ 17) ∧ 1 ≤ B' (M + 13) (16 + i)) ∧
      (∀ i : Nat, (i : Int) < B' (M + 2) 24 → (A' (X + 13) i = B' (M + 14) (3 + i) ∧ A' (X + 14) i = B' (M + 15) (3 + i)) ∧ B' (M + 14) (3 + i) < B (M + 2) 13 ∧ B' (M + 15) (3 + i) < B (M + 2) 13 ∧ B' (M + 14) (3 + i) ≠ B' (M + 15) (3 + i)) ∧
      (∀ i : Nat, i < 16 → A' (X + 5) i = B' (M + 16) (16 + i)) ∧ ∀ i : Nat, i < 16 → A' (X + 4) i = a_cb B' M i (B' (M + 2) 20).toNat) : rd_R A' B' X M := by
  obtain ⟨s, ⟨-, d1, d2, -⟩, -⟩ := hR
  have h13 := hbs 13 (by omega) (by omega)
  have hnn : ∀ w : Nat, w < 12 → 0 ≤ A' (X + 15) w := fun w hw => by
    rw [hl]
    have := d2 w hw
    have := d2 wd (by omega)
    split <;> omega
  refine ⟨?_, ⟨hc, fun w hw => ?_, hnn, ?_⟩, p.1, p.2.1, p.2.2.1, p.2.2.2.1, by rw [h13]; exact p.2.2.2.2.1, p.2.2.2.2.2⟩
  · rw [ha3, h13, hbs 14 (by omega) (by omega), hbs 15 (by omega) (by omega), hbs 16 (by omega) (by omega), hbs 21 (by omega) (by omega), hbs 22 (by omega) (by omega), hbs 23 (by omega) (by omega)]
    exact s
  · rw [hb3, hl, if_neg (by omega)]
    exact d1 w hw
  · refine ⟨fun _ => ?_, fun _ => h18⟩
    have h4 := hnn 4 (by omega)
    have h5 := hnn 5 (by omega)
    have h6 := hnn 6 (by omega)
    have h7 := hnn 7 (by omega)
    have h8 := hnn 8 (by omega)
    have h9 := hnn 9 (by omega)
    have h10 := hnn 10 (by omega)
    have hw1 : 1 ≤ A' (X + 15) wd := by rw [hl, if_pos rfl]; have := d2 wd (by omega); omega
    unfold re_bg
    have : wd = 4 ∨ wd = 5 ∨ wd = 7 ∨ wd = 8 ∨ wd = 9 ∨ wd = 10 := by omega
    rcases this with e | e | e | e | e | e <;> subst e <;> omega
end LNX
