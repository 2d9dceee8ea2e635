/-! THE TIE: what of the class's world says what of the reference's. X: the class's object, M: the reference's -/
/-- the plan that was taken -/
def pl_R (J : Nat → Nat → Int) (X M : Nat) : Prop :=
  ((J (X + 17) 0 = J (M + 2) 0 ∧ J (X + 17) 1 = J (M + 2) 1 ∧ J (X + 17) 2 = J (M + 2) 2 ∧ J (X + 17) 3 = J (M + 2) 3 ∧ J (X + 17) 4 = J (M + 2) 8) ∧
   (J (X + 29) 5 = J (M + 2) 4 ∧ J (X + 29) 8 = J (M + 2) 5 ∧ J (X + 29) 7 = J (M + 2) 6 ∧ J (X + 29) 10 = J (M + 2) 11)) ∧
  (∀ i : Nat, (i : Int) < J (M + 2) 4 → (J (X + 20) i = J (M + 4) i ∧ J (X + 21) i = J (M + 5) i ∧ J (X + 22) i = J (M + 6) i) ∧ 1 ≤ J (M + 6) i) ∧
  (∀ i : Nat, (i : Int) < J (M + 2) 6 → J (X + 23) i = J (M + 10) i ∧ J (X + 24) i = J (M + 11) i) ∧
  (∀ i j : Nat, i < j → (j : Int) < J (M + 2) 6 → J (M + 10) i < J (M + 10) j) ∧
  (∀ i : Nat, (i : Int) < J (M + 2) 5 → (J (X + 25) i = J (M + 12) i ∧ J (X + 26) i = J (M + 13) i) ∧ (12 ≤ J (M + 12) i ∧ J (M + 12) i ≤ 17) ∧ 1 ≤ J (M + 13) i) ∧
  (∀ i : Nat, (i : Int) < J (M + 2) 11 → (J (X + 27) i = J (M + 14) i ∧ J (X + 28) i = J (M + 15) i) ∧ J (M + 14) i < J (M + 2) 0 ∧ J (M + 15) i < J (M + 2) 0 ∧ J (M + 14) i ≠ J (M + 15) i) ∧
  ∀ i : Nat, i < 16 → min (J (M + 2) 1) (J (X + 18) i) = J (M + 17) i
/-- a moment B of the class and a row of the reference -/
def mo_R (J : Nat → Nat → Int) (M B : Nat) (r : Nat → Int) : Prop :=
  po_get J (B + 1) = a_of (r 0) ∧ (∀ i : Nat, i < 16 → J (B + 2) i = r (7 + i)) ∧ (J B 2 = r 5 ∧ J B 3 = r 1 ∧ J B 4 = r 4) ∧
  (a_abs (a_of (r 0)).2.2.1 ≤ J (M + 2) 3 ∧ a_abs (a_of (r 0)).2.2.2.1 ≤ J (M + 2) 3) ∧
  (r 4 = a_sum (J (M + 13)) (r 2).toNat + r 3 ∧ r 2 ≤ J (M + 2) 5 ∧ (r 2 < J (M + 2) 5 → r 3 < J (M + 13) (r 2).toNat) ∧ (r 2 = J (M + 2) 5 → r 3 = 0))
/-- a log (ring f, its end e, its size s), t ticks ago, and a row of the reference -/
def lo_R (f : Nat → Int) (e s t : Int) (r : Nat → Int) : Prop := (0 ≤ t ∧ t ≤ s) ∧ r 6 = min 40 (s - t) ∧
  ∀ k : Nat, (k : Int) < r 6 → f (lo_at e ((k : Int) + t)).toNat % 256 = r (23 + k) ∧ f (lo_at e ((k : Int) + t)).toNat / 256 % 2 = r (63 + k) ∧ f (lo_at e ((k : Int) + t)).toNat / 512 = r (103 + k)
/-- where in the ring of the past the k-th of n kept rows lies -/
def pa_ix (e n k : Int) : Int := if e - (n - k) < 0 then e - (n - k) + 30 else e - (n - k)
/-- one row of the past and the next: a tick between them leaves the boxes -/
def pa_nx (r r' : Nat → Int) : Prop := (r 1 ≤ r' 1 ∧ r' 1 ≤ r 1 + 1) ∧ (r' 1 ≠ r 1 → r' 5 = r 5 ∧ ∀ i : Nat, i < 16 → r' (7 + i) = r (7 + i))
def pa_R (J : Nat → Nat → Int) (X M : Nat) : Prop := J (X + 35) 2 = J M 45 ∧ (0 ≤ J (X + 35) 1 ∧ J (X + 35) 1 < 30) ∧
  (∀ k : Nat, (k : Int) < J M 45 → mo_R J M (X + 37 + 3 * (pa_ix (J (X + 35) 1) (J M 45) (k : Int)).toNat) (fun i => J (M + 23) (143 * k + i)) ∧
    lo_R (J (X + 34)) (J (X + 33) 1) (J (X + 33) 2) (J (M + 22) 1 - J (M + 23) (143 * k + 1)) (fun i => J (M + 23) (143 * k + i)) ∧ J (M + 22) 1 - J (M + 23) (143 * k + 1) ≤ J M 45 - (k : Int)) ∧
  (∀ k : Nat, (k : Int) + 1 < J M 45 → pa_nx (fun i => J (M + 23) (143 * k + i)) (fun i => J (M + 23) (143 * (k + 1) + i))) ∧ ∀ k : Nat, (k : Int) + 1 = J M 45 → pa_nx (fun i => J (M + 23) (143 * k + i)) (J (M + 22))
def im_R (J : Nat → Nat → Int) (X M : Nat) : Prop := J X 7 = J M 46 ∧ (J M 46 = 1 → mo_R J M (X + 127) (fun i => J (M + 23) (4290 + i)) ∧ lo_R (J (X + 131)) (J (X + 130) 1) (J (X + 130) 2) 0 (fun i => J (M + 23) (4290 + i)))
/-- a byte as the class holds it -/
def a_sb (v : Int) : Int := if v < 128 then v else v - 256
def re_R (J : Nat → Nat → Int) (X M : Nat) : Prop := J (X + 1) 1 = J M 2 ∧ (∀ i : Nat, (i : Int) < J M 2 → J (X + 2) i = a_sb (J (M + 1) i)) ∧ J (X + 1) 3 = J M 27 ∧ J (X + 1) 4 = J M 28
def cl_R (J : Nat → Nat → Int) (X M : Nat) : Prop := pl_R J X M ∧ (mo_R J M (X + 30) (J (M + 22)) ∧ lo_R (J (X + 34)) (J (X + 33) 1) (J (X + 33) 2) 0 (J (M + 22))) ∧ pa_R J X M ∧ im_R J X M ∧ re_R J X M
/-- the words, five bits a letter -/
def re_W (i : Nat) : Int := [781340928, 139640832, 687341568, 661960928, 80186720, 654823424, 658557568, 781651968, 149946368, 546706432, 351338496, 642945024, 169463808, 777637888, 412307456, 419141184, 773115904, 658813312].getD i 0
/-- what else holds of the class -/
def cl_K (en : Nat → Nat) (X k : Nat) (T : Nat → Option (Nat × Nat)) (J : Nat → Nat → Int) : Prop := re_ok0 en T J X ∧ cl_os en T J ∧ (lo_ok J (X + 33) ∧ lo_ok J (X + 130)) ∧ (∀ i : Nat, i < 18 → J (X + 16) i = re_W i) ∧
  ((0 ≤ J (X + 132) 13 ∧ J (X + 132) 13 ≤ 50 * (k : Int) + 10) ∧ (-1 ≤ J (X + 157) 5 ∧ J (X + 157) 5 ≤ J (X + 132) 13) ∧ -1 ≤ J (X + 160) 7 ∧ J (X + 160) 7 ≤ J (X + 132) 13)
/-- what the class keeps of the best orders is so -/
def cl_B (J : Nat → Nat → Int) (X : Nat) (C : a_C) : Prop := (J (X + 157) 5 = J (X + 132) 13 → ∃ n d0 dl, ro_H J X n C d0 dl ∧ (∀ k, d0 k < 100000) ∧ (∀ f t, dl f t < 100000) ∧ ro_V J X n d0 dl) ∧ (J (X + 160) 7 = J (X + 132) 13 → ∃ n sf, ha_H J X n C sf ∧ ha_V J X n sf)
/-- all that holds at a call of the law; k: calls so far; z0 w0: the room at the beginning; T0 J0: what lay there -/
def to_I (en : Nat → Nat) (X M N O z0 w0 : Nat) (T0 : Nat → Option (Nat × Nat)) (J0 : Nat → Nat → Int) (k : Nat) (T : Nat → Option (Nat × Nat)) (J : Nat → Nat → Int) (P : Nat → Nat → Option Nat) (L : Nat → Nat → Int64) (z w : Nat) : Prop :=
  ((∃ zb wb, cl_W en X N zb wb (cl_cf J X) T J P z w ∧ zb ≤ z0 + k ∧ wb ≤ w0 + 6 * k) ∧ md_sh en M T P ∧ md_top J M) ∧ ((X + 165 ≤ M ∧ M + 27 ≤ O ∧ O < N) ∧ T O = some (24, 1) ∧ en 0 ≤ O) ∧ cl_K en X k T J ∧ cl_R J X M ∧ cl_B J X (cl_cf J X) ∧ ∀ b, b < X → T b = T0 b ∧ J b = J0 b
