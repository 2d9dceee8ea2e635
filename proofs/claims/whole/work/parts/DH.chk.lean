/-! the bound, column by column, over all ways to bear no load in 3 .. 12 -/
def q_mx (a b : Nat) : Nat := cond (Nat.ble a b) b a
def q_se (g : Nat) : List Nat → Nat
  | [] => 0
  | c :: cs => Nat.add (cond (Nat.testBit g (Nat.div c 8)) (Nat.mod c 8) 0) (q_se g cs)
def q_rs (g : Nat) : Nat → List (List Nat) → Nat
  | _, [] => 0
  | k, r :: rs => Nat.add (cond (Nat.testBit g k) (q_se g r) 0) (q_rs g (Nat.succ k) rs)
def q_rr (g : Nat) : Nat → List (List (List Nat)) → Nat
  | _, [] => 0
  | k, r :: rs => Nat.add (cond (Nat.testBit g k) (q_rs g 0 r) 0) (q_rr g (Nat.succ k) rs)
def q_D2 (g : Nat) : Nat := Nat.add (q_rr g 0 q_T0) (Nat.add (q_rr g 0 q_T1) (Nat.add (q_rr g 0 q_T1) (q_rr g 0 q_T2)))
def q_d0 (b0 b1 : Nat) : List Nat → Nat
  | [] => q_mx b0 b1
  | a :: l => q_d0 (q_mx b0 b1) (Nat.add b0 a) l
def q_d1 (b0 b1 b2 : Nat) : List Nat → Nat
  | [] => q_mx b0 (q_mx b1 b2)
  | a :: l => q_d1 (q_mx b0 (q_mx b1 b2)) (Nat.add b0 a) (Nat.add b1 a) l
def q_ev : List Nat → List Nat
  | [] => []
  | [a] => [a]
  | a :: _ :: l => a :: q_ev l
def q_dp (T : Bool) (l : List Nat) : Nat := cond T (Nat.add (q_d1 0 0 0 (q_ev l)) (q_d1 0 0 0 (q_ev l.tail))) (Nat.add (q_d0 0 0 (q_ev l)) (q_d0 0 0 (q_ev l.tail)))
/-- of a column y: what may be at t, over t -/
def q_ti (g : Nat) : Nat → List (List Nat) → List (List Nat) → List Nat
  | k, r :: rs, r' :: rs' => cond (Nat.testBit g k) (Nat.add (q_se g r) (q_se g r')) 0 :: q_ti g (Nat.succ k) rs rs'
  | _, _, _ => []
def q_yi (T : Bool) (g : Nat) : Nat → List (List (List Nat)) → List (List (List Nat)) → List Nat
  | k, r :: rs, r' :: rs' => cond (Nat.testBit g k) (Nat.add (q_rs g 0 r) (q_dp T (q_ti g 0 r r'))) 0 :: q_yi T g (Nat.succ k) rs rs'
  | _, _, _ => []
def q_DT (T : Bool) (g : Nat) : Nat := Nat.add (q_rr g 0 q_T0) (q_dp T (q_yi T g 0 q_T1 q_T2))
def q_pc : Nat → Nat → Nat
  | 0, _ => 0
  | n + 1, m => Nat.add (Nat.mod m 2) (q_pc n (Nat.div m 2))
/-- K long ways of D + 3 at most, the others short: fewer than 30000 -/
def q_Kb (K D : Nat) : Bool := cond (Nat.ble K 5) (Nat.ble (Nat.add (Nat.mul K (Nat.add D 3)) (Nat.mul 110 (Nat.sub 6 K))) 29999) (Nat.ble (Nat.mul 6 (Nat.add D 3)) 29999)
def q_be (m : Nat) : Nat := Nat.sub 10 (q_pc 10 m)
def q_gm (m : Nat) : Nat := Nat.add 57351 (Nat.mul 8 m)
def q_ck (m : Nat) : Bool := q_Kb (Nat.add 1 (q_be m)) (q_D2 (q_gm m)) && (q_Kb (Nat.add 2 (q_be m)) (q_D2 (q_gm m)) || q_Kb (Nat.add 2 (q_be m)) (q_DT true (q_gm m))) && (q_Kb (Nat.add 3 (q_be m)) (q_D2 (q_gm m)) || q_Kb (Nat.add 3 (q_be m)) (q_DT false (q_gm m)))
def q_ar : Nat → Nat → Bool
  | 0, _ => true
  | n + 1, k => q_ck (Nat.add k n) && q_ar n k
theorem q_ar_at : ∀ (n k : Nat), q_ar n k = true → ∀ j, j < n → q_ck (k + j) = true := by
  intro n
  induction n with
  | zero => intro k _ j hj; omega
  | succ n ih =>
    intro k h j hj
    unfold q_ar at h
    rw [Bool.and_eq_true] at h
    by_cases e : j = n
    · subst e; exact h.1
    · exact ih k h.2 j (by omega)
set_option maxRecDepth 100000 in
theorem q_al_0 : q_ar 32 0 = true := by decide +kernel
set_option maxRecDepth 100000 in
theorem q_al_1 : q_ar 32 32 = true := by decide +kernel
set_option maxRecDepth 100000 in
theorem q_al_2 : q_ar 32 64 = true := by decide +kernel
set_option maxRecDepth 100000 in
theorem q_al_3 : q_ar 32 96 = true := by decide +kernel
set_option maxRecDepth 100000 in
theorem q_al_4 : q_ar 32 128 = true := by decide +kernel
set_option maxRecDepth 100000 in
theorem q_al_5 : q_ar 32 160 = true := by decide +kernel
set_option maxRecDepth 100000 in
theorem q_al_6 : q_ar 32 192 = true := by decide +kernel
set_option maxRecDepth 100000 in
theorem q_al_7 : q_ar 32 224 = true := by decide +kernel
set_option maxRecDepth 100000 in
theorem q_al_8 : q_ar 32 256 = true := by decide +kernel
set_option maxRecDepth 100000 in
theorem q_al_9 : q_ar 32 288 = true := by decide +kernel
set_option maxRecDepth 100000 in
theorem q_al_10 : q_ar 32 320 = true := by decide +kernel
set_option maxRecDepth 100000 in
theorem q_al_11 : q_ar 32 352 = true := by decide +kernel
set_option maxRecDepth 100000 in
theorem q_al_12 : q_ar 32 384 = true := by decide +kernel
set_option maxRecDepth 100000 in
theorem q_al_13 : q_ar 32 416 = true := by decide +kernel
set_option maxRecDepth 100000 in
theorem q_al_14 : q_ar 32 448 = true := by decide +kernel
set_option maxRecDepth 100000 in
theorem q_al_15 : q_ar 32 480 = true := by decide +kernel
set_option maxRecDepth 100000 in
theorem q_al_16 : q_ar 32 512 = true := by decide +kernel
set_option maxRecDepth 100000 in
theorem q_al_17 : q_ar 32 544 = true := by decide +kernel
set_option maxRecDepth 100000 in
theorem q_al_18 : q_ar 32 576 = true := by decide +kernel
set_option maxRecDepth 100000 in
theorem q_al_19 : q_ar 32 608 = true := by decide +kernel
set_option maxRecDepth 100000 in
theorem q_al_20 : q_ar 32 640 = true := by decide +kernel
set_option maxRecDepth 100000 in
theorem q_al_21 : q_ar 32 672 = true := by decide +kernel
set_option maxRecDepth 100000 in
theorem q_al_22 : q_ar 32 704 = true := by decide +kernel
set_option maxRecDepth 100000 in
theorem q_al_23 : q_ar 32 736 = true := by decide +kernel
set_option maxRecDepth 100000 in
theorem q_al_24 : q_ar 32 768 = true := by decide +kernel
set_option maxRecDepth 100000 in
theorem q_al_25 : q_ar 32 800 = true := by decide +kernel
set_option maxRecDepth 100000 in
theorem q_al_26 : q_ar 32 832 = true := by decide +kernel
set_option maxRecDepth 100000 in
theorem q_al_27 : q_ar 32 864 = true := by decide +kernel
set_option maxRecDepth 100000 in
theorem q_al_28 : q_ar 32 896 = true := by decide +kernel
set_option maxRecDepth 100000 in
theorem q_al_29 : q_ar 32 928 = true := by decide +kernel
set_option maxRecDepth 100000 in
theorem q_al_30 : q_ar 32 960 = true := by decide +kernel
set_option maxRecDepth 100000 in
theorem q_al_31 : q_ar 32 992 = true := by decide +kernel
theorem q_ck_ok {m : Nat} (h : m < 1024) : q_ck m = true := by
  have key : ∀ c, c < 32 → q_ar 32 (32 * c) = true := by
    intro c hc
    match c, hc with
    | 0, _ => exact q_al_0
    | 1, _ => exact q_al_1
    | 2, _ => exact q_al_2
    | 3, _ => exact q_al_3
    | 4, _ => exact q_al_4
    | 5, _ => exact q_al_5
    | 6, _ => exact q_al_6
    | 7, _ => exact q_al_7
    | 8, _ => exact q_al_8
    | 9, _ => exact q_al_9
    | 10, _ => exact q_al_10
    | 11, _ => exact q_al_11
    | 12, _ => exact q_al_12
    | 13, _ => exact q_al_13
    | 14, _ => exact q_al_14
    | 15, _ => exact q_al_15
    | 16, _ => exact q_al_16
    | 17, _ => exact q_al_17
    | 18, _ => exact q_al_18
    | 19, _ => exact q_al_19
    | 20, _ => exact q_al_20
    | 21, _ => exact q_al_21
    | 22, _ => exact q_al_22
    | 23, _ => exact q_al_23
    | 24, _ => exact q_al_24
    | 25, _ => exact q_al_25
    | 26, _ => exact q_al_26
    | 27, _ => exact q_al_27
    | 28, _ => exact q_al_28
    | 29, _ => exact q_al_29
    | 30, _ => exact q_al_30
    | 31, _ => exact q_al_31
    | n + 32, h => exact absurd h (by omega)
  have := q_ar_at 32 (32 * (m / 32)) (key (m / 32) (by omega)) (m % 32) (by omega)
  rwa [show 32 * (m / 32) + m % 32 = m by omega] at this
