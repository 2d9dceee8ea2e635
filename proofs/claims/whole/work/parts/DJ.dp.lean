/-! .. where no two, or no three, deep columns follow each other by twos -/
section QD
variable {g H : Nat → Bool} {gm : Nat} {F : Nat → Nat}
theorem q_mx_l {a b : Nat} : a ≤ q_mx a b := by
  unfold q_mx
  cases h : Nat.ble a b
  · exact Nat.le_refl _
  · exact Nat.le_of_ble_eq_true h
theorem q_mx_r {a b : Nat} : b ≤ q_mx a b := by
  unfold q_mx
  by_cases h : a ≤ b
  · rw [Nat.ble_eq.mpr h]
    exact Nat.le_refl _
  · have e : Nat.ble a b = false := by
      cases hh : Nat.ble a b
      · rfl
      · exact absurd (Nat.le_of_ble_eq_true hh) h
    rw [e]
    exact Nat.le_of_lt (Nat.not_le.mp h)
/-- never two in a row -/
def q_na (H : Nat → Bool) : Bool → List Nat → Prop
  | _, [] => True
  | r, y :: l => ¬ (r = true ∧ H y = true) ∧ q_na H (H y) l
theorem q_d0_ok : ∀ (l : List Nat) (b0 b1 acc : Nat) (r : Bool), acc ≤ (if r = true then b1 else b0) → q_na H r l → acc + q_sm l (fun y => if H y = true then F y else 0) ≤ q_d0 b0 b1 (l.map F)
  | [], b0, b1, acc, r, h, _ => by
    show acc + 0 ≤ q_mx b0 b1
    have h1 := q_mx_l (a := b0) (b := b1)
    have h2 := q_mx_r (a := b0) (b := b1)
    cases r
    · rw [if_neg (by decide)] at h; omega
    · rw [if_pos rfl] at h; omega
  | y :: l, b0, b1, acc, r, h, hn => by
    have h1 := q_mx_l (a := b0) (b := b1)
    have h2 := q_mx_r (a := b0) (b := b1)
    obtain ⟨n1, n2⟩ := hn
    show acc + ((if H y = true then F y else 0) + q_sm l _) ≤ q_d0 (q_mx b0 b1) (b0 + F y) (l.map F)
    have hle : acc ≤ q_mx b0 b1 := by
      cases r
      · rw [if_neg (by decide)] at h; omega
      · rw [if_pos rfl] at h; omega
    by_cases c : H y = true
    · have hr : r = false := by
        cases r
        · rfl
        · exact absurd ⟨rfl, c⟩ n1
      subst hr
      rw [if_neg (by decide)] at h
      have := q_d0_ok l (q_mx b0 b1) (b0 + F y) (acc + F y) (H y) (by rw [if_pos c]; omega) n2
      rw [if_pos c]
      omega
    · have := q_d0_ok l (q_mx b0 b1) (b0 + F y) acc (H y) (by rw [if_neg c]; exact hle) n2
      rw [if_neg c]
      omega
/-- never three in a row -/
def q_nb (H : Nat → Bool) : Nat → List Nat → Prop
  | _, [] => True
  | r, y :: l => (H y = true → r < 2) ∧ q_nb H (if H y = true then r + 1 else 0) l
theorem q_d1_ok : ∀ (l : List Nat) (b0 b1 b2 acc r : Nat), acc ≤ (if r = 0 then b0 else if r = 1 then b1 else b2) → q_nb H r l → acc + q_sm l (fun y => if H y = true then F y else 0) ≤ q_d1 b0 b1 b2 (l.map F)
  | [], b0, b1, b2, acc, r, h, _ => by
    show acc + 0 ≤ q_mx b0 (q_mx b1 b2)
    have h1 := q_mx_l (a := b0) (b := q_mx b1 b2)
    have h2 := q_mx_r (a := b0) (b := q_mx b1 b2)
    have h3 := q_mx_l (a := b1) (b := b2)
    have h4 := q_mx_r (a := b1) (b := b2)
    split at h
    · omega
    · split at h <;> omega
  | y :: l, b0, b1, b2, acc, r, h, hn => by
    have h1 := q_mx_l (a := b0) (b := q_mx b1 b2)
    have h2 := q_mx_r (a := b0) (b := q_mx b1 b2)
    have h3 := q_mx_l (a := b1) (b := b2)
    have h4 := q_mx_r (a := b1) (b := b2)
    obtain ⟨n1, n2⟩ := hn
    show acc + ((if H y = true then F y else 0) + q_sm l _) ≤ q_d1 (q_mx b0 (q_mx b1 b2)) (b0 + F y) (b1 + F y) (l.map F)
    have hle : acc ≤ q_mx b0 (q_mx b1 b2) := by
      split at h
      · omega
      · split at h <;> omega
    by_cases c : H y = true
    · have hr := n1 c
      rw [if_pos c] at n2
      have := q_d1_ok l (q_mx b0 (q_mx b1 b2)) (b0 + F y) (b1 + F y) (acc + F y) (r + 1) (by
        rw [if_neg (by omega)]
        split at h
        · rw [if_pos (by omega)]; omega
        · rw [if_neg (by omega)]
          rw [if_pos (by omega)] at h
          omega) n2
      rw [if_pos c]
      omega
    · rw [if_neg c] at n2
      have := q_d1_ok l (q_mx b0 (q_mx b1 b2)) (b0 + F y) (b1 + F y) acc 0 (by rw [if_pos rfl]; exact hle) n2
      rw [if_neg c]
      omega
/-- what the deep columns keep to -/
def q_tc (T : Bool) (H : Nat → Bool) : Prop := if T = true then ∀ c, c < 12 → ¬ (H c = true ∧ H (c + 2) = true ∧ H (c + 4) = true) else ∀ c, c < 14 → ¬ (H c = true ∧ H (c + 2) = true)
def q_t3 (H : Nat → Bool) : List Nat → Prop
  | a :: b :: c :: l => ¬ (H a = true ∧ H b = true ∧ H c = true) ∧ q_t3 H (b :: c :: l)
  | _ => True
theorem q_t3_t {a : Nat} {l : List Nat} (h : q_t3 H (a :: l)) : q_t3 H l := by
  match l, h with
  | [], _ => trivial
  | [_], _ => trivial
  | _ :: _ :: _, h => exact h.2
theorem q_nb_of : ∀ (l : List Nat) (r : Nat), (r = 0 ∨ (r = 1 ∧ ∀ a b l', l = a :: b :: l' → ¬ (H a = true ∧ H b = true)) ∨ (r = 2 ∧ ∀ a l', l = a :: l' → ¬ H a = true)) → q_t3 H l → q_nb H r l
  | [], _, _, _ => trivial
  | a :: l, r, hr, ht => by
    show (H a = true → r < 2) ∧ q_nb H (if H a = true then r + 1 else 0) l
    by_cases c : H a = true
    · rw [if_pos c]
      rcases hr with rfl | ⟨rfl, h1⟩ | ⟨rfl, h1⟩
      · refine ⟨fun _ => by omega, q_nb_of l 1 (Or.inr (Or.inl ⟨rfl, fun x y l' e q => ?_⟩)) (q_t3_t ht)⟩
        subst e
        exact ht.1 ⟨c, q.1, q.2⟩
      · refine ⟨fun _ => by omega, q_nb_of l 2 (Or.inr (Or.inr ⟨rfl, fun x l' e q => ?_⟩)) (q_t3_t ht)⟩
        subst e
        exact h1 a x l' rfl ⟨c, q⟩
      · exact absurd c (h1 a l rfl)
    · rw [if_neg c]
      exact ⟨fun q => absurd q c, q_nb_of l 0 (Or.inl rfl) (q_t3_t ht)⟩
theorem q_dp_ok {T : Bool} (hT : q_tc T H) : q_sm q_16l (fun y => if H y = true then F y else 0) ≤ q_dp T (q_16l.map F) := by
  have e : q_sm q_16l (fun y => if H y = true then F y else 0) = q_sm [0, 2, 4, 6, 8, 10, 12, 14] (fun y => if H y = true then F y else 0) + q_sm [1, 3, 5, 7, 9, 11, 13, 15] (fun y => if H y = true then F y else 0) := by
    simp only [q_sm]
    omega
  rw [e]
  unfold q_tc at hT
  cases T
  · rw [if_neg (by decide)] at hT
    have k1 := q_d0_ok (H := H) (F := F) [0, 2, 4, 6, 8, 10, 12, 14] 0 0 0 false (Nat.le_refl _) ⟨fun q => absurd q.1 (by decide), hT 0 (by decide), hT 2 (by decide), hT 4 (by decide), hT 6 (by decide), hT 8 (by decide), hT 10 (by decide), hT 12 (by decide), trivial⟩
    have k2 := q_d0_ok (H := H) (F := F) [1, 3, 5, 7, 9, 11, 13, 15] 0 0 0 false (Nat.le_refl _) ⟨fun q => absurd q.1 (by decide), hT 1 (by decide), hT 3 (by decide), hT 5 (by decide), hT 7 (by decide), hT 9 (by decide), hT 11 (by decide), hT 13 (by decide), trivial⟩
    rw [Nat.zero_add] at k1 k2
    exact Nat.add_le_add k1 k2
  · rw [if_pos rfl] at hT
    have nb : ∀ a0 a1 a2 a3 a4 a5 a6 a7 : Nat, ¬ (H a0 = true ∧ H a1 = true ∧ H a2 = true) → ¬ (H a1 = true ∧ H a2 = true ∧ H a3 = true) → ¬ (H a2 = true ∧ H a3 = true ∧ H a4 = true) → ¬ (H a3 = true ∧ H a4 = true ∧ H a5 = true) → ¬ (H a4 = true ∧ H a5 = true ∧ H a6 = true) → ¬ (H a5 = true ∧ H a6 = true ∧ H a7 = true) → q_nb H 0 [a0, a1, a2, a3, a4, a5, a6, a7] := by
      intro a0 a1 a2 a3 a4 a5 a6 a7 n0 n1 n2 n3 n4 n5
      exact q_nb_of _ 0 (Or.inl rfl) ⟨n0, n1, n2, n3, n4, n5, trivial⟩
    have k1 := q_d1_ok (H := H) (F := F) [0, 2, 4, 6, 8, 10, 12, 14] 0 0 0 0 0 (Nat.le_refl _) (nb _ _ _ _ _ _ _ _ (hT 0 (by decide)) (hT 2 (by decide)) (hT 4 (by decide)) (hT 6 (by decide)) (hT 8 (by decide)) (hT 10 (by decide)))
    have k2 := q_d1_ok (H := H) (F := F) [1, 3, 5, 7, 9, 11, 13, 15] 0 0 0 0 0 (Nat.le_refl _) (nb _ _ _ _ _ _ _ _ (hT 1 (by decide)) (hT 3 (by decide)) (hT 5 (by decide)) (hT 7 (by decide)) (hT 9 (by decide)) (hT 11 (by decide)))
    rw [Nat.zero_add] at k1 k2
    exact Nat.add_le_add k1 k2
theorem q_ti_map {r r' : Nat → List Nat} : ∀ (n k : Nat), q_ti gm k ((List.range' k n).map r) ((List.range' k n).map r') = (List.range' k n).map (fun t => cond (Nat.testBit gm t) (Nat.add (q_se gm (r t)) (q_se gm (r' t))) 0)
  | 0, _ => rfl
  | n + 1, k => by
    rw [List.range'_succ, List.map_cons, List.map_cons, List.map_cons]
    show _ :: q_ti gm (Nat.succ k) _ _ = _
    rw [q_ti_map n (Nat.succ k)]
theorem q_yi_map {T : Bool} {r r' : Nat → List (List Nat)} : ∀ (n k : Nat), q_yi T gm k ((List.range' k n).map r) ((List.range' k n).map r') = (List.range' k n).map (fun y => cond (Nat.testBit gm y) (Nat.add (q_rs gm 0 (r y)) (q_dp T (q_ti gm 0 (r y) (r' y)))) 0)
  | 0, _ => rfl
  | n + 1, k => by
    rw [List.range'_succ, List.map_cons, List.map_cons, List.map_cons]
    show _ :: q_yi T gm (Nat.succ k) _ _ = _
    rw [q_yi_map n (Nat.succ k)]
theorem q_LL_T {T : Bool} (hT : q_tc T H) (hg : ∀ k, k < 16 → Nat.testBit gm k = g k) : (q_LL g H).length ≤ q_DT T gm := by
  have e2 : ∀ y, q_ti gm 0 (q_16l.map fun t => q_cd 1 y t) (q_16l.map fun t => q_cd 2 y t) = q_16l.map (fun t => cond (Nat.testBit gm t) (Nat.add (q_se gm (q_cd 1 y t)) (q_se gm (q_cd 2 y t))) 0) := fun y => by
    have := q_ti_map (gm := gm) (r := fun t => q_cd 1 y t) (r' := fun t => q_cd 2 y t) 16 0
    rw [← q_16r] at this
    exact this
  have e3 : q_DT T gm = q_sm q_16l (fun y => if g y = true then q_sv g 0 y else 0) + q_dp T (q_16l.map (fun y => cond (Nat.testBit gm y) (Nat.add (q_sv g 1 y) (q_dp T (q_16l.map (fun t => cond (Nat.testBit gm t) (Nat.add (q_se gm (q_cd 1 y t)) (q_se gm (q_cd 2 y t))) 0)))) 0)) := by
    unfold q_DT
    rw [q_T0_ok, q_rr_sw hg, q_T1_ok, q_T2_ok]
    have := q_yi_map (T := T) (gm := gm) (r := fun y => q_16l.map fun t => q_cd 1 y t) (r' := fun y => q_16l.map fun t => q_cd 2 y t) 16 0
    rw [← q_16r] at this
    rw [this]
    simp only [q_rs_sv hg, e2]
    rfl
  have hin : ∀ y, q_sm q_16l (fun t => if H t = true then (if g t = true then q_su g 1 y t + q_su g 2 y t else 0) else 0) ≤ q_dp T (q_16l.map (fun t => cond (Nat.testBit gm t) (Nat.add (q_se gm (q_cd 1 y t)) (q_se gm (q_cd 2 y t))) 0)) := fun y => by
    refine Nat.le_trans (Nat.le_of_eq (q_sm_cg (fun t ht => ?_))) (q_dp_ok (F := fun t => cond (Nat.testBit gm t) (Nat.add (q_se gm (q_cd 1 y t)) (q_se gm (q_cd 2 y t))) 0) hT)
    rw [hg t (q_16lt t ht), q_cd_su hg, q_cd_su hg]
    cases g t <;> rfl
  have hou := q_dp_ok (H := H) (F := fun y => cond (Nat.testBit gm y) (Nat.add (q_sv g 1 y) (q_dp T (q_16l.map (fun t => cond (Nat.testBit gm t) (Nat.add (q_se gm (q_cd 1 y t)) (q_se gm (q_cd 2 y t))) 0)))) 0) hT
  rw [e3]
  refine Nat.le_trans ?_ (Nat.add_le_add_left hou _)
  rw [q_LL_len, ← q_sm_add]
  refine q_sm_le (fun y hy => ?_)
  rw [hg y (q_16lt y hy)]
  have hi := hin y
  cases c : g y
  · simp
  · rw [if_pos rfl, if_pos rfl]
    show _ ≤ q_sv g 0 y + if H y = true then q_sv g 1 y + _ else 0
    by_cases c2 : H y = true
    · rw [if_pos c2]
      refine Nat.le_trans ?_ (Nat.add_le_add_left (Nat.add_le_add_left hi _) _)
      unfold q_sv
      rw [← q_sm_add, ← q_sm_add]
      refine q_sm_le (fun t _ => ?_)
      rw [if_pos c2]
      simp only [c2, true_and]
      repeat' split
      all_goals omega
    · rw [if_neg c2, Nat.add_zero]
      unfold q_sv
      refine q_sm_le (fun t _ => ?_)
      simp only [c2, false_and]
      repeat' split
      all_goals first | omega | simp_all
end QD
