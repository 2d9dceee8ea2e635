/-! the keys by loads, in a list; how long it is -/
def q_ky (m y t u V : Nat) : Nat := (((m * 16 + y) * 16 + t) * 16 + u) * 5 + V
def q_Km (m b y t u : Nat) : List Nat := ([0, 1, 2, 3, 4].filter (q_a b u t y)).map (q_ky m y t u)
def q_Lu (H : Nat → Bool) (y t u : Nat) : List Nat := q_Km 0 0 y t u ++ ((if H y = true then q_Km 1 1 y t u else []) ++ (if H y = true ∧ H t = true then q_Km 2 1 y t u ++ q_Km 3 2 y t u else []))
def q_LL (g H : Nat → Bool) : List Nat := q_16l.flatMap fun y => if g y = true then q_16l.flatMap fun t => if g t = true then q_16l.flatMap fun u => if g u = true then q_Lu H y t u else [] else [] else []
section QS
variable {g H : Nat → Bool} {gm : Nat}
theorem q_sm_cg {f f' : Nat → Nat} : ∀ {l : List Nat}, (∀ a ∈ l, f a = f' a) → q_sm l f = q_sm l f'
  | [], _ => rfl
  | a :: l, h => by
    show f a + q_sm l f = f' a + q_sm l f'
    rw [h a List.mem_cons_self, q_sm_cg (fun b hb => h b (List.mem_cons_of_mem _ hb))]
theorem q_sm_le {f f' : Nat → Nat} : ∀ {l : List Nat}, (∀ a ∈ l, f a ≤ f' a) → q_sm l f ≤ q_sm l f'
  | [], _ => Nat.le_refl _
  | a :: l, h => by
    show f a + q_sm l f ≤ f' a + q_sm l f'
    exact Nat.add_le_add (h a List.mem_cons_self) (q_sm_le (fun b hb => h b (List.mem_cons_of_mem _ hb)))
theorem q_sm_add {f f' : Nat → Nat} : ∀ {l : List Nat}, q_sm l (fun a => f a + f' a) = q_sm l f + q_sm l f'
  | [] => rfl
  | a :: l => by
    show f a + f' a + q_sm l (fun a => f a + f' a) = f a + q_sm l f + (f' a + q_sm l f')
    rw [q_sm_add]
    omega
theorem q_sm_if {f : Nat → Nat} {p : Prop} [Decidable p] : ∀ {l : List Nat}, q_sm l (fun a => if p then f a else 0) = if p then q_sm l f else 0
  | [] => by split <;> rfl
  | a :: l => by
    show (if p then f a else 0) + q_sm l (fun a => if p then f a else 0) = _
    rw [q_sm_if]
    split <;> rfl
theorem q_len_if {p : Prop} [Decidable p] {l : List Nat} : (if p then l else []).length = if p then l.length else 0 := by split <;> rfl
theorem q_Km_len {m b y t u : Nat} : (q_Km m b y t u).length = q_w b u t y := by
  unfold q_Km q_w
  rw [List.length_map]
theorem q_w_le {b u t y : Nat} : q_w b u t y ≤ 5 := List.length_filter_le _ _
/-- over u -/
def q_su (g : Nat → Bool) (b y t : Nat) : Nat := q_sm q_16l (fun u => if g u = true then q_w b u t y else 0)
theorem q_LL_len : (q_LL g H).length = q_sm q_16l (fun y => if g y = true then q_sm q_16l (fun t => if g t = true then q_su g 0 y t + ((if H y = true then q_su g 1 y t else 0) + (if H y = true ∧ H t = true then q_su g 1 y t + q_su g 2 y t else 0)) else 0) else 0) := by
  unfold q_LL
  rw [q_sm_fl]
  refine q_sm_cg (fun y _ => ?_)
  rw [q_len_if, q_sm_fl]
  by_cases c1 : g y = true
  rotate_left
  · rw [if_neg c1, if_neg c1]
  rw [if_pos c1, if_pos c1]
  refine q_sm_cg (fun t _ => ?_)
  rw [q_len_if, q_sm_fl]
  by_cases c2 : g t = true
  rotate_left
  · rw [if_neg c2, if_neg c2]
  rw [if_pos c2, if_pos c2]
  have e : ∀ u, (if g u = true then q_Lu H y t u else []).length = (if g u = true then q_w 0 u t y else 0) + ((if H y = true then (if g u = true then q_w 1 u t y else 0) else 0) + (if H y = true ∧ H t = true then (if g u = true then q_w 1 u t y else 0) + (if g u = true then q_w 2 u t y else 0) else 0)) := fun u => by
    unfold q_Lu
    rw [q_len_if, List.length_append, List.length_append, q_len_if, q_len_if, List.length_append, q_Km_len, q_Km_len, q_Km_len, q_Km_len]
    repeat' split
    all_goals omega
  rw [q_sm_cg (fun u _ => e u), q_sm_add, q_sm_add, q_sm_if, q_sm_if, q_sm_add]
  rfl
theorem q_se_su (hg : ∀ k, k < 16 → Nat.testBit gm k = g k) {b y t : Nat} : ∀ {l : List Nat}, (∀ u ∈ l, u < 16) → q_se gm (l.filterMap fun u => match q_w b u t y with | 0 => none | k + 1 => some (Nat.add (Nat.mul 8 u) (Nat.succ k))) = q_sm l (fun u => if g u = true then q_w b u t y else 0)
  | [], _ => rfl
  | u :: l, h => by
    have ih := q_se_su hg (b := b) (y := y) (t := t) (l := l) (fun v hv => h v (List.mem_cons_of_mem _ hv))
    have hu := h u List.mem_cons_self
    have hw : q_w b u t y ≤ 5 := q_w_le
    show _ = (if g u = true then q_w b u t y else 0) + q_sm l _
    rw [← ih]
    cases hq : q_w b u t y with
    | zero =>
      rw [List.filterMap_cons_none (by rw [hq])]
      split <;> omega
    | succ k =>
      rw [List.filterMap_cons_some (b := Nat.add (Nat.mul 8 u) (Nat.succ k)) (by rw [hq])]
      show Nat.add (cond (Nat.testBit gm (Nat.div (Nat.add (Nat.mul 8 u) (Nat.succ k)) 8)) (Nat.mod (Nat.add (Nat.mul 8 u) (Nat.succ k)) 8) 0) _ = _
      have e1 : Nat.div (Nat.add (Nat.mul 8 u) (Nat.succ k)) 8 = u := by
        show (8 * u + (k + 1)) / 8 = u
        omega
      have e2 : Nat.mod (Nat.add (Nat.mul 8 u) (Nat.succ k)) 8 = k + 1 := by
        show (8 * u + (k + 1)) % 8 = k + 1
        omega
      rw [e1, e2, hg u hu]
      cases g u
      · rfl
      · rfl
theorem q_16lt : ∀ u ∈ q_16l, u < 16 := by decide
theorem q_cd_su (hg : ∀ k, k < 16 → Nat.testBit gm k = g k) {b y t : Nat} : q_se gm (q_cd b y t) = q_su g b y t := q_se_su hg q_16lt
theorem q_16r : q_16l = List.range' 0 16 := by decide
theorem q_rs_sm {r : Nat → List Nat} : ∀ (n k : Nat), q_rs gm k ((List.range' k n).map r) = q_sm (List.range' k n) (fun t => if Nat.testBit gm t = true then q_se gm (r t) else 0)
  | 0, _ => rfl
  | n + 1, k => by
    rw [List.range'_succ, List.map_cons]
    show Nat.add (cond (Nat.testBit gm k) (q_se gm (r k)) 0) (q_rs gm (Nat.succ k) _) = (if Nat.testBit gm k = true then q_se gm (r k) else 0) + q_sm _ _
    rw [q_rs_sm n (Nat.succ k)]
    cases Nat.testBit gm k <;> rfl
theorem q_rr_sm {r : Nat → List (List Nat)} : ∀ (n k : Nat), q_rr gm k ((List.range' k n).map r) = q_sm (List.range' k n) (fun t => if Nat.testBit gm t = true then q_rs gm 0 (r t) else 0)
  | 0, _ => rfl
  | n + 1, k => by
    rw [List.range'_succ, List.map_cons]
    show Nat.add (cond (Nat.testBit gm k) (q_rs gm 0 (r k)) 0) (q_rr gm (Nat.succ k) _) = (if Nat.testBit gm k = true then q_rs gm 0 (r k) else 0) + q_sm _ _
    rw [q_rr_sm n (Nat.succ k)]
    cases Nat.testBit gm k <;> rfl
/-- over t and u -/
def q_sv (g : Nat → Bool) (b y : Nat) : Nat := q_sm q_16l (fun t => if g t = true then q_su g b y t else 0)
theorem q_rs_sv (hg : ∀ k, k < 16 → Nat.testBit gm k = g k) {b y : Nat} : q_rs gm 0 (q_16l.map fun t => q_cd b y t) = q_sv g b y := by
  have h := q_rs_sm (gm := gm) (r := fun t => q_cd b y t) 16 0
  rw [← q_16r] at h
  rw [h]
  refine q_sm_cg (fun t ht => ?_)
  rw [hg t (q_16lt t ht), q_cd_su hg]
theorem q_rr_sw (hg : ∀ k, k < 16 → Nat.testBit gm k = g k) {b : Nat} : q_rr gm 0 (q_16l.map fun y => q_16l.map fun t => q_cd b y t) = q_sm q_16l (fun y => if g y = true then q_sv g b y else 0) := by
  have h := q_rr_sm (gm := gm) (r := fun y => q_16l.map fun t => q_cd b y t) 16 0
  rw [← q_16r] at h
  rw [h]
  refine q_sm_cg (fun t ht => ?_)
  rw [hg t (q_16lt t ht), q_rs_sv hg]
/-- with no word on the deep columns -/
theorem q_LL_2 (hg : ∀ k, k < 16 → Nat.testBit gm k = g k) : (q_LL g H).length ≤ q_D2 gm := by
  have e : q_D2 gm = q_sm q_16l (fun y => if g y = true then q_sv g 0 y else 0) + (q_sm q_16l (fun y => if g y = true then q_sv g 1 y else 0) + (q_sm q_16l (fun y => if g y = true then q_sv g 1 y else 0) + q_sm q_16l (fun y => if g y = true then q_sv g 2 y else 0))) := by
    unfold q_D2
    rw [q_T0_ok, q_T1_ok, q_T2_ok, q_rr_sw hg, q_rr_sw hg, q_rr_sw hg]
    rfl
  rw [e, q_LL_len, ← q_sm_add, ← q_sm_add, ← q_sm_add]
  refine q_sm_le (fun y _ => ?_)
  by_cases c : g y = true
  · simp only [if_pos c]
    unfold q_sv
    rw [← q_sm_add, ← q_sm_add, ← q_sm_add]
    refine q_sm_le (fun t _ => ?_)
    by_cases c2 : g t = true
    · simp only [if_pos c2]
      repeat' split
      all_goals omega
    · simp only [if_neg c2]
      exact Nat.zero_le _
  · simp only [if_neg c]
    exact Nat.zero_le _
end QS
