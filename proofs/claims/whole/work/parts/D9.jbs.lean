/-! THE TIE: jobs, job -/
section TJB
variable {en : Nat → Nat} {X M N O z0 w0 : Nat} {T0 : Nat → Option (Nat × Nat)} {J0 : Nat → Nat → Int} {k : Nat} {T T' : Nat → Option (Nat × Nat)} {J J' J1 K : Nat → Nat → Int} {P P' : Nat → Nat → Option Nat} {L L' : Nat → Nat → Int64} {z w z' w' zb wb : Nat} {C : a_C}
variable {sf : (Nat → Int) → Int → Int → Int → Int → Int} {dd : (Nat → Int) → Int → Int} {jf jt : Nat → Int} {p : Nat → Int} {fin st col dep : Int} {ds : List Nat} {rec : (Nat → Int) → Int → Int → Int → Int → List Nat → List (Int × List Nat)}
/-- the orders that go on with a job -/
def ha_pc (rec : (Nat → Int) → Int → Int → Int → Int → List Nat → List (Int × List Nat)) (sf : (Nat → Int) → Int → Int → Int → Int → Int) (dd : (Nat → Int) → Int → Int) (jf jt p : Nat → Int) (fin st col dep : Int) (ds : List Nat) (k : Nat) : List (Int × List Nat) := if 0 ≤ ha_mo sf jf jt p fin col dep k then rec (ha_mv p (jf k) (jt k)) (a_set fin (k : Int)) (st + ha_mo sf jf jt p fin col dep k) (jt k) (dd p (jt k)) (ds ++ [k]) else []
theorem pc_s {k : Nat} (h : a_bit fin (k : Int) ≠ 0) : ha_pc rec sf dd jf jt p fin st col dep ds k = [] := by
  have e : ha_mo sf jf jt p fin col dep k = -2 := if_pos h
  unfold ha_pc
  rw [e]
  rfl
theorem pc_f {k : Nat} (h : a_bit fin (k : Int) = 0) : ha_pc rec sf dd jf jt p fin st col dep ds k = if 0 ≤ sf p col dep (jf k) (jt k) then rec (ha_mv p (jf k) (jt k)) (a_set fin (k : Int)) (st + sf p col dep (jf k) (jt k)) (jt k) (dd p (jt k)) (ds ++ [k]) else [] := by
  have e : ha_mo sf jf jt p fin col dep k = sf p col dep (jf k) (jt k) := if_neg (fun q => q h)
  unfold ha_pc
  rw [e]
theorem lf_c {d : Nat} {rs r : List Nat} : lf_o (lf_v sf dd jf jt (d :: rs) p st col dep) r = if 0 ≤ sf p col dep (jf d) (jt d) then lf_o (lf_v sf dd jf jt rs (ha_mv p (jf d) (jt d)) (st + sf p col dep (jf d) (jt d)) (jt d) (dd p (jt d))) r else [] := by
  show lf_o (if 0 ≤ sf p col dep (jf d) (jt d) then _ else none) r = _
  split <;> rfl
theorem if_app {c : Prop} [Decidable c] {a b : List (Int × List Nat)} : (if c then a ++ b else []) = (if c then a else []) ++ (if c then b else []) := by
  split <;> rfl
theorem jb_sk {n : Int} {a m : Nat} (h : ∀ i : Nat, i < m → a_is3 n ((a + i : Nat) : Int) 3 0 0 = 0) : ∀ k : Nat, a ≤ k → k < a + m → a_is3 n (k : Int) 3 0 0 = 0 := fun k q1 q2 => by
  have := h (k - a) (by omega)
  rwa [show a + (k - a) = k by omega] at this
theorem LL1 : ha_LL rec sf dd jf jt p fin st col dep ds 1 = ha_pc rec sf dd jf jt p fin st col dep ds 0 := List.nil_append _
theorem LL2 : ha_LL rec sf dd jf jt p fin st col dep ds 2 = ha_pc rec sf dd jf jt p fin st col dep ds 0 ++ ha_pc rec sf dd jf jt p fin st col dep ds 1 := by
  show ha_LL rec sf dd jf jt p fin st col dep ds 1 ++ ha_pc rec sf dd jf jt p fin st col dep ds 1 = _
  rw [LL1]
theorem LL3 : ha_LL rec sf dd jf jt p fin st col dep ds 3 = (ha_pc rec sf dd jf jt p fin st col dep ds 0 ++ ha_pc rec sf dd jf jt p fin st col dep ds 1) ++ ha_pc rec sf dd jf jt p fin st col dep ds 2 := by
  show ha_LL rec sf dd jf jt p fin st col dep ds 2 ++ ha_pc rec sf dd jf jt p fin st col dep ds 2 = _
  rw [LL2]
theorem hL_end {n f : Nat} (h : n ≤ ds.length) : ha_L n sf dd jf jt (f + 1) p fin st col dep ds = lf_o (lf_v sf dd jf jt [] p st col dep) ds := if_pos h
theorem hL_go {n f : Nat} (h : ¬ n ≤ ds.length) : ha_L n sf dd jf jt (f + 1) p fin st col dep ds = ha_LL (ha_L n sf dd jf jt f) sf dd jf jt p fin st col dep ds n := if_neg h
theorem hL1 : ha_L 1 sf dd jf jt 2 p 0 st col dep [] = lf_o (lf_v sf dd jf jt [0] p st col dep) [0] := by
  rw [hL_go (by decide), LL1, pc_f (by decide +kernel), lf_c, List.nil_append]
  split
  · rw [hL_end (by decide)]
  · rfl
theorem hL2_0 : ha_L 2 sf dd jf jt 2 p (a_set 0 ((0 : Nat) : Int)) st col dep [0] = (lf_o (lf_v sf dd jf jt [1] p st col dep) [0, 1]) := by
  rw [hL_go (by decide), LL2, pc_s (k := 0) (by decide +kernel), pc_f (k := 1) (by decide +kernel)]
  simp only [List.nil_append, List.append_nil]
  rw [lf_c]
  split
  · exact hL_end (by decide)
  · rfl
theorem hL2_1 : ha_L 2 sf dd jf jt 2 p (a_set 0 ((1 : Nat) : Int)) st col dep [1] = (lf_o (lf_v sf dd jf jt [0] p st col dep) [1, 0]) := by
  rw [hL_go (by decide), LL2, pc_f (k := 0) (by decide +kernel), pc_s (k := 1) (by decide +kernel)]
  simp only [List.nil_append, List.append_nil]
  rw [lf_c]
  split
  · exact hL_end (by decide)
  · rfl
theorem hL2_ : ha_L 2 sf dd jf jt 3 p 0 st col dep [] = ((lf_o (lf_v sf dd jf jt [0, 1] p st col dep) [0, 1]) ++ (lf_o (lf_v sf dd jf jt [1, 0] p st col dep) [1, 0])) := by
  rw [hL_go (by decide), LL2, pc_f (k := 0) (by decide +kernel), pc_f (k := 1) (by decide +kernel)]
  simp only [List.nil_append, List.append_nil]
  have e0 := fun (p : Nat → Int) (st col dep : Int) => hL2_0 (sf := sf) (dd := dd) (jf := jf) (jt := jt) (p := p) (st := st) (col := col) (dep := dep)
  have e1 := fun (p : Nat → Int) (st col dep : Int) => hL2_1 (sf := sf) (dd := dd) (jf := jf) (jt := jt) (p := p) (st := st) (col := col) (dep := dep)
  rw [e0, e1]
  rw [lf_c (d := 0) (rs := [1]) (p := p), lf_c (d := 1) (rs := [0]) (p := p)]
theorem hL3_01 : ha_L 3 sf dd jf jt 2 p (a_set (a_set 0 ((0 : Nat) : Int)) ((1 : Nat) : Int)) st col dep [0, 1] = (lf_o (lf_v sf dd jf jt [2] p st col dep) [0, 1, 2]) := by
  rw [hL_go (by decide), LL3, pc_s (k := 0) (by decide +kernel), pc_s (k := 1) (by decide +kernel), pc_f (k := 2) (by decide +kernel)]
  simp only [List.nil_append, List.append_nil]
  rw [lf_c]
  split
  · exact hL_end (by decide)
  · rfl
theorem hL3_02 : ha_L 3 sf dd jf jt 2 p (a_set (a_set 0 ((0 : Nat) : Int)) ((2 : Nat) : Int)) st col dep [0, 2] = (lf_o (lf_v sf dd jf jt [1] p st col dep) [0, 2, 1]) := by
  rw [hL_go (by decide), LL3, pc_s (k := 0) (by decide +kernel), pc_f (k := 1) (by decide +kernel), pc_s (k := 2) (by decide +kernel)]
  simp only [List.nil_append, List.append_nil]
  rw [lf_c]
  split
  · exact hL_end (by decide)
  · rfl
theorem hL3_10 : ha_L 3 sf dd jf jt 2 p (a_set (a_set 0 ((1 : Nat) : Int)) ((0 : Nat) : Int)) st col dep [1, 0] = (lf_o (lf_v sf dd jf jt [2] p st col dep) [1, 0, 2]) := by
  rw [hL_go (by decide), LL3, pc_s (k := 0) (by decide +kernel), pc_s (k := 1) (by decide +kernel), pc_f (k := 2) (by decide +kernel)]
  simp only [List.nil_append, List.append_nil]
  rw [lf_c]
  split
  · exact hL_end (by decide)
  · rfl
theorem hL3_12 : ha_L 3 sf dd jf jt 2 p (a_set (a_set 0 ((1 : Nat) : Int)) ((2 : Nat) : Int)) st col dep [1, 2] = (lf_o (lf_v sf dd jf jt [0] p st col dep) [1, 2, 0]) := by
  rw [hL_go (by decide), LL3, pc_f (k := 0) (by decide +kernel), pc_s (k := 1) (by decide +kernel), pc_s (k := 2) (by decide +kernel)]
  simp only [List.nil_append, List.append_nil]
  rw [lf_c]
  split
  · exact hL_end (by decide)
  · rfl
theorem hL3_20 : ha_L 3 sf dd jf jt 2 p (a_set (a_set 0 ((2 : Nat) : Int)) ((0 : Nat) : Int)) st col dep [2, 0] = (lf_o (lf_v sf dd jf jt [1] p st col dep) [2, 0, 1]) := by
  rw [hL_go (by decide), LL3, pc_s (k := 0) (by decide +kernel), pc_f (k := 1) (by decide +kernel), pc_s (k := 2) (by decide +kernel)]
  simp only [List.nil_append, List.append_nil]
  rw [lf_c]
  split
  · exact hL_end (by decide)
  · rfl
theorem hL3_21 : ha_L 3 sf dd jf jt 2 p (a_set (a_set 0 ((2 : Nat) : Int)) ((1 : Nat) : Int)) st col dep [2, 1] = (lf_o (lf_v sf dd jf jt [0] p st col dep) [2, 1, 0]) := by
  rw [hL_go (by decide), LL3, pc_f (k := 0) (by decide +kernel), pc_s (k := 1) (by decide +kernel), pc_s (k := 2) (by decide +kernel)]
  simp only [List.nil_append, List.append_nil]
  rw [lf_c]
  split
  · exact hL_end (by decide)
  · rfl
theorem hL3_0 : ha_L 3 sf dd jf jt 3 p (a_set 0 ((0 : Nat) : Int)) st col dep [0] = ((lf_o (lf_v sf dd jf jt [1, 2] p st col dep) [0, 1, 2]) ++ (lf_o (lf_v sf dd jf jt [2, 1] p st col dep) [0, 2, 1])) := by
  rw [hL_go (by decide), LL3, pc_s (k := 0) (by decide +kernel), pc_f (k := 1) (by decide +kernel), pc_f (k := 2) (by decide +kernel)]
  simp only [List.nil_append, List.append_nil]
  rw [show ([0] ++ [1] : List Nat) = [0, 1] from rfl]
  rw [show ([0] ++ [2] : List Nat) = [0, 2] from rfl]
  have e1 := fun (p : Nat → Int) (st col dep : Int) => hL3_01 (sf := sf) (dd := dd) (jf := jf) (jt := jt) (p := p) (st := st) (col := col) (dep := dep)
  have e2 := fun (p : Nat → Int) (st col dep : Int) => hL3_02 (sf := sf) (dd := dd) (jf := jf) (jt := jt) (p := p) (st := st) (col := col) (dep := dep)
  rw [e1, e2]
  rw [lf_c (d := 1) (rs := [2]) (p := p), lf_c (d := 2) (rs := [1]) (p := p)]
theorem hL3_1 : ha_L 3 sf dd jf jt 3 p (a_set 0 ((1 : Nat) : Int)) st col dep [1] = ((lf_o (lf_v sf dd jf jt [0, 2] p st col dep) [1, 0, 2]) ++ (lf_o (lf_v sf dd jf jt [2, 0] p st col dep) [1, 2, 0])) := by
  rw [hL_go (by decide), LL3, pc_f (k := 0) (by decide +kernel), pc_s (k := 1) (by decide +kernel), pc_f (k := 2) (by decide +kernel)]
  simp only [List.nil_append, List.append_nil]
  rw [show ([1] ++ [0] : List Nat) = [1, 0] from rfl]
  rw [show ([1] ++ [2] : List Nat) = [1, 2] from rfl]
  have e0 := fun (p : Nat → Int) (st col dep : Int) => hL3_10 (sf := sf) (dd := dd) (jf := jf) (jt := jt) (p := p) (st := st) (col := col) (dep := dep)
  have e2 := fun (p : Nat → Int) (st col dep : Int) => hL3_12 (sf := sf) (dd := dd) (jf := jf) (jt := jt) (p := p) (st := st) (col := col) (dep := dep)
  rw [e0, e2]
  rw [lf_c (d := 0) (rs := [2]) (p := p), lf_c (d := 2) (rs := [0]) (p := p)]
theorem hL3_2 : ha_L 3 sf dd jf jt 3 p (a_set 0 ((2 : Nat) : Int)) st col dep [2] = ((lf_o (lf_v sf dd jf jt [0, 1] p st col dep) [2, 0, 1]) ++ (lf_o (lf_v sf dd jf jt [1, 0] p st col dep) [2, 1, 0])) := by
  rw [hL_go (by decide), LL3, pc_f (k := 0) (by decide +kernel), pc_f (k := 1) (by decide +kernel), pc_s (k := 2) (by decide +kernel)]
  simp only [List.nil_append, List.append_nil]
  rw [show ([2] ++ [0] : List Nat) = [2, 0] from rfl]
  rw [show ([2] ++ [1] : List Nat) = [2, 1] from rfl]
  have e0 := fun (p : Nat → Int) (st col dep : Int) => hL3_20 (sf := sf) (dd := dd) (jf := jf) (jt := jt) (p := p) (st := st) (col := col) (dep := dep)
  have e1 := fun (p : Nat → Int) (st col dep : Int) => hL3_21 (sf := sf) (dd := dd) (jf := jf) (jt := jt) (p := p) (st := st) (col := col) (dep := dep)
  rw [e0, e1]
  rw [lf_c (d := 0) (rs := [1]) (p := p), lf_c (d := 1) (rs := [0]) (p := p)]
theorem hL3_ : ha_L 3 sf dd jf jt 4 p 0 st col dep [] = (((lf_o (lf_v sf dd jf jt [0, 1, 2] p st col dep) [0, 1, 2] ++ lf_o (lf_v sf dd jf jt [0, 2, 1] p st col dep) [0, 2, 1]) ++ (lf_o (lf_v sf dd jf jt [1, 0, 2] p st col dep) [1, 0, 2] ++ lf_o (lf_v sf dd jf jt [1, 2, 0] p st col dep) [1, 2, 0])) ++ (lf_o (lf_v sf dd jf jt [2, 0, 1] p st col dep) [2, 0, 1] ++ lf_o (lf_v sf dd jf jt [2, 1, 0] p st col dep) [2, 1, 0])) := by
  rw [hL_go (by decide), LL3, pc_f (k := 0) (by decide +kernel), pc_f (k := 1) (by decide +kernel), pc_f (k := 2) (by decide +kernel)]
  simp only [List.nil_append, List.append_nil]
  have e0 := fun (p : Nat → Int) (st col dep : Int) => hL3_0 (sf := sf) (dd := dd) (jf := jf) (jt := jt) (p := p) (st := st) (col := col) (dep := dep)
  have e1 := fun (p : Nat → Int) (st col dep : Int) => hL3_1 (sf := sf) (dd := dd) (jf := jf) (jt := jt) (p := p) (st := st) (col := col) (dep := dep)
  have e2 := fun (p : Nat → Int) (st col dep : Int) => hL3_2 (sf := sf) (dd := dd) (jf := jf) (jt := jt) (p := p) (st := st) (col := col) (dep := dep)
  rw [e0, e1, e2]
  rw [if_app, if_app, if_app]
  rw [lf_c (d := 0) (rs := [1, 2]), lf_c (d := 0) (rs := [2, 1]), lf_c (d := 1) (rs := [0, 2]), lf_c (d := 1) (rs := [2, 0]), lf_c (d := 2) (rs := [0, 1]), lf_c (d := 2) (rs := [1, 0])]
theorem lj_1 (h : to_I en X M N O z0 w0 T0 J0 k T J P L z w) (hH : ∀ p col dep fr to r, ha_so J X (cl_cf J X) p col dep fr to r → r = sf p col dep fr to) (h0 : J (X + 30) 2 = 0) (hn : J (M + 2) 11 = ((1 : Nat) : Int)) (hp : ∀ i : Nat, i < 16 → p i = J (X + 32) i) {b c : Int} (hs : s_lj J M 64 b c) : jb_M 1 b c (jb_f (ha_L 1 sf (ha_dd J X) (J (X + 27)) (J (X + 28)) 2 p 0 0 (-1) (-1) []) (-2, [])) := by
  have s0 : ∀ b c, s_lj J M 0 b c → jb_M 1 b c ((-2 : Int), ([] : List Nat)) := fun b c q => ⟨q, Or.inl rfl, fun q => absurd rfl q⟩
  have s1 : ∀ b c, s_lj J M 1 b c → jb_M 1 b c (jb_f (lf_o (lf_v sf (ha_dd J X) (J (X + 27)) (J (X + 28)) [0] p 0 (-1) (-1)) [0]) ((-2 : Int), ([] : List Nat))) := fun b c q => lj_step h hH h0 hn hp (m := 0) (ds := [0]) rfl (by decide +kernel) (by decide +kernel) q s0
  have z : ∀ b c, s_lj J M 64 b c → jb_M 1 b c (jb_f (lf_o (lf_v sf (ha_dd J X) (J (X + 27)) (J (X + 28)) [0] p 0 (-1) (-1)) [0]) ((-2 : Int), ([] : List Nat))) := jb_M_skip hn (a := 1) (m := 63) (jb_sk (by decide +kernel)) s1
  rw [hL1]
  exact z b c hs
theorem lj_2 (h : to_I en X M N O z0 w0 T0 J0 k T J P L z w) (hH : ∀ p col dep fr to r, ha_so J X (cl_cf J X) p col dep fr to r → r = sf p col dep fr to) (h0 : J (X + 30) 2 = 0) (hn : J (M + 2) 11 = ((2 : Nat) : Int)) (hp : ∀ i : Nat, i < 16 → p i = J (X + 32) i) {b c : Int} (hs : s_lj J M 64 b c) : jb_M 2 b c (jb_f (ha_L 2 sf (ha_dd J X) (J (X + 27)) (J (X + 28)) 3 p 0 0 (-1) (-1) []) (-2, [])) := by
  have s0 : ∀ b c, s_lj J M 0 b c → jb_M 2 b c ((-2 : Int), ([] : List Nat)) := fun b c q => ⟨q, Or.inl rfl, fun q => absurd rfl q⟩
  have k0 : ∀ b c, s_lj J M 4 b c → jb_M 2 b c ((-2 : Int), ([] : List Nat)) := jb_M_skip hn (a := 0) (m := 4) (jb_sk (by decide +kernel)) s0
  have s1 : ∀ b c, s_lj J M 5 b c → jb_M 2 b c (jb_f (lf_o (lf_v sf (ha_dd J X) (J (X + 27)) (J (X + 28)) [0, 1] p 0 (-1) (-1)) [0, 1]) ((-2 : Int), ([] : List Nat))) := fun b c q => lj_step h hH h0 hn hp (m := 4) (ds := [0, 1]) rfl (by decide +kernel) (by decide +kernel) q k0
  have k1 : ∀ b c, s_lj J M 16 b c → jb_M 2 b c (jb_f (lf_o (lf_v sf (ha_dd J X) (J (X + 27)) (J (X + 28)) [0, 1] p 0 (-1) (-1)) [0, 1]) ((-2 : Int), ([] : List Nat))) := jb_M_skip hn (a := 5) (m := 11) (jb_sk (by decide +kernel)) s1
  have s2 : ∀ b c, s_lj J M 17 b c → jb_M 2 b c (jb_f (lf_o (lf_v sf (ha_dd J X) (J (X + 27)) (J (X + 28)) [1, 0] p 0 (-1) (-1)) [1, 0]) (jb_f (lf_o (lf_v sf (ha_dd J X) (J (X + 27)) (J (X + 28)) [0, 1] p 0 (-1) (-1)) [0, 1]) ((-2 : Int), ([] : List Nat)))) := fun b c q => lj_step h hH h0 hn hp (m := 16) (ds := [1, 0]) rfl (by decide +kernel) (by decide +kernel) q k1
  have z : ∀ b c, s_lj J M 64 b c → jb_M 2 b c (jb_f (lf_o (lf_v sf (ha_dd J X) (J (X + 27)) (J (X + 28)) [1, 0] p 0 (-1) (-1)) [1, 0]) (jb_f (lf_o (lf_v sf (ha_dd J X) (J (X + 27)) (J (X + 28)) [0, 1] p 0 (-1) (-1)) [0, 1]) ((-2 : Int), ([] : List Nat)))) := jb_M_skip hn (a := 17) (m := 47) (jb_sk (by decide +kernel)) s2
  rw [hL2_]
  simp only [jb_f_app]
  exact z b c hs
theorem lj_3 (h : to_I en X M N O z0 w0 T0 J0 k T J P L z w) (hH : ∀ p col dep fr to r, ha_so J X (cl_cf J X) p col dep fr to r → r = sf p col dep fr to) (h0 : J (X + 30) 2 = 0) (hn : J (M + 2) 11 = ((3 : Nat) : Int)) (hp : ∀ i : Nat, i < 16 → p i = J (X + 32) i) {b c : Int} (hs : s_lj J M 64 b c) : jb_M 3 b c (jb_f (ha_L 3 sf (ha_dd J X) (J (X + 27)) (J (X + 28)) 4 p 0 0 (-1) (-1) []) (-2, [])) := by
  have s0 : ∀ b c, s_lj J M 0 b c → jb_M 3 b c ((-2 : Int), ([] : List Nat)) := fun b c q => ⟨q, Or.inl rfl, fun q => absurd rfl q⟩
  have k0 : ∀ b c, s_lj J M 6 b c → jb_M 3 b c ((-2 : Int), ([] : List Nat)) := jb_M_skip hn (a := 0) (m := 6) (jb_sk (by decide +kernel)) s0
  have s1 : ∀ b c, s_lj J M 7 b c → jb_M 3 b c (jb_f (lf_o (lf_v sf (ha_dd J X) (J (X + 27)) (J (X + 28)) [0, 1, 2] p 0 (-1) (-1)) [0, 1, 2]) ((-2 : Int), ([] : List Nat))) := fun b c q => lj_step h hH h0 hn hp (m := 6) (ds := [0, 1, 2]) rfl (by decide +kernel) (by decide +kernel) q k0
  have k1 : ∀ b c, s_lj J M 9 b c → jb_M 3 b c (jb_f (lf_o (lf_v sf (ha_dd J X) (J (X + 27)) (J (X + 28)) [0, 1, 2] p 0 (-1) (-1)) [0, 1, 2]) ((-2 : Int), ([] : List Nat))) := jb_M_skip hn (a := 7) (m := 2) (jb_sk (by decide +kernel)) s1
  have s2 : ∀ b c, s_lj J M 10 b c → jb_M 3 b c (jb_f (lf_o (lf_v sf (ha_dd J X) (J (X + 27)) (J (X + 28)) [0, 2, 1] p 0 (-1) (-1)) [0, 2, 1]) (jb_f (lf_o (lf_v sf (ha_dd J X) (J (X + 27)) (J (X + 28)) [0, 1, 2] p 0 (-1) (-1)) [0, 1, 2]) ((-2 : Int), ([] : List Nat)))) := fun b c q => lj_step h hH h0 hn hp (m := 9) (ds := [0, 2, 1]) rfl (by decide +kernel) (by decide +kernel) q k1
  have k2 : ∀ b c, s_lj J M 18 b c → jb_M 3 b c (jb_f (lf_o (lf_v sf (ha_dd J X) (J (X + 27)) (J (X + 28)) [0, 2, 1] p 0 (-1) (-1)) [0, 2, 1]) (jb_f (lf_o (lf_v sf (ha_dd J X) (J (X + 27)) (J (X + 28)) [0, 1, 2] p 0 (-1) (-1)) [0, 1, 2]) ((-2 : Int), ([] : List Nat)))) := jb_M_skip hn (a := 10) (m := 8) (jb_sk (by decide +kernel)) s2
  have s3 : ∀ b c, s_lj J M 19 b c → jb_M 3 b c (jb_f (lf_o (lf_v sf (ha_dd J X) (J (X + 27)) (J (X + 28)) [1, 0, 2] p 0 (-1) (-1)) [1, 0, 2]) (jb_f (lf_o (lf_v sf (ha_dd J X) (J (X + 27)) (J (X + 28)) [0, 2, 1] p 0 (-1) (-1)) [0, 2, 1]) (jb_f (lf_o (lf_v sf (ha_dd J X) (J (X + 27)) (J (X + 28)) [0, 1, 2] p 0 (-1) (-1)) [0, 1, 2]) ((-2 : Int), ([] : List Nat))))) := fun b c q => lj_step h hH h0 hn hp (m := 18) (ds := [1, 0, 2]) rfl (by decide +kernel) (by decide +kernel) q k2
  have k3 : ∀ b c, s_lj J M 24 b c → jb_M 3 b c (jb_f (lf_o (lf_v sf (ha_dd J X) (J (X + 27)) (J (X + 28)) [1, 0, 2] p 0 (-1) (-1)) [1, 0, 2]) (jb_f (lf_o (lf_v sf (ha_dd J X) (J (X + 27)) (J (X + 28)) [0, 2, 1] p 0 (-1) (-1)) [0, 2, 1]) (jb_f (lf_o (lf_v sf (ha_dd J X) (J (X + 27)) (J (X + 28)) [0, 1, 2] p 0 (-1) (-1)) [0, 1, 2]) ((-2 : Int), ([] : List Nat))))) := jb_M_skip hn (a := 19) (m := 5) (jb_sk (by decide +kernel)) s3
  have s4 : ∀ b c, s_lj J M 25 b c → jb_M 3 b c (jb_f (lf_o (lf_v sf (ha_dd J X) (J (X + 27)) (J (X + 28)) [1, 2, 0] p 0 (-1) (-1)) [1, 2, 0]) (jb_f (lf_o (lf_v sf (ha_dd J X) (J (X + 27)) (J (X + 28)) [1, 0, 2] p 0 (-1) (-1)) [1, 0, 2]) (jb_f (lf_o (lf_v sf (ha_dd J X) (J (X + 27)) (J (X + 28)) [0, 2, 1] p 0 (-1) (-1)) [0, 2, 1]) (jb_f (lf_o (lf_v sf (ha_dd J X) (J (X + 27)) (J (X + 28)) [0, 1, 2] p 0 (-1) (-1)) [0, 1, 2]) ((-2 : Int), ([] : List Nat)))))) := fun b c q => lj_step h hH h0 hn hp (m := 24) (ds := [1, 2, 0]) rfl (by decide +kernel) (by decide +kernel) q k3
  have k4 : ∀ b c, s_lj J M 33 b c → jb_M 3 b c (jb_f (lf_o (lf_v sf (ha_dd J X) (J (X + 27)) (J (X + 28)) [1, 2, 0] p 0 (-1) (-1)) [1, 2, 0]) (jb_f (lf_o (lf_v sf (ha_dd J X) (J (X + 27)) (J (X + 28)) [1, 0, 2] p 0 (-1) (-1)) [1, 0, 2]) (jb_f (lf_o (lf_v sf (ha_dd J X) (J (X + 27)) (J (X + 28)) [0, 2, 1] p 0 (-1) (-1)) [0, 2, 1]) (jb_f (lf_o (lf_v sf (ha_dd J X) (J (X + 27)) (J (X + 28)) [0, 1, 2] p 0 (-1) (-1)) [0, 1, 2]) ((-2 : Int), ([] : List Nat)))))) := jb_M_skip hn (a := 25) (m := 8) (jb_sk (by decide +kernel)) s4
  have s5 : ∀ b c, s_lj J M 34 b c → jb_M 3 b c (jb_f (lf_o (lf_v sf (ha_dd J X) (J (X + 27)) (J (X + 28)) [2, 0, 1] p 0 (-1) (-1)) [2, 0, 1]) (jb_f (lf_o (lf_v sf (ha_dd J X) (J (X + 27)) (J (X + 28)) [1, 2, 0] p 0 (-1) (-1)) [1, 2, 0]) (jb_f (lf_o (lf_v sf (ha_dd J X) (J (X + 27)) (J (X + 28)) [1, 0, 2] p 0 (-1) (-1)) [1, 0, 2]) (jb_f (lf_o (lf_v sf (ha_dd J X) (J (X + 27)) (J (X + 28)) [0, 2, 1] p 0 (-1) (-1)) [0, 2, 1]) (jb_f (lf_o (lf_v sf (ha_dd J X) (J (X + 27)) (J (X + 28)) [0, 1, 2] p 0 (-1) (-1)) [0, 1, 2]) ((-2 : Int), ([] : List Nat))))))) := fun b c q => lj_step h hH h0 hn hp (m := 33) (ds := [2, 0, 1]) rfl (by decide +kernel) (by decide +kernel) q k4
  have k5 : ∀ b c, s_lj J M 36 b c → jb_M 3 b c (jb_f (lf_o (lf_v sf (ha_dd J X) (J (X + 27)) (J (X + 28)) [2, 0, 1] p 0 (-1) (-1)) [2, 0, 1]) (jb_f (lf_o (lf_v sf (ha_dd J X) (J (X + 27)) (J (X + 28)) [1, 2, 0] p 0 (-1) (-1)) [1, 2, 0]) (jb_f (lf_o (lf_v sf (ha_dd J X) (J (X + 27)) (J (X + 28)) [1, 0, 2] p 0 (-1) (-1)) [1, 0, 2]) (jb_f (lf_o (lf_v sf (ha_dd J X) (J (X + 27)) (J (X + 28)) [0, 2, 1] p 0 (-1) (-1)) [0, 2, 1]) (jb_f (lf_o (lf_v sf (ha_dd J X) (J (X + 27)) (J (X + 28)) [0, 1, 2] p 0 (-1) (-1)) [0, 1, 2]) ((-2 : Int), ([] : List Nat))))))) := jb_M_skip hn (a := 34) (m := 2) (jb_sk (by decide +kernel)) s5
  have s6 : ∀ b c, s_lj J M 37 b c → jb_M 3 b c (jb_f (lf_o (lf_v sf (ha_dd J X) (J (X + 27)) (J (X + 28)) [2, 1, 0] p 0 (-1) (-1)) [2, 1, 0]) (jb_f (lf_o (lf_v sf (ha_dd J X) (J (X + 27)) (J (X + 28)) [2, 0, 1] p 0 (-1) (-1)) [2, 0, 1]) (jb_f (lf_o (lf_v sf (ha_dd J X) (J (X + 27)) (J (X + 28)) [1, 2, 0] p 0 (-1) (-1)) [1, 2, 0]) (jb_f (lf_o (lf_v sf (ha_dd J X) (J (X + 27)) (J (X + 28)) [1, 0, 2] p 0 (-1) (-1)) [1, 0, 2]) (jb_f (lf_o (lf_v sf (ha_dd J X) (J (X + 27)) (J (X + 28)) [0, 2, 1] p 0 (-1) (-1)) [0, 2, 1]) (jb_f (lf_o (lf_v sf (ha_dd J X) (J (X + 27)) (J (X + 28)) [0, 1, 2] p 0 (-1) (-1)) [0, 1, 2]) ((-2 : Int), ([] : List Nat)))))))) := fun b c q => lj_step h hH h0 hn hp (m := 36) (ds := [2, 1, 0]) rfl (by decide +kernel) (by decide +kernel) q k5
  have z : ∀ b c, s_lj J M 64 b c → jb_M 3 b c (jb_f (lf_o (lf_v sf (ha_dd J X) (J (X + 27)) (J (X + 28)) [2, 1, 0] p 0 (-1) (-1)) [2, 1, 0]) (jb_f (lf_o (lf_v sf (ha_dd J X) (J (X + 27)) (J (X + 28)) [2, 0, 1] p 0 (-1) (-1)) [2, 0, 1]) (jb_f (lf_o (lf_v sf (ha_dd J X) (J (X + 27)) (J (X + 28)) [1, 2, 0] p 0 (-1) (-1)) [1, 2, 0]) (jb_f (lf_o (lf_v sf (ha_dd J X) (J (X + 27)) (J (X + 28)) [1, 0, 2] p 0 (-1) (-1)) [1, 0, 2]) (jb_f (lf_o (lf_v sf (ha_dd J X) (J (X + 27)) (J (X + 28)) [0, 2, 1] p 0 (-1) (-1)) [0, 2, 1]) (jb_f (lf_o (lf_v sf (ha_dd J X) (J (X + 27)) (J (X + 28)) [0, 1, 2] p 0 (-1) (-1)) [0, 1, 2]) ((-2 : Int), ([] : List Nat)))))))) := jb_M_skip hn (a := 37) (m := 27) (jb_sk (by decide +kernel)) s6
  rw [hL3_]
  simp only [jb_f_app]
  exact z b c hs
/-- the class's best order is the reference's -/
theorem jb_ti2 (h : to_I en X M N O z0 w0 T0 J0 k T J P L z w) (h0 : J (X + 30) 2 = 0) {n : Nat} (hn0 : 0 < n) (hn : J (M + 2) 11 = (n : Int)) (hH : ha_H J X n (cl_cf J X) sf) (hV : ha_V J X n sf) {b c : Int} (hs : s_lj J M 64 b c) : J (X + 160) 6 = b ∧ (b = -2 ∨ 0 ≤ b) ∧ (b ≠ -2 → ∀ i : Nat, i < n → J (X + 163) i = a_io c (i : Int)) := by
  obtain ⟨o, b0, p, hp, e1, e2⟩ := hV
  have hn3 := hH.2.1
  have hg := ha_go_L (sf := sf) (dd := ha_dd J X) (jf := J (X + 27)) (jt := J (X + 28)) hn3 (n + 1) p 0 0 (-1) (-1) [] (o, -2, b0) (-2, []) (Int.le_refl 0) (fun i hi => absurd hi (Nat.not_lt_zero i)) ⟨rfl, fun q => absurd rfl q⟩
  have hg2 := hg.2
  have hM : jb_M n b c (jb_f (ha_L n sf (ha_dd J X) (J (X + 27)) (J (X + 28)) (n + 1) p 0 0 (-1) (-1) []) (-2, [])) := by
    have : n = 1 ∨ n = 2 ∨ n = 3 := by omega
    rcases this with e | e | e <;> subst e
    · exact lj_1 h hH.2.2.1 h0 hn hp hs
    · exact lj_2 h hH.2.2.1 h0 hn hp hs
    · exact lj_3 h hH.2.2.1 h0 hn hp hs
  obtain ⟨g1, g2⟩ := hg2
  obtain ⟨m1, m2, m3⟩ := hM
  refine ⟨?_, ?_, fun q i hi => ?_⟩
  · rw [e1, m1]; exact g1
  · rw [m1]; exact m2
  · have q2 : (jb_f (ha_L n sf (ha_dd J X) (J (X + 27)) (J (X + 28)) (n + 1) p 0 0 (-1) (-1) []) (-2, [])).1 ≠ -2 := fun q3 => q (m1.trans q3)
    rw [e2]
    exact (g2 q2 i hi).trans (m3 q2 i hi).symm
/-- the class was asked for the best order of jobs -/
theorem to_XH {n : Nat} (h : to_I en X M N O z0 w0 T0 J0 k T J P L z w) (hW : cl_W en X N zb wb (cl_cf J X) T' J' P' z' w') (hz : zb ≤ z0 + k) (hw : wb ≤ w0 + 6 * k) (fT : ∀ b, b < N → T' b = T b) (fJ : ∀ b i, b < X + 132 ∨ ((X + 157 ≤ b ∧ b < N) ∧ ¬ (X + 160 ≤ b ∧ b ≤ X + 164)) ∨ (b = X + 132 ∧ i = 13) → J' b i = J b i) (fP : ∀ b i, (X + 165 ≤ b ∧ b < N) → P' b i = P b i)
    (hv : J' (X + 160) 7 = J' (X + 132) 13) (hH : ha_H J X n (cl_cf J X) sf) (hV : ha_V J' X n sf) : to_I en X M N O z0 w0 T0 J0 k T' J' P' L' z' w' := by
  have hen := h.en0
  obtain ⟨⟨-, hM, ht⟩, ⟨hb, hO, hO2⟩, hK, hR, hB, hl⟩ := h
  have hN := hW.1.2.1.1
  have eX : ∀ k, k < 132 → J' (X + k) = J (X + k) := fun k q => funext (fun i => fJ _ _ (by omega))
  have eM : ∀ k, k ≤ 26 → J' (M + k) = J (M + k) := fun k q => funext (fun i => fJ _ _ (by omega))
  have eM0 : J' M = J M := funext (fun i => fJ _ _ (by omega))
  have e13 : J' (X + 132) 13 = J (X + 132) 13 := fJ _ _ (by omega)
  have ecf : cl_cf J' X = cl_cf J X := cl_cf_e (fun b i q => fJ b i (by omega))
  have e157 : J' (X + 157) = J (X + 157) := funext (fun i => fJ _ _ (by omega))
  have e159 : J' (X + 159) = J (X + 159) := funext (fun i => fJ _ _ (by omega))
  refine ⟨⟨⟨zb, wb, by rw [ecf]; exact hW, hz, hw⟩, md_sh_e hM (fun b p q => fT b (by omega)) (fun i => fP M i (by omega)), md_top_e ht eM0 eM⟩, ⟨hb, by rw [fT O (by omega)]; exact hO, hO2⟩, ?_, ?_, ⟨fun q => ?_, fun q => ?_⟩, fun b q => ?_⟩
  · obtain ⟨⟨a1, a2, a3, a4, a5⟩, a6, ⟨a7, a8⟩, a9, a10, a11, a12⟩ := hK
    refine ⟨⟨?_, pl_ok_e a2 (fun b i p q => by
      obtain ⟨j, rfl⟩ : ∃ j, b = X + j := ⟨b - X, by omega⟩
      rw [eX j (by omega)]), ?_, ?_, ?_⟩, ?_, ⟨?_, ?_⟩, ?_, ?_, ?_, ?_⟩
    · rw [eX 1 (by omega), eX 2 (by omega)]; exact a1
    · rw [eX 16 (by omega)]; exact a3
    · unfold re_st at a4 ⊢
      have := a4.1.2
      rw [fT _ (by omega), show J' (en 2) = J (en 2) from funext (fun i => fJ _ _ (by omega))]
      exact a4
    · rw [eX 9 (by omega)]; exact a5
    · unfold cl_os at a6 ⊢
      have := a6.1.2
      rw [fT _ (by omega), show J' (en 3) = J (en 3) from funext (fun i => fJ _ _ (by omega))]
      exact a6
    · unfold lo_ok at a7 ⊢
      rw [eX 33 (by omega), show J' (X + 33 + 1) = J (X + 33 + 1) from eX 34 (by omega)]
      exact a7
    · unfold lo_ok at a8 ⊢
      rw [eX 130 (by omega), show J' (X + 130 + 1) = J (X + 130 + 1) from eX 131 (by omega)]
      exact a8
    · rw [eX 16 (by omega)]; exact a9
    · rw [e13]; exact a10
    · rw [e13, e157]; exact a11
    · rw [hv, e13]; omega
  · exact cl_R_e hR ht.1.hu.2 (funext (fun i => fJ X i (by omega))) eX (fun k _ q => eM k (by omega)) (fun i _ => by rw [eM0])
  · rw [e13, e157] at q
    obtain ⟨n2, d0, dl, a, b, c, d⟩ := hB.1 q
    rw [ecf]
    exact ⟨n2, d0, dl, ro_H_x a eX, b, c, ro_V_e d (by rw [e157]) e159⟩
  · rw [ecf]
    exact ⟨n, sf, ha_H_x hH eX, hV⟩
  · rw [fT b (by omega), funext (fun i => fJ b i (by omega))]
    exact hl b q
theorem jb_sf (h : to_I en X M N O z0 w0 T0 J0 k T J P L z w) {n : Nat} (hn : J (M + 2) 11 = (n : Int)) (hn3 : n ≤ 3) : ∃ sf, ha_H J X n (cl_cf J X) sf ∧ (J (X + 160) 7 = J (X + 132) 13 → ha_V J X n sf) := by
  have hpn : J (X + 29) 10 = J (M + 2) 11 := h.rel.1.1.2.2.2.2
  have hpk := h.pok
  by_cases q : J (X + 160) 7 = J (X + 132) 13
  · obtain ⟨n', sf, h1, h2⟩ := h.2.2.2.2.1.2 q
    have e : n' = n := by have := h1.1; omega
    subst e
    exact ⟨sf, h1, fun _ => h2⟩
  · obtain ⟨sf, h1⟩ := ha_ex (C := cl_cf J X) hpk hpk.1.2 hpk.2.1.2 hpk.2.2.1.2 hpk.2.2.2.1.2 (hpn.trans hn) hn3
    exact ⟨sf, h1, fun q2 => absurd q2 q⟩
theorem jb_0 (hV : ha_V J X 0 sf) : J (X + 160) 6 = 0 := by
  obtain ⟨o, b0, p, -, e1, -⟩ := hV
  rw [e1]
  show (if 0 ≤ (-2 : Int) ∧ (-2 : Int) ≤ 0 then (o, (-2 : Int), b0) else if 0 ≤ 0 then ha_cp (o, (-2 : Int), b0) 0 else _).2.1 = 0
  rw [if_neg (by omega), if_pos (Nat.le_refl 0)]
  rfl
theorem t_jobs (h : to_I en X M N O z0 w0 T0 J0 k T J P L z w) (hk : k ≤ 600) : m_call en 40 mSc_jobs [.ref X] (T, m_I J, P, L, z, w) (to_C en X M N O z0 w0 T0 J0 k mMd_jobs [.ref M]) := by
  obtain ⟨⟨⟨zb, wb, hW, hz, hw⟩, -, -⟩, -⟩ := id h
  have hb11 := h.inv.pl.2.2.2.2.2.2.2.2.1
  obtain ⟨n, hn⟩ := Int.eq_ofNat_of_zero_le hb11.1
  have hn3 : n ≤ 3 := by omega
  obtain ⟨sf, hH, hc⟩ := jb_sf h hn hn3
  obtain ⟨k1, k2, k3⟩ := h.cK.2.2.2.2
  have hd : (31 - n) + n + 9 = 40 := by omega
  rw [← hd]
  refine c_Sc_jobs hW hH ⟨⟨by omega, by omega⟩, ⟨by omega, by omega⟩⟩ hc (fun q => ?_) (fun q T' J' P' L' z' w' hW' hq hv hV => ?_)
  · refine to_mk h (fun K Q eK hK eX hQ => ?_)
    have e32 : K M 32 = J (X + 30) 2 := by
      rw [← eX (X + 30) (by omega)]
      exact (hK.rel.2.1.1.2.2.1.1.trans hK.inv.2.1.1.symm).symm
    exact c_Md_jobs (d := 28) hK.sh eK hK.inv (fun _ => hQ K (md_fy.refl K M) hK.inv.hkp) (fun c => absurd (e32.symm.trans c) q) (fun c => absurd (e32.symm.trans c) q)
  · have h' := to_XH (M := M) (O := O) (L' := L') (n := n) h hW' hz hw hq.1 (fun b i p => hq.2.1 b i (by omega) (by omega)) (fun b i p => hq.2.2.1 b i (by omega)) hv hH hV
    refine to_mk h' (fun K Q eK hK eX hQ => ?_)
    have e : ∀ b, b < X + 132 → K b = J b := fun b p => (eX b (by omega)).trans (funext (fun i => hq.2.1 b i (by omega) (by omega)))
    have e30 : K (X + 30) 2 = 0 := by rw [e _ (by omega)]; exact q
    have e32 : K M 32 = 0 := (hK.rel.2.1.1.2.2.1.1.trans hK.inv.2.1.1.symm).symm.trans e30
    have hnK : K (M + 2) 11 = (n : Int) := by
      rw [← hK.rel.1.1.2.2.2.2, e _ (by omega), h.rel.1.1.2.2.2.2]; exact hn
    have hHK : ha_H K X n (cl_cf K X) sf := by rw [x_cf e]; exact ha_H_x hH (fun k2 p => e _ (by omega))
    have hVK : ha_V K X n sf := ha_V_e hV (fun k2 p => eX _ (by omega)) (by rw [eX _ (by omega)]) (eX _ (by omega))
    rw [← eX (X + 160) (by omega)] at hQ
    refine c_Md_jobs (d := 28) hK.sh eK hK.inv (fun c => absurd e32 c) (fun _ c => ?_) (fun _ c J2 best bc fy hi hs => ?_)
    · have e0 : n = 0 := by omega
      subst e0
      have := jb_0 hVK
      rw [this] at hQ
      exact hQ K (md_fy.refl K M) hK.inv.hkp
    · have ht := jb_ti2 hK e30 (by omega) hnK hHK hVK hs
      rw [ht.1] at hQ
      exact hQ J2 fy hi.hkp
theorem t_job (h : to_I en X M N O z0 w0 T0 J0 k T J P L z w) (hk : k ≤ 600) {x : Int} (hx : m_in x) : m_call en 40 mSc_job [.ref X, .int (m_i x)] (T, m_I J, P, L, z, w) (to_C en X M N O z0 w0 T0 J0 k mMd_job [.ref M, .int (m_i x)]) := by
  obtain ⟨⟨⟨zb, wb, hW, hz, hw⟩, -, -⟩, -⟩ := id h
  have hb11 := h.inv.pl.2.2.2.2.2.2.2.2.1
  obtain ⟨n, hn⟩ := Int.eq_ofNat_of_zero_le hb11.1
  have hn3 : n ≤ 3 := by omega
  have hpn : J (X + 29) 10 = J (M + 2) 11 := h.rel.1.1.2.2.2.2
  obtain ⟨sf, hH, hc⟩ := jb_sf h hn hn3
  obtain ⟨k1, k2, k3⟩ := h.cK.2.2.2.2
  have hd : (31 - n) + n + 9 = 40 := by omega
  rw [← hd]
  refine c_Sc_job hW hx hH ⟨⟨by omega, by omega⟩, ⟨by omega, by omega⟩⟩ hc (fun q => ?_) (fun q q2 => ?_) (fun q q2 T' J' P' L' z' w' hW' hq hv hV => ?_)
  · refine to_mk h (fun K Q eK hK eX hQ => ?_)
    have pp : ¬ (0 ≤ x ∧ x < K (M + 2) 11) := by
      rw [← hK.rel.1.1.2.2.2.2, eX _ (by omega)]; exact q
    exact c_Md_job (d := 28) hK.sh eK hK.inv hx (fun _ => hQ K (md_fy.refl K M) hK.inv.hkp) (fun c => absurd c pp) (fun c => absurd c pp)
  · refine to_mk h (fun K Q eK hK eX hQ => ?_)
    have pp : 0 ≤ x ∧ x < K (M + 2) 11 := by
      rw [← hK.rel.1.1.2.2.2.2, eX _ (by omega)]; exact q
    have e32 : K M 32 = J (X + 30) 2 := by
      rw [← eX (X + 30) (by omega)]
      exact (hK.rel.2.1.1.2.2.1.1.trans hK.inv.2.1.1.symm).symm
    exact c_Md_job (d := 28) hK.sh eK hK.inv hx (fun c => absurd pp c) (fun _ _ => hQ K (md_fy.refl K M) hK.inv.hkp) (fun _ c => absurd (e32.symm.trans c) q2)
  · have h' := to_XH (M := M) (O := O) (L' := L') (n := n) h hW' hz hw hq.1 (fun b i p => hq.2.1 b i (by omega) (by omega)) (fun b i p => hq.2.2.1 b i (by omega)) hv hH hV
    refine to_mk h' (fun K Q eK hK eX hQ => ?_)
    have e : ∀ b, b < X + 132 → K b = J b := fun b p => (eX b (by omega)).trans (funext (fun i => hq.2.1 b i (by omega) (by omega)))
    have pp : 0 ≤ x ∧ x < K (M + 2) 11 := by
      rw [← hK.rel.1.1.2.2.2.2, e _ (by omega)]; exact q
    have e30 : K (X + 30) 2 = 0 := by rw [e _ (by omega)]; exact q2
    have e32 : K M 32 = 0 := (hK.rel.2.1.1.2.2.1.1.trans hK.inv.2.1.1.symm).symm.trans e30
    have hnK : K (M + 2) 11 = (n : Int) := by
      rw [← hK.rel.1.1.2.2.2.2, e _ (by omega), h.rel.1.1.2.2.2.2]; exact hn
    have hHK : ha_H K X n (cl_cf K X) sf := by rw [x_cf e]; exact ha_H_x hH (fun k2 p => e _ (by omega))
    have hVK : ha_V K X n sf := ha_V_e hV (fun k2 p => eX _ (by omega)) (by rw [eX _ (by omega)]) (eX _ (by omega))
    rw [← eX (X + 160) (by omega), ← eX (X + 163) (by omega)] at hQ
    refine c_Md_job (d := 28) hK.sh eK hK.inv hx (fun c => absurd pp c) (fun _ c => absurd e32 c) (fun _ c J2 best bc fy hi hs => ?_)
    have ht := jb_ti2 hK e30 (by omega) hnK hHK hVK hs
    have er : (if K (X + 160) 6 < 0 then -2 else K (X + 163) x.toNat) = (if best = -2 then -2 else a_io bc x) := by
      rw [ht.1]
      by_cases c2 : best = -2
      · rw [if_pos (by omega), if_pos c2]
      · rw [if_neg (by have := ht.2.1; omega), if_neg c2, ht.2.2 c2 x.toNat (by omega), show ((x.toNat : Nat) : Int) = x by omega]
    rw [er] at hQ
    exact hQ J2 fy hi.hkp
end TJB
