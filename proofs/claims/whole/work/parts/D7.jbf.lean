/-! THE TIE: jobs: the class's orders as a list -/
section TJF
variable {en : Nat → Nat} {X M N O z0 w0 : Nat} {T0 : Nat → Option (Nat × Nat)} {J0 : Nat → Nat → Int} {k : Nat} {T T' : Nat → Option (Nat × Nat)} {J J' J1 K : Nat → Nat → Int} {P P' : Nat → Nat → Option Nat} {L L' : Nat → Nat → Int64} {z w z' w' zb wb : Nat} {C : a_C}
theorem a_is_bx4 {σ : a_S} (k1 : C.1 ≤ 16) (k2 : C.2.1 ≤ 6) (k3 : C.2.2.1 ≤ 2) (k4 : C.2.2.2.1 ≤ 4) (h : a_is C σ = true) : a_bx σ := by
  obtain ⟨h1, h2⟩ := a_is_spec h
  obtain ⟨g1, g2, g3, g4, g5, g6⟩ := a_why_0 h1
  have e1 := a_abs_le g2
  have e2 := a_abs_le g4
  have e3 := a_abs_le h2
  exact ⟨by omega, by omega, by omega, by omega, by omega⟩
theorem a_no_inj {σ τ : a_S} (h1 : a_bx σ) (h2 : a_bx τ) (e : a_no σ = a_no τ) : σ = τ := by rw [← a_of_no h1, e, a_of_no h2]
/-- a search ends within as many steps as there are states -/
theorem b_ans_bd {ρ γ : a_S} {r most by_ : Int} (k1 : C.1 ≤ 16) (k2 : C.2.1 ≤ 6) (k3 : C.2.2.1 ≤ 2) (k4 : C.2.2.2.1 ≤ 4) (h : b_ans (w_sd C ρ) (g_E C 0 most by_) γ r) : -2 ≤ r ∧ r ≤ 38880 := by
  rcases h with ⟨t, e, hD, hm⟩ | ⟨e, -⟩
  · obtain ⟨f, f1, f2, f3, f4⟩ := b_short hD hm
    have st : ∀ i, i < t → a_bx (f i) := fun i hi => by
      cases i with
      | zero => rw [f2.2]; exact a_is_bx4 k1 k2 k3 k4 f2.1
      | succ i =>
        obtain ⟨c, c1, c2, c3⟩ := f3 i (by omega)
        rw [c3]
        exact a_is_bx4 k1 k2 k3 k4 c2.2.2
    have hp := b_pig2 (n := t) (N := 38880) (f := fun i => (a_no (f i)).toNat) (fun i j hi hj q => by
      have s1 := a_no_bd (st i hi)
      have s2 := a_no_bd (st j hj)
      have q : (a_no (f i)).toNat = (a_no (f j)).toNat := q
      exact f4 i j hi hj (a_no_inj (st i hi) (st j hj) (by omega))) (fun i hi => by
      have := a_no_bd (st i hi)
      show (a_no (f i)).toNat < 38880
      omega)
    omega
  · omega
theorem cl_fx_u {ρ γ : a_S} {r r' most by_ : Int} (h : cl_fx C by_ most ρ γ r) (h' : cl_fx C by_ most ρ γ r') : r = r' := by
  rcases h with ⟨h1, h2⟩ | ⟨h1, h2⟩ <;> rcases h' with ⟨h1', h2'⟩ | ⟨h1', h2'⟩
  · exact b_ans_u h2 h2'
  · exact absurd h1 h1'
  · exact absurd h1' h1
  · omega
theorem cl_fx_bd {ρ γ : a_S} {r most by_ : Int} (k1 : C.1 ≤ 16) (k2 : C.2.1 ≤ 6) (k3 : C.2.2.1 ≤ 2) (k4 : C.2.2.2.1 ≤ 4) (h : cl_fx C by_ most ρ γ r) : -2 ≤ r ∧ r ≤ 38880 := by
  rcases h with ⟨-, h⟩ | ⟨-, h⟩
  · exact b_ans_bd k1 k2 k3 k4 h
  · omega
theorem ha_so_u {p : Nat → Int} {col dep fr to r r' : Int} (h : ha_so J X C p col dep fr to r) (h' : ha_so J X C p col dep fr to r') : r = r' := by
  rcases h with ⟨h1, h2⟩ | ⟨h1, r1, h2, h3⟩ <;> rcases h' with ⟨h1', h2'⟩ | ⟨h1', r1', h2', h3'⟩
  · omega
  · exact absurd h1' h1
  · exact absurd h1 h1'
  · have e : r1 = r1' := by
      by_cases q : col = -1
      · rw [if_pos q] at h2 h2'
        exact cl_fx_u (most := 4) (by_ := 511) h2 h2'
      · rw [if_neg q] at h2 h2'
        exact cl_fx_u h2 h2'
    subst e
    rcases h3 with ⟨h3, h4⟩ | ⟨h3, r2, h4, h5⟩ <;> rcases h3' with ⟨h3', h4'⟩ | ⟨h3', r2', h4', h5'⟩
    · omega
    · omega
    · omega
    · obtain rfl := cl_fx_u h4 h4'
      omega
theorem ha_so_bd (hp : pl_ok J (X + 17)) (k1 : C.1 ≤ 16) (k2 : C.2.1 ≤ 6) (k3 : C.2.2.1 ≤ 2) (k4 : C.2.2.2.1 ≤ 4) {p : Nat → Int} {col dep fr to r : Int} (h : ha_so J X C p col dep fr to r) : -2 ≤ r ∧ r < 200000 := by
  obtain ⟨q1, q2, q3, q4, -⟩ := hp
  rcases h with ⟨-, h⟩ | ⟨-, r1, h2, h3⟩
  · omega
  · have b1 : -2 ≤ r1 ∧ r1 ≤ 38880 := by
      by_cases q : col = -1
      · rw [if_pos q] at h2
        exact cl_fx_bd (most := 4) (by_ := 511) k1 k2 k3 k4 h2
      · rw [if_neg q] at h2
        exact cl_fx_bd q1.2 q2.2 q3.2 q4.2 h2
    rcases h3 with ⟨-, h3⟩ | ⟨-, r2, h4, h5⟩
    · omega
    · have b2 := cl_fx_bd (C := pl_cf J (X + 17) (fun i => if i = fr.toNat then p i - 1 else p i) 1) q1.2 q2.2 q3.2 q4.2 h4
      split at h5 <;> omega
/-- the answers of carries, as a function -/
theorem ha_ex (hp : pl_ok J (X + 17)) (k1 : C.1 ≤ 16) (k2 : C.2.1 ≤ 6) (k3 : C.2.2.1 ≤ 2) (k4 : C.2.2.2.1 ≤ 4) {n : Nat} (hn : J (X + 29) 10 = (n : Int)) (hn3 : n ≤ 3) : ∃ sf, ha_H J X n C sf := by
  have key : ∀ (p : Nat → Int) (col dep fr to : Int), ∃ r, (∀ r', ha_so J X C p col dep fr to r' → r' = r) ∧ r < 200000 := fun p col dep fr to => by
    by_cases q : ∃ r, ha_so J X C p col dep fr to r
    · obtain ⟨r, hr⟩ := q
      exact ⟨r, fun r' h' => ha_so_u h' hr, (ha_so_bd hp k1 k2 k3 k4 hr).2⟩
    · exact ⟨-2, fun r' h' => absurd ⟨r', h'⟩ q, by omega⟩
  refine ⟨fun p col dep fr to => Classical.choose (key p col dep fr to), hn, hn3, fun p col dep fr to r h => ?_, fun p col dep fr to => ?_⟩
  · exact (Classical.choose_spec (key p col dep fr to)).1 r h
  · exact (Classical.choose_spec (key p col dep fr to)).2
end TJF
/-- the better of two orders: the first, unless the second is better -/
def jb_u (b v : Int × List Nat) : Int × List Nat := if 0 ≤ b.1 ∧ b.1 ≤ v.1 then b else v
def jb_f : List (Int × List Nat) → Int × List Nat → Int × List Nat
  | [], b => b
  | v :: l, b => jb_f l (jb_u b v)
/-- the orders that the class tries, with their steps -/
def ha_LL (rec : (Nat → Int) → Int → Int → Int → Int → List Nat → List (Int × List Nat)) (sf : (Nat → Int) → Int → Int → Int → Int → Int) (dd : (Nat → Int) → Int → Int) (jf jt p : Nat → Int) (fin st col dep : Int) (ds : List Nat) : Nat → List (Int × List Nat)
  | 0 => []
  | k + 1 => ha_LL rec sf dd jf jt p fin st col dep ds k ++ (if 0 ≤ ha_mo sf jf jt p fin col dep k then rec (ha_mv p (jf k) (jt k)) (a_set fin (k : Int)) (st + ha_mo sf jf jt p fin col dep k) (jt k) (dd p (jt k)) (ds ++ [k]) else [])
def ha_L (n : Nat) (sf : (Nat → Int) → Int → Int → Int → Int → Int) (dd : (Nat → Int) → Int → Int) (jf jt : Nat → Int) : Nat → (Nat → Int) → Int → Int → Int → Int → List Nat → List (Int × List Nat)
  | 0, _, _, _, _, _, _ => []
  | f + 1, p, fin, st, col, dep, ds => if n ≤ ds.length then [(st, ds)] else ha_LL (ha_L n sf dd jf jt f) sf dd jf jt p fin st col dep ds n
/-- what the class holds of the best order -/
def jb_R (n : Nat) (s : ro_T) (b : Int × List Nat) : Prop := s.2.1 = b.1 ∧ (b.1 ≠ -2 → ∀ i : Nat, i < n → s.2.2 i = ((b.2.getD i 0 : Nat) : Int))
section TJG
variable {n : Nat} {sf : (Nat → Int) → Int → Int → Int → Int → Int} {dd : (Nat → Int) → Int → Int} {jf jt : Nat → Int}
theorem jb_f_app : ∀ (l l' : List (Int × List Nat)) (b : Int × List Nat), jb_f (l ++ l') b = jb_f l' (jb_f l b)
  | [], _, _ => rfl
  | v :: l, l', b => by
    show jb_f (l ++ l') (jb_u b v) = jb_f l' (jb_f l (jb_u b v))
    exact jb_f_app l l' (jb_u b v)
theorem jb_f_id : ∀ (l : List (Int × List Nat)) (b : Int × List Nat), 0 ≤ b.1 → (∀ v ∈ l, b.1 ≤ v.1) → jb_f l b = b
  | [], _, _, _ => rfl
  | v :: l, b, h0, h => by
    have e : jb_u b v = b := if_pos ⟨h0, h v List.mem_cons_self⟩
    show jb_f l (jb_u b v) = b
    rw [e]
    exact jb_f_id l b h0 (fun u hu => h u (List.mem_cons_of_mem _ hu))
theorem ha_L_ge : ∀ (f : Nat) (p : Nat → Int) (fin st col dep : Int) (ds : List Nat), ∀ v ∈ ha_L n sf dd jf jt f p fin st col dep ds, st ≤ v.1 := by
  intro f
  induction f with
  | zero => intro p fin st col dep ds v hv; exact absurd hv List.not_mem_nil
  | succ f ih =>
    intro p fin st col dep ds v hv
    unfold ha_L at hv
    by_cases c : n ≤ ds.length
    · rw [if_pos c] at hv
      rw [List.mem_singleton.mp hv]
      exact Int.le_refl st
    · rw [if_neg c] at hv
      have key : ∀ m, ∀ v ∈ ha_LL (ha_L n sf dd jf jt f) sf dd jf jt p fin st col dep ds m, st ≤ v.1 := by
        intro m
        induction m with
        | zero => intro v hv; exact absurd hv List.not_mem_nil
        | succ m ihm =>
          intro v hv
          unfold ha_LL at hv
          rcases List.mem_append.mp hv with hv | hv
          · exact ihm v hv
          · by_cases c2 : 0 ≤ ha_mo sf jf jt p fin col dep m
            · rw [if_pos c2] at hv
              have := ih _ _ _ _ _ _ v hv
              omega
            · rw [if_neg c2] at hv
              exact absurd hv List.not_mem_nil
      exact key n v hv
theorem getD_app {ds : List Nat} {k i : Nat} (hi : i ≤ ds.length) : (ds ++ [k]).getD i 0 = if i = ds.length then k else ds.getD i 0 := by
  rw [List.getD_eq_getElem?_getD, List.getD_eq_getElem?_getD]
  by_cases c : i = ds.length
  · rw [if_pos c, c, List.getElem?_append_right (Nat.le_refl _), Nat.sub_self]
    rfl
  · rw [if_neg c, List.getElem?_append_left (by omega)]
/-- the class's search by orders is the list's best -/
theorem ha_go_L (hn : n ≤ 3) : ∀ (f : Nat) (p : Nat → Int) (fin st col dep : Int) (ds : List Nat) (s : ro_T) (b : Int × List Nat), 0 ≤ st → (∀ i : Nat, i < ds.length → s.1 i = ((ds.getD i 0 : Nat) : Int)) → jb_R n s b →
    (∀ i : Nat, i < ds.length → (ha_go n sf dd jf jt f ds.length p fin st col dep s).1 i = s.1 i) ∧ jb_R n (ha_go n sf dd jf jt f ds.length p fin st col dep s) (jb_f (ha_L n sf dd jf jt f p fin st col dep ds) b) := by
  intro f
  induction f with
  | zero => intro p fin st col dep ds s b _ _ hb; exact ⟨fun _ _ => rfl, hb⟩
  | succ f ih =>
    intro p fin st col dep ds s b h0 hd hb
    have hge := ha_L_ge (n := n) (sf := sf) (dd := dd) (jf := jf) (jt := jt) (f + 1) p fin st col dep ds
    by_cases c1 : 0 ≤ s.2.1 ∧ s.2.1 ≤ st
    · have e : ha_go n sf dd jf jt (f + 1) ds.length p fin st col dep s = s := if_pos c1
      rw [e, jb_f_id _ b (by rw [← hb.1]; exact c1.1) (fun v hv => by rw [← hb.1]; exact Int.le_trans c1.2 (hge v hv))]
      exact ⟨fun _ _ => rfl, hb⟩
    · by_cases c2 : n ≤ ds.length
      · have e : ha_go n sf dd jf jt (f + 1) ds.length p fin st col dep s = ha_cp s st := by
          show (if 0 ≤ s.2.1 ∧ s.2.1 ≤ st then s else if n ≤ ds.length then ha_cp s st else _) = _
          rw [if_neg c1, if_pos c2]
        have e2 : ha_L n sf dd jf jt (f + 1) p fin st col dep ds = [(st, ds)] := if_pos c2
        rw [e, e2]
        have e3 : jb_f [(st, ds)] b = (st, ds) := by
          show jb_u b (st, ds) = (st, ds)
          unfold jb_u
          rw [← hb.1, if_neg c1]
        rw [e3]
        refine ⟨fun _ _ => rfl, rfl, fun _ i hi => ?_⟩
        show (if i < 3 then s.1 i else s.2.2 i) = _
        rw [if_pos (by omega)]
        exact hd i (by omega)
      · have e : ha_go n sf dd jf jt (f + 1) ds.length p fin st col dep s = ha_lp (ha_go n sf dd jf jt f (ds.length + 1)) sf dd jf jt p ds.length fin st col dep n s := by
          show (if 0 ≤ s.2.1 ∧ s.2.1 ≤ st then s else if n ≤ ds.length then ha_cp s st else _) = _
          rw [if_neg c1, if_neg c2]
        have e2 : ha_L n sf dd jf jt (f + 1) p fin st col dep ds = ha_LL (ha_L n sf dd jf jt f) sf dd jf jt p fin st col dep ds n := if_neg c2
        rw [e, e2]
        have key : ∀ m, (∀ i : Nat, i < ds.length → (ha_lp (ha_go n sf dd jf jt f (ds.length + 1)) sf dd jf jt p ds.length fin st col dep m s).1 i = s.1 i) ∧ jb_R n (ha_lp (ha_go n sf dd jf jt f (ds.length + 1)) sf dd jf jt p ds.length fin st col dep m s) (jb_f (ha_LL (ha_L n sf dd jf jt f) sf dd jf jt p fin st col dep ds m) b) := by
          intro m
          induction m with
          | zero => exact ⟨fun _ _ => rfl, hb⟩
          | succ m ihm =>
            obtain ⟨i1, i2⟩ := ihm
            unfold ha_LL ha_lp
            rw [jb_f_app]
            by_cases c3 : 0 ≤ ha_mo sf jf jt p fin col dep m
            · rw [if_pos c3, if_pos c3]
              have hl : (ds ++ [m]).length = ds.length + 1 := by rw [List.length_append]; rfl
              have hr := ih (ha_mv p (jf m) (jt m)) (a_set fin (m : Int)) (st + ha_mo sf jf jt p fin col dep m) (jt m) (dd p (jt m)) (ds ++ [m]) ((fun i => if i = ds.length then (m : Int) else (ha_lp (ha_go n sf dd jf jt f (ds.length + 1)) sf dd jf jt p ds.length fin st col dep m s).1 i), (ha_lp (ha_go n sf dd jf jt f (ds.length + 1)) sf dd jf jt p ds.length fin st col dep m s).2) (jb_f (ha_LL (ha_L n sf dd jf jt f) sf dd jf jt p fin st col dep ds m) b) (by omega) (fun i hi => by
                rw [hl] at hi
                rw [getD_app (by omega)]
                show (if i = ds.length then (m : Int) else _) = _
                by_cases q : i = ds.length
                · rw [if_pos q, if_pos q]
                · rw [if_neg q, if_neg q, i1 i (by omega)]
                  exact hd i (by omega)) i2
              rw [hl] at hr
              refine ⟨fun i hi => ?_, hr.2⟩
              rw [hr.1 i (by omega)]
              show (if i = ds.length then (m : Int) else _) = _
              rw [if_neg (by omega)]
              exact i1 i hi
            · rw [if_neg c3, if_neg c3]
              exact ⟨i1, i2⟩
        exact key n
end TJG
