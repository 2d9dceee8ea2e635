/-! THE TIE: tours: the class's orders as a list -/
/-- the steps to the next spot -/
def ro_leg (d0 : Nat → Int) (dl : Nat → Nat → Int) (ds : List Nat) (k : Nat) : Int := if ds.length < 1 then d0 k else dl (ds.getD (ds.length - 1) 0) k
def ro_LL (rec : Int → Int → List Nat → List (Int × List Nat)) (d0 : Nat → Int) (dl : Nat → Nat → Int) (vis st : Int) (ds : List Nat) : Nat → List (Int × List Nat)
  | 0 => []
  | k + 1 => ro_LL rec d0 dl vis st ds k ++ (if a_bit vis (k : Int) ≠ 0 then [] else if 0 ≤ ro_leg d0 dl ds k then rec (a_set vis (k : Int)) (st + ro_leg d0 dl ds k) (ds ++ [k]) else [])
def ro_L (n : Nat) (d0 : Nat → Int) (dl : Nat → Nat → Int) : Nat → Int → Int → List Nat → List (Int × List Nat)
  | 0, _, _, _ => []
  | f + 1, vis, st, ds => if n ≤ ds.length then [(st, ds)] else ro_LL (ro_L n d0 dl f) d0 dl vis st ds n
section TRL
variable {n : Nat} {d0 : Nat → Int} {dl : Nat → Nat → Int}
theorem ro_L_ge : ∀ (f : Nat) (vis st : Int) (ds : List Nat), ∀ v ∈ ro_L n d0 dl f vis st ds, st ≤ v.1 := by
  intro f
  induction f with
  | zero => intro vis st ds v hv; exact absurd hv List.not_mem_nil
  | succ f ih =>
    intro vis st ds v hv
    unfold ro_L at hv
    by_cases c : n ≤ ds.length
    · rw [if_pos c] at hv
      rw [List.mem_singleton.mp hv]
      exact Int.le_refl st
    · rw [if_neg c] at hv
      have key : ∀ m, ∀ v ∈ ro_LL (ro_L n d0 dl f) d0 dl vis st ds m, st ≤ v.1 := by
        intro m
        induction m with
        | zero => intro v hv; exact absurd hv List.not_mem_nil
        | succ m ihm =>
          intro v hv
          unfold ro_LL at hv
          rcases List.mem_append.mp hv with hv | hv
          · exact ihm v hv
          · by_cases c1 : a_bit vis (m : Int) ≠ 0
            · rw [if_pos c1] at hv
              exact absurd hv List.not_mem_nil
            · rw [if_neg c1] at hv
              by_cases c2 : 0 ≤ ro_leg d0 dl ds m
              · rw [if_pos c2] at hv
                have := ih _ _ _ v hv
                omega
              · rw [if_neg c2] at hv
                exact absurd hv List.not_mem_nil
      exact key n v hv
/-- the class's search by orders of spots is the list's best -/
theorem ro_go_L (hn : n ≤ 6) : ∀ (f : Nat) (vis st : Int) (ds : List Nat) (s : ro_T) (b : Int × List Nat), 0 ≤ st → (∀ i : Nat, i < ds.length → s.1 i = ((ds.getD i 0 : Nat) : Int)) → jb_R n s b →
    (∀ i : Nat, i < ds.length → (ro_go n d0 dl f ds.length vis st s).1 i = s.1 i) ∧ jb_R n (ro_go n d0 dl f ds.length vis st s) (jb_f (ro_L n d0 dl f vis st ds) b) := by
  intro f
  induction f with
  | zero => intro vis st ds s b _ _ hb; exact ⟨fun _ _ => rfl, hb⟩
  | succ f ih =>
    intro vis st ds s b h0 hd hb
    have hge := ro_L_ge (n := n) (d0 := d0) (dl := dl) (f + 1) vis st ds
    by_cases c1 : 0 ≤ s.2.1 ∧ s.2.1 ≤ st
    · have e : ro_go n d0 dl (f + 1) ds.length vis st s = s := if_pos c1
      rw [e, jb_f_id _ b (by rw [← hb.1]; exact c1.1) (fun v hv => by rw [← hb.1]; exact Int.le_trans c1.2 (hge v hv))]
      exact ⟨fun _ _ => rfl, hb⟩
    · by_cases c2 : n ≤ ds.length
      · have e : ro_go n d0 dl (f + 1) ds.length vis st s = ro_cp s st := by
          show (if 0 ≤ s.2.1 ∧ s.2.1 ≤ st then s else if n ≤ ds.length then ro_cp s st else _) = _
          rw [if_neg c1, if_pos c2]
        have e2 : ro_L n d0 dl (f + 1) vis st ds = [(st, ds)] := if_pos c2
        rw [e, e2]
        have e3 : jb_f [(st, ds)] b = (st, ds) := by
          show jb_u b (st, ds) = (st, ds)
          unfold jb_u
          rw [← hb.1, if_neg c1]
        rw [e3]
        refine ⟨fun _ _ => rfl, rfl, fun _ i hi => ?_⟩
        show (if i < 6 then s.1 i else s.2.2 i) = _
        rw [if_pos (by omega)]
        exact hd i (by omega)
      · have e : ro_go n d0 dl (f + 1) ds.length vis st s = ro_lp (ro_go n d0 dl f (ds.length + 1)) d0 dl ds.length vis st n s := by
          show (if 0 ≤ s.2.1 ∧ s.2.1 ≤ st then s else if n ≤ ds.length then ro_cp s st else _) = _
          rw [if_neg c1, if_neg c2]
        have e2 : ro_L n d0 dl (f + 1) vis st ds = ro_LL (ro_L n d0 dl f) d0 dl vis st ds n := if_neg c2
        rw [e, e2]
        have key : ∀ m, (∀ i : Nat, i < ds.length → (ro_lp (ro_go n d0 dl f (ds.length + 1)) d0 dl ds.length vis st m s).1 i = s.1 i) ∧ jb_R n (ro_lp (ro_go n d0 dl f (ds.length + 1)) d0 dl ds.length vis st m s) (jb_f (ro_LL (ro_L n d0 dl f) d0 dl vis st ds m) b) := by
          intro m
          induction m with
          | zero => exact ⟨fun _ _ => rfl, hb⟩
          | succ m ihm =>
            obtain ⟨i1, i2⟩ := ihm
            have el : (if ds.length < 1 then d0 m else dl ((ro_lp (ro_go n d0 dl f (ds.length + 1)) d0 dl ds.length vis st m s).1 (ds.length - 1)).toNat m) = ro_leg d0 dl ds m := by
              unfold ro_leg
              by_cases q : ds.length < 1
              · rw [if_pos q, if_pos q]
              · rw [if_neg q, if_neg q, i1 _ (by omega), hd _ (by omega), Int.toNat_natCast]
            unfold ro_LL ro_lp
            rw [jb_f_app, el]
            by_cases cb : a_bit vis (m : Int) ≠ 0
            · rw [if_pos cb, if_pos cb]
              exact ⟨i1, i2⟩
            · rw [if_neg cb, if_neg cb]
              by_cases c3 : 0 ≤ ro_leg d0 dl ds m
              · rw [if_pos c3, if_pos c3]
                have hl : (ds ++ [m]).length = ds.length + 1 := by rw [List.length_append]; rfl
                have hr := ih (a_set vis (m : Int)) (st + ro_leg d0 dl ds m) (ds ++ [m]) ((fun i => if i = ds.length then (m : Int) else (ro_lp (ro_go n d0 dl f (ds.length + 1)) d0 dl ds.length vis st m s).1 i), (ro_lp (ro_go n d0 dl f (ds.length + 1)) d0 dl ds.length vis st m s).2) (jb_f (ro_LL (ro_L n d0 dl f) d0 dl vis st ds m) b) (by omega) (fun i hi => by
                  rw [hl] at hi
                  rw [getD_app (by omega)]
                  show (if i = ds.length then (m : Int) else _) = _
                  by_cases q : i = ds.length
                  · rw [if_pos q, if_pos q]
                  · rw [if_neg q, if_neg q, i1 i (by omega)]
                    exact hd i (by omega)) i2
                rw [hl] at hr
                refine ⟨fun i hi => ?_, hr.2⟩
                rw [hr.1 i (by omega)]
                show (if i = ds.length then (m : Int) else _) = _
                rw [if_neg (by omega)]
                exact i1 i hi
              · rw [if_neg c3, if_neg c3]
                exact ⟨i1, i2⟩
        exact key n
end TRL
section TRM
variable {en : Nat → Nat} {X M N O z0 w0 : Nat} {T0 : Nat → Option (Nat × Nat)} {J0 : Nat → Nat → Int} {k : Nat} {T T' : Nat → Option (Nat × Nat)} {J J' J1 K : Nat → Nat → Int} {P P' : Nat → Nat → Option Nat} {L L' : Nat → Nat → Int64} {z w z' w' zb wb : Nat} {C : a_C}
theorem cl_leg_u {f t : Nat} {r r' : Int} (h : cl_leg J X C f t r) (h' : cl_leg J X C f t r') : r = r' := by
  unfold cl_leg at h h'
  split at h
  · rename_i q
    rw [if_pos q] at h'
    exact b_ans_u h h'
  · rename_i q
    rw [if_neg q] at h'
    omega
theorem cl_leg_bd (k1 : C.1 ≤ 16) (k2 : C.2.1 ≤ 6) (k3 : C.2.2.1 ≤ 2) (k4 : C.2.2.2.1 ≤ 4) {f t : Nat} {r : Int} (h : cl_leg J X C f t r) : -2 ≤ r ∧ r < 100000 := by
  unfold cl_leg at h
  split at h
  · have := b_ans_bd k1 k2 k3 k4 h
    omega
  · omega
theorem ro_ex (k1 : C.1 ≤ 16) (k2 : C.2.1 ≤ 6) (k3 : C.2.2.1 ≤ 2) (k4 : C.2.2.2.1 ≤ 4) {n : Nat} (hn : J (X + 29) 5 = (n : Int)) (hn6 : n ≤ 6) : ∃ d0 dl, ro_H J X n C d0 dl ∧ (∀ k, d0 k < 100000) ∧ ∀ f t, dl f t < 100000 := by
  have key0 : ∀ k : Nat, ∃ r, (∀ r', cl_fw C (po_get J (X + 31)) (cl_spt J X k) r' → r' = r) ∧ r < 100000 := fun k => by
    by_cases q : ∃ r, cl_fw C (po_get J (X + 31)) (cl_spt J X k) r
    · obtain ⟨r, hr⟩ := q
      have hb := cl_fx_bd (most := 4) (by_ := 511) k1 k2 k3 k4 hr
      exact ⟨r, fun r' h' => cl_fx_u (most := 4) (by_ := 511) h' hr, by omega⟩
    · exact ⟨-2, fun r' h' => absurd ⟨r', h'⟩ q, by omega⟩
  have key1 : ∀ f t : Nat, ∃ r, (∀ r', cl_leg J X C f t r' → r' = r) ∧ -2 ≤ r ∧ r < 100000 := fun f t => by
    by_cases q : ∃ r, cl_leg J X C f t r
    · obtain ⟨r, hr⟩ := q
      exact ⟨r, fun r' h' => cl_leg_u h' hr, cl_leg_bd k1 k2 k3 k4 hr⟩
    · exact ⟨-2, fun r' h' => absurd ⟨r', h'⟩ q, by omega, by omega⟩
  refine ⟨fun k => Classical.choose (key0 k), fun f t => Classical.choose (key1 f t), ⟨hn, hn6, fun k _ => Classical.choose_spec (key0 k), fun f t _ _ => Classical.choose_spec (key1 f t)⟩, fun k => (Classical.choose_spec (key0 k)).2, fun f t => (Classical.choose_spec (key1 f t)).2.2⟩
end TRM
