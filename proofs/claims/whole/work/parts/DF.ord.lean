/-! THE TIE: tours: the class's orders and the reference's table of what is left -/
section TOD
variable {n : Nat} {d0 : Nat → Int} {dl : Nat → Nat → Int} {tb lf : Nat → Int}
def ro_la (ds : List Nat) : Int := if ds.length < 1 then 6 else ((ds.getD (ds.length - 1) 0 : Nat) : Int)
/-- the reference's table tells the class's legs -/
def ro_T2 (n : Nat) (d0 : Nat → Int) (dl : Nat → Nat → Int) (tb : Nat → Int) : Prop := (∀ t : Nat, t < n → tb (36 + t) = (if d0 t < 0 then 30000 else d0 t) ∧ d0 t < 30000) ∧ ∀ f t : Nat, f < n → t < n → tb (6 * f + t) = (if dl f t < 0 then 30000 else dl f t) ∧ dl f t < 30000
def ro_I (n : Nat) (vis : Int) (ds : List Nat) : Prop := (0 ≤ vis ∧ vis ≤ a_fu (n : Int)) ∧ a_pc vis = (ds.length : Int) ∧ ds.length ≤ n ∧ ∀ k ∈ ds, k < n
theorem ro_pf : ∀ n : Nat, n < 7 → ∀ b : Nat, b < 64 → (b : Int) ≤ a_fu (n : Int) → ((b : Int) = a_fu (n : Int) ↔ a_pc (b : Int) = (n : Int)) := by decide +kernel
theorem ro_full (hn : n ≤ 6) {vis : Int} {ds : List Nat} (h : ro_I n vis ds) : vis = a_fu (n : Int) ↔ n ≤ ds.length := by
  obtain ⟨⟨h0, h1⟩, h2, h3, -⟩ := h
  have hf := (a_fu_b (n := (n : Int)) (by omega)).1
  obtain ⟨b, rfl⟩ : ∃ b : Nat, vis = b := ⟨vis.toNat, by omega⟩
  rw [ro_pf n (by omega) b (by omega) h1]
  omega
theorem ro_la_b (hn : n ≤ 6) {vis : Int} {ds : List Nat} (h : ro_I n vis ds) : (0 ≤ ro_la ds ∧ ro_la ds < (n : Int)) ∨ ro_la ds = 6 := by
  unfold ro_la
  by_cases c : ds.length < 1
  · rw [if_pos c]; exact Or.inr rfl
  · rw [if_neg c]
    have : ds.getD (ds.length - 1) 0 ∈ ds := by
      rw [List.getD_eq_getElem?_getD, List.getElem?_eq_getElem (by omega)]
      exact List.getElem_mem _
    have := h.2.2.2 _ this
    omega
theorem ro_I_s (hn : n ≤ 6) {vis : Int} {ds : List Nat} (h : ro_I n vis ds) {k : Nat} (hk : k < n) (hb : a_bit vis (k : Int) ≠ 1) : ro_I n (a_set vis (k : Int)) (ds ++ [k]) := by
  have h' := h
  obtain ⟨⟨h0, h1⟩, h2, h3, h4⟩ := h
  have hf := a_fu_b (n := (n : Int)) (by omega)
  have hb2 := a_bs (b := vis) (t := (k : Int)) (by omega) (by omega)
  refine ⟨⟨hb2.2.1, hf.2 _ _ h0 h1 (by omega) (by omega)⟩, ?_, ?_, fun x hx => ?_⟩
  · rw [a_pc_s (by omega) (by omega) hb, h2, List.length_append]
    simp
  · have := (ro_full hn h').mpr
    have hne : vis ≠ a_fu (n : Int) := fun q => by
      have := hb2.2.2.2 hb
      have := hf.2 vis (k : Int) h0 h1 (by omega) (by omega)
      omega
    rw [List.length_append]
    simp only [List.length_cons, List.length_nil]
    by_cases c : n ≤ ds.length
    · exact absurd (this c) hne
    · omega
  · rcases List.mem_append.mp hx with q | q
    · exact h4 x q
    · rw [List.mem_singleton.mp q]; exact hk
theorem ro_la_s {ds : List Nat} {k : Nat} : ro_la (ds ++ [k]) = (k : Int) := by
  unfold ro_la
  rw [if_neg (by simp)]
  simp
theorem ro_bit (hn : n ≤ 6) {vis : Int} {ds : List Nat} (h : ro_I n vis ds) {k : Nat} (hk : k < n) : a_bit vis (k : Int) = 0 ∨ a_bit vis (k : Int) = 1 := by
  have hf := (a_fu_b (n := (n : Int)) (by omega)).1
  have h1 := h.1
  exact (a_bs (by omega) (by omega)).1
/-- what the table tells of a leg -/
theorem ro_tb (hn : n ≤ 6) (ht : ro_T2 n d0 dl tb) {vis : Int} {ds : List Nat} (h : ro_I n vis ds) {k : Nat} (hk : k < n) : tb (6 * ro_la ds + (k : Int)).toNat = (if ro_leg d0 dl ds k < 0 then 30000 else ro_leg d0 dl ds k) ∧ ro_leg d0 dl ds k < 30000 := by
  unfold ro_la ro_leg
  by_cases c : ds.length < 1
  · rw [if_pos c, if_pos c]
    have := ht.1 k hk
    rw [show (6 * (6 : Int) + (k : Int)).toNat = 36 + k by omega]
    exact this
  · rw [if_neg c, if_neg c]
    have hm : ds.getD (ds.length - 1) 0 ∈ ds := by
      rw [List.getD_eq_getElem?_getD, List.getElem?_eq_getElem (by omega)]
      exact List.getElem_mem _
    have := ht.2 _ k (h.2.2.2 _ hm) hk
    rw [show (6 * ((ds.getD (ds.length - 1) 0 : Nat) : Int) + (k : Int)).toNat = 6 * ds.getD (ds.length - 1) 0 + k by omega]
    exact this
theorem ro_LL_m {rec : Int → Int → List Nat → List (Int × List Nat)} {vis st : Int} {ds : List Nat} {v : Int × List Nat} : ∀ m : Nat, v ∈ ro_LL rec d0 dl vis st ds m ↔ ∃ k, k < m ∧ a_bit vis (k : Int) = 0 ∧ 0 ≤ ro_leg d0 dl ds k ∧ v ∈ rec (a_set vis (k : Int)) (st + ro_leg d0 dl ds k) (ds ++ [k]) := by
  intro m
  induction m with
  | zero => exact ⟨fun h => absurd h List.not_mem_nil, fun ⟨k, hk, _⟩ => absurd hk (Nat.not_lt_zero k)⟩
  | succ m ih =>
    unfold ro_LL
    rw [List.mem_append, ih]
    constructor
    · rintro (⟨k, h1, h2⟩ | h)
      · exact ⟨k, by omega, h2⟩
      · by_cases c1 : a_bit vis (m : Int) ≠ 0
        · rw [if_pos c1] at h; exact absurd h List.not_mem_nil
        · rw [if_neg c1] at h
          by_cases c2 : 0 ≤ ro_leg d0 dl ds m
          · rw [if_pos c2] at h
            exact ⟨m, by omega, Decidable.not_not.mp c1, c2, h⟩
          · rw [if_neg c2] at h; exact absurd h List.not_mem_nil
    · rintro ⟨k, h1, h2, h3, h4⟩
      by_cases c : k < m
      · exact Or.inl ⟨k, c, h2, h3, h4⟩
      · obtain rfl : k = m := by omega
        refine Or.inr ?_
        rw [if_neg (by rw [h2]; simp), if_pos h3]
        exact h4
theorem a_lm_le {b f : Int} : ∀ m : Nat, ∀ k : Nat, k < m → a_bit b (k : Int) ≠ 1 → a_lm tb lf b f m ≤ tb (6 * f + (k : Int)).toNat + lf (7 * a_set b (k : Int) + (k : Int)).toNat := by
  intro m
  induction m with
  | zero => intro k hk; omega
  | succ m ih =>
    intro k hk hb
    unfold a_lm
    by_cases c : k < m
    · have h := ih k c hb
      by_cases q : a_bit b (m : Int) = 1
      · rw [if_pos q]; exact h
      · rw [if_neg q]
        unfold a_mn
        split <;> omega
    · obtain rfl : k = m := by omega
      rw [if_neg hb]
      unfold a_mn
      split <;> omega
/-- what is left, of a set that isn't all -/
theorem ro_lf (hn : n ≤ 6) (hl : s_lf (n : Int) tb lf (-1) 0) {vis : Int} {ds : List Nat} (h : ro_I n vis ds) : (n ≤ ds.length → lf (7 * vis + ro_la ds).toNat = 0) ∧ (¬ n ≤ ds.length → lf (7 * vis + ro_la ds).toNat = a_lm tb lf vis (ro_la ds) n) ∧ 0 ≤ lf (7 * vis + ro_la ds).toNat := by
  have hb := ro_la_b hn h
  have h1 := h.1
  obtain ⟨e, e2, -⟩ := hl vis (ro_la ds) (Or.inl ⟨by omega, h1.2, by omega, by omega⟩)
  refine ⟨fun q => ?_, fun q => ?_, e2⟩
  · rw [e]
    unfold a_ll
    rw [if_pos ((ro_full hn h).mpr q)]
  · rw [e]
    unfold a_ll
    rw [if_neg (fun c => q ((ro_full hn h).mp c)), if_pos (by omega), show ((n : Int)).toNat = n by omega]
/-- no order is better than what the table says -/
theorem ro_low (hn : n ≤ 6) (hl : s_lf (n : Int) tb lf (-1) 0) (ht : ro_T2 n d0 dl tb) : ∀ (f : Nat) (vis st : Int) (ds : List Nat), ro_I n vis ds → ∀ v ∈ ro_L n d0 dl f vis st ds, st + lf (7 * vis + ro_la ds).toNat ≤ v.1 := by
  intro f
  induction f with
  | zero => intro vis st ds _ v hv; exact absurd hv List.not_mem_nil
  | succ f ih =>
    intro vis st ds hI v hv
    obtain ⟨k1, k2, -⟩ := ro_lf hn hl hI
    unfold ro_L at hv
    by_cases c : n ≤ ds.length
    · rw [if_pos c] at hv
      rw [List.mem_singleton.mp hv, k1 c]
      show st + 0 ≤ st
      omega
    · rw [if_neg c] at hv
      obtain ⟨k, h1, h2, h3, h4⟩ := (ro_LL_m n).mp hv
      have hb : a_bit vis (k : Int) ≠ 1 := by rw [h2]; decide
      have g := ih _ _ _ (ro_I_s hn hI h1 hb) v h4
      rw [ro_la_s] at g
      have g2 := a_lm_le (tb := tb) (lf := lf) (b := vis) (f := ro_la ds) n k h1 hb
      have g3 := (ro_tb hn ht hI h1).1
      rw [if_neg (by omega)] at g3
      rw [k2 c]
      omega
def ro_bad (b : Int × List Nat) (V : Int) : Prop := b.1 = -2 ∨ V < b.1
theorem jb_f_bad {V : Int} (hV : 0 ≤ V) : ∀ (l : List (Int × List Nat)) (b : Int × List Nat), ro_bad b V → (∀ v ∈ l, V < v.1) → ro_bad (jb_f l b) V
  | [], _, h, _ => h
  | v :: l, b, h, hv => by
    show ro_bad (jb_f l (jb_u b v)) V
    refine jb_f_bad hV l _ ?_ (fun u hu => hv u (List.mem_cons_of_mem _ hu))
    unfold jb_u
    split
    · exact h
    · exact Or.inr (hv v List.mem_cons_self)
/-- the best order is the first of those that the table says -/
theorem ro_best (hn : n ≤ 6) (hl : s_lf (n : Int) tb lf (-1) 0) (ht : ro_T2 n d0 dl tb) : ∀ (f : Nat) (vis st : Int) (ds : List Nat) (b : Int × List Nat), ro_I n vis ds → n - ds.length < f → 0 ≤ st → lf (7 * vis + ro_la ds).toNat < 30000 → ro_bad b (st + lf (7 * vis + ro_la ds).toNat) →
    ∃ G : List Nat, jb_f (ro_L n d0 dl f vis st ds) b = (st + lf (7 * vis + ro_la ds).toNat, ds ++ G) ∧ G.length = n - ds.length ∧ ∀ (k : Nat) (r : Int), k < G.length → s_sp tb lf (n : Int) (k + 1) vis (ro_la ds) r → r = ((G.getD k 0 : Nat) : Int) := by
  intro f
  induction f with
  | zero => intro vis st ds b _ hf; omega
  | succ f ih =>
    intro vis st ds b hI hf hst hlt hbad
    obtain ⟨k1, k2, k3⟩ := ro_lf hn hl hI
    unfold ro_L
    by_cases c : n ≤ ds.length
    · rw [k1 c] at hbad
      rw [if_pos c, k1 c]
      refine ⟨[], ?_, by simp; omega, fun k r hk => absurd hk (Nat.not_lt_zero k)⟩
      show jb_u b (st, ds) = _
      unfold jb_u
      rw [if_neg (by
        intro q
        rcases hbad with h | h <;> omega), List.append_nil, Int.add_zero]
    · rw [if_neg c]
      obtain ⟨t, ⟨t0, t1⟩, ⟨hb, hs⟩, hmin⟩ := s_sP_ex (n := (n : Int)) (by omega) hl hI.1 (fun q => c ((ro_full hn hI).mp q)) (ro_la_b hn hI) hlt
      obtain ⟨k, rfl⟩ : ∃ k : Nat, t = k := ⟨t.toNat, by omega⟩
      have hk : k < n := by omega
      have hI2 := ro_I_s hn hI hk hb
      have hb0 : a_bit vis (k : Int) = 0 := (ro_bit hn hI hk).resolve_right hb
      obtain ⟨g1, g2⟩ := ro_tb hn ht hI hk
      have l3 := (ro_lf hn hl hI2).2.2
      rw [ro_la_s] at l3
      have hleg : 0 ≤ ro_leg d0 dl ds k := Int.not_lt.mp (fun q => by
        rw [if_pos q] at g1
        omega)
      rw [if_neg (by omega)] at g1
      have hV : 0 ≤ st + lf (7 * vis + ro_la ds).toNat := by omega
      have low := fun (j : Nat) (hj : j < n) (hbj : a_bit vis (j : Int) = 0) (hlj : 0 ≤ ro_leg d0 dl ds j) (v : Int × List Nat) (hv : v ∈ ro_L n d0 dl f (a_set vis (j : Int)) (st + ro_leg d0 dl ds j) (ds ++ [j])) => ro_low hn hl ht f _ _ _ (ro_I_s hn hI hj (by rw [hbj]; decide)) v hv
      have before : ∀ m, m ≤ k → ro_bad (jb_f (ro_LL (ro_L n d0 dl f) d0 dl vis st ds m) b) (st + lf (7 * vis + ro_la ds).toNat) := fun m hm => by
        refine jb_f_bad hV _ _ hbad (fun v hv => ?_)
        obtain ⟨j, j1, j2, j3, j4⟩ := (ro_LL_m m).mp hv
        have hj : j < n := by omega
        have q1 := low j hj j2 j3 v j4
        rw [ro_la_s] at q1
        have q2 := (ro_tb hn ht hI hj).1
        rw [if_neg (by omega)] at q2
        have hbj : a_bit vis (j : Int) ≠ 1 := by rw [j2]; decide
        have q3 := a_lm_le (tb := tb) (lf := lf) (b := vis) (f := ro_la ds) n j hj hbj
        have q4 := hmin (j : Int) (by omega) (by omega)
        have q5 : tb (6 * ro_la ds + (j : Int)).toNat + lf (7 * a_set vis (j : Int) + (j : Int)).toNat ≠ lf (7 * vis + ro_la ds).toNat := fun q => q4 ⟨hbj, q⟩
        rw [k2 c] at q5 ⊢
        omega
      obtain ⟨G, G1, G2, G3⟩ := ih (a_set vis (k : Int)) (st + ro_leg d0 dl ds k) (ds ++ [k]) (jb_f (ro_LL (ro_L n d0 dl f) d0 dl vis st ds k) b) hI2 (by rw [List.length_append]; simp; omega) (by omega) (by rw [ro_la_s]; omega) (by
        rw [ro_la_s, show st + ro_leg d0 dl ds k + lf (7 * a_set vis (k : Int) + (k : Int)).toNat = st + lf (7 * vis + ro_la ds).toNat by omega]
        exact before k (Nat.le_refl k))
      rw [ro_la_s] at G1 G3
      have eV : st + ro_leg d0 dl ds k + lf (7 * a_set vis (k : Int) + (k : Int)).toNat = st + lf (7 * vis + ro_la ds).toNat := by omega
      rw [eV] at G1
      have after : ∀ m, k < m → m ≤ n → jb_f (ro_LL (ro_L n d0 dl f) d0 dl vis st ds m) b = (st + lf (7 * vis + ro_la ds).toNat, (ds ++ [k]) ++ G) := by
        intro m
        induction m with
        | zero => intro h; omega
        | succ m ihm =>
          intro h1 h2
          unfold ro_LL
          rw [jb_f_app]
          by_cases e : m = k
          · subst e
            rw [if_neg (by rw [hb0]; simp), if_pos hleg]
            exact G1
          · rw [ihm (by omega) (by omega)]
            refine jb_f_id _ _ hV (fun v hv => ?_)
            by_cases c1 : a_bit vis (m : Int) ≠ 0
            · rw [if_pos c1] at hv; exact absurd hv List.not_mem_nil
            · rw [if_neg c1] at hv
              by_cases c2 : 0 ≤ ro_leg d0 dl ds m
              · rw [if_pos c2] at hv
                have hbm := Decidable.not_not.mp c1
                have q1 := low m (by omega) hbm c2 v hv
                rw [ro_la_s] at q1
                have q2 := (ro_tb hn ht hI (k := m) (by omega)).1
                rw [if_neg (by omega)] at q2
                have q3 := a_lm_le (tb := tb) (lf := lf) (b := vis) (f := ro_la ds) n m (by omega) (by rw [hbm]; decide)
                rw [k2 c]
                show st + _ ≤ v.1
                omega
              · rw [if_neg c2] at hv; exact absurd hv List.not_mem_nil
      refine ⟨k :: G, ?_, ?_, fun j r hj hr => ?_⟩
      · rw [after n hk (Nat.le_refl n), List.append_assoc]
        rfl
      · rw [List.length_cons, G2, List.length_append]
        simp
        omega
      · obtain ⟨t', ⟨u0, u1⟩, hs', hmin', hr'⟩ := hr
        have et : t' = (k : Int) := by
          rcases Int.lt_trichotomy t' (k : Int) with q | q | q
          · exact absurd hs' (hmin t' u0 q)
          · exact q
          · exact absurd ⟨hb, hs⟩ (hmin' (k : Int) (by omega) q)
        subst et
        cases j with
        | zero => exact hr'
        | succ j =>
          have := G3 j r (by rw [List.length_cons] at hj; omega) hr'
          rw [this]
          rfl
end TOD
