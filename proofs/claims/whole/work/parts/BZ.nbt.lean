/-! THE TIE: numbers read. The reference has the next token at hand already -/
def rs_F (y x : a_Q) : Prop := y.1 ≠ 0 ∧ x.2.2.2.2.1 = y.1 ∧ x.2.2.2.2.2 = y.2.1
def rs_A (f : Nat → Int) (n : Int) (y x : a_Q) : Prop := (y.1 = 0 ∧ x.2.2.2.2.1 = 0) ∧ tk_R (re_nt f n y) x ∧ 0 ≤ x.1 ∧ x.1 ≤ n
def rs_S (n : Int) (y x : a_Q) : Prop := (y.1 = 0 ∧ x.2.2.2.2.1 = 0) ∧ tk_R y x ∧ 0 ≤ x.1 ∧ x.1 ≤ n
def rs_B (f : Nat → Int) (n : Int) (y x : a_Q) : Prop := rs_F y x ∨ rs_A f n y x
section NBT
variable {f g : Nat → Int} {n : Int} {y x x' : a_Q}
theorem s_tok_b {a v a' p' s' v' : Int} (ha : 0 ≤ a ∧ a ≤ n) (ht : s_tok g n a v a' p' s' v') : 0 ≤ a' ∧ a' ≤ n := by
  obtain ⟨ep, ht⟩ := ht
  have hpb : a ≤ p' ∧ p' ≤ n := by rw [ep]; exact a_end_bd (by decide) ha.2
  have hlt : a_hr g n p' ≠ -1 → p' < n := fun q => by
    unfold a_hr at q
    by_cases c : p' < n
    · exact c
    · rw [if_neg c] at q; exact absurd rfl q
  rcases ht with ⟨t1, t2, t3, -⟩ | ⟨t1, t2, -⟩ | ⟨t1, t2, -⟩ | ⟨⟨t1, t2, t3⟩, t4⟩
  · omega
  · have := a_end_bd (q := a_sl) (f := g) (n := n) (i := p') (by decide) hpb.2
    omega
  · have := a_end_bd (q := a_dg) (f := g) (n := n) (i := p') (by decide) hpb.2
    omega
  · have hl := hlt t1
    rcases t4 with ⟨u1, u2, u3, -⟩ | ⟨u1, u2, u3, u4⟩ | ⟨u1, u2, u3, -⟩
    · omega
    · have := a_end_bd (q := a_dg) (f := g) (n := n) (i := p' + 1) (by decide) (by omega)
      omega
    · omega
theorem go_S (h : tp_R f g n) (hs : rs_S n y x) (hg : s_go g n x x') : rs_A f n y x' := by
  obtain ⟨⟨h1, h2⟩, h3, h4⟩ := hs
  rcases hg with ⟨-, g1, g2, g3⟩ | ⟨g1, -⟩
  · refine ⟨⟨h1, by rw [g2]; exact h2⟩, ?_, s_tok_b h4 g1⟩
    exact tok_tie h h4 h3.1.2 g1
  · exact absurd h2 g1
theorem go_F (hs : rs_F y x) (hg : s_go g n x x') : rs_F y x' := by
  rcases hg with ⟨g0, -⟩ | ⟨-, g1⟩
  · exact absurd (hs.2.1.symm.trans g0) hs.1
  · rw [g1]; exact hs
theorem A_S (hs : rs_A f n y x) : rs_S n (re_nt f n y) x := ⟨⟨hs.1.1, hs.1.2⟩, hs.2.1, hs.2.2⟩
/-- a fault at the token at hand -/
theorem rf_F (hs : rs_S n y x) {k : Int} (hk : k ≠ 0) : rs_F (re_rf k y) (x.1, x.2.1, x.2.2.1, x.2.2.2.1, k, x.2.1) := by
  unfold re_rf
  rw [if_pos hs.1.1]
  exact ⟨hk, rfl, hs.2.1.1.1.symm⟩
theorem rf_id (h : y.1 ≠ 0) {k : Int} : re_rf k y = y := if_neg h
theorem wr_S (h : tp_R f g n) (hs : rs_S n y x) {b : Bool} {k : Int} (hk : k ≠ 0) (hg : s_go g n (a_wr b k x) x') : rs_B f n (if b = true then re_rf k y else y) x' := by
  unfold a_wr at hg
  by_cases c : b = true
  · rw [if_pos ⟨c, hs.1.2⟩] at hg
    rw [if_pos c]
    exact Or.inl (go_F (rf_F hs hk) hg)
  · rw [if_neg (fun q => c q.1)] at hg
    rw [if_neg c]
    exact Or.inr (go_S h hs hg)
theorem nu_tie (h : tp_R f g n) (hs : rs_B f n y x) {lo hi r : Int} (hlo : 0 ≤ lo) (hhi : hi ≤ 99999) (hn : s_nu g n 0 lo hi x r x') : (re_nb f n lo hi y).1 = r ∧ rs_B f n (re_nb f n lo hi y).2 x' := by
  unfold re_nb
  rcases hs with hs | hs
  · rw [if_pos hs.1]
    rcases hn with ⟨n1, n2, n3⟩ | ⟨n1, -⟩
    · rw [n2, n3]; exact ⟨rfl, Or.inl hs⟩
    · exact absurd (hs.2.1.symm.trans n1) hs.1
  · have hS := A_S hs
    rw [if_neg (by rw [hs.1.1]; decide)]
    rcases hn with ⟨n1, -⟩ | ⟨-, hn⟩
    · exact absurd hs.1.2 n1
    · obtain ⟨hpos, ht⟩ := hs.2.1
      rcases hn with ⟨n1, n2, n3⟩ | ⟨n1, hn⟩
      · have hk : (re_nt f n y).2.2.2.2.1 ≠ 2 := fun c => by
          rcases ht with t | t | t | t | t | t
          · omega
          · omega
          · exact n1 (Or.inl t.2.1)
          · omega
          · omega
          · omega
        rw [if_pos hk, n2, n3]
        exact ⟨rfl, Or.inl (rf_F hS (by decide))⟩
      · have hx2 : x.2.2.1 = 2 := n1.resolve_right (fun q => q.1 rfl)
        have hv : (re_nt f n y).2.2.2.2.1 = 2 ∧ vl_R (re_nt f n y).2.2.2.2.2 x.2.2.2.1 := by
          rcases ht with t | ⟨t1, t⟩ | t | t | t | t
          · omega
          · rcases t with t | t <;> omega
          · exact ⟨t.1, t.2.2⟩
          · omega
          · omega
          · omega
        rw [if_neg (fun q => q hv.1)]
        unfold re_wi
        rcases hn with ⟨c, n2, n3⟩ | ⟨c, n2, n3⟩
        · have c' : (re_nt f n y).2.2.2.2.2 < lo ∨ hi < (re_nt f n y).2.2.2.2.2 := by
            rcases hv.2 with v | v <;> omega
          rw [if_pos c', n2, n3]
          exact ⟨rfl, Or.inl (rf_F hS (by decide))⟩
        · have c' : ¬ ((re_nt f n y).2.2.2.2.2 < lo ∨ hi < (re_nt f n y).2.2.2.2.2) ∧ (re_nt f n y).2.2.2.2.2 = x.2.2.2.1 := by
            rcases hv.2 with v | v <;> omega
          rw [if_neg c'.1, n2]
          exact ⟨c'.2, Or.inr (go_S h hS n3)⟩
theorem sn_tie (h : tp_R f g n) (hs : rs_B f n y x) {r : Int} (hn : s_nu g n 1 (-4) 4 x r x') : (x'.2.2.2.2.1 = 0 → (re_sn f n y).1 = r) ∧ rs_B f n (re_sn f n y).2 x' := by
  unfold re_sn
  rcases hs with hs | hs
  · rw [if_pos hs.1]
    rcases hn with ⟨n1, n2, n3⟩ | ⟨n1, -⟩
    · rw [n3]; exact ⟨fun q => absurd q n1, Or.inl hs⟩
    · exact absurd (hs.2.1.symm.trans n1) hs.1
  · have hS := A_S hs
    rw [if_neg (by rw [hs.1.1]; decide)]
    rcases hn with ⟨n1, -⟩ | ⟨-, hn⟩
    · exact absurd hs.1.2 n1
    · obtain ⟨hpos, ht⟩ := hs.2.1
      rcases hn with ⟨n1, n2, n3⟩ | ⟨n1, hn⟩
      · have hk : (re_nt f n y).2.2.2.2.1 ≠ 2 ∧ (re_nt f n y).2.2.2.2.1 ≠ 3 := by
          rcases ht with t | ⟨t1, t⟩ | t | t | t | t
          · omega
          · omega
          · exact absurd (Or.inl t.2.1) n1
          · exact absurd (Or.inr ⟨by decide, t.2.1⟩) n1
          · omega
          · omega
        rw [if_pos hk, n3]
        exact ⟨fun q => absurd (show (1 : Int) = 0 from q) (by decide), Or.inl (rf_F hS (by decide))⟩
      · have hv : ((re_nt f n y).2.2.2.2.1 = 2 ∨ (re_nt f n y).2.2.2.2.1 = 3) ∧ (((re_nt f n y).2.2.2.2.2 = x.2.2.2.1) ∨ ((re_nt f n y).2.2.2.2.2 < -4 ∧ x.2.2.2.1 < -4) ∨ (4 < (re_nt f n y).2.2.2.2.2 ∧ 4 < x.2.2.2.1)) := by
          rcases ht with t | ⟨t1, t⟩ | ⟨t1, t2, t⟩ | ⟨t1, t2, t⟩ | t | t
          · rcases n1 with n1 | n1 <;> omega
          · rcases t with t | t <;> rcases n1 with n1 | n1 <;> omega
          · refine ⟨Or.inl t1, ?_⟩
            rcases t with t | t
            · exact Or.inl t.1
            · exact Or.inr (Or.inr (by omega))
          · refine ⟨Or.inr t1, ?_⟩
            rcases t with t | t
            · exact Or.inl (by omega)
            · exact Or.inr (Or.inl (by omega))
          · rcases n1 with n1 | n1 <;> omega
          · rcases n1 with n1 | n1 <;> omega
        rw [if_neg (fun q => by omega)]
        unfold re_wi
        rcases hn with ⟨c, n2, n3⟩ | ⟨c, n2, n3⟩
        · rw [if_pos (by omega), n3]
          exact ⟨fun q => absurd (show (2 : Int) = 0 from q) (by decide), Or.inl (rf_F hS (by decide))⟩
        · rw [if_neg (by omega), n2]
          exact ⟨fun _ => by show (re_nt f n y).2.2.2.2.2 = x.2.2.2.1; omega, Or.inr (go_S h hS n3)⟩
/-- a number at hand that stays, in the reference; the class reads it -/
theorem ah_tie (hs : rs_B f n y x) {lo hi r : Int} (hlo : 0 ≤ lo) (hhi : hi ≤ 99999) (hn : s_ah lo hi x r x') : (re_nb f n lo hi y).1 = r ∧ (rs_F (re_nb f n lo hi y).2 x' ∨ rs_S n (re_nb f n lo hi y).2 x') := by
  unfold re_nb
  rcases hs with hs | hs
  · rw [if_pos hs.1]
    rcases hn with ⟨n1, n2, n3⟩ | ⟨n1, -⟩
    · rw [n2, n3]; exact ⟨rfl, Or.inl hs⟩
    · exact absurd (hs.2.1.symm.trans n1) hs.1
  · have hS := A_S hs
    rw [if_neg (by rw [hs.1.1]; decide)]
    rcases hn with ⟨n1, -⟩ | ⟨-, hn⟩
    · exact absurd hs.1.2 n1
    · obtain ⟨hpos, ht⟩ := hs.2.1
      rcases hn with ⟨n1, n2, n3⟩ | ⟨n1, hn⟩
      · have hk : (re_nt f n y).2.2.2.2.1 ≠ 2 := fun c => by
          rcases ht with t | t | t | t | t | t
          · omega
          · omega
          · exact n1 t.2.1
          · omega
          · omega
          · omega
        rw [if_pos hk, n2, n3]
        exact ⟨rfl, Or.inl (rf_F hS (by decide))⟩
      · have hv : (re_nt f n y).2.2.2.2.1 = 2 ∧ vl_R (re_nt f n y).2.2.2.2.2 x.2.2.2.1 := by
          rcases ht with t | ⟨t1, t⟩ | t | t | t | t
          · omega
          · rcases t with t | t <;> omega
          · exact ⟨t.1, t.2.2⟩
          · omega
          · omega
          · omega
        rw [if_neg (fun q => q hv.1)]
        unfold re_wi
        rcases hn with ⟨c, n2, n3⟩ | ⟨c, n2, n3⟩
        · rw [if_pos (by rcases hv.2 with v | v <;> omega), n2, n3]
          exact ⟨rfl, Or.inl (rf_F hS (by decide))⟩
        · have c' : ¬ ((re_nt f n y).2.2.2.2.2 < lo ∨ hi < (re_nt f n y).2.2.2.2.2) ∧ (re_nt f n y).2.2.2.2.2 = x.2.2.2.1 := by
            rcases hv.2 with v | v <;> omega
          rw [if_neg c'.1, n2, n3]
          exact ⟨c'.2, Or.inr hS⟩
theorem wr_SF (h : tp_R f g n) (hs : rs_F y x ∨ rs_S n y x) {b : Bool} {k : Int} (hk : k ≠ 0) (hg : s_go g n (a_wr b k x) x') : rs_B f n (if b = true then re_rf k y else y) x' := by
  rcases hs with hs | hs
  · have e : (if b = true then re_rf k y else y) = y := by
      split
      · exact rf_id hs.1
      · rfl
    have e2 : a_wr b k x = x := if_neg (fun q => hs.1 (hs.2.1.symm.trans q.2))
    rw [e2] at hg
    rw [e]
    exact Or.inl (go_F hs hg)
  · exact wr_S h hs hk hg
/-- the end of a line: a semicolon, then the next line's word -/
theorem ns_tie (h : tp_R f g n) (hs : rs_B f n y x) (hg : s_go g n (a_wr (decide (x.2.2.1 ≠ 4)) 1 x) x') : rs_F (re_nt f n (re_ns f n y)) x' ∨ rs_S n (re_nt f n (re_ns f n y)) x' := by
  unfold re_ns
  rcases hs with hs | hs
  · rw [if_pos hs.1]
    have e2 : a_wr (decide (x.2.2.1 ≠ 4)) 1 x = x := if_neg (fun q => hs.1 (hs.2.1.symm.trans q.2))
    rw [e2] at hg
    exact Or.inl (go_F hs hg)
  · have hS := A_S hs
    rw [if_neg (by rw [hs.1.1]; decide)]
    have hb := wr_S h hS (b := decide (x.2.2.1 ≠ 4)) (k := 1) (by decide) hg
    have hiff : decide (x.2.2.1 ≠ 4) = true ↔ (re_nt f n y).2.2.2.2.1 ≠ 4 := by
      rw [decide_eq_true_eq]
      rcases hs.2.1.2 with t | ⟨t1, t⟩ | t | t | t | t
      · omega
      · rcases t with t | t <;> omega
      · omega
      · omega
      · omega
      · omega
    by_cases c : (re_nt f n y).2.2.2.2.1 ≠ 4
    · rw [if_pos c]
      rw [if_pos (hiff.mpr c)] at hb
      rcases hb with hb | hb
      · exact Or.inl hb
      · exact Or.inr (A_S hb)
    · rw [if_neg c]
      rw [if_neg (fun q => c (hiff.mp q))] at hb
      rcases hb with hb | hb
      · exact Or.inl hb
      · exact Or.inr (A_S hb)
end NBT
