/-! least of the reference: by how few deeds -/
def a_dd (c : Int) : Int := (if c / 3 = 1 then 0 else 1) + (if c % 3 = 1 then 0 else 1)
theorem a_dd_bd (c : Int) : 0 ≤ a_dd c ∧ a_dd c ≤ 2 := by
  unfold a_dd
  split <;> split <;> omega
/-- n is k steps, t deeds from a goal -/
def b_P (C : a_C) (goal : Int) : Nat → Int → Int → Prop
  | 0, t, n => t = 0 ∧ n = goal
  | k + 1, t, n => ∃ m t' c, b_P C goal k t' m ∧ (0 ≤ c ∧ c < 9) ∧ a_is C (a_back (a_of m) c) = true ∧ n = a_no (a_back (a_of m) c) ∧ t = t' + a_dd c
/-- the fewest deeds; -2 where there is no row of fewer than 30000 -/
def s_dd (C : a_C) (goal n r : Int) : Prop := (r = -2 ∧ ∀ k t, b_P C goal k t n → 30000 ≤ t) ∨ (0 ≤ r ∧ (∃ k, b_P C goal k r n) ∧ ∀ k t, b_P C goal k t n → r ≤ t)
/-- what is known of the deeds -/
def dd_A (C : a_C) (goal : Int) (J : Nat → Nat → Int) (M : Nat) : Prop := (∀ i : Nat, i < 38880 → 0 ≤ J (M + 20) i ∧ J (M + 20) i ≤ 30000) ∧ (∀ n : Int, 0 ≤ n ∧ n < 38880 → J (M + 20) n.toNat < 30000 → (∃ k, b_P C goal k (J (M + 20) n.toNat) n) ∧ a_is C (a_of n) = true) ∧ J (M + 20) goal.toNat = 0
def dd_D (C : a_C) (its : Int) (J : Nat → Nat → Int) (M : Nat) : Prop := ∀ n : Int, 0 ≤ n ∧ n < 38880 → J (M + 20) n.toNat < its → ∀ c : Int, 0 ≤ c ∧ c < 9 → a_is C (a_back (a_of n) c) = true → J (M + 20) (a_no (a_back (a_of n) c)).toNat ≤ J (M + 20) n.toNat + a_dd c
def dd_M (most : Int) (J : Nat → Nat → Int) (M : Nat) : Prop := (0 ≤ most ∧ most < 30000) ∧ ∀ n : Int, 0 ≤ n ∧ n < 38880 → J (M + 20) n.toNat < 30000 → J (M + 20) n.toNat ≤ most
/-- the line: all of this number of deeds below b -/
def dd_L (its : Int) (b : Nat) (J : Nat → Nat → Int) (M : Nat) : Prop := (0 ≤ J M 42 ∧ J M 42 ≤ 38880) ∧ (∀ i, i < (J M 42).toNat → (0 ≤ rq J M i ∧ rq J M i < (b : Int)) ∧ J (M + 20) (rq J M i).toNat = its) ∧ (∀ n : Int, 0 ≤ n ∧ n < (b : Int) → J (M + 20) n.toNat = its → ∃ i, i < (J M 42).toNat ∧ rq J M i = n) ∧ ∀ i j, i < (J M 42).toNat → j < (J M 42).toNat → rq J M i = rq J M j → i = j
/-- one of the line is worked off, as far as code c -/
def dd_K (C : a_C) (its c : Int) (J : Nat → Nat → Int) (M i : Nat) : Prop := ∀ c', 0 ≤ c' → c' < c → a_is C (a_back (a_of (rq J M i)) c') = true → J (M + 20) (a_no (a_back (a_of (rq J M i)) c')).toNat ≤ its + a_dd c'
section DD
variable {C : a_C} {goal its most : Int} {J : Nat → Nat → Int} {M : Nat}
theorem dd_room (h : dd_L its 38880 J M) {p : Int} (hp : 0 ≤ p ∧ p < 38880) (hf : its < J (M + 20) p.toNat) : J M 42 < 38880 := by
  obtain ⟨h0, h1, h2, h3⟩ := h
  have := b_pig2 (n := (J M 42).toNat + 1) (N := 38880) (f := fun i => if i < (J M 42).toNat then (rq J M i).toNat else p.toNat) (fun i j hi hj e => by
    by_cases hi1 : i < (J M 42).toNat
    · rw [if_pos hi1] at e
      have r1 := h1 i hi1
      by_cases hj1 : j < (J M 42).toNat
      · rw [if_pos hj1] at e
        have r2 := h1 j hj1
        exact h3 i j hi1 hj1 (by omega)
      · rw [if_neg hj1] at e
        have := r1.2
        rw [e] at this
        omega
    · rw [if_neg hi1] at e
      by_cases hj1 : j < (J M 42).toNat
      · rw [if_pos hj1] at e
        have := (h1 j hj1).2
        rw [← e] at this
        omega
      · omega) (fun i hi => by
    by_cases hi1 : i < (J M 42).toNat
    · rw [if_pos hi1]
      have r1 := (h1 i hi1).1
      omega
    · rw [if_neg hi1]; omega)
  omega
/-- a number is made less: v deeds for p, by code c from r -/
theorem dd_A_up {J2 : Nat → Nat → Int} {r c : Int} (ok : a_ok C) (h : dd_A C goal J M) (hg : 0 ≤ goal ∧ goal < 38880) (hr : 0 ≤ r ∧ r < 38880) (hri : J (M + 20) r.toNat = its) (hc : 0 ≤ c ∧ c < 9) (his : a_is C (a_back (a_of r) c) = true) (hlt : its + a_dd c < J (M + 20) (a_no (a_back (a_of r) c)).toNat) (e20 : ∀ i, J2 (M + 20) i = if i = (a_no (a_back (a_of r) c)).toNat then its + a_dd c else J (M + 20) i) : dd_A C goal J2 M := by
  obtain ⟨h1, h2, h3⟩ := h
  have hN := a_no_bd (a_is_bx ok his)
  have hb := h1 (a_no (a_back (a_of r) c)).toNat (by omega)
  have hdd := a_dd_bd c
  have hrb := h1 r.toNat (by omega)
  refine ⟨fun i hi => ?_, fun n hn hf => ?_, ?_⟩
  · rw [e20]
    have := h1 i hi
    split <;> omega
  · rw [e20] at hf ⊢
    by_cases q : n.toNat = (a_no (a_back (a_of r) c)).toNat
    · have e : n = a_no (a_back (a_of r) c) := by omega
      rw [if_pos q, e]
      obtain ⟨⟨k, hk⟩, -⟩ := h2 r hr (by omega)
      rw [hri] at hk
      exact ⟨⟨k + 1, r, its, c, hk, hc, his, rfl, rfl⟩, by rw [a_of_no (a_is_bx ok his)]; exact his⟩
    · rw [if_neg q] at hf ⊢
      exact h2 n hn hf
  · rw [e20]
    by_cases q : goal.toNat = (a_no (a_back (a_of r) c)).toNat
    · rw [← q, h3] at hlt
      omega
    · rw [if_neg q]
      exact h3
theorem dd_D_up {J2 : Nat → Nat → Int} {p v : Int} (ok : a_ok C) (h : dd_D C its J M) (hv : its ≤ v) (hlt : v < J (M + 20) p.toNat) (e20 : ∀ i, J2 (M + 20) i = if i = p.toNat then v else J (M + 20) i) : dd_D C its J2 M := fun n hn hf c hc his => by
  rw [e20] at hf
  by_cases q : n.toNat = p.toNat
  · rw [if_pos q] at hf
    omega
  · rw [if_neg q] at hf
    have h1 := h n hn hf c hc his
    rw [e20, e20, if_neg q]
    split
    · rename_i q2
      rw [q2] at h1
      omega
    · exact h1
theorem dd_M_up {J2 : Nat → Nat → Int} {p v : Int} (h : dd_M most J M) (hv : 0 ≤ v ∧ v < 30000) (e20 : ∀ i, J2 (M + 20) i = if i = p.toNat then v else J (M + 20) i) : dd_M (a_gt most v) J2 M := by
  obtain ⟨h1, h2⟩ := h
  have g : most ≤ a_gt most v ∧ v ≤ a_gt most v ∧ a_gt most v < 30000 ∧ 0 ≤ a_gt most v := by
    unfold a_gt
    split <;> omega
  refine ⟨by omega, fun n hn hf => ?_⟩
  rw [e20] at hf ⊢
  by_cases q : n.toNat = p.toNat
  · rw [if_pos q]; omega
  · rw [if_neg q] at hf ⊢
    have := h2 n hn hf
    omega
theorem dd_K_up {J2 : Nat → Nat → Int} {p v c : Int} {i : Nat} (h : dd_K C its c J M i) (hlt : v < J (M + 20) p.toNat) (e20 : ∀ i, J2 (M + 20) i = if i = p.toNat then v else J (M + 20) i) (eq : rq J2 M i = rq J M i) : dd_K C its c J2 M i := fun c' g0 g1 g2 => by
  rw [eq] at g2 ⊢
  have h1 := h c' g0 g1 g2
  rw [e20]
  split
  · rename_i q
    rw [q] at h1
    omega
  · exact h1
theorem dd_K_s {c : Int} {i : Nat} (h : dd_K C its c J M i) (hc : a_is C (a_back (a_of (rq J M i)) c) = true → J (M + 20) (a_no (a_back (a_of (rq J M i)) c)).toNat ≤ its + a_dd c) : dd_K C its (c + 1) J M i := fun c' g0 g1 g2 => by
  rcases Int.lt_or_eq_of_le (Int.lt_add_one_iff.mp g1) with q | q
  · exact h c' g0 q g2
  · subst q
    exact hc g2
/-- more deeds: the line stays -/
theorem dd_L_up {J2 : Nat → Nat → Int} {p v : Int} (h : dd_L its 38880 J M) (hp : 0 ≤ p ∧ p < 38880) (hv : its < v) (hlt : v < J (M + 20) p.toNat) (e20 : ∀ i, J2 (M + 20) i = if i = p.toNat then v else J (M + 20) i) (e21 : J2 (M + 21) = J (M + 21)) (e42 : J2 M 42 = J M 42) : dd_L its 38880 J2 M := by
  obtain ⟨h0, h1, h2, h3⟩ := h
  have eq : rq J2 M = rq J M := by
    funext i
    unfold rq
    rw [e21]
  refine ⟨by rw [e42]; exact h0, fun i hi => ?_, fun n hn hf => ?_, fun i j => ?_⟩
  · rw [e42] at hi
    have := h1 i hi
    rw [eq, e20]
    refine ⟨this.1, ?_⟩
    split
    · rename_i q
      rw [q] at this
      omega
    · exact this.2
  · rw [e20] at hf
    rw [e42, eq]
    by_cases q : n.toNat = p.toNat
    · rw [if_pos q] at hf
      omega
    · rw [if_neg q] at hf
      exact h2 n hn hf
  · rw [e42, eq]
    exact h3 i j
/-- as many deeds: it comes into the line -/
theorem dd_L_add (h : dd_L its 38880 J M) {p : Int} (hp : 0 ≤ p ∧ p < 38880) (hlt : its < J (M + 20) p.toNat) : dd_L its 38880 (md_add J M p its) M := by
  have hm := dd_room h hp hlt
  obtain ⟨h0, h1, h2, h3⟩ := h
  have e42 : md_add J M p its M 42 = J M 42 + 1 := by simp [md_add, m_up]
  have e20 : ∀ i : Nat, md_add J M p its (M + 20) i = if i = p.toNat then its else J (M + 20) i := fun i => by simp [md_add, m_up]
  have e21 : ∀ i : Nat, md_add J M p its (M + 21) i = if i = (J M 42).toNat then p else J (M + 21) i := fun i => by simp [md_add, m_up]
  have em : (md_add J M p its M 42).toNat = (J M 42).toNat + 1 := by rw [e42]; omega
  have eqm : rq (md_add J M p its) M (J M 42).toNat = p := by
    unfold rq
    rw [e21, if_pos rfl]
  have old : ∀ i, i < (J M 42).toNat → rq J M i ≠ p := fun i hi q => by
    have := (h1 i hi).2
    rw [q] at this
    omega
  refine ⟨by rw [e42]; omega, fun i hi => ?_, fun n hn hf => ?_, fun i j hi hj q => ?_⟩
  · rw [em] at hi
    rcases Nat.lt_or_eq_of_le (Nat.le_of_lt_succ hi) with g | g
    · rw [rq_add g, e20]
      have := h1 i g
      refine ⟨this.1, ?_⟩
      split
      · rfl
      · exact this.2
    · rw [g, eqm, e20, if_pos rfl]
      exact ⟨hp, rfl⟩
  · rw [e20] at hf
    rw [em]
    by_cases q : n.toNat = p.toNat
    · exact ⟨(J M 42).toNat, by omega, by rw [eqm]; omega⟩
    · rw [if_neg q] at hf
      obtain ⟨i, hi, e⟩ := h2 n hn hf
      exact ⟨i, by omega, by rw [rq_add hi]; exact e⟩
  · rw [em] at hi hj
    rcases Nat.lt_or_eq_of_le (Nat.le_of_lt_succ hi) with i1 | i1
    · rcases Nat.lt_or_eq_of_le (Nat.le_of_lt_succ hj) with j1 | j1
      · rw [rq_add i1, rq_add j1] at q
        exact h3 i j i1 j1 q
      · rw [rq_add i1, j1, eqm] at q
        exact absurd q (old i i1)
    · rcases Nat.lt_or_eq_of_le (Nat.le_of_lt_succ hj) with j1 | j1
      · rw [rq_add j1, i1, eqm] at q
        exact absurd q.symm (old j j1)
      · omega
/-- all of this number are worked off -/
theorem dd_D_s (h : dd_D C its J M) (hL : dd_L its 38880 J M) (hK : ∀ i, i < (J M 42).toNat → dd_K C its 9 J M i) : dd_D C (its + 1) J M := fun n hn hf c hc his => by
  rcases Int.lt_or_eq_of_le (Int.lt_add_one_iff.mp hf) with q | q
  · exact h n hn q c hc his
  · obtain ⟨i, hi, e⟩ := hL.2.2.1 n hn q
    have := hK i hi c hc.1 hc.2 (by rw [e]; exact his)
    rw [e] at this
    omega
/-- at the end -/
theorem dd_ans (hg : 0 ≤ goal ∧ goal < 38880) (ok : a_ok C) (hA : dd_A C goal J M) (hD : dd_D C 30000 J M) {n : Int} (hn : 0 ≤ n ∧ n < 38880) : s_dd C goal n (if J (M + 20) n.toNat = 30000 then -2 else J (M + 20) n.toNat) := by
  obtain ⟨h1, h2, h3⟩ := hA
  have key : ∀ (k : Nat) (t m : Int), b_P C goal k t m → (0 ≤ m ∧ m < 38880) ∧ J (M + 20) m.toNat ≤ t := by
    intro k
    induction k with
    | zero =>
      intro t m h
      rw [h.2, h.1]
      exact ⟨hg, by omega⟩
    | succ k ih =>
      intro t m h
      obtain ⟨m0, t', c, a1, a2, a3, a4, a5⟩ := h
      obtain ⟨i1, i2⟩ := ih t' m0 a1
      have hN := a_no_bd (a_is_bx ok a3)
      have hdd := a_dd_bd c
      rw [a4]
      refine ⟨hN, ?_⟩
      have b1 := h1 m0.toNat (by omega)
      have b2 := h1 (a_no (a_back (a_of m0) c)).toNat (by omega)
      by_cases q : J (M + 20) m0.toNat < 30000
      · have := hD m0 i1 q c a2 a3
        omega
      · omega
  have b := h1 n.toNat (by omega)
  by_cases q : J (M + 20) n.toNat = 30000
  · rw [if_pos q]
    refine Or.inl ⟨rfl, fun k t h => ?_⟩
    have := (key k t n h).2
    omega
  · rw [if_neg q]
    exact Or.inr ⟨b.1, (h2 n hn (by omega)).1, fun k t h => (key k t n h).2⟩
end DD
