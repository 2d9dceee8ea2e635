/-! the reference's search: its seeds, its whole -/
theorem s_I_b2 {C : a_C} {goal : Int} {J : Nat → Nat → Int} {M : Nat} {x e : Int} (h : s_I C goal J M x e) : b_I (fun n => s_S C goal n ∧ s_P n x e) (s_E C 0) (rf J M) (rq J M) (J M 42).toNat 0 := by
  obtain ⟨h1, h2, h3, h4⟩ := h
  refine b_init h3 (fun n => ?_) h4
  by_cases hn : 0 ≤ n ∧ n < 38880
  · rcases h2 n hn.1 hn.2 with ⟨a, b, c⟩ | ⟨a, b⟩
    · refine Or.inl ⟨?_, b, c⟩
      rw [rf_some hn (by omega), a]
      rfl
    · exact Or.inr ⟨rf_none a, b⟩
  · exact Or.inr ⟨if_neg (fun q => hn q.1), fun q => hn q.1.2.2.1⟩
theorem s_I_add {C : a_C} {goal : Int} {J : Nat → Nat → Int} {M : Nat} {x e : Int} (hx : 0 ≤ x ∧ x < 16) (he : 1 ≤ e ∧ e ≤ 6) (h : s_I C goal J M x e) (hn : s_S C goal (a_no (x, 0, 0, 0, e))) : (J (M + 20) (a_no (x, 0, 0, 0, e)).toNat = 30000 ∧ 0 ≤ J M 42 ∧ J M 42 < 38880) ∧ s_I C goal (md_add J M (a_no (x, 0, 0, 0, e)) 0) M x (e + 1) := by
  have hbx := a_still_bx hx he
  have hN := a_no_bd hbx
  have hof := a_of_no hbx
  have hb := s_I_b2 h
  obtain ⟨h1, h2, h3, h4⟩ := h
  have hnp : ¬ s_P (a_no (x, 0, 0, 0, e)) x e := by
    unfold s_P
    rw [hof]
    simp only
    omega
  have hu : J (M + 20) (a_no (x, 0, 0, 0, e)).toNat = 30000 := by
    rcases h2 _ hN.1 hN.2 with ⟨-, b, -⟩ | ⟨a, -⟩
    · exact absurd b.2 hnp
    · exact a
  have hm := rb_room hb h1 hN hu
  have r2 := h1.2.1
  refine ⟨⟨hu, r2.1, hm⟩, ?_⟩
  generalize hne : a_no (x, 0, 0, 0, e) = n0 at *
  have e42 : md_add J M n0 0 M 42 = J M 42 + 1 := by simp [md_add, m_up]
  have e20 : ∀ i : Nat, md_add J M n0 0 (M + 20) i = if i = n0.toNat then 0 else J (M + 20) i := fun i => by simp [md_add, m_up]
  have e21 : ∀ i : Nat, md_add J M n0 0 (M + 21) i = if i = (J M 42).toNat then n0 else J (M + 21) i := fun i => by simp [md_add, m_up]
  have eq1 : ∀ i, i < (J M 42).toNat → rq (md_add J M n0 0) M i = rq J M i := fun i hi => by
    unfold rq
    rw [e21, if_neg (by omega)]
  have eqm : rq (md_add J M n0 0) M (J M 42).toNat = n0 := by
    unfold rq
    rw [e21, if_pos rfl]
  have em : (md_add J M n0 0 M 42).toNat = (J M 42).toNat + 1 := by rw [e42]; omega
  have old : ∀ i, i < (J M 42).toNat → rq J M i ≠ n0 := fun i hi q => hnp (q ▸ (h4 i hi).2)
  have pn0 : s_P n0 x (e + 1) := s_P_succ.mpr (Or.inr (by rw [hof]; exact ⟨rfl, rfl⟩))
  refine ⟨⟨fun i hi => ?_, by rw [e42]; omega, fun i hi => ?_⟩, fun n a b => ?_, fun i j hi hj q => ?_, fun i hi => ?_⟩
  · rw [e20]
    split
    · omega
    · exact h1.1 i hi
  · rw [em] at hi
    rw [e21]
    split
    · exact hN
    · exact h1.2.2 i (by omega)
  · by_cases hnn : n = n0
    · subst hnn
      refine Or.inl ⟨?_, ⟨hn, pn0⟩, (J M 42).toNat, by omega, eqm⟩
      rw [e20, if_pos rfl]
    · have e3 : md_add J M n0 0 (M + 20) n.toNat = J (M + 20) n.toNat := by
        rw [e20]
        exact if_neg (by omega)
      rw [e3]
      rcases h2 n a b with ⟨c1, c2, i, c3, c4⟩ | ⟨c1, c2⟩
      · exact Or.inl ⟨c1, ⟨c2.1, s_P_succ.mpr (Or.inl c2.2)⟩, i, by omega, by rw [eq1 i c3]; exact c4⟩
      · refine Or.inr ⟨c1, fun q => ?_⟩
        rcases s_P_succ.mp q.2 with g | g
        · exact c2 ⟨q.1, g⟩
        · obtain ⟨⟨s1, s2, s3, s4, s5, s6⟩, -⟩ := q
          have e1 : a_of n = (x, 0, 0, 0, e) := Prod.ext g.1 (Prod.ext s4 (Prod.ext s5 (Prod.ext s6 g.2)))
          exact hnn (((a_no_of a).symm.trans (congrArg a_no e1)).trans hne)
  · rw [em] at hi hj
    rcases Nat.lt_or_eq_of_le (Nat.le_of_lt_succ hi) with i1 | i1
    · rcases Nat.lt_or_eq_of_le (Nat.le_of_lt_succ hj) with j1 | j1
      · rw [eq1 i i1, eq1 j j1] at q
        exact h3 i j i1 j1 q
      · rw [eq1 i i1, j1, eqm] at q
        exact absurd q (old i i1)
    · rcases Nat.lt_or_eq_of_le (Nat.le_of_lt_succ hj) with j1 | j1
      · rw [eq1 j j1, i1, eqm] at q
        exact absurd q.symm (old j j1)
      · omega
  · rw [em] at hi
    rcases Nat.lt_or_eq_of_le (Nat.le_of_lt_succ hi) with i1 | i1
    · rw [eq1 i i1]
      exact ⟨(h4 i i1).1, s_P_succ.mpr (Or.inl (h4 i i1).2)⟩
    · rw [i1, eqm]
      exact ⟨hn, pn0⟩
/-- a column is through -/
theorem s_I_col {C : a_C} {goal : Int} {J : Nat → Nat → Int} {M : Nat} {x : Int} (h : s_I C goal J M x (C.2.1 + 1)) : s_I C goal J M (x + 1) 1 := by
  have key : ∀ n, s_S C goal n → (s_P n x (C.2.1 + 1) ↔ s_P n (x + 1) 1) := fun n hs => by
    have hd := (a_why_0 (a_is_spec hs.2.1).1).2.2.1
    unfold s_P
    omega
  obtain ⟨h1, h2, h3, h4⟩ := h
  refine ⟨h1, fun n a b => ?_, h3, fun i hi => ⟨(h4 i hi).1, (key _ (h4 i hi).1).mp (h4 i hi).2⟩⟩
  rcases h2 n a b with ⟨c1, c2, c3⟩ | ⟨c1, c2⟩
  · exact Or.inl ⟨c1, ⟨c2.1, (key n c2.1).mp c2.2⟩, c3⟩
  · exact Or.inr ⟨c1, fun q => c2 ⟨q.1, (key n q.1).mpr q.2⟩⟩
theorem s_I_all {C : a_C} {goal n : Int} (h : s_S C goal n) : s_P n C.1 1 := by
  have hd := (a_why_0 (a_is_spec h.2.1).1).1
  unfold s_P
  omega
section MDM
variable {en : Nat → Nat} {d : Nat} {T : Nat → Option (Nat × Nat)} {J J0 : Nat → Nat → Int} {P : Nat → Nat → Option Nat} {L : Nat → Nat → Int64} {z w M : Nat} {Q : m_Q} {σ : a_S}
theorem c_Md_doesStand (hM : md_sh en M T P) (ok : a_ok (md_cf J M)) {n : Int} (h0 : 0 ≤ n) (h1 : n < 100000) (hq : Q (some (.int (m_i (a_b (a_is (md_cf J M) (a_of n)))))) (T, m_I (md_put J M (a_of n)), P, L, z, w)) : m_call en (d + 5) mMd_doesStand [.ref M, .int (m_i n)] (T, m_I J, P, L, z, w) Q := by
  have h := s_Md_doesStand (d := d) (σ := md_get J M) (z := z) (w := w) (L := L) hM ok h0 h1 hq
  rw [md_put_get] at h
  exact h
end MDM
