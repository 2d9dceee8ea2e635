/-! the reference's search backward: seeds and edges -/
def s_S (C : a_C) (goal : Int) (n : Int) : Prop := (goal = -1 ∨ goal = n) ∧ a_is C (a_of n) = true ∧ (0 ≤ n ∧ n < 38880) ∧ (a_of n).2.1 = 0 ∧ (a_of n).2.2.1 = 0 ∧ (a_of n).2.2.2.1 = 0
def s_E (C : a_C) (lev : Int) (n m : Int) : Prop := ∃ c : Int, (0 ≤ c ∧ c < 9) ∧ (lev = 0 ∨ c % 3 = 1) ∧ a_is C (a_back (a_of n) c) = true ∧ m = a_no (a_back (a_of n) c)
theorem rf_put (J : Nat → Nat → Int) (M : Nat) (σ : a_S) : rf (md_put J M σ) M = rf J M := by
  funext n
  unfold rf
  rw [md_put_o J M σ (by omega)]
theorem rq_put (J : Nat → Nat → Int) (M : Nat) (σ : a_S) : rq (md_put J M σ) M = rq J M := by
  funext i
  exact md_put_o J M σ (by omega)
theorem rw_put {J : Nat → Nat → Int} {M : Nat} (σ : a_S) (h : rw_ok J M) : rw_ok (md_put J M σ) M := by
  obtain ⟨h1, h2, h3⟩ := h
  have e : md_put J M σ M 42 = J M 42 := md_put_f J M σ (by omega)
  refine ⟨fun i hi => ?_, by rw [e]; exact h2, fun i hi => ?_⟩
  · rw [md_put_o J M σ (by omega)]; exact h1 i hi
  · rw [e] at hi
    rw [md_put_o J M σ (by omega)]; exact h3 i hi
theorem rf_some {J : Nat → Nat → Int} {M : Nat} {n : Int} (h0 : 0 ≤ n ∧ n < 38880) (h : J (M + 20) n.toNat ≠ 30000) : rf J M n = some (J (M + 20) n.toNat).toNat := if_pos ⟨h0, h⟩
theorem rf_none {J : Nat → Nat → Int} {M : Nat} {n : Int} (h : J (M + 20) n.toNat = 30000) : rf J M n = none := if_neg (fun q => q.2 h)
theorem rf_inv {J : Nat → Nat → Int} {M : Nat} {n : Int} {k : Nat} (h : rf J M n = some k) : (0 ≤ n ∧ n < 38880) ∧ J (M + 20) n.toNat ≠ 30000 ∧ k = (J (M + 20) n.toNat).toNat := by
  unfold rf at h
  split at h
  · rename_i q
    cases h
    exact ⟨q.1, q.2, rfl⟩
  · cases h
section RB
variable {J : Nat → Nat → Int} {M k : Nat} {S : Int → Prop} {E : Int → Int → Prop}
/-- the line is no longer than there are numbers; one that was not met has room in it -/
theorem rb_room (hI : b_I S E (rf J M) (rq J M) (J M 42).toNat k) (ok : rw_ok J M) {n : Int} (hn : 0 ≤ n ∧ n < 38880) (hu : J (M + 20) n.toNat = 30000) : J M 42 < 38880 := by
  obtain ⟨hA, hB, hC, -⟩ := hI
  have := b_pig2 (n := (J M 42).toNat + 1) (N := 38880) (f := fun i => if i < (J M 42).toNat then (rq J M i).toNat else n.toNat) (fun i j hi hj e => by
    by_cases hi1 : i < (J M 42).toNat
    · rw [if_pos hi1] at e
      have r1 := ok.2.2 i hi1
      by_cases hj1 : j < (J M 42).toNat
      · rw [if_pos hj1] at e
        have r2 := ok.2.2 j hj1
        exact hA i j hi1 hj1 (by unfold rq at e ⊢; omega)
      · rw [if_neg hj1] at e
        obtain ⟨t, ht, -⟩ := hC i hi1
        have := (rf_inv ht).2.1
        rw [show (rq J M i).toNat = n.toNat from e] at this
        exact absurd hu this
    · rw [if_neg hi1] at e
      by_cases hj1 : j < (J M 42).toNat
      · rw [if_pos hj1] at e
        obtain ⟨t, ht, -⟩ := hC j hj1
        have := (rf_inv ht).2.1
        rw [← show n.toNat = (rq J M j).toNat from e] at this
        exact absurd hu this
      · omega) (fun i hi => by
    by_cases hi1 : i < (J M 42).toNat
    · rw [if_pos hi1]
      have r1 := ok.2.2 i hi1
      unfold rq
      omega
    · rw [if_neg hi1]; omega)
  have h2 := ok.2.1
  omega
theorem rb_add (hI : b_I S E (rf J M) (rq J M) (J M 42).toNat k) (ok : rw_ok J M) (hk : k < (J M 42).toNat) {n its : Int} (hn : 0 ≤ n ∧ n < 38880) (hu : J (M + 20) n.toNat = 30000) (hE : E (rq J M k) n) (hits : its = J (M + 20) (rq J M k).toNat + 1) (hb : its < 30000) :
    b_I S E (rf (md_add J M n its) M) (rq (md_add J M n its) M) (md_add J M n its M 42).toNat k ∧ rw_ok (md_add J M n its) M ∧ md_add J M n its (M + 20) n.toNat = its ∧ (∀ i, i < (J M 42).toNat → rq (md_add J M n its) M i = rq J M i) ∧ (∀ x : Int, 0 ≤ x → x < 38880 → x ≠ n → md_add J M n its (M + 20) x.toNat = J (M + 20) x.toNat) := by
  have hm := rb_room hI ok hn hu
  obtain ⟨t, ht, -⟩ := hI.2.2.1 k hk
  obtain ⟨t1, t2, t3⟩ := rf_inv ht
  have hr := ok.1 (rq J M k).toNat (by omega)
  have h2 := ok.2.1
  have e42 : md_add J M n its M 42 = J M 42 + 1 := by simp [md_add, m_up]
  have e20 : ∀ i : Nat, md_add J M n its (M + 20) i = if i = n.toNat then its else J (M + 20) i := fun i => by
    simp [md_add, m_up]
  have e21 : ∀ i : Nat, md_add J M n its (M + 21) i = if i = (J M 42).toNat then n else J (M + 21) i := fun i => by
    simp [md_add, m_up]
  have hq1 : ∀ i, i < (J M 42).toNat → rq (md_add J M n its) M i = rq J M i := fun i hi => by
    unfold rq
    rw [e21, if_neg (by omega)]
  refine ⟨?_, ⟨fun i hi => ?_, by rw [e42]; omega, fun i hi => ?_⟩, by rw [e20, if_pos rfl], hq1, fun x hx0 hx1 hx2 => by rw [e20, if_neg (by omega)]⟩
  · rw [e42, show (J M 42 + 1).toNat = (J M 42).toNat + 1 by omega]
    refine b_add hI hk ht hE (rf_none hu) (fun x => ?_) hq1 (by unfold rq; rw [e21, if_pos rfl])
    by_cases hx : x = n
    · subst hx
      refine Or.inl ⟨?_, rfl⟩
      rw [rf_some hn (by rw [e20, if_pos rfl]; omega), e20, if_pos rfl]
      congr 1
      omega
    · refine Or.inr ⟨?_, hx⟩
      unfold rf
      by_cases hx0 : 0 ≤ x ∧ x < 38880
      · have e3 : md_add J M n its (M + 20) x.toNat = J (M + 20) x.toNat := by
          rw [e20]
          exact if_neg (by omega)
        rw [e3]
      · rw [if_neg (fun q => hx0 q.1), if_neg (fun q => hx0 q.1)]
  · rw [e20]
    split
    · omega
    · exact ok.1 i hi
  · rw [e42] at hi
    rw [e21]
    split
    · exact hn
    · exact ok.2.2 i (by omega)
end RB
