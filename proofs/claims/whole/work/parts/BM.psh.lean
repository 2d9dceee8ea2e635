/-! THE TIE: a moment is kept, a tick is noted -/
section TPU
variable {en : Nat → Nat} {X M N O z0 w0 : Nat} {T0 : Nat → Option (Nat × Nat)} {J0 : Nat → Nat → Int} {k : Nat} {T T' : Nat → Option (Nat × Nat)} {J J' J1 K : Nat → Nat → Int} {P P' : Nat → Nat → Option Nat} {L L' : Nat → Nat → Int64} {z w z' w' zb wb : Nat} {C : a_C}
theorem lo_en_v {c t : Int} (hc : 0 ≤ c ∧ c < 9) (ht : 0 ≤ t ∧ t ≤ 9999) : lo_en c t = t * 512 + (if c % 3 = 0 then 1 else 0) * 256 + a_let c := by
  have hl := a_let_bd c
  have e1 : ((if c < 3 then (119 : Int) else if c < 6 then 110 else 101) - (if c % 3 = 2 then 32 else 0)) = a_let c := by
    unfold a_let
    split <;> (try split) <;> (try split) <;> (try split) <;> (try split) <;> omega
  unfold lo_en
  rw [e1]
  have hv : (if c % 3 = 0 then (1 : Int) else 0) = 0 ∨ (if c % 3 = 0 then (1 : Int) else 0) = 1 := by split <;> omega
  rw [m_shl_v (x := t) (k := 9) (by omega) 9 rfl (by omega) (by show t * 512 < 2147483648; omega), m_shl_v (x := if c % 3 = 0 then 1 else 0) (k := 8) (by omega) 8 rfl (by omega) (by show (if c % 3 = 0 then (1 : Int) else 0) * 256 < 2147483648; omega)]
  rw [m_or_d (q := t) (b := (if c % 3 = 0 then 1 else 0) * ((2 ^ 8 : Nat) : Int)) 9 ht.1 (by show 0 ≤ (if c % 3 = 0 then (1 : Int) else 0) * 256 ∧ (if c % 3 = 0 then (1 : Int) else 0) * 256 < 512; omega) (by show t * 512 + (if c % 3 = 0 then (1 : Int) else 0) * 256 < 2147483648; omega)]
  have e2 : t * ((2 ^ 9 : Nat) : Int) + (if c % 3 = 0 then 1 else 0) * ((2 ^ 8 : Nat) : Int) = (t * 2 + (if c % 3 = 0 then 1 else 0)) * ((2 ^ 8 : Nat) : Int) := by
    show t * 512 + (if c % 3 = 0 then 1 else 0) * 256 = (t * 2 + (if c % 3 = 0 then 1 else 0)) * 256
    omega
  rw [e2, m_or_d (q := t * 2 + (if c % 3 = 0 then 1 else 0)) (b := a_let c) 8 (by omega) (by show 0 ≤ a_let c ∧ a_let c < 256; omega) (by show (t * 2 + (if c % 3 = 0 then 1 else 0)) * 256 + a_let c < 2147483648; omega)]
  show (t * 2 + (if c % 3 = 0 then 1 else 0)) * 256 + a_let c = _
  omega
theorem mo_R_r {B : Nat} {r r' : Nat → Int} (h : mo_R J M B r) (e : ∀ i, i < 23 → r' i = r i) : mo_R J M B r' := by
  obtain ⟨h1, h2, h3, h4, h5⟩ := h
  have e7 : ∀ i : Nat, i < 16 → r' (7 + i) = r (7 + i) := fun i hi => e _ (by omega)
  unfold mo_R
  rw [e 0 (by omega), e 1 (by omega), e 2 (by omega), e 3 (by omega), e 4 (by omega), e 5 (by omega)]
  exact ⟨h1, fun i hi => by rw [e7 i hi]; exact h2 i hi, h3, h4, h5⟩
theorem lo_R_r {f r r' : Nat → Int} {e s t : Int} (h : lo_R f e s t r) (q : ∀ i, i < 143 → r' i = r i) : lo_R f e s t r' := by
  obtain ⟨h1, h2, h3⟩ := h
  unfold lo_R
  rw [q 6 (by omega)]
  refine ⟨h1, h2, fun k hk => ?_⟩
  rw [q _ (by omega), q _ (by omega), q _ (by omega)]
  exact h3 k hk
theorem lo_R_f {f f' r : Nat → Int} {e s t : Int} (h : lo_R f e s t r) (he : 0 ≤ e ∧ e < 70) (ht : t ≤ 30) (q : ∀ i, i < 70 → f' i = f i) : lo_R f' e s t r := by
  obtain ⟨h1, h2, h3⟩ := h
  refine ⟨h1, h2, fun k hk => ?_⟩
  have := lo_at_b he (k := (k : Int) + t) (by omega)
  rw [q _ (by omega)]
  exact h3 k hk
theorem lo_R_add {f f' r : Nat → Int} {e s t : Int} (he : 0 ≤ e ∧ e < 70) (hs : 0 ≤ s ∧ s ≤ 70) (hf : ∀ i : Nat, i < 70 → i ≠ e.toNat → f' i = f i) (ht : t ≤ 29) (h : lo_R f e s t r) : lo_R f' (if e + 1 < 70 then e + 1 else 0) (min 70 (s + 1)) (t + 1) r := by
  obtain ⟨h1, h2, h3⟩ := h
  refine ⟨by omega, by omega, fun k hk => ?_⟩
  have e1 : lo_at (if e + 1 < 70 then e + 1 else 0) ((k : Int) + (t + 1)) = lo_at e ((k : Int) + t) := by
    unfold lo_at
    split <;> split <;> split <;> omega
  have e2 : (0 ≤ lo_at e ((k : Int) + t) ∧ lo_at e ((k : Int) + t) < 70) ∧ lo_at e ((k : Int) + t) ≠ e := by
    unfold lo_at
    split <;> omega
  rw [e1, hf _ (by omega) (by omega)]
  exact h3 k hk
theorem lo_R_new {f f' r r' : Nat → Int} {e s c n : Int} (he : 0 ≤ e ∧ e < 70) (hs : 0 ≤ s ∧ s ≤ 70) (hc : 0 ≤ c ∧ c < 9) (ht : 0 ≤ r 1 ∧ r 1 ≤ 9999) (hf : ∀ i : Nat, i < 70 → i ≠ e.toNat → f' i = f i) (hv : f' e.toNat = lo_en c (r 1)) (hr : ∀ i, r' i = a_tik r c n i) (h : lo_R f e s 0 r) : lo_R f' (if e + 1 < 70 then e + 1 else 0) (min 70 (s + 1)) 0 r' := by
  obtain ⟨h1, h2, h3⟩ := h
  have h6 : r' 6 = if r 6 < 40 then r 6 + 1 else 40 := by rw [hr]; rfl
  refine ⟨by omega, by rw [h6]; split <;> omega, fun k hk => ?_⟩
  have hk40 : k < 40 := by rw [h6] at hk; split at hk <;> omega
  cases k with
  | zero =>
    have e1 : lo_at (if e + 1 < 70 then e + 1 else 0) (((0 : Nat) : Int) + 0) = e := by
      unfold lo_at
      split <;> split <;> omega
    have a1 : r' (23 + 0) = a_let c := by rw [hr]; rfl
    have a2 : r' (63 + 0) = if c % 3 = 0 then 1 else 0 := by rw [hr]; rfl
    have a3 : r' (103 + 0) = r 1 := by rw [hr]; rfl
    have hl := a_let_bd c
    rw [e1, hv, lo_en_v hc ht, a1, a2, a3]
    have hv : (if c % 3 = 0 then (1 : Int) else 0) = 0 ∨ (if c % 3 = 0 then (1 : Int) else 0) = 1 := by split <;> omega
    omega
  | succ k =>
    have e1 : lo_at (if e + 1 < 70 then e + 1 else 0) (((k + 1 : Nat) : Int) + 0) = lo_at e ((k : Int) + 0) := by
      unfold lo_at
      split <;> split <;> split <;> omega
    have e2 : (0 ≤ lo_at e ((k : Int) + 0) ∧ lo_at e ((k : Int) + 0) < 70) ∧ lo_at e ((k : Int) + 0) ≠ e := by
      unfold lo_at
      split <;> omega
    have a1 : ∀ b, b = 23 ∨ b = 63 ∨ b = 103 → r' (b + (k + 1)) = r (b + k) := fun b hb => by
      rw [hr]
      unfold a_tik
      rw [if_neg (by omega), if_neg (by omega), if_neg (by omega), if_neg (by omega), if_neg (by omega), if_pos (by omega), show b + (k + 1) - 1 = b + k from by omega]
    rw [e1, hf _ (by omega) (by omega), a1 23 (by omega), a1 63 (by omega), a1 103 (by omega)]
    refine h3 k ?_
    rw [h6] at hk
    split at hk <;> omega
/-- where the rows of the past lie, one more kept -/
theorem pa_ix_s {e n k : Int} (he : 0 ≤ e ∧ e < 30) (hn : 0 ≤ n ∧ n ≤ 30) : (k < n → n < 30 → 0 ≤ k → pa_ix (if e + 1 < 30 then e + 1 else 0) (n + 1) k = pa_ix e n k ∧ pa_ix e n k ≠ e) ∧ (k = n → pa_ix (if e + 1 < 30 then e + 1 else 0) (n + 1) k = e) ∧
    (n = 30 → 0 ≤ k → k < 29 → pa_ix (if e + 1 < 30 then e + 1 else 0) 30 k = pa_ix e 30 (k + 1) ∧ pa_ix e 30 (k + 1) ≠ e) ∧ (k = 29 → pa_ix (if e + 1 < 30 then e + 1 else 0) 30 k = e) := by
  unfold pa_ix
  refine ⟨fun a b c => ?_, fun a => ?_, fun a b c => ?_, fun a => ?_⟩
  · split <;> split <;> split <;> omega
  · split <;> split <;> omega
  · split <;> split <;> split <;> omega
  · split <;> split <;> omega
theorem pa_nx_c {r r' s s' : Nat → Int} (h : pa_nx r r') (e : ∀ i, i < 23 → s i = r i) (e' : ∀ i, i < 23 → s' i = r' i) : pa_nx s s' := by
  unfold pa_nx
  rw [e 1 (by omega), e 5 (by omega), e' 1 (by omega), e' 5 (by omega)]
  exact ⟨h.1, fun q => ⟨(h.2 q).1, fun i hi => by rw [e _ (by omega), e' _ (by omega)]; exact (h.2 q).2 i hi⟩⟩
theorem pa_push {F : Nat → Nat → Int} (h : pa_R J X M) (hl0 : lo_R (J (X + 34)) (J (X + 33) 1) (J (X + 33) 2) 0 (J (M + 22))) (hn : 0 ≤ J M 45 ∧ J M 45 ≤ 30)
    (f1 : F (X + 35) 1 = if J (X + 35) 1 + 1 < 30 then J (X + 35) 1 + 1 else 0) (f2 : F (X + 35) 2 = min 30 (J (X + 35) 2 + 1))
    (fs : mo_R F M (X + 37 + 3 * (J (X + 35) 1).toNat) (J (M + 22)))
    (fo : ∀ j : Nat, j < 30 → j ≠ (J (X + 35) 1).toNat → F (X + 37 + 3 * j) = J (X + 37 + 3 * j) ∧ F (X + 37 + 3 * j + 1) = J (X + 37 + 3 * j + 1) ∧ F (X + 37 + 3 * j + 2) = J (X + 37 + 3 * j + 2))
    (m2 : F (M + 2) = J (M + 2)) (m13 : F (M + 13) = J (M + 13)) (f45 : F M 45 = if J M 45 = 30 then 30 else J M 45 + 1) (f23 : ∀ i, F (M + 23) i = md_rem J M (M + 23) i)
    (hnx : pa_nx (J (M + 22)) (F (M + 22))) {dt : Int} (hdt : dt = 0 ∨ dt = 1) (ft : F (M + 22) 1 = J (M + 22) 1 + dt)
    (hL : ∀ t r, t ≤ 29 → lo_R (J (X + 34)) (J (X + 33) 1) (J (X + 33) 2) t r → lo_R (F (X + 34)) (F (X + 33) 1) (F (X + 33) 2) (t + dt) r) : pa_R F X M := by
  obtain ⟨h1, h2, h3, h4, h5⟩ := h
  have he' : 0 ≤ (if J (X + 35) 1 + 1 < 30 then J (X + 35) 1 + 1 else 0) ∧ (if J (X + 35) 1 + 1 < 30 then J (X + 35) 1 + 1 else 0) < 30 := by split <;> omega
  have old : ∀ k : Nat, (k : Int) < J M 45 → pa_ix (J (X + 35) 1) (J M 45) (k : Int) ≠ J (X + 35) 1 → mo_R F M (X + 37 + 3 * (pa_ix (J (X + 35) 1) (J M 45) (k : Int)).toNat) (fun i => J (M + 23) (143 * k + i)) := fun k hk hne => by
    have hb := pa_ix_b h2 hn.2 ⟨Int.natCast_nonneg k, hk⟩
    obtain ⟨a1, a2, a3⟩ := fo (pa_ix (J (X + 35) 1) (J M 45) (k : Int)).toNat (by omega) (by omega)
    exact mo_R_e (h3 k hk).1 a1 a2 a3 m2 m13
  by_cases c : J M 45 = 30
  · rw [if_pos c] at f45
    have r1 : ∀ k i : Nat, k < 29 → i < 143 → F (M + 23) (143 * k + i) = J (M + 23) (143 * (k + 1) + i) := fun k i hk hi => by
      rw [f23, md_rem_30 c, if_pos (by omega), show 143 + (143 * k + i) = 143 * (k + 1) + i from by omega]
    have r2 : ∀ i : Nat, i < 143 → F (M + 23) (143 * 29 + i) = J (M + 22) i := fun i hi => by
      rw [f23, md_rem_30 c, if_neg (by omega), if_pos (by omega), show 143 * 29 + i - 4147 = i from by omega]
    refine ⟨by rw [f2, f45, h1, c]; rfl, by rw [f1]; exact he', fun k hk => ?_, fun k hk => ?_, fun k hk => ?_⟩
    · rw [f1, f45, ft]
      rw [f45] at hk
      obtain ⟨-, -, p3, p4⟩ := pa_ix_s (e := J (X + 35) 1) (n := 30) (k := (k : Int)) h2 (by omega)
      by_cases q : k < 29
      · obtain ⟨p5, p6⟩ := p3 rfl (by omega) (by omega)
        have hk1 := h3 (k + 1) (by omega)
        have := old (k + 1) (by omega) (by rw [c, Int.natCast_add]; exact p6)
        rw [c, Int.natCast_add] at this
        rw [r1 k 1 q (by omega), p5]
        refine ⟨mo_R_r this (fun i hi => r1 k i q (by omega)), ?_, by have := hk1.2.2; omega⟩
        rw [show J (M + 22) 1 + dt - J (M + 23) (143 * (k + 1) + 1) = J (M + 22) 1 - J (M + 23) (143 * (k + 1) + 1) + dt from by omega]
        exact lo_R_r (hL _ _ (by have := hk1.2.2; omega) hk1.2.1) (fun i hi => r1 k i q hi)
      · have hk29 : k = 29 := by omega
        subst hk29
        rw [p4 rfl, r2 1 (by omega)]
        refine ⟨mo_R_r fs (fun i hi => r2 i (by omega)), ?_, by omega⟩
        rw [show J (M + 22) 1 + dt - J (M + 22) 1 = 0 + dt from by omega]
        exact lo_R_r (hL _ _ (by omega) hl0) (fun i hi => r2 i hi)
    · rw [f45] at hk
      by_cases q : k < 28
      · exact pa_nx_c (h4 (k + 1) (by omega)) (fun i hi => r1 k i (by omega) (by omega)) (fun i hi => r1 (k + 1) i (by omega) (by omega))
      · have hk28 : k = 28 := by omega
        subst hk28
        exact pa_nx_c (h5 29 (by omega)) (fun i hi => r1 28 i (by omega) (by omega)) (fun i hi => r2 i (by omega))
    · rw [f45] at hk
      have hk29 : k = 29 := by omega
      subst hk29
      exact pa_nx_c hnx (fun i hi => r2 i (by omega)) (fun i hi => rfl)
  · rw [if_neg c] at f45
    have r1 : ∀ k i : Nat, (k : Int) < J M 45 → i < 143 → F (M + 23) (143 * k + i) = J (M + 23) (143 * k + i) := fun k i hk hi => by
      rw [f23, md_rem_n (by omega), if_neg (by omega)]
    have r2 : ∀ k i : Nat, (k : Int) = J M 45 → i < 143 → F (M + 23) (143 * k + i) = J (M + 22) i := fun k i hk hi => by
      rw [f23, md_rem_n (by omega), if_pos (by omega), show 143 * k + i - (143 * J M 45).toNat = i from by omega]
    refine ⟨by rw [f2, f45, h1]; omega, by rw [f1]; exact he', fun k hk => ?_, fun k hk => ?_, fun k hk => ?_⟩
    · rw [f1, f45, ft]
      rw [f45] at hk
      obtain ⟨p3, p4, -, -⟩ := pa_ix_s (e := J (X + 35) 1) (n := J M 45) (k := (k : Int)) h2 hn
      by_cases q : (k : Int) < J M 45
      · obtain ⟨p5, p6⟩ := p3 q (by omega) (by omega)
        have hk1 := h3 k q
        rw [r1 k 1 q (by omega), p5]
        refine ⟨mo_R_r (old k q p6) (fun i hi => r1 k i q (by omega)), ?_, by have := hk1.2.2; omega⟩
        rw [show J (M + 22) 1 + dt - J (M + 23) (143 * k + 1) = J (M + 22) 1 - J (M + 23) (143 * k + 1) + dt from by omega]
        exact lo_R_r (hL _ _ (by have := hk1.2.2; omega) hk1.2.1) (fun i hi => r1 k i q hi)
      · have hke : (k : Int) = J M 45 := by omega
        rw [p4 hke, r2 k 1 hke (by omega)]
        refine ⟨mo_R_r fs (fun i hi => r2 k i hke (by omega)), ?_, by omega⟩
        rw [show J (M + 22) 1 + dt - J (M + 22) 1 = 0 + dt from by omega]
        exact lo_R_r (hL _ _ (by omega) hl0) (fun i hi => r2 k i hke hi)
    · rw [f45] at hk
      by_cases q : (k : Int) + 1 < J M 45
      · exact pa_nx_c (h4 k q) (fun i hi => r1 k i (by omega) (by omega)) (fun i hi => r1 (k + 1) i (by omega) (by omega))
      · exact pa_nx_c (h5 k (by omega)) (fun i hi => r1 k i (by omega) (by omega)) (fun i hi => r2 (k + 1) i (by omega) (by omega))
    · rw [f45] at hk
      exact pa_nx_c hnx (fun i hi => r2 k i (by omega) (by omega)) (fun i hi => rfl)
end TPU
