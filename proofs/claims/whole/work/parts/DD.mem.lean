/-! every state of a way, but for two at its begin and one at its end, has such a key -/
section QM
variable {C : a_C} {σ τ ρ π : a_S}
theorem q_16 : ∀ X : Nat, X < 16 → X ∈ [0, 1, 2, 3, 4, 5, 6, 7, 8, 9, 10, 11, 12, 13, 14, 15] := by decide
theorem q_9 : ∀ X : Nat, X < 9 → X ∈ [0, 1, 2, 3, 4, 5, 6, 7, 8] := by decide
theorem q_5 : ∀ X : Nat, X < 5 → X ∈ [0, 1, 2, 3, 4] := by decide
theorem q_4 : ∀ X : Nat, X < 4 → X ∈ [0, 1, 2, 3] := by decide
theorem q_in_of {m X V S L A : Nat} (hA : A < 3) (h : q_iA m X V S L A = true) : q_in m X V S L = true := by
  unfold q_in
  match A, hA, h with
  | 0, _, h => rw [h]; rfl
  | 1, _, h => rw [h]; simp
  | 2, _, h => rw [h]; simp
theorem q_o1_of {c X V S L A : Nat} (hA : A < 3) (h : q_oA c X V S L A = true) : q_o1 c X V S L = true := by
  unfold q_o1
  match A, hA, h with
  | 0, _, h => rw [h]; rfl
  | 1, _, h => rw [h]; simp
  | 2, _, h => rw [h]; simp
theorem q_mem_of {X V S L m : Nat} (hX : X < 16) (hV : V < 5) (hS : S < 9) (hL : L < 9) (hm : m < 4) (h1 : q_ok X V S L = true) (h2 : q_g X V S L m = true) : 4 * (((X * 5 + V) * 9 + S) * 9 + L) + m ∈ q_L := by
  unfold q_L
  refine List.mem_flatMap.mpr ⟨X, q_16 X hX, List.mem_flatMap.mpr ⟨V, q_5 V hV, List.mem_flatMap.mpr ⟨S, q_9 S hS, List.mem_flatMap.mpr ⟨L, q_9 L hL, List.mem_map.mpr ⟨m, ?_, rfl⟩⟩⟩⟩⟩
  unfold q_l4
  rw [if_pos h1]
  exact List.mem_filter.mpr ⟨q_4 m hm, h2⟩
/-- what a step tells, number by number -/
theorem q_stp (h : w_E C 0 σ τ) : ∃ a : Int, (-1 ≤ a ∧ a ≤ 1) ∧ τ.1 = σ.1 + τ.2.1 ∧ τ.2.1 = σ.2.1 + a ∧ τ.2.2.1 = a_gr τ.2.2.2.2 * σ.2.2.1 - σ.2.2.2.1 - a ∧ τ.2.2.2.1 = σ.2.2.1 := by
  obtain ⟨c, c0, -, c1, c2⟩ := h
  refine ⟨c / 3 - 1, by omega, ?_, ?_, ?_, ?_⟩
  · rw [c2]; rfl
  · rw [c2]; rfl
  · rw [c2]; unfold a_step; dsimp only; omega
  · rw [c2]; rfl
theorem a_gr_q {d : Int} (h : 1 ≤ d ∧ d ≤ 6) : (a_gr d = -1 ∧ q_m d = 0) ∨ (a_gr d = 0 ∧ (q_m d = 1 ∨ q_m d = 2)) ∨ (a_gr d = 1 ∧ q_m d = 3) := by
  unfold a_gr q_m
  repeat' split
  all_goals omega
/-- column and load are within sixteen columns -/
theorem q_bd (ok : a_ok C) (h : a_is C σ = true) : a_bx σ ∧ (0 ≤ σ.1 + σ.2.2.1 ∧ σ.1 + σ.2.2.1 < 16) := by
  have k := ok.1
  have g := (a_why_0 (a_is_spec h).1).2.2.2.2.1
  exact ⟨a_is_bx ok h, by omega⟩
set_option maxHeartbeats 2000000 in
theorem q_mem (ok : a_ok C) (h0 : a_is C π = true) (e1 : w_E C 0 π ρ) (e2 : w_E C 0 ρ σ) (e3 : w_E C 0 σ τ) : q_k σ ∈ q_L := by
  obtain ⟨b0, y0⟩ := q_bd ok h0
  obtain ⟨b1, y1⟩ := q_bd ok (q_is e1)
  obtain ⟨b2, y2⟩ := q_bd ok (q_is e2)
  obtain ⟨b3, y3⟩ := q_bd ok (q_is e3)
  obtain ⟨a1, ha1, p1, p2, p3, p4⟩ := q_stp e1
  obtain ⟨a2, ha2, r1, r2, r3, r4⟩ := q_stp e2
  obtain ⟨a3, ha3, s1, s2, s3, s4⟩ := q_stp e3
  have g1 := a_gr_q b2.2.2.2.2
  have g3 := a_gr_q b3.2.2.2.2
  have d3 := q_d e3
  have dq : (q_m σ.2.2.2.2 = 0 → a_gr τ.2.2.2.2 = -1 ∨ a_gr τ.2.2.2.2 = 0) ∧ (q_m σ.2.2.2.2 = 3 → a_gr τ.2.2.2.2 = 0 ∨ a_gr τ.2.2.2.2 = 1) := by
    unfold q_m a_gr
    repeat' split
    all_goals omega
  have hm := q_m_lt σ.2.2.2.2
  unfold a_bx at b0 b1 b2 b3
  unfold q_k q_c
  obtain ⟨X, hX⟩ : ∃ X : Nat, σ.1 = X := ⟨σ.1.toNat, by omega⟩
  obtain ⟨V, hV⟩ : ∃ V : Nat, σ.2.1 = (V : Int) - 2 := ⟨(σ.2.1 + 2).toNat, by omega⟩
  obtain ⟨S, hS⟩ : ∃ S : Nat, σ.2.2.1 = (S : Int) - 4 := ⟨(σ.2.2.1 + 4).toNat, by omega⟩
  obtain ⟨L, hL⟩ : ∃ L : Nat, σ.2.2.2.1 = (L : Int) - 4 := ⟨(σ.2.2.2.1 + 4).toNat, by omega⟩
  obtain ⟨A, hA⟩ : ∃ A : Nat, a2 = (A : Int) - 1 := ⟨(a2 + 1).toNat, by omega⟩
  obtain ⟨B, hB⟩ : ∃ B : Nat, a3 = (B : Int) - 1 := ⟨(a3 + 1).toNat, by omega⟩
  have ek : (((σ.1 * 5 + σ.2.1 + 2) * 9 + σ.2.2.1 + 4) * 9 + σ.2.2.2.1 + 4).toNat = ((X * 5 + V) * 9 + S) * 9 + L := by rw [hX, hV, hS, hL]; omega
  rw [ek]
  generalize q_m σ.2.2.2.2 = m at *
  generalize a_gr σ.2.2.2.2 = gσ at *
  generalize a_gr τ.2.2.2.2 = gτ at *
  have hok : q_ok X V S L = true := by
    unfold q_ok
    simp only [Bool.and_eq_true, Nat.ble_eq]
    omega
  have hin : q_iy m X V S L = true ∧ q_iA m X V S L A = true := by
    rcases g1 with ⟨g, rfl⟩ | ⟨g, rfl | rfl⟩ | ⟨g, rfl⟩
    all_goals
      subst g
      unfold q_iy q_iA
      simp only [Bool.and_eq_true, Nat.ble_eq]
      omega
  have hou : q_ou m X V S L = true := by
    have k0 : gτ = -1 → q_oA 0 X V S L B = true := fun g => by
      subst g
      unfold q_oA
      simp only [Bool.and_eq_true, Nat.ble_eq]
      omega
    have k1 : gτ = 0 → q_oA 1 X V S L B = true := fun g => by
      subst g
      unfold q_oA
      simp only [Bool.and_eq_true, Nat.ble_eq]
      omega
    have k2 : gτ = 1 → q_oA 2 X V S L B = true := fun g => by
      subst g
      unfold q_oA
      simp only [Bool.and_eq_true, Nat.ble_eq]
      omega
    have B3 : B < 3 := by omega
    have gg : gτ = -1 ∨ gτ = 0 ∨ gτ = 1 := by omega
    unfold q_ou
    split
    · rcases dq.1 rfl with g | g
      · rw [q_o1_of B3 (k0 g)]; rfl
      · rw [q_o1_of B3 (k1 g), Bool.or_true]
    · rcases dq.2 rfl with g | g
      · rw [q_o1_of B3 (k1 g)]; rfl
      · rw [q_o1_of B3 (k2 g), Bool.or_true]
    · rcases gg with g | g | g
      · rw [q_o1_of B3 (k0 g)]; rfl
      · rw [q_o1_of B3 (k1 g), Bool.or_true]; rfl
      · rw [q_o1_of B3 (k2 g), Bool.or_true]
  refine q_mem_of (by omega) (by omega) (by omega) (by omega) hm hok ?_
  unfold q_g
  rw [hin.1, q_in_of (by omega) hin.2, hou]
  rfl
/-- a shortest way has fewer than 14240 steps -/
theorem q_14 (ok : a_ok C) (hσ : a_is C σ = true) {t : Nat} (h : b_D (fun x => x = σ) (w_E C 0) t τ) (hmin : ∀ t', b_D (fun x => x = σ) (w_E C 0) t' τ → t ≤ t') : t < 14240 := by
  obtain ⟨f, f1, f2, f3, f4⟩ := b_short h hmin
  have hs : a_is C (f 0) = true := by rw [f2]; exact hσ
  have hst : ∀ i, i ≤ t → a_is C (f i) = true := fun i hi => by
    cases i with
    | zero => exact hs
    | succ i => exact q_is (f3 i (by omega))
  rw [← f1] at hmin
  have hpig := b_pig (t - 3) q_L (fun i => q_k (f (i + 2))) (fun i j hi hj q => by
    rcases Nat.lt_trichotomy i j with g | g | g
    · exact absurd q (q_inj (S := fun x => x = σ) ok f2 hs f3 hmin f4 (by omega) (by omega) (by omega))
    · exact g
    · exact absurd q.symm (q_inj (S := fun x => x = σ) ok f2 hs f3 hmin f4 (by omega) (by omega) (by omega))) (fun i hi => q_mem ok (hst i (by omega)) (f3 i (by omega)) (f3 (i + 1) (by omega)) (f3 (i + 2) (by omega)))
  rw [q_len] at hpig
  omega
end QM
