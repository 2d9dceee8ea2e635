/-! every state of a way, but for two at its begin and two at its end, has its key in the list -/
/-- a column bears a still load; a deep one bears it in depth 3 -/
def c_g (C : a_C) (c : Nat) : Bool := decide ((c : Int) < C.1 ∧ 1 + C.2.2.2.2.1 ≤ C.2.2.2.2.2 (c : Int))
def c_H (C : a_C) (c : Nat) : Bool := decide ((c : Int) < C.1 ∧ 3 + C.2.2.2.2.1 ≤ C.2.2.2.2.2 (c : Int) ∧ 3 ≤ C.2.1)
def c_gB (C : a_C) (c : Nat) : Bool := if 3 ≤ c ∧ c ≤ 12 then c_g C c else true
section QN
variable {C : a_C} {σ τ ρ π κ : a_S}
/-- there is one behind it -/
theorem q_ou_ok (ok : a_ok C) (h : a_is C σ = true) (e3 : w_E C 0 σ τ) : q_ou (q_m σ.2.2.2.2) σ.1.toNat (σ.2.1 + 2).toNat (σ.2.2.1 + 4).toNat (σ.2.2.2.1 + 4).toNat = true ∧ ∃ A : Nat, A < 3 ∧ τ.2.1 = σ.2.1 + (A : Int) - 1 ∧ ((a_gr τ.2.2.2.2 = -1 ∧ q_oA 0 σ.1.toNat (σ.2.1 + 2).toNat (σ.2.2.1 + 4).toNat (σ.2.2.2.1 + 4).toNat A = true) ∨ (a_gr τ.2.2.2.2 = 0 ∧ q_oA 1 σ.1.toNat (σ.2.1 + 2).toNat (σ.2.2.1 + 4).toNat (σ.2.2.2.1 + 4).toNat A = true) ∨ (a_gr τ.2.2.2.2 = 1 ∧ q_oA 2 σ.1.toNat (σ.2.1 + 2).toNat (σ.2.2.1 + 4).toNat (σ.2.2.2.1 + 4).toNat A = true)) := by
  obtain ⟨b2, y2⟩ := q_bd ok h
  obtain ⟨b3, y3⟩ := q_bd ok (q_is e3)
  obtain ⟨a3, ha3, s1, s2, s3, s4⟩ := q_stp e3
  have g1 := a_gr_q b2.2.2.2.2
  have g3 := a_gr_q b3.2.2.2.2
  have d3 := q_d e3
  have dq : (q_m σ.2.2.2.2 = 0 → a_gr τ.2.2.2.2 = -1 ∨ a_gr τ.2.2.2.2 = 0) ∧ (q_m σ.2.2.2.2 = 3 → a_gr τ.2.2.2.2 = 0 ∨ a_gr τ.2.2.2.2 = 1) := by
    unfold q_m a_gr
    repeat' split
    all_goals omega
  have hm := q_m_lt σ.2.2.2.2
  unfold a_bx at b2 b3
  obtain ⟨X, hX⟩ : ∃ X : Nat, σ.1 = X := ⟨σ.1.toNat, by omega⟩
  obtain ⟨V, hV⟩ : ∃ V : Nat, σ.2.1 = (V : Int) - 2 := ⟨(σ.2.1 + 2).toNat, by omega⟩
  obtain ⟨S, hS⟩ : ∃ S : Nat, σ.2.2.1 = (S : Int) - 4 := ⟨(σ.2.2.1 + 4).toNat, by omega⟩
  obtain ⟨L, hL⟩ : ∃ L : Nat, σ.2.2.2.1 = (L : Int) - 4 := ⟨(σ.2.2.2.1 + 4).toNat, by omega⟩
  obtain ⟨B, hB⟩ : ∃ B : Nat, a3 = (B : Int) - 1 := ⟨(a3 + 1).toNat, by omega⟩
  have eX : σ.1.toNat = X := by omega
  have eV : (σ.2.1 + 2).toNat = V := by omega
  have eS : (σ.2.2.1 + 4).toNat = S := by omega
  have eL : (σ.2.2.2.1 + 4).toNat = L := by omega
  rw [eX, eV, eS, eL]
  generalize q_m σ.2.2.2.2 = m at *
  generalize a_gr τ.2.2.2.2 = gτ at *
  have k0 : gτ = -1 → q_oA 0 X V S L B = true := fun g => by
    subst g
    unfold q_oA
    simp only [Bool.and_eq_true, Nat.ble_eq]
    omega
  have k1 : gτ = 0 → q_oA 1 X V S L B = true := fun g => by
    subst g
    unfold q_oA
    simp only [Bool.and_eq_true, Nat.ble_eq]
    omega
  have k2 : gτ = 1 → q_oA 2 X V S L B = true := fun g => by
    subst g
    unfold q_oA
    simp only [Bool.and_eq_true, Nat.ble_eq]
    omega
  have B3 : B < 3 := by omega
  have gg : gτ = -1 ∨ gτ = 0 ∨ gτ = 1 := by omega
  refine ⟨?_, B, B3, by omega, ?_⟩
  · unfold q_ou
    split
    · rcases dq.1 rfl with g | g
      · rw [q_o1_of B3 (k0 g)]; rfl
      · rw [q_o1_of B3 (k1 g), Bool.or_true]
    · rcases dq.2 rfl with g | g
      · rw [q_o1_of B3 (k1 g)]; rfl
      · rw [q_o1_of B3 (k2 g), Bool.or_true]
    · rcases gg with g | g | g
      · rw [q_o1_of B3 (k0 g)]; rfl
      · rw [q_o1_of B3 (k1 g), Bool.or_true]; rfl
      · rw [q_o1_of B3 (k2 g), Bool.or_true]
  · rcases gg with g | g | g
    · exact Or.inl ⟨g, k0 g⟩
    · exact Or.inr (Or.inl ⟨g, k1 g⟩)
    · exact Or.inr (Or.inr ⟨g, k2 g⟩)
theorem q_p1_of {c X V S L A : Nat} (hA : A < 3) (h : q_o2 c X V S L A = true) : q_p1 c X V S L = true := by
  unfold q_p1
  match A, hA, h with
  | 0, _, h => rw [h]; rfl
  | 1, _, h => rw [h]; simp
  | 2, _, h => rw [h]; simp
theorem q_ou12 {X V S L : Nat} : q_ou 2 X V S L = q_ou 1 X V S L := rfl
def q_bb (d : Int) : Nat := if d < 3 then 0 else if d < 5 then 1 else 2
/-- .. and one behind that -/
theorem q_pu_ok (ok : a_ok C) (h : a_is C σ = true) (e3 : w_E C 0 σ τ) (e4 : w_E C 0 τ κ) : q_pu (q_bb σ.2.2.2.2) σ.1.toNat (σ.2.1 + 2).toNat (σ.2.2.1 + 4).toNat (σ.2.2.2.1 + 4).toNat = true := by
  obtain ⟨-, A, hA, hv, hc⟩ := q_ou_ok ok h e3
  obtain ⟨ho, -⟩ := q_ou_ok ok (q_is e3) e4
  obtain ⟨b2, y2⟩ := q_bd ok h
  obtain ⟨b3, y3⟩ := q_bd ok (q_is e3)
  obtain ⟨a3, ha3, s1, s2, s3, s4⟩ := q_stp e3
  have g3 := a_gr_q b3.2.2.2.2
  have d3 := q_d e3
  have dq : (q_bb σ.2.2.2.2 = 0 → a_gr τ.2.2.2.2 = -1 ∨ a_gr τ.2.2.2.2 = 0) ∧ (q_bb σ.2.2.2.2 = 2 → a_gr τ.2.2.2.2 = 0 ∨ a_gr τ.2.2.2.2 = 1) ∧ q_bb σ.2.2.2.2 < 3 := by
    have := b2.2.2.2.2
    have := b3.2.2.2.2
    unfold q_bb a_gr
    repeat' split
    all_goals omega
  unfold a_bx at b2 b3
  have eX : Nat.sub (Nat.add σ.1.toNat (Nat.add (σ.2.1 + 2).toNat A)) 3 = τ.1.toNat := by
    show σ.1.toNat + ((σ.2.1 + 2).toNat + A) - 3 = τ.1.toNat
    omega
  have eV : Nat.sub (Nat.add (σ.2.1 + 2).toNat A) 1 = (τ.2.1 + 2).toNat := by
    show (σ.2.1 + 2).toNat + A - 1 = (τ.2.1 + 2).toNat
    omega
  have eL : (τ.2.2.2.1 + 4).toNat = (σ.2.2.1 + 4).toNat := by rw [s4]
  rw [eL] at ho
  have k0 : a_gr τ.2.2.2.2 = -1 → q_oA 0 σ.1.toNat (σ.2.1 + 2).toNat (σ.2.2.1 + 4).toNat (σ.2.2.2.1 + 4).toNat A = true → q_p1 0 σ.1.toNat (σ.2.1 + 2).toNat (σ.2.2.1 + 4).toNat (σ.2.2.2.1 + 4).toNat = true := fun g q => by
    refine q_p1_of hA ?_
    have em : q_m τ.2.2.2.2 = 0 := by omega
    have eS : Nat.sub 13 (Nat.add (σ.2.2.1 + 4).toNat (Nat.add (σ.2.2.2.1 + 4).toNat A)) = (τ.2.2.1 + 4).toNat := by
      show 13 - ((σ.2.2.1 + 4).toNat + ((σ.2.2.2.1 + 4).toNat + A)) = (τ.2.2.1 + 4).toNat
      rw [g] at s3
      omega
    unfold q_o2
    rw [q, Bool.true_and]
    show q_ou 0 _ _ _ _ = true
    rw [eX, eV, eS]
    rw [em] at ho
    exact ho
  have k1 : a_gr τ.2.2.2.2 = 0 → q_oA 1 σ.1.toNat (σ.2.1 + 2).toNat (σ.2.2.1 + 4).toNat (σ.2.2.2.1 + 4).toNat A = true → q_p1 1 σ.1.toNat (σ.2.1 + 2).toNat (σ.2.2.1 + 4).toNat (σ.2.2.2.1 + 4).toNat = true := fun g q => by
    refine q_p1_of hA ?_
    have em : q_m τ.2.2.2.2 = 1 ∨ q_m τ.2.2.2.2 = 2 := by omega
    have eS : Nat.sub 9 (Nat.add (σ.2.2.2.1 + 4).toNat A) = (τ.2.2.1 + 4).toNat := by
      show 9 - ((σ.2.2.2.1 + 4).toNat + A) = (τ.2.2.1 + 4).toNat
      rw [g] at s3
      omega
    unfold q_o2
    rw [q, Bool.true_and]
    show q_ou 1 _ _ _ _ = true
    rw [eX, eV, eS]
    rcases em with em | em
    · rw [em] at ho; exact ho
    · rw [em] at ho; exact ho
  have k2 : a_gr τ.2.2.2.2 = 1 → q_oA 2 σ.1.toNat (σ.2.1 + 2).toNat (σ.2.2.1 + 4).toNat (σ.2.2.2.1 + 4).toNat A = true → q_p1 2 σ.1.toNat (σ.2.1 + 2).toNat (σ.2.2.1 + 4).toNat (σ.2.2.2.1 + 4).toNat = true := fun g q => by
    refine q_p1_of hA ?_
    have em : q_m τ.2.2.2.2 = 3 := by omega
    have eS : Nat.sub (Nat.add (σ.2.2.1 + 4).toNat 5) (Nat.add (σ.2.2.2.1 + 4).toNat A) = (τ.2.2.1 + 4).toNat := by
      show (σ.2.2.1 + 4).toNat + 5 - ((σ.2.2.2.1 + 4).toNat + A) = (τ.2.2.1 + 4).toNat
      rw [g] at s3
      omega
    unfold q_o2
    rw [q, Bool.true_and]
    show q_ou 3 _ _ _ _ = true
    rw [eX, eV, eS]
    rw [em] at ho
    exact ho
  have hall : (a_gr τ.2.2.2.2 = -1 ∧ q_p1 0 σ.1.toNat (σ.2.1 + 2).toNat (σ.2.2.1 + 4).toNat (σ.2.2.2.1 + 4).toNat = true) ∨ (a_gr τ.2.2.2.2 = 0 ∧ q_p1 1 σ.1.toNat (σ.2.1 + 2).toNat (σ.2.2.1 + 4).toNat (σ.2.2.2.1 + 4).toNat = true) ∨ (a_gr τ.2.2.2.2 = 1 ∧ q_p1 2 σ.1.toNat (σ.2.1 + 2).toNat (σ.2.2.1 + 4).toNat (σ.2.2.2.1 + 4).toNat = true) := by
    rcases hc with ⟨g, q⟩ | ⟨g, q⟩ | ⟨g, q⟩
    · exact Or.inl ⟨g, k0 g q⟩
    · exact Or.inr (Or.inl ⟨g, k1 g q⟩)
    · exact Or.inr (Or.inr ⟨g, k2 g q⟩)
  generalize q_bb σ.2.2.2.2 = b at *
  generalize a_gr τ.2.2.2.2 = gτ at *
  unfold q_pu
  split
  · rcases hall with ⟨g, q⟩ | ⟨g, q⟩ | ⟨g, q⟩
    · rw [q]; rfl
    · rw [q, Bool.or_true]
    · have := dq.1 rfl; omega
  · rcases hall with ⟨g, q⟩ | ⟨g, q⟩ | ⟨g, q⟩
    · rw [q]; rfl
    · rw [q, Bool.or_true]; rfl
    · rw [q, Bool.or_true]
  · rename_i h0 h1
    have hb2 : b = 2 := by
      have := dq.2.2
      rcases (show b = 0 ∨ b = 1 ∨ b = 2 by omega) with e | e | e
      · exact absurd e h0
      · exact absurd e h1
      · exact e
    rcases hall with ⟨g, q⟩ | ⟨g, q⟩ | ⟨g, q⟩
    · have := dq.2.1 hb2; omega
    · rw [q]; rfl
    · rw [q, Bool.or_true]
end QN
