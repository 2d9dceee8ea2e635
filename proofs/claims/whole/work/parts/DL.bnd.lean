/-! the bound of a way by its keys -/
section QO
variable {C : a_C} {σ τ ρ π κ : a_S}
/-- the column of the load two steps ahead -/
def q_u (σ : a_S) : Int := σ.1 - 2 * σ.2.1 + a_gr σ.2.2.2.2 * σ.2.2.2.1 - σ.2.2.1
def q_k2 (σ : a_S) : Nat := q_ky (q_m σ.2.2.2.2) (σ.1 + σ.2.2.1).toNat (σ.1 - σ.2.1 + σ.2.2.2.1).toNat (q_u σ).toNat (σ.2.1 + 2).toNat
theorem q_ld (ok : a_ok C) (h : a_is C σ = true) : c_g C (σ.1 + σ.2.2.1).toNat = true ∧ (3 ≤ σ.2.2.2.2 → c_H C (σ.1 + σ.2.2.1).toNat = true) := by
  have h0 := a_why_0 (a_is_spec h).1
  have h1 := ((a_cl_iff C σ).mp h0.2.2.2.2.2).2
  have h2 := h0.2.2.2.2.1
  have h3 := h0.2.2.1
  have e : (((σ.1 + σ.2.2.1).toNat : Nat) : Int) = σ.1 + σ.2.2.1 := by omega
  unfold c_g c_H
  rw [e]
  exact ⟨decide_eq_true ⟨by omega, by omega⟩, fun q => decide_eq_true ⟨by omega, by omega, by omega⟩⟩
theorem c_gB_of {c : Nat} (h : c_g C c = true) : c_gB C c = true := by
  unfold c_gB
  split
  · exact h
  · rfl
theorem q_LL_m {g H : Nat → Bool} {m b y t u V : Nat} (hy : y < 16) (ht : t < 16) (hu : u < 16) (hV : V < 5) (gy : g y = true) (gt : g t = true) (gu : g u = true) (ha : q_a b u t y V = true) (hm : (m = 0 ∧ b = 0) ∨ (m = 1 ∧ b = 1 ∧ H y = true) ∨ (m = 2 ∧ b = 1 ∧ H y = true ∧ H t = true) ∨ (m = 3 ∧ b = 2 ∧ H y = true ∧ H t = true)) : q_ky m y t u V ∈ q_LL g H := by
  have hK : q_ky m y t u V ∈ q_Km m b y t u := List.mem_map.mpr ⟨V, List.mem_filter.mpr ⟨q_5 V hV, ha⟩, rfl⟩
  unfold q_LL
  refine List.mem_flatMap.mpr ⟨y, q_16 y hy, ?_⟩
  rw [if_pos gy]
  refine List.mem_flatMap.mpr ⟨t, q_16 t ht, ?_⟩
  rw [if_pos gt]
  refine List.mem_flatMap.mpr ⟨u, q_16 u hu, ?_⟩
  rw [if_pos gu]
  unfold q_Lu
  rcases hm with ⟨rfl, rfl⟩ | ⟨rfl, rfl, h1⟩ | ⟨rfl, rfl, h1, h2⟩ | ⟨rfl, rfl, h1, h2⟩
  · exact List.mem_append_left _ hK
  · refine List.mem_append_right _ (List.mem_append_left _ ?_)
    rw [if_pos h1]
    exact hK
  · refine List.mem_append_right _ (List.mem_append_right _ ?_)
    rw [if_pos ⟨h1, h2⟩]
    exact List.mem_append_left _ hK
  · refine List.mem_append_right _ (List.mem_append_right _ ?_)
    rw [if_pos ⟨h1, h2⟩]
    exact List.mem_append_right _ hK
set_option maxHeartbeats 2000000 in
theorem q_mem2 (ok : a_ok C) (h0 : a_is C π = true) (e1 : w_E C 0 π ρ) (e2 : w_E C 0 ρ σ) (e3 : w_E C 0 σ τ) (e4 : w_E C 0 τ κ) : q_k2 σ ∈ q_LL (c_gB C) (c_H C) := by
  obtain ⟨b0, y0⟩ := q_bd ok h0
  obtain ⟨b1, y1⟩ := q_bd ok (q_is e1)
  obtain ⟨b2, y2⟩ := q_bd ok (q_is e2)
  obtain ⟨a1, ha1, p1, p2, p3, p4⟩ := q_stp e1
  obtain ⟨a2, ha2, r1, r2, r3, r4⟩ := q_stp e2
  have g1 := a_gr_q b2.2.2.2.2
  have d2 := q_d e2
  have hpu := q_pu_ok ok (q_is e2) e3 e4
  obtain ⟨l0, -⟩ := q_ld ok h0
  obtain ⟨l1, m1⟩ := q_ld ok (q_is e1)
  obtain ⟨l2, m2⟩ := q_ld ok (q_is e2)
  have et : σ.1 - σ.2.1 + σ.2.2.2.1 = ρ.1 + ρ.2.2.1 := by omega
  have eu : q_u σ = π.1 + π.2.2.1 := by
    unfold q_u
    rw [r4]
    generalize a_gr σ.2.2.2.2 = gσ at *
    rcases g1 with ⟨g, -⟩ | ⟨g, -⟩ | ⟨g, -⟩
    all_goals
      subst g
      omega
  have hm : (q_m σ.2.2.2.2 = 0 ∧ q_bb σ.2.2.2.2 = 0) ∨ (q_m σ.2.2.2.2 = 1 ∧ q_bb σ.2.2.2.2 = 1 ∧ c_H C (σ.1 + σ.2.2.1).toNat = true) ∨ (q_m σ.2.2.2.2 = 2 ∧ q_bb σ.2.2.2.2 = 1 ∧ c_H C (σ.1 + σ.2.2.1).toNat = true ∧ c_H C (ρ.1 + ρ.2.2.1).toNat = true) ∨ (q_m σ.2.2.2.2 = 3 ∧ q_bb σ.2.2.2.2 = 2 ∧ c_H C (σ.1 + σ.2.2.1).toNat = true ∧ c_H C (ρ.1 + ρ.2.2.1).toNat = true) := by
    have hd := b2.2.2.2.2
    have hr := b1.2.2.2.2
    rcases (show σ.2.2.2.2 < 3 ∨ σ.2.2.2.2 = 3 ∨ σ.2.2.2.2 = 4 ∨ 5 ≤ σ.2.2.2.2 by omega) with q | q | q | q
    · refine Or.inl ⟨?_, ?_⟩
      · unfold q_m; rw [if_pos q]
      · unfold q_bb; rw [if_pos q]
    · refine Or.inr (Or.inl ⟨?_, ?_, m2 (by omega)⟩)
      · unfold q_m; rw [if_neg (by omega), if_pos q]
      · unfold q_bb; rw [if_neg (by omega), if_pos (by omega)]
    · refine Or.inr (Or.inr (Or.inl ⟨?_, ?_, m2 (by omega), m1 (by omega)⟩))
      · unfold q_m; rw [if_neg (by omega), if_neg (by omega), if_pos q]
      · unfold q_bb; rw [if_neg (by omega), if_pos (by omega)]
    · refine Or.inr (Or.inr (Or.inr ⟨?_, ?_, m2 (by omega), m1 (by omega)⟩))
      · unfold q_m; rw [if_neg (by omega), if_neg (by omega), if_neg (by omega)]
      · unfold q_bb; rw [if_neg (by omega), if_neg (by omega)]
  have hgr : (q_bb σ.2.2.2.2 = 0 ∧ a_gr σ.2.2.2.2 = -1) ∨ (q_bb σ.2.2.2.2 = 1 ∧ a_gr σ.2.2.2.2 = 0) ∨ (q_bb σ.2.2.2.2 = 2 ∧ a_gr σ.2.2.2.2 = 1) := by
    unfold q_bb a_gr
    repeat' split
    all_goals omega
  unfold q_k2
  rw [et, eu]
  refine q_LL_m (b := q_bb σ.2.2.2.2) (by omega) (by omega) (by omega) (by have := b2.2.1; omega) (c_gB_of l2) (c_gB_of l1) (c_gB_of l0) ?_ hm
  unfold q_u at eu
  unfold a_bx at b0 b1 b2
  obtain ⟨X, hX⟩ : ∃ X : Nat, σ.1 = X := ⟨σ.1.toNat, by omega⟩
  obtain ⟨V, hV⟩ : ∃ V : Nat, σ.2.1 = (V : Int) - 2 := ⟨(σ.2.1 + 2).toNat, by omega⟩
  obtain ⟨S, hS⟩ : ∃ S : Nat, σ.2.2.1 = (S : Int) - 4 := ⟨(σ.2.2.1 + 4).toNat, by omega⟩
  obtain ⟨L, hL⟩ : ∃ L : Nat, σ.2.2.2.1 = (L : Int) - 4 := ⟨(σ.2.2.2.1 + 4).toNat, by omega⟩
  obtain ⟨A, hA⟩ : ∃ A : Nat, a2 = (A : Int) - 1 := ⟨(a2 + 1).toNat, by omega⟩
  have eX : σ.1.toNat = X := by omega
  have eV : (σ.2.1 + 2).toNat = V := by omega
  have eS : (σ.2.2.1 + 4).toNat = S := by omega
  have eL : (σ.2.2.2.1 + 4).toNat = L := by omega
  rw [eX, eV, eS, eL] at hpu
  rw [eV]
  have hok : q_ok X V S L = true := by
    unfold q_ok
    simp only [Bool.and_eq_true, Nat.ble_eq]
    omega
  have hy : (σ.1 + σ.2.2.1).toNat = X + S - 4 ∧ 4 ≤ X + S := by omega
  have ht : (ρ.1 + ρ.2.2.1).toNat = X + L - V - 2 ∧ V + 2 ≤ X + L := by omega
  have hx : (σ.1 - σ.2.1).toNat = X + 2 - V ∧ V ≤ X + 2 := by omega
  generalize q_bb σ.2.2.2.2 = b at *
  generalize a_gr σ.2.2.2.2 = gσ at *
  have hin : q_iy (q_mb b) X V S L = true ∧ q_iA (q_mb b) X V S L A = true := by
    rcases hgr with ⟨rfl, g⟩ | ⟨rfl, g⟩ | ⟨rfl, g⟩
    all_goals
      subst g
      unfold q_mb q_iy q_iA
      simp only [Bool.and_eq_true, Nat.ble_eq]
      omega
  have hst : q_st b X V S L = true := by
    unfold q_st
    rw [hok, hin.1, q_in_of (by omega) hin.2, hpu]
    rfl
  have hxb : q_xb b (π.1 + π.2.2.1).toNat (ρ.1 + ρ.2.2.1).toNat (σ.1 + σ.2.2.1).toNat = X + 2 - V ∧ q_xc b (π.1 + π.2.2.1).toNat (ρ.1 + ρ.2.2.1).toNat (σ.1 + σ.2.2.1).toNat (X + 2 - V) = true := by
    rcases hgr with ⟨rfl, g⟩ | ⟨rfl, g⟩ | ⟨rfl, g⟩
    all_goals
      subst g
      unfold q_xb q_xc
      simp only [Nat.beq_eq]
      omega
  unfold q_a
  rw [hxb.1, hxb.2, Bool.true_and]
  unfold q_xa
  have f1 : X + 2 - V + V - 2 = X := by omega
  have f2 : (σ.1 + σ.2.2.1).toNat + 6 - (X + 2 - V + V) = S := by omega
  have f3 : (ρ.1 + ρ.2.2.1).toNat + 4 - (X + 2 - V) = L := by omega
  rw [f1, f2, f3, hst]
  simp only [Bool.and_eq_true, Nat.ble_eq, and_true]
  clear hgr hin hst hxb hok hpu g1 eu et r1 r2 r3 r4 p1 p2 p3 p4 b0 b1
  omega
/-- equal keys by loads are equal keys -/
theorem q_k2_k (ok : a_ok C) (h1 : a_is C σ = true) (h2 : a_is C τ = true) (q1 : 0 ≤ σ.1 - σ.2.1 + σ.2.2.2.1 ∧ σ.1 - σ.2.1 + σ.2.2.2.1 < 16) (q2 : 0 ≤ τ.1 - τ.2.1 + τ.2.2.2.1 ∧ τ.1 - τ.2.1 + τ.2.2.2.1 < 16) (q3 : 0 ≤ q_u σ ∧ q_u σ < 16) (q4 : 0 ≤ q_u τ ∧ q_u τ < 16) (e : q_k2 σ = q_k2 τ) : q_k σ = q_k τ := by
  obtain ⟨b1, y1⟩ := q_bd ok h1
  obtain ⟨b2, y2⟩ := q_bd ok h2
  have m1 := q_m_lt σ.2.2.2.2
  have m2 := q_m_lt τ.2.2.2.2
  have v1 := b1.2.1
  have v2 := b2.2.1
  unfold q_k2 q_ky at e
  have e5 : q_m σ.2.2.2.2 = q_m τ.2.2.2.2 := by omega
  have e4 : σ.1 + σ.2.2.1 = τ.1 + τ.2.2.1 := by omega
  have e3 : σ.1 - σ.2.1 + σ.2.2.2.1 = τ.1 - τ.2.1 + τ.2.2.2.1 := by omega
  have e2 : q_u σ = q_u τ := by omega
  have e1 : σ.2.1 = τ.2.1 := by omega
  have hg := (q_m_gr b1.2.2.2.2 b2.2.2.2.2 e5).1
  have g1 := a_gr_q b1.2.2.2.2
  unfold q_u at e2
  rw [hg] at e2 g1
  have e6 : σ.1 = τ.1 := by
    generalize a_gr τ.2.2.2.2 = gσ at *
    rcases g1 with ⟨g, -⟩ | ⟨g, -⟩ | ⟨g, -⟩
    all_goals
      subst g
      omega
  unfold q_k q_c
  rw [e5, e6, e1, show σ.2.2.1 = τ.2.2.1 by omega, show σ.2.2.2.1 = τ.2.2.2.1 by omega]
/-- a shortest way by the columns that bear a load -/
theorem q_way (ok : a_ok C) (hσ : a_is C σ = true) {t : Nat} (h : b_D (fun x => x = σ) (w_E C 0) t τ) (hmin : ∀ t', b_D (fun x => x = σ) (w_E C 0) t' τ → t ≤ t') : t ≤ (q_LL (c_gB C) (c_H C)).length + 3 := by
  obtain ⟨f, f1, f2, f3, f4⟩ := b_short h hmin
  have hs : a_is C (f 0) = true := by rw [f2]; exact hσ
  have hst : ∀ i, i ≤ t → a_is C (f i) = true := fun i hi => by
    cases i with
    | zero => exact hs
    | succ i => exact q_is (f3 i (by omega))
  rw [← f1] at hmin
  have hb : ∀ i, i + 2 ≤ t → (0 ≤ (f (i + 2)).1 - (f (i + 2)).2.1 + (f (i + 2)).2.2.2.1 ∧ (f (i + 2)).1 - (f (i + 2)).2.1 + (f (i + 2)).2.2.2.1 < 16) ∧ (0 ≤ q_u (f (i + 2)) ∧ q_u (f (i + 2)) < 16) := fun i hi => by
    obtain ⟨-, y0⟩ := q_bd ok (hst i (by omega))
    obtain ⟨-, y1⟩ := q_bd ok (hst (i + 1) (by omega))
    obtain ⟨b2, -⟩ := q_bd ok (hst (i + 2) hi)
    obtain ⟨a1, ha1, p1, p2, p3, p4⟩ := q_stp (f3 i (by omega))
    have e2 : w_E C 0 (f (i + 1)) (f (i + 2)) := f3 (i + 1) (by omega)
    obtain ⟨a2, ha2, r1, r2, r3, r4⟩ := q_stp e2
    have g1 := a_gr_q b2.2.2.2.2
    refine ⟨by omega, ?_⟩
    unfold q_u
    rw [r4]
    generalize a_gr (f (i + 2)).2.2.2.2 = gσ at *
    rcases g1 with ⟨g, -⟩ | ⟨g, -⟩ | ⟨g, -⟩
    all_goals
      subst g
      omega
  have hne : ∀ i j, i < j → j < t - 3 → q_k2 (f (i + 2)) ≠ q_k2 (f (j + 2)) := fun i j hij hj q =>
    q_inj (S := fun x => x = σ) ok f2 hs f3 hmin f4 (i := i + 2) (j := j + 2) (by omega) (by omega) (by omega) (q_k2_k ok (hst _ (by omega)) (hst _ (by omega)) (hb i (by omega)).1 (hb j (by omega)).1 (hb i (by omega)).2 (hb j (by omega)).2 q)
  have hpig := b_pig (t - 3) (q_LL (c_gB C) (c_H C)) (fun i => q_k2 (f (i + 2))) (fun i j hi hj q => by
    rcases Nat.lt_trichotomy i j with g | g | g
    · exact absurd q (hne i j g hj)
    · exact g
    · exact absurd q.symm (hne j i g hi)) (fun i hi => q_mem2 ok (hst i (by omega)) (f3 i (by omega)) (f3 (i + 1) (by omega)) (f3 (i + 2) (by omega)) (f3 (i + 3) (by omega)))
  omega
end QO
