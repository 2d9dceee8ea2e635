/-! EVERY BEST TOUR HAS FEWER THAN 30000 STEPS -/
section VFI
variable {C : a_C} {σ τ π : a_S} {n : Nat} {d0 : Nat → Int} {dl : Nat → Nat → Int} {γ : Nat → a_S} {r : Int}
theorem v_an {E : a_S → a_S → Prop} (h : b_ans (fun x => x = σ) E τ r) : (0 ≤ r → ∃ t, p_ch E t σ τ) ∧ ∀ t, p_ch E t σ τ → 0 ≤ r ∧ r ≤ (t : Int) := by
  rcases h with ⟨t, rfl, h1, h2⟩ | ⟨rfl, h⟩
  · refine ⟨fun _ => ⟨t, (D_p_ch t τ).mp h1⟩, fun t' h' => ⟨by omega, ?_⟩⟩
    have := h2 t' ((D_p_ch t' τ).mpr h')
    omega
  · exact ⟨fun q => by omega, fun t' h' => absurd ((D_p_ch t' τ).mpr h') (h t')⟩
theorem v_D (ok : a_ok C) (hσ : a_is C σ = true) (h : b_ans (fun x => x = σ) (w_E C 0) τ r) {Dv : Nat} (hD : (q_LL (c_gB C) (c_H C)).length ≤ Dv) : r ≤ (Dv : Int) + 3 := by
  rcases h with ⟨t, rfl, h1, h2⟩ | ⟨rfl, h⟩
  · have := q_way ok hσ h1 h2
    omega
  · omega
theorem v_gs (ok : a_ok C) (h : a_is C σ = true) (hr : w_rs σ) : σ = v_s σ.1 σ.2.2.2.2 ∧ c_g C σ.1.toNat = true ∧ ((σ.1.toNat : Nat) : Int) = σ.1 ∧ v_nr C 5 σ (v_s ((σ.1.toNat : Nat) : Int) 1) ∧ v_nr C 5 (v_s ((σ.1.toNat : Nat) : Int) 1) σ := by
  obtain ⟨r1, r2, r3⟩ := hr
  have e : σ = v_s σ.1 σ.2.2.2.2 := Prod.ext rfl (Prod.ext r1 (Prod.ext r2 (Prod.ext r3 rfl)))
  have hb := (a_is_bx ok h)
  have e2 : ((σ.1.toNat : Nat) : Int) = σ.1 := by have := hb.1; omega
  have hg := (q_ld ok h).1
  rw [r2, Int.add_zero] at hg
  have h' := h
  rw [e] at h'
  have hv := v_v ok (d' := 1) h' (by have := hb.2.2.2.2; omega)
  rw [← e] at hv
  rw [e2]
  exact ⟨e, hg, rfl, hv.1, hv.2⟩
/-- the bound, for groups that were found -/
theorem v_go (ok : a_ok C) (hn : n ≤ 6) (hπ : a_is C π = true) (hγ : ∀ i, i < n → a_is C (γ i) = true ∧ w_rs (γ i)) (h0 : ∀ i, i < n → b_ans (fun x => x = π) (w_E C 0) (γ i) (d0 i)) (h1 : ∀ i j, i < n → j < n → b_ans (fun x => x = γ i) (w_E C 0) (γ j) (dl i j))
    {comp : Nat → Nat} {Rl : List Nat} {K Dv : Nat} (hK : Rl.length ≤ K) (hR : ∀ c, c_g C c = true → comp c ∈ Rl) (hs : ∀ c c', c_g C c = true → c_g C c' = true → comp c = comp c' → v_nr C 96 (v_s (c : Int) 1) (v_s (c' : Int) 1)) (hD : (q_LL (c_gB C) (c_H C)).length ≤ Dv) (hq : q_Kb K Dv = true)
    {v : Int × List Nat} (hv : v ∈ ro_L n d0 dl (n + 1) 0 0 []) : ∃ v' ∈ ro_L n d0 dl (n + 1) 0 0 [], v'.1 < 30000 := by
  obtain ⟨o0, q1, q2, q3, q4⟩ := o_get hn (n + 1) 0 0 [] ⟨by omega, by omega⟩ (Nat.zero_le _) v hv
  have q1' : o_ch d0 dl none o0 := q1
  obtain ⟨o, k, p1, p2, p3, p4, p5, p6, p7⟩ := o_grp (n := n) (D := (Dv : Int) + 3) (comp := fun i => comp (γ i).1.toNat) (Rl := Rl)
    (fun i j l hi hj hl a b => by
      obtain ⟨s, a⟩ := (v_an (h1 i j hi hj)).1 a
      obtain ⟨s', b⟩ := (v_an (h1 j l hj hl)).1 b
      exact ((v_an (h1 i l hi hl)).2 _ (p_ch_t _ _ _ _ _ a b)).1)
    (fun i j hi hj a b => by
      obtain ⟨s, a⟩ := (v_an (h0 i hi)).1 a
      obtain ⟨s', b⟩ := (v_an (h1 i j hi hj)).1 b
      exact ((v_an (h0 j hj)).2 _ (p_ch_t _ _ _ _ _ a b)).1)
    (fun i j hi hj => v_D ok (hγ i hi).1 (h1 i j hi hj) hD) (fun j hj => v_D ok hπ (h0 j hj) hD)
    (fun i j hi hj e => by
      obtain ⟨-, g1, -, a1, a2⟩ := v_gs ok (hγ i hi).1 (hγ i hi).2
      obtain ⟨-, g2, -, b1, b2⟩ := v_gs ok (hγ j hj).1 (hγ j hj).2
      obtain ⟨s, s1, s2⟩ := v_nr_t (v_nr_t a1 (hs _ _ g1 g2 e)) b2
      have := (v_an (h1 i j hi hj)).2 s s2
      omega)
    (fun i hi => hR _ (v_gs ok (hγ i hi).1 (hγ i hi).2).2.1) o0.length o0 none rfl (fun i e => by cases e) (fun j hj => (q3 j hj).1) q2 q1'
  have hl : o0.length = n := by simpa using q4
  refine ⟨(0 + o_to d0 dl none o, [] ++ o), o_put hn o (n + 1) 0 0 [] ⟨by omega, by omega⟩ p4 p1 (fun j hj => q3 j ((p2 j).mp hj)) (by rw [p3, hl]; simp) (by omega), ?_⟩
  show 0 + o_to d0 dl none o < 30000
  have hkK : k ≤ K := Nat.le_trans p5 (Nat.le_trans (List.length_filter_le _ _) hK)
  rw [hl] at p6 p7
  unfold q_Kb at hq
  have e1 : (k : Int) * ((Dv : Int) + 3) = ((k * (Dv + 3) : Nat) : Int) := by
    rw [Int.natCast_mul]; rfl
  rw [e1] at p7
  by_cases c5 : K ≤ 5
  · rw [Nat.ble_eq.mpr c5] at hq
    have hq : K * (Dv + 3) + 110 * (6 - K) ≤ 29999 := Nat.le_of_ble_eq_true hq
    by_cases cD : Dv + 3 ≤ 110
    · have m1 : k * (Dv + 3) ≤ k * 110 := Nat.mul_le_mul_left k cD
      omega
    · obtain ⟨x, hx⟩ : ∃ x, Dv + 3 = 110 + x := ⟨Dv + 3 - 110, by omega⟩
      rw [hx] at hq p7
      have m1 : k * x ≤ K * x := Nat.mul_le_mul_right x hkK
      rw [Nat.mul_add] at hq p7
      omega
  · have e2 : Nat.ble K 5 = false := by
      cases hh : Nat.ble K 5
      · rfl
      · exact absurd (Nat.le_of_ble_eq_true hh) c5
    rw [e2] at hq
    have hq : 6 * (Dv + 3) ≤ 29999 := Nat.le_of_ble_eq_true hq
    by_cases cD : Dv + 3 ≤ 110
    · have m1 : k * (Dv + 3) ≤ k * 110 := Nat.mul_le_mul_left k cD
      omega
    · obtain ⟨x, hx⟩ : ∃ x, Dv + 3 = 110 + x := ⟨Dv + 3 - 110, by omega⟩
      rw [hx] at hq p7
      have m1 : k * x ≤ 6 * x := Nat.mul_le_mul_right x (by omega)
      rw [Nat.mul_add] at hq p7
      omega
theorem v_bd (ok : a_ok C) (hn : n ≤ 6) (hπ : a_is C π = true) (hγ : ∀ i, i < n → a_is C (γ i) = true ∧ w_rs (γ i)) (h0 : ∀ i, i < n → b_ans (fun x => x = π) (w_E C 0) (γ i) (d0 i)) (h1 : ∀ i j, i < n → j < n → b_ans (fun x => x = γ i) (w_E C 0) (γ j) (dl i j))
    {v : Int × List Nat} (hv : v ∈ ro_L n d0 dl (n + 1) 0 0 []) : ∃ v' ∈ ro_L n d0 dl (n + 1) 0 0 [], v'.1 < 30000 := by
  have hm : q_mk (v_gl C) < 1024 := by
    have h := q_mk_lt (v_gl C)
    have e : (v_gl C).length = 10 := rfl
    have e2 : (2 : Nat) ^ 10 = 1024 := by decide
    rw [e, e2] at h
    exact h
  have hg := v_gm_bit (C := C)
  have hl := v_Rl_len (C := C)
  have hD2 : (q_LL (c_gB C) (c_H C)).length ≤ q_D2 (q_gm (q_mk (v_gl C))) := q_LL_2 hg
  have hck := q_ck_ok hm
  unfold q_ck at hck
  rw [Bool.and_eq_true, Bool.and_eq_true, Bool.or_eq_true, Bool.or_eq_true] at hck
  obtain ⟨⟨k1, k2⟩, k3⟩ := hck
  by_cases t2 : ∃ c, c_H C c = true ∧ c_H C (c + 2) = true ∧ c_H C (c + 4) = true
  · obtain ⟨c, a1, a2, a3⟩ := t2
    obtain ⟨comp, Rl, r1, r2, r3⟩ := v_t2 ok a1 a2 a3
    exact v_go ok hn hπ hγ h0 h1 (K := Nat.add 1 (q_be (q_mk (v_gl C)))) (by show _ ≤ 1 + _; omega) r2 r3 hD2 k1 hv
  · by_cases t1 : ∃ c, c_H C c = true ∧ c_H C (c + 2) = true
    · obtain ⟨c, a1, a2⟩ := t1
      obtain ⟨comp, Rl, r1, r2, r3⟩ := v_t1 ok a1 a2
      have hT : q_tc true (c_H C) := by
        unfold q_tc
        rw [if_pos rfl]
        exact fun c _ q => t2 ⟨c, q⟩
      rcases k2 with k2 | k2
      · exact v_go ok hn hπ hγ h0 h1 (K := Nat.add 2 (q_be (q_mk (v_gl C)))) (by show _ ≤ 2 + _; omega) r2 r3 hD2 k2 hv
      · exact v_go ok hn hπ hγ h0 h1 (K := Nat.add 2 (q_be (q_mk (v_gl C)))) (by show _ ≤ 2 + _; omega) r2 r3 (q_LL_T hT hg) k2 hv
    · have hT : q_tc false (c_H C) := by
        unfold q_tc
        rw [if_neg (by decide)]
        exact fun c _ q => t1 ⟨c, q⟩
      have r2 : ∀ c, c_g C c = true → v_rp C c ∈ v_Rl C := fun c hc => (v_rp_ok ok hc).1
      have r3 : ∀ c c', c_g C c = true → c_g C c' = true → v_rp C c = v_rp C c' → v_nr C 96 (v_s (c : Int) 1) (v_s (c' : Int) 1) := fun c c' hc hc' e => v_nr_m (v_sm ok hc hc' e) (by omega)
      rcases k3 with k3 | k3
      · exact v_go ok hn hπ hγ h0 h1 (K := Nat.add 3 (q_be (q_mk (v_gl C)))) hl r2 r3 hD2 k3 hv
      · exact v_go ok hn hπ hγ h0 h1 (K := Nat.add 3 (q_be (q_mk (v_gl C)))) hl r2 r3 (q_LL_T hT hg) k3 hv
end VFI
