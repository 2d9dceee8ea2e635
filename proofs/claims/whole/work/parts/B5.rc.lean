/-! the class: reach -/
/-- rests found, and the farthest of them -/
def cl_ru (a : Int × Int) (r : Int) : Int × Int := if 0 ≤ r then (a.1 + 1, max a.2 r) else a
def cl_ri (rr : Int → Int → Int) (x : Int) (a : Int × Int) : Nat → Int × Int
  | 0 => a
  | k + 1 => cl_ru (cl_ri rr x a k) (rr x ((k : Int) + 1))
def cl_ro (rr : Int → Int → Int) (D : Nat) : Nat → Int × Int
  | 0 => (0, -2)
  | x + 1 => cl_ri rr (x : Int) (cl_ro rr D x) D
/-- how far a rest is -/
def cl_rv (C : a_C) (π : a_S) (q x e r : Int) : Prop := (q = 0 ∧ r = if a_is C (x, 0, 0, 0, e) = true then 0 else -2) ∨ (q ≠ 0 ∧ cl_fw C π (x, 0, 0, 0, e) r)
section SCRC
variable {en : Nat → Nat} {d : Nat} {T T' T0 : Nat → Option (Nat × Nat)} {J J' J0 K H : Nat → Nat → Int} {P P' P0 : Nat → Nat → Option Nat} {L L' L0 : Nat → Nat → Int64} {z w z' w' A B R X N zb wb D W : Nat} {Q : m_Q} {σ τ : a_S} {C : a_C} {q : Int} {rr : Int → Int → Int}
theorem l_Sc_reach (hD : (D : Int) = J0 (X + 17) 1) (hq : 0 ≤ q ∧ q ≤ 2) (hD6 : D ≤ 6) {x : Int} (hx : 0 ≤ x ∧ x < 16) {ac : Int × Int} (hrr : ∀ e r, 1 ≤ e ∧ e ≤ (D : Int) → cl_rv C (po_get J0 (X + 31)) q x e r → rr x e = r)
    (hnext : ∀ (T : Nat → Option (Nat × Nat)) (J : Nat → Nat → Int) (P : Nat → Nat → Option Nat) (L : Nat → Nat → Int64) (z w : Nat) (a b : Int) (o5 o6 : Option Value), cl_W en X N zb wb C T J P z w → cl_q X N T0 J0 P0 L0 T J P L → cl_ri rr x ac D = (a, b) → (-2 ≤ b ∧ b < 100000) → m_wp en (d + 4) mSc_reach 19 [some (.ref X), some (.int (m_i q)), some (.int (m_i a)), some (.int (m_i b)), some (.int (m_i (x + 1))), o5, o6] [] (T, m_I J, P, L, z, w) Q) :
    ∀ (m k : Nat) (T : Nat → Option (Nat × Nat)) (J : Nat → Nat → Int) (P : Nat → Nat → Option Nat) (L : Nat → Nat → Int64) (z w : Nat) (a b : Int) (o6 : Option Value), k + m = D → cl_W en X N zb wb C T J P z w → cl_q X N T0 J0 P0 L0 T J P L → cl_ri rr x ac k = (a, b) → (-2 ≤ b ∧ b < 100000) → m_wp en (d + 4) mSc_reach 34 [some (.ref X), some (.int (m_i q)), some (.int (m_i a)), some (.int (m_i b)), some (.int (m_i x)), some (.int (m_i ((k : Int) + 1))), o6] [] (T, m_I J, P, L, z, w) Q := by
  intro m
  induction m with
  | zero =>
    intro k T J P L z w a b o6 hk hW hc hab hb
    obtain rfl : k = D := by omega
    have hX := hW.1.1
    have e5 : J (X + 17) 1 = (k : Int) := by rw [hc.2.1 _ _ (by omega)]; omega
    have h9 := fun o5 => hnext T J P L z w a b o5 o6 hW hc hab hb
    refine r_il eSc_reach_34 rfl ?_
    refine r_aln eSc_reach_36 rfl ?_
    refine m_getR eSc_reach_37 rfl (cl_t hX (i := 0) rfl) (cl_p hX (i := 1) rfl) ?_
    refine r_gete (x := J (X + 17) 1) eSc_reach_40 rfl (by decide) (cl_t hX (i := 17) rfl) rfl ?_
    refine r_cgt (tgt := 98) eSc_reach_43 rfl ⟨(by omega), (by omega)⟩ ⟨(by omega), (by omega)⟩ (fun c43 => ?_) (fun c43 => ?_)
    · refine r_inc (ls' := [some (.ref X), some (.int (m_i (q))), some (.int (m_i (a))), some (.int (m_i (b))), some (.int (m_i (x + 1))), some (.int (m_i ((k : Int) + 1))), o6]) eSc_reach_98 rfl rfl ?_
      refine r_go (tgt := 19) eSc_reach_101 rfl ?_
      exact h9 _
    · exfalso; omega
  | succ m ih =>
    intro k T J P L z w a b o6 hk hW hc hab hb
    have hX := hW.1.1
    have e5 : J (X + 17) 1 = (D : Int) := by rw [hc.2.1 _ _ (by omega)]; omega
    have e31 : po_get J (X + 31) = po_get J0 (X + 31) := po_get_e (fun i => hc.2.1 _ _ (by omega))
    have ek : ((k + 1 : Nat) : Int) + 1 = (k : Int) + 1 + 1 := by omega
    have hr2 : ∀ r : Int, r = (if a_is C (x, 0, 0, 0, (k : Int) + 1) = true then 0 else -2) → -2 ≤ r ∧ r < 100000 := fun r e => by
      rw [e]
      split <;> omega
    have hnx : ∀ T' J' P' L' z' w' r, cl_W en X N zb wb C T' J' P' z' w' → cl_q X N T J P L T' J' P' L' → cl_rv C (po_get J (X + 31)) q x ((k : Int) + 1) r → (-2 ≤ r ∧ r < 100000) → (0 ≤ r → ∀ o, m_wp en (d + 4) mSc_reach 34 [some (.ref X), some (.int (m_i q)), some (.int (m_i (a + 1))), some (.int (m_i (max b r))), some (.int (m_i x)), some (.int (m_i ((k : Int) + 1 + 1))), o] [] (T', m_I J', P', L', z', w') Q) ∧ (r < 0 → ∀ o, m_wp en (d + 4) mSc_reach 34 [some (.ref X), some (.int (m_i q)), some (.int (m_i a)), some (.int (m_i b)), some (.int (m_i x)), some (.int (m_i ((k : Int) + 1 + 1))), o] [] (T', m_I J', P', L', z', w') Q) := fun T' J' P' L' z' w' r g1 g2 g3 g4 => by
      rw [e31] at g3
      have er := hrr _ _ (by omega) g3
      have e2 : cl_ri rr x ac (k + 1) = cl_ru (a, b) r := by
        show cl_ru (cl_ri rr x ac k) (rr x ((k : Int) + 1)) = _
        rw [hab, er]
      unfold cl_ru at e2
      refine ⟨fun h o => ?_, fun h o => ?_⟩
      · rw [if_pos h] at e2
        have := ih (k + 1) T' J' P' L' z' w' (a + 1) (max b r) o (by omega) g1 (cl_q_t hc g2) e2 (by omega)
        rw [ek] at this
        exact this
      · rw [if_neg (by omega)] at e2
        have := ih (k + 1) T' J' P' L' z' w' a b o (by omega) g1 (cl_q_t hc g2) e2 hb
        rw [ek] at this
        exact this
    refine r_il eSc_reach_34 rfl ?_
    refine r_aln eSc_reach_36 rfl ?_
    refine m_getR eSc_reach_37 rfl (cl_t hX (i := 0) rfl) (cl_p hX (i := 1) rfl) ?_
    refine r_gete (x := J (X + 17) 1) eSc_reach_40 rfl (by decide) (cl_t hX (i := 17) rfl) rfl ?_
    refine r_cgt (tgt := 98) eSc_reach_43 rfl ⟨(by omega), (by omega)⟩ ⟨(by omega), (by omega)⟩ (fun c43 => ?_) (fun c43 => ?_)
    · exfalso; omega
    · refine r_iln eSc_reach_46 rfl ?_
      refine r_zne (tgt := 64) eSc_reach_47 rfl ⟨(by omega), (by omega)⟩ (fun c47 => ?_) (fun c47 => ?_)
      · refine r_aln eSc_reach_64 rfl ?_
        refine m_getR eSc_reach_65 rfl (cl_t hX (i := 0) rfl) (cl_p hX (i := 7) rfl) ?_
        refine r_il eSc_reach_68 rfl ?_
        refine r_il eSc_reach_70 rfl ?_
        refine r_vir eSc_reach_72 rfl rfl rfl (cl_t hX (i := 132) rfl) rfl rfl ?_
        refine c_Wa_stepsToRest hW (x := x) (e := (k : Int) + 1) (by omega) (by omega) (fun T J2 P L z w r k1 k2 k3 k4 k6 => ?_)
        have hX := k1.1.1
        obtain ⟨hA, hB⟩ := hnx T J2 P L z w r k1 k2 (Or.inr ⟨by omega, k4⟩) k6
        show m_wp en _ mSc_reach 75 [some (.ref X), some (.int (m_i (q))), some (.int (m_i (a))), some (.int (m_i (b))), some (.int (m_i (x))), some (.int (m_i ((k : Int) + 1))), o6] [(.int (m_i (r)))] (T, m_I J2, P, L, z, w) Q
        refine r_is (ls' := [some (.ref X), some (.int (m_i (q))), some (.int (m_i (a))), some (.int (m_i (b))), some (.int (m_i (x))), some (.int (m_i ((k : Int) + 1))), some (.int (m_i (r)))]) eSc_reach_75 (Nat.le_of_ble_eq_true rfl) rfl ?_
        refine r_il eSc_reach_77 rfl ?_
        refine r_zlt (tgt := 92) eSc_reach_79 rfl ⟨(by omega), (by omega)⟩ (fun c79 => ?_) (fun c79 => ?_)
        · refine r_inc (ls' := [some (.ref X), some (.int (m_i (q))), some (.int (m_i (a))), some (.int (m_i (b))), some (.int (m_i (x))), some (.int (m_i ((k : Int) + 1 + 1))), some (.int (m_i (r)))]) eSc_reach_92 rfl rfl ?_
          refine r_go (tgt := 34) eSc_reach_95 rfl ?_
          first | exact hA (by omega) _ | exact hB (by omega) _
        · refine r_inc (ls' := [some (.ref X), some (.int (m_i (q))), some (.int (m_i (a + 1))), some (.int (m_i (b))), some (.int (m_i (x))), some (.int (m_i ((k : Int) + 1))), some (.int (m_i (r)))]) eSc_reach_82 rfl rfl ?_
          refine r_iln eSc_reach_85 rfl ?_
          refine r_il eSc_reach_86 rfl ?_
          refine r_max eSc_reach_88 rfl (Nat.le_of_ble_eq_true rfl) ⟨(by omega), (by omega)⟩ ⟨(by omega), (by omega)⟩ ?_
          refine r_isn (ls' := [some (.ref X), some (.int (m_i (q))), some (.int (m_i (a + 1))), some (.int (m_i (max (b) (r)))), some (.int (m_i (x))), some (.int (m_i ((k : Int) + 1))), some (.int (m_i (r)))]) eSc_reach_91 (Nat.le_of_ble_eq_true rfl) rfl ?_
          refine r_inc (ls' := [some (.ref X), some (.int (m_i (q))), some (.int (m_i (a + 1))), some (.int (m_i (max (b) (r)))), some (.int (m_i (x))), some (.int (m_i ((k : Int) + 1 + 1))), some (.int (m_i (r)))]) eSc_reach_92 rfl rfl ?_
          refine r_go (tgt := 34) eSc_reach_95 rfl ?_
          first | exact hA (by omega) _ | exact hB (by omega) _
      · refine r_aln eSc_reach_50 rfl ?_
        refine m_getR eSc_reach_51 rfl (cl_t hX (i := 0) rfl) (cl_p hX (i := 7) rfl) ?_
        refine r_il eSc_reach_54 rfl ?_
        refine r_il eSc_reach_56 rfl ?_
        refine r_vir eSc_reach_58 rfl rfl rfl (cl_t hX (i := 132) rfl) rfl rfl ?_
        refine m_call_le (by omega) (c_Wa_stepsAtRest (d := d) hW (x := x) (e := (k : Int) + 1) (by omega) (by omega) (fun J2 k1 k2 => ?_))
        obtain ⟨r, er⟩ : ∃ r : Int, r = (if a_is C (x, 0, 0, 0, (k : Int) + 1) = true then 0 else -2) := ⟨_, rfl⟩
        rw [← er]
        have k6 : -2 ≤ r ∧ r < 100000 := hr2 r er
        have hX := k1.1.1
        obtain ⟨hA, hB⟩ := hnx T J2 P L z w r k1 k2 (Or.inl ⟨by omega, er⟩) k6
        show m_wp en _ mSc_reach 61 [some (.ref X), some (.int (m_i (q))), some (.int (m_i (a))), some (.int (m_i (b))), some (.int (m_i (x))), some (.int (m_i ((k : Int) + 1))), o6] [(.int (m_i (r)))] (T, m_I J2, P, L, z, w) Q
        refine r_go (tgt := 75) eSc_reach_61 rfl ?_
        refine r_is (ls' := [some (.ref X), some (.int (m_i (q))), some (.int (m_i (a))), some (.int (m_i (b))), some (.int (m_i (x))), some (.int (m_i ((k : Int) + 1))), some (.int (m_i (r)))]) eSc_reach_75 (Nat.le_of_ble_eq_true rfl) rfl ?_
        refine r_il eSc_reach_77 rfl ?_
        refine r_zlt (tgt := 92) eSc_reach_79 rfl ⟨(by omega), (by omega)⟩ (fun c79 => ?_) (fun c79 => ?_)
        · refine r_inc (ls' := [some (.ref X), some (.int (m_i (q))), some (.int (m_i (a))), some (.int (m_i (b))), some (.int (m_i (x))), some (.int (m_i ((k : Int) + 1 + 1))), some (.int (m_i (r)))]) eSc_reach_92 rfl rfl ?_
          refine r_go (tgt := 34) eSc_reach_95 rfl ?_
          first | exact hA (by omega) _ | exact hB (by omega) _
        · refine r_inc (ls' := [some (.ref X), some (.int (m_i (q))), some (.int (m_i (a + 1))), some (.int (m_i (b))), some (.int (m_i (x))), some (.int (m_i ((k : Int) + 1))), some (.int (m_i (r)))]) eSc_reach_82 rfl rfl ?_
          refine r_iln eSc_reach_85 rfl ?_
          refine r_il eSc_reach_86 rfl ?_
          refine r_max eSc_reach_88 rfl (Nat.le_of_ble_eq_true rfl) ⟨(by omega), (by omega)⟩ ⟨(by omega), (by omega)⟩ ?_
          refine r_isn (ls' := [some (.ref X), some (.int (m_i (q))), some (.int (m_i (a + 1))), some (.int (m_i (max (b) (r)))), some (.int (m_i (x))), some (.int (m_i ((k : Int) + 1))), some (.int (m_i (r)))]) eSc_reach_91 (Nat.le_of_ble_eq_true rfl) rfl ?_
          refine r_inc (ls' := [some (.ref X), some (.int (m_i (q))), some (.int (m_i (a + 1))), some (.int (m_i (max (b) (r)))), some (.int (m_i (x))), some (.int (m_i ((k : Int) + 1 + 1))), some (.int (m_i (r)))]) eSc_reach_92 rfl rfl ?_
          refine r_go (tgt := 34) eSc_reach_95 rfl ?_
          first | exact hA (by omega) _ | exact hB (by omega) _
theorem l2_Sc_reach (hD : (D : Int) = J0 (X + 17) 1) (hW0 : (W : Int) = J0 (X + 17) 0) (hq : 0 ≤ q ∧ q ≤ 2) (hD6 : D ≤ 6) (hW16 : W ≤ 16) (hrr : ∀ x e r, (0 ≤ x ∧ x < (W : Int)) → 1 ≤ e ∧ e ≤ (D : Int) → cl_rv C (po_get J0 (X + 31)) q x e r → rr x e = r)
    (hQ : ∀ T J P L z w, cl_W en X N zb wb C T J P z w → cl_q X N T0 J0 P0 L0 T J P L → Q (some (.int (m_i (if q = 2 then (cl_ro rr D W).2 else (cl_ro rr D W).1)))) (T, m_I J, P, L, z, w)) :
    ∀ (m k : Nat) (T : Nat → Option (Nat × Nat)) (J : Nat → Nat → Int) (P : Nat → Nat → Option Nat) (L : Nat → Nat → Int64) (z w : Nat) (a b : Int) (o5 o6 : Option Value), k + m = W → cl_W en X N zb wb C T J P z w → cl_q X N T0 J0 P0 L0 T J P L → cl_ro rr D k = (a, b) → (-2 ≤ b ∧ b < 100000) → m_wp en (d + 4) mSc_reach 19 [some (.ref X), some (.int (m_i q)), some (.int (m_i a)), some (.int (m_i b)), some (.int (m_i (k : Int))), o5, o6] [] (T, m_I J, P, L, z, w) Q := by
  intro m
  induction m with
  | zero =>
    intro k T J P L z w a b o5 o6 hk hW hc hab hb
    obtain rfl : k = W := by omega
    have hX := hW.1.1
    have e5 : J (X + 17) 0 = (k : Int) := by rw [hc.2.1 _ _ (by omega)]; omega
    have h9 := hQ T J P L z w hW hc
    rw [hab] at h9
    refine r_il eSc_reach_19 rfl ?_
    refine r_aln eSc_reach_21 rfl ?_
    refine m_getR eSc_reach_22 rfl (cl_t hX (i := 0) rfl) (cl_p hX (i := 1) rfl) ?_
    refine r_gete (x := J (X + 17) 0) eSc_reach_25 rfl (by decide) (cl_t hX (i := 17) rfl) rfl ?_
    refine r_cge (tgt := 104) eSc_reach_28 rfl ⟨(by omega), (by omega)⟩ ⟨(by omega), (by omega)⟩ (fun c28 => ?_) (fun c28 => ?_)
    · refine r_iln eSc_reach_104 rfl ?_
      refine r_con eSc_reach_105 ?_
      refine r_cne (tgt := 113) eSc_reach_106 rfl ⟨(by omega), (by omega)⟩ ⟨(by omega), (by omega)⟩ (fun c106 => ?_) (fun c106 => ?_)
      · refine r_iln eSc_reach_113 rfl ?_
        refine r_iret eSc_reach_114 rfl ?_
        first | (rw [if_pos (by omega)] at h9; exact h9) | (rw [if_neg (by omega)] at h9; exact h9)
      · refine r_iln eSc_reach_109 rfl ?_
        refine r_go (tgt := 114) eSc_reach_110 rfl ?_
        refine r_iret eSc_reach_114 rfl ?_
        first | (rw [if_pos (by omega)] at h9; exact h9) | (rw [if_neg (by omega)] at h9; exact h9)
    · exfalso; omega
  | succ m ih =>
    intro k T J P L z w a b o5 o6 hk hW hc hab hb
    have hX := hW.1.1
    have e5 : J (X + 17) 0 = (W : Int) := by rw [hc.2.1 _ _ (by omega)]; omega
    have ek : ((k + 1 : Nat) : Int) = (k : Int) + 1 := by omega
    have h34 := fun o => l_Sc_reach (d := d) (x := (k : Int)) (ac := (a, b)) hD hq hD6 (by omega) (fun e r h1 h2 => hrr _ e r (by omega) h1 h2) (fun T' J' P' L' z' w' a' b' p5 p6 g1 g2 g3 g4 => by
      have := ih (k + 1) T' J' P' L' z' w' a' b' p5 p6 (by omega) g1 g2 (by show cl_ri rr (k : Int) (cl_ro rr D k) D = _; rw [hab]; exact g3) g4
      rw [ek] at this
      exact this) D 0 T J P L z w a b o (by omega) hW hc rfl hb
    refine r_il eSc_reach_19 rfl ?_
    refine r_aln eSc_reach_21 rfl ?_
    refine m_getR eSc_reach_22 rfl (cl_t hX (i := 0) rfl) (cl_p hX (i := 1) rfl) ?_
    refine r_gete (x := J (X + 17) 0) eSc_reach_25 rfl (by decide) (cl_t hX (i := 17) rfl) rfl ?_
    refine r_cge (tgt := 104) eSc_reach_28 rfl ⟨(by omega), (by omega)⟩ ⟨(by omega), (by omega)⟩ (fun c28 => ?_) (fun c28 => ?_)
    · exfalso; omega
    · refine r_con eSc_reach_31 ?_
      refine r_is (ls' := [some (.ref X), some (.int (m_i (q))), some (.int (m_i (a))), some (.int (m_i (b))), some (.int (m_i ((k : Int)))), some (.int (m_i (1))), o6]) eSc_reach_32 (Nat.le_of_ble_eq_true rfl) rfl ?_
      exact h34 _
theorem c_Sc_reach (h : cl_W en X N zb wb C T J P z w) (hD : (D : Int) = J (X + 17) 1) (hW0 : (W : Int) = J (X + 17) 0) (hq : m_in q) (hrr : ∀ x e r, (0 ≤ x ∧ x < (W : Int)) → 1 ≤ e ∧ e ≤ (D : Int) → cl_rv C (po_get J (X + 31)) q x e r → rr x e = r) (h0 : ¬ (0 ≤ q ∧ q ≤ 2) → Q (some (.int (m_i (-1)))) (T, m_I J, P, L, z, w))
    (h1 : (0 ≤ q ∧ q ≤ 2) → ∀ T' J' P' L' z' w', cl_W en X N zb wb C T' J' P' z' w' → cl_q X N T J P L T' J' P' L' → Q (some (.int (m_i (if q = 2 then (cl_ro rr D W).2 else (cl_ro rr D W).1)))) (T', m_I J', P', L', z', w')) : m_call en (d + 5) mSc_reach [.ref X, .int (m_i q)] (T, m_I J, P, L, z, w) Q := by
  have p0 := h.2.1.1.1
  have p1 := h.2.1.1.2.1
  unfold m_in at hq
  have h19 : (0 ≤ q ∧ q ≤ 2) → ∀ o5 o6, m_wp en (d + 4) mSc_reach 19 [some (.ref X), some (.int (m_i q)), some (.int (m_i 0)), some (.int (m_i (-2))), some (.int (m_i 0)), o5, o6] [] (T, m_I J, P, L, z, w) Q := fun g o5 o6 => l2_Sc_reach (d := d) hD hW0 g (by omega) (by omega) hrr (h1 g) W 0 T J P L z w 0 (-2) o5 o6 (by omega) h cl_q_r rfl (by omega)
  refine m_into (by decide) (Nat.le_of_ble_eq_true rfl) rfl ?_
  show m_wp en _ mSc_reach 0 [some (.ref X), some (.int (m_i (q))), none, none, none, none, none] [] (T, m_I J, P, L, z, w) Q
  refine r_iln eSc_reach_0 rfl ?_
  refine r_zlt (tgt := 9) eSc_reach_1 rfl ⟨(by omega), (by omega)⟩ (fun c1 => ?_) (fun c1 => ?_)
  · refine r_con eSc_reach_9 ?_
    refine r_iret eSc_reach_10 rfl ?_
    exact h0 (by omega)
  · refine r_iln eSc_reach_4 rfl ?_
    refine r_con eSc_reach_5 ?_
    refine r_cle (tgt := 11) eSc_reach_6 rfl ⟨(by omega), (by omega)⟩ ⟨(by omega), (by omega)⟩ (fun c6 => ?_) (fun c6 => ?_)
    · refine r_con eSc_reach_11 ?_
      refine r_isn (ls' := [some (.ref X), some (.int (m_i (q))), some (.int (m_i (0))), none, none, none, none]) eSc_reach_12 (Nat.le_of_ble_eq_true rfl) rfl ?_
      refine r_bip eSc_reach_13 (by decide) ?_
      refine r_isn (ls' := [some (.ref X), some (.int (m_i (q))), some (.int (m_i (0))), some (.int (m_i ((-2)))), none, none, none]) eSc_reach_15 (Nat.le_of_ble_eq_true rfl) rfl ?_
      refine r_con eSc_reach_16 ?_
      refine r_is (ls' := [some (.ref X), some (.int (m_i (q))), some (.int (m_i (0))), some (.int (m_i ((-2)))), some (.int (m_i (0))), none, none]) eSc_reach_17 (Nat.le_of_ble_eq_true rfl) rfl ?_
      exact h19 (by omega) _ _
    · refine r_con eSc_reach_9 ?_
      refine r_iret eSc_reach_10 rfl ?_
      exact h0 (by omega)
end SCRC
