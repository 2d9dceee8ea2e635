/-! the class: nearest, steadiest, bears -/
/-- the nearest of the first spots, and how far it is -/
def cl_nf (r : Nat → Int) : Nat → Int × Int
  | 0 => (-2, 0)
  | k + 1 => if 0 ≤ r k ∧ ((cl_nf r k).1 < 0 ∨ r k < (cl_nf r k).2) then ((k : Int), r k) else cl_nf r k
theorem cl_nf_e {r r' : Nat → Int} : ∀ k : Nat, (∀ j, j < k → r' j = r j) → cl_nf r' k = cl_nf r k := by
  intro k
  induction k with
  | zero => intro _; rfl
  | succ k ih =>
    intro h
    show (if 0 ≤ r' k ∧ ((cl_nf r' k).1 < 0 ∨ r' k < (cl_nf r' k).2) then ((k : Int), r' k) else cl_nf r' k) = if 0 ≤ r k ∧ ((cl_nf r k).1 < 0 ∨ r k < (cl_nf r k).2) then ((k : Int), r k) else cl_nf r k
    rw [h k (by omega), ih (fun j hj => h j (by omega))]
theorem cl_nf_b {r : Nat → Int} : ∀ k : Nat, (∀ j, j < k → r j < 100000) → (-2 ≤ (cl_nf r k).1 ∧ (cl_nf r k).1 < (k : Int)) ∧ 0 ≤ (cl_nf r k).2 ∧ (cl_nf r k).2 < 100000 := by
  intro k
  induction k with
  | zero => intro _; unfold cl_nf; simp only; omega
  | succ k ih =>
    intro h
    have h1 := ih (fun j hj => h j (by omega))
    have h2 := h k (by omega)
    unfold cl_nf
    split
    · simp only; omega
    · omega
section SCN
variable {en : Nat → Nat} {d : Nat} {T T' T0 : Nat → Option (Nat × Nat)} {J J' J0 K H : Nat → Nat → Int} {P P' P0 : Nat → Nat → Option Nat} {L L' L0 : Nat → Nat → Int64} {z w z' w' A B R X N zb wb n : Nat} {Q : m_Q} {σ τ : a_S} {C : a_C} {k v s : Int}
theorem l_Sc_nearest (hn : (n : Int) = J0 (X + 29) 5) (hn6 : n ≤ 6) (hq : ∀ T' J' P' L' z' w' rr, cl_W en X N zb wb C T' J' P' z' w' → cl_q X N T0 J0 P0 L0 T' J' P' L' → (∀ s, s < n → cl_fw C (po_get J0 (X + 31)) (cl_spt J0 X s) (rr s)) → Q (some (.int (m_i (cl_nf rr n).1))) (T', m_I J', P', L', z', w')) :
    ∀ (m k : Nat) (rr : Nat → Int) (T : Nat → Option (Nat × Nat)) (J : Nat → Nat → Int) (P : Nat → Nat → Option Nat) (L : Nat → Nat → Int64) (z w : Nat) (a b : Int) (o4 : Option Value), k + m = n → cl_W en X N zb wb C T J P z w → cl_q X N T0 J0 P0 L0 T J P L → (∀ s, s < k → cl_fw C (po_get J0 (X + 31)) (cl_spt J0 X s) (rr s) ∧ rr s < 100000) → cl_nf rr k = (a, b) → m_wp en (d + 4) mSc_nearest 7 [some (.ref X), some (.int (m_i a)), some (.int (m_i b)), some (.int (m_i (k : Int))), o4] [] (T, m_I J, P, L, z, w) Q := by
  intro m
  induction m with
  | zero =>
    intro k rr T J P L z w a b o4 hk hW hc hr hab
    obtain rfl : k = n := by omega
    have h9 := hq T J P L z w rr hW hc (fun s hs => (hr s hs).1)
    rw [hab] at h9
    have hX := hW.1.1
    have e5 : J (X + 29) 5 = (k : Int) := by rw [hc.2.1 _ _ (by omega)]; omega
    have hb := cl_nf_b k (fun j hj => (hr j hj).2)
    rw [hab] at hb
    simp only at hb
    refine r_iln eSc_nearest_7 rfl ?_
    refine r_aln eSc_nearest_8 rfl ?_
    refine m_getR eSc_nearest_9 rfl (cl_t hX (i := 0) rfl) (cl_p hX (i := 1) rfl) ?_
    refine m_getR eSc_nearest_12 rfl (cl_t hX (i := 17) rfl) (cl_p hX (i := 37) rfl) ?_
    refine r_con eSc_nearest_15 ?_
    refine r_ialde (x := J (X + 29) 5) eSc_nearest_16 (cl_t hX (i := 29) rfl) (by decide) (by omega) (by omega) rfl ?_
    refine r_cge (tgt := 56) eSc_nearest_17 rfl ⟨(by omega), (by omega)⟩ ⟨(by omega), (by omega)⟩ (fun c17 => ?_) (fun c17 => ?_)
    · refine r_iln eSc_nearest_56 rfl ?_
      refine r_iret eSc_nearest_57 rfl ?_
      exact h9
    · exfalso; omega
  | succ m ih =>
    intro k rr T J P L z w a b o4 hk hW hc hr hab
    have hX := hW.1.1
    have e5 : J (X + 29) 5 = (n : Int) := by rw [hc.2.1 _ _ (by omega)]; omega
    have hb := cl_nf_b k (fun j hj => (hr j hj).2)
    rw [hab] at hb
    simp only at hb
    have e31 : po_get J (X + 31) = po_get J0 (X + 31) := po_get_e (fun i => hc.2.1 _ _ (by omega))
    have est : cl_spt J X k = cl_spt J0 X k := cl_spt_e (fun b i q => hc.2.1 b i (by omega))
    have hnx : ∀ T' J' P' L' z' w' r, cl_W en X N zb wb C T' J' P' z' w' → cl_q X N T J P L T' J' P' L' → cl_fw C (po_get J (X + 31)) (cl_spt J X ((k : Int)).toNat) r → (-2 ≤ r ∧ r < 100000) → ((0 ≤ r ∧ (a < 0 ∨ r < b)) → ∀ o, m_wp en (d + 4) mSc_nearest 7 [some (.ref X), some (.int (m_i (k : Int))), some (.int (m_i r)), some (.int (m_i ((k : Int) + 1))), o] [] (T', m_I J', P', L', z', w') Q) ∧ (¬ (0 ≤ r ∧ (a < 0 ∨ r < b)) → ∀ o, m_wp en (d + 4) mSc_nearest 7 [some (.ref X), some (.int (m_i a)), some (.int (m_i b)), some (.int (m_i ((k : Int) + 1))), o] [] (T', m_I J', P', L', z', w') Q) := fun T' J' P' L' z' w' r g1 g2 g3 g4 => by
      rw [e31, show ((k : Int)).toNat = k by omega, est] at g3
      have ek : ((k + 1 : Nat) : Int) = (k : Int) + 1 := by omega
      have e1 : cl_nf (fun j => if j = k then r else rr j) k = (a, b) := by rw [cl_nf_e (r := rr) k (fun j hj => if_neg (by omega))]; exact hab
      have e2 : cl_nf (fun j => if j = k then r else rr j) (k + 1) = if 0 ≤ r ∧ (a < 0 ∨ r < b) then ((k : Int), r) else (a, b) := by
        unfold cl_nf
        rw [e1]
        simp only [if_true]
      have hr' : ∀ s, s < k + 1 → cl_fw C (po_get J0 (X + 31)) (cl_spt J0 X s) ((fun j => if j = k then r else rr j) s) ∧ (fun j => if j = k then r else rr j) s < 100000 := fun s hs => by
        by_cases q : s = k
        · subst q
          simp only [if_true]
          exact ⟨g3, g4.2⟩
        · simp only [if_neg q]
          exact hr s (by omega)
      refine ⟨fun q o => ?_, fun q o => ?_⟩
      · rw [if_pos q] at e2
        have := ih (k + 1) _ T' J' P' L' z' w' (k : Int) r o (by omega) g1 (cl_q_t hc g2) hr' e2
        rw [ek] at this
        exact this
      · rw [if_neg q] at e2
        have := ih (k + 1) _ T' J' P' L' z' w' a b o (by omega) g1 (cl_q_t hc g2) hr' e2
        rw [ek] at this
        exact this
    refine r_iln eSc_nearest_7 rfl ?_
    refine r_aln eSc_nearest_8 rfl ?_
    refine m_getR eSc_nearest_9 rfl (cl_t hX (i := 0) rfl) (cl_p hX (i := 1) rfl) ?_
    refine m_getR eSc_nearest_12 rfl (cl_t hX (i := 17) rfl) (cl_p hX (i := 37) rfl) ?_
    refine r_con eSc_nearest_15 ?_
    refine r_ialde (x := J (X + 29) 5) eSc_nearest_16 (cl_t hX (i := 29) rfl) (by decide) (by omega) (by omega) rfl ?_
    refine r_cge (tgt := 56) eSc_nearest_17 rfl ⟨(by omega), (by omega)⟩ ⟨(by omega), (by omega)⟩ (fun c17 => ?_) (fun c17 => ?_)
    · exfalso; omega
    · refine r_aln eSc_nearest_20 rfl ?_
      refine m_getR eSc_nearest_21 rfl (cl_t hX (i := 0) rfl) (cl_p hX (i := 7) rfl) ?_
      refine r_iln eSc_nearest_24 rfl ?_
      refine r_vir eSc_nearest_25 rfl rfl rfl (cl_t hX (i := 132) rfl) rfl rfl ?_
      refine c_Wa_stepsToSpot hW (s := (k : Int)) (by omega) (fun T J2 P L z w r k1 k2 k3 k4 k5 k6 => ?_)
      have hX := k1.1.1
      obtain ⟨hA, hB⟩ := hnx T J2 P L z w r k1 k2 k4 k6
      show m_wp en _ mSc_nearest 28 [some (.ref X), some (.int (m_i (a))), some (.int (m_i (b))), some (.int (m_i ((k : Int)))), o4] [(.int (m_i (r)))] (T, m_I J2, P, L, z, w) Q
      refine r_is (ls' := [some (.ref X), some (.int (m_i (a))), some (.int (m_i (b))), some (.int (m_i ((k : Int)))), some (.int (m_i (r)))]) eSc_nearest_28 (Nat.le_of_ble_eq_true rfl) rfl ?_
      refine r_il eSc_nearest_30 rfl ?_
      refine r_zlt (tgt := 50) eSc_nearest_32 rfl ⟨(by omega), (by omega)⟩ (fun c32 => ?_) (fun c32 => ?_)
      · refine r_inc (ls' := [some (.ref X), some (.int (m_i (a))), some (.int (m_i (b))), some (.int (m_i ((k : Int) + 1))), some (.int (m_i (r)))]) eSc_nearest_50 rfl rfl ?_
        refine r_go (tgt := 7) eSc_nearest_53 rfl ?_
        first | exact hA (by omega) _ | exact hB (by omega) _
      · refine r_iln eSc_nearest_35 rfl ?_
        refine r_zlt (tgt := 45) eSc_nearest_36 rfl ⟨(by omega), (by omega)⟩ (fun c36 => ?_) (fun c36 => ?_)
        · refine r_iln eSc_nearest_45 rfl ?_
          refine r_isn (ls' := [some (.ref X), some (.int (m_i ((k : Int)))), some (.int (m_i (b))), some (.int (m_i ((k : Int)))), some (.int (m_i (r)))]) eSc_nearest_46 (Nat.le_of_ble_eq_true rfl) rfl ?_
          refine r_il eSc_nearest_47 rfl ?_
          refine r_isn (ls' := [some (.ref X), some (.int (m_i ((k : Int)))), some (.int (m_i (r))), some (.int (m_i ((k : Int)))), some (.int (m_i (r)))]) eSc_nearest_49 (Nat.le_of_ble_eq_true rfl) rfl ?_
          refine r_inc (ls' := [some (.ref X), some (.int (m_i ((k : Int)))), some (.int (m_i (r))), some (.int (m_i ((k : Int) + 1))), some (.int (m_i (r)))]) eSc_nearest_50 rfl rfl ?_
          refine r_go (tgt := 7) eSc_nearest_53 rfl ?_
          first | exact hA (by omega) _ | exact hB (by omega) _
        · refine r_il eSc_nearest_39 rfl ?_
          refine r_iln eSc_nearest_41 rfl ?_
          refine r_cge (tgt := 50) eSc_nearest_42 rfl ⟨(by omega), (by omega)⟩ ⟨(by omega), (by omega)⟩ (fun c42 => ?_) (fun c42 => ?_)
          · refine r_inc (ls' := [some (.ref X), some (.int (m_i (a))), some (.int (m_i (b))), some (.int (m_i ((k : Int) + 1))), some (.int (m_i (r)))]) eSc_nearest_50 rfl rfl ?_
            refine r_go (tgt := 7) eSc_nearest_53 rfl ?_
            first | exact hA (by omega) _ | exact hB (by omega) _
          · refine r_iln eSc_nearest_45 rfl ?_
            refine r_isn (ls' := [some (.ref X), some (.int (m_i ((k : Int)))), some (.int (m_i (b))), some (.int (m_i ((k : Int)))), some (.int (m_i (r)))]) eSc_nearest_46 (Nat.le_of_ble_eq_true rfl) rfl ?_
            refine r_il eSc_nearest_47 rfl ?_
            refine r_isn (ls' := [some (.ref X), some (.int (m_i ((k : Int)))), some (.int (m_i (r))), some (.int (m_i ((k : Int)))), some (.int (m_i (r)))]) eSc_nearest_49 (Nat.le_of_ble_eq_true rfl) rfl ?_
            refine r_inc (ls' := [some (.ref X), some (.int (m_i ((k : Int)))), some (.int (m_i (r))), some (.int (m_i ((k : Int) + 1))), some (.int (m_i (r)))]) eSc_nearest_50 rfl rfl ?_
            refine r_go (tgt := 7) eSc_nearest_53 rfl ?_
            first | exact hA (by omega) _ | exact hB (by omega) _
theorem c_Sc_nearest (h : cl_W en X N zb wb C T J P z w) (hn : (n : Int) = J (X + 29) 5) (hq : ∀ T' J' P' L' z' w' rr, cl_W en X N zb wb C T' J' P' z' w' → cl_q X N T J P L T' J' P' L' → (∀ s, s < n → cl_fw C (po_get J (X + 31)) (cl_spt J X s) (rr s)) → Q (some (.int (m_i (cl_nf rr n).1))) (T', m_I J', P', L', z', w')) : m_call en (d + 5) mSc_nearest [.ref X] (T, m_I J, P, L, z, w) Q := by
  have h5 : 0 ≤ J (X + 29) 5 ∧ J (X + 29) 5 ≤ 6 := h.2.1.1.2.2.2.2.1
  have h7 := l_Sc_nearest (d := d) hn (by omega) hq n 0 (fun _ => 0) T J P L z w (-2) 0 none (by omega) h cl_q_r (fun s hs => absurd hs (by omega)) rfl
  refine m_into (by decide) (Nat.le_of_ble_eq_true rfl) rfl ?_
  refine r_bip eSc_nearest_0 (by decide) ?_
  refine r_isn (ls' := [some (.ref X), some (.int (m_i ((-2)))), none, none, none]) eSc_nearest_2 (Nat.le_of_ble_eq_true rfl) rfl ?_
  refine r_con eSc_nearest_3 ?_
  refine r_isn (ls' := [some (.ref X), some (.int (m_i ((-2)))), some (.int (m_i (0))), none, none]) eSc_nearest_4 (Nat.le_of_ble_eq_true rfl) rfl ?_
  refine r_con eSc_nearest_5 ?_
  refine r_isn (ls' := [some (.ref X), some (.int (m_i ((-2)))), some (.int (m_i (0))), some (.int (m_i (0))), none]) eSc_nearest_6 (Nat.le_of_ble_eq_true rfl) rfl ?_
  exact h7
end SCN
