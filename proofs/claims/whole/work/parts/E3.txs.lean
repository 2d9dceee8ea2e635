/-! the one text: where it lies and what it holds, at any state behind the start -/
def jd_tx : String := "width deep top swing block spot start wind do pile job seed east west lift lower wait still "
theorem jd_gm : ∀ (l : List Nat) (j : Nat), (l.map Int32.ofNat).getD j (Int32.ofNat 0) = Int32.ofNat (l.getD j 0)
  | [], j => rfl
  | _ :: _, 0 => rfl
  | _ :: l, j + 1 => jd_gm l j
theorem jd_len : ∀ i : Nat, i < 1 → ([92] : List Nat).getD i 0 < 2 ^ 31 := by decide
def jd_nw (u : State) (b : Nat) : Prop := ∀ w ∈ flatC (Jvm.Cond.and given_1 narrow_1), w.before #[Value.ref b] u = true
set_option maxRecDepth 100000 in
theorem jd_el : ∀ j : Nat, j < 92 → (Cond.eq (.elem (.field (Term.string "SwingCrane$Reader" 34) "java/lang/String" "value" "[B") (.int (Int32.ofNat j))) (.int (Int32.ofNat (m_txt.getD j 0)))) ∈ flatC (Jvm.Cond.and given_1 narrow_1) := by decide +kernel
set_option maxRecDepth 100000 in
theorem jd_5 : (Cond.exactly (Term.string "SwingCrane$Reader" 34) "java/lang/String") ∈ flatC (Jvm.Cond.and given_1 narrow_1) ∧ (Cond.eq (.field (Term.string "SwingCrane$Reader" 34) "java/lang/String" "coder" "B") (.int 0)) ∈ flatC (Jvm.Cond.and given_1 narrow_1) ∧ (Cond.arrayOf (.field (Term.string "SwingCrane$Reader" 34) "java/lang/String" "value" "[B") .byte) ∈ flatC (Jvm.Cond.and given_1 narrow_1) ∧ (Cond.eq (.length (.field (Term.string "SwingCrane$Reader" 34) "java/lang/String" "value" "[B")) (.int 92)) ∈ flatC (Jvm.Cond.and given_1 narrow_1) ∧ (Cond.eq (Term.string "SwingCrane$Reader" 34) (Term.string "SwingCraneModel" 149)) ∈ flatC (Jvm.Cond.and given_1 narrow_1) := by decide +kernel
set_option maxRecDepth 100000 in
theorem jd_w : (Cond.stringRef "SwingCrane$Reader" 34 jd_tx) ∈ tables_1 ∧ (Cond.stringRef "SwingCraneModel" 149 jd_tx) ∈ tables_1 := by decide +kernel
/-- the text at the place a -/
def jd_S (a t : Nat) (A : Nat → Prop) (U : State) (H : Heap) : Prop := va_O "java/lang/String" a A U H ∧ va_OF "java/lang/String" "coder" "B" (.int 0) a A U H ∧ va_OF "java/lang/String" "value" "[B" (.ref t) a A U H ∧ va_T .byte t 92 (fun j => .int (Int32.ofNat (m_txt.getD j 0))) A U H
theorem jd_txt {en : Nat → Nat} {H0 : Heap} {U : State} (h : m_s0 en H0 U) : vk_R "SwingCrane$Reader" 34 jd_tx (en 1) U ∧ vk_R "SwingCraneModel" 149 jd_tx (en 1) U ∧ ∃ t, jd_S (en 1) t (fun q => H0.size ≤ q) U H0 := by
  obtain ⟨u, b, g1, g2, g3, g4, g5⟩ := h
  have hs := flat_of_before _ g2
  obtain ⟨w1, w2, w3, w4, w5⟩ := jd_5
  have hA : ∀ a : Nat, a < u.heap.size → ¬ H0.size ≤ a := fun a q q2 => by rw [← g1] at q2; omega
  have e149 := va_eqR (hs _ w5) g4
  obtain ⟨adK, adV, hS, hK⟩ := vk_Sof (args := #[Value.ref b]) (s := u) (N := 1) (tm := fun _ => Term.string "SwingCrane$Reader" 34) (len := [92]) (byt := [m_txt.map Int32.ofNat]) (A := fun q => H0.size ≤ q) jd_len (fun _ _ => hs _ w1) (fun _ _ => hs _ w2) (fun _ _ => hs _ w3) (fun i hi => by
      obtain rfl : i = 0 := by omega
      exact hs _ w4) (fun i hi j hj => by
      obtain rfl : i = 0 := by omega
      have e : (([m_txt.map Int32.ofNat] : List (List Int32)).getD 0 []).getD j 0 = Int32.ofNat (m_txt.getD j 0) := by
        show (m_txt.map Int32.ofNat).getD j (Int32.ofNat 0) = _
        rw [jd_gm]
      rw [e]
      exact hs _ (jd_el j hj)) (fun i j hi hj q => absurd (by omega) q) hA
  have ea : adK 0 = en 1 := by
    have q := (hK 0 (by omega)).symm.trans g4
    exact Value.ref.inj (Option.some.inj q)
  refine ⟨vk_R.warm g5 (vk_R.of (g3 _ (m_inT jd_w.1)) g4), vk_R.warm g5 (vk_R.of (g3 _ (m_inT jd_w.2)) e149), adV 0, ?_⟩
  obtain ⟨q1, q2, q3, q4⟩ := (vk_S.moved g5.alike hS).1 0 (by omega)
  rw [ea, g1] at q1 q2 q3
  rw [g1] at q4
  refine ⟨q1, q2, q3, ?_⟩
  have e : (fun j => Value.int (([m_txt.map Int32.ofNat] : List (List Int32)).getD 0 [] |>.getD j 0)) = fun j => .int (Int32.ofNat (m_txt.getD j 0)) := by
    funext j
    show Value.int ((m_txt.map Int32.ofNat).getD j (Int32.ofNat 0)) = _
    rw [jd_gm]
  rw [← e]
  exact q4
set_option maxRecDepth 100000 in
theorem jd_sw : (Cond.eq (Term.static "java/lang/String" "COMPACT_STRINGS" "Z") (.int 1)) ∈ flatC (Jvm.Cond.and given_1 narrow_1) ∧ (Cond.isRef (Term.static "jdk/internal/util/Preconditions" "SIOOBE_FORMATTER" "Ljava/util/function/BiFunction;")) ∈ flatC (Jvm.Cond.and given_1 narrow_1) := by decide +kernel
set_option maxRecDepth 100000 in
theorem jd_sl : ((Cond.laysStatic "java/lang/String" "COMPACT_STRINGS" "Z") ∈ tables_1 ∧ (Cond.initialized "java/lang/String") ∈ tables_1) ∧ ((Cond.laysStatic "jdk/internal/util/Preconditions" "SIOOBE_FORMATTER" "Ljava/util/function/BiFunction;") ∈ tables_1 ∧ (Cond.initialized "jdk/internal/util/Preconditions") ∈ tables_1) := by decide +kernel
theorem jd_isRef {args : Array Value} {s : State} {t : Term} (h : (Cond.isRef t).before args s = true) : ∃ v, t.eval args s none [] s = some v ∧ (v = .null ∨ ∃ a, v = .ref a) := by
  cases hv : t.eval args s none [] s with
  | none => simp [Cond.before, Cond.holds, Cond.value, hv] at h
  | some w =>
    refine ⟨w, rfl, ?_⟩
    cases w <;> simp [Cond.before, Cond.holds, Cond.value, hv] at h
    · exact Or.inl rfl
    · exact Or.inr ⟨_, rfl⟩
theorem jd_st {en : Nat → Nat} {H0 : Heap} {U : State} (h : m_s0 en H0 U) : va_Z "java/lang/String" "COMPACT_STRINGS" "Z" (.int 1) (fun q => H0.size ≤ q) U H0 ∧ ∃ f, (f = .null ∨ ∃ a, f = .ref a) ∧ va_Z "jdk/internal/util/Preconditions" "SIOOBE_FORMATTER" "Ljava/util/function/BiFunction;" f (fun q => H0.size ≤ q) U H0 := by
  obtain ⟨u, b, g1, g2, g3, g4, g5⟩ := h
  have hs := flat_of_before _ g2
  have hA : ∀ a : Nat, a < u.heap.size → ¬ H0.size ≤ a := fun a q q2 => by rw [← g1] at q2; omega
  obtain ⟨f, hf, hf2⟩ := jd_isRef (hs _ jd_sw.2)
  have z1 := va_Z.moved g5.alike (va_Zof (A := fun q => H0.size ≤ q) (g3 _ (m_inT jd_sl.1.1)) (g3 _ (m_inT jd_sl.1.2)) (va_eqt (hs _ jd_sw.1)) hA)
  have z2 := va_Z.moved g5.alike (va_Zof (A := fun q => H0.size ≤ q) (g3 _ (m_inT jd_sl.2.1)) (g3 _ (m_inT jd_sl.2.2)) hf hA)
  rw [g1] at z1 z2
  exact ⟨z1, f, hf2, z2⟩
