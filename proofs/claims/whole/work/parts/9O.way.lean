/-! a search of the class: its seeds, its ways -/
def g_Z (C : a_C) (n : Nat) (g : g_T) : Prop := g_wf C n g ∧ ∀ i : Nat, i < g.2.2.toNat → g.1 (a_nb C (g_q g i)).toNat = 10
/-- so many steps along edges -/
def p_ch {α : Type} (E : α → α → Prop) : Nat → α → α → Prop
  | 0, x, y => x = y
  | n + 1, x, y => ∃ z, E x z ∧ p_ch E n z y
theorem p_ch_D {α : Type} {S : α → Prop} {E : α → α → Prop} : ∀ (r t : Nat) (x y : α), b_D S E t x → p_ch E r x y → b_D S E (t + r) y := by
  intro r
  induction r with
  | zero => intro t x y h1 h2; cases h2; exact h1
  | succ r ih =>
    intro t x y h1 h2
    obtain ⟨z, h3, h4⟩ := h2
    have := ih (t + 1) z y ⟨x, h1, h3⟩ h4
    rw [show t + (r + 1) = t + 1 + r by omega]
    exact this
theorem p_ch_e {α : Type} {E : α → α → Prop} : ∀ (r : Nat) (x y z : α), p_ch E r x y → E y z → p_ch E (r + 1) x z := by
  intro r
  induction r with
  | zero => intro x y z h1 h2; cases h1; exact ⟨z, h2, rfl⟩
  | succ r ih =>
    intro x y z h1 h2
    obtain ⟨u, h3, h4⟩ := h1
    exact ⟨u, h3, ih u y z h4 h2⟩
theorem D_p_ch {α : Type} {E : α → α → Prop} {s : α} : ∀ (t : Nat) (y : α), b_D (fun x => x = s) E t y ↔ p_ch E t s y := by
  intro t
  induction t with
  | zero => intro y; exact ⟨fun h => h.symm, fun h => h.symm⟩
  | succ t ih =>
    intro y
    constructor
    · rintro ⟨z, h1, h2⟩
      exact p_ch_e t s z y ((ih z).mp h1) h2
    · intro h
      have := p_ch_D (S := fun x => x = s) (t + 1) 0 s y rfl h
      rw [Nat.zero_add] at this
      exact this
section GW
variable {C : a_C} {n : Nat} {bw most by_ : Int} {Sd : a_S → Prop} {s : Nat} {g : g_T} {par cod : Nat → Nat} {k : Nat} {σ τ γ : a_S} {v : Int}
theorem g_Z_0 (ok : a_ok C) (h : ∀ i : Nat, (i : Int) < a_sz C → g.1 i = 0) (h2 : g.2.2 = 0) : g_Z C n g := by
  have e : g.2.2.toNat = 0 := by omega
  refine ⟨⟨by omega, fun i hi => by rw [h i hi]; omega, fun i hi => by omega, fun i j hi => by omega, fun σ h3 h4 => ?_⟩, fun i hi => by omega⟩
  have := a_nb_b ok h3
  exact absurd (h _ (by omega)) h4
theorem g_Z_add (ok : a_ok C) (h : g_Z C n g) (hn : a_sz C ≤ n) (hτ : a_is C τ = true) (hu : g.1 (a_nb C τ).toNat = 0) : g_Z C n (g_add C g τ 10) := by
  have h0 := h.1.1
  refine ⟨g_add_wf ok h.1 hn hτ hu (by omega) (by omega), fun i hi => ?_⟩
  rw [g_add_t h0.1] at hi
  rcases Nat.lt_or_eq_of_le (Nat.le_of_lt_succ hi) with q | q
  · rw [g_add_q q, g_add_1 ok hτ (h.1.2.2.1 i q).1 (fun e => ?_)]
    · exact h.2 i q
    · have := (h.1.2.2.1 i q).2.2.1
      rw [e] at this
      exact this hu
  · subst q
    rw [g_add_m (a_is_p5 ok hτ), g_add_2]
theorem g_Z_I (h : g_Z C n g) (hS : ∀ σ, Sd σ ↔ ∃ i, i < g.2.2.toNat ∧ g_q g i = σ) : g_I C n bw most by_ Sd g.2.2.toNat g (fun _ => 0) (fun _ => 0) 0 0 := by
  obtain ⟨hw, hz⟩ := h
  refine ⟨hw, b_init hw.2.2.2.1 (fun σ => ?_) (fun i hi => (hS _).mpr ⟨i, hi, rfl⟩), fun i h1 h2 => by omega, fun i i' h1 h2 h3 => by omega, fun j c' h1 => ?_, Nat.le_refl _, hz⟩
  · by_cases q : ∃ i, i < g.2.2.toNat ∧ g_q g i = σ
    · left
      obtain ⟨i, hi, rfl⟩ := q
      refine ⟨?_, (hS _).mpr ⟨i, hi, rfl⟩, i, hi, rfl⟩
      rw [g_F_is (hw.2.2.1 i hi).1 (hw.2.2.1 i hi).2.2.1, hz i hi]
      rfl
    · right
      refine ⟨?_, fun e => q ((hS _).mp e)⟩
      unfold g_F
      rw [if_neg]
      rintro ⟨e1, e2⟩
      exact q (hw.2.2.2.2 σ e1 e2)
  · unfold g_lt at h1
    omega
/-- how far the i-th of the line is -/
def g_lv (C : a_C) (g : g_T) (i : Nat) : Nat := (g.1 (a_nb C (g_q g i)).toNat / 16).toNat
/-- the j-th ahead of the i-th -/
def g_an (par : Nat → Nat) (i : Nat) : Nat → Nat
  | 0 => i
  | j + 1 => par (g_an par i j)
theorem g_lv_F (h : g_I C n bw most by_ Sd s g par cod k 0) {i : Nat} (hi : i < g.2.2.toNat) : g_F C g (g_q g i) = some (g_lv C g i) := g_F_is (h.1.2.2.1 i hi).1 (h.1.2.2.1 i hi).2.2.1
theorem g_lv_0 (h : g_I C n bw most by_ Sd s g par cod k 0) {i : Nat} (hi : i < s) : g_lv C g i = 0 := by
  unfold g_lv
  rw [h.2.2.2.2.2.2 i hi]
  rfl
theorem g_lv_s (ok : a_ok C) (h : g_I C n bw most by_ Sd s g par cod k 0) {i : Nat} (h1 : s ≤ i) (h2 : i < g.2.2.toNat) : g_lv C g i = g_lv C g (par i) + 1 ∧ par i < i ∧ par i < k := by
  obtain ⟨a1, a2, a3, a4, a5, a6⟩ := h.2.2.1 i h1 h2
  have hb := h.1.2.2.1 (par i) (by omega)
  have hm := h.1.2.1 (a_nb C (g_q g (par i))).toNat (by have := a_nb_b ok hb.1; omega)
  unfold g_lv
  unfold g_lt at a6
  rw [a5]
  omega
theorem g_an_lv (ok : a_ok C) (h : g_I C n bw most by_ Sd s g par cod k 0) {i l r : Nat} (hi : i < g.2.2.toNat) (hl : g_lv C g i = l + r) : ∀ j, j ≤ r → g_an par i j < g.2.2.toNat ∧ g_lv C g (g_an par i j) = l + r - j ∧ (j < r → s ≤ g_an par i j) := by
  intro j
  have ns : ∀ a, g_lv C g a ≠ 0 → s ≤ a := fun a ha => by
    rcases Nat.lt_or_ge a s with q | q
    · exact absurd (g_lv_0 h q) ha
    · exact q
  induction j with
  | zero => intro _; exact ⟨hi, by show g_lv C g i = _; omega, fun q => ns i (by omega)⟩
  | succ j ih =>
    intro hj
    obtain ⟨h1, h2, h3⟩ := ih (by omega)
    obtain ⟨h4, h5, h6⟩ := g_lv_s ok h (h3 (by omega)) h1
    show par _ < _ ∧ g_lv C g (par _) = _ ∧ _
    exact ⟨by omega, by omega, fun q => ns _ (by show g_lv C g (par _) ≠ 0; omega)⟩
/-- an edge of one that was worked off leads to one that was met, by an earlier or the same edge -/
theorem g_nx_i (h : g_I C n bw most by_ Sd s g par cod k 0) {a c : Nat} (ha : a < k) (hc : c < 9) (he : g_e C bw most by_ (g_q g a) c) : ∃ i, i < g.2.2.toNat ∧ g_q g i = g_nx bw (g_q g a) (c : Int) ∧ (i < s ∨ g_lt (par i) (cod i) a (c + 1)) ∧ g_lv C g i ≤ g_lv C g a + 1 := by
  have hk := h.2.1.2.2.2.2.2.2.2
  obtain ⟨i, a1, a2, a3⟩ := h.2.2.2.2.1 a c (Or.inl ha) hc (by omega) he
  refine ⟨i, a1, a2, a3, ?_⟩
  obtain ⟨n', b1, b2⟩ := h.2.1.2.2.2.2.2.2.1 a ha _ _ (g_lv_F h (by omega)) ⟨c, hc, he, rfl⟩
  rw [← a2, g_lv_F h a1] at b1
  cases b1
  exact b2
theorem g_ge (h : g_I C n bw most by_ Sd s g par cod k 0) {a i r : Nat} (ha : a < g.2.2.toNat) (hi : i < g.2.2.toNat) (hp : p_ch (g_E C bw most by_) r (g_q g a) (g_q g i)) : g_lv C g i ≤ g_lv C g a + r := by
  have h1 := b_exact h.2.1 (g_lv_F h ha)
  have h2 := b_exact h.2.1 (g_lv_F h hi)
  exact h2.2 _ (p_ch_D r _ _ _ h1.1 hp)
theorem g_ord (h : g_I C n bw most by_ Sd s g par cod k 0) {a b : Nat} (ha : s ≤ a) (ha2 : a < g.2.2.toNat) (hb : s ≤ b) (hl : g_lt (par a) (cod a) (par b) (cod b)) : a < b := by
  rcases Nat.lt_trichotomy a b with q | q | q
  · exact q
  · subst q
    unfold g_lt at hl
    omega
  · have := h.2.2.2.1 b a hb q ha2
    unfold g_lt at hl this
    omega
/-- nobody who stands earlier in the line is as near to what was met as the way that met it -/
theorem g_mono (ok : a_ok C) (h : g_I C n bw most by_ Sd s g par cod k 0) : ∀ (r a b i l : Nat), a < b → i < g.2.2.toNat → g_an par i r = b → g_lv C g a = l → g_lv C g i = l + r → p_ch (g_E C bw most by_) r (g_q g a) (g_q g i) → False := by
  intro r
  induction r with
  | zero =>
    intro a b i l hab hi hb _ _ hp
    have hb2 : i = b := hb
    have := h.1.2.2.2.1 a i (by omega) hi hp
    omega
  | succ r ih =>
    intro a b i l hab hi hb hla hli hp
    obtain ⟨x, ⟨c, hc, he, rfl⟩, hp2⟩ := hp
    obtain ⟨b1, b2, b3⟩ := g_an_lv ok h hi (l := l) (r := r + 1) hli r (by omega)
    have b4 := b3 (by omega)
    obtain ⟨c1, c2, c3⟩ := g_lv_s ok h b4 b1
    have hpb : par (g_an par i r) = b := hb
    obtain ⟨i', d1, d2, d3, d4⟩ := g_nx_i h (by omega : a < k) hc he
    rw [← d2] at hp2
    have d5 := g_ge h d1 hi hp2
    have hs' : s ≤ i' := by
      rcases Nat.lt_or_ge i' s with q | q
      · have := g_lv_0 h q; omega
      · exact q
    have d6 : g_lt (par i') (cod i') (par (g_an par i r)) (cod (g_an par i r)) := by
      rcases d3 with q | q
      · omega
      · unfold g_lt at q ⊢
        omega
    exact ih i' (g_an par i r) i (l + 1) (g_ord h hs' d1 b4 d6) hi rfl (by omega) (by omega) hp2
/-- along the way that met something, each code is the smallest that leads nearer -/
theorem g_first (ok : a_ok C) (h : g_I C n bw most by_ Sd s g par cod k 0) {i l r c : Nat} (hi : i < g.2.2.toNat) (hl : g_lv C g i = l + 1 + r) (hc : c < cod (g_an par i r)) (he : g_e C bw most by_ (g_q g (g_an par i (r + 1))) c) (hp : p_ch (g_E C bw most by_) r (g_nx bw (g_q g (g_an par i (r + 1))) (c : Int)) (g_q g i)) : False := by
  obtain ⟨b1, b2, b3⟩ := g_an_lv ok h hi (l := l) (r := r + 1) (by omega) r (by omega)
  have b4 := b3 (by omega)
  obtain ⟨c1, c2, c3⟩ := g_lv_s ok h b4 b1
  have hcd := (h.2.2.1 _ b4 b1).2.1
  obtain ⟨i', d1, d2, d3, d4⟩ := g_nx_i h (show g_an par i (r + 1) < k from c3) (by omega) he
  rw [← d2] at hp
  have d5 := g_ge h d1 hi hp
  have e1 : g_an par i (r + 1) = par (g_an par i r) := rfl
  rw [e1] at d3 d4
  have hs' : s ≤ i' := by
    rcases Nat.lt_or_ge i' s with q | q
    · have := g_lv_0 h q; omega
    · exact q
  have d6 : g_lt (par i') (cod i') (par (g_an par i r)) (cod (g_an par i r)) := by
    rcases d3 with q | q
    · omega
    · unfold g_lt at q ⊢
      omega
  exact g_mono ok h r i' (g_an par i r) i (l + 1) (g_ord h hs' d1 b4 d6) hi rfl (by omega) (by omega) hp
/-- the way itself -/
theorem g_way (ok : a_ok C) (h : g_I C n bw most by_ Sd s g par cod k 0) {i l : Nat} (hi : i < g.2.2.toNat) : ∀ r, g_lv C g i = l + r → p_ch (g_E C bw most by_) r (g_q g (g_an par i r)) (g_q g i) := by
  intro r
  induction r generalizing l with
  | zero => intro _; rfl
  | succ r ih =>
    intro hl
    obtain ⟨b1, b2, b3⟩ := g_an_lv ok h hi (l := l) (r := r + 1) hl r (by omega)
    obtain ⟨a1, a2, a3, a4, -⟩ := h.2.2.1 _ (b3 (by omega)) b1
    exact ⟨g_q g (g_an par i r), ⟨cod (g_an par i r), a2, a3, a4⟩, ih (l := l + 1) (by omega)⟩
end GW
