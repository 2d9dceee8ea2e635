/-! the search by cost, told without the machine -/
def b_K (S : a_S → Prop) (E0 E1 E2 : a_S → a_S → Prop) : Nat → Nat → a_S → Prop
  | 0, d, x => S x ∧ d = 0
  | l + 1, d, x => ∃ y, (b_K S E0 E1 E2 l d y ∧ E0 y x) ∨ (∃ d', d = d' + 1 ∧ b_K S E0 E1 E2 l d' y ∧ E1 y x) ∨ (∃ d', d = d' + 2 ∧ b_K S E0 E1 E2 l d' y ∧ E2 y x)
/-- what was met stays as it was -/
def g_x (C : a_C) (g g' : g_T) : Prop := g.2.2.toNat ≤ g'.2.2.toNat ∧ ∀ i, i < g.2.2.toNat → g_q g' i = g_q g i ∧ g'.1 (a_nb C (g_q g i)).toNat = g.1 (a_nb C (g_q g i)).toNat
section KC
variable {C : a_C} {n : Nat} {bw most by_ : Int} {Sd : a_S → Prop} {g g' g2 : g_T} {σ τ γ : a_S}
theorem g_x_r : g_x C g g := ⟨Nat.le_refl _, fun _ _ => ⟨rfl, rfl⟩⟩
theorem g_x_t (h : g_x C g g') (h2 : g_x C g' g2) : g_x C g g2 := by
  refine ⟨Nat.le_trans h.1 h2.1, fun i hi => ?_⟩
  have a := h.2 i hi
  have b := h2.2 i (by have := h.1; omega)
  rw [a.1] at b
  exact ⟨b.1, b.2.trans a.2⟩
theorem g_x_lv (h : g_x C g g') {i : Nat} (hi : i < g.2.2.toNat) : g_lv C g' i = g_lv C g i := by
  unfold g_lv
  rw [(h.2 i hi).1, (h.2 i hi).2]
/-- one code: what is new -/
theorem g_one_x (ok : a_ok C) (hn : a_sz C ≤ n) (hnb : n ≤ 38880) (hw : g_wf C n g) {σ : a_S} {st : Int} {c : Nat} (hc : c < 9) (hst : 0 ≤ st ∧ st ≤ 2 * g.2.2) :
    g_wf C n (g_one C n bw most by_ σ st c g) ∧ g_x C g (g_one C n bw most by_ σ st c g) ∧ (∀ i, g.2.2.toNat ≤ i → i < (g_one C n bw most by_ σ st c g).2.2.toNat → g_lv C (g_one C n bw most by_ σ st c g) i = st.toNat ∧ g_e C bw most by_ σ c ∧ g_q (g_one C n bw most by_ σ st c g) i = g_nx bw σ (c : Int)) ∧
    (g_e C bw most by_ σ c → ∃ i, i < (g_one C n bw most by_ σ st c g).2.2.toNat ∧ g_q (g_one C n bw most by_ σ st c g) i = g_nx bw σ (c : Int)) := by
  by_cases q : by_ / ((2 ^ c : Nat) : Int) % 2 = 1 ∧ (-most ≤ (g_nx bw σ (c : Int)).2.2.1 ∧ (g_nx bw σ (c : Int)).2.2.1 ≤ most) ∧ a_is C (g_nx bw σ (c : Int)) = true ∧ g.1 (a_nb C (g_nx bw σ (c : Int))).toNat = 0 ∧ g.2.2 < n
  · have e1 : g_one C n bw most by_ σ st c g = g_add C g (g_nx bw σ (c : Int)) (st * 16 + ((c : Int) + 1)) := by unfold g_one; rw [if_pos q]
    obtain ⟨q1, q2, q3, q4, q5⟩ := q
    have w0 := hw.1
    have et := g_add_t (C := C) (g := g) (τ := g_nx bw σ (c : Int)) (v := st * 16 + ((c : Int) + 1)) w0.1
    have em := g_add_m (C := C) (g := g) (v := st * 16 + ((c : Int) + 1)) (a_is_p5 ok q3)
    rw [e1, et]
    refine ⟨g_add_wf ok hw hn q3 q4 (by omega) (by omega), ⟨by omega, fun i hi => ⟨g_add_q hi, g_add_1 ok q3 (hw.2.2.1 i hi).1 (fun e => ?_)⟩⟩, fun i h1 h2 => ?_, fun _ => ⟨g.2.2.toNat, by omega, em⟩⟩
    · have := (hw.2.2.1 i hi).2.2.1
      rw [e] at this
      exact this q4
    · obtain rfl : i = g.2.2.toNat := by omega
      refine ⟨?_, ⟨q1, q2, q3⟩, em⟩
      unfold g_lv
      rw [em, g_add_2]
      omega
  · have e1 : g_one C n bw most by_ σ st c g = g := by unfold g_one; rw [if_neg q]
    rw [e1]
    refine ⟨hw, g_x_r, fun i h1 h2 => by omega, fun he => ?_⟩
    have hm : g.1 (a_nb C (g_nx bw σ (c : Int))).toNat ≠ 0 := fun e => q ⟨he.1, he.2.1, he.2.2, e, g_room ok hw hn he.2.2 e⟩
    exact hw.2.2.2.2 _ he.2.2 hm
theorem g_all_x (ok : a_ok C) (hn : a_sz C ≤ n) (hnb : n ≤ 38880) (hw : g_wf C n g) {σ : a_S} {st : Int} (hst : 0 ≤ st ∧ st ≤ 2 * g.2.2) : ∀ c, c ≤ 9 →
    g_wf C n (g_all C n bw most by_ σ st g c) ∧ g_x C g (g_all C n bw most by_ σ st g c) ∧ (∀ i, g.2.2.toNat ≤ i → i < (g_all C n bw most by_ σ st g c).2.2.toNat → g_lv C (g_all C n bw most by_ σ st g c) i = st.toNat ∧ g_E C bw most by_ σ (g_q (g_all C n bw most by_ σ st g c) i)) ∧
    (∀ c', c' < c → g_e C bw most by_ σ c' → ∃ i, i < (g_all C n bw most by_ σ st g c).2.2.toNat ∧ g_q (g_all C n bw most by_ σ st g c) i = g_nx bw σ (c' : Int)) := by
  intro c
  induction c with
  | zero => intro _; exact ⟨hw, g_x_r, fun i h1 h2 => by have : i < g.2.2.toNat := h2; omega, fun c' h => by omega⟩
  | succ c ih =>
    intro hc
    obtain ⟨i1, i2, i3, i4⟩ := ih (by omega)
    obtain ⟨g1, eg⟩ : ∃ g1, g1 = g_all C n bw most by_ σ st g c := ⟨_, rfl⟩
    have e2 : g_all C n bw most by_ σ st g (c + 1) = g_one C n bw most by_ σ st c g1 := by rw [eg]; rfl
    rw [← eg] at i1 i2 i3 i4
    have t1 := i2.1
    have w1 := i1.1
    have w0 := hw.1
    obtain ⟨j1, j2, j3, j4⟩ := g_one_x (bw := bw) (most := most) (by_ := by_) ok hn hnb i1 (σ := σ) (st := st) (c := c) (by omega) (by omega)
    rw [e2]
    refine ⟨j1, g_x_t i2 j2, fun i h1 h2 => ?_, fun c' h1 h2 => ?_⟩
    · rcases Nat.lt_or_ge i g1.2.2.toNat with q | q
      · obtain ⟨a1, a2⟩ := i3 i h1 q
        rw [g_x_lv j2 q, (j2.2 i q).1]
        exact ⟨a1, a2⟩
      · obtain ⟨a1, a2, a3⟩ := j3 i q h2
        exact ⟨a1, c, by omega, a2, a3⟩
    · rcases Nat.lt_or_eq_of_le (Nat.le_of_lt_succ h1) with q | q
      · obtain ⟨i, a1, a2⟩ := i4 c' q h2
        exact ⟨i, by have := j2.1; omega, by rw [(j2.2 i a1).1]; exact a2⟩
      · subst q
        exact j4 h2
/-- the search by cost: level K begins at b in the line; worked off: by what costs nothing up to p0, by one up to p1, by two up to p2 -/
def kc_I (C : a_C) (n : Nat) (Sd : a_S → Prop) (g : g_T) (K b p0 p1 p2 : Nat) : Prop := g_wf C n g ∧ (∀ i, i < g.2.2.toNat → ∃ l, b_K Sd (g_E C 0 4 16) (g_E C 0 4 170) (g_E C 0 4 325) l (g_lv C g i) (g_q g i)) ∧ (∀ i, i < g.2.2.toNat → (i < b → g_lv C g i < K) ∧ (b ≤ i → g_lv C g i = K)) ∧
  (∀ i, i < p0 → ∀ τ, g_E C 0 4 16 (g_q g i) τ → ∃ j, j < g.2.2.toNat ∧ g_q g j = τ ∧ g_lv C g j ≤ g_lv C g i) ∧
  (∀ i, i < p1 → ∀ τ, g_E C 0 4 170 (g_q g i) τ → ∃ j, j < g.2.2.toNat ∧ g_q g j = τ ∧ g_lv C g j ≤ g_lv C g i + 1) ∧
  (∀ i, i < p2 → ∀ τ, g_E C 0 4 325 (g_q g i) τ → ∃ j, j < g.2.2.toNat ∧ g_q g j = τ ∧ g_lv C g j ≤ g_lv C g i + 2) ∧
  (p0 ≤ g.2.2.toNat ∧ p1 ≤ g.2.2.toNat ∧ p2 ≤ g.2.2.toNat) ∧ ∀ σ, Sd σ → a_is C σ = true → ∃ j, j < g.2.2.toNat ∧ g_q g j = σ ∧ g_lv C g j = 0
/-- one of the line is worked off by one cost -/
theorem kc_st (ok : a_ok C) (hn : a_sz C ≤ n) (hnb : n ≤ 38880) {K b p0 p1 p2 : Nat} (h : kc_I C n Sd g K b p0 p1 p2) {j : Nat} {ct : Nat} (hj : j < g.2.2.toNat) (hl : g_lv C g j + ct = K) (hct : ct ≤ 2) (hb : b ≤ g.2.2.toNat) {by_ : Int} (hE : ∀ l x, b_K Sd (g_E C 0 4 16) (g_E C 0 4 170) (g_E C 0 4 325) l (g_lv C g j) (g_q g j) → g_E C 0 4 by_ (g_q g j) x → b_K Sd (g_E C 0 4 16) (g_E C 0 4 170) (g_E C 0 4 325) (l + 1) K x)
    (hg : g' = g_all C n 0 4 by_ (g_q g j) (g.1 (a_nb C (g_q g j)).toNat / 16 + (ct : Int)) g 9) :
    kc_I C n Sd g' K b p0 p1 p2 ∧ g_x C g g' ∧ ∀ τ, g_E C 0 4 by_ (g_q g' j) τ → ∃ i, i < g'.2.2.toNat ∧ g_q g' i = τ ∧ g_lv C g' i ≤ K := by
  obtain ⟨hw, hS, hL, h0, h1, h2, hp, hz⟩ := h
  have wj := hw.2.2.1 j hj
  have hm := hw.2.1 (a_nb C (g_q g j)).toNat (by have := a_nb_b ok wj.1; omega)
  have elv : (g_lv C g j : Int) = g.1 (a_nb C (g_q g j)).toNat / 16 := by unfold g_lv; omega
  have w0 := hw.1
  obtain ⟨a1, a2, a3, a4⟩ := g_all_x (bw := 0) (most := 4) (by_ := by_) ok hn hnb hw (σ := g_q g j) (st := g.1 (a_nb C (g_q g j)).toNat / 16 + (ct : Int)) (by omega) 9 (by omega)
  rw [← hg] at a1 a2 a3 a4
  have est : (g.1 (a_nb C (g_q g j)).toNat / 16 + (ct : Int)).toNat = K := by omega
  rw [est] at a3
  have tt := a2.1
  have hL' : ∀ i, i < g'.2.2.toNat → (i < b → g_lv C g' i < K) ∧ (b ≤ i → g_lv C g' i = K) := fun i hi => by
    rcases Nat.lt_or_ge i g.2.2.toNat with q | q
    · rw [g_x_lv a2 q]
      exact hL i q
    · exact ⟨fun e => by omega, fun _ => (a3 i q hi).1⟩
  have old : ∀ {p e : Nat} {E : a_S → a_S → Prop}, p ≤ g.2.2.toNat → (∀ i, i < p → ∀ τ, E (g_q g i) τ → ∃ j, j < g.2.2.toNat ∧ g_q g j = τ ∧ g_lv C g j ≤ g_lv C g i + e) → ∀ i, i < p → ∀ τ, E (g_q g' i) τ → ∃ j, j < g'.2.2.toNat ∧ g_q g' j = τ ∧ g_lv C g' j ≤ g_lv C g' i + e := fun hpp H i hi τ hE => by
    rw [(a2.2 i (by omega)).1] at hE
    obtain ⟨m, b1, b2, b3⟩ := H i hi τ hE
    exact ⟨m, by omega, by rw [(a2.2 m b1).1]; exact b2, by rw [g_x_lv a2 b1, g_x_lv a2 (by omega)]; exact b3⟩
  refine ⟨⟨a1, fun i hi => ?_, hL', old (e := 0) hp.1 h0, old hp.2.1 h1, old hp.2.2 h2, by omega, fun ρ b1 b2 => ?_⟩, a2, fun τ hτ => ?_⟩
  · rcases Nat.lt_or_ge i g.2.2.toNat with q | q
    · rw [g_x_lv a2 q, (a2.2 i q).1]
      exact hS i q
    · obtain ⟨b1, b2⟩ := a3 i q hi
      obtain ⟨l, hl2⟩ := hS j hj
      exact ⟨l + 1, by rw [b1]; exact hE l _ hl2 b2⟩
  · obtain ⟨m, c1, c2, c3⟩ := hz ρ b1 b2
    exact ⟨m, by omega, by rw [(a2.2 m c1).1]; exact c2, by rw [g_x_lv a2 c1]; exact c3⟩
  · rw [(a2.2 j hj).1] at hτ
    obtain ⟨c, hc, he, rfl⟩ := hτ
    obtain ⟨i, b1, b2⟩ := a4 c hc he
    refine ⟨i, b1, b2, ?_⟩
    have := hL' i b1
    rcases Nat.lt_or_ge i b with q | q
    · exact Nat.le_of_lt (this.1 q)
    · rw [this.2 q]; exact Nat.le_refl _
theorem kc_s0 (ok : a_ok C) (hn : a_sz C ≤ n) (hnb : n ≤ 38880) {K b p0 p1 p2 : Nat} (h : kc_I C n Sd g K b p0 p1 p2) (hj : p0 < g.2.2.toNat) (hb : b ≤ p0) (hg : g' = g_all C n 0 4 16 (g_q g p0) (g.1 (a_nb C (g_q g p0)).toNat / 16 + 0) g 9) : kc_I C n Sd g' K b (p0 + 1) p1 p2 ∧ g_x C g g' := by
  have hl := (h.2.2.1 p0 hj).2 hb
  obtain ⟨⟨k1, k2, k3, k4, k5, k6, k7, k8⟩, kx, k9⟩ := kc_st ok hn hnb h hj (ct := 0) (by omega) (by omega) (by omega) (fun l x h1 h2 => ⟨_, Or.inl ⟨by rw [← hl]; exact h1, h2⟩⟩) hg
  have tt := kx.1
  refine ⟨⟨k1, k2, k3, fun i hi τ hτ => ?_, k5, k6, by omega, k8⟩, kx⟩
  rcases Nat.lt_or_eq_of_le (Nat.le_of_lt_succ hi) with q | q
  · exact k4 i q τ hτ
  · subst q
    obtain ⟨m, a1, a2, a3⟩ := k9 τ hτ
    exact ⟨m, a1, a2, by rw [g_x_lv kx hj, hl]; exact a3⟩
theorem kc_s1 (ok : a_ok C) (hn : a_sz C ≤ n) (hnb : n ≤ 38880) {K b p0 p1 p2 : Nat} (h : kc_I C n Sd g K b p0 p1 p2) (hj : p1 < g.2.2.toNat) (hb : b ≤ g.2.2.toNat) (hl : g_lv C g p1 + 1 = K) (hg : g' = g_all C n 0 4 170 (g_q g p1) (g.1 (a_nb C (g_q g p1)).toNat / 16 + 1) g 9) : kc_I C n Sd g' K b p0 (p1 + 1) p2 ∧ g_x C g g' := by
  obtain ⟨⟨k1, k2, k3, k4, k5, k6, k7, k8⟩, kx, k9⟩ := kc_st ok hn hnb h hj (ct := 1) (by omega) (by omega) hb (fun l x h1 h2 => ⟨_, Or.inr (Or.inl ⟨_, hl.symm, h1, h2⟩)⟩) hg
  have tt := kx.1
  refine ⟨⟨k1, k2, k3, k4, fun i hi τ hτ => ?_, k6, by omega, k8⟩, kx⟩
  rcases Nat.lt_or_eq_of_le (Nat.le_of_lt_succ hi) with q | q
  · exact k5 i q τ hτ
  · subst q
    obtain ⟨m, a1, a2, a3⟩ := k9 τ hτ
    exact ⟨m, a1, a2, by rw [g_x_lv kx hj, hl]; exact a3⟩
theorem kc_s2 (ok : a_ok C) (hn : a_sz C ≤ n) (hnb : n ≤ 38880) {K b p0 p1 p2 : Nat} (h : kc_I C n Sd g K b p0 p1 p2) (hj : p2 < g.2.2.toNat) (hb : b ≤ g.2.2.toNat) (hl : g_lv C g p2 + 2 = K) (hg : g' = g_all C n 0 4 325 (g_q g p2) (g.1 (a_nb C (g_q g p2)).toNat / 16 + 2) g 9) : kc_I C n Sd g' K b p0 p1 (p2 + 1) ∧ g_x C g g' := by
  obtain ⟨⟨k1, k2, k3, k4, k5, k6, k7, k8⟩, kx, k9⟩ := kc_st ok hn hnb h hj (ct := 2) (by omega) (by omega) hb (fun l x h1 h2 => ⟨_, Or.inr (Or.inr ⟨_, hl.symm, h1, h2⟩)⟩) hg
  have tt := kx.1
  refine ⟨⟨k1, k2, k3, k4, k5, fun i hi τ hτ => ?_, by omega, k8⟩, kx⟩
  rcases Nat.lt_or_eq_of_le (Nat.le_of_lt_succ hi) with q | q
  · exact k6 i q τ hτ
  · subst q
    obtain ⟨m, a1, a2, a3⟩ := k9 τ hτ
    exact ⟨m, a1, a2, by rw [g_x_lv kx hj, hl]; exact a3⟩
/-- all of cost K at most was met, as cheap as can be -/
theorem kc_all {K b s : Nat} (h : kc_I C n Sd g K b g.2.2.toNat b s) (hb : b ≤ g.2.2.toNat) (hs : s ≤ b) (hl : ∀ i, s ≤ i → i < b → g_lv C g i + 1 = K) (hSd : ∀ σ, Sd σ → a_is C σ = true) : ∀ (l d : Nat) (x : a_S), d ≤ K → b_K Sd (g_E C 0 4 16) (g_E C 0 4 170) (g_E C 0 4 325) l d x → ∃ j, j < g.2.2.toNat ∧ g_q g j = x ∧ g_lv C g j ≤ d := by
  obtain ⟨hw, hS, hL, h0, h1, h2, hp, hz⟩ := h
  intro l
  induction l with
  | zero =>
    intro d x _ hx
    obtain ⟨j, a1, a2, a3⟩ := hz x hx.1 (hSd x hx.1)
    exact ⟨j, a1, a2, by omega⟩
  | succ l ih =>
    intro d x hd hx
    obtain ⟨y, hx | ⟨d', rfl, hx, he⟩ | ⟨d', rfl, hx, he⟩⟩ := hx
    · obtain ⟨j, a1, a2, a3⟩ := ih d y hd hx.1
      obtain ⟨m, b1, b2, b3⟩ := h0 j a1 x (by rw [a2]; exact hx.2)
      exact ⟨m, b1, b2, by omega⟩
    · obtain ⟨j, a1, a2, a3⟩ := ih d' y (by omega) hx
      have hjb : j < b := by
        rcases Nat.lt_or_ge j b with q | q
        · exact q
        · have := (hL j a1).2 q; omega
      obtain ⟨m, b1, b2, b3⟩ := h1 j hjb x (by rw [a2]; exact he)
      exact ⟨m, b1, b2, by omega⟩
    · obtain ⟨j, a1, a2, a3⟩ := ih d' y (by omega) hx
      have hjb : j < b := by
        rcases Nat.lt_or_ge j b with q | q
        · exact q
        · have := (hL j a1).2 q; omega
      have hjs : j < s := by
        rcases Nat.lt_or_ge j s with q | q
        · exact q
        · have := hl j q hjb; omega
      obtain ⟨m, b1, b2, b3⟩ := h2 j hjs x (by rw [a2]; exact he)
      exact ⟨m, b1, b2, by omega⟩
/-- nothing is left: all was met -/
theorem kc_end {K b : Nat} (h : kc_I C n Sd g K b g.2.2.toNat g.2.2.toNat g.2.2.toNat) (hSd : ∀ σ, Sd σ → a_is C σ = true) : ∀ (l d : Nat) (x : a_S), b_K Sd (g_E C 0 4 16) (g_E C 0 4 170) (g_E C 0 4 325) l d x → ∃ j, j < g.2.2.toNat ∧ g_q g j = x := by
  obtain ⟨hw, hS, hL, h0, h1, h2, hp, hz⟩ := h
  intro l
  induction l with
  | zero =>
    intro d x hx
    obtain ⟨j, a1, a2, a3⟩ := hz x hx.1 (hSd x hx.1)
    exact ⟨j, a1, a2⟩
  | succ l ih =>
    intro d x hx
    obtain ⟨y, hx | ⟨d', rfl, hx, he⟩ | ⟨d', rfl, hx, he⟩⟩ := hx
    · obtain ⟨j, a1, a2⟩ := ih d y hx.1
      obtain ⟨m, b1, b2, b3⟩ := h0 j a1 x (by rw [a2]; exact hx.2)
      exact ⟨m, b1, b2⟩
    · obtain ⟨j, a1, a2⟩ := ih d' y hx
      obtain ⟨m, b1, b2, b3⟩ := h1 j a1 x (by rw [a2]; exact he)
      exact ⟨m, b1, b2⟩
    · obtain ⟨j, a1, a2⟩ := ih d' y hx
      obtain ⟨m, b1, b2, b3⟩ := h2 j a1 x (by rw [a2]; exact he)
      exact ⟨m, b1, b2⟩
/-- the fewest deeds, or -2 -/
def b_kan (S : a_S → Prop) (E0 E1 E2 : a_S → a_S → Prop) (σ : a_S) (r : Int) : Prop := (∃ d : Nat, r = d ∧ (∃ l, b_K S E0 E1 E2 l d σ) ∧ ∀ l d', b_K S E0 E1 E2 l d' σ → d ≤ d') ∨ (r = -2 ∧ ∀ l d, ¬ b_K S E0 E1 E2 l d σ)
end KC
