/-! a search of the class, told without the machine -/
def g_F (C : a_C) (g : g_T) (σ : a_S) : Option Nat := if a_is C σ = true ∧ g.1 (a_nb C σ).toNat ≠ 0 then some (g.1 (a_nb C σ).toNat / 16).toNat else none
def g_q (g : g_T) (i : Nat) : a_S := a_up (g.2.1 i)
def g_wf (C : a_C) (n : Nat) (g : g_T) : Prop := (0 ≤ g.2.2 ∧ g.2.2 ≤ n) ∧ (∀ i : Nat, (i : Int) < a_sz C → 0 ≤ g.1 i ∧ g.1 i < 2147483648) ∧
  (∀ i : Nat, i < g.2.2.toNat → a_is C (g_q g i) = true ∧ g.2.1 i = a_pk (g_q g i) ∧ g.1 (a_nb C (g_q g i)).toNat ≠ 0 ∧ g.1 (a_nb C (g_q g i)).toNat / 16 ≤ 2 * i) ∧
  (∀ i j : Nat, i < g.2.2.toNat → j < g.2.2.toNat → g_q g i = g_q g j → i = j) ∧
  (∀ σ, a_is C σ = true → g.1 (a_nb C σ).toNat ≠ 0 → ∃ i : Nat, i < g.2.2.toNat ∧ g_q g i = σ)
section GI
variable {C : a_C} {n : Nat} {g : g_T} {σ τ : a_S} {v : Int}
theorem g_F_some {t : Nat} (h : g_F C g σ = some t) : a_is C σ = true ∧ g.1 (a_nb C σ).toNat ≠ 0 ∧ (g.1 (a_nb C σ).toNat / 16).toNat = t := by
  unfold g_F at h
  split at h
  · next q => cases h; exact ⟨q.1, q.2, rfl⟩
  · cases h
theorem g_F_is (h : a_is C σ = true) (h2 : g.1 (a_nb C σ).toNat ≠ 0) : g_F C g σ = some (g.1 (a_nb C σ).toNat / 16).toNat := if_pos ⟨h, h2⟩
theorem g_F_no (h : g.1 (a_nb C σ).toNat = 0) : g_F C g σ = none := if_neg (fun q => q.2 h)
theorem g_room (ok : a_ok C) (hw : g_wf C n g) (hn : a_sz C ≤ n) (hτ : a_is C τ = true) (hu : g.1 (a_nb C τ).toNat = 0) : g.2.2 < n := by
  obtain ⟨h0, h1, h2, h3, h4⟩ := hw
  have bt := a_nb_b ok hτ
  have nz : ∀ i : Nat, i < g.2.2.toNat → (a_nb C (g_q g i)).toNat ≠ (a_nb C τ).toNat := fun i hi e => by
    have := (h2 i hi).2.2.1
    rw [e] at this
    exact this hu
  have := b_pig2 (n := g.2.2.toNat + 1) (N := n) (f := fun i => if i < g.2.2.toNat then (a_nb C (g_q g i)).toNat else (a_nb C τ).toNat) (fun i j hi hj e => by
    by_cases hi1 : i < g.2.2.toNat
    · rw [if_pos hi1] at e
      by_cases hj1 : j < g.2.2.toNat
      · rw [if_pos hj1] at e
        have b1 := a_nb_b ok (h2 i hi1).1
        have b2 := a_nb_b ok (h2 j hj1).1
        exact h3 i j hi1 hj1 (a_nb_i ok (h2 i hi1).1 (h2 j hj1).1 (by omega))
      · rw [if_neg hj1] at e
        exact absurd e (nz i hi1)
    · rw [if_neg hi1] at e
      by_cases hj1 : j < g.2.2.toNat
      · rw [if_pos hj1] at e
        exact absurd e.symm (nz j hj1)
      · omega) (fun i hi => by
    by_cases hi1 : i < g.2.2.toNat
    · rw [if_pos hi1]
      have b1 := a_nb_b ok (h2 i hi1).1
      omega
    · rw [if_neg hi1]
      omega)
  omega
theorem g_add_q {i : Nat} (h : i < g.2.2.toNat) : g_q (g_add C g τ v) i = g_q g i := by
  unfold g_q g_add
  simp only
  rw [if_neg (by omega)]
theorem g_add_m (h : a_p5 τ) : g_q (g_add C g τ v) g.2.2.toNat = τ := by
  unfold g_q g_add
  simp only
  rw [if_pos trivial]
  exact a_up_pk h
theorem g_add_1 (ok : a_ok C) (hτ : a_is C τ = true) (hσ : a_is C σ = true) (hne : σ ≠ τ) : (g_add C g τ v).1 (a_nb C σ).toNat = g.1 (a_nb C σ).toNat := by
  unfold g_add
  simp only
  have b1 := a_nb_b ok hτ
  have b2 := a_nb_b ok hσ
  rw [if_neg (fun e => hne (a_nb_i ok hσ hτ (by omega)))]
theorem g_add_2 : (g_add C g τ v).1 (a_nb C τ).toNat = v := by
  unfold g_add
  simp only
  rw [if_pos trivial]
theorem g_add_t (h : 0 ≤ g.2.2) : (g_add C g τ v).2.2.toNat = g.2.2.toNat + 1 := by
  unfold g_add
  simp only
  omega
theorem g_add_F (ok : a_ok C) (hτ : a_is C τ = true) (hv : v ≠ 0) : ∀ σ, (g_F C (g_add C g τ v) σ = some (v / 16).toNat ∧ σ = τ) ∨ (g_F C (g_add C g τ v) σ = g_F C g σ ∧ σ ≠ τ) := fun σ => by
  by_cases q : σ = τ
  · subst q
    left
    exact ⟨by rw [g_F_is hτ (by rw [g_add_2]; exact hv), g_add_2], rfl⟩
  · right
    refine ⟨?_, q⟩
    unfold g_F
    by_cases hσ : a_is C σ = true
    · rw [g_add_1 ok hτ hσ q]
    · rw [if_neg (fun e => hσ e.1), if_neg (fun e => hσ e.1)]
theorem g_add_wf (ok : a_ok C) (hw : g_wf C n g) (hn : a_sz C ≤ n) (hτ : a_is C τ = true) (hu : g.1 (a_nb C τ).toNat = 0) (hv : 0 < v ∧ v < 2147483648) (hv2 : v / 16 ≤ 2 * g.2.2) : g_wf C n (g_add C g τ v) := by
  have hr := g_room ok hw hn hτ hu
  obtain ⟨h0, h1, h2, h3, h4⟩ := hw
  have p5 := a_is_p5 ok hτ
  have et := g_add_t (C := C) (τ := τ) (v := v) h0.1
  have old : ∀ i : Nat, i < g.2.2.toNat → g_q g i ≠ τ := fun i hi e => by
    have := (h2 i hi).2.2.1
    rw [e] at this
    exact this hu
  refine ⟨?_, fun i hi => ?_, fun i hi => ?_, fun i j hi hj e => ?_, fun σ hσ hm => ?_⟩
  · show 0 ≤ g.2.2 + 1 ∧ g.2.2 + 1 ≤ n
    omega
  · unfold g_add
    simp only
    split
    · omega
    · exact h1 i hi
  · rw [et] at hi
    rcases Nat.lt_or_eq_of_le (Nat.le_of_lt_succ hi) with q | q
    · rw [g_add_q q, g_add_1 ok hτ (h2 i q).1 (old i q)]
      refine ⟨(h2 i q).1, ?_, (h2 i q).2.2⟩
      unfold g_add
      simp only
      rw [if_neg (by omega)]
      exact (h2 i q).2.1
    · subst q
      rw [g_add_m p5, g_add_2]
      refine ⟨hτ, ?_, by omega, by omega⟩
      unfold g_add
      simp only
      rw [if_pos trivial]
  · rw [et] at hi hj
    rcases Nat.lt_or_eq_of_le (Nat.le_of_lt_succ hi) with q | q
    · rcases Nat.lt_or_eq_of_le (Nat.le_of_lt_succ hj) with r | r
      · rw [g_add_q q, g_add_q r] at e
        exact h3 i j q r e
      · subst r
        rw [g_add_q q, g_add_m p5] at e
        exact absurd e (old i q)
    · rcases Nat.lt_or_eq_of_le (Nat.le_of_lt_succ hj) with r | r
      · subst q
        rw [g_add_q r, g_add_m p5] at e
        exact absurd e.symm (old j r)
      · omega
  · rw [et]
    by_cases q : σ = τ
    · exact ⟨g.2.2.toNat, by omega, by rw [g_add_m p5, q]⟩
    · rw [g_add_1 ok hτ hσ q] at hm
      obtain ⟨i, hi, e⟩ := h4 σ hσ hm
      exact ⟨i, by omega, by rw [g_add_q hi, e]⟩
end GI
/-- whether a code may lead on -/
def g_e (C : a_C) (bw most by_ : Int) (σ : a_S) (c : Nat) : Prop := by_ / ((2 ^ c : Nat) : Int) % 2 = 1 ∧ (-most ≤ (g_nx bw σ (c : Int)).2.2.1 ∧ (g_nx bw σ (c : Int)).2.2.1 ≤ most) ∧ a_is C (g_nx bw σ (c : Int)) = true
def g_E (C : a_C) (bw most by_ : Int) (σ τ : a_S) : Prop := ∃ c : Nat, c < 9 ∧ g_e C bw most by_ σ c ∧ τ = g_nx bw σ (c : Int)
def g_lt (a b c d : Nat) : Prop := a < c ∨ (a = c ∧ b < d)
/-- the search by breadth: seeds, edges, met ones, the line; who led to whom; worked off up to code c of the k-th -/
def g_I (C : a_C) (n : Nat) (bw most by_ : Int) (S : a_S → Prop) (s : Nat) (g : g_T) (par cod : Nat → Nat) (k c : Nat) : Prop :=
  g_wf C n g ∧ b_I S (g_E C bw most by_) (g_F C g) (g_q g) g.2.2.toNat k ∧
  (∀ i, s ≤ i → i < g.2.2.toNat → par i < i ∧ cod i < 9 ∧ g_e C bw most by_ (g_q g (par i)) (cod i) ∧ g_q g i = g_nx bw (g_q g (par i)) (cod i : Int) ∧ g.1 (a_nb C (g_q g i)).toNat = (g.1 (a_nb C (g_q g (par i))).toNat / 16 + 1) * 16 + ((cod i : Int) + 1) ∧ g_lt (par i) (cod i) k c) ∧
  (∀ i i', s ≤ i → i < i' → i' < g.2.2.toNat → g_lt (par i) (cod i) (par i') (cod i')) ∧
  (∀ j c', g_lt j c' k c → c' < 9 → j < g.2.2.toNat → g_e C bw most by_ (g_q g j) c' → ∃ i, i < g.2.2.toNat ∧ g_q g i = g_nx bw (g_q g j) (c' : Int) ∧ (i < s ∨ g_lt (par i) (cod i) j (c' + 1))) ∧
  s ≤ g.2.2.toNat ∧ (∀ i, i < s → g.1 (a_nb C (g_q g i)).toNat = 10)
section GJ
variable {C : a_C} {n : Nat} {bw most by_ : Int} {S : a_S → Prop} {s : Nat} {g : g_T} {par cod : Nat → Nat} {k c : Nat} {σ τ : a_S} {v : Int}
theorem g_I_one (ok : a_ok C) (hn : a_sz C ≤ n) (hnb : n ≤ 38880) (h : g_I C n bw most by_ S s g par cod k c) (hk : k < g.2.2.toNat) (hc : c < 9) {σ : a_S} {st : Int} (hσ : g_q g k = σ) (hst : g.1 (a_nb C σ).toNat / 16 + 1 = st) :
    ∃ par' cod', g_I C n bw most by_ S s (g_one C n bw most by_ σ st c g) par' cod' k (c + 1) ∧ g_q (g_one C n bw most by_ σ st c g) k = σ ∧ (g_one C n bw most by_ σ st c g).1 (a_nb C σ).toNat = g.1 (a_nb C σ).toNat ∧ k < (g_one C n bw most by_ σ st c g).2.2.toNat := by
  obtain ⟨hw, hI, o1, o2, o3, hs, hz⟩ := h
  obtain ⟨w0, w1, w2, w3, w4⟩ := hw
  have wk := w2 k hk
  rw [hσ] at wk
  have hb0 := w1 (a_nb C σ).toNat (by have := a_nb_b ok wk.1; omega)
  by_cases q : by_ / ((2 ^ c : Nat) : Int) % 2 = 1 ∧ (-most ≤ (g_nx bw σ (c : Int)).2.2.1 ∧ (g_nx bw σ (c : Int)).2.2.1 ≤ most) ∧ a_is C (g_nx bw σ (c : Int)) = true ∧ g.1 (a_nb C (g_nx bw σ (c : Int))).toNat = 0 ∧ g.2.2 < n
  · -- a new one
    have e1 : g_one C n bw most by_ σ st c g = g_add C g (g_nx bw σ (c : Int)) (st * 16 + ((c : Int) + 1)) := by unfold g_one; rw [if_pos q]
    obtain ⟨q1, q2, q3, q4, q5⟩ := q
    obtain ⟨τ, eτ⟩ : ∃ τ, τ = g_nx bw σ (c : Int) := ⟨_, rfl⟩
    rw [e1]
    rw [← eτ] at q2 q3 q4 ⊢
    have old : ∀ i : Nat, i < g.2.2.toNat → g_q g i ≠ τ := fun i hi e => by
      have := (w2 i hi).2.2.1
      rw [e] at this
      exact this q4
    have p5 := a_is_p5 ok q3
    have et := g_add_t (C := C) (g := g) (τ := τ) (v := st * 16 + ((c : Int) + 1)) w0.1
    have hst0 : 1 ≤ st ∧ st ≤ 2 * k + 1 := by omega
    have hwf := g_add_wf ok ⟨w0, w1, w2, w3, w4⟩ hn q3 q4 (v := st * 16 + ((c : Int) + 1)) (by omega) (by omega)
    have old1 : ∀ i : Nat, i < g.2.2.toNat → (g_add C g τ (st * 16 + ((c : Int) + 1))).1 (a_nb C (g_q g i)).toNat = g.1 (a_nb C (g_q g i)).toNat := fun i hi => g_add_1 ok q3 (w2 i hi).1 (old i hi)
    have eσ : (g_add C g τ (st * 16 + ((c : Int) + 1))).1 (a_nb C σ).toNat = g.1 (a_nb C σ).toNat := by rw [← hσ]; exact old1 k hk
    have hFk : g_F C g (g_q g k) = some (g.1 (a_nb C σ).toNat / 16).toNat := by rw [hσ]; exact g_F_is wk.1 wk.2.2.1
    have hbI := b_add hI hk hFk (τ := τ) (by rw [hσ]; exact ⟨c, hc, ⟨q1, by rw [← eτ]; exact q2, by rw [← eτ]; exact q3⟩, eτ⟩) (g_F_no q4) (F' := g_F C (g_add C g τ (st * 16 + ((c : Int) + 1)))) (q' := g_q (g_add C g τ (st * 16 + ((c : Int) + 1)))) (fun ρ => by
      rcases g_add_F (g := g) ok q3 (v := st * 16 + ((c : Int) + 1)) (by omega) ρ with ⟨a, b⟩ | a
      · left
        refine ⟨?_, b⟩
        rw [a]
        congr 1
        omega
      · exact Or.inr a) (fun i hi => g_add_q hi) (g_add_m p5)
    refine ⟨fun i => if i = g.2.2.toNat then k else par i, fun i => if i = g.2.2.toNat then c else cod i, ⟨hwf, ?_, fun i h1 h2 => ?_, fun i i' h1 h2 h3 => ?_, fun j c' h1 h2 h3 h4 => ?_, by omega, fun i hi => ?_⟩, by rw [g_add_q hk, hσ], eσ, by omega⟩
    · rw [et]
      exact hbI
    · rw [et] at h2
      simp only
      rcases Nat.lt_or_eq_of_le (Nat.le_of_lt_succ h2) with r | r
      · rw [if_neg (by omega), if_neg (by omega)]
        obtain ⟨a1, a2, a3, a4, a5, a6⟩ := o1 i h1 r
        rw [g_add_q r, g_add_q (by omega : par i < g.2.2.toNat), old1 i r, old1 (par i) (by omega)]
        refine ⟨a1, a2, a3, a4, a5, ?_⟩
        unfold g_lt at a6 ⊢
        omega
      · subst r
        rw [if_pos rfl, if_pos rfl, g_add_m p5, g_add_q hk, hσ, eσ, g_add_2]
        refine ⟨hk, hc, ⟨q1, by rw [← eτ]; exact q2, by rw [← eτ]; exact q3⟩, eτ, by rw [hst], ?_⟩
        unfold g_lt
        omega
    · rw [et] at h3
      simp only
      rw [if_neg (by omega : ¬ i = g.2.2.toNat), if_neg (by omega : ¬ i = g.2.2.toNat)]
      rcases Nat.lt_or_eq_of_le (Nat.le_of_lt_succ h3) with r | r
      · rw [if_neg (by omega), if_neg (by omega)]
        exact o2 i i' h1 h2 r
      · subst r
        rw [if_pos rfl, if_pos rfl]
        exact (o1 i h1 h2).2.2.2.2.2
    · rw [et] at h3 ⊢
      have hj : j < g.2.2.toNat := by unfold g_lt at h1; omega
      rw [g_add_q hj] at h4
      by_cases r : g_lt j c' k c
      · obtain ⟨i, a1, a2, a3⟩ := o3 j c' r h2 hj h4
        refine ⟨i, by omega, by rw [g_add_q a1, g_add_q hj]; exact a2, ?_⟩
        simp only
        rw [if_neg (by omega), if_neg (by omega)]
        exact a3
      · have hjc : j = k ∧ c' = c := by unfold g_lt at h1 r; omega
        obtain ⟨rfl, rfl⟩ := hjc
        refine ⟨g.2.2.toNat, by omega, by rw [g_add_m p5, g_add_q hj, hσ]; exact eτ, Or.inr ?_⟩
        simp only
        rw [if_pos trivial, if_pos trivial]
        unfold g_lt
        omega
    · rw [g_add_q (by omega), old1 i (by omega)]
      exact hz i hi
  · -- nothing new
    have e1 : g_one C n bw most by_ σ st c g = g := by unfold g_one; rw [if_neg q]
    rw [e1]
    refine ⟨par, cod, ⟨⟨w0, w1, w2, w3, w4⟩, hI, fun i h1 h2 => ?_, o2, fun j c' h1 h2 h3 h4 => ?_, hs, hz⟩, hσ, rfl, hk⟩
    · obtain ⟨a1, a2, a3, a4, a5, a6⟩ := o1 i h1 h2
      refine ⟨a1, a2, a3, a4, a5, ?_⟩
      unfold g_lt at a6 ⊢
      omega
    · by_cases r : g_lt j c' k c
      · exact o3 j c' r h2 h3 h4
      · have hjc : j = k ∧ c' = c := by unfold g_lt at h1 r; omega
        obtain ⟨rfl, rfl⟩ := hjc
        rw [hσ] at h4 ⊢
        obtain ⟨b1, b2, b3⟩ := h4
        have hm : g.1 (a_nb C (g_nx bw σ (c' : Int))).toNat ≠ 0 := fun e => q ⟨b1, b2, b3, e, g_room ok ⟨w0, w1, w2, w3, w4⟩ hn b3 e⟩
        obtain ⟨i, a1, a2⟩ := w4 _ b3 hm
        refine ⟨i, a1, a2, ?_⟩
        rcases Nat.lt_or_ge i s with r2 | r2
        · exact Or.inl r2
        · have := (o1 i r2 a1).2.2.2.2.2
          right
          unfold g_lt at this ⊢
          omega
theorem g_I_all (ok : a_ok C) (hn : a_sz C ≤ n) (hnb : n ≤ 38880) (h : g_I C n bw most by_ S s g par cod k 0) (hk : k < g.2.2.toNat) {σ : a_S} {st : Int} (hσ : g_q g k = σ) (hst : g.1 (a_nb C σ).toNat / 16 + 1 = st) :
    ∀ c, c ≤ 9 → ∃ par' cod', g_I C n bw most by_ S s (g_all C n bw most by_ σ st g c) par' cod' k c ∧ g_q (g_all C n bw most by_ σ st g c) k = σ ∧ (g_all C n bw most by_ σ st g c).1 (a_nb C σ).toNat = g.1 (a_nb C σ).toNat ∧ k < (g_all C n bw most by_ σ st g c).2.2.toNat := by
  intro c
  induction c with
  | zero => intro _; exact ⟨par, cod, h, hσ, rfl, hk⟩
  | succ c ih =>
    intro hc
    obtain ⟨p1, c1, i1, i2, i3, i4⟩ := ih (by omega)
    obtain ⟨p2, c2, j1, j2, j3, j4⟩ := g_I_one ok hn hnb i1 i4 (by omega) i2 (st := st) (by rw [i3]; exact hst)
    exact ⟨p2, c2, j1, j2, j3.trans i3, j4⟩
theorem g_I_next (h : g_I C n bw most by_ S s g par cod k 9) (hk : k < g.2.2.toNat) : g_I C n bw most by_ S s g par cod (k + 1) 0 := by
  obtain ⟨hw, hI, o1, o2, o3, hs, hz⟩ := h
  refine ⟨hw, b_next hI hk (fun t τ h1 h2 => ?_), fun i h1 h2 => ?_, o2, fun j c' h1 h2 h3 h4 => ?_, hs, hz⟩
  · obtain ⟨c, hc, he, rfl⟩ := h2
    obtain ⟨i, a1, a2, -⟩ := o3 k c (Or.inr ⟨rfl, hc⟩) hc hk he
    obtain ⟨t', b1, -⟩ := hI.2.2.1 i a1
    rw [← a2]
    exact ⟨t', b1, hI.2.2.2.2.1 i t t' hk a1 h1 b1⟩
  · obtain ⟨a1, a2, a3, a4, a5, a6⟩ := o1 i h1 h2
    refine ⟨a1, a2, a3, a4, a5, ?_⟩
    unfold g_lt at a6 ⊢
    omega
  · refine o3 j c' ?_ h2 h3 h4
    unfold g_lt at h1 ⊢
    omega
end GJ
