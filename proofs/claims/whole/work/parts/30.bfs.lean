/-! a search by breadth, told without a machine: S the seeds, E the edges, F how far what was met is, q the line of what was met, m its length, k how far the line is worked off -/
section BF
variable {α : Type}
def b_D (S : α → Prop) (E : α → α → Prop) : Nat → α → Prop
  | 0, σ => S σ
  | n + 1, σ => ∃ τ, b_D S E n τ ∧ E τ σ
def b_I (S : α → Prop) (E : α → α → Prop) (F : α → Option Nat) (q : Nat → α) (m k : Nat) : Prop :=
  (∀ i j, i < m → j < m → q i = q j → i = j) ∧ (∀ σ n, F σ = some n → ∃ i, i < m ∧ q i = σ) ∧ (∀ i, i < m → ∃ n, F (q i) = some n ∧ b_D S E n (q i)) ∧
  (∀ i j n n', i ≤ j → j < m → F (q i) = some n → F (q j) = some n' → n ≤ n') ∧ (∀ i n n', k < m → i < m → F (q k) = some n → F (q i) = some n' → n' ≤ n + 1) ∧
  (∀ σ, S σ → F σ = some 0) ∧ (∀ i, i < k → ∀ n τ, F (q i) = some n → E (q i) τ → ∃ n', F τ = some n' ∧ n' ≤ n + 1) ∧ k ≤ m
variable {S : α → Prop} {E : α → α → Prop} {F : α → Option Nat} {q : Nat → α} {m k : Nat}
theorem b_level (h : b_I S E F q m k) : ∀ t σ, b_D S E t σ → (k < m → ∃ n, F (q k) = some n ∧ t ≤ n) → ∃ n', F σ = some n' ∧ n' ≤ t := by
  obtain ⟨hA, hB, hC, hD, hE, hZ, hG, hk⟩ := h
  intro t
  induction t with
  | zero => intro σ hs _; exact ⟨0, hZ σ hs, Nat.le_refl 0⟩
  | succ t ih =>
    intro σ hs hl
    obtain ⟨τ, h1, h2⟩ := hs
    obtain ⟨n2, h3, h4⟩ := ih τ h1 (fun hkm => by obtain ⟨n, a, b⟩ := hl hkm; exact ⟨n, a, by omega⟩)
    obtain ⟨i, hi, rfl⟩ := hB τ n2 h3
    have hik : i < k := by
      rcases Nat.lt_or_ge i k with q1 | q1
      · exact q1
      · rcases Nat.lt_or_ge k m with hkm | hkm
        · obtain ⟨n, a, b⟩ := hl hkm
          have := hD k i n n2 q1 hi a h3
          omega
        · omega
    obtain ⟨n', a, b⟩ := hG i hik n2 σ h3 h2
    exact ⟨n', a, by omega⟩
/-- what was met is as far as it is said -/
theorem b_exact (h : b_I S E F q m k) {σ : α} {n : Nat} (hF : F σ = some n) : b_D S E n σ ∧ ∀ t, b_D S E t σ → n ≤ t := by
  have h0 := h
  obtain ⟨hA, hB, hC, hD, hE, hZ, hG, hk⟩ := h
  obtain ⟨i, hi, rfl⟩ := hB σ n hF
  refine ⟨?_, fun t ht => ?_⟩
  · obtain ⟨n2, a, b⟩ := hC i hi
    cases hF.symm.trans a
    exact b
  · rcases Nat.lt_or_ge t n with htn | htn
    · rcases Nat.lt_or_ge k m with hkm | hkm
      · obtain ⟨nk, a, -⟩ := hC k hkm
        have h1 := hE i nk n hkm hi a hF
        obtain ⟨n', c1, c2⟩ := b_level h0 t (q i) ht (fun _ => ⟨nk, a, by omega⟩)
        cases hF.symm.trans c1
        exact c2
      · obtain ⟨n', c1, c2⟩ := b_level h0 t (q i) ht (fun hh => by omega)
        cases hF.symm.trans c1
        exact c2
    · exact htn
/-- when all is worked off, all that can be met was met -/
theorem b_all (h : b_I S E F q m k) (hk : k = m) {σ : α} {t : Nat} (hD : b_D S E t σ) : ∃ n, F σ = some n ∧ n ≤ t := b_level h t σ hD (fun hh => by omega)
/-- one that is met for the first time -/
theorem b_add (h : b_I S E F q m k) (hk : k < m) {n : Nat} (hn : F (q k) = some n) {τ : α} (hE : E (q k) τ) (hτ : F τ = none) {F' : α → Option Nat} {q' : Nat → α} (hF' : ∀ σ, F' σ = some (n + 1) ∧ σ = τ ∨ F' σ = F σ ∧ σ ≠ τ) (hq' : ∀ i, i < m → q' i = q i) (hqm : q' m = τ) : b_I S E F' q' (m + 1) k := by
  obtain ⟨hA, hB, hC, hD, hE1, hZ, hG, hk0⟩ := h
  have old : ∀ i, i < m → q i ≠ τ := fun i hi e => by
    obtain ⟨n2, a, -⟩ := hC i hi
    rw [e, hτ] at a
    cases a
  have fo : ∀ i, i < m → F' (q i) = F (q i) := fun i hi => by
    rcases hF' (q i) with ⟨-, e⟩ | ⟨e, -⟩
    · exact absurd e (old i hi)
    · exact e
  have fn : F' τ = some (n + 1) := by
    rcases hF' τ with ⟨e, -⟩ | ⟨-, e⟩
    · exact e
    · exact absurd rfl e
  have hDk : b_D S E n (q k) := by
    obtain ⟨n2, a, b⟩ := hC k hk
    cases hn.symm.trans a
    exact b
  refine ⟨fun i j hi hj e => ?_, fun σ n2 h2 => ?_, fun i hi => ?_, fun i j a b hij hj h1 h2 => ?_, fun i a b hkm hi h1 h2 => ?_, fun σ hs => ?_, fun i hi a σ h1 h2 => ?_, by omega⟩
  · rcases Nat.lt_or_eq_of_le (Nat.le_of_lt_succ hi) with i1 | rfl
    · rcases Nat.lt_or_eq_of_le (Nat.le_of_lt_succ hj) with j1 | rfl
      · rw [hq' i i1, hq' j j1] at e
        exact hA i j i1 j1 e
      · rw [hq' i i1, hqm] at e
        exact absurd e (old i i1)
    · rcases Nat.lt_or_eq_of_le (Nat.le_of_lt_succ hj) with j1 | e2
      · rw [hq' j j1, hqm] at e
        exact absurd e.symm (old j j1)
      · exact e2.symm
  · rcases hF' σ with ⟨-, e⟩ | ⟨e, -⟩
    · exact ⟨m, by omega, by rw [hqm, e]⟩
    · rw [e] at h2
      obtain ⟨i, hi, e2⟩ := hB σ n2 h2
      exact ⟨i, by omega, by rw [hq' i hi]; exact e2⟩
  · rcases Nat.lt_or_eq_of_le (Nat.le_of_lt_succ hi) with i1 | rfl
    · rw [hq' i i1, fo i i1]
      exact hC i i1
    · rw [hqm]
      exact ⟨n + 1, fn, q k, hDk, hE⟩
  · rcases Nat.lt_or_eq_of_le (Nat.le_of_lt_succ hj) with j1 | rfl
    · have i1 : i < m := by omega
      rw [hq' i i1, fo i i1] at h1
      rw [hq' j j1, fo j j1] at h2
      exact hD i j a b hij j1 h1 h2
    · rw [hqm, fn] at h2
      cases h2
      rcases Nat.lt_or_eq_of_le hij with i1 | rfl
      · rw [hq' i i1, fo i i1] at h1
        exact hE1 i n a hk i1 hn h1
      · rw [hqm, fn] at h1
        cases h1
        exact Nat.le_refl _
  · rw [hq' k hk, fo k hk, hn] at h1
    cases h1
    rcases Nat.lt_or_eq_of_le (Nat.le_of_lt_succ hi) with i1 | rfl
    · rw [hq' i i1, fo i i1] at h2
      exact hE1 i n b hk i1 hn h2
    · rw [hqm, fn] at h2
      cases h2
      exact Nat.le_refl _
  · rcases hF' σ with ⟨-, e⟩ | ⟨e, -⟩
    · subst e
      rw [hZ σ hs] at hτ
      cases hτ
    · rw [e]; exact hZ σ hs
  · have i1 : i < m := by omega
    rw [hq' i i1, fo i i1] at h1
    rw [hq' i i1] at h2
    obtain ⟨n', c1, c2⟩ := hG i hi a σ h1 h2
    rcases hF' σ with ⟨-, e⟩ | ⟨e, -⟩
    · rw [e, hτ] at c1; cases c1
    · exact ⟨n', by rw [e]; exact c1, c2⟩
/-- the k-th one is worked off -/
theorem b_next (h : b_I S E F q m k) (hk : k < m) (hall : ∀ n τ, F (q k) = some n → E (q k) τ → ∃ n', F τ = some n' ∧ n' ≤ n + 1) : b_I S E F q m (k + 1) := by
  obtain ⟨hA, hB, hC, hD, hE, hZ, hG, hk0⟩ := h
  refine ⟨hA, hB, hC, hD, fun i a b hkm hi h1 h2 => ?_, hZ, fun i hi => ?_, hk⟩
  · obtain ⟨nk, c1, -⟩ := hC k hk
    have h3 := hE i nk b hk hi c1 h2
    have h4 := hD k (k + 1) nk a (Nat.le_succ k) hkm c1 h1
    omega
  · rcases Nat.lt_or_eq_of_le (Nat.le_of_lt_succ hi) with i1 | rfl
    · exact hG i i1
    · exact hall
/-- the seeds alone -/
theorem b_init (hinj : ∀ i j, i < m → j < m → q i = q j → i = j) (hF : ∀ σ, (F σ = some 0 ∧ S σ ∧ ∃ i, i < m ∧ q i = σ) ∨ (F σ = none ∧ ¬ S σ)) (hq : ∀ i, i < m → S (q i)) : b_I S E F q m 0 := by
  have f0 : ∀ σ n, F σ = some n → n = 0 ∧ S σ := fun σ n h => by
    rcases hF σ with ⟨a, b, -⟩ | ⟨a, -⟩
    · cases h.symm.trans a; exact ⟨rfl, b⟩
    · rw [a] at h; cases h
  refine ⟨hinj, fun σ n h => ?_, fun i hi => ?_, fun i j a b _ _ h1 h2 => ?_, fun i a b _ _ h1 h2 => ?_, fun σ hs => ?_, fun i hi => by omega, Nat.zero_le m⟩
  · rcases hF σ with ⟨-, -, c⟩ | ⟨a, -⟩
    · exact c
    · rw [a] at h; cases h
  · rcases hF (q i) with ⟨a, b, -⟩ | ⟨-, b⟩
    · exact ⟨0, a, b⟩
    · exact absurd (hq i hi) b
  · rw [(f0 _ _ h1).1, (f0 _ _ h2).1]; exact Nat.le_refl 0
  · rw [(f0 _ _ h2).1]; omega
  · rcases hF σ with ⟨a, -⟩ | ⟨-, b⟩
    · exact a
    · exact absurd hs b
end BF
