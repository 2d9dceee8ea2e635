/-! the class's searches and the reference's answers -/
/-- a step that can be -/
def w_E (C : a_C) (lev : Int) (σ τ : a_S) : Prop := ∃ c : Int, (0 ≤ c ∧ c < 9) ∧ (lev = 0 ∨ c % 3 = 1) ∧ a_is C (a_step σ c 0) = true ∧ τ = a_step σ c 0
def w_rs (σ : a_S) : Prop := σ.2.1 = 0 ∧ σ.2.2.1 = 0 ∧ σ.2.2.2.1 = 0
section BRG
variable {C : a_C} {n : Nat} {bw most by_ lev goal : Int} {Sd : a_S → Prop} {s : Nat} {g : g_T} {par cod : Nat → Nat} {k t : Nat} {σ τ γ π : a_S} {v r m : Int}
theorem a_no_i (ok : a_ok C) (h : a_is C σ = true) (h' : a_is C τ = true) (e : a_no σ = a_no τ) : σ = τ := by
  rw [← a_of_no (a_is_bx ok h), ← a_of_no (a_is_bx ok h'), e]
theorem w_bit511 : ∀ c : Fin 9, (511 : Int) / ((2 ^ c.val : Nat) : Int) % 2 = 1 := by decide
theorem w_bit146 : ∀ c : Fin 9, (146 : Int) / ((2 ^ c.val : Nat) : Int) % 2 = 1 ↔ (c.val : Int) % 3 = 1 := by decide
theorem w_sw (ok : a_ok C) (h : a_is C σ = true) : -4 ≤ σ.2.2.1 ∧ σ.2.2.1 ≤ 4 := (a_is_bx ok h).2.2.1
theorem g_e_511 (ok : a_ok C) {c : Nat} (hc : c < 9) : g_e C bw 4 511 σ c ↔ a_is C (g_nx bw σ (c : Int)) = true := ⟨fun h => h.2.2, fun h => ⟨w_bit511 ⟨c, hc⟩, w_sw ok h, h⟩⟩
theorem g_e_146 (ok : a_ok C) {c : Nat} (hc : c < 9) : g_e C bw 4 146 σ c ↔ (c : Int) % 3 = 1 ∧ a_is C (g_nx bw σ (c : Int)) = true := ⟨fun h => ⟨(w_bit146 ⟨c, hc⟩).mp h.1, h.2.2⟩, fun h => ⟨(w_bit146 ⟨c, hc⟩).mpr h.1, w_sw ok h.2, h.2⟩⟩
theorem g_nx0 {c : Int} : g_nx 0 σ c = a_step σ c 0 := if_pos rfl
theorem g_nx1 {c : Int} : g_nx 1 σ c = a_back σ c := if_neg (by decide)
theorem g_E_0 (ok : a_ok C) : g_E C 0 4 511 = w_E C 0 := by
  funext σ τ
  apply propext
  constructor
  · rintro ⟨c, hc, he, rfl⟩
    rw [g_e_511 ok hc, g_nx0] at he
    exact ⟨c, ⟨by omega, by omega⟩, Or.inl rfl, he, g_nx0⟩
  · rintro ⟨c, hc, -, he, rfl⟩
    obtain ⟨d, rfl⟩ : ∃ d : Nat, c = d := ⟨c.toNat, by omega⟩
    exact ⟨d, by omega, (g_e_511 ok (by omega)).mpr (by rw [g_nx0]; exact he), g_nx0.symm⟩
theorem g_E_1 (ok : a_ok C) : g_E C 0 4 146 = w_E C 1 := by
  funext σ τ
  apply propext
  constructor
  · rintro ⟨c, hc, he, rfl⟩
    rw [g_e_146 ok hc, g_nx0] at he
    exact ⟨c, ⟨by omega, by omega⟩, Or.inr he.1, he.2, g_nx0⟩
  · rintro ⟨c, hc, hl, he, rfl⟩
    obtain ⟨d, rfl⟩ : ∃ d : Nat, c = d := ⟨c.toNat, by omega⟩
    exact ⟨d, by omega, (g_e_146 ok (by omega)).mpr ⟨by omega, by rw [g_nx0]; exact he⟩, g_nx0.symm⟩
theorem w_D_is (ok : a_ok C) : ∀ (t : Nat) (m : Int), b_D (s_S C goal) (s_E C lev) t m → a_is C (a_of m) = true ∧ 0 ≤ m ∧ m < 38880 := by
  intro t m h
  cases t with
  | zero => exact ⟨h.2.1, h.2.2.1⟩
  | succ t =>
    obtain ⟨x, -, c, hc, -, h1, rfl⟩ := h
    rw [a_of_no (a_is_bx ok h1)]
    exact ⟨h1, a_no_bd (a_is_bx ok h1)⟩
/-- so many steps from a standing state to the goal -/
theorem w_D (ok : a_ok C) : ∀ (t : Nat) (σ : a_S), a_is C σ = true → (b_D (s_S C goal) (s_E C lev) t (a_no σ) ↔ ∃ γ, a_is C γ = true ∧ w_rs γ ∧ (goal = -1 ∨ goal = a_no γ) ∧ p_ch (w_E C lev) t σ γ) := by
  intro t
  induction t with
  | zero =>
    intro σ hσ
    have e := a_of_no (a_is_bx ok hσ)
    constructor
    · rintro ⟨h1, h2, h3, h4, h5, h6⟩
      rw [e] at h4 h5 h6
      exact ⟨σ, hσ, ⟨h4, h5, h6⟩, h1, rfl⟩
    · rintro ⟨γ, h1, h2, h3, h4⟩
      have h4' : σ = γ := h4
      subst h4'
      refine ⟨h3, by rw [e]; exact hσ, a_no_bd (a_is_bx ok hσ), ?_, ?_, ?_⟩
      · rw [e]; exact h2.1
      · rw [e]; exact h2.2.1
      · rw [e]; exact h2.2.2
  | succ t ih =>
    intro σ hσ
    constructor
    · rintro ⟨m, h1, c, hc, hl, h2, h3⟩
      obtain ⟨g1, g2, g3⟩ := w_D_is ok t m h1
      have e1 : σ = a_back (a_of m) c := a_no_i ok hσ h2 h3
      have e2 : a_step σ c 0 = a_of m := by rw [e1, a_step_back]
      have e3 : m = a_no (a_of m) := (a_no_of g2).symm
      rw [e3] at h1
      obtain ⟨γ, k1, k2, k3, k4⟩ := (ih (a_of m) g1).mp h1
      exact ⟨γ, k1, k2, k3, a_of m, ⟨c, hc, hl, by rw [e2]; exact g1, e2.symm⟩, k4⟩
    · rintro ⟨γ, k1, k2, k3, x, ⟨c, hc, hl, h2, h3⟩, k4⟩
      rw [← h3] at h2
      refine ⟨a_no x, (ih x h2).mpr ⟨γ, k1, k2, k3, k4⟩, c, hc, hl, ?_, ?_⟩
      · rw [a_of_no (a_is_bx ok h2), h3, a_back_step]; exact hσ
      · rw [a_of_no (a_is_bx ok h2), h3, a_back_step]
theorem w_D1 (ok : a_ok C) (hσ : a_is C σ = true) (hγ : a_is C γ = true) (hr : w_rs γ) : b_D (s_S C (a_no γ)) (s_E C lev) t (a_no σ) ↔ p_ch (w_E C lev) t σ γ := by
  have hb := a_no_bd (a_is_bx ok hγ)
  rw [w_D ok t σ hσ]
  constructor
  · rintro ⟨δ, k1, k2, k3, k4⟩
    rcases k3 with q | q
    · omega
    · rw [a_no_i ok hγ k1 q]
      exact k4
  · intro h
    exact ⟨γ, hγ, hr, Or.inr rfl, h⟩
theorem w_ans (ok : a_ok C) (hσ : a_is C σ = true) (hγ : a_is C γ = true) (hr : w_rs γ) : s_ans C (a_no γ) lev (a_no σ) r ↔ b_ans (fun x => x = σ) (w_E C lev) γ r := by
  unfold s_ans b_ans
  simp only [w_D1 ok hσ hγ hr, D_p_ch]
  exact or_comm
/-- nothing leads to a goal that doesn't stand, nothing from there -/
theorem w_no_g (hb : a_bx γ) (hγ : ¬ a_is C γ = true) : s_ans C (a_no γ) lev m (-2) := by
  have hn := a_no_bd hb
  have key : ∀ t m, ¬ b_D (s_S C (a_no γ)) (s_E C lev) t m := by
    intro t
    induction t with
    | zero =>
      rintro m ⟨h1, h2, -⟩
      rcases h1 with q | q
      · omega
      · rw [← q, a_of_no hb] at h2
        exact hγ h2
    | succ t ih =>
      rintro m ⟨x, h1, -⟩
      exact ih x h1
  exact Or.inl ⟨rfl, fun t => key t m⟩
theorem w_no_s (ok : a_ok C) (hb : a_bx σ) (hσ : ¬ a_is C σ = true) : s_ans C goal lev (a_no σ) (-2) := by
  refine Or.inl ⟨rfl, fun t ht => ?_⟩
  have := (w_D_is ok t _ ht).1
  rw [a_of_no hb] at this
  exact hσ this
/-- the backward search of the class: to any rest -/
theorem w_Db (ok : a_ok C) (hS : ∀ σ, Sd σ ↔ a_is C σ = true ∧ w_rs σ) : ∀ (t : Nat) (σ : a_S), a_is C σ = true → (b_D Sd (g_E C 1 4 511) t σ ↔ b_D (s_S C (-1)) (s_E C 0) t (a_no σ)) := by
  have his : ∀ t σ, b_D Sd (g_E C 1 4 511) t σ → a_is C σ = true := by
    intro t σ h
    cases t with
    | zero => exact ((hS σ).mp h).1
    | succ t =>
      obtain ⟨x, -, c, hc, he, rfl⟩ := h
      exact he.2.2
  intro t
  induction t with
  | zero =>
    intro σ hσ
    have e := a_of_no (a_is_bx ok hσ)
    constructor
    · intro h
      obtain ⟨-, h2⟩ := (hS σ).mp h
      refine ⟨Or.inl rfl, by rw [e]; exact hσ, a_no_bd (a_is_bx ok hσ), ?_, ?_, ?_⟩
      · rw [e]; exact h2.1
      · rw [e]; exact h2.2.1
      · rw [e]; exact h2.2.2
    · rintro ⟨-, h2, -, h4, h5, h6⟩
      rw [e] at h4 h5 h6
      exact (hS σ).mpr ⟨hσ, h4, h5, h6⟩
  | succ t ih =>
    intro σ hσ
    constructor
    · rintro ⟨x, h1, c, hc, he, h2⟩
      have hx := his t x h1
      rw [g_nx1] at h2
      refine ⟨a_no x, (ih x hx).mp h1, (c : Int), ⟨by omega, by omega⟩, Or.inl rfl, ?_, ?_⟩
      · rw [a_of_no (a_is_bx ok hx), ← h2]; exact hσ
      · rw [a_of_no (a_is_bx ok hx), ← h2]
    · rintro ⟨m, h1, c, hc, -, h2, h3⟩
      obtain ⟨g1, g2, g3⟩ := w_D_is ok t m h1
      have e1 : σ = a_back (a_of m) c := a_no_i ok hσ h2 h3
      have e3 : m = a_no (a_of m) := (a_no_of g2).symm
      rw [e3] at h1
      obtain ⟨d, rfl⟩ : ∃ d : Nat, c = d := ⟨c.toNat, by omega⟩
      exact ⟨a_of m, (ih _ g1).mpr h1, d, by omega, (g_e_511 ok (by omega)).mpr (by rw [g_nx1]; exact h2), by rw [g_nx1]; exact e1⟩
theorem w_home (ok : a_ok C) (hS : ∀ σ, Sd σ ↔ a_is C σ = true ∧ w_rs σ) (hσ : a_is C σ = true) : s_ans C (-1) 0 (a_no σ) r ↔ b_ans Sd (g_E C 1 4 511) σ r := by
  unfold s_ans b_ans
  simp only [w_Db ok hS _ σ hσ]
  exact or_comm
/-- from each state of the way that met something it is as far as the way says -/
theorem g_ds (ok : a_ok C) (h : g_I C n bw most by_ Sd s g par cod k 0) {i l r : Nat} (hi : i < g.2.2.toNat) (hl : g_lv C g i = l + r) : b_ans (fun x => x = g_q g (g_an par i r)) (g_E C bw most by_) (g_q g i) (r : Int) := by
  obtain ⟨b1, b2, b3⟩ := g_an_lv ok h hi (l := l) (r := r) hl r (by omega)
  refine Or.inl ⟨r, rfl, (D_p_ch r _).mpr (g_way ok h hi (l := l) r hl), fun t' ht => ?_⟩
  have := g_ge h b1 hi ((D_p_ch t' _).mp ht)
  omega
theorem g_fst (ok : a_ok C) (h : g_I C n 0 4 511 Sd s g par cod k 0) {i l r : Nat} (hi : i < g.2.2.toNat) (hr : w_rs (g_q g i)) (hl : g_lv C g i = l + (r + 1)) : s_first C (a_no (g_q g i)) (a_no (g_q g (g_an par i (r + 1)))) (cod (g_an par i r) : Int) ∧ g_q g (g_an par i r) = a_step (g_q g (g_an par i (r + 1))) (cod (g_an par i r) : Int) 0 := by
  obtain ⟨b1, b2, b3⟩ := g_an_lv ok h hi (l := l) (r := r + 1) hl r (by omega)
  obtain ⟨d1, -, -⟩ := g_an_lv ok h hi (l := l) (r := r + 1) hl (r + 1) (by omega)
  obtain ⟨a1, a2, a3, a4, -⟩ := h.2.2.1 _ (b3 (by omega)) b1
  have e1 : par (g_an par i r) = g_an par i (r + 1) := rfl
  rw [e1] at a1 a3 a4
  rw [g_nx0] at a4
  have hγ := (h.1.2.2.1 i hi).1
  have hx := (h.1.2.2.1 _ d1).1
  have hy := (h.1.2.2.1 _ b1).1
  have ex := a_of_no (a_is_bx ok hx)
  have s1 := g_ds ok h hi (l := l) (r := r + 1) hl
  have s2 := g_ds ok h hi (l := l + 1) (r := r) (by omega)
  rw [g_E_0 ok, ← w_ans ok hx hγ hr] at s1
  rw [g_E_0 ok, ← w_ans ok hy hγ hr] at s2
  refine ⟨⟨⟨by omega, by omega⟩, ⟨?_, (r : Int), by omega, ?_, ?_⟩, fun c' h1 h2 h3 => ?_⟩, a4⟩
  · rw [ex, ← a4]; exact hy
  · exact s1
  · rw [ex, ← a4]; exact s2
  · obtain ⟨k1, T, k2, k3, k4⟩ := h3
    rw [ex] at k1 k4
    have eT : T = (r : Int) := by
      have := s_ans_u k3 s1
      omega
    subst eT
    rw [w_ans ok k1 hγ hr] at k4
    obtain ⟨d, rfl⟩ : ∃ d : Nat, c' = d := ⟨c'.toNat, by omega⟩
    rcases k4 with ⟨t, k5, k6, -⟩ | ⟨k5, -⟩
    · obtain rfl : t = r := by omega
      have k7 := (D_p_ch _ _).mp k6
      rw [← g_E_0 ok] at k7
      exact g_first ok h hi (l := l) (r := t) (c := d) (by omega) (by omega) ((g_e_511 ok (by omega)).mpr (by rw [g_nx0]; exact k1)) (by rw [g_nx0]; exact k7)
    · omega
theorem g_lv0 (ok : a_ok C) (h : g_I C n bw most by_ Sd s g par cod k 0) {i : Nat} (hi : i < g.2.2.toNat) (hl : g_lv C g i = 0) : Sd (g_q g i) := by
  have h1 := (b_exact h.2.1 (g_lv_F h hi)).1
  rw [hl] at h1
  exact h1
/-- the reference's way is the class's -/
theorem g_sway (ok : a_ok C) (h : g_I C n 0 4 511 (fun x => x = π) s g par cod k 0) {i : Nat} (hi : i < g.2.2.toNat) (hr : w_rs (g_q g i)) : ∀ j r, j + r = g_lv C g i → s_way C (a_no (g_q g i)) (a_no π) j (a_no (g_q g (g_an par i r))) := by
  intro j
  induction j with
  | zero =>
    intro r hj
    obtain ⟨b1, b2, -⟩ := g_an_lv ok h hi (l := 0) (r := r) (by omega) r (by omega)
    have := g_lv0 ok h b1 (by omega)
    show _ = _
    rw [this]
  | succ j ih =>
    intro r hj
    have h1 := ih (r + 1) (by omega)
    obtain ⟨h2, h3⟩ := g_fst ok h hi hr (l := j) (r := r) (by omega)
    obtain ⟨d1, -, -⟩ := g_an_lv ok h hi (l := j) (r := r + 1) (by omega) (r + 1) (by omega)
    refine ⟨_, _, h1, h2, ?_⟩
    rw [a_of_no (a_is_bx ok (h.1.2.2.1 _ d1).1), ← h3]
end BRG
