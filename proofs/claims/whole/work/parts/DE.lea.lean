/-! THE TIE: least -/
/-- a way of k steps and t deeds -/
def k_P (C : a_C) : Nat → Int → a_S → a_S → Prop
  | 0, t, x, y => t = 0 ∧ x = y
  | k + 1, t, x, y => ∃ z t' c, (0 ≤ c ∧ c < 9) ∧ a_is C z = true ∧ z = a_step x c 0 ∧ k_P C k t' z y ∧ t = t' + a_dd c
section TLE
variable {en : Nat → Nat} {X M N O z0 w0 : Nat} {T0 : Nat → Option (Nat × Nat)} {J0 : Nat → Nat → Int} {k : Nat} {T T' : Nat → Option (Nat × Nat)} {J J' J1 K : Nat → Nat → Int} {P P' : Nat → Nat → Option Nat} {L L' : Nat → Nat → Int64} {z w z' w' zb wb : Nat} {C : a_C}
theorem k_P_b (ok : a_ok C) {γ : a_S} (hγ : a_is C γ = true) : ∀ (k : Nat) (t : Int) (σ : a_S), a_is C σ = true → (b_P C (a_no γ) k t (a_no σ) ↔ k_P C k t σ γ) := by
  intro k
  induction k with
  | zero =>
    intro t σ hσ
    exact ⟨fun h => ⟨h.1, a_no_i ok hσ hγ h.2⟩, fun h => ⟨h.1, by rw [h.2]⟩⟩
  | succ k ih =>
    intro t σ hσ
    have his : ∀ (k : Nat) (t : Int) (m : Int), b_P C (a_no γ) k t m → ∃ ρ, a_is C ρ = true ∧ m = a_no ρ := fun k t m h => by
      cases k with
      | zero => exact ⟨γ, hγ, h.2⟩
      | succ k =>
        obtain ⟨m', t', c, -, -, h3, h4, -⟩ := h
        exact ⟨_, h3, h4⟩
    constructor
    · rintro ⟨m, t', c, h1, hc, h3, h4, h5⟩
      obtain ⟨ρ, g1, rfl⟩ := his _ _ _ h1
      rw [a_of_no (a_is_bx ok g1)] at h3 h4
      have e1 : σ = a_back ρ c := a_no_i ok hσ h3 h4
      have e2 : a_step σ c 0 = ρ := by rw [e1, a_step_back]
      exact ⟨ρ, t', c, hc, g1, e2.symm, (ih t' ρ g1).mp h1, h5⟩
    · rintro ⟨ρ, t', c, hc, g1, e2, h1, h5⟩
      refine ⟨a_no ρ, t', c, (ih t' ρ g1).mpr h1, hc, ?_, ?_, h5⟩
      · rw [a_of_no (a_is_bx ok g1), e2, a_back_step]; exact hσ
      · rw [a_of_no (a_is_bx ok g1), e2, a_back_step]
/-- a step more at the end -/
theorem k_P_e : ∀ (k : Nat) (t : Int) (σ ρ γ : a_S) (c : Int), k_P C k t σ ρ → (0 ≤ c ∧ c < 9) → a_is C γ = true → γ = a_step ρ c 0 → k_P C (k + 1) (t + a_dd c) σ γ := by
  intro k
  induction k with
  | zero =>
    intro t σ ρ γ c h hc hi e
    obtain ⟨h1, h2⟩ := h
    subst h2
    exact ⟨γ, 0, c, hc, hi, e, ⟨rfl, rfl⟩, by omega⟩
  | succ k ih =>
    intro t σ ρ γ c h hc hi e
    obtain ⟨z', t', c', q1, q2, q3, q4, q5⟩ := h
    exact ⟨z', t' + a_dd c, c', q1, q2, q3, ih _ _ _ _ _ q4 hc hi e, by omega⟩
theorem k_bit : ∀ c : Fin 9, ((16 : Int) / ((2 ^ c.val : Nat) : Int) % 2 = 1 ↔ a_dd (c.val : Int) = 0) ∧ ((170 : Int) / ((2 ^ c.val : Nat) : Int) % 2 = 1 ↔ a_dd (c.val : Int) = 1) ∧ ((325 : Int) / ((2 ^ c.val : Nat) : Int) % 2 = 1 ↔ a_dd (c.val : Int) = 2) := by decide
theorem k_gE (ok : a_ok C) {by_ e : Int} (hb : ∀ c : Fin 9, by_ / ((2 ^ c.val : Nat) : Int) % 2 = 1 ↔ a_dd (c.val : Int) = e) {σ τ : a_S} : g_E C 0 4 by_ σ τ ↔ ∃ c : Int, (0 ≤ c ∧ c < 9) ∧ a_is C τ = true ∧ τ = a_step σ c 0 ∧ a_dd c = e := by
  constructor
  · rintro ⟨c, hc, ⟨h1, h2, h3⟩, h4⟩
    rw [g_nx0] at h3 h4
    exact ⟨(c : Int), by omega, by rw [h4]; exact h3, h4, (hb ⟨c, hc⟩).mp h1⟩
  · rintro ⟨c, hc, h1, h2, h3⟩
    obtain ⟨n, rfl⟩ : ∃ n : Nat, c = n := ⟨c.toNat, by omega⟩
    refine ⟨n, by omega, ⟨(hb ⟨n, by omega⟩).mpr h3, ?_, ?_⟩, by rw [g_nx0]; exact h2⟩
    · rw [g_nx0, ← h2]; exact w_sw ok h1
    · rw [g_nx0, ← h2]; exact h1
theorem k_K (ok : a_ok C) {σ : a_S} : ∀ (l d : Nat) (x : a_S), b_K (fun x => x = σ) (g_E C 0 4 16) (g_E C 0 4 170) (g_E C 0 4 325) l d x → k_P C l (d : Int) σ x := by
  have k0 := fun (a b : a_S) => k_gE (C := C) ok (σ := a) (τ := b) (fun c => (k_bit c).1)
  have k1 := fun (a b : a_S) => k_gE (C := C) ok (σ := a) (τ := b) (fun c => (k_bit c).2.1)
  have k2 := fun (a b : a_S) => k_gE (C := C) ok (σ := a) (τ := b) (fun c => (k_bit c).2.2)
  intro l
  induction l with
  | zero =>
    rintro d x ⟨h1, h2⟩
    exact ⟨by omega, h1.symm⟩
  | succ l ih =>
    rintro d x ⟨y, ⟨h1, h2⟩ | ⟨d', e, h1, h2⟩ | ⟨d', e, h1, h2⟩⟩
    · obtain ⟨c, c0, c1, c2, c3⟩ := (k0 _ _).mp h2
      have := k_P_e _ _ _ _ _ c (ih _ _ h1) c0 c1 c2
      rw [c3] at this
      rw [show (d : Int) = (d : Int) + 0 by omega]
      exact this
    · obtain ⟨c, c0, c1, c2, c3⟩ := (k1 _ _).mp h2
      have := k_P_e _ _ _ _ _ c (ih _ _ h1) c0 c1 c2
      rw [c3] at this
      rw [show (d : Int) = (d' : Int) + 1 by omega]
      exact this
    · obtain ⟨c, c0, c1, c2, c3⟩ := (k2 _ _).mp h2
      have := k_P_e _ _ _ _ _ c (ih _ _ h1) c0 c1 c2
      rw [c3] at this
      rw [show (d : Int) = (d' : Int) + 2 by omega]
      exact this
theorem k_P_K (ok : a_ok C) {σ : a_S} : ∀ (k : Nat) (t : Int) (ρ γ : a_S) (l d : Nat), b_K (fun x => x = σ) (g_E C 0 4 16) (g_E C 0 4 170) (g_E C 0 4 325) l d ρ → k_P C k t ρ γ → 0 ≤ t ∧ b_K (fun x => x = σ) (g_E C 0 4 16) (g_E C 0 4 170) (g_E C 0 4 325) (l + k) (d + t.toNat) γ := by
  intro k
  induction k with
  | zero =>
    rintro t ρ γ l d h ⟨h1, h2⟩
    subst h1; subst h2
    exact ⟨by omega, h⟩
  | succ k ih =>
    rintro t ρ γ l d h ⟨ζ, t', c, c0, c1, c2, h1, h2⟩
    have hd := a_dd_bd c
    have hK : b_K (fun x => x = σ) (g_E C 0 4 16) (g_E C 0 4 170) (g_E C 0 4 325) (l + 1) (d + (a_dd c).toNat) ζ := by
      rcases (show a_dd c = 0 ∨ a_dd c = 1 ∨ a_dd c = 2 by omega) with e | e | e
      · refine ⟨ρ, Or.inl ⟨?_, (k_gE ok (fun c => (k_bit c).1)).mpr ⟨c, c0, c1, c2, e⟩⟩⟩
        rw [e]; exact h
      · exact ⟨ρ, Or.inr (Or.inl ⟨d, by rw [e]; rfl, h, (k_gE ok (fun c => (k_bit c).2.1)).mpr ⟨c, c0, c1, c2, e⟩⟩)⟩
      · exact ⟨ρ, Or.inr (Or.inr ⟨d, by rw [e]; rfl, h, (k_gE ok (fun c => (k_bit c).2.2)).mpr ⟨c, c0, c1, c2, e⟩⟩)⟩
    obtain ⟨g1, g2⟩ := ih t' ζ γ (l + 1) _ hK h1
    refine ⟨by omega, ?_⟩
    rw [show l + (k + 1) = l + 1 + k by omega, show d + t.toNat = d + (a_dd c).toNat + t'.toNat by omega]
    exact g2
/-- a way has deeds, two a step at most -/
theorem k_P_of : ∀ (k : Nat) (σ γ : a_S), p_ch (w_E C 0) k σ γ → ∃ t : Int, t ≤ 2 * (k : Int) ∧ k_P C k t σ γ := by
  intro k
  induction k with
  | zero => intro σ γ h; exact ⟨0, by omega, rfl, h⟩
  | succ k ih =>
    rintro σ γ ⟨ζ, ⟨c, c0, -, c1, c2⟩, h⟩
    obtain ⟨t, g1, g2⟩ := ih ζ γ h
    have hd := a_dd_bd c
    exact ⟨t + a_dd c, by omega, ζ, t, c, c0, by rw [c2]; exact c1, c2, g2, rfl⟩
theorem k_P_ch : ∀ (k : Nat) (t : Int) (σ γ : a_S), k_P C k t σ γ → p_ch (w_E C 0) k σ γ := by
  intro k
  induction k with
  | zero => rintro t σ γ ⟨-, h⟩; exact h
  | succ k ih =>
    rintro t σ γ ⟨ζ, t', c, c0, c1, c2, h, -⟩
    exact ⟨ζ, ⟨c, c0, Or.inl rfl, by rw [← c2]; exact c1, c2⟩, ih _ _ _ h⟩
/-- where there is a way, there is one of fewer than 30000 deeds -/
theorem k_30 (ok : a_ok C) {σ γ : a_S} (hσ : a_is C σ = true) {k : Nat} {t : Int} (h : k_P C k t σ γ) : ∃ k' t', t' < 30000 ∧ k_P C k' t' σ γ := by
  have h1 := k_P_ch k t σ γ h
  have hex : ∃ n, p_ch (w_E C 0) n σ γ := ⟨k, h1⟩
  obtain ⟨n, hn, hmin⟩ : ∃ n, p_ch (w_E C 0) n σ γ ∧ ∀ n', p_ch (w_E C 0) n' σ γ → n ≤ n' := by
    have key : ∀ N n, n ≤ N → p_ch (w_E C 0) n σ γ → ∃ n, p_ch (w_E C 0) n σ γ ∧ ∀ n', p_ch (w_E C 0) n' σ γ → n ≤ n' := by
      intro N
      induction N with
      | zero => intro n hn h; exact ⟨n, h, fun n' _ => by omega⟩
      | succ N ih =>
        intro n hn h
        by_cases q : ∃ n', n' < n ∧ p_ch (w_E C 0) n' σ γ
        · obtain ⟨n', q1, q2⟩ := q
          exact ih n' (by omega) q2
        · exact ⟨n, h, fun n' h' => Nat.not_lt.mp (fun q' => q ⟨n', q', h'⟩)⟩
    exact key k k (Nat.le_refl k) h1
  have hb := q_14 (τ := γ) ok hσ ((D_p_ch n γ).mpr hn) (fun t' h' => hmin t' ((D_p_ch t' γ).mp h'))
  obtain ⟨t', g1, g2⟩ := k_P_of n σ γ hn
  exact ⟨n, t', by omega, g2⟩
/-- the two answers are one -/
theorem k_tie (ok : a_ok C) {σ γ : a_S} (hσ : a_is C σ = true) (hγ : a_is C γ = true) {r r' : Int} (h : b_kan (fun x => x = σ) (g_E C 0 4 16) (g_E C 0 4 170) (g_E C 0 4 325) γ r) (h' : s_dd C (a_no γ) (a_no σ) r') : r' = r := by
  have h00 : b_K (fun x => x = σ) (g_E C 0 4 16) (g_E C 0 4 170) (g_E C 0 4 325) 0 0 σ := ⟨rfl, rfl⟩
  rcases h with ⟨d, rfl, ⟨l, hl⟩, hmin⟩ | ⟨rfl, hno⟩
  · have hP := (k_P_b ok hγ l d σ hσ).mpr (k_K ok l d γ hl)
    rcases h' with ⟨rfl, h1⟩ | ⟨h0, ⟨k, h1⟩, h2⟩
    · obtain ⟨k', t', g1, g2⟩ := k_30 ok hσ (k_K ok l d γ hl)
      have := h1 k' t' ((k_P_b ok hγ _ _ σ hσ).mpr g2)
      omega
    · have e1 := h2 _ _ hP
      obtain ⟨g1, g2⟩ := k_P_K ok k r' σ γ 0 0 h00 ((k_P_b ok hγ _ _ σ hσ).mp h1)
      have := hmin _ _ g2
      omega
  · rcases h' with ⟨rfl, h1⟩ | ⟨h0, ⟨k, h1⟩, h2⟩
    · rfl
    · obtain ⟨g1, g2⟩ := k_P_K ok k r' σ γ 0 0 h00 ((k_P_b ok hγ _ _ σ hσ).mp h1)
      exact (hno _ _ g2).elim
theorem b_K_none {S : a_S → Prop} {E0 E1 E2 : a_S → a_S → Prop} (h : ∀ x, ¬ S x) : ∀ l d σ, ¬ b_K S E0 E1 E2 l d σ := by
  intro l
  induction l with
  | zero => intro d σ q; exact h σ q.1
  | succ l ih =>
    rintro d σ ⟨y, ⟨q, -⟩ | ⟨d', -, q, -⟩ | ⟨d', -, q, -⟩⟩
    · exact ih _ _ q
    · exact ih _ _ q
    · exact ih _ _ q
theorem t_least (h : to_I en X M N O z0 w0 T0 J0 k T J P L z w) {x : Int} (hx : m_in x) : m_call en 40 mSc_least [.ref X, .int (m_i x)] (T, m_I J, P, L, z, w) (to_C en X M N O z0 w0 T0 J0 k mMd_least [.ref M, .int (m_i x)]) := by
  obtain ⟨⟨⟨zb, wb, hW, hz, hw⟩, -, -⟩, -⟩ := id h
  refine c_Sc_least hW hx (fun q => ?_) (fun q T' J' P' L' z' w' r hW' hq hr => ?_)
  · refine to_mk h (fun K Q eK hK eX hQ => ?_)
    have p : ¬ (0 ≤ x ∧ x < K (M + 2) 4) := by rw [← to_spn hK, eX _ (by omega)]; exact q
    exact c_Md_least hK.sh eK hK.inv hx (fun _ => hQ K (md_fy.refl K M) hK.inv.hkp) (fun p' => absurd p' p) (fun p' => absurd p' p)
  · have h' := to_Xq h hW' hz hw hq
    refine to_mk h' (fun K Q eK hK eX hQ => ?_)
    have e : ∀ b, b < X + 132 → K b = J b := fun b p => (eX b (by omega)).trans (funext (fun i => hq.2.1 b i (by omega)))
    have p : 0 ≤ x ∧ x < K (M + 2) 4 := by rw [← to_spn hK, e _ (by omega)]; exact q
    obtain ⟨e1, e2, e3⟩ := to_spt hK p
    have ok := hK.inv.ok
    have hr0 : (a_is (md_cf K M) (cl_spt K X x.toNat) = true ∧ b_kan (w_sd (md_cf K M) (a_of (K (M + 22) 0))) (g_E (md_cf K M) 0 4 16) (g_E (md_cf K M) 0 4 170) (g_E (md_cf K M) 0 4 325) (cl_spt K X x.toNat) r) ∨ (¬ a_is (md_cf K M) (cl_spt K X x.toNat) = true ∧ r = -2) := by
      rw [← cf_is (to_cf hK), ← cf_sd (to_cf hK), ← cf_gE (to_cf hK), ← cf_gE (to_cf hK), ← cf_gE (to_cf hK), ← to_pi hK, x_cf e, x_pi e, x_sp e]
      exact hr
    refine c_Md_least hK.sh eK hK.inv hx (fun p' => absurd p p') (fun _ hy J1 fx hi => ?_) (fun _ hy J1 r' fx hi ha => ?_)
    · have : r = -2 := by
        rcases hr0 with ⟨g1, g2⟩ | ⟨-, g⟩
        · rcases g2 with ⟨d, -, ⟨l, hl⟩, -⟩ | ⟨g, -⟩
          · refine (hy ⟨?_, ?_⟩).elim
            · rw [← to_is hK]
              by_cases hi : a_is (md_cf K M) (a_of (K (M + 22) 0)) = true
              · exact hi
              · exact (b_K_none (fun x q => hi q.1) _ _ _ hl).elim
            · rw [e1, a_of_no e2]; exact g1
          · exact g
        · exact g
      rw [← this]
      exact hQ J1 fx.fy hi.hkp
    · have hπ := (to_is hK).mpr hy.1
      have hγ : a_is (md_cf K M) (cl_spt K X x.toNat) = true := by rw [← a_of_no e2, ← e1]; exact hy.2
      rcases hr0 with ⟨-, g2⟩ | ⟨g, -⟩
      · rw [w_sd_t hπ] at g2
        rw [e1, ← to_no hK] at ha
        rw [k_tie ok hπ hγ g2 ha]
        exact hQ J1 fx.fy hi.hkp
      · exact absurd hγ g
end TLE
