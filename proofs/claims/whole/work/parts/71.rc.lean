/-! a search of the reference, code by code: en whether an edge is, tg where it leads -/
section RC
variable {S : Int → Prop} {E : Int → Int → Prop} {en_ : Int → Int → Prop} {tg : Int → Int → Int} {J : Nat → Nat → Int} {M k : Nat} {c : Int}
def rc_I (S : Int → Prop) (E : Int → Int → Prop) (en_ : Int → Int → Prop) (tg : Int → Int → Int) (J : Nat → Nat → Int) (M k : Nat) (c : Int) : Prop := rw_ok J M ∧ b_I S E (rf J M) (rq J M) (J M 42).toNat k ∧ k < (J M 42).toNat ∧ ∀ c', 0 ≤ c' → c' < c → en_ (rq J M k) c' → ∃ n', rf J M (tg (rq J M k) c') = some n' ∧ (n' : Int) ≤ J (M + 20) (rq J M k).toNat + 1
theorem rc_put (σ : a_S) (h : rc_I S E en_ tg J M k c) : rc_I S E en_ tg (md_put J M σ) M k c := by
  have e42 : md_put J M σ M 42 = J M 42 := md_put_f J M σ (by omega)
  have e20 : md_put J M σ (M + 20) = J (M + 20) := md_put_r J M σ (by omega)
  obtain ⟨h1, h2, h3, h4⟩ := h
  refine ⟨rw_put σ h1, ?_, ?_, ?_⟩
  · rw [rf_put, rq_put, e42]; exact h2
  · rw [e42]; exact h3
  · rw [rf_put, rq_put, e20]; exact h4
theorem rc_far (h : rc_I S E en_ tg J M k c) (hbd : ∀ t n, b_D S E t n → (∀ t', b_D S E t' n → t ≤ t') → t < 29999) : (0 ≤ rq J M k ∧ rq J M k < 38880) ∧ 0 ≤ J (M + 20) (rq J M k).toNat ∧ J (M + 20) (rq J M k).toNat < 29999 := by
  obtain ⟨rok, hI, hkm, -⟩ := h
  obtain ⟨t, ht, -⟩ := hI.2.2.1 k hkm
  have hex := b_exact hI ht
  have hlt := hbd t _ hex.1 hex.2
  obtain ⟨u1, u2, u3⟩ := rf_inv ht
  have := rok.1 (rq J M k).toNat (by omega)
  exact ⟨u1, this.1, by omega⟩
theorem rc_skip (h : rc_I S E en_ tg J M k c) (hn : ¬ en_ (rq J M k) c) : rc_I S E en_ tg J M k (c + 1) := by
  obtain ⟨h1, h2, h3, h4⟩ := h
  refine ⟨h1, h2, h3, fun c' g0 g1 g2 => ?_⟩
  rcases Int.lt_or_eq_of_le (Int.lt_add_one_iff.mp g1) with q | q
  · exact h4 c' g0 q g2
  · subst q
    exact absurd g2 hn
theorem rc_old (h : rc_I S E en_ tg J M k c) (ht : 0 ≤ tg (rq J M k) c ∧ tg (rq J M k) c < 38880) (hf : J (M + 20) (tg (rq J M k) c).toNat ≤ J (M + 20) (rq J M k).toNat + 1) (hb : J (M + 20) (rq J M k).toNat < 29999) : rc_I S E en_ tg J M k (c + 1) := by
  obtain ⟨h1, h2, h3, h4⟩ := h
  refine ⟨h1, h2, h3, fun c' g0 g1 g2 => ?_⟩
  rcases Int.lt_or_eq_of_le (Int.lt_add_one_iff.mp g1) with q | q
  · exact h4 c' g0 q g2
  · subst q
    have := h1.1 (tg (rq J M k) c').toNat (by omega)
    exact ⟨_, rf_some ht (by omega), by omega⟩
theorem rc_new (h : rc_I S E en_ tg J M k c) (ht : 0 ≤ tg (rq J M k) c ∧ tg (rq J M k) c < 38880) (hf : J (M + 20) (rq J M k).toNat + 1 < J (M + 20) (tg (rq J M k) c).toNat) : J (M + 20) (tg (rq J M k) c).toNat = 30000 ∧ 0 ≤ J M 42 ∧ J M 42 < 38880 := by
  obtain ⟨rok, hI, hkm, h4⟩ := h
  obtain ⟨t, hft, -⟩ := hI.2.2.1 k hkm
  obtain ⟨u1, u2, u3⟩ := rf_inv hft
  have hb := rok.1 (rq J M k).toNat (by omega)
  have hb2 := rok.1 (tg (rq J M k) c).toNat (by omega)
  have hu : J (M + 20) (tg (rq J M k) c).toNat = 30000 := by
    rcases Classical.em (J (M + 20) (tg (rq J M k) c).toNat = 30000) with q | q
    · exact q
    · obtain ⟨i, hi, ei⟩ := hI.2.1 _ _ (rf_some ht q)
      have h6 := hI.2.2.2.2.1 i t (J (M + 20) (tg (rq J M k) c).toNat).toNat hkm hi hft (by rw [ei]; exact rf_some ht q)
      omega
  exact ⟨hu, rok.2.1.1, rb_room hI rok ht hu⟩
theorem rc_add (h : rc_I S E en_ tg J M k c) (he : E (rq J M k) (tg (rq J M k) c)) (ht : 0 ≤ tg (rq J M k) c ∧ tg (rq J M k) c < 38880) (hf : J (M + 20) (rq J M k).toNat + 1 < J (M + 20) (tg (rq J M k) c).toNat) (hb : J (M + 20) (rq J M k).toNat < 29999) :
    rc_I S E en_ tg (md_add J M (tg (rq J M k) c) (J (M + 20) (rq J M k).toNat + 1)) M k (c + 1) ∧ rq (md_add J M (tg (rq J M k) c) (J (M + 20) (rq J M k).toNat + 1)) M k = rq J M k ∧ md_add J M (tg (rq J M k) c) (J (M + 20) (rq J M k).toNat + 1) (M + 20) (rq J M k).toNat = J (M + 20) (rq J M k).toNat := by
  obtain ⟨hu, hm0, hm⟩ := rc_new h ht hf
  obtain ⟨rok, hI, hkm, h4⟩ := h
  obtain ⟨t, hft, -⟩ := hI.2.2.1 k hkm
  obtain ⟨u1, u2, u3⟩ := rf_inv hft
  have hne : rq J M k ≠ tg (rq J M k) c := fun q => by
    rw [← q] at hu
    omega
  obtain ⟨a1, a2, a3, a4, a5⟩ := rb_add hI rok hkm ht hu he rfl (by omega)
  have e1 := a4 k hkm
  have e2 := a5 (rq J M k) u1.1 u1.2 hne
  have e42 : md_add J M (tg (rq J M k) c) (J (M + 20) (rq J M k).toNat + 1) M 42 = J M 42 + 1 := by simp [md_add, m_up]
  refine ⟨⟨a2, a1, by omega, fun c' g0 g1 g2 => ?_⟩, e1, e2⟩
  rw [e1] at g2 ⊢
  rw [e2]
  rcases Int.lt_or_eq_of_le (Int.lt_add_one_iff.mp g1) with q | q
  · obtain ⟨n', b1, b2⟩ := h4 c' g0 q g2
    obtain ⟨v1, v2, v3⟩ := rf_inv b1
    have hn2 : tg (rq J M k) c' ≠ tg (rq J M k) c := fun q2 => by
      rw [q2] at v2
      exact v2 hu
    have e3 := a5 (tg (rq J M k) c') v1.1 v1.2 hn2
    exact ⟨n', by rw [rf_some v1 (by rw [e3]; exact v2), e3, v3], b2⟩
  · subst q
    exact ⟨_, rf_some ht (by rw [a3]; omega), by rw [a3]; have := rok.1 (rq J M k).toNat (by omega); omega⟩
theorem rc_beg (h1 : rw_ok J M) (h2 : b_I S E (rf J M) (rq J M) (J M 42).toNat k) (h3 : k < (J M 42).toNat) : rc_I S E en_ tg J M k 0 := ⟨h1, h2, h3, fun c' g0 g1 => by omega⟩
theorem rc_end (h : rc_I S E en_ tg J M k 9) (hE : ∀ n m, E n m → ∃ c, (0 ≤ c ∧ c < 9) ∧ en_ n c ∧ m = tg n c) : rw_ok J M ∧ b_I S E (rf J M) (rq J M) (J M 42).toNat (k + 1) := by
  obtain ⟨h1, h2, h3, h4⟩ := h
  refine ⟨h1, b_next h2 h3 (fun t τ g1 g2 => ?_)⟩
  obtain ⟨c, c1, c2, rfl⟩ := hE _ _ g2
  obtain ⟨n', d1, d2⟩ := h4 c c1.1 c1.2 c2
  refine ⟨n', d1, ?_⟩
  have := (rf_inv g1).2.2
  omega
end RC
/-- a search of one seed: how it begins -/
theorem rc_one {J : Nat → Nat → Int} {M : Nat} {n0 : Int} {E : Int → Int → Prop} (hn : 0 ≤ n0 ∧ n0 < 38880) (h20 : ∀ i : Nat, i < 38880 → J (M + 20) i = 30000) (h42 : J M 42 = 0) : rw_ok (md_add J M n0 0) M ∧ b_I (fun n => n = n0) E (rf (md_add J M n0 0) M) (rq (md_add J M n0 0) M) (md_add J M n0 0 M 42).toNat 0 := by
  have e42 : md_add J M n0 0 M 42 = 1 := by simp [md_add, m_up, h42]
  have e20 : ∀ i : Nat, md_add J M n0 0 (M + 20) i = if i = n0.toNat then 0 else J (M + 20) i := fun i => by simp [md_add, m_up]
  have e21 : md_add J M n0 0 (M + 21) 0 = n0 := by simp [md_add, m_up, h42]
  have hq0 : rq (md_add J M n0 0) M 0 = n0 := e21
  refine ⟨⟨fun i hi => ?_, by rw [e42]; omega, fun i hi => ?_⟩, ?_⟩
  · rw [e20]
    split
    · omega
    · rw [h20 i hi]; omega
  · rw [e42] at hi
    obtain rfl : i = 0 := by omega
    rw [e21]
    exact hn
  · rw [e42]
    have hqi : ∀ i, i < (1 : Int).toNat → rq (md_add J M n0 0) M i = n0 := fun i hi => by
      obtain rfl : i = 0 := by omega
      exact hq0
    refine b_init (fun i j hi hj _ => by omega) (fun n => ?_) hqi
    by_cases q : n = n0
    · subst q
      refine Or.inl ⟨?_, rfl, 0, by omega, hq0⟩
      rw [rf_some hn (by rw [e20, if_pos rfl]; omega), e20, if_pos rfl]
      rfl
    · refine Or.inr ⟨?_, q⟩
      unfold rf
      by_cases hx : 0 ≤ n ∧ n < 38880
      · refine if_neg (fun z => z.2 ?_)
        rw [e20, if_neg (by omega)]
        exact h20 _ (by omega)
      · exact if_neg (fun z => hx z.1)
/-- forward: from a state by a step -/
def s_F (C : a_C) (n m : Int) : Prop := ∃ c : Int, (0 ≤ c ∧ c < 9) ∧ a_is C (a_step (a_of n) c 0) = true ∧ m = a_no (a_step (a_of n) c 0)
theorem s_F_bound {C : a_C} (ok : a_ok C) {n0 : Int} (h0 : a_why C (a_of n0) = 0) : ∀ t n, b_D (fun x => x = n0) (s_F C) t n → (∀ t', b_D (fun x => x = n0) (s_F C) t' n → t ≤ t') → t < 29999 := by
  intro t n h hmin
  obtain ⟨f, f1, f2, f3, f4⟩ := b_short h hmin
  have k1 := ok.1
  have st : ∀ i, i < t → a_why C (a_of (f i)) = 0 := fun i hi => by
    cases i with
    | zero => rw [f2]; exact h0
    | succ i =>
      obtain ⟨c, c1, c3, c4⟩ := f3 i (by omega)
      rw [c4, a_of_no (a_is_bx ok c3)]
      exact (a_is_spec c3).1
  have hpig := b_pig (t - 1) p_l6 (fun i => (f (i + 1)).toNat) (fun i j hi hj q => by
    have s1 : ∀ a, a + 1 < t → 0 ≤ f (a + 1) := fun a ha => by
      obtain ⟨c, c1, c3, c4⟩ := f3 a (by omega)
      rw [c4]
      exact (a_no_bd (a_is_bx ok c3)).1
    have q : (f (i + 1)).toNat = (f (j + 1)).toNat := q
    have := f4 (i + 1) (j + 1) (by omega) (by omega) (by have := s1 i (by omega); have := s1 j (by omega); omega)
    omega) (fun i hi => by
    obtain ⟨c, c1, c3, c4⟩ := f3 i (by omega)
    have hbx := a_is_bx ok c3
    have hN := a_no_bd hbx
    have hof := a_of_no hbx
    have g1 := (a_why_0 (a_is_spec c3).1).2.2.2.2.1
    have g2 := a_why_0 (st i (by omega))
    have g3 := g2.1
    have g4 := g2.2.2.2.2.1
    have e1 : (a_step (a_of (f i)) c 0).1 - (a_step (a_of (f i)) c 0).2.1 = (a_of (f i)).1 := by
      unfold a_step
      simp only
      omega
    have e2 : (a_step (a_of (f i)) c 0).2.2.2.1 = (a_of (f i)).2.2.1 := rfl
    show (f (i + 1)).toNat ∈ p_l6
    rw [c4]
    exact p_of hN.1 hN.2 (by rw [hof]; omega) (by rw [hof, e1]; omega) (by rw [hof, e1, e2]; omega))
  rw [p_len6] at hpig
  omega
