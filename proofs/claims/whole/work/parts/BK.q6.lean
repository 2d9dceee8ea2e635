/-! THE TIE: reach, safe -/
def a_cn (G : Nat → Bool) : Nat → Nat
  | 0 => 0
  | n + 1 => a_cn G n + (if G n = true then 1 else 0)
section TQF
variable {en : Nat → Nat} {X M N O z0 w0 : Nat} {T0 : Nat → Option (Nat × Nat)} {J0 : Nat → Nat → Int} {k : Nat} {T T' : Nat → Option (Nat × Nat)} {J J' J1 K : Nat → Nat → Int} {P P' : Nat → Nat → Option Nat} {L L' : Nat → Nat → Int64} {z w z' w' zb wb : Nat} {C : a_C}
theorem nat_least {p : Nat → Prop} : ∀ n, p n → ∃ m, p m ∧ ∀ k, p k → m ≤ k := by
  intro n
  induction n using Nat.strongRecOn with
  | ind n ih =>
    intro h
    by_cases q : ∃ k, k < n ∧ p k
    · obtain ⟨k, hk, hp⟩ := q
      exact ih k hk hp
    · exact ⟨n, h, fun k hk => Nat.le_of_not_lt (fun hlt => q ⟨k, hlt, hk⟩)⟩
theorem b_ans_ex {α : Type} (S : α → Prop) (E : α → α → Prop) (x : α) : ∃ r, b_ans S E x r := by
  by_cases q : ∃ t, b_D S E t x
  · obtain ⟨t, q⟩ := q
    obtain ⟨m, q1, q2⟩ := nat_least (p := fun t => b_D S E t x) t q
    exact ⟨(m : Int), Or.inl ⟨m, rfl, q1, q2⟩⟩
  · exact ⟨-2, Or.inr ⟨rfl, fun t c => q ⟨t, c⟩⟩⟩
theorem fx_ex (C : a_C) (by_ most : Int) (π γ : a_S) : ∃ r, cl_fx C by_ most π γ r := by
  by_cases q : a_is C γ = true
  · obtain ⟨r, h⟩ := b_ans_ex (w_sd C π) (g_E C 0 most by_) γ
    exact ⟨r, Or.inl ⟨q, h⟩⟩
  · exact ⟨-2, Or.inr ⟨q, rfl⟩⟩
theorem fx_u {by_ most r r' : Int} {π γ : a_S} (h : cl_fx C by_ most π γ r) (h' : cl_fx C by_ most π γ r') : r = r' := by
  rcases h with ⟨h1, h2⟩ | ⟨h1, h2⟩
  · rcases h' with ⟨-, h4⟩ | ⟨h3, -⟩
    · exact b_ans_u h2 h4
    · exact absurd h1 h3
  · rcases h' with ⟨h3, -⟩ | ⟨-, h4⟩
    · exact absurd h3 h1
    · rw [h2, h4]
theorem w_sF {π : a_S} (ok : a_ok C) (hb : a_bx π) : ∀ (t : Nat) (σ : a_S), b_D (fun x => x = π) (w_E C 0) t σ → a_bx σ ∧ b_D (fun x => x = a_no π) (s_F C) t (a_no σ) := by
  intro t
  induction t with
  | zero => intro σ q; rw [show σ = π from q]; exact ⟨hb, rfl⟩
  | succ t ih =>
    intro σ q
    obtain ⟨τ, q1, c, hc, -, q2, q3⟩ := q
    obtain ⟨i1, i2⟩ := ih τ q1
    subst q3
    exact ⟨a_is_bx ok q2, a_no τ, i2, c, hc, by rw [a_of_no i1]; exact q2, by rw [a_of_no i1]⟩
theorem w_Fs {π : a_S} (ok : a_ok C) (hb : a_bx π) : ∀ (t : Nat) (m : Int), b_D (fun x => x = a_no π) (s_F C) t m → ∃ σ, a_bx σ ∧ m = a_no σ ∧ b_D (fun x => x = π) (w_E C 0) t σ := by
  intro t
  induction t with
  | zero => intro m q; exact ⟨π, hb, q, rfl⟩
  | succ t ih =>
    intro m q
    obtain ⟨n, q1, c, hc, q2, q3⟩ := q
    obtain ⟨τ, i1, i2, i3⟩ := ih n q1
    rw [i2, a_of_no i1] at q2 q3
    exact ⟨_, a_is_bx ok q2, q3, τ, i3, c, hc, Or.inl rfl, q2, rfl⟩
theorem w_DF {π γ : a_S} (ok : a_ok C) (hb : a_bx π) (hg : a_bx γ) {t : Nat} : b_D (fun x => x = a_no π) (s_F C) t (a_no γ) ↔ b_D (fun x => x = π) (w_E C 0) t γ := by
  constructor
  · intro q
    obtain ⟨σ, h1, h2, h3⟩ := w_Fs ok hb t _ q
    have : γ = σ := by rw [← a_of_no hg, h2, a_of_no h1]
    rw [this]
    exact h3
  · exact fun q => (w_sF ok hb t γ q).2
theorem s_fw_cl {π γ : a_S} {r : Int} (ok : a_ok C) (hb : a_bx π) (hπ : a_is C π = true) (hγ : a_is C γ = true) (h : cl_fw C π γ r) : s_fw C (a_no π) (a_no γ) r := by
  have hg := a_is_bx ok hγ
  rcases h with ⟨-, h⟩ | ⟨h, -⟩
  · rw [w_sd_t hπ, g_E_0 ok] at h
    rcases h with ⟨t, e, q1, q2⟩ | ⟨e, q⟩
    · exact Or.inr ⟨t, e, (w_DF ok hb hg).mpr q1, fun t' q => q2 t' ((w_DF ok hb hg).mp q)⟩
    · exact Or.inl ⟨e, fun t q2 => q t ((w_DF ok hb hg).mp q2)⟩
  · exact absurd hγ h
theorem s_fw_u {n0 n r r' : Int} (h : s_fw C n0 n r) (h' : s_fw C n0 n r') : r = r' := by
  rcases h with ⟨e, q⟩ | ⟨t, e, q1, q2⟩
  · rcases h' with ⟨e', -⟩ | ⟨t', -, q1, -⟩
    · rw [e, e']
    · exact (q t' q1).elim
  · rcases h' with ⟨-, q⟩ | ⟨t', e', q3, q4⟩
    · exact (q t q1).elim
    · have := q2 t' q3
      have := q4 t q1
      omega
theorem rst_eq {π : a_S} {x e nw : Int} {u r : Int × Int × Int} {r0 r1 : Int} (ok : a_ok C) (hb : a_bx π) (hnw : nw ≠ 0 ↔ a_is C π = true) (h0 : r0 = if a_is C (x, 0, 0, 0, e) = true then 0 else -2) (h1 : cl_fw C π (x, 0, 0, 0, e) r1) (h : s_rst C (a_no π) nw x e u r) :
    r.1 = (cl_ru (u.1, 0) r0).1 ∧ (r.2.1, r.2.2) = cl_ru (u.2.1, u.2.2) r1 := by
  by_cases hi : a_is C (x, 0, 0, 0, e) = true
  · rw [if_pos hi] at h0
    rcases h with ⟨h, -⟩ | ⟨-, h2, h3⟩ | ⟨-, h2, t, h3, h4, h5⟩
    · exact absurd hi h
    · have : r1 = -2 := by
        by_cases c : a_is C π = true
        · rcases h2 with h2 | h2
          · exact absurd h2 (hnw.mpr c)
          · exact s_fw_u (s_fw_cl ok hb c hi h1) h2
        · rcases h1 with ⟨-, h1⟩ | ⟨h1, -⟩
          · exact b_ans_none (fun y q => c q.1) h1
          · exact absurd hi h1
      rw [h3, h0, this]
      exact ⟨rfl, rfl⟩
    · have : r1 = t := s_fw_u (s_fw_cl ok hb (hnw.mp h2) hi h1) h4
      rw [h5, h0, this]
      refine ⟨rfl, ?_⟩
      unfold cl_ru
      rw [if_pos h3, a_gt_max]
      refine Prod.ext rfl ?_
      show max t u.2.2 = max u.2.2 t
      omega
  · rw [if_neg hi] at h0
    rcases h with ⟨-, h⟩ | ⟨h, -⟩ | ⟨h, -⟩
    · have : r1 = -2 := by
        rcases h1 with ⟨h1, -⟩ | ⟨-, h1⟩
        · exact absurd h1 hi
        · exact h1
      rw [h, h0, this]
      exact ⟨rfl, rfl⟩
    · exact absurd h hi
    · exact absurd h hi
theorem cl_ru_1 {a b r : Int} : (cl_ru (a, b) r).1 = (cl_ru (a, 0) r).1 := by unfold cl_ru; split <;> rfl
theorem rc_eq {π : a_S} {nw : Int} {rr0 rr1 : Int → Int → Int} (ok : a_ok C) (hb : a_bx π) (hnw : nw ≠ 0 ↔ a_is C π = true) (h0 : ∀ x e, rr0 x e = if a_is C (x, 0, 0, 0, e) = true then 0 else -2) (h1 : ∀ x e, cl_fw C π (x, 0, 0, 0, e) (rr1 x e)) :
    ∀ (k : Nat) (v : Int × Int × Int), s_rc2 C (a_no π) nw k v → v.1 = (cl_ro rr0 C.2.1.toNat k).1 ∧ (v.2.1, v.2.2) = cl_ro rr1 C.2.1.toNat k := by
  have key : ∀ (x : Int) (D : Nat) (u v : Int × Int × Int) (a0 a1 : Int × Int), s_rc1 C (a_no π) nw x D u v → u.1 = a0.1 → (u.2.1, u.2.2) = a1 → v.1 = (cl_ri rr0 x a0 D).1 ∧ (v.2.1, v.2.2) = cl_ri rr1 x a1 D := by
    intro x D
    induction D with
    | zero => intro u v a0 a1 h e1 e2; rw [show v = u from h]; exact ⟨e1, e2⟩
    | succ D ih =>
      intro u v a0 a1 h e1 e2
      obtain ⟨u', q1, q2⟩ := h
      obtain ⟨i1, i2⟩ := ih u u' a0 a1 q1 e1 e2
      obtain ⟨j1, j2⟩ := rst_eq ok hb hnw (h0 _ _) (h1 _ _) q2
      unfold cl_ri
      refine ⟨?_, by rw [j2, i2]⟩
      rw [j1, i1, show cl_ri rr0 x a0 D = ((cl_ri rr0 x a0 D).1, (cl_ri rr0 x a0 D).2) from rfl, cl_ru_1 (b := (cl_ri rr0 x a0 D).2)]
  intro k
  induction k with
  | zero => intro v h; rw [show v = (0, 0, -2) from h]; exact ⟨rfl, rfl⟩
  | succ k ih =>
    intro v h
    obtain ⟨u, q1, q2⟩ := h
    obtain ⟨i1, i2⟩ := ih u q1
    exact key _ _ u v _ _ q2 i1 i2
theorem t_reach (h : to_I en X M N O z0 w0 T0 J0 k T J P L z w) {x : Int} (hx : m_in x) : m_call en 40 mSc_reach [.ref X, .int (m_i x)] (T, m_I J, P, L, z, w) (to_C en X M N O z0 w0 T0 J0 k mMd_reach [.ref M, .int (m_i x)]) := by
  obtain ⟨⟨⟨zb, wb, hW, hz, hw⟩, -, -⟩, -⟩ := id h
  have hC := to_cf h
  have hwd := h.pok.1
  have hdp := h.pok.2.1
  obtain ⟨rr1, hr1⟩ : ∃ rr1 : Int → Int → Int, ∀ x e, cl_fw (cl_cf J X) (po_get J (X + 31)) (x, 0, 0, 0, e) (rr1 x e) := ⟨fun x e => Classical.choose (fx_ex (cl_cf J X) 511 4 (po_get J (X + 31)) (x, 0, 0, 0, e)), fun x e => Classical.choose_spec (fx_ex (cl_cf J X) 511 4 (po_get J (X + 31)) (x, 0, 0, 0, e))⟩
  refine c_Sc_reach (D := (J (X + 17) 1).toNat) (W := (J (X + 17) 0).toNat) (rr := fun a b => if x = 0 then (if a_is (cl_cf J X) (a, 0, 0, 0, b) = true then 0 else -2) else rr1 a b) hW (by omega) (by omega) hx (fun a b r _ _ q => ?_) (fun q => ?_) (fun q T' J' P' L' z' w' hW' hq => ?_)
  · rcases q with ⟨q1, q2⟩ | ⟨q1, q2⟩
    · show (if x = 0 then _ else _) = r
      rw [if_pos q1, q2]
    · show (if x = 0 then _ else _) = r
      rw [if_neg q1]
      exact fx_u (hr1 a b) q2
  · refine to_mk h (fun K Q eK hK eX hQ => ?_)
    exact c_Md_reach hK.sh eK hK.inv hx (fun _ => hQ K (md_fy.refl K M) hK.inv.hkp) (fun p' => absurd p' q)
  · have h' := to_Xq h hW' hz hw hq
    refine to_mk h' (fun K Q eK hK eX hQ => ?_)
    have e : ∀ b, b < X + 132 → K b = J b := fun b p => (eX b (by omega)).trans (funext (fun i => hq.2.1 b i (by omega)))
    refine c_Md_reach hK.sh eK hK.inv hx (fun p' => absurd q p') (fun _ J1 v fx hi hv => ?_)
    have hcw : cf_w (cl_cf J X) (md_cf K M) := by rw [← x_cf e]; exact to_cf hK
    have e0 : K (M + 2) 0 = J (X + 17) 0 := by rw [← to_wid hK, e _ (by omega)]
    have e1 : (md_cf K M).2.1 = J (X + 17) 1 := by
      show K (M + 2) 1 = J (X + 17) 1
      rw [← hK.rel.1.1.1.2.1, e _ (by omega)]
    have hπ : po_get J (X + 31) = a_of (K (M + 22) 0) := by rw [← to_pi hK, x_pi e]
    rw [← to_no hK] at hv
    have hnw : (if a_why (md_cf K M) (a_of (a_no (a_of (K (M + 22) 0)))) = 0 then (1 : Int) else 0) ≠ 0 ↔ a_is (md_cf K M) (a_of (K (M + 22) 0)) = true := by
      rw [to_is hK, a_of_no (to_bx hK)]
      by_cases c : a_why (md_cf K M) (a_of (K (M + 22) 0)) = 0
      · rw [if_pos c]; exact ⟨fun _ => c, fun _ => by decide⟩
      · rw [if_neg c]; exact ⟨fun p => absurd rfl p, fun p => absurd p c⟩
    have := rc_eq (rr0 := fun a b => if a_is (md_cf K M) (a, 0, 0, 0, b) = true then 0 else -2) (rr1 := rr1) hK.inv.ok (to_bx hK) hnw (fun _ _ => rfl) (fun a b => by
      rw [← cf_fw hcw, ← hπ]
      exact hr1 a b) _ v hv
    rw [e1, e0] at this
    have e5 : (if x = 0 then v.1 else if x = 1 then v.2.1 else v.2.2) = if x = 2 then (cl_ro (fun a b => if x = 0 then (if a_is (cl_cf J X) (a, 0, 0, 0, b) = true then 0 else -2) else rr1 a b) (J (X + 17) 1).toNat (J (X + 17) 0).toNat).2 else (cl_ro (fun a b => if x = 0 then (if a_is (cl_cf J X) (a, 0, 0, 0, b) = true then 0 else -2) else rr1 a b) (J (X + 17) 1).toNat (J (X + 17) 0).toNat).1 := by
      by_cases x0 : x = 0
      · have ef : (fun a b => if x = 0 then (if a_is (cl_cf J X) (a, 0, 0, 0, b) = true then (0 : Int) else -2) else rr1 a b) = (fun a b => if a_is (md_cf K M) (a, 0, 0, 0, b) = true then 0 else -2) := by
          funext a b
          rw [if_pos x0, cf_is hcw]
        rw [if_pos x0, if_neg (by omega), this.1, ef]
      · have ef : (fun a b => if x = 0 then (if a_is (cl_cf J X) (a, 0, 0, 0, b) = true then (0 : Int) else -2) else rr1 a b) = rr1 := by
          funext a b
          rw [if_neg x0]
        rw [if_neg x0, ef, ← this.2]
        by_cases x1 : x = 1
        · rw [if_pos x1, if_neg (by omega)]
        · rw [if_neg x1, if_pos (by omega)]
    rw [e5]
    exact hQ J1 fx.fy hi.hkp
theorem a_cn_s {G : Nat → Bool} {n : Nat} : a_cn G (n + 1) = a_cn G n + (if G n = true then 1 else 0) := rfl
theorem a_cn_c {G H : Nat → Bool} : ∀ n, (∀ i, i < n → G i = H i) → a_cn G n = a_cn H n := by
  intro n
  induction n with
  | zero => intro _; rfl
  | succ n ih => intro h; unfold a_cn; rw [ih (fun i hi => h i (by omega)), h n (by omega)]
theorem a_cn_d {H : Nat → Bool} {m0 : Nat} (h : H m0 = true) : ∀ m, m0 < m → a_cn H m = a_cn (fun i => H i && !decide (i = m0)) m + 1 := by
  intro m
  induction m with
  | zero => intro q; omega
  | succ m ih =>
    intro hm
    unfold a_cn
    by_cases c : m = m0
    · subst c
      have e1 : a_cn (fun i => H i && !decide (i = m)) m = a_cn H m := a_cn_c m (fun i hi => by
        show (H i && !decide (i = m)) = H i
        rw [decide_eq_false (by omega)]
        exact Bool.and_true _)
      have e2 : ¬ (H m && !decide (m = m)) = true := by rw [decide_eq_true rfl]; simp
      rw [e1, if_pos h, if_neg e2]
    · have e2 : (H m && !decide (m = m0)) = H m := by rw [decide_eq_false c]; exact Bool.and_true _
      rw [ih (by omega), e2]
      omega
theorem a_cn_i : ∀ (n : Nat) (G H : Nat → Bool) (m : Nat) (φ : Nat → Nat), (∀ k, k < n → G k = true → φ k < m ∧ H (φ k) = true) → (∀ k k', k < n → k' < n → G k = true → G k' = true → φ k = φ k' → k = k') → a_cn G n ≤ a_cn H m := by
  intro n
  induction n with
  | zero => intro G H m φ _ _; exact Nat.zero_le _
  | succ n ih =>
    intro G H m φ h1 h2
    rw [a_cn_s]
    by_cases c : G n = true
    · rw [if_pos c]
      obtain ⟨q1, q2⟩ := h1 n (by omega) c
      rw [a_cn_d q2 m q1]
      refine Nat.succ_le_succ (ih G _ m φ (fun k hk g => ⟨(h1 k (by omega) g).1, ?_⟩) (fun k k' a b g g' e => h2 k k' (by omega) (by omega) g g' e))
      show (H (φ k) && !decide (φ k = φ n)) = true
      rw [(h1 k (by omega) g).2, decide_eq_false (fun e => by have := h2 k n (by omega) (by omega) g c e; omega)]
      rfl
    · rw [if_neg c]
      exact ih G H m φ (fun k hk g => h1 k (by omega) g) (fun k k' a b g g' e => h2 k k' (by omega) (by omega) g g' e)
theorem a_cn_t : ∀ n, a_cn (fun _ => true) n = n := by
  intro n
  induction n with
  | zero => rfl
  | succ n ih => unfold a_cn; rw [ih, if_pos rfl]
theorem a_cn_add {G : Nat → Bool} {a : Nat} : ∀ b, a_cn G (a + b) = a_cn G a + a_cn (fun i => G (a + i)) b := by
  intro b
  induction b with
  | zero => rfl
  | succ b ih => rw [show a + (b + 1) = a + b + 1 from by omega, a_cn_s, a_cn_s, ih]; omega
theorem a_cn_k {b : Bool} : ∀ n, a_cn (fun _ => b) n = if b = true then n else 0 := by
  intro n
  induction n with
  | zero => unfold a_cn; split <;> rfl
  | succ n ih => rw [a_cn_s, ih]; split <;> omega
theorem a_cn_div {g : Nat → Bool} {S : Nat} (hS : 0 < S) : ∀ c, a_cn (fun m => g (m / S)) (c * S) = a_cn g c * S := by
  intro c
  induction c with
  | zero => rw [Nat.zero_mul]; unfold a_cn; rw [Nat.zero_mul]
  | succ c ih =>
    rw [Nat.succ_mul, a_cn_add, ih, a_cn_c (G := fun i => g ((c * S + i) / S)) (H := fun _ => g c) S (fun i hi => by
      show g ((c * S + i) / S) = g c
      rw [Nat.mul_comm c S, Nat.mul_add_div hS, Nat.div_eq_of_lt hi, Nat.add_zero]), a_cn_k]
    rw [a_cn_s]
    by_cases q : g c = true
    · rw [if_pos q, if_pos q, Nat.add_mul, Nat.one_mul]
    · rw [if_neg q, if_neg q, Nat.add_zero, Nat.add_zero]
theorem a_cn_sum {f : Nat → Int} {g : Nat → Bool} (h : ∀ i, f i = a_b (g i)) : ∀ n, a_sum f n = (a_cn g n : Int) := by
  intro n
  induction n with
  | zero => rfl
  | succ n ih =>
    unfold a_sum a_cn
    rw [ih, h n]
    unfold a_b
    split <;> omega
end TQF
