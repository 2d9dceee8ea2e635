/-! THE TIE: gap, log, again, count, nearest, ifPile -/
section TQC
variable {en : Nat → Nat} {X M N O z0 w0 : Nat} {T0 : Nat → Option (Nat × Nat)} {J0 : Nat → Nat → Int} {k : Nat} {T T' : Nat → Option (Nat × Nat)} {J J' J1 K : Nat → Nat → Int} {P P' : Nat → Nat → Option Nat} {L L' : Nat → Nat → Int64} {z w z' w' zb wb : Nat} {C : a_C}
theorem a_mn_le {a b c : Int} : c ≤ a_mn a b ↔ c ≤ a ∧ c ≤ b := by unfold a_mn; split <;> omega
theorem a_gp_le {f : Nat → Int} {e c : Int} : ∀ (n : Nat) (x l : Int), c ≤ a_gp f e n x l ↔ c ≤ l ∧ ∀ j : Nat, j < n → c ≤ f (x + e * (j : Int)).toNat := by
  intro n
  induction n with
  | zero => intro x l; exact ⟨fun q => ⟨q, fun j hj => absurd hj (by omega)⟩, fun q => q.1⟩
  | succ n ih =>
    intro x l
    unfold a_gp
    rw [ih, a_mn_le]
    constructor
    · rintro ⟨⟨a, b⟩, q⟩
      refine ⟨b, fun j hj => ?_⟩
      cases j with
      | zero => rw [show x + e * ((0 : Nat) : Int) = x from by rw [Int.natCast_zero, Int.mul_zero, Int.add_zero]]; exact a
      | succ j =>
        have := q j (by omega)
        rw [show x + e * ((j + 1 : Nat) : Int) = x + e + e * (j : Int) from by rw [Int.natCast_succ, Int.mul_add, Int.mul_one]; omega]
        exact this
    · rintro ⟨a, q⟩
      refine ⟨⟨?_, a⟩, fun j hj => ?_⟩
      · have := q 0 (by omega)
        rw [show x + e * ((0 : Nat) : Int) = x from by rw [Int.natCast_zero, Int.mul_zero, Int.add_zero]] at this
        exact this
      · have := q (j + 1) (by omega)
        rw [show x + e * ((j + 1 : Nat) : Int) = x + e + e * (j : Int) from by rw [Int.natCast_succ, Int.mul_add, Int.mul_one]; omega] at this
        exact this
theorem gp_eq {F G : Nat → Int} {a b W : Int} (ha : 0 ≤ a ∧ a < W) (hb : 0 ≤ b ∧ b < W) (hFG : ∀ i : Int, 0 ≤ i → i < W → F i.toNat = G i.toNat) (hG : ∀ i : Int, 0 ≤ i → i < W → G i.toNat ≤ 6) :
    a_mn (G b.toNat) (a_gp G (if a < b then 1 else -1) (b - a).natAbs a (G a.toNat)) = a_gp F 1 (max a b - min a b + 1).toNat (min a b) 6 := by
  have k1 : ∀ c, c ≤ a_gp F 1 (max a b - min a b + 1).toNat (min a b) 6 ↔ ∀ i : Int, min a b ≤ i → i ≤ max a b → c ≤ G i.toNat := by
    intro c
    rw [a_gp_le]
    constructor
    · rintro ⟨-, q⟩ i h0 h1
      have := q (i - min a b).toNat (by omega)
      rw [show min a b + 1 * (((i - min a b).toNat : Nat) : Int) = i from by omega] at this
      rw [← hFG i (by omega) (by omega)]
      exact this
    · intro q
      refine ⟨?_, fun j hj => ?_⟩
      · have := q a (by omega) (by omega)
        have := hG a ha.1 ha.2
        omega
      · rw [hFG _ (by omega) (by omega)]
        exact q _ (by omega) (by omega)
  have k2 : ∀ c, c ≤ a_mn (G b.toNat) (a_gp G (if a < b then 1 else -1) (b - a).natAbs a (G a.toNat)) ↔ ∀ i : Int, min a b ≤ i → i ≤ max a b → c ≤ G i.toNat := by
    intro c
    rw [a_mn_le, a_gp_le]
    constructor
    · rintro ⟨q1, q2, q⟩ i h0 h1
      by_cases hab : a < b
      · rw [if_pos hab] at q
        by_cases e : i = b
        · rw [e]; exact q1
        · have := q (i - a).toNat (by omega)
          rw [show a + 1 * (((i - a).toNat : Nat) : Int) = i from by omega] at this
          exact this
      · rw [if_neg hab] at q
        by_cases e : i = b
        · rw [e]; exact q1
        · have := q (a - i).toNat (by omega)
          rw [show a + -1 * (((a - i).toNat : Nat) : Int) = i from by omega] at this
          exact this
    · intro q
      refine ⟨q b (by omega) (by omega), q a (by omega) (by omega), fun j hj => ?_⟩
      by_cases hab : a < b
      · rw [if_pos hab]
        exact q _ (by omega) (by omega)
      · rw [if_neg hab]
        exact q _ (by omega) (by omega)
  exact Int.le_antisymm ((k1 _).mpr ((k2 _).mp (Int.le_refl _))) ((k2 _).mpr ((k1 _).mp (Int.le_refl _)))
theorem t_gap (h : to_I en X M N O z0 w0 T0 J0 k T J P L z w) {x y : Int} (hx : m_in x) (hy : m_in y) : m_call en 40 mSc_gap [.ref X, .int (m_i x), .int (m_i y)] (T, m_I J, P, L, z, w) (to_C en X M N O z0 w0 T0 J0 k mMd_gap [.ref M, .int (m_i x), .int (m_i y)]) := by
  obtain ⟨⟨⟨zb, wb, hW, hz, hw⟩, -, -⟩, -⟩ := id h
  refine c_Sc_gap hW hx hy (fun q => ?_) (fun q => ?_)
  · refine to_mk h (fun K Q eK hK eX hQ => ?_)
    have p : ¬ ((0 ≤ x ∧ x < K (M + 2) 0) ∧ 0 ≤ y ∧ y < K (M + 2) 0) := by rw [← to_wid hK, eX _ (by omega)]; exact q
    exact c_Md_gap hK.sh eK (by have := hK.inv.pl.1; omega) (fun i hi => by have := hK.inv.hfr i hi; exact ⟨by omega, by omega⟩) hx hy (fun _ => hQ K (md_fy.refl K M) hK.inv.hkp) (fun p1 p2 => absurd ⟨p1, p2⟩ p)
  · refine to_mk h (fun K Q eK hK eX hQ => ?_)
    have p : (0 ≤ x ∧ x < K (M + 2) 0) ∧ 0 ≤ y ∧ y < K (M + 2) 0 := by rw [← to_wid hK, eX _ (by omega)]; exact q
    refine c_Md_gap hK.sh eK (by have := hK.inv.pl.1; omega) (fun i hi => by have := hK.inv.hfr i hi; exact ⟨by omega, by omega⟩) hx hy (fun p' => absurd p p') (fun p1 p2 => ?_)
    have hw16 := hK.inv.pl.1
    rw [gp_eq (F := fun i => pl_fr J (X + 17) (J (X + 32)) (i : Int)) p1 p2 (fun i h0 h1 => ?_) (fun i h0 h1 => (hK.inv.hfr i.toNat (by omega)).2)]
    · exact hQ K (md_fy.refl K M) hK.inv.hkp
    · have e3 : pl_fr J (X + 17) = pl_fr K (X + 17) := (pl_fr_x (fun k q => eX _ (by omega))).symm
      show pl_fr J (X + 17) (J (X + 32)) ((i.toNat : Nat) : Int) = K (M + 19) i.toNat
      rw [e3, ← eX (X + 32) (by omega), show ((i.toNat : Nat) : Int) = i from by omega]
      exact to_fr hK ⟨h0, h1⟩
theorem lo_at_b {e k : Int} (he : 0 ≤ e ∧ e < 70) (hk : 0 ≤ k ∧ k < 70) : 0 ≤ lo_at e k ∧ lo_at e k < 70 := by unfold lo_at; split <;> omega
theorem m_nm (J : Nat → Nat → Int) (q : Nat → Nat → Bool) : ∃ H : Nat → Nat → Int, m_I H = m_I J ∧ (∀ b i, ¬ q b i = true → H b i = J b i) ∧ ∀ b i, q b i = true → m_in (H b i) := by
  refine ⟨fun b i => if q b i = true then (m_i (J b i)).toInt else J b i, ?_, fun b i e => if_neg e, fun b i e => ?_⟩
  · funext b i
    show Int32.ofInt (if q b i = true then (m_i (J b i)).toInt else J b i) = Int32.ofInt (J b i)
    split
    · exact Int32.ofInt_toInt _
    · rfl
  · show m_in (if q b i = true then (m_i (J b i)).toInt else J b i)
    rw [if_pos e]
    exact ⟨Int32.le_toInt _, Int32.toInt_lt _⟩
theorem t_log (h : to_I en X M N O z0 w0 T0 J0 k T J P L z w) {x y : Int} (hx : m_in x) (hy : m_in y) : m_call en 40 mSc_log [.ref X, .int (m_i x), .int (m_i y)] (T, m_I J, P, L, z, w) (to_C en X M N O z0 w0 T0 J0 k mMd_log [.ref M, .int (m_i x), .int (m_i y)]) := by
  have ho := h.cK.2.2.1.1
  have hl := h.rel.2.1.2
  by_cases hk : 0 ≤ x ∧ x < 70
  · have hb := lo_at_b ho.1 hk
    have hv := ho.2.2 (lo_at (J (X + 33) 1) x).toNat (by omega)
    refine c_Sc_log h.csh ho hx hy ⟨by omega, by omega⟩ (fun q => ?_) (fun q => ?_)
    · refine to_mk h (fun K Q eK hK eX hQ => ?_)
      refine c_Md_log hK.sh eK hK.inv.h6 hx hy ?_
      have hl := hK.rel.2.1.2
      rw [eX (X + 33) (by omega)] at hl
      have h6 := hl.2.1
      rw [if_neg (by omega)]
      exact hQ K (md_fy.refl K M) hK.inv.hkp
    · refine to_mk h (fun K Q eK hK eX hQ => ?_)
      refine c_Md_log hK.sh eK hK.inv.h6 hx hy ?_
      have hl := hK.rel.2.1.2
      rw [eX (X + 33) (by omega), eX (X + 34) (by omega)] at hl
      have h6 := hl.2.1
      have e1 := hl.2.2 x.toNat (by omega)
      rw [show ((x.toNat : Nat) : Int) + 0 = x from by omega] at e1
      rw [if_pos ⟨by omega, by omega, by omega, by omega⟩]
      by_cases y0 : y = 0
      · rw [if_pos y0] at hQ ⊢
        rw [show (23 + x).toNat = 23 + x.toNat from by omega, ← e1.1]
        exact hQ K (md_fy.refl K M) hK.inv.hkp
      · rw [if_neg y0] at hQ ⊢
        by_cases y1 : y = 1
        · rw [if_pos y1] at hQ ⊢
          rw [show (63 + x).toNat = 63 + x.toNat from by omega, ← e1.2.1]
          exact hQ K (md_fy.refl K M) hK.inv.hkp
        · rw [if_neg y1] at hQ ⊢
          rw [show (103 + x).toNat = 103 + x.toNat from by omega, ← e1.2.2]
          exact hQ K (md_fy.refl K M) hK.inv.hkp
  · obtain ⟨H, eJ, f1, f2⟩ := m_nm J (fun b i => decide (b = X + 34 ∧ 70 ≤ i))
    have e1 : ∀ b i, ¬ (b = X + 34 ∧ 70 ≤ i) → H b i = J b i := fun b i q => f1 b i (by rw [decide_eq_true_eq]; exact q)
    rw [← eJ]
    refine c_Sc_log h.csh ?_ hx hy ?_ (fun q => ?_) (fun q => ?_)
    · refine ⟨?_, ?_, fun i hi => ?_⟩
      · rw [e1 (X + 33) 1 (by omega)]; exact ho.1
      · rw [e1 (X + 33) 2 (by omega)]; exact ho.2.1
      · rw [e1 (X + 33 + 1) i (by omega)]; exact ho.2.2 i hi
    · rw [e1 (X + 33) 1 (by omega)]
      by_cases hi : (lo_at (J (X + 33) 1) x).toNat < 70
      · rw [e1 (X + 33 + 1) _ (by omega)]
        have := ho.2.2 _ hi
        exact ⟨by omega, by omega⟩
      · exact f2 (X + 34) _ (by rw [decide_eq_true_eq]; exact ⟨rfl, by omega⟩)
    · rw [eJ]
      refine to_mk h (fun K Q eK hK eX hQ => ?_)
      refine c_Md_log hK.sh eK hK.inv.h6 hx hy ?_
      have h6 := hK.inv.h6
      rw [if_neg (by omega)]
      exact hQ K (md_fy.refl K M) hK.inv.hkp
    · exact absurd q (by omega)
theorem ag_eq {r f : Nat → Int} {e : Int} {m : Nat} (h : ∀ j : Nat, j < 2 * m → r (23 + j) = f (lo_at e (j : Int)).toNat % 256) : lo_rp f e m = true ↔ a_eqk r (m : Int) m ≠ 0 := by
  have key : ∀ k, k ≤ m → (a_eqk r (m : Int) k ≠ 0 ↔ ∀ j, j < k → f (lo_at e (j : Int)).toNat % 256 = f (lo_at e ((j : Int) + (m : Int))).toNat % 256) := by
    intro k
    induction k with
    | zero => intro _; exact ⟨fun _ j hj => absurd hj (by omega), fun _ => by unfold a_eqk; decide⟩
    | succ k ih =>
      intro hk
      have i1 := ih (by omega)
      unfold a_eqk
      have e1 : r (23 + (k : Int)).toNat = f (lo_at e (k : Int)).toNat % 256 := by rw [show (23 + (k : Int)).toNat = 23 + k from by omega]; exact h k (by omega)
      have e2 : r (23 + (m : Int) + (k : Int)).toNat = f (lo_at e ((k : Int) + (m : Int))).toNat % 256 := by
        rw [show (23 + (m : Int) + (k : Int)).toNat = 23 + (k + m) from by omega, h (k + m) (by omega), Int.natCast_add]
      rw [e1, e2]
      by_cases c1 : a_eqk r (m : Int) k = 0
      · rw [if_pos c1]
        exact ⟨fun q => absurd rfl q, fun q => absurd c1 (i1.mpr (fun j hj => q j (by omega)))⟩
      · rw [if_neg c1]
        by_cases c2 : f (lo_at e (k : Int)).toNat % 256 = f (lo_at e ((k : Int) + (m : Int))).toNat % 256
        · rw [if_pos c2]
          refine ⟨fun _ j hj => ?_, fun _ => by decide⟩
          by_cases ej : j = k
          · rw [ej]; exact c2
          · exact i1.mp c1 j (by omega)
        · rw [if_neg c2]
          exact ⟨fun q => absurd rfl q, fun q => absurd (q k (by omega)) c2⟩
  rw [key m (Nat.le_refl m)]
  unfold lo_rp
  rw [List.all_eq_true]
  exact ⟨fun q j hj => of_decide_eq_true (q j (List.mem_range.mpr hj)), fun q j hj => decide_eq_true (q j (List.mem_range.mp hj))⟩
theorem agn_eq {r f : Nat → Int} {e : Int} {n : Nat} (h : ∀ j : Nat, j < 2 * n → r (23 + j) = f (lo_at e (j : Int)).toNat % 256) : ∀ m, m ≤ n → a_agn r m = (lo_ag f e m : Int) := by
  intro m
  induction m with
  | zero => intro _; rfl
  | succ m ih =>
    intro hm
    unfold a_agn lo_ag
    have := ag_eq (r := r) (f := f) (e := e) (m := m + 1) (fun j hj => h j (by omega))
    by_cases c : lo_rp f e (m + 1) = true
    · rw [if_pos c, if_neg (this.mp c)]
    · rw [if_neg c, if_pos (Decidable.not_not.mp (fun q => c (this.mpr q)))]
      exact ih (by omega)
theorem t_again (h : to_I en X M N O z0 w0 T0 J0 k T J P L z w) : m_call en 40 mSc_again [.ref X] (T, m_I J, P, L, z, w) (to_C en X M N O z0 w0 T0 J0 k mMd_again [.ref M]) := by
  have ho := h.cK.2.2.1.1
  refine c_Sc_again h.csh ho ?_
  refine to_mk h (fun K Q eK hK eX hQ => ?_)
  refine c_Md_again hK.sh eK hK.inv ?_
  have hl := hK.rel.2.1.2
  rw [eX (X + 33) (by omega), eX (X + 34) (by omega)] at hl
  have h6 := hl.2.1
  have e1 : a_agn (K (M + 22)) (K (M + 22) 6 / 2).toNat = (lo_ag (J (X + 33 + 1)) (J (X + 33) 1) (min 40 (J (X + 33) 2) / 2).toNat : Int) := by
    rw [show min 40 (J (X + 33) 2) = K (M + 22) 6 from by omega]
    refine agn_eq (n := (K (M + 22) 6 / 2).toNat) (fun j hj => ?_) _ (Nat.le_refl _)
    have := (hl.2.2 j (by omega)).1
    rw [show (j : Int) + 0 = (j : Int) from by omega] at this
    exact this.symm
  rw [e1]
  exact hQ K (md_fy.refl K M) hK.inv.hkp
theorem a_sum_c {f g : Nat → Int} : ∀ n, (∀ i, i < n → f i = g i) → a_sum f n = a_sum g n := by
  intro n
  induction n with
  | zero => intro _; rfl
  | succ n ih => intro h; unfold a_sum; rw [ih (fun i hi => h i (by omega)), h n (by omega)]
theorem t_count (h : to_I en X M N O z0 w0 T0 J0 k T J P L z w) {x : Int} (hx : m_in x) : m_call en 40 mSc_count [.ref X, .int (m_i x)] (T, m_I J, P, L, z, w) (to_C en X M N O z0 w0 T0 J0 k mMd_count [.ref M, .int (m_i x)]) := by
  have ho := h.cK.2.2.1.1
  refine c_Sc_count h.csh ho hx ?_
  refine to_mk h (fun K Q eK hK eX hQ => ?_)
  refine c_Md_count hK.sh eK hx ?_
  have e1 : a_cnt K M x = cl_count J X x := by
    obtain ⟨hp, ⟨hm, hl⟩, ha, -, hr⟩ := hK.rel
    have h6 := hl.2.1
    unfold a_cnt cl_count
    rw [← eX (X + 17) (by omega), ← eX (X + 29) (by omega), ← eX (X + 30) (by omega), ← eX (X + 32) (by omega), ← eX (X + 33) (by omega), ← eX (X + 35) (by omega), ← eX (X + 1) (by omega)]
    rw [hp.1.1.1, hp.1.1.2.1, hp.1.1.2.2.1, hp.1.1.2.2.2.1, hp.1.2.1, hp.1.2.2.1, hp.1.2.2.2.2, hm.2.2.1.2.1, hm.2.2.1.2.2, ha.1, hr.1, show min 40 (K (X + 33) 2) = K (M + 22) 6 from by omega, a_sum_c 16 (fun i hi => (hm.2.1 i hi).trans (hK.inv.2.1.2.1 i hi).symm)]
  rw [e1]
  exact hQ K (md_fy.refl K M) hK.inv.hkp
theorem s_ans_bd {C : a_C} (ok : a_ok C) {goal lev n r : Int} (h : s_ans C goal lev n r) : r = -2 ∨ (0 ≤ r ∧ r < 29999) := by
  rcases h with ⟨h, -⟩ | ⟨t, e, h1, h2⟩
  · exact Or.inl h
  · have := s_bound ok t n h1 h2
    exact Or.inr (by omega)
theorem nf_eq (h : to_I en X M N O z0 w0 T0 J0 k T J P L z w) {rr : Nat → Int} (hr : ∀ s : Nat, (s : Int) < J (M + 2) 4 → s_ans (md_cf J M) (md_sp J M (s : Int)) 0 (J (M + 22) 0) (rr s)) : ∀ (m : Nat) (b l : Int), (m : Int) ≤ J (M + 2) 4 → md_nr J M m b l → b = (cl_nf rr m).1 ∧ ((b = -2 ∧ l = 30000) ∨ (0 ≤ b ∧ l = (cl_nf rr m).2)) := by
  intro m
  induction m with
  | zero => intro b l _ q; exact ⟨q.1, Or.inl q⟩
  | succ m ih =>
    intro b l hm q
    obtain ⟨b0, l0, r, q1, q2, q3⟩ := q
    obtain ⟨i1, i2⟩ := ih b0 l0 (by omega) q1
    have ha := hr m (by omega)
    have hb := s_ans_bd h.inv.ok ha
    have er := s_few_u q2 (s_few_of h ha)
    unfold cl_nf
    by_cases c : 0 ≤ rr m ∧ ((cl_nf rr m).1 < 0 ∨ rr m < (cl_nf rr m).2)
    · rw [if_pos c]
      rcases q3 with ⟨q3, -, -⟩ | ⟨-, q4, q5⟩
      · omega
      · exact ⟨q4, Or.inr ⟨by omega, by rw [q5, er]⟩⟩
    · rw [if_neg c]
      rcases q3 with ⟨-, q4, q5⟩ | ⟨q3, -, -⟩
      · rw [q4, q5]; exact ⟨i1, i2⟩
      · omega
theorem t_nearest (h : to_I en X M N O z0 w0 T0 J0 k T J P L z w) : m_call en 40 mSc_nearest [.ref X] (T, m_I J, P, L, z, w) (to_C en X M N O z0 w0 T0 J0 k mMd_nearest [.ref M]) := by
  obtain ⟨⟨⟨zb, wb, hW, hz, hw⟩, -, -⟩, -⟩ := id h
  have hn0 := h.inv.hsb.1
  have hn1 := to_spn h
  refine c_Sc_nearest (n := (J (M + 2) 4).toNat) hW (by omega) (fun T' J' P' L' z' w' rr hW' hq hr => ?_)
  have h' := to_Xq h hW' hz hw hq
  refine to_mk h' (fun K Q eK hK eX hQ => ?_)
  have e : ∀ b, b < X + 132 → K b = J b := fun b p => (eX b (by omega)).trans (funext (fun i => hq.2.1 b i (by omega)))
  refine c_Md_nearest hK.sh eK hK.inv (fun J1 b l fx hi hb => ?_)
  have hN : K (M + 2) 4 = J (M + 2) 4 := by rw [← to_spn hK, e _ (by omega), hn1]
  have := nf_eq hK (rr := rr) (fun s hs => u_fw hK (x := (s : Int)) ⟨by omega, hs⟩ (by
    rw [x_cf e, x_pi e, x_sp e, show ((s : Int)).toNat = s from by omega]
    exact hr s (by omega))) (K (M + 2) 4).toNat b l (by omega) hb
  rw [this.1, hN]
  exact hQ J1 fx.fy hi.hkp
theorem to_cp (h : to_I en X M N O z0 w0 T0 J0 k T J P L z w) {p p' : Nat → Int} {b b' : Int} (hp : ∀ i : Nat, i < 16 → p i = p' i) (hb : b = b') : cf_w (pl_cf J (X + 17) p b) (md_cp J M p' b') := by
  obtain ⟨hp1, -⟩ := h.rel
  refine ⟨hp1.1.1.1, hp1.1.1.2.1, hp1.1.1.2.2.1, hp1.1.1.2.2.2.1, hb, fun x h0 h1 => ?_⟩
  have hw : (4 ≤ J (X + 17) 0 ∧ J (X + 17) 0 ≤ 16) := h.pok.1
  have h1' : x < J (X + 17) 0 := h1
  have hi : x.toNat < 16 := by omega
  show pl_fr J (X + 17) p x = md_fe J M p' x
  unfold pl_fr md_fe
  rw [if_pos ⟨h0, h1'⟩, if_pos hi, hp _ hi]
  have e1 := hp1.2.2.2.2.2.2 _ hi
  have e2 : J (X + 17 + 1) x.toNat = J (X + 18) x.toNat := rfl
  rw [e2, hp1.1.1.2.1, e1]
  split <;> omega
theorem s_few_C (h : to_I en X M N O z0 w0 T0 J0 k T J P L z w) (ok : a_ok C) (hs : C.2.2.2.1 = J (M + 2) 3) {goal lev r : Int} (q : s_ans C goal lev (J (M + 22) 0) r) : s_few C goal lev (J (M + 22) 0) r := by
  by_cases hw : a_why C (a_of (J (M + 22) 0)) = 0
  · exact Or.inr ⟨hw, q⟩
  · refine Or.inl ⟨hw, ?_⟩
    rw [← to_no h] at q
    refine s_ans_u q (w_no_s ok (to_bx h) (fun e => hw ?_))
    unfold a_is at e
    rw [Bool.and_eq_true, decide_eq_true_eq] at e
    exact e.1
theorem t_ifPile (h : to_I en X M N O z0 w0 T0 J0 k T J P L z w) {x y : Int} (hx : m_in x) (hy : m_in y) : m_call en 40 mSc_ifPile [.ref X, .int (m_i x), .int (m_i y)] (T, m_I J, P, L, z, w) (to_C en X M N O z0 w0 T0 J0 k mMd_ifPile [.ref M, .int (m_i x), .int (m_i y)]) := by
  obtain ⟨⟨⟨zb, wb, hW, hz, hw⟩, -, -⟩, -⟩ := id h
  refine c_Sc_ifPile hW hy hx (fun q => ?_) (fun q T' J' P' L' z' w' r hW' hq hr => ?_)
  · refine to_mk h (fun K Q eK hK eX hQ => ?_)
    have p : ¬ ((0 ≤ x ∧ x < K (M + 2) 0) ∧ 0 ≤ y ∧ y < K (M + 2) 4) := by rw [← to_wid hK, ← to_spn hK, eX _ (by omega), eX _ (by omega)]; exact q
    exact c_Md_ifPile hK.sh eK hK.inv hx hy (fun _ => hQ K (md_fy.refl K M) hK.inv.hkp) (fun p' => absurd p' p)
  · have h' := to_Xq h hW' hz hw hq
    refine to_mk h' (fun K Q eK hK eX hQ => ?_)
    have e : ∀ b, b < X + 132 → K b = J b := fun b p => (eX b (by omega)).trans (funext (fun i => hq.2.1 b i (by omega)))
    have p : (0 ≤ x ∧ x < K (M + 2) 0) ∧ 0 ≤ y ∧ y < K (M + 2) 4 := by rw [← to_wid hK, ← to_spn hK, e _ (by omega), e _ (by omega)]; exact q
    obtain ⟨e1, e2, e3⟩ := to_spt hK p.2
    have hw16 := hK.inv.pl.1
    have hc := to_cp hK (p := m_up J (X + 32) x.toNat (J (X + 32) x.toNat + 1) (X + 32)) (p' := a_pm (K (M + 18)) x 1) (b := J (X + 30) 2) (b' := K M 32) (fun i hi => by
      rw [← e (X + 32) (by omega)]
      unfold a_pm
      have a1 : K (X + 32) i = K (M + 18) i := (hK.rel.2.1.1.2.1 i hi).trans (hK.inv.2.1.2.1 i hi).symm
      by_cases c : i = x.toNat
      · rw [if_pos c, c, m_up_same, ← c, a1]
      · rw [if_neg c, m_up_at, if_neg (fun q => c q.2), ← e (X + 32) (by omega), a1]) (by
      rw [← e (X + 30) (by omega)]
      exact hK.rel.2.1.1.2.2.1.1.trans hK.inv.2.1.1.symm)
    have ok2 : a_ok (md_cp K M (a_pm (K (M + 18)) x 1) (K M 32)) := md_cp_ok hK.inv (fun i hi => by
      have := (hK.inv.hpi i hi).1
      unfold a_pm
      split <;> omega) hK.inv.h32
    have epl : pl_cf J (X + 17) = pl_cf K (X + 17) := by
      funext f b
      unfold pl_cf
      rw [pl_fr_x (J' := K) (J := J) (fun k q => e _ (by omega)), e (X + 17) (by omega)]
    rw [epl, cf_fx hc, ← x_pi e, ← x_sp e, to_pi hK] at hr
    have ha := fx_ans ok2 (to_bx hK) e2 e3 hr
    rw [← e1, to_no hK] at ha
    refine c_Md_ifPile hK.sh eK hK.inv hx hy (fun p' => absurd p p') (fun _ J1 r' fy hi hf => ?_)
    obtain rfl := s_few_u hf (s_few_C hK ok2 rfl ha)
    exact hQ J1 fy hi.hkp
end TQC
