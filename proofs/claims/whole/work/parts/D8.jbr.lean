/-! THE TIE: jobs: the reference's orders -/
/-- the steps of an order of jobs, if it can be -/
def lf_v (sf : (Nat → Int) → Int → Int → Int → Int → Int) (dd : (Nat → Int) → Int → Int) (jf jt : Nat → Int) : List Nat → (Nat → Int) → Int → Int → Int → Option Int
  | [], _, st, _, _ => some st
  | d :: ds, p, st, col, dep => if 0 ≤ sf p col dep (jf d) (jt d) then lf_v sf dd jf jt ds (ha_mv p (jf d) (jt d)) (st + sf p col dep (jf d) (jt d)) (jt d) (dd p (jt d)) else none
def lf_o (o : Option Int) (ds : List Nat) : List (Int × List Nat) := match o with
  | some v => [(v, ds)]
  | none => []
/-- what the reference holds of the best order -/
def jb_M (n : Nat) (b c : Int) (B : Int × List Nat) : Prop := b = B.1 ∧ (B.1 = -2 ∨ 0 ≤ B.1) ∧ (B.1 ≠ -2 → ∀ i : Nat, i < n → a_io c (i : Int) = ((B.2.getD i 0 : Nat) : Int))
section TJR
variable {en : Nat → Nat} {X M N O z0 w0 : Nat} {T0 : Nat → Option (Nat × Nat)} {J0 : Nat → Nat → Int} {k : Nat} {T T' : Nat → Option (Nat × Nat)} {J J' J1 K : Nat → Nat → Int} {P P' : Nat → Nat → Option Nat} {L L' : Nat → Nat → Int64} {z w z' w' zb wb : Nat} {C : a_C}
theorem cl_fx_ex {by_ most : Int} {ρ γ : a_S} : ∃ r, cl_fx C by_ most ρ γ r := by
  by_cases q : a_is C γ = true
  · obtain ⟨r, hr⟩ := b_ans_ex (w_sd C ρ) (g_E C 0 most by_) γ
    exact ⟨r, Or.inl ⟨q, hr⟩⟩
  · exact ⟨-2, Or.inr ⟨q, rfl⟩⟩
theorem ha_so_ex {p : Nat → Int} {col dep fr to : Int} : ∃ r, ha_so J X C p col dep fr to r := by
  by_cases q : (0 ≤ fr ∧ fr < J (X + 17) 0) ∧ (0 ≤ to ∧ to < J (X + 17) 0) ∧ 1 ≤ p fr.toNat
  · have h1 : ∃ r1, (if col = -1 then cl_fw C (po_get J (X + 31)) (fr, 0, 0, 0, pl_fr J (X + 17) p fr) r1 else cl_fx (pl_cf J (X + 17) p 0) 511 4 (col, 0, 0, 0, dep) (fr, 0, 0, 0, pl_fr J (X + 17) p fr) r1) := by
      by_cases c : col = -1
      · obtain ⟨r1, h⟩ := cl_fx_ex (C := C) (by_ := 511) (most := 4) (ρ := po_get J (X + 31)) (γ := (fr, 0, 0, 0, pl_fr J (X + 17) p fr))
        exact ⟨r1, by rw [if_pos c]; exact h⟩
      · obtain ⟨r1, h⟩ := cl_fx_ex (C := pl_cf J (X + 17) p 0) (by_ := 511) (most := 4) (ρ := (col, 0, 0, 0, dep)) (γ := (fr, 0, 0, 0, pl_fr J (X + 17) p fr))
        exact ⟨r1, by rw [if_neg c]; exact h⟩
    obtain ⟨r1, h1⟩ := h1
    by_cases c : r1 < 0
    · exact ⟨-2, Or.inr ⟨q, r1, h1, Or.inl ⟨c, rfl⟩⟩⟩
    · obtain ⟨r2, h2⟩ := cl_fx_ex (C := pl_cf J (X + 17) (fun i => if i = fr.toNat then p i - 1 else p i) 1) (by_ := 511) (most := 4) (ρ := (fr, 0, 0, 0, pl_fr J (X + 17) p fr)) (γ := (to, 0, 0, 0, pl_fr J (X + 17) p to - 1))
      exact ⟨_, Or.inr ⟨q, r1, h1, Or.inr ⟨by omega, r2, h2, rfl⟩⟩⟩
  · exact ⟨-2, Or.inl ⟨q, rfl⟩⟩
theorem lf_v_ge {sf : (Nat → Int) → Int → Int → Int → Int → Int} {dd : (Nat → Int) → Int → Int} {jf jt : Nat → Int} : ∀ (ds : List Nat) (p : Nat → Int) (st col dep v : Int), lf_v sf dd jf jt ds p st col dep = some v → st ≤ v
  | [], p, st, col, dep, v, h => by cases h; exact Int.le_refl st
  | d :: ds, p, st, col, dep, v, h => by
    unfold lf_v at h
    by_cases c : 0 ≤ sf p col dep (jf d) (jt d)
    · rw [if_pos c] at h
      have := lf_v_ge ds _ _ _ _ _ h
      omega
    · rw [if_neg c] at h
      cases h
/-- an order by the reference is that of the class -/
theorem sby_lf (h : to_I en X M N O z0 w0 T0 J0 k T J P L z w) {sf : (Nat → Int) → Int → Int → Int → Int → Int} (hH : ∀ p col dep fr to r, ha_so J X (cl_cf J X) p col dep fr to r → r = sf p col dep fr to) {c best : Int} : ∀ (ds : List Nat) (i : Int) (p p' : Nat → Int) (st sum col dep r : Int), (∀ i : Nat, i < 16 → p i = p' i) → (∀ i : Nat, i < 16 → 0 ≤ p' i) →
    ((col = -1 ∧ st = J (M + 22) 0 ∧ (∀ i : Nat, i < 16 → p i = J (X + 32) i) ∧ J (X + 30) 2 = 0) ∨ (col ≠ -1 ∧ a_bx (col, 0, 0, 0, dep) ∧ st = a_no (col, 0, 0, 0, dep))) →
    (∀ j : Nat, j < ds.length → a_io c (i + (j : Int)) = ((ds.getD j 0 : Nat) : Int) ∧ ((ds.getD j 0 : Nat) : Int) < J (M + 2) 11) → s_sby J M c best ds.length i p' st sum r →
    (lf_v sf (ha_dd J X) (J (X + 27)) (J (X + 28)) ds p sum col dep = none → r = -2) ∧ ∀ v, lf_v sf (ha_dd J X) (J (X + 27)) (J (X + 28)) ds p sum col dep = some v → r = v ∨ (r = -2 ∧ best ≠ -2 ∧ best < v)
  | [], i, p, p', st, sum, col, dep, r, hp, hpb, hst, hd, hs => by
    refine ⟨fun q => (by cases q), fun v q => ?_⟩
    cases q
    exact Or.inl hs
  | d :: ds, i, p, p', st, sum, col, dep, r, hp, hpb, hst, hd, hs => by
    obtain ⟨its, p2, ct, hs, hr⟩ := hs
    obtain ⟨hd0, hd1⟩ := hd 0 (Nat.zero_lt_succ _)
    have hd0 : a_io c i = (d : Int) := by
      have : i + ((0 : Nat) : Int) = i := by omega
      rw [this] at hd0
      exact hd0
    have hd1 : (d : Int) < J (M + 2) 11 := hd1
    obtain ⟨⟨e1, e2⟩, e3, e4, e5⟩ := h.rel.1.2.2.2.2.2.1 d hd1
    have hn3 := h.inv.pl.2.2.2.2.2.2.2.2.1
    have hjb := h.inv.hjb d (by omega)
    rw [hd0, show ((d : Int)).toNat = d by omega] at hs
    obtain ⟨r0, hr0⟩ := ha_so_ex (J := J) (X := X) (C := cl_cf J X) (p := p) (col := col) (dep := dep) (fr := J (X + 27) d) (to := J (X + 28) d)
    have er := hH _ _ _ _ _ _ hr0
    rw [e1, e2] at hr0
    have hso := so_car h hp hpb ⟨hjb.1.1, e3⟩ ⟨hjb.2.1, e4⟩ e5 hst hr0 hs
    have e0 : sf p col dep (J (X + 27) d) (J (X + 28) d) = its := er.symm.trans hso.1
    unfold lf_v
    rw [e0]
    by_cases c0 : its = -2
    · rw [if_neg (by omega)]
      refine ⟨fun _ => ?_, fun v q => by cases q⟩
      rcases hr with ⟨-, hr⟩ | ⟨hr, -⟩
      · exact hr
      · exact absurd c0 hr
    · have hso2 := hso.2 (by rw [hso.1]; exact c0)
      obtain ⟨g0, g1, g2, g3, g4⟩ := hso2
      rw [if_pos (by rw [← hso.1]; exact g0)]
      rcases hr with ⟨hr, -⟩ | ⟨-, hr⟩
      · exact absurd hr c0
      · rcases hr with ⟨hr, hr2⟩ | ⟨hr, hs2⟩
        · refine ⟨fun _ => hr2, fun v q => Or.inr ⟨hr2, hr.1, ?_⟩⟩
          have := lf_v_ge ds _ _ _ _ _ q
          omega
        · have hmv : ha_mv p (J (X + 27) d) (J (X + 28) d) = ha_mv p (J (M + 14) d) (J (M + 15) d) := by rw [e1, e2]
          refine sby_lf h hH ds (i + 1) _ p2 ct (sum + its) (J (X + 28) d) (ha_dd J X p (J (X + 28) d)) r (fun j hj => ?_) (fun j hj => ?_) (Or.inr ⟨?_, ?_, ?_⟩) (fun j hj => ?_) hs2
          · rw [hmv]; exact (g1 j hj).symm
          · rw [g1 j hj]
            have q1 := hp j hj
            have q2 := hpb j hj
            unfold ha_mv
            by_cases c1 : j = (J (M + 15) d).toNat
            · rw [if_pos c1]; split <;> omega
            · rw [if_neg c1]
              by_cases c2 : j = (J (M + 14) d).toNat
              · rw [if_pos c2]
                rw [← c2] at g4
                omega
              · rw [if_neg c2]; omega
          · rw [e2]; have := hjb.2.1; omega
          · unfold ha_dd; rw [e2]; exact g3
          · unfold ha_dd; rw [e2]; exact g2
          · have := hd (j + 1) (Nat.succ_lt_succ hj)
            rw [show i + 1 + (j : Int) = i + ((j + 1 : Nat) : Int) by omega]
            exact this
theorem s_lj_skip : ∀ (m a : Nat) {b c : Int}, (∀ k : Nat, a ≤ k → k < a + m → a_is3 (J (M + 2) 11) (k : Int) 3 0 0 = 0) → s_lj J M (a + m) b c → ∃ c', s_lj J M a b c' ∧ (b ≠ -2 → c' = c)
  | 0, a, b, c, _, h => ⟨c, h, fun _ => rfl⟩
  | m + 1, a, b, c, hk, h => by
    obtain ⟨b0, c0, h0, h1⟩ := h
    rcases h1 with ⟨-, e1, e2⟩ | ⟨q, -⟩
    · subst e1 e2
      exact s_lj_skip m a (fun k q1 q2 => hk k q1 (by omega)) h0
    · exact absurd (hk (a + m) (by omega) (by omega)) q
/-- one order more of the reference's -/
theorem lj_step (h : to_I en X M N O z0 w0 T0 J0 k T J P L z w) {sf : (Nat → Int) → Int → Int → Int → Int → Int} (hH : ∀ p col dep fr to r, ha_so J X (cl_cf J X) p col dep fr to r → r = sf p col dep fr to) (h0 : J (X + 30) 2 = 0) {n : Nat} (hn : J (M + 2) 11 = (n : Int)) {p : Nat → Int} (hp : ∀ i : Nat, i < 16 → p i = J (X + 32) i) {m : Nat} {ds : List Nat} (hl : ds.length = n) (hds : ∀ j : Nat, j < n → a_io (m : Int) (j : Int) = ((ds.getD j 0 : Nat) : Int) ∧ ds.getD j 0 < n) (hv : a_is3 (n : Int) (m : Int) 3 0 0 ≠ 0) {b c : Int} (hs : s_lj J M (m + 1) b c) {B : Int × List Nat} (hB : ∀ b0 c0, s_lj J M m b0 c0 → jb_M n b0 c0 B) : jb_M n b c (jb_f (lf_o (lf_v sf (ha_dd J X) (J (X + 27)) (J (X + 28)) ds p 0 (-1) (-1)) ds) B) := by
  obtain ⟨b0, c0, h1, h2⟩ := hs
  have hM0 := hB b0 c0 h1
  rcases h2 with ⟨q, -⟩ | ⟨-, r, hr, hu⟩
  · rw [hn] at q; exact absurd q hv
  · rw [hn, show ((n : Int)).toNat = ds.length by omega] at hr
    have key := sby_lf h hH ds 0 p (J (M + 18)) (J (M + 22) 0) 0 (-1) (-1) r (fun i hi => by
      rw [hp i hi]
      exact (h.rel.2.1.1.2.1 i hi).trans (h.inv.2.1.2.1 i hi).symm) (fun i hi => (h.inv.hpi i hi).1) (Or.inl ⟨rfl, rfl, hp, h0⟩) (fun j hj => by
      have := hds j (by omega)
      rw [hn, Int.zero_add]
      exact ⟨this.1, by omega⟩) hr
    obtain ⟨m1, m2, m3⟩ := hM0
    cases ho : lf_v sf (ha_dd J X) (J (X + 27)) (J (X + 28)) ds p 0 (-1) (-1) with
    | none =>
      have hr2 := key.1 ho
      rcases hu with ⟨-, e1, e2⟩ | ⟨q, -⟩
      · subst e1 e2
        exact ⟨m1, m2, m3⟩
      · exact absurd (Or.inl hr2) q
    | some v =>
      have hge := lf_v_ge _ _ _ _ _ _ ho
      show jb_M n b c (jb_u B (v, ds))
      unfold jb_u
      by_cases q : 0 ≤ B.1 ∧ B.1 ≤ v
      · rw [if_pos q]
        rcases hu with ⟨-, e1, e2⟩ | ⟨q2, -⟩
        · subst e1 e2
          exact ⟨m1, m2, m3⟩
        · exfalso
          rcases key.2 v ho with e | e
          · exact q2 (Or.inr ⟨by omega, by omega⟩)
          · exact q2 (Or.inl e.1)
      · rw [if_neg q]
        have er : r = v := by
          rcases key.2 v ho with e | e
          · exact e
          · exfalso; rcases m2 with m2 | m2 <;> omega
        rcases hu with ⟨q2, -⟩ | ⟨-, e1, e2⟩
        · exfalso
          rcases q2 with q2 | q2
          · omega
          · rcases m2 with m2 | m2 <;> omega
        · refine ⟨by rw [e1, er], Or.inr hge, fun _ i hi => ?_⟩
          rw [e2]
          exact (hds i hi).1
theorem jb_M_skip {n : Nat} (hn : J (M + 2) 11 = (n : Int)) {a m : Nat} {B : Int × List Nat} (hk : ∀ k : Nat, a ≤ k → k < a + m → a_is3 (n : Int) (k : Int) 3 0 0 = 0) (hB : ∀ b0 c0, s_lj J M a b0 c0 → jb_M n b0 c0 B) : ∀ b c, s_lj J M (a + m) b c → jb_M n b c B := fun b c hs => by
  obtain ⟨c', h1, h2⟩ := s_lj_skip m a (by rw [hn]; exact hk) hs
  have h3 := hB b c' h1
  by_cases q : b = -2
  · exact ⟨h3.1, h3.2.1, fun q2 => absurd (h3.1.symm.trans q) q2⟩
  · rw [h2 q] at h3; exact h3
end TJR
