/-! THE TIE: all lines, read by both -/
section LOD
variable {A B A' B' J1 : Nat → Nat → Int} {X M : Nat} {n : Int} {y x x1 x' y2 : a_Q}
/-- both have read the same so far and are at the same token -/
def rd_S (A B : Nat → Nat → Int) (X M : Nat) (n : Int) (y x : a_Q) : Prop := rs_S n y x ∧ rd_R A B X M ∧ rd_b B M ∧ rd_T A B X M n
theorem F_of {f : Nat → Int} {ya : a_Q} (hB : rs_B f n y2 x1) (h0 : ya.1 ≠ 0) (h1 : y2.1 = ya.1) (h2 : y2.2.1 = ya.2.1) : rs_F ya x1 := by
  rcases hB with h | h
  · exact ⟨h0, by rw [h.2.1, h1], by rw [h.2.2, h2]⟩
  · exact absurd (h1.symm.trans h.1.1) h0
theorem F_go {g : Nat → Int} (h : rs_F y x1) {b : Bool} {k : Int} (hg : s_go g n (a_wr b k x1) x') : rs_F y x' := by
  have e2 : a_wr b k x1 = x1 := if_neg (fun q => h.1 (h.2.1.symm.trans q.2))
  rw [e2] at hg
  exact go_F h hg
theorem ln_tie (h : rd_S A B X M n y x) (hr : s_ln B M x B' x') :
    ((re_ms (A (X + 15)) (re_wn (A (X + 16)) y) y).1 ≠ 0 → rs_F (re_nt (A (X + 2)) n (re_ms (A (X + 15)) (re_wn (A (X + 16)) y) y)) x') ∧
    (∀ A1 y2, (re_ms (A (X + 15)) (re_wn (A (X + 16)) y) y).1 = 0 → rl_line A X (re_wn (A (X + 16)) y) (A (X + 15) (re_wn (A (X + 16)) y).toNat) (re_ms (A (X + 15)) (re_wn (A (X + 16)) y) y) A1 y2 →
      rs_F (re_nt (A (X + 2)) n (re_ns (A (X + 2)) n y2)) x' ∨ (rd_S (m_up A1 (X + 15) (re_wn (A (X + 16)) y).toNat (A1 (X + 15) (re_wn (A (X + 16)) y).toNat + 1)) B' X M n (re_nt (A (X + 2)) n (re_ns (A (X + 2)) n y2)) x' ∧ B' M 19 = B M 19 + 1 ∧ B' (M + 1) = B (M + 1))) := by
  obtain ⟨hS, hR, hb, hT⟩ := h
  obtain ⟨J1, x1, hbd, hgo, eB⟩ := hr
  rw [hT.2.1.2] at hgo
  by_cases c12 : 12 ≤ a_its x
  · have hw : re_wn (A (X + 16)) y < 0 ∨ 12 ≤ re_wn (A (X + 16)) y := by
      rcases its_tie hT hS with ⟨e, -⟩ | ⟨e, -⟩ <;> omega
    have ems : re_ms (A (X + 15)) (re_wn (A (X + 16)) y) y = re_rf 1 y := by
      unfold re_ms
      rw [if_pos (by omega)]
    have hbd2 : J1 = B ∧ x1 = a_wr true 1 x := by
      unfold s_bd at hbd
      rw [if_neg (by omega), if_neg (by omega), if_neg (by omega), if_neg (by omega), if_neg (by omega), if_neg (by omega), if_neg (by omega), if_neg (by omega), if_neg (by omega), if_neg (by omega), if_neg (by omega), if_neg (by omega)] at hbd
      exact hbd
    have hF : rs_F (re_rf 1 y) x1 := by
      rw [hbd2.2]
      have e : a_wr true 1 x = (x.1, x.2.1, x.2.2.1, x.2.2.2.1, 1, x.2.1) := if_pos ⟨rfl, hS.1.2⟩
      rw [e]
      exact rf_F hS (by decide)
    rw [ems]
    refine ⟨fun _ => F_go hF hgo, fun A1 y2 q => absurd q hF.1⟩
  · have hw : re_wn (A (X + 16)) y = a_its x ∧ 0 ≤ a_its x := by
      rcases its_tie hT hS with ⟨e, q⟩ | ⟨e, q⟩ <;> omega
    obtain ⟨ln, hl⟩ := Int.eq_ofNat_of_zero_le hw.2
    rw [hw.1, hl, show ((ln : Int)).toNat = ln from by omega]
    rw [hl] at hbd eB
    have hl12 : ln < 12 := by omega
    refine ⟨fun q0 => ?_, fun A1 y2 q0 hrl => ?_⟩
    · obtain ⟨A0, y0, hrl⟩ := rl_line_ex (J := A) (X := X) (a := A (X + 15) ln) (y := re_ms (A (X + 15)) (ln : Int) y) hl12
      have k := (bd_tie hT hR hb hS hl12 hbd hrl).1
      have f := rl_line_F q0 hrl
      exact F_go (F_of k q0 f.1 f.2) hgo
    · have hms := (re_ms_0 q0).2.1
      rw [show ((ln : Int)).toNat = ln from by omega] at hms
      obtain ⟨k1, k2⟩ := bd_tie hT hR hb hS hl12 hbd hrl
      rcases ns_tie hT.1 k1 hgo with k3 | k3
      · exact Or.inl k3
      · right
        have f1 := go_ok hgo k3.1.2
        obtain ⟨-, f2⟩ := wr_ok (by decide) f1
        rw [f2] at f1
        obtain ⟨⟨m1, m2⟩, ⟨m3, m4, m5⟩, m6⟩ := k2 hms f1
        rw [← eB] at m1 m2
        have e1 : B' (M + 1) = B (M + 1) := by
          rw [← m3, eB]
          funext i
          rw [m_up_z (by omega)]
          split
          · rw [m_up_z (by omega)]
          · rfl
        have e20 : B' M 20 = B M 20 := by
          rw [← m4, eB, m_up_z (by omega)]
          split
          · rw [m_up_z (by omega)]
          · rfl
        have e19 : B' M 19 = B M 19 + 1 := by rw [eB, m_up_e, m5]
        refine ⟨⟨k3, m1, m2, ?_, ⟨?_, by rw [e20]; exact hT.2.1.2⟩, fun i hi => ?_⟩, e19, e1⟩
        · rw [e1, show m_up A1 (X + 15) ln (A1 (X + 15) ln + 1) (X + 2) = A (X + 2) from funext (fun i => by rw [m_up_z (by omega)]; exact m6 _ _ (by omega))]
          exact hT.1
        · rw [m_up_z (by omega), m6 _ _ (by omega)]; exact hT.2.1.1
        · rw [m_up_z (by omega), m6 _ _ (by omega)]; exact hT.2.2 i hi
theorem rd_S_end (h : rd_S A B X M n y x) : (y.2.2.2.2.1 = 0 ∨ y.1 ≠ 0) ↔ ¬ (x.2.2.2.2.1 = 0 ∧ x.2.2.1 ≠ 5) := by
  obtain ⟨h1, h2⟩ := h.1.1
  rcases h.1.2.1.2 with t | ⟨t1, t⟩ | t | t | t | t
  · exact ⟨fun _ q => q.2 t.2, fun _ => Or.inl t.1⟩
  · exact ⟨fun q => by omega, fun q => absurd ⟨h2, by rcases t with t | t <;> omega⟩ q⟩
  · exact ⟨fun q => by omega, fun q => absurd ⟨h2, by omega⟩ q⟩
  · exact ⟨fun q => by omega, fun q => absurd ⟨h2, by omega⟩ q⟩
  · exact ⟨fun q => by omega, fun q => absurd ⟨h2, by omega⟩ q⟩
  · exact ⟨fun q => by omega, fun q => absurd ⟨h2, by omega⟩ q⟩
theorem s_rt_end {m : Nat} (h : s_rt M m B x B' x') (hx : ¬ (x.2.2.2.2.1 = 0 ∧ x.2.2.1 ≠ 5)) : B' = B ∧ x' = x := by
  cases m with
  | zero => exact h
  | succ m =>
    rcases h with h | h
    · exact h.2
    · exact absurd h.1 hx
theorem rl_rt_end {m : Nat} {l l' : Int} {y' : a_Q} (h : rl_rt X m A y l A' y' l') (hy : y.2.2.2.2.1 = 0 ∨ y.1 ≠ 0) : A' = A ∧ y' = y ∧ l' = l := by
  cases m with
  | zero => exact h
  | succ m =>
    rcases h with h | h
    · exact h.2
    · exact absurd hy h.1
theorem rt_tie {g : Nat → Int} (hg : a_tpb g n) : ∀ (m : Nat) (m' : Nat) (A B : Nat → Nat → Int) (y x : a_Q) (l : Int) {A' B' : Nat → Nat → Int} {y' x' : a_Q} {l' : Int}, B (M + 1) = g → rs_F y x ∨ rd_S A B X M n y x → (x.2.2.2.2.1 = 0 ∧ x.2.2.1 ≠ 5 → n - x.1 < (m : Int)) → rl_rt X m A y l A' y' l' → s_rt M m' B x B' x' → (x.2.2.2.2.1 = 0 ∧ x.2.2.1 ≠ 5 → n - x.1 < (m' : Int)) →
    (rs_F y' x' ∨ (rd_S A' B' X M n y' x' ∧ y'.2.2.2.2.1 = 0)) ∧ (y'.1 = 0 → l' - l = B' M 19 - B M 19) := by
  intro m
  induction m with
  | zero =>
    intro m' A B y x l A' B' y' x' l' eg hs hm hc hr hm'
    obtain ⟨e1, e2, e3⟩ := hc
    have hx : ¬ (x.2.2.2.2.1 = 0 ∧ x.2.2.1 ≠ 5) := fun q => by
      have := hm q
      rcases hs with hs | hs
      · exact hs.1 (hs.2.1.symm.trans q.1)
      · have := hs.1.2.2; omega
    obtain ⟨f1, f2⟩ := s_rt_end hr hx
    subst e1 e2 e3 f1 f2
    refine ⟨hs.imp id (fun hs => ⟨hs, ?_⟩), fun _ => by omega⟩
    rcases (rd_S_end hs).mpr hx with q | q
    · exact q
    · exact absurd hs.1.1.1 q
  | succ m ih =>
    intro m' A B y x l A' B' y' x' l' eg hs hm hc hr hm'
    by_cases hx : x.2.2.2.2.1 = 0 ∧ x.2.2.1 ≠ 5
    · have hs : rd_S A B X M n y x := by
        rcases hs with hs | hs
        · exact absurd (hs.2.1.symm.trans hx.1) hs.1
        · exact hs
      have hy : ¬ (y.2.2.2.2.1 = 0 ∨ y.1 ≠ 0) := fun q => (rd_S_end hs).mp q hx
      have hT := hs.2.2.2
      cases m' with
      | zero => have := hm' hx; have := hs.1.2.2; omega
      | succ m' =>
        rcases hr with ⟨q, -⟩ | ⟨-, B1, x1, hln, hr⟩
        · exact absurd hx q
        · have htp : a_tpb (B (M + 1)) (B M 20) := by rw [eg, hT.2.1.2]; exact hg
          have hmono := s_ln_m htp hln (by rw [hT.2.1.2]; exact hs.1.2.2)
          obtain ⟨t1, t2⟩ := ln_tie hs hln
          have hme : ∀ k : Nat, (x.2.2.2.2.1 = 0 ∧ x.2.2.1 ≠ 5 → n - x.1 < ((k + 1 : Nat) : Int)) → (x1.2.2.2.2.1 = 0 ∧ x1.2.2.1 ≠ 5 → n - x1.1 < (k : Int)) := fun k q p => by
            have h1 := q hx
            have h2 := hmono p.1 p.2
            omega
          rcases hc with ⟨q, -⟩ | ⟨-, y1, e1, hc⟩
          · exact absurd q hy
          · rw [hT.2.1.1] at hc
            subst e1
            rcases hc with ⟨q, hc⟩ | ⟨q, A1, y2, hl, hc⟩
            · have hF := t1 q
              obtain ⟨f1, f2⟩ := s_rt_end hr (fun p => hF.1 (hF.2.1.symm.trans p.1))
              obtain ⟨f3, f4, f5⟩ := rl_rt_end hc (Or.inr hF.1)
              subst f2 f4
              exact ⟨Or.inl hF, fun p => absurd p hF.1⟩
            · rcases t2 A1 y2 q hl with hF | ⟨hS, e19, e1⟩
              · obtain ⟨f1, f2⟩ := s_rt_end hr (fun p => hF.1 (hF.2.1.symm.trans p.1))
                obtain ⟨f3, f4, f5⟩ := rl_rt_end hc (Or.inr hF.1)
                subst f2 f4
                exact ⟨Or.inl hF, fun p => absurd p hF.1⟩
              · have hg1 : B1 (M + 1) = g := e1.trans eg
                obtain ⟨r1, r2⟩ := ih m' _ _ _ _ _ hg1 (Or.inr hS) (hme m hm) hc hr (hme m' hm')
                exact ⟨r1, fun p => by have := r2 p; omega⟩
    · obtain ⟨f1, f2⟩ := s_rt_end hr hx
      have hy : y.2.2.2.2.1 = 0 ∨ y.1 ≠ 0 := by
        rcases hs with hs | hs
        · exact Or.inr hs.1
        · exact (rd_S_end hs).mpr hx
      obtain ⟨f3, f4, f5⟩ := rl_rt_end hc hy
      subst f1 f2 f3 f4 f5
      refine ⟨hs.imp id (fun hs => ⟨hs, ?_⟩), fun _ => by omega⟩
      rcases hy with q | q
      · exact q
      · exact absurd hs.1.1.1 q
end LOD
