/-! a whole text is read by the reference -/
section MON
variable {f : Nat → Int} {n : Int}
theorem a_end_s {q : Int → Bool} {i : Int} (hq : q (-1) = false) (h : q (a_hr f n i) = true) (hi : i < n) : i + 1 ≤ a_end q f n i := by
  unfold a_end
  obtain ⟨k, hk⟩ : ∃ k : Nat, (n - i).toNat = k + 1 := ⟨(n - i).toNat - 1, by omega⟩
  rw [hk]
  unfold a_run
  rw [if_pos h]
  exact (a_run_bd hq k (i + 1)).1
theorem s_tok_m {a v a' p' s' v' : Int} (ht : a_tpb f n) (h : s_tok f n a v a' p' s' v') (h0 : 0 ≤ a ∧ a ≤ n) : (a ≤ a' ∧ a' ≤ n) ∧ (s' ≠ 5 → a < a') := by
  obtain ⟨hp, h⟩ := h
  have he := a_end_bd (q := a_bk) (f := f) (n := n) (i := a) rfl h0.2
  rw [← hp] at he
  have hb := a_hr_bd ht (show 0 ≤ p' by omega)
  rcases h with ⟨h1, h2, h3, h4⟩ | ⟨h1, h2, -⟩ | ⟨h1, h2, -⟩ | ⟨⟨h1, -, -⟩, h⟩
  · exact ⟨by omega, fun q => absurd h2 q⟩
  · have hlt : p' < n := by
      rcases Int.lt_or_le p' n with q | q
      · exact q
      · rw [hb.2.2.1 q] at h1; cases h1
    have h5 := a_end_s (q := a_sl) rfl h1 hlt
    have h6 := a_end_bd (q := a_sl) (f := f) (n := n) (i := p') rfl (by omega)
    exact ⟨by omega, fun _ => by omega⟩
  · have hlt : p' < n := by
      rcases Int.lt_or_le p' n with q | q
      · exact q
      · rw [hb.2.2.1 q] at h1; cases h1
    have h5 := a_end_s (q := a_dg) rfl h1 hlt
    have h6 := a_end_bd (q := a_dg) (f := f) (n := n) (i := p') rfl (by omega)
    exact ⟨by omega, fun _ => by omega⟩
  · have hlt : p' < n := by
      rcases Int.lt_or_le p' n with q | q
      · exact q
      · exact absurd (hb.2.2.1 q) h1
    have h6 := a_end_bd (q := a_dg) (f := f) (n := n) (i := p' + 1) rfl (by omega)
    rcases h with ⟨-, -, h, -⟩ | ⟨-, -, h, -⟩ | ⟨-, -, h, -⟩ <;> exact ⟨by omega, fun _ => by omega⟩
theorem s_go_m {x x' : a_Q} (ht : a_tpb f n) (h : s_go f n x x') (h0 : 0 ≤ x.1 ∧ x.1 ≤ n) : (x.1 ≤ x'.1 ∧ x'.1 ≤ n) ∧ (x'.2.2.2.2.1 = 0 → x'.2.2.1 ≠ 5 → x.1 < x'.1) := by
  rcases h with ⟨-, h, -⟩ | ⟨h1, h⟩
  · have := s_tok_m ht h h0
    exact ⟨this.1, fun _ => this.2⟩
  · rw [h]
    exact ⟨by omega, fun q => absurd q h1⟩
theorem a_wr_1 (b : Bool) (y : Int) (x : a_Q) : (a_wr b y x).1 = x.1 := by
  unfold a_wr
  split <;> rfl
theorem s_nu_m {less lo hi : Int} {x x' : a_Q} {r : Int} (ht : a_tpb f n) (h : s_nu f n less lo hi x r x') (h0 : 0 ≤ x.1 ∧ x.1 ≤ n) : x.1 ≤ x'.1 ∧ x'.1 ≤ n := by
  rcases h with ⟨-, -, h⟩ | ⟨-, h⟩
  · rw [h]; omega
  · rcases h with ⟨-, -, h⟩ | ⟨-, h⟩
    · rw [h]; exact ⟨Int.le_refl _, h0.2⟩
    · rcases h with ⟨-, -, h⟩ | ⟨-, -, h⟩
      · rw [h]; exact ⟨Int.le_refl _, h0.2⟩
      · exact (s_go_m ht h h0).1
theorem s_ah_m {lo hi : Int} {x x' : a_Q} {r : Int} (h : s_ah lo hi x r x') : x'.1 = x.1 := by
  rcases h with ⟨-, -, h⟩ | ⟨-, h⟩
  · rw [h]
  · rcases h with ⟨-, -, h⟩ | ⟨-, h⟩
    · rw [h]
    · rcases h with ⟨-, -, h⟩ | ⟨-, -, h⟩
      · rw [h]
      · rw [h]
end MON
section MO2
variable {J J1 : Nat → Nat → Int} {M : Nat} {x x1 : a_Q}
theorem s_on_m {y : Int} (ht : a_tpb (J (M + 1)) (J M 20)) (h : s_on J M y x x1) (h0 : 0 ≤ x.1 ∧ x.1 ≤ J M 20) : x.1 ≤ x1.1 ∧ x1.1 ≤ J M 20 := by
  unfold s_on at h
  split at h
  · exact (s_go_m ht h h0).1
  · exact (s_go_m ht h h0).1
theorem s_bd_m {its : Int} (ht : a_tpb (J (M + 1)) (J M 20)) (h : s_bd J M its x J1 x1) (h0 : 0 ≤ x.1 ∧ x.1 ≤ J M 20) : x.1 ≤ x1.1 ∧ x1.1 ≤ J M 20 := by
  have hw : ∀ b y, (0 ≤ (a_wr b y x).1 ∧ (a_wr b y x).1 ≤ J M 20) ∧ (a_wr b y x).1 = x.1 := fun b y => by rw [a_wr_1]; exact ⟨h0, rfl⟩
  have ra : ∀ wd lo hi, s_ra J M wd lo hi x J1 x1 → x.1 ≤ x1.1 ∧ x1.1 ≤ J M 20 := fun wd lo hi h => by
    obtain ⟨y1, r1, g1, g2, -⟩ := h
    have a0 := hw (decide (J M 18 ≠ 0)) 1
    have a1 := s_on_m ht g1 a0.1
    have a2 := s_nu_m ht g2 (by omega)
    omega
  unfold s_bd at h
  by_cases q0 : its = 0
  · rw [if_pos q0] at h
    exact ra _ _ _ h
  · rw [if_neg q0] at h
    by_cases q1 : its = 1
    · rw [if_pos q1] at h
      exact ra _ _ _ h
    · rw [if_neg q1] at h
      by_cases q2 : its = 2
      · rw [if_pos q2] at h
        exact ra _ _ _ h
      · rw [if_neg q2] at h
        by_cases q3 : its = 3
        · rw [if_pos q3] at h
          exact ra _ _ _ h
        · rw [if_neg q3] at h
          by_cases q4 : its = 4
          · rw [if_pos q4] at h
            obtain ⟨x2, x3, x4, r1, r2, r3, g1, g2, g3, g4, -⟩ := h
            have a0 := hw (decide (J (M + 2) 20 = 6)) 2
            have a1 := (s_go_m ht g1 a0.1).1
            have a2 := s_nu_m ht g2 (by omega)
            have a3 := s_nu_m ht g3 (by omega)
            have a4 := s_nu_m ht g4 (by omega)
            omega
          · rw [if_neg q4] at h
            by_cases q5 : its = 5
            · rw [if_pos q5] at h
              obtain ⟨x2, g1, h⟩ := h
              have a0 := hw (decide (J (M + 2) 17 = 6)) 2
              have a1 := (s_go_m ht g1 a0.1).1
              rcases h with ⟨-, -, h⟩ | ⟨-, x3, h3, h⟩
              · rw [h]; omega
              · have e3 : x3.1 = x2.1 := by
                  rw [h3]
                  split <;> exact a_wr_1 _ _ _
                rcases h with ⟨-, -, h⟩ | ⟨-, x4, x5, r1, r2, g4, g5, g6, -⟩
                · rw [h]; omega
                · have a4 := (s_go_m ht g4 (by omega)).1
                  have a5 := s_nu_m ht g5 (by omega)
                  have a6 := s_nu_m ht g6 (by omega)
                  omega
            · rw [if_neg q5] at h
              by_cases q6 : its = 6
              · rw [if_pos q6] at h
                obtain ⟨y1, y2, r1, r2, g1, g2, g3, -⟩ := h
                have a1 := s_on_m ht g1 h0
                have a2 := s_nu_m ht g2 (by omega)
                have a3 := s_nu_m ht g3 (by omega)
                omega
              · rw [if_neg q6] at h
                by_cases q7 : its = 7
                · rw [if_pos q7] at h
                  obtain ⟨x2, x3, r1, r2, g1, g2, g3, -⟩ := h
                  have a0 := hw (decide (J (M + 2) 19 = 8)) 2
                  have a1 := (s_go_m ht g1 a0.1).1
                  have a2 := s_nu_m ht g2 (by omega)
                  have a3 := s_nu_m ht g3 (by omega)
                  omega
                · rw [if_neg q7] at h
                  by_cases q8 : its = 8
                  · rw [if_pos q8] at h
                    obtain ⟨x2, x3, r, g1, g2, g3, -⟩ := h
                    have a0 := hw (decide (J (M + 2) 18 = 16)) 2
                    have a1 := (s_go_m ht g1 a0.1).1
                    have b1 := a_wr_1 (decide (x2.2.2.1 ≠ 0 ∨ x2.2.2.2.1 < 12)) 1 x2
                    have a2 := (s_go_m ht g2 (by omega)).1
                    have a3 := s_nu_m ht g3 (by omega)
                    omega
                  · rw [if_neg q8] at h
                    by_cases q9 : its = 9
                    · rw [if_pos q9] at h
                      obtain ⟨x2, x3, x4, r1, r2, g1, g2, g3, g4, -⟩ := h
                      have a0 := hw (decide (J (M + 2) 25 = 8)) 2
                      have a1 := (s_go_m ht g1 a0.1).1
                      have a2 := s_ah_m g2
                      have b1 := a_wr_1 (decide (0 < J (M + 16) (16 + r1).toNat)) 3 x3
                      have a3 := (s_go_m ht g3 (by omega)).1
                      have a4 := s_nu_m ht g4 (by omega)
                      omega
                    · rw [if_neg q9] at h
                      by_cases q10 : its = 10
                      · rw [if_pos q10] at h
                        obtain ⟨x2, x3, x4, r1, r2, g1, g2, g3, g4, -⟩ := h
                        have a0 := hw (decide (J (M + 2) 24 = 3)) 2
                        have a1 := (s_go_m ht g1 a0.1).1
                        have a2 := s_nu_m ht g2 (by omega)
                        have a3 := s_ah_m g3
                        have b1 := a_wr_1 (decide (r1 = r2)) 2 x4
                        have a4 := (s_go_m ht g4 (by omega)).1
                        omega
                      · rw [if_neg q10] at h
                        by_cases q11 : its = 11
                        · rw [if_pos q11] at h
                          obtain ⟨y1, r1, g1, g2, -⟩ := h
                          have a1 := s_on_m ht g1 h0
                          have a2 := s_nu_m ht g2 (by omega)
                          omega
                        · rw [if_neg q11] at h
                          rw [h.2, a_wr_1]
                          omega
theorem s_ln_m {x' : a_Q} (ht : a_tpb (J (M + 1)) (J M 20)) (h : s_ln J M x J1 x') (h0 : 0 ≤ x.1 ∧ x.1 ≤ J M 20) : x'.2.2.2.2.1 = 0 → x'.2.2.1 ≠ 5 → x.1 < x'.1 := fun q1 q2 => by
  obtain ⟨J2, x2, g1, g2, -⟩ := h
  have a1 := s_bd_m ht g1 h0
  have b1 := a_wr_1 (decide (x2.2.2.1 ≠ 4)) 1 x2
  have a2 := (s_go_m ht g2 (by omega)).2 q1 q2
  omega
end MO2
/-- all lines, so many at most -/
def s_rt (M : Nat) : Nat → (Nat → Nat → Int) → a_Q → (Nat → Nat → Int) → a_Q → Prop
  | 0, J, x, J', x' => J' = J ∧ x' = x
  | m + 1, J, x, J', x' => (¬ (x.2.2.2.2.1 = 0 ∧ x.2.2.1 ≠ 5) ∧ J' = J ∧ x' = x) ∨ ((x.2.2.2.2.1 = 0 ∧ x.2.2.1 ≠ 5) ∧ ∃ J1 x1, s_ln J M x J1 x1 ∧ s_rt M m J1 x1 J' x')
section MDRX
variable {en : Nat → Nat} {d : Nat} {T : Nat → Option (Nat × Nat)} {J J0 J1 B : Nat → Nat → Int} {P : Nat → Nat → Option Nat} {L : Nat → Nat → Int64} {z w M : Nat} {Q : m_Q} {σ : a_S} {a p s v k g : Int}
theorem l_Md_readText (hM : md_sh en M T P) {n : Int} : ∀ (m : Nat) (J : Nat → Nat → Int) (x : a_Q), a_tpb (J (M + 1)) (J M 20) → a_qb (J M 20) x → dr_b J M → (x.2.2.2.2.1 = 0 ∧ x.2.2.1 ≠ 5 → J M 20 - x.1 < (m : Int)) →
      (∀ (J' : Nat → Nat → Int) (x' : a_Q), s_rt M m J x J' x' → dr_b J' M → dr_f J J' M → a_qb (J M 20) x' → Q none (T, m_I (md_q J' M x'.1 x'.2.1 x'.2.2.1 x'.2.2.2.1 x'.2.2.2.2.1 x'.2.2.2.2.2), P, L, z, w)) → m_wp en (d + 8) mMd_readText 28 [some (.ref M), some (.int (m_i n))] [] (T, m_I (md_q J M x.1 x.2.1 x.2.2.1 x.2.2.2.1 x.2.2.2.2.1 x.2.2.2.2.2), P, L, z, w) Q := by
  intro m
  induction m with
  | zero =>
    intro J x ht hb hd hm hq
    have hk := hb.2.2.2.2.1
    have hs := hb.2.2.1
    have h1 := hb.1
    refine r_aln eMd_readText_28 rfl ?_
    refine r_gete (x := x.2.2.2.2.1) eMd_readText_29 rfl (by decide) hM.2.1 (by simp [m_up, md_q, md_put_at, m_fl]) ?_
    refine r_zne (tgt := 50) eMd_readText_32 rfl ⟨(by omega), (by omega)⟩ (fun c32 => ?_) (fun c32 => ?_)
    · refine r_ret eMd_readText_50 rfl ?_
      exact hq J x ⟨rfl, rfl⟩ hd (dr_f.refl J M) hb
    · refine r_aln eMd_readText_35 rfl ?_
      refine r_gete (x := x.2.2.1) eMd_readText_36 rfl (by decide) hM.2.1 (by simp [m_up, md_q, md_put_at, m_fl]) ?_
      refine r_con eMd_readText_39 ?_
      refine r_ceq (tgt := 50) eMd_readText_40 rfl ⟨(by omega), (by omega)⟩ ⟨(by omega), (by omega)⟩ (fun c40 => ?_) (fun c40 => ?_)
      · refine r_ret eMd_readText_50 rfl ?_
        exact hq J x ⟨rfl, rfl⟩ hd (dr_f.refl J M) hb
      · exfalso; have := hm ⟨by omega, by omega⟩; omega
  | succ m ih =>
    intro J x ht hb hd hm hq
    have hk := hb.2.2.2.2.1
    have hs := hb.2.2.1
    refine r_aln eMd_readText_28 rfl ?_
    refine r_gete (x := x.2.2.2.2.1) eMd_readText_29 rfl (by decide) hM.2.1 (by simp [m_up, md_q, md_put_at, m_fl]) ?_
    refine r_zne (tgt := 50) eMd_readText_32 rfl ⟨(by omega), (by omega)⟩ (fun c32 => ?_) (fun c32 => ?_)
    · refine r_ret eMd_readText_50 rfl ?_
      exact hq J x (Or.inl ⟨by omega, rfl, rfl⟩) hd (dr_f.refl J M) hb
    · refine r_aln eMd_readText_35 rfl ?_
      refine r_gete (x := x.2.2.1) eMd_readText_36 rfl (by decide) hM.2.1 (by simp [m_up, md_q, md_put_at, m_fl]) ?_
      refine r_con eMd_readText_39 ?_
      refine r_ceq (tgt := 50) eMd_readText_40 rfl ⟨(by omega), (by omega)⟩ ⟨(by omega), (by omega)⟩ (fun c40 => ?_) (fun c40 => ?_)
      · refine r_ret eMd_readText_50 rfl ?_
        exact hq J x (Or.inl ⟨by omega, rfl, rfl⟩) hd (dr_f.refl J M) hb
      · refine r_aln eMd_readText_43 rfl ?_
        refine r_vir eMd_readText_44 rfl rfl rfl hM.2.1 rfl rfl ?_
        refine c_Md_readLine hM ht hb hd (fun Jn xn h1 h2 h3 h4 => ?_)
        · show m_wp en _ mMd_readText 47 [some (.ref M), some (.int (m_i (n)))] [] (T, m_I (((md_q Jn M xn.1 xn.2.1 xn.2.2.1 xn.2.2.2.1 xn.2.2.2.2.1 xn.2.2.2.2.2))), P, L, z, w) Q
          refine r_go (tgt := 28) eMd_readText_47 rfl ?_
          have et := h3.t
          have ez := h3.z
          refine ih Jn xn (by rw [et, ez]; exact ht) (by rw [ez]; exact h4) h2 (fun q => ?_) (fun J' x' g1 g2 g3 g4 => hq J' x' (Or.inr ⟨by omega, Jn, xn, h1, g1⟩) g2 (h3.trans g3) (by rw [← ez]; exact g4))
          have m1 := s_ln_m ht h1 hb.1 q.1 q.2
          have m2 := hm ⟨by omega, by omega⟩
          rw [ez]
          omega
end MDRX
