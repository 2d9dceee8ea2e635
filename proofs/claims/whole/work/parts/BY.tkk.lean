/-! THE TIE: the next token -/
section TKK
variable {f g : Nat → Int} {n : Int}
theorem wv_full {l : Nat → Int} {m : Nat} (hm : m ≤ 6) (hz : ∀ k, m ≤ k → l k = 0) : wv_p l m = a_p6 (l 0) (l 1) (l 2) (l 3) (l 4) (l 5) := by
  have e : ∀ k, (if k < m then l k else 0) = l k := fun k => by
    by_cases c : k < m
    · rw [if_pos c]
    · rw [if_neg c, hz k (by omega)]
  unfold wv_p
  rw [e, e, e, e, e, e]
theorem tok_tie (h : tp_R f g n) {y : a_Q} {a v a' p' s' v' k' g' : Int} (ha : 0 ≤ a ∧ a ≤ n) (hy : y.2.2.2.1 = a) (ht : s_tok g n a v a' p' s' v') : tk_R (re_nt f n y) (a', p', s', v', k', g') := by
  obtain ⟨ep, ht⟩ := ht
  have hbk : a_bk (-1) = false := by decide
  have hslf : a_sl (-1) = false := by decide
  have hdgf : a_dg (-1) = false := by decide
  have hpb : a ≤ p' ∧ p' ≤ n := by rw [ep]; exact a_end_bd hbk ha.2
  have hp0 : 0 ≤ p' := by omega
  have e1 : a_end a_bk f n y.2.2.2.1 = p' := by rw [hy, tp_bk h ha.1, ep]
  unfold re_nt
  rw [e1]
  have hq := tp_q h hp0
  unfold re_t2
  rcases ht with ⟨t1, t2, t3, -⟩ | ⟨t1, t2, r, t3, t4⟩ | ⟨t1, t2, t3, t4⟩ | ⟨⟨t1, t2, t3⟩, t4⟩
  · rcases tp_hr h hp0 with ⟨c, -, -⟩ | ⟨-, -, c2, -⟩
    · rw [if_pos c, t2, t3]
      exact ⟨⟨rfl, rfl⟩, Or.inl ⟨rfl, rfl⟩⟩
    · omega
  · have hlt : p' < n := by
      rcases tp_hr h hp0 with ⟨-, -, c⟩ | ⟨c, -⟩
      · rw [c] at t1; exact absurd t1 (by decide)
      · exact c
    have hsf : a_sl (a_hr f n p') = true := by rw [hq.2.1]; exact t1
    rw [if_neg (by omega), if_pos hsf, tp_sl h hp0]
    have heb := a_end_bd (f := g) (n := n) hslf hpb.2
    have he1 : p' + 1 ≤ a_end a_sl g n p' := a_end_s hslf t1 hlt
    have hin : ∀ j : Int, p' ≤ j → j < a_end a_sl g n p' → a_sl (a_hr g n j) = true := fun j q1 q2 => a_run_in _ _ j q1 q2
    have hst : a_sl (a_hr g n (a_end a_sl g n p')) = false := a_run_st hslf _ _ (by omega)
    have hl := l6_b h hp0 hpb.2 hin heb.2
    rw [← t2] at *
    have hw : a' - p' ≤ 6 → re_wv f n p' (n - p').toNat p' 0 = a_p6 (a_l6 g p' a' 0) (a_l6 g p' a' 1) (a_l6 g p' a' 2) (a_l6 g p' a' 3) (a_l6 g p' a' 4) (a_l6 g p' a' 5) := fun q => by
      have w1 := wv_go (f := f) (n := n) (p := p') (l := a_l6 g p' a') (e := a') (fun k => by have := (hl k).1; omega) q (fun j q1 q2 => by
        have hj := tp_q h (i := j) (by omega)
        have hs := hin j q1 q2
        have hs2 : a_sl (a_hr f n j) = true := by rw [hj.2.1]; exact hs
        refine ⟨hs2, ?_⟩
        rw [hj.2.2.2.2.2 (Or.inl hs2)]
        have := ((hl (j - p').toNat).2 (by omega)).2
        rw [show p' + (((j - p').toNat : Nat) : Int) = j from by omega] at this
        rw [this]
        unfold a_hr
        rw [if_pos (by omega)]
        omega) (by rw [(tp_q h (i := a') (by omega)).2.1]; exact hst) (a' - p').toNat (n - p').toNat 0 (by omega) (by omega)
      rw [show p' + ((0 : Nat) : Int) = p' from by omega, show wv_p (a_l6 g p' a') 0 = 0 from rfl] at w1
      rw [w1]
      exact wv_full (by omega) (fun k hk => by
        unfold a_l6
        rw [if_neg (by omega)])
    refine ⟨⟨rfl, rfl⟩, ?_⟩
    rcases t4 with ⟨r1, r2, r3⟩ | ⟨r1, r2, r3, r4⟩ | ⟨r1, r2, r3, r4⟩
    · rcases t3 with ⟨m, m1, m2, m3, m4⟩ | ⟨-, m1⟩
      · have hln : a' - p' ≤ 5 := by
          have := m2.1
          have hb : ∀ m : Fin 18, a_wln m.val ≤ 5 := by decide
          have := hb ⟨m, m1⟩
          have : a_wln m ≤ 5 := this
          omega
        refine Or.inr (Or.inl ⟨if_neg (by omega), Or.inl ⟨r2, ?_, ?_, ?_⟩⟩)
        · show a_find re_W (re_wv f n p' (n - p').toNat p' 0) 0 18 0 = v'
          rw [hw (by omega), r3, m4]
          exact find_hit ((wm_W m1 hl (by omega) (by omega)).mp m2).symm 18 0 (by omega) (by omega) (fun i _ q e => m3 i q ((wm_W (by omega) hl (by omega) (by omega)).mpr e.symm))
        · show 0 ≤ v'; omega
        · show v' < 18; omega
      · exact absurd m1 r1
    · exact Or.inr (Or.inr (Or.inr (Or.inr (Or.inr ⟨if_pos r2, r3⟩))))
    · rcases t3 with ⟨m, m1, m2, m3, m4⟩ | ⟨m0, -⟩
      · omega
      · refine Or.inr (Or.inl ⟨if_neg r2, Or.inr ⟨r3, ?_, ?_⟩⟩)
        · show a_find re_W (re_wv f n p' (n - p').toNat p' 0) 0 18 0 = -1
          rw [hw (by omega)]
          exact find_no 18 0 (fun i _ q e => m0 i (by omega) ((wm_W (by omega) hl (by omega) (by omega)).mpr e.symm))
        · show v' = re_wv f n p' (n - p').toNat p' 0
          rw [hw (by omega), r4]
          exact nm_v (fun k => by have := (hl k).1; omega)
  · have hlt : p' < n := by
      rcases tp_hr h hp0 with ⟨-, -, c⟩ | ⟨c, -⟩
      · rw [c] at t1; exact absurd t1 (by decide)
      · exact c
    have hd := of_decide_eq_true t1
    have hns : ¬ a_sl (a_hr f n p') = true := by
      rw [hq.2.1]
      intro c
      have := of_decide_eq_true c
      omega
    rw [if_neg (by omega), if_neg hns, if_pos (by rw [hq.2.2.1]; exact t1), tp_dg h hp0, ← t2]
    refine ⟨⟨rfl, rfl⟩, Or.inr (Or.inr (Or.inl ⟨rfl, t3, ?_⟩))⟩
    rw [t4]
    exact tp_dv h _ _ 0 0 hp0 (Or.inl ⟨rfl, by omega, by omega⟩)
  · have hlt : p' < n := by
      rcases tp_hr h hp0 with ⟨-, -, c⟩ | ⟨c, -⟩
      · exact absurd c t1
      · exact c
    rw [if_neg (by omega), if_neg (by rw [hq.2.1]; exact t2), if_neg (by rw [hq.2.2.1]; exact t3)]
    have hiff : (a_hr f n p' = 45 ∧ a_dg (a_hr f n (p' + 1)) = true) ↔ (a_hr g n p' = 45 ∧ a_dg (a_hr g n (p' + 1)) = true) := by rw [hq.2.2.2.2.1, (tp_q h (i := p' + 1) (by omega)).2.2.1]
    rcases t4 with ⟨u1, u2, u3, -⟩ | ⟨u1, u2, u3, u4⟩ | ⟨⟨u1, u1'⟩, u2, u3, -⟩
    · rw [if_neg (fun c => by have := (hiff.mp c).1; omega), u3]
      exact ⟨⟨rfl, rfl⟩, Or.inr (Or.inr (Or.inr (Or.inr (Or.inl ⟨if_pos (hq.2.2.2.1.mpr u1), u2⟩))))⟩
    · rw [if_pos (hiff.mpr u1), tp_dg h (i := p' + 1) (by omega), ← u3]
      refine ⟨⟨rfl, rfl⟩, Or.inr (Or.inr (Or.inr (Or.inl ⟨rfl, u2, ?_⟩)))⟩
      show vl_R (-(-(re_dv f n (n - (p' + 1)).toNat (p' + 1) 0))) (-v')
      rw [u4, Int.neg_neg, Int.neg_neg]
      exact tp_dv h _ _ 0 0 (by omega) (Or.inl ⟨rfl, by omega, by omega⟩)
    · rw [if_neg (fun c => u1' (hiff.mp c)), u3]
      exact ⟨⟨rfl, rfl⟩, Or.inr (Or.inr (Or.inr (Or.inr (Or.inr ⟨if_neg (fun c => u1 (hq.2.2.2.1.mp c)), u2⟩))))⟩
end TKK
