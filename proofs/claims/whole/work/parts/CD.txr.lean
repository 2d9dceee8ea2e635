/-! THE TIE: a text read from its beginning -/
/-- no fault behind it: none ahead of it, and the place is as it was -/
def ev_R (y y' : a_Q) : Prop := y'.1 = 0 → y.1 = 0 ∧ y'.2.1 = y.2.1
section TXR
variable {A B A' B' J J' J1 G : Nat → Nat → Int} {X M : Nat} {n : Int} {y y' y2 x x' : a_Q} {f : Nat → Int}
theorem ev_t (h : ev_R y y') (h2 : ev_R y' y2) : ev_R y y2 := fun q => ⟨(h (h2 q).1).1, (h2 q).2.trans (h (h2 q).1).2⟩
theorem ev_nt {m : Int} : ev_R y (re_nt f m y) := fun q => ⟨q, rfl⟩
theorem ev_rf {k : Int} (hk : k ≠ 0) : ev_R y (re_rf k y) := by
  unfold re_rf
  by_cases c : y.1 = 0
  · rw [if_pos c]; exact fun q => absurd q hk
  · rw [if_neg c]; exact fun q => ⟨q, rfl⟩
theorem ev_id : ev_R y y := fun q => ⟨q, rfl⟩
theorem ev_wi {lo hi : Int} : ev_R y (re_wi lo hi y).2 := by
  unfold re_wi
  split
  · exact ev_rf (by decide)
  · exact ev_id
theorem ev_nb {m lo hi r : Int} (h : (r, y') = re_nb f m lo hi y) : ev_R y y' := by
  have e : y' = (re_nb f m lo hi y).2 := congrArg (fun p : Int × a_Q => p.2) h
  rw [e]
  unfold re_nb
  split
  · exact ev_id
  · split
    · exact ev_t ev_nt (ev_rf (by decide))
    · exact ev_t ev_nt ev_wi
theorem ev_sn {m r : Int} (h : (r, y') = re_sn f m y) : ev_R y y' := by
  have e : y' = (re_sn f m y).2 := congrArg (fun p : Int × a_Q => p.2) h
  rw [e]
  unfold re_sn
  split
  · exact ev_id
  · split
    · exact ev_t ev_nt (ev_rf (by decide))
    · exact ev_t ev_nt ev_wi
theorem ev_ns {m : Int} : ev_R y (re_ns f m y) := by
  unfold re_ns
  split
  · exact ev_id
  · split
    · exact ev_t ev_nt (ev_rf (by decide))
    · exact ev_nt
theorem ev_line {ln a : Int} (h : rl_line J X ln a y J' y') : ev_R y y' := by
  rcases h with ⟨-, r, e, -⟩ | ⟨-, r, e, -⟩ | ⟨-, r, e, -⟩ | ⟨-, r, e, -⟩ | ⟨-, hb⟩ | ⟨-, hb⟩ | ⟨-, r1, r2, y1, e1, e2, -⟩ | ⟨-, hb⟩ | ⟨-, hb⟩ | ⟨-, hb⟩ | ⟨-, hb⟩ | ⟨-, r, e, -⟩
  · exact ev_nb e
  · exact ev_nb e
  · exact ev_nb e
  · exact ev_nb e
  · obtain ⟨r1, r2, r3, y1, y2, e1, e2, e3, -⟩ := hb
    exact ev_t (ev_nb e1) (ev_t (ev_nb e2) (ev_nb e3))
  · obtain ⟨r1, r2, y1, y2, y3, e1, e2, e3, e4, -⟩ := hb
    have q1 : ev_R y y1 := by rw [e1]; exact ev_nt
    have q2 : ev_R y1 y2 := by
      rw [e2]
      split
      · exact ev_rf (by decide)
      · split
        · exact ev_rf (by decide)
        · exact ev_id
    exact ev_t q1 (ev_t q2 (ev_t (ev_nb e3) (ev_nb e4)))
  · exact ev_t (ev_nb e1) (ev_nb e2)
  · obtain ⟨r1, r2, y1, e1, e2, -⟩ := hb
    exact ev_t (ev_nb e1) (ev_sn e2)
  · obtain ⟨r, y1, y2, e1, e2, e3, -⟩ := hb
    have q1 : ev_R y y1 := by rw [e1]; exact ev_nt
    have q2 : ev_R y1 y2 := by
      rw [e2]
      split
      · exact ev_rf (by decide)
      · exact ev_id
    exact ev_t q1 (ev_t q2 (ev_nb e3))
  · obtain ⟨r1, r2, y1, y2, e1, e2, e3, -⟩ := hb
    have q2 : ev_R y1 y2 := by
      rw [e2]
      split
      · exact ev_rf (by decide)
      · exact ev_id
    exact ev_t (ev_nb e1) (ev_t q2 (ev_nb e3))
  · obtain ⟨r1, r2, y1, y2, e1, e2, e3, -⟩ := hb
    have q2 : ev_R y2 y' := by
      rw [e3]
      split
      · exact ev_rf (by decide)
      · exact ev_id
    exact ev_t (ev_nb e1) (ev_t (ev_nb e2) q2)
  · exact ev_nb e
theorem ev_ms {t : Nat → Int} {ln : Int} : ev_R y (re_ms t ln y) := fun q => by
  have e := (re_ms_0 q).2.2
  rw [e] at q ⊢
  exact ⟨q, rfl⟩
theorem ev_rt : ∀ (m : Nat) (A : Nat → Nat → Int) (y : a_Q) (l : Int) {A' : Nat → Nat → Int} {y' : a_Q} {l' : Int}, rl_rt X m A y l A' y' l' → ev_R y y' := by
  intro m
  induction m with
  | zero =>
    intro A y l A' y' l' h
    rw [h.2.1]; exact ev_id
  | succ m ih =>
    intro A y l A' y' l' h
    rcases h with ⟨-, -, e, -⟩ | ⟨-, y1, e1, h⟩
    · rw [e]; exact ev_id
    · have q1 : ev_R y y1 := by rw [e1]; exact ev_ms
      rcases h with ⟨-, h⟩ | ⟨-, A1, y2, hl, h⟩
      · exact ev_t q1 (ev_t ev_nt (ih _ _ _ h))
      · exact ev_t q1 (ev_t (ev_line hl) (ev_t ev_ns (ev_t ev_nt (ih _ _ _ h))))
/-- a draft laid bare and nothing read -/
theorem rd_0 (v : A (X + 3) 0 = 16 ∧ A (X + 3) 1 = 6 ∧ A (X + 3) 2 = 2 ∧ A (X + 3) 3 = 4 ∧ A (X + 3) 4 = 0 ∧ A (X + 3) 5 = 0 ∧ A (X + 3) 6 = 1) (vr : ∀ i : Nat, i < 16 → A (X + 4) i = 6 ∧ A (X + 5) i = 0) (vt : ∀ i : Nat, i < 12 → A (X + 15) i = 0) (e2 : ∀ i : Nat, 13 ≤ i ∧ i < 26 → B (M + 2) i = a_dn i) (e3 : ∀ i : Nat, i < 18 → B (M + 3) i = 0) (e16 : ∀ i : Nat, i < 16 → B (M + 16) (16 + i) = 0) (e18 : B M 18 = 0) : rd_R A B X M := by
  obtain ⟨v0, v1, v2, v3, v4, v5, v6⟩ := v
  have d : ∀ i : Nat, 13 ≤ i ∧ i < 26 → ∀ c : Int, a_dn i = c → B (M + 2) i = c := fun i q c e => (e2 i q).trans e
  have k17 := d 17 (by omega) 0 rfl
  have k18 := d 18 (by omega) 0 rfl
  have k19 := d 19 (by omega) 0 rfl
  have k20 := d 20 (by omega) 0 rfl
  have k24 := d 24 (by omega) 0 rfl
  have k25 := d 25 (by omega) 0 rfl
  refine ⟨⟨⟨?_, ?_, ?_, ?_⟩, ?_, ?_, ?_⟩, ⟨⟨?_, ?_, ?_, ?_, ?_, ?_⟩, fun w q => ?_, fun w q => ?_, ?_⟩, fun i hi => ?_, fun i hi => ?_, fun i j _ hj => ?_, fun i hi => ?_, fun i hi => ?_, fun i hi => ?_, fun i hi => ?_⟩
  · rw [v0, d 13 (by omega) 16 rfl]
  · rw [v1, d 14 (by omega) 6 rfl]
  · rw [v2, d 15 (by omega) 2 rfl]
  · rw [v3, d 16 (by omega) 4 rfl]
  · rw [v4, d 21 (by omega) 0 rfl]
  · rw [v5, d 22 (by omega) 0 rfl]
  · rw [v6, d 23 (by omega) 1 rfl]
  · rw [vt 5 (by omega), k17]
  · rw [vt 8 (by omega), k18]
  · rw [vt 7 (by omega), k19]
  · rw [vt 4 (by omega), k20]
  · rw [vt 10 (by omega), k24]
  · rw [vt 9 (by omega), k25]
  · rw [vt w (by omega), e3 w (by omega)]; exact ⟨rfl, Or.inl rfl⟩
  · rw [vt w q]; omega
  · rw [e18]
    unfold re_bg
    rw [vt 4 (by omega), vt 5 (by omega), vt 6 (by omega), vt 7 (by omega), vt 8 (by omega), vt 9 (by omega), vt 10 (by omega)]
    exact ⟨fun q => absurd rfl q, fun q => absurd q (by decide)⟩
  · omega
  · omega
  · omega
  · omega
  · omega
  · rw [(vr i hi).2, e16 i hi]
  · rw [(vr i hi).1, k20]; rfl
theorem md_f0_2 {i : Nat} (hi : 13 ≤ i ∧ i < 26) : md_f0 J M (M + 2) i = a_dn i := by
  unfold md_f0 md_f2 md_f1 a_dn
  rw [m_up_at, if_neg (by omega), m_fl_o (by omega), m_fl_o (by omega)]
  simp only [m_up, m_fl, true_and]
  repeat' split
  all_goals first | rfl | omega
theorem md_f0_3 {i : Nat} (hi : i < 18) : md_f0 J M (M + 3) i = 0 := by
  unfold md_f0 md_f2
  rw [m_up_at, if_neg (by omega), m_fl_o (by omega), m_fl_i (by omega)]
theorem md_f0_16 {i : Nat} (hi : i < 16) : md_f0 J M (M + 16) (16 + i) = 0 := by
  unfold md_f0
  rw [m_up_at, if_neg (by omega), m_fl_i (by omega)]
theorem md_f0_18 : md_f0 J M M 18 = 0 := m_up_same
theorem dr_rd (h : dr_b B M) : rd_b B M := ⟨h.1, fun i hi => h.2.1 10 (by omega) (by omega) i (by show i < 16; exact hi)⟩
/-- both at the beginning of a text -/
theorem rd_S0 (hn : 0 ≤ n ∧ n ≤ 700) (htp : tp_R (J (X + 2)) (G (M + 1)) n) (hW : ∀ i : Nat, i < 18 → J (X + 16) i = re_W i) (hr : dr_r G M) {x1 : a_Q} {p0 s0 v0 g0 : Int} (hg : s_go (G (M + 1)) n (0, p0, s0, v0, 0, g0) x1) : rd_S (re_r0 J X n) (md_r0 G M n) X M n (re_nt (J (X + 2)) n (0, -1, 0, 0, 0, 0)) x1 := by
  obtain ⟨v, vr, vt, vo⟩ := pl_cl_v (J := J) (A := X + 3)
  have o1 : ∀ b i, b ≠ X + 1 → re_r0 J X n b i = pl_cl J (X + 3) b i := fun b i q => by unfold re_r0; rw [m_up_o q, m_up_o q]
  have ff := md_f0_f (m_up (m_up G M 20 n) M 19 0) M
  have m1 : md_r0 G M n (M + 1) = G (M + 1) := by
    unfold md_r0
    rw [ff.t]
    exact funext (fun i => by rw [m_up_z (by omega), m_up_z (by omega)])
  have m20 : md_r0 G M n M 20 = n := by
    unfold md_r0
    rw [ff.z, m_up_z (by omega), m_up_e]
  have hr2 : dr_r (m_up (m_up G M 20 n) M 19 0) M := fun k q1 q2 i hi => by
    rw [m_up_z (by omega), m_up_z (by omega)]; exact hr k q1 q2 i hi
  rcases hg with ⟨-, g1, g2, g3⟩ | ⟨g1, -⟩
  · refine ⟨⟨⟨rfl, g2⟩, tok_tie htp (a := 0) ⟨by omega, hn.1⟩ rfl g1, s_tok_b ⟨by omega, hn.1⟩ g1⟩, rd_0 ?_ (fun i hi => ?_) (fun i hi => ?_) (fun i hi => md_f0_2 hi) (fun i hi => md_f0_3 hi) (fun i hi => md_f0_16 hi) md_f0_18, dr_rd (md_f0_b hr2), ?_, ⟨?_, m20⟩, fun i hi => ?_⟩
    · rw [o1 _ _ (by omega), o1 _ _ (by omega), o1 _ _ (by omega), o1 _ _ (by omega), o1 _ _ (by omega), o1 _ _ (by omega), o1 _ _ (by omega)]; exact v
    · rw [o1 _ _ (by omega), o1 _ _ (by omega)]; exact vr i hi
    · rw [o1 _ _ (by omega)]; exact vt i hi
    · rw [m1, show re_r0 J X n (X + 2) = J (X + 2) from funext (fun i => by rw [o1 _ _ (by omega), vo _ _ (by omega) (by omega) (by omega) (by omega)])]
      exact htp
    · unfold re_r0; rw [m_up_z (by omega), m_up_e]
    · rw [o1 _ _ (by omega), vo _ _ (by omega) (by omega) (by omega) (by omega)]; exact hW i hi
  · exact absurd rfl g1
/-- what both have found behind a text -/
theorem tx_tie (hn : 0 ≤ n ∧ n ≤ 700) (htp : tp_R (J (X + 2)) (G (M + 1)) n) (hW : ∀ i : Nat, i < 18 → J (X + 16) i = re_W i) (hr : dr_r G M) (ht : a_tpb (G (M + 1)) n) {x1 : a_Q} {p0 s0 v0 g0 : Int} (hg : s_go (G (M + 1)) n (0, p0, s0, v0, 0, g0) x1) {l : Int} (hc : rl_rt X 700 (re_r0 J X n) (re_nt (J (X + 2)) n (0, -1, 0, 0, 0, 0)) 0 J1 y l) (hs : s_rt M 701 (md_r0 G M n) x1 B' x') :
    rs_F y x' ∨ (((rd_R J1 B' X M ∧ rd_b B' M) ∧ l = B' M 19) ∧ (y.1 = 0 ∧ x'.2.2.2.2.1 = 0) ∧ y.2.1 = -1) := by
  have h0 := rd_S0 hn htp hW hr hg
  have hm := s_go_m ht hg (by show (0 : Int) ≤ 0 ∧ (0 : Int) ≤ n; omega)
  have ff := md_f0_f (m_up (m_up G M 20 n) M 19 0) M
  have m1 : md_r0 G M n (M + 1) = G (M + 1) := by
    unfold md_r0
    rw [ff.t]
    exact funext (fun i => by rw [m_up_z (by omega), m_up_z (by omega)])
  have m19 : md_r0 G M n M 19 = 0 := by
    unfold md_r0 md_f0 md_f2 md_f1
    rw [m_up_z (by omega), m_fl_o (by omega), m_fl_o (by omega), m_up_z (by omega), m_up_z (by omega), m_up_z (by omega), m_up_z (by omega), m_up_z (by omega), m_fl_o (by omega), m_up_e]
  have hm2 : x1.2.2.2.2.1 = 0 ∧ x1.2.2.1 ≠ 5 → n - x1.1 < 700 := fun q => by
    have : (0 : Int) < x1.1 := hm.2 q.1 q.2
    omega
  obtain ⟨r1, r2⟩ := rt_tie (M := M) (X := X) ht 700 701 _ _ _ _ 0 m1 (Or.inr h0) hm2 hc hs (fun q => by have := hm2 q; omega)
  rcases r1 with r1 | ⟨r1, -⟩
  · exact Or.inl r1
  · right
    have e := r1.1.1
    have e19 := r2 e.1
    rw [m19] at e19
    exact ⟨⟨⟨r1.2.1, r1.2.2.1⟩, by omega⟩, e, (ev_rt 700 _ _ _ hc e.1).2⟩
end TXR
