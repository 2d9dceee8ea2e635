/-! flow of the reference -/
theorem s_stl_bd {C : a_C} {n c : Int} (h : s_stl C n c) : 0 ≤ c ∧ c < 9 := by
  rcases h with ⟨-, h⟩ | ⟨-, h⟩
  · omega
  · exact h.1
theorem s_stl_u {C : a_C} {n c c' : Int} (h : s_stl C n c) (h' : s_stl C n c') : c = c' := by
  rcases h with ⟨a, b⟩ | ⟨a, b⟩ <;> rcases h' with ⟨a', b'⟩ | ⟨a', b'⟩
  · omega
  · exact absurd a' a
  · exact absurd a a'
  · exact s_first_u b b'
theorem s_cod_bd {C : a_C} {o n c : Int} (h : s_cod C o n c) : 0 ≤ c ∧ c < 9 := by
  unfold s_cod at h
  split at h
  · omega
  · split at h
    · omega
    · split at h
      · omega
      · split at h
        · omega
        · split at h
          · omega
          · exact s_stl_bd h
theorem s_cod_u {C : a_C} {o n c c' : Int} (h : s_cod C o n c) (h' : s_cod C o n c') : c = c' := by
  unfold s_cod at h h'
  by_cases h1 : o = 12
  · rw [if_pos h1] at h h'; omega
  · rw [if_neg h1] at h h'
    by_cases h2 : o = 13
    · rw [if_pos h2] at h h'; omega
    · rw [if_neg h2] at h h'
      by_cases h3 : o = 14
      · rw [if_pos h3] at h h'; omega
      · rw [if_neg h3] at h h'
        by_cases h4 : o = 15
        · rw [if_pos h4] at h h'; omega
        · rw [if_neg h4] at h h'
          by_cases h5 : o = 16
          · rw [if_pos h5] at h h'; omega
          · rw [if_neg h5] at h h'
            exact s_stl_u h h'
/-- the numbers behind a tick of the flow: how far it has come -/
def md_fo1 (J : Nat → Nat → Int) (M : Nat) : Nat → Nat → Int := m_up (m_up J (M + 22) 4 (J (M + 22) 4 + 1)) (M + 22) 3 (J (M + 22) 3 + 1)
def md_fo2 (J : Nat → Nat → Int) (M : Nat) : Nat → Nat → Int := if J (M + 22) 3 + 1 = J (M + 13) (J (M + 22) 2).toNat then m_up (m_up (md_fo1 J M) (M + 22) 3 0) (M + 22) 2 (J (M + 22) 2 + 1) else md_fo1 J M
def a_fo (r : Nat → Int) (tm : Int) (i : Nat) : Int := if i = 4 then r 4 + 1 else if i = 3 then (if r 3 + 1 = tm then 0 else r 3 + 1) else if i = 2 then (if r 3 + 1 = tm then r 2 + 1 else r 2) else r i
section FLO
variable {J J1 : Nat → Nat → Int} {M : Nat}
theorem md_fo2_o (J : Nat → Nat → Int) (M : Nat) {b i : Nat} (h : b ≠ M + 22) : md_fo2 J M b i = J b i := by
  unfold md_fo2 md_fo1
  split
  · rw [m_up_at, if_neg (fun q => h q.1), m_up_at, if_neg (fun q => h q.1), m_up_at, if_neg (fun q => h q.1), m_up_at, if_neg (fun q => h q.1)]
  · rw [m_up_at, if_neg (fun q => h q.1), m_up_at, if_neg (fun q => h q.1)]
theorem md_fo2_22 (J : Nat → Nat → Int) (M : Nat) (i : Nat) : md_fo2 J M (M + 22) i = a_fo (J (M + 22)) (J (M + 13) (J (M + 22) 2).toNat) i := by
  unfold md_fo2 md_fo1 a_fo
  by_cases q : J (M + 22) 3 + 1 = J (M + 13) (J (M + 22) 2).toNat
  · rw [if_pos q, if_pos q, if_pos q]
    by_cases h4 : i = 4
    · subst h4
      simp [m_up]
    · by_cases h3 : i = 3
      · subst h3
        simp [m_up]
      · by_cases h2 : i = 2
        · subst h2
          simp [m_up]
        · simp [m_up, h2, h3, h4]
  · rw [if_neg q, if_neg q, if_neg q]
    by_cases h4 : i = 4
    · subst h4
      simp [m_up]
    · by_cases h3 : i = 3
      · subst h3
        simp [m_up]
      · by_cases h2 : i = 2
        · subst h2
          simp [m_up]
        · simp [m_up, h2, h3, h4]
/-- a tick of the flow -/
def md_ft (J : Nat → Nat → Int) (M : Nat) (c : Int) : Nat → Nat → Int := md_fo2 (md_tik J M c) M
theorem md_ft_22 (J : Nat → Nat → Int) (M : Nat) (c : Int) (i : Nat) : md_ft J M c (M + 22) i = a_fo (a_tik (J (M + 22)) c (a_no (md_sg J M c))) (J (M + 13) (J (M + 22) 2).toNat) i := by
  have er : md_tik J M c (M + 22) = a_tik (J (M + 22)) c (a_no (md_sg J M c)) := funext (md_tik_22 J M c)
  have e2 : a_tik (J (M + 22)) c (a_no (md_sg J M c)) 2 = J (M + 22) 2 := by simp [a_tik]
  unfold md_ft
  rw [md_fo2_22, er, md_tik_o J M c (by omega) (by omega) (by omega), e2]
theorem md_row_fo {r : Nat → Int} (h : md_row r) (h1 : r 1 ≠ 9999) (h2 : r 2 < 16) {c n tm : Int} (hn : 0 ≤ n ∧ n < 38880) : md_row (a_fo (a_tik r c n) tm) := by
  have ht := md_row_tik (c := c) h h1 hn
  have e1 : a_tik r c n 1 = r 1 + 1 := by simp [a_tik]
  have e2 : a_tik r c n 2 = r 2 := by simp [a_tik]
  have e3 : a_tik r c n 3 = r 3 := by simp [a_tik]
  have e4 : a_tik r c n 4 = r 4 := by simp [a_tik]
  obtain ⟨g0, g1, g2, g3, g5, g6, g7, g8⟩ := ht
  have k3 := h.2.2.2.1
  have k1 := h.2.1
  have e : ∀ i : Nat, i < 2 ∨ 4 < i → a_fo (a_tik r c n) tm i = a_tik r c n i := fun i hi => by
    unfold a_fo
    rw [if_neg (by omega), if_neg (by omega), if_neg (by omega)]
  have f2 : a_fo (a_tik r c n) tm 2 = if r 3 + 1 = tm then r 2 + 1 else r 2 := by simp [a_fo, e3, e2]
  have f3 : a_fo (a_tik r c n) tm 3 = if r 3 + 1 = tm then 0 else r 3 + 1 := by simp [a_fo, e3]
  have f4 : a_fo (a_tik r c n) tm 4 = r 4 + 1 := by simp [a_fo, e4]
  have k2 := h.2.2.1
  unfold md_row
  rw [e 0 (by omega), e 1 (by omega), e 5 (by omega), e 6 (by omega), f2, f3, f4]
  refine ⟨g0, g1, by split <;> omega, by rw [e1]; split <;> omega, g5, g6, fun i hi => by rw [e (7 + i) (by omega)]; exact g7 i hi, fun i hi => ?_⟩
  by_cases q : i < 2 ∨ 4 < i
  · rw [e i q]
    exact g8 i hi
  · rcases (show i = 2 ∨ i = 3 ∨ i = 4 by omega) with rfl | rfl | rfl
    · rw [f2]; split <;> omega
    · rw [f3]; split <;> omega
    · rw [f4]; omega
theorem md_inv.ft (h : md_inv J M) {c : Int} (ht : md_tok J M c) (h2 : J (M + 22) 2 < J (M + 2) 5) : md_inv (md_ft J M c) M := by
  have er : md_ft J M c (M + 22) = a_fo (a_tik (J (M + 22)) c (a_no (md_sg J M c))) (J (M + 13) (J (M + 22) 2).toNat) := funext (md_ft_22 J M c)
  have h5 := h.pl.2.2.2.2.2.1
  have o : ∀ b i, b ≠ M + 22 → md_ft J M c b i = md_tik J M c b i := fun b i q => md_fo2_o _ M q
  refine h.gen (fun b i a1 a2 a3 => (o b i a2).trans (md_tik_o J M c a1 a2 a3)) (fun i a1 a2 a3 => (o M i (by omega)).trans (md_tik_M J M c a1 a2)) (md_kr_rem h.kr h.row ((o M 45 (by omega)).trans (md_tik_45 J M c)) ((o M 46 (by omega)).trans (md_tik_M J M c (by omega) (by omega))) (fun i => (o _ i (by omega)).trans (md_tik_23 c h.hu i))) ?_ ?_ (fun i hi => ?_)
  · rw [er]
    exact md_row_fo h.row ht.1 (by omega) (md_sg_bd h ht)
  · rw [er]
    simp [a_tik, a_fo]
  · rw [er]
    unfold a_fo a_tik
    rw [if_neg (by omega), if_neg (by omega), if_neg (by omega), if_neg (by omega), if_neg (by omega), if_neg (by omega), if_neg (by omega), if_neg (by omega), if_neg (by omega), if_neg (by omega)]
/-! the same of heaps that differ in what a search writes -/
theorem md_fx.wd (h : md_fx J J1 M) (t : Int) : md_wd J1 M t = md_wd J M t := by
  have e : ∀ k, 0 < k → k ≠ 20 → k ≠ 21 → J1 (M + k) = J (M + k) := fun k a b c => funext (fun i => h _ _ (by omega) (by omega) (by omega))
  unfold md_wd
  rw [e 10 (by omega) (by omega) (by omega), e 11 (by omega) (by omega) (by omega), e 2 (by omega) (by omega) (by omega)]
theorem md_fx.sg (h : md_fx J J1 M) (c : Int) : md_sg J1 M c = md_sg J M c := by
  have e22 : J1 (M + 22) = J (M + 22) := funext (fun i => h _ _ (by omega) (by omega) (by omega))
  unfold md_sg
  rw [h.wd, e22]
theorem md_fx.tok (h : md_fx J J1 M) (c : Int) : md_tok J1 M c ↔ md_tok J M c := by
  have e22 : J1 (M + 22) = J (M + 22) := funext (fun i => h _ _ (by omega) (by omega) (by omega))
  unfold md_tok
  rw [h.sg, h.cf, e22]
theorem md_fx.tik (h : md_fx J J1 M) (c : Int) (hu : 0 ≤ J M 45 ∧ J M 45 ≤ 30) : md_fx (md_tik J M c) (md_tik J1 M c) M := by
  have e : ∀ k, 0 < k → k ≠ 20 → k ≠ 21 → J1 (M + k) = J (M + k) := fun k a b c => funext (fun i => h _ _ (by omega) (by omega) (by omega))
  have e45 : J1 M 45 = J M 45 := h M 45 (by omega) (by omega) (by omega)
  intro b i a1 a2 a3
  by_cases hb : b = M
  · subst hb
    by_cases hi : i = 45
    · subst hi
      rw [md_tik_45, md_tik_45, e45]
    · rw [md_tik_M J1 b c (by omega) hi, md_tik_M J b c (by omega) hi]
      exact h b i a1 a2 a3
  · by_cases hb2 : b = M + 22
    · subst hb2
      rw [md_tik_22, md_tik_22, h.sg, e 22 (by omega) (by omega) (by omega)]
    · by_cases hb3 : b = M + 23
      · subst hb3
        rw [md_tik_23 c hu, md_tik_23 c (by rw [e45]; exact hu)]
        exact md_rem_c e45 (e 22 (by omega) (by omega) (by omega)) (e 23 (by omega) (by omega) (by omega)) hu i
      · rw [md_tik_o J1 M c hb hb2 hb3, md_tik_o J M c hb hb2 hb3]
        exact h b i a1 a2 a3
theorem md_fx.ft (h : md_fx J J1 M) (c : Int) (hu : 0 ≤ J M 45 ∧ J M 45 ≤ 30) : md_fx (md_ft J M c) (md_ft J1 M c) M := by
  have e : ∀ k, 0 < k → k ≠ 20 → k ≠ 21 → J1 (M + k) = J (M + k) := fun k a b c => funext (fun i => h _ _ (by omega) (by omega) (by omega))
  intro b i a1 a2 a3
  by_cases hb2 : b = M + 22
  · subst hb2
    rw [md_ft_22, md_ft_22, h.sg, e 22 (by omega) (by omega) (by omega), e 13 (by omega) (by omega) (by omega)]
  · unfold md_ft
    rw [md_fo2_o _ _ hb2, md_fo2_o _ _ hb2]
    exact h.tik c hu b i a1 a2 a3
/-- whether the flow goes on by a code -/
def md_go (J : Nat → Nat → Int) (M : Nat) (c : Int) : Prop := J (M + 22) 2 < J (M + 2) 5 ∧ s_cod (md_cf J M) (J (M + 12) (J (M + 22) 2).toNat) (J (M + 22) 0) c ∧ md_tok J M c
/-- the flow, so many ticks at most: how many, and the numbers then -/
def md_flw (M : Nat) : Nat → (Nat → Nat → Int) → Int → (Nat → Nat → Int) → Prop
  | 0, J, r, J' => r = 0 ∧ J' = J
  | n + 1, J, r, J' => (∃ c, md_go J M c ∧ md_flw M n (md_ft J M c) (r - 1) J') ∨ ((∀ c, ¬ md_go J M c) ∧ r = 0 ∧ J' = J)
theorem md_fx.go (h : md_fx J J1 M) (c : Int) : md_go J1 M c ↔ md_go J M c := by
  have e : ∀ k, 0 < k → k ≠ 20 → k ≠ 21 → J1 (M + k) = J (M + k) := fun k a b c => funext (fun i => h _ _ (by omega) (by omega) (by omega))
  unfold md_go
  rw [h.tok, h.cf, e 22 (by omega) (by omega) (by omega), e 2 (by omega) (by omega) (by omega), e 12 (by omega) (by omega) (by omega)]
end FLO
section MDF
variable {en : Nat → Nat} {d : Nat} {T : Nat → Option (Nat × Nat)} {J J0 J1 : Nat → Nat → Int} {P : Nat → Nat → Option Nat} {L : Nat → Nat → Int64} {z w M : Nat} {Q : m_Q} {σ : a_S}
theorem l_Md_flow (hM : md_sh en M T P) {n : Int} (hn : 1 ≤ n ∧ n ≤ 40) :
    ∀ (m : Nat) (many : Int) (J J1 : Nat → Nat → Int), many + m = n → 0 ≤ many → md_fx J J1 M → md_inv J1 M → (∀ r Jx J2, md_flw M m J r Jx → md_fx Jx J2 M → md_inv J2 M → Q (some (.int (m_i (many + r)))) (T, m_I J2, P, L, z, w)) → m_wp en (d + 9) mMd_flow 20 [some (.ref M), some (.int (m_i n)), some (.int (m_i many))] [] (T, m_I J1, P, L, z, w) Q := by
  intro m
  induction m with
  | zero =>
    intro many J J1 hm h0 hfx hinv hq
    have hq2 := hq 0 J J1 ⟨rfl, rfl⟩ hfx hinv
    rw [Int.add_zero] at hq2
    refine r_iln eMd_flow_20 rfl ?_
    refine r_iln eMd_flow_21 rfl ?_
    refine r_cge (tgt := 125) eMd_flow_22 rfl ⟨(by omega), (by omega)⟩ ⟨(by omega), (by omega)⟩ (fun c22 => ?_) (fun c22 => ?_)
    · refine r_iln eMd_flow_125 rfl ?_
      refine r_iret eMd_flow_126 rfl ?_
      exact hq2
    · exfalso; omega
  | succ m ih =>
    intro many J J1 hm h0 hfx hinv hq
    have hr2 := hinv.row.2.2.1
    have hn5 := hinv.pl.2.2.2.2.2.1
    have hu : 0 ≤ J M 45 ∧ J M 45 ≤ 30 := by rw [← hfx M 45 (by omega) (by omega) (by omega)]; exact hinv.hu
    refine r_iln eMd_flow_20 rfl ?_
    refine r_iln eMd_flow_21 rfl ?_
    refine r_cge (tgt := 125) eMd_flow_22 rfl ⟨(by omega), (by omega)⟩ ⟨(by omega), (by omega)⟩ (fun c22 => ?_) (fun c22 => ?_)
    · refine r_iln eMd_flow_125 rfl ?_
      refine r_iret eMd_flow_126 rfl ?_
      first | (exfalso; omega) | (have hq2 := hq 0 J _ (Or.inr ⟨fun c' g => by have := ((hfx.go c').2 g).1; omega, rfl, rfl⟩) hfx hinv; rw [Int.add_zero] at hq2; exact hq2) | (have hq2 := hq 0 J _ (Or.inr ⟨fun c' g => hA (hgo c' g), rfl, rfl⟩) ((hfx.trans hfx2).put σ') (hinv2.put σ'); rw [Int.add_zero] at hq2; exact hq2)
    · refine r_aln eMd_flow_25 rfl ?_
      refine m_getR eMd_flow_26 rfl hM.2.1 (md_s_p hM) ?_
      refine r_con eMd_flow_29 ?_
      refine r_ialde (x := J1 (M + 22) 2) eMd_flow_30 (md_s_t hM) (by decide) (by omega) (by omega) rfl ?_
      refine r_aln eMd_flow_31 rfl ?_
      refine m_getR eMd_flow_32 rfl hM.2.1 (md_number_p hM) ?_
      refine r_con eMd_flow_35 ?_
      refine r_ialde (x := J1 (M + 2) 5) eMd_flow_36 (md_number_t hM) (by decide) (by omega) (by omega) rfl ?_
      refine r_cge (tgt := 125) eMd_flow_37 rfl ⟨(by omega), (by omega)⟩ ⟨(by omega), (by omega)⟩ (fun c37 => ?_) (fun c37 => ?_)
      · refine r_iln eMd_flow_125 rfl ?_
        refine r_iret eMd_flow_126 rfl ?_
        first | (exfalso; omega) | (have hq2 := hq 0 J _ (Or.inr ⟨fun c' g => by have := ((hfx.go c').2 g).1; omega, rfl, rfl⟩) hfx hinv; rw [Int.add_zero] at hq2; exact hq2) | (have hq2 := hq 0 J _ (Or.inr ⟨fun c' g => hA (hgo c' g), rfl, rfl⟩) ((hfx.trans hfx2).put σ') (hinv2.put σ'); rw [Int.add_zero] at hq2; exact hq2)
      · refine r_aln eMd_flow_40 rfl ?_
        refine r_aln eMd_flow_41 rfl ?_
        refine r_aln eMd_flow_42 rfl ?_
        refine m_getR eMd_flow_43 rfl hM.2.1 (md_order_p hM) ?_
        refine r_aln eMd_flow_46 rfl ?_
        refine m_getR eMd_flow_47 rfl hM.2.1 (md_s_p hM) ?_
        refine r_con eMd_flow_50 ?_
        refine r_ialde (x := J1 (M + 22) 2) eMd_flow_51 (md_s_t hM) (by decide) (by omega) (by omega) rfl ?_
        refine r_ialde (x := J1 (M + 12) ((J1 (M + 22) 2).toNat)) eMd_flow_52 (md_order_t hM) (by decide) (by omega) (by omega) rfl ?_
        refine r_vir eMd_flow_53 rfl rfl rfl hM.2.1 rfl rfl ?_
        refine c_Md_codeOf hM hinv.ok hinv.hkp hinv.hs (hinv.hor _ (by omega)).1 (fun J2 c hfx2 hkp2 hcod => ?_)
        · have hinv2 := hinv.fx hfx2 hkp2
          have hc9 := s_cod_bd hcod
          have hgo : ∀ c', md_go J M c' → md_tok J2 M c := fun c' g => by have g1 := (hfx.go c').2 g; rw [s_cod_u hcod g1.2.1]; exact (hfx2.tok c').2 g1.2.2
          show m_wp en _ mMd_flow 56 [some (.ref M), some (.int (m_i (n))), some (.int (m_i (many)))] [(.int (m_i (c))), (.ref M)] (T, m_I J2, P, L, z, w) Q
          refine r_vir eMd_flow_56 rfl rfl rfl hM.2.1 rfl rfl ?_
          refine c_Md_ticks hM hinv2.ok hinv2.hwn hinv2.hwb hinv2.hwv hinv2.ht hinv2.hs hinv2.hu hinv2.h6 hc9 (fun hA σ' => ?_) (fun hA => ?_)
          · show m_wp en _ mMd_flow 59 [some (.ref M), some (.int (m_i (n))), some (.int (m_i (many)))] [(.int (m_i (0)))] (T, m_I ((md_put J2 M σ')), P, L, z, w) Q
            refine r_zeq (tgt := 125) eMd_flow_59 rfl ⟨(by omega), (by omega)⟩ (fun c59 => ?_) (fun c59 => ?_)
            · refine r_iln eMd_flow_125 rfl ?_
              refine r_iret eMd_flow_126 rfl ?_
              first | (exfalso; omega) | (have hq2 := hq 0 J _ (Or.inr ⟨fun c' g => by have := ((hfx.go c').2 g).1; omega, rfl, rfl⟩) hfx hinv; rw [Int.add_zero] at hq2; exact hq2) | (have hq2 := hq 0 J _ (Or.inr ⟨fun c' g => hA (hgo c' g), rfl, rfl⟩) ((hfx.trans hfx2).put σ') (hinv2.put σ'); rw [Int.add_zero] at hq2; exact hq2)
            · exfalso; omega
          · have hinv3 := hinv2.tik hA
            have hg : md_go J M c := (hfx.go c).1 ⟨by omega, hcod, (hfx2.tok c).1 hA⟩
            have hb2 := hinv3.row.2.2.1
            have hb3 := hinv3.row.2.2.2.1
            have hb1 := hinv3.ht
            have hb13 := hinv3.hor (md_tik J2 M c (M + 22) 2).toNat (by omega)
            show m_wp en _ mMd_flow 59 [some (.ref M), some (.int (m_i (n))), some (.int (m_i (many)))] [(.int (m_i (1)))] (T, m_I ((md_tik J2 M (c))), P, L, z, w) Q
            refine r_zeq (tgt := 125) eMd_flow_59 rfl ⟨(by omega), (by omega)⟩ (fun c59 => ?_) (fun c59 => ?_)
            · exfalso; omega
            · refine r_inc (ls' := [some (.ref M), some (.int (m_i (n))), some (.int (m_i (many + 1)))]) eMd_flow_62 rfl rfl ?_
              refine r_aln eMd_flow_65 rfl ?_
              refine m_getR eMd_flow_66 rfl hM.2.1 (md_s_p hM) ?_
              refine r_con eMd_flow_69 ?_
              refine r_dup2 eMd_flow_70 ?_
              refine r_ialde (x := (md_tik J2 M (c)) (M + 22) 4) eMd_flow_71 (md_s_t hM) (by decide) (by omega) (by omega) rfl ?_
              refine r_con eMd_flow_72 ?_
              refine r_add eMd_flow_73 ?_
              refine r_iast eMd_flow_74 (md_s_t hM) (by decide) (by omega) (by omega) (md_b hM 22) ?_
              refine r_aln eMd_flow_75 rfl ?_
              refine m_getR eMd_flow_76 rfl hM.2.1 (md_s_p hM) ?_
              refine r_con eMd_flow_79 ?_
              refine r_dup2 eMd_flow_80 ?_
              refine r_ialde (x := (md_tik J2 M (c)) (M + 22) 3) eMd_flow_81 (md_s_t hM) (by decide) (by omega) (by omega) (by simp [m_up, md_put_at, m_fl]) ?_
              refine r_con eMd_flow_82 ?_
              refine r_add eMd_flow_83 ?_
              refine r_iast eMd_flow_84 (md_s_t hM) (by decide) (by omega) (by omega) (md_b hM 22) ?_
              refine r_aln eMd_flow_85 rfl ?_
              refine m_getR eMd_flow_86 rfl hM.2.1 (md_s_p hM) ?_
              refine r_con eMd_flow_89 ?_
              refine r_ialde (x := ((md_tik J2 M (c)) (M + 22) 3) + (1)) eMd_flow_90 (md_s_t hM) (by decide) (by omega) (by omega) (by simp [m_up]) ?_
              refine r_aln eMd_flow_91 rfl ?_
              refine m_getR eMd_flow_92 rfl hM.2.1 (md_orderTimes_p hM) ?_
              refine r_aln eMd_flow_95 rfl ?_
              refine m_getR eMd_flow_96 rfl hM.2.1 (md_s_p hM) ?_
              refine r_con eMd_flow_99 ?_
              refine r_ialde (x := (md_tik J2 M (c)) (M + 22) 2) eMd_flow_100 (md_s_t hM) (by decide) (by omega) (by omega) (by simp [m_up, md_put_at, m_fl]) ?_
              refine r_ialde (x := (md_tik J2 M (c)) (M + 13) (((md_tik J2 M (c)) (M + 22) 2).toNat)) eMd_flow_101 (md_orderTimes_t hM) (by decide) (by omega) (by omega) (by simp [m_up, md_put_at, m_fl]) ?_
              refine r_cne (tgt := 20) eMd_flow_102 rfl ⟨(by omega), (by omega)⟩ ⟨(by omega), (by omega)⟩ (fun c102 => ?_) (fun c102 => ?_)
              · first | (have hfo : md_ft J2 M c = ((m_up (m_up (md_tik J2 M (c)) (M + 22) 4 (((md_tik J2 M (c)) (M + 22) 4) + (1))) (M + 22) 3 (((md_tik J2 M (c)) (M + 22) 3) + (1)))) := if_pos c102) | (have hfo : md_ft J2 M c = ((m_up (m_up (md_tik J2 M (c)) (M + 22) 4 (((md_tik J2 M (c)) (M + 22) 4) + (1))) (M + 22) 3 (((md_tik J2 M (c)) (M + 22) 3) + (1)))) := if_neg c102)
                have key := ih (many + 1) (md_ft J M c) (md_ft J2 M c) (by omega) (by omega) ((hfx.trans hfx2).ft c hu) (hinv2.ft hA (by rw [hfx2 (M + 22) 2 (by omega) (by omega) (by omega), hfx2 (M + 2) 5 (by omega) (by omega) (by omega)]; omega)) (fun r Jx J3 a1 a2 a3 => by rw [show many + 1 + r = many + (r + 1) by omega]; exact hq (r + 1) Jx J3 (Or.inl ⟨c, hg, by rw [Int.add_sub_cancel]; exact a1⟩) a2 a3)
                rw [hfo] at key
                exact key
              · refine r_aln eMd_flow_105 rfl ?_
                refine m_getR eMd_flow_106 rfl hM.2.1 (md_s_p hM) ?_
                refine r_con eMd_flow_109 ?_
                refine r_con eMd_flow_110 ?_
                refine r_iast eMd_flow_111 (md_s_t hM) (by decide) (by omega) (by omega) (md_b hM 22) ?_
                refine r_aln eMd_flow_112 rfl ?_
                refine m_getR eMd_flow_113 rfl hM.2.1 (md_s_p hM) ?_
                refine r_con eMd_flow_116 ?_
                refine r_dup2 eMd_flow_117 ?_
                refine r_ialde (x := (md_tik J2 M (c)) (M + 22) 2) eMd_flow_118 (md_s_t hM) (by decide) (by omega) (by omega) (by simp [m_up, md_put_at, m_fl]) ?_
                refine r_con eMd_flow_119 ?_
                refine r_add eMd_flow_120 ?_
                refine r_iast eMd_flow_121 (md_s_t hM) (by decide) (by omega) (by omega) (md_b hM 22) ?_
                refine r_go (tgt := 20) eMd_flow_122 rfl ?_
                first | (have hfo : md_ft J2 M c = ((m_up (m_up (m_up (m_up (md_tik J2 M (c)) (M + 22) 4 (((md_tik J2 M (c)) (M + 22) 4) + (1))) (M + 22) 3 (((md_tik J2 M (c)) (M + 22) 3) + (1))) (M + 22) 3 (0)) (M + 22) 2 (((md_tik J2 M (c)) (M + 22) 2) + (1)))) := if_pos c102) | (have hfo : md_ft J2 M c = ((m_up (m_up (m_up (m_up (md_tik J2 M (c)) (M + 22) 4 (((md_tik J2 M (c)) (M + 22) 4) + (1))) (M + 22) 3 (((md_tik J2 M (c)) (M + 22) 3) + (1))) (M + 22) 3 (0)) (M + 22) 2 (((md_tik J2 M (c)) (M + 22) 2) + (1)))) := if_neg c102)
                have key := ih (many + 1) (md_ft J M c) (md_ft J2 M c) (by omega) (by omega) ((hfx.trans hfx2).ft c hu) (hinv2.ft hA (by rw [hfx2 (M + 22) 2 (by omega) (by omega) (by omega), hfx2 (M + 2) 5 (by omega) (by omega) (by omega)]; omega)) (fun r Jx J3 a1 a2 a3 => by rw [show many + 1 + r = many + (r + 1) by omega]; exact hq (r + 1) Jx J3 (Or.inl ⟨c, hg, by rw [Int.add_sub_cancel]; exact a1⟩) a2 a3)
                rw [hfo] at key
                exact key
theorem c_Md_flow (hM : md_sh en M T P) (hJ : m_up J0 M 0 0 = J) (hinv : md_inv J M) {n : Int} (hn : m_in n)
    (hq0 : ¬ (1 ≤ n ∧ n ≤ 40) → Q (some (.int (m_i (-1)))) (T, m_I J, P, L, z, w))
    (hq1 : 1 ≤ n ∧ n ≤ 40 → ∀ r Jx J2, md_flw M n.toNat J r Jx → md_fx Jx J2 M → md_inv J2 M → Q (some (.int (m_i r))) (T, m_I J2, P, L, z, w)) : m_call en (d + 10) mMd_flow [.ref M, .int (m_i n)] (T, m_I J0, P, L, z, w) Q := by
  unfold m_in at hn
  refine m_into (by decide) (Nat.le_of_ble_eq_true rfl) rfl ?_
  show m_wp en _ mMd_flow 0 [some (.ref M), some (.int (m_i (n))), none] [] (T, m_I J0, P, L, z, w) Q
  refine r_aln eMd_flow_0 rfl ?_
  refine r_con eMd_flow_1 ?_
  refine r_put eMd_flow_2 rfl hM.2.1 hM.1 (Or.inl rfl) ?_
  rw [hJ]
  refine r_iln eMd_flow_5 rfl ?_
  refine r_con eMd_flow_6 ?_
  refine r_clt (tgt := 16) eMd_flow_7 rfl ⟨(by omega), (by omega)⟩ ⟨(by omega), (by omega)⟩ (fun c7 => ?_) (fun c7 => ?_)
  · refine r_con eMd_flow_16 ?_
    refine r_iret eMd_flow_17 rfl ?_
    exact hq0 (by omega)
  · refine r_iln eMd_flow_10 rfl ?_
    refine r_bip eMd_flow_11 (by decide) ?_
    refine r_cle (tgt := 18) eMd_flow_13 rfl ⟨(by omega), (by omega)⟩ ⟨(by omega), (by omega)⟩ (fun c13 => ?_) (fun c13 => ?_)
    · refine r_con eMd_flow_18 ?_
      refine r_isn (ls' := [some (.ref M), some (.int (m_i (n))), some (.int (m_i (0)))]) eMd_flow_19 (Nat.le_of_ble_eq_true rfl) rfl ?_
      refine l_Md_flow hM (by omega) n.toNat 0 J J (by omega) (by omega) (md_fx.refl J M) hinv (fun r Jx J2 a1 a2 a3 => ?_)
      rw [Int.zero_add]
      exact hq1 (by omega) r Jx J2 a1 a2 a3
    · refine r_con eMd_flow_16 ?_
      refine r_iret eMd_flow_17 rfl ?_
      exact hq0 (by omega)
end MDF
