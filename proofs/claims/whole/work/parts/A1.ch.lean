/-! the class: the code that leads to rest, how many states lead there -/
section CHM
variable {en : Nat → Nat} {d : Nat} {T T' T2 T0 : Nat → Option (Nat × Nat)} {J J' J0 J1 J2 J3 K H : Nat → Nat → Int} {P P' P2 P0 : Nat → Nat → Option Nat} {L L' L2 L0 : Nat → Nat → Int64} {z w z' w' z0 w0 A B R U S n X N zb wb o o' A0 R' U' n' : Nat} {Q : m_Q} {σ τ γ π ρ : a_S} {C : a_C} {bw most by_ gl : Int} {Sd : a_S → Prop} {g : g_T} {x e st : Int}
theorem a_met_nn {m : Nat → Int} {k : Int} (h : 0 ≤ a_met m n k) : 0 ≤ k ∧ k < n ∧ m k.toNat ≠ 0 := by
  unfold a_met at h
  by_cases q : 0 ≤ k ∧ k < n ∧ m k.toNat ≠ 0
  · exact q
  · rw [if_neg q] at h; omega
theorem a_nb_nn (h : 0 ≤ a_nb C σ) : a_is C σ = true := by
  unfold a_nb at h
  by_cases q : a_is C σ = true
  · exact q
  · rw [if_neg q] at h; omega
theorem w_shr (σ : a_S) : w_sh C σ ↔ a_is C σ = true ∧ w_rs σ := Iff.rfl
/-- a step is a nearer one just if the class's search says so -/
theorem hm_nr (ok : a_ok C) {s k : Nat} {par cod : Nat → Nat} (h : g_I C n 1 4 511 (w_sh C) s g par cod k 0) (hsz : a_sz C ≤ n) (hσ : a_is C σ = true) (hst : st = a_met g.1 n (a_nb C σ)) (h0 : 0 < st) {c : Int} (hc : 0 ≤ c ∧ c < 9) : a_met g.1 n (a_nb C (a_step σ c 0)) = st - 1 ↔ s_nr C (-1) (a_no σ) c := by
  have eσ := a_of_no (a_is_bx ok hσ)
  have hm := a_met_nn (m := g.1) (n := n) (k := a_nb C σ) (by omega)
  have aσ := g_I_ans h hsz ok hσ (Or.inr hm.2.2)
  rw [← hst] at aσ
  have sσ := (w_home ok w_shr hσ).mpr aσ
  obtain ⟨i, hi, ei⟩ := h.1.2.2.2.2 σ hσ hm.2.2
  unfold s_nr
  rw [eσ]
  constructor
  · intro q
    have hm2 := a_met_nn (m := g.1) (n := n) (k := a_nb C (a_step σ c 0)) (by omega)
    have hτ := a_nb_nn hm2.1
    have aτ := g_I_ans h hsz ok hτ (Or.inr hm2.2.2)
    rw [q] at aτ
    exact ⟨hτ, st - 1, by omega, by rw [show st - 1 + 1 = st by omega]; exact sσ, (w_home ok w_shr hτ).mpr aτ⟩
  · rintro ⟨hτ, t, ht, s1, s2⟩
    have e1 := s_ans_u s1 sσ
    have aτ := (w_home ok w_shr hτ).mp s2
    obtain ⟨t', q1, q2, q3⟩ | ⟨q1, -⟩ := aτ
    · have hlv : g_F C g (g_q g i) = some (t' + 1) := by
        rw [g_F_is (h.1.2.2.1 i hi).1 (h.1.2.2.1 i hi).2.2.1, ei]
        have : a_met g.1 n (a_nb C σ) = g.1 (a_nb C σ).toNat / 16 := if_pos hm
        congr 1
        omega
      obtain ⟨n', r1, r2⟩ := b_level h.2.1 t' _ q2 (fun hk => by
        obtain ⟨nk, u1, -⟩ := h.2.1.2.2.1 k hk
        have := h.2.1.2.2.2.2.1 i nk (t' + 1) hk hi u1 hlv
        exact ⟨nk, u1, by omega⟩)
      have hex := b_exact h.2.1 r1
      have := q3 n' hex.1
      obtain ⟨g1, g2, g3⟩ := g_F_some r1
      have hnb := a_nb_b ok g1
      have hmm := h.1.2.1 (a_nb C (a_step σ c 0)).toNat (by omega)
      unfold a_met
      rw [if_pos ⟨hnb.1, by omega, g2⟩]
      omega
    · omega
/-- a nearer step there is -/
theorem hm_ex (ok : a_ok C) (hσ : a_is C σ = true) (hst : s_ans C (-1) 0 (a_no σ) st) (h0 : 0 < st) : ∃ c : Int, (0 ≤ c ∧ c < 9) ∧ s_nr C (-1) (a_no σ) c := by
  rcases hst with ⟨q, -⟩ | ⟨t, q1, q2, q3⟩
  · omega
  · obtain ⟨t, rfl⟩ : ∃ u, t = u + 1 := ⟨t - 1, by omega⟩
    have eσ := a_of_no (a_is_bx ok hσ)
    obtain ⟨m, h1, c, hc, -, h2, h3⟩ := q2
    obtain ⟨g1, g2, g3⟩ := w_D_is ok t m h1
    have e1 : σ = a_back (a_of m) c := a_no_i ok hσ h2 h3
    have e2 : a_step σ c 0 = a_of m := by rw [e1, a_step_back]
    have e3 : a_no (a_of m) = m := a_no_of g2
    refine ⟨c, hc, ?_⟩
    unfold s_nr
    rw [eσ, e2, e3]
    refine ⟨g1, (t : Int), by omega, Or.inr ⟨t + 1, by omega, ⟨m, h1, c, hc, Or.inl rfl, h2, h3⟩, q3⟩, Or.inr ⟨t, rfl, h1, fun t' ht => ?_⟩⟩
    have := q3 (t' + 1) ⟨m, ht, c, hc, Or.inl rfl, h2, h3⟩
    omega
theorem l_Wa_codeHome (hW : cl_W en X N zb wb C T J P z w) (h10 : J (X + 132) 10 = 1) {k : Nat} (hB : (k, 5, 0) ∈ cl_ob) (hk : k = 31 ∨ k = 164) (eσ : po_get J (X + k) = σ) (hbx : a_bx σ) {st : Int} (hst : -2 ≤ st ∧ st < 100000) 
    (hq : ∀ J', cl_W en X N zb wb C T J' P z w → cl_q X N T J P L T J' P L → (∀ i, J' (X + 164) i = J (X + 164) i) → ∀ r, ((0 < st ∧ ∃ c : Int, (0 ≤ c ∧ c < 9) ∧ r = c ∧ a_met (J (sR P (X + 144))) (sN T P (X + 144)) (a_nb C (a_step σ c 0)) = st - 1 ∧ ∀ c' : Int, 0 ≤ c' → c' < c → a_met (J (sR P (X + 144))) (sN T P (X + 144)) (a_nb C (a_step σ c' 0)) ≠ st - 1) ∨ (r = 4 ∧ (st ≤ 0 ∨ ∀ c' : Int, 0 ≤ c' → c' < 9 → a_met (J (sR P (X + 144))) (sN T P (X + 144)) (a_nb C (a_step σ c' 0)) ≠ st - 1))) → Q (some (.int (m_i r))) (T, m_I J', P, L, z, w)) :
    ∀ (r c : Nat) (J4 : Nat → Nat → Int), c + r = 9 → (∀ b i, b ≠ X + 155 → J4 b i = J b i) → (∀ c' : Int, 0 ≤ c' → c' < c → a_met (J (sR P (X + 144))) (sN T P (X + 144)) (a_nb C (a_step σ c' 0)) ≠ st - 1) →
      m_wp en (d + 1) mWa_codeHome 19 [some (.ref (X + 132)), some (.ref (X + k)), some (.int (m_i st)), some (.int (m_i (c : Int)))] [] (T, m_I J4, P, L, z, w) Q := by
  have h0 := hW
  obtain ⟨hV, ⟨h1, h2, ok, h4', hC⟩, h6, h7, h8⟩ := h0
  have hX := hV.1
  have hN := hV.2.1
  obtain ⟨cc, uu, hss, -, -⟩ := hV.2.2.2
  have hs := hss 144 (Or.inr (Or.inl rfl))
  have hz := cl_z hV (o := 144) (Or.inr (Or.inl rfl))
  have hszb := a_sz_b ok
  have hg : cl_g T J P X 144 (X + 133) C 1 511 4 (w_sh C) := by
    rcases h7 with q | q
    · omega
    · exact q.2
  obtain ⟨-, -, -, -, gsz, -, s9, par9, cod9, gI⟩ := hg
  have hWz : ∀ J4, (∀ b i, b ≠ X + 155 → J4 b i = J b i) → cl_W en X N zb wb C T J4 P z w ∧ cl_q X N T J P L T J4 P L ∧ ∀ i, J4 (X + 164) i = J (X + 164) i := fun J4 q => ⟨cl_W_z hW (fun b i q2 => q b i (by omega)), cl_q_J (fun b i q2 => q b i (by omega)), fun i => q _ i (by omega)⟩
  intro r
  induction r with
  | zero =>
    intro c J4 hc h4 hno
    obtain rfl : c = 9 := by omega
    obtain ⟨w1, w2, w3⟩ := hWz J4 h4
    have hend := hq J4 w1 w2 w3 4 (Or.inr ⟨rfl, Or.inr (fun c' a b => hno c' a (by omega))⟩)
    refine r_iln eWa_codeHome_19 rfl ?_
    refine r_zle (tgt := 78) eWa_codeHome_20 rfl ⟨(by omega), (by omega)⟩ (fun c20 => ?_) (fun c20 => ?_)
    · refine r_con eWa_codeHome_78 ?_
      refine r_iret eWa_codeHome_79 rfl ?_
      exact hend
    · refine r_iln eWa_codeHome_23 rfl ?_
      refine r_bip eWa_codeHome_24 (by decide) ?_
      refine r_cge (tgt := 78) eWa_codeHome_26 rfl ⟨(by omega), (by omega)⟩ ⟨(by omega), (by omega)⟩ (fun c26 => ?_) (fun c26 => ?_)
      · refine r_con eWa_codeHome_78 ?_
        refine r_iret eWa_codeHome_79 rfl ?_
        exact hend
      · exfalso; omega
  | succ r ih =>
    intro c J4 hc h4 hno
    have hi := fun J5 => ih (c + 1) J5 (by omega)
    rw [show ((c + 1 : Nat) : Int) = (c : Int) + 1 by omega] at hi
    obtain ⟨w1, w2, w3⟩ := hWz J4 h4
    have hend : st ≤ 0 → Q (some (.int (m_i 4))) (T, m_I J4, P, L, z, w) := fun q => hq J4 w1 w2 w3 4 (Or.inr ⟨rfl, Or.inl q⟩)
    have h5 : ∀ b i, b ≠ X + 155 → po_put J4 (X + 155) (a_step σ (c : Int) 0) b i = J b i := fun b i q => by rw [po_put_o (fun e => q e.1)]; exact h4 b i q
    obtain ⟨v1, v2, v3⟩ := hWz _ h5
    have hret : 0 < st → a_met (J (sR P (X + 144))) (sN T P (X + 144)) (a_nb C (a_step σ (c : Int) 0)) = st - 1 → Q (some (.int (m_i (c : Int)))) (T, m_I (po_put J4 (X + 155) (a_step σ (c : Int) 0)), P, L, z, w) := fun q0 q => hq _ v1 v2 v3 c (Or.inl ⟨q0, c, ⟨by omega, by omega⟩, rfl, q, hno⟩)
    have hnx : ¬ a_met (J (sR P (X + 144))) (sN T P (X + 144)) (a_nb C (a_step σ (c : Int) 0)) = st - 1 → m_wp en (d + 1) mWa_codeHome 19 [some (.ref (X + 132)), some (.ref (X + k)), some (.int (m_i st)), some (.int (m_i ((c : Int) + 1)))] [] (T, m_I (po_put J4 (X + 155) (a_step σ (c : Int) 0)), P, L, z, w) Q := fun q => hi _ h5 (fun c' a b => by
      rcases Int.lt_or_eq_of_le (Int.lt_add_one_iff.mp b) with q2 | q2
      · exact hno c' a q2
      · rw [q2]; exact q)
    have eσ4 : po_get J4 (X + k) = σ := by rw [← eσ]; exact po_get_e (fun i => h4 _ i (by omega))
    have hτs : a_sm (a_step σ (c : Int) 0) := a_step_sm (by have := hbx; unfold a_bx at this; unfold a_t; omega) ⟨by omega, by omega⟩ (by omega)
    have hC4 : sp_is (po_put J4 (X + 155) (a_step σ (c : Int) 0)) (X + 133) C := sp_is_e hC (fun i => h5 _ i (by omega)) (fun i => h5 _ i (by omega)) (fun i => h5 _ i (by omega))
    have hnbk : -1 ≤ a_nb C (a_step σ (c : Int) 0) ∧ a_nb C (a_step σ (c : Int) 0) < 100000 := by
      by_cases q : a_is C (a_step σ (c : Int) 0) = true
      · have := a_nb_b ok q; omega
      · have : a_nb C (a_step σ (c : Int) 0) = -1 := by unfold a_nb; rw [if_neg q]
        omega
    have hmin : ∀ i : Nat, (i : Int) = a_nb C (a_step σ (c : Int) 0) → m_in (J (sR P (X + 144)) i) := fun i hi => by
      have q := a_nb_nn (C := C) (σ := a_step σ (c : Int) 0) (by omega)
      have hb := a_nb_b ok q
      have h3 : 0 ≤ J (sR P (X + 144)) i ∧ J (sR P (X + 144)) i < 2147483648 := gI.1.2.1 i (by omega)
      exact ⟨by omega, by omega⟩
    have hmb : -2 ≤ a_met (J (sR P (X + 144))) (sN T P (X + 144)) (a_nb C (a_step σ (c : Int) 0)) ∧ a_met (J (sR P (X + 144))) (sN T P (X + 144)) (a_nb C (a_step σ (c : Int) 0)) < 100000 := by
      by_cases q : a_is C (a_step σ (c : Int) 0) = true
      · exact g_met_b (g := se_g J (X + 144) (sR P (X + 144)) (sU P (X + 144))) gI.1 hs.2.2.2.1 gsz ok q
      · have : a_nb C (a_step σ (c : Int) 0) = -1 := by unfold a_nb; rw [if_neg q]
        unfold a_met
        rw [if_neg (by omega)]
        omega
    have eR : po_put J4 (X + 155) (a_step σ (c : Int) 0) (sR P (X + 144)) = J (sR P (X + 144)) := funext (fun i => h5 _ i (by omega))
    refine r_iln eWa_codeHome_19 rfl ?_
    refine r_zle (tgt := 78) eWa_codeHome_20 rfl ⟨(by omega), (by omega)⟩ (fun c20 => ?_) (fun c20 => ?_)
    · refine r_con eWa_codeHome_78 ?_
      refine r_iret eWa_codeHome_79 rfl ?_
      first | (exfalso; omega) | exact hend (by omega)
    · refine r_iln eWa_codeHome_23 rfl ?_
      refine r_bip eWa_codeHome_24 (by decide) ?_
      refine r_cge (tgt := 78) eWa_codeHome_26 rfl ⟨(by omega), (by omega)⟩ ⟨(by omega), (by omega)⟩ (fun c26 => ?_) (fun c26 => ?_)
      · refine r_con eWa_codeHome_78 ?_
        refine r_iret eWa_codeHome_79 rfl ?_
        first | (exfalso; omega) | exact hend (by omega)
      · refine r_aln eWa_codeHome_29 rfl ?_
        refine m_getR eWa_codeHome_30 rfl (cl_t hX (i := 132) rfl) (cl_p hX (i := 113) rfl) ?_
        refine r_aln eWa_codeHome_33 rfl ?_
        refine r_vir eWa_codeHome_34 rfl rfl rfl (cl_t hX (i := 149) rfl) rfl rfl ?_
        refine c_Po_set (cl_po hX (k := 155) (by decide)) (cl_po hX hB) (by omega) ?_
        rw [eσ4]
        show m_wp en _ mWa_codeHome 37 [some (.ref (X + 132)), some (.ref (X + k)), some (.int (m_i (st))), some (.int (m_i ((c : Int))))] [] (T, m_I (((po_put J4 (X + 155) σ))), P, L, z, w) Q
        refine r_aln eWa_codeHome_37 rfl ?_
        refine m_getR eWa_codeHome_38 rfl (cl_t hX (i := 132) rfl) (cl_p hX (i := 113) rfl) ?_
        refine r_iln eWa_codeHome_41 rfl ?_
        refine r_con eWa_codeHome_42 ?_
        refine r_vir eWa_codeHome_43 rfl rfl rfl (cl_t hX (i := 149) rfl) rfl rfl ?_
        refine c_Po_move (cl_po hX (k := 155) (by decide)) (by rw [po_get_put]; exact a_bx_sm hbx) ⟨by omega, by omega⟩ ⟨by omega, by omega⟩ ?_
        rw [po_get_put, po_put_put]
        show m_wp en _ mWa_codeHome 46 [some (.ref (X + 132)), some (.ref (X + k)), some (.int (m_i (st))), some (.int (m_i ((c : Int))))] [] (T, m_I (((po_put J4 (X + 155) (a_step σ (c : Int) 0)))), P, L, z, w) Q
        refine r_aln eWa_codeHome_46 rfl ?_
        refine m_getR eWa_codeHome_47 rfl (cl_t hX (i := 132) rfl) (cl_p hX (i := 110) rfl) ?_
        refine r_aln eWa_codeHome_50 rfl ?_
        refine m_getR eWa_codeHome_51 rfl (cl_t hX (i := 132) rfl) (cl_p hX (i := 107) rfl) ?_
        refine r_aln eWa_codeHome_54 rfl ?_
        refine m_getR eWa_codeHome_55 rfl (cl_t hX (i := 132) rfl) (cl_p hX (i := 113) rfl) ?_
        refine r_vir eWa_codeHome_58 rfl rfl rfl (cl_t hX (i := 133) rfl) rfl rfl ?_
        refine c_Sp_numberOf (cl_sp hX (Or.inl rfl)) (cl_po hX (k := 155) (by decide)) hC4 ok (by rw [po_get_put]; exact hτs) ?_
        rw [po_get_put]
        show m_wp en _ mWa_codeHome 61 [some (.ref (X + 132)), some (.ref (X + k)), some (.int (m_i (st))), some (.int (m_i ((c : Int))))] [(.int (m_i ((a_nb C (a_step σ (c : Int) 0))))), (.ref (X + 144))] (T, m_I (((((po_put J4 (X + 155) (a_step σ (c : Int) 0)))))), P, L, z, w) Q
        refine r_vir eWa_codeHome_61 rfl rfl rfl (cl_t hX (i := 142) rfl) rfl rfl ?_
        refine c_Se_stepsMet (cl_t hX (i := 142) rfl) hs.1.1 hs.1.2 hs.2.2.2.1 hnbk (fun i hi => by rw [po_put_o (by omega), h4 _ _ (by omega)]; exact hmin i hi) ?_
        rw [eR]
        show m_wp en _ mWa_codeHome 64 [some (.ref (X + 132)), some (.ref (X + k)), some (.int (m_i (st))), some (.int (m_i ((c : Int))))] [(.int (m_i ((a_met (J (sR P (X + 144))) (sN T P (X + 144)) (a_nb C (a_step σ (c : Int) 0))))))] (T, m_I (((((((po_put J4 (X + 155) (a_step σ (c : Int) 0)))))))), P, L, z, w) Q
        refine r_iln eWa_codeHome_64 rfl ?_
        refine r_con eWa_codeHome_65 ?_
        refine r_sub eWa_codeHome_66 ?_
        refine r_cne (tgt := 72) eWa_codeHome_67 rfl ⟨(by omega), (by omega)⟩ ⟨(by omega), (by omega)⟩ (fun c67 => ?_) (fun c67 => ?_)
        · refine r_inc (ls' := [some (.ref (X + 132)), some (.ref (X + k)), some (.int (m_i (st))), some (.int (m_i ((c : Int) + 1)))]) eWa_codeHome_72 rfl rfl ?_
          refine r_go (tgt := 19) eWa_codeHome_75 rfl ?_
          exact hnx (by omega)
        · refine r_iln eWa_codeHome_70 rfl ?_
          refine r_iret eWa_codeHome_71 rfl ?_
          exact hret (by omega) (by omega)
end CHM
