/-! the search by cost of the class: the fewest deeds -/
section SEL
variable {en : Nat → Nat} {d : Nat} {T : Nat → Option (Nat × Nat)} {J J0 J1 K H : Nat → Nat → Int} {P : Nat → Nat → Option Nat} {L : Nat → Nat → Int64} {z w A B R U S n X : Nat} {Q : m_Q} {σ τ γ : a_S} {C : a_C} {Sd : a_S → Prop} {gl : Int} {g : g_T} {V b s : Nat}
theorem kc_ans (ok : a_ok C) (hsz : a_sz C ≤ n) (h : kc_I C n Sd g V b g.2.2.toNat b s) (hb : b ≤ g.2.2.toNat) (hs : s ≤ b) (hl : ∀ i, s ≤ i → i < b → g_lv C g i + 1 = V) (hSd : ∀ σ, Sd σ → a_is C σ = true) (hγ : a_is C γ = true) (hm : g.1 (a_nb C γ).toNat ≠ 0) : b_kan Sd (g_E C 0 4 16) (g_E C 0 4 170) (g_E C 0 4 325) γ (a_met g.1 n (a_nb C γ)) := by
  have hnb := a_nb_b ok hγ
  have hm0 := h.1.2.1 (a_nb C γ).toNat (by omega)
  obtain ⟨i, hi, e⟩ := h.1.2.2.2.2 γ hγ hm
  have elv : g_lv C g i = (g.1 (a_nb C γ).toNat / 16).toNat := by unfold g_lv; rw [e]
  unfold a_met
  rw [if_pos ⟨hnb.1, by omega, hm⟩]
  refine Or.inl ⟨g_lv C g i, by omega, by rw [← e]; exact h.2.1 i hi, fun l d' h1 => ?_⟩
  have hL := h.2.2.1 i hi
  have hK : g_lv C g i ≤ V := by
    rcases Nat.lt_or_ge i b with q | q
    · exact Nat.le_of_lt (hL.1 q)
    · exact Nat.le_of_eq (hL.2 q)
  rcases Nat.lt_or_ge d' (g_lv C g i) with q | q
  · obtain ⟨j, a1, a2, a3⟩ := kc_all h hb hs hl hSd l d' γ (by omega) h1
    have := h.1.2.2.2.1 i j hi a1 (by rw [e, a2])
    subst this
    exact a3
  · exact q
theorem l81_Se_costTo (hS : se_at en S R U n A T P) (ok : a_ok C) (hsz : a_sz C ≤ n) (hgl : a_is C γ = true ∧ gl = a_nb C γ) {o2 o3 o4 o5 : Option Value}
    (hw : g_wf C n (se_g J1 S R U)) (hq : Q (some (.int (m_i (a_met (J1 R) n gl)))) (T, m_I J1, P, L, z, w)) :
    m_wp en (d + 1) mSe_costTo 81 [some (.ref S), some (.int (m_i gl)), o2, o3, o4, o5] [] (T, m_I J1, P, L, z, w) Q := by
  obtain ⟨⟨b0, t0⟩, ⟨p0, tR, bR⟩, ⟨p1, tU, bU⟩, ⟨p4, hA⟩, ⟨p8, hfm⟩, ⟨p9, hnr⟩, hn, hAS, hRS, hUS, hRU⟩ := hS
  have hnb := a_nb_b ok hgl.1
  have e := hgl.2
  have hmin : ∀ i : Nat, (i : Int) = gl → m_in (J1 R i) := fun i hi => by
    have h2 : 0 ≤ J1 R i ∧ J1 R i < 2147483648 := hw.2.1 i (by omega)
    exact ⟨by omega, by omega⟩
  refine r_aln eSe_costTo_81 rfl ?_
  refine r_iln eSe_costTo_82 rfl ?_
  refine r_vir eSe_costTo_83 rfl rfl rfl t0 rfl rfl ?_
  refine c_Se_stepsMet t0 p0 tR hn (by omega) (fun i hi => hmin i hi) ?_
  show m_wp en _ mSe_costTo 86 [some (.ref S), some (.int (m_i (gl))), o2, o3, o4, o5] [(.int (m_i ((a_met (J1 R) n gl))))] (T, m_I J1, P, L, z, w) Q
  refine r_iret eSe_costTo_86 rfl ?_
  exact hq
theorem l31_Se_costTo (hS : se_at en S R U n A T P) (ok : a_ok C) (hC : sp_is J A C) (e5 : J S 5 = 0) (e7 : J S 7 = 4) (hsz : a_sz C ≤ n) (hgl : a_is C γ = true ∧ gl = a_nb C γ) (hSd : ∀ σ, Sd σ → a_is C σ = true)
    (hq : ∀ J' r, se_fr J J' S R U → b_kan Sd (g_E C 0 4 16) (g_E C 0 4 170) (g_E C 0 4 325) γ r → Q (some (.int (m_i r))) (T, m_I J', P, L, z, w)) :
    ∀ (f t s e : Nat) (J1 : Nat → Nat → Int) (o2 : Option Value), t + f = 77761 → s ≤ e → e ≤ (J1 S 3).toNat → t ≤ 2 * s + 1 → t ≤ 2 * e → kc_F C J J1 S R U → kc_I C n Sd (se_g J1 S R U) t e (J1 S 3).toNat e s → (∀ i, s ≤ i → i < e → g_lv C (se_g J1 S R U) i + 1 = t) →
      m_wp en (d + 4) mSe_costTo 31 [some (.ref S), some (.int (m_i gl)), o2, some (.int (m_i (s : Int))), some (.int (m_i (e : Int))), some (.int (m_i (t : Int)))] [] (T, m_I J1, P, L, z, w) Q := by
  have hS0 := hS
  obtain ⟨⟨b0, t0⟩, ⟨p0, tR, bR⟩, ⟨p1, tU, bU⟩, ⟨p4, hA⟩, ⟨p8, hfm⟩, ⟨p9, hnr⟩, hn, hAS, hRS, hUS, hRU⟩ := hS0
  have hne := se_at_ne hS
  clear hRS hUS hRU
  have hnb := a_nb_b ok hgl.1
  have eg := hgl.2
  intro f
  induction f with
  | zero =>
    intro t s e J1 o2 ht hse het ht1 ht2 hf hI hl
    have h3 : 0 ≤ J1 S 3 ∧ J1 S 3 ≤ n := hI.1.1
    exfalso
    omega
  | succ f ih =>
    intro t s e J1 o2 ht hse het ht1 ht2 hf hI hl
    have h3 : 0 ≤ J1 S 3 ∧ J1 S 3 ≤ n := hI.1.1
    have hm : 0 ≤ J1 R gl.toNat ∧ J1 R gl.toNat < 2147483648 := hI.1.2.1 gl.toNat (by omega)
    have hrm : J1 R gl.toNat = 0 → J1 S 3 < n := fun q => g_room ok hI.1 hsz hgl.1 (by rw [← eg]; exact q)
    have h81 : J1 R gl.toNat ≠ 0 → ∀ o2 o3 o4 o5, m_wp en (d + 4) mSe_costTo 81 [some (.ref S), some (.int (m_i gl)), o2, o3, o4, o5] [] (T, m_I J1, P, L, z, w) Q := fun q o2 o3 o4 o5 =>
      l81_Se_costTo (d := d + 3) hS ok hsz hgl hI.1 (hq J1 _ hf.1 (by rw [eg]; exact kc_ans ok hsz hI het hse hl hSd hgl.1 (by rw [← eg]; exact q)))
    have hcan : s = (J1 S 3).toNat → J1 R gl.toNat = 0 → Q (some (.int (m_i (-2)))) (T, m_I J1, P, L, z, w) := fun q1 q2 => by
      refine hq J1 (-2) hf.1 (Or.inr ⟨rfl, fun l dd hk => ?_⟩)
      have e1 : e = (J1 S 3).toNat := by omega
      rw [q1, e1] at hI
      obtain ⟨j, a1, a2⟩ := kc_end hI hSd l dd γ hk
      have := (hI.1.2.2.1 j a1).2.2.1
      rw [a2, ← eg] at this
      exact this q2
    have f5 : J1 S 5 = 0 := (kc_F_57 hne hf).1.trans e5
    have f7 : J1 S 7 = 4 := (kc_F_57 hne hf).2.trans e7
    obtain ⟨e2, ee2⟩ : ∃ e2 : Nat, J1 S 3 = (e2 : Int) := ⟨(J1 S 3).toNat, by omega⟩
    have ee3 : (J1 S 3).toNat = e2 := by omega
    rw [ee3] at hI
    have hla : ∀ i, i < e → s ≤ i → g_lv C (se_g J1 S R U) i + 2 = t + 1 := fun i h1 h2 => by have := hl i h2 h1; omega
    have hlb : ∀ i, i < e2 → e ≤ i → g_lv C (se_g J1 S R U) i + 1 = t + 1 := fun i h1 h2 => by
      have := (hI.2.2.1 i (show i < (J1 S 3).toNat by omega)).2 h2
      omega
    have hI2 : kc_I C n Sd (se_g J1 S R U) (t + 1) e2 e2 e s := by
      obtain ⟨k1, k2, k3, k4⟩ := hI
      refine ⟨k1, k2, fun i hi => ⟨fun _ => ?_, fun q => ?_⟩, k4⟩
      · have := k3 i hi
        rcases Nat.lt_or_ge i e with q | q
        · have := this.1 q; omega
        · have := this.2 q; omega
      · have : i < (J1 S 3).toNat := hi
        omega
    refine r_il eSe_costTo_31 rfl ?_
    refine r_ldc (x := 77760) eSe_costTo_33 rfl (by decide) ?_
    refine r_cge (tgt := 81) eSe_costTo_35 rfl ⟨(by omega), (by omega)⟩ ⟨(by omega), (by omega)⟩ (fun c35 => ?_) (fun c35 => ?_)
    · first | exact h81 (by omega) _ _ _ _ | (refine h81 (fun q => ?_) _ _ _ _; have := hrm q; omega)
    · refine r_aln eSe_costTo_38 rfl ?_
      refine m_getR eSe_costTo_39 rfl t0 p0 ?_
      refine r_iln eSe_costTo_42 rfl ?_
      have hrm2 := hrm
      refine r_ialde (x := J1 R ((gl).toNat)) eSe_costTo_43 tR (by omega) (by omega) (by omega) rfl ?_
      refine r_zne (tgt := 81) eSe_costTo_44 rfl ⟨(by omega), (by omega)⟩ (fun c44 => ?_) (fun c44 => ?_)
      · first | exact h81 (by omega) _ _ _ _ | (refine h81 (fun q => ?_) _ _ _ _; have := hrm q; omega)
      · refine r_iln eSe_costTo_47 rfl ?_
        refine r_isn (ls' := [some (.ref S), some (.int (m_i (gl))), some (.int (m_i ((s : Int)))), some (.int (m_i ((s : Int)))), some (.int (m_i ((e : Int)))), some (.int (m_i ((t : Int))))]) eSe_costTo_48 (Nat.le_of_ble_eq_true rfl) rfl ?_
        refine r_il eSe_costTo_49 rfl ?_
        refine r_isn (ls' := [some (.ref S), some (.int (m_i (gl))), some (.int (m_i ((s : Int)))), some (.int (m_i ((e : Int)))), some (.int (m_i ((e : Int)))), some (.int (m_i ((t : Int))))]) eSe_costTo_51 (Nat.le_of_ble_eq_true rfl) rfl ?_
        refine r_aln eSe_costTo_52 rfl ?_
        refine r_gete (x := J1 S 3) eSe_costTo_53 rfl (by decide) t0 rfl ?_
        rw [ee2]
        refine r_is (ls' := [some (.ref S), some (.int (m_i (gl))), some (.int (m_i ((s : Int)))), some (.int (m_i ((e : Int)))), some (.int (m_i ((e2 : Int)))), some (.int (m_i ((t : Int))))]) eSe_costTo_56 (Nat.le_of_ble_eq_true rfl) rfl ?_
        refine r_iln eSe_costTo_58 rfl ?_
        refine r_il eSe_costTo_59 rfl ?_
        refine r_cne (tgt := 67) eSe_costTo_61 rfl ⟨(by omega), (by omega)⟩ ⟨(by omega), (by omega)⟩ (fun c61 => ?_) (fun c61 => ?_)
        · refine r_aln eSe_costTo_67 rfl ?_
          refine r_iln eSe_costTo_68 rfl ?_
          refine r_iln eSe_costTo_69 rfl ?_
          refine r_il eSe_costTo_70 rfl ?_
          refine r_vir eSe_costTo_72 rfl rfl rfl t0 rfl rfl ?_
          refine c_Se_spreadLevels hS ok (se_fr_sp hS hf.1 hC) f5 f7 hsz (b := e2) (V := t + 1) (a := s) (s := e) (e := e2) (Nat.le_refl _) hse (by omega) (by omega) hla hlb hI2 (fun J2 k1 k2 => ?_)
          show m_wp en _ mSe_costTo 75 [some (.ref S), some (.int (m_i (gl))), some (.int (m_i ((s : Int)))), some (.int (m_i ((e : Int)))), some (.int (m_i ((e2 : Int)))), some (.int (m_i ((t : Int))))] [] (T, m_I J2, P, L, z, w) Q
          refine r_inc (ls' := [some (.ref S), some (.int (m_i (gl))), some (.int (m_i ((s : Int)))), some (.int (m_i ((e : Int)))), some (.int (m_i ((e2 : Int)))), some (.int (m_i ((t : Int) + 1)))]) eSe_costTo_75 rfl rfl ?_
          refine r_go (tgt := 31) eSe_costTo_78 rfl ?_
          have tt : e2 ≤ (J2 S 3).toNat := by have h9 := k1.2.2.1; have h8 : (J1 S 3).toNat ≤ (J2 S 3).toNat := h9; omega
          have := ih (t + 1) e e2 J2 (some (.int (m_i (s : Int)))) (by omega) (by omega) tt (by omega) (by omega) (kc_F_t hf k1) k2 (fun i h1 h2 => by rw [g_x_lv k1.2.2 (show i < (J1 S 3).toNat by omega)]; exact hlb i h2 h1)
          rw [show ((t + 1 : Nat) : Int) = (t : Int) + 1 by omega] at this
          exact this
        · refine r_bip eSe_costTo_64 (by decide) ?_
          refine r_iret eSe_costTo_66 rfl ?_
          exact hcan (by omega) (by omega)
theorem c_Se_costTo (hS : se_at en S R U n A T P) (ok : a_ok C) (hC : sp_is J A C) (e5 : J S 5 = 0) (e7 : J S 7 = 4) (hsz : a_sz C ≤ n) (hSd : ∀ σ, Sd σ → a_is C σ = true) (hI : kc_I C n Sd (se_g J S R U) 0 0 0 0 0) (hgl : gl = -1 ∨ (a_is C γ = true ∧ gl = a_nb C γ))
    (h0 : gl = -1 → Q (some (.int (m_i (-2)))) (T, m_I J, P, L, z, w))
    (hq : ∀ J' r, a_is C γ = true → gl = a_nb C γ → se_fr J J' S R U → b_kan Sd (g_E C 0 4 16) (g_E C 0 4 170) (g_E C 0 4 325) γ r → Q (some (.int (m_i r))) (T, m_I J', P, L, z, w)) :
    m_call en (d + 5) mSe_costTo [.ref S, .int (m_i gl)] (T, m_I J, P, L, z, w) Q := by
  have hS0 := hS
  obtain ⟨⟨b0, t0⟩, ⟨p0, tR, bR⟩, ⟨p1, tU, bU⟩, ⟨p4, hA⟩, ⟨p8, hfm⟩, ⟨p9, hnr⟩, hn, hAS, hRS, hUS, hRU⟩ := hS0
  clear hRS hUS hRU
  have hg : gl = -1 ∨ (0 ≤ gl ∧ gl < n) := by
    rcases hgl with q | q
    · exact Or.inl q
    · have := a_nb_b ok q.1
      omega
  have h31 : 0 ≤ gl → ∀ J2, kc_F C J J2 S R U → kc_I C n Sd (se_g J2 S R U) 0 0 (J2 S 3).toNat 0 0 → m_wp en (d + 4) mSe_costTo 31 [some (.ref S), some (.int (m_i gl)), some (.int (m_i 0)), some (.int (m_i 0)), some (.int (m_i 0)), some (.int (m_i 0))] [] (T, m_I J2, P, L, z, w) Q := fun q J2 k1 k2 => by
    rcases hgl with r | r
    · omega
    · exact l31_Se_costTo hS ok hC e5 e7 hsz r hSd (fun J' r' => hq J' r' r.1 r.2) 77761 0 0 0 J2 _ (by omega) (by omega) (by omega) (by omega) (by omega) k1 k2 (fun i h1 h2 => by omega)
  refine m_into (by decide) (Nat.le_of_ble_eq_true rfl) rfl ?_
  show m_wp en _ mSe_costTo 0 [some (.ref S), some (.int (m_i (gl))), none, none, none, none] [] (T, m_I J, P, L, z, w) Q
  refine r_iln eSe_costTo_0 rfl ?_
  refine r_zlt (tgt := 13) eSe_costTo_1 rfl ⟨(by omega), (by omega)⟩ (fun c1 => ?_) (fun c1 => ?_)
  · refine r_bip eSe_costTo_13 (by decide) ?_
    refine r_iret eSe_costTo_15 rfl ?_
    first | exact h0 (by omega) | (exfalso; omega)
  · refine r_iln eSe_costTo_4 rfl ?_
    refine r_aln eSe_costTo_5 rfl ?_
    refine m_getR eSe_costTo_6 rfl t0 p0 ?_
    refine r_alen eSe_costTo_9 tR (by decide) ?_
    refine r_clt (tgt := 16) eSe_costTo_10 rfl ⟨(by omega), (by omega)⟩ ⟨(by omega), (by omega)⟩ (fun c10 => ?_) (fun c10 => ?_)
    · refine r_con eSe_costTo_16 ?_
      refine r_isn (ls' := [some (.ref S), some (.int (m_i (gl))), some (.int (m_i (0))), none, none, none]) eSe_costTo_17 (Nat.le_of_ble_eq_true rfl) rfl ?_
      refine r_con eSe_costTo_18 ?_
      refine r_isn (ls' := [some (.ref S), some (.int (m_i (gl))), some (.int (m_i (0))), some (.int (m_i (0))), none, none]) eSe_costTo_19 (Nat.le_of_ble_eq_true rfl) rfl ?_
      refine r_con eSe_costTo_20 ?_
      refine r_is (ls' := [some (.ref S), some (.int (m_i (gl))), some (.int (m_i (0))), some (.int (m_i (0))), some (.int (m_i (0))), none]) eSe_costTo_21 (Nat.le_of_ble_eq_true rfl) rfl ?_
      refine r_aln eSe_costTo_23 rfl ?_
      refine r_con eSe_costTo_24 ?_
      refine r_vir eSe_costTo_25 rfl rfl rfl t0 rfl rfl ?_
      refine c_Se_spread hS ok hC e5 e7 hsz (i := 0) hI (Nat.le_refl _) (fun J2 k1 k2 => ?_)
      show m_wp en _ mSe_costTo 28 [some (.ref S), some (.int (m_i (gl))), some (.int (m_i (0))), some (.int (m_i (0))), some (.int (m_i (0))), none] [] (T, m_I J2, P, L, z, w) Q
      refine r_con eSe_costTo_28 ?_
      refine r_is (ls' := [some (.ref S), some (.int (m_i (gl))), some (.int (m_i (0))), some (.int (m_i (0))), some (.int (m_i (0))), some (.int (m_i (0)))]) eSe_costTo_29 (Nat.le_of_ble_eq_true rfl) rfl ?_
      exact h31 (by omega) J2 k1 k2
    · refine r_bip eSe_costTo_13 (by decide) ?_
      refine r_iret eSe_costTo_15 rfl ?_
      first | exact h0 (by omega) | (exfalso; omega)
end SEL
