/-! a search of the class: how far, how many -/
/-- the fewest steps from a seed, or -2 -/
def b_ans {α : Type} (S : α → Prop) (E : α → α → Prop) (σ : α) (r : Int) : Prop := (∃ t : Nat, r = t ∧ b_D S E t σ ∧ ∀ t', b_D S E t' σ → t ≤ t') ∨ (r = -2 ∧ ∀ t, ¬ b_D S E t σ)
theorem b_ans_u {α : Type} {S : α → Prop} {E : α → α → Prop} {σ : α} {r r' : Int} (h : b_ans S E σ r) (h' : b_ans S E σ r') : r = r' := by
  rcases h with ⟨t, a, b, c⟩ | ⟨a, b⟩
  · rcases h' with ⟨t', a', b', c'⟩ | ⟨a', b'⟩
    · have := c t' b'
      have := c' t b
      omega
    · exact absurd b (b' t)
  · rcases h' with ⟨t', a', b', c'⟩ | ⟨a', b'⟩
    · exact absurd b' (b t')
    · omega
section SED
variable {en : Nat → Nat} {d : Nat} {T : Nat → Option (Nat × Nat)} {J J0 J1 K H : Nat → Nat → Int} {P : Nat → Nat → Option Nat} {L : Nat → Nat → Int64} {z w A B R U S n X : Nat} {Q : m_Q} {σ τ γ : a_S} {C : a_C} {h : Int} {bw most by_ : Int} {Sd : a_S → Prop} {s : Nat} {par cod : Nat → Nat} {k : Nat} {g : g_T} {gl : Int}
theorem g_I_ans (hI : g_I C n bw most by_ Sd s g par cod k 0) (hsz : a_sz C ≤ n) (ok : a_ok C) (hγ : a_is C γ = true) (hd : g.2.2.toNat ≤ k ∨ g.1 (a_nb C γ).toNat ≠ 0) : b_ans Sd (g_E C bw most by_) γ (a_met g.1 n (a_nb C γ)) := by
  obtain ⟨hw, hB, -⟩ := hI
  have hnb := a_nb_b ok hγ
  have hm := hw.2.1 (a_nb C γ).toNat (by omega)
  unfold a_met
  by_cases q : g.1 (a_nb C γ).toNat = 0
  · rw [if_neg (fun e => e.2.2 q)]
    refine Or.inr ⟨rfl, fun t ht => ?_⟩
    have hk : k = g.2.2.toNat := by
      rcases hd with r | r
      · exact Nat.le_antisymm hB.2.2.2.2.2.2.2 r
      · exact absurd q r
    obtain ⟨t', h1, -⟩ := b_all hB hk ht
    rw [g_F_no q] at h1
    cases h1
  · rw [if_pos ⟨hnb.1, by omega, q⟩]
    have h2 := b_exact hB (g_F_is hγ q)
    exact Or.inl ⟨_, by omega, h2⟩
/-- a bigger head, and what is met -/
theorem se_g_hd {x : Int} (hRS : R ≠ S) (hUS : U ≠ S) : se_g (m_up J S 2 x) S R U = se_g J S R U := by
  unfold se_g
  have e1 : m_up J S 2 x R = J R := funext (fun i => m_up_o hRS)
  have e2 : m_up J S 2 x U = J U := funext (fun i => m_up_o hUS)
  rw [e1, e2, m_up_j (by omega)]
theorem se_fr_hd {x : Int} (hf : se_fr J J1 S R U) : se_fr J (m_up J1 S 2 x) S R U := fun b i a1 a2 a3 a4 a5 => by
  rw [m_up_at, if_neg (fun q => a3 ⟨q.1, Or.inl q.2⟩)]
  exact hf b i a1 a2 a3 a4 a5
theorem g_I_ex (ok : a_ok C) (hsz : a_sz C ≤ n) (hnb : n ≤ 38880) (hI : g_I C n bw most by_ Sd s g par cod k 0) (hk : k < g.2.2.toNat) (hσ : g_q g k = σ) {g' : g_T} (hg : g' = g_all C n bw most by_ σ (g.1 (a_nb C σ).toNat / 16 + 1) g 9) : ∃ par' cod', g_I C n bw most by_ Sd s g' par' cod' (k + 1) 0 := by
  obtain ⟨p1, c1, i1, i2, i3, i4⟩ := g_I_all ok hsz hnb hI hk hσ rfl 9 (by omega)
  rw [← hg] at i1 i4
  exact ⟨p1, c1, g_I_next i1 i4⟩
theorem l74_Se_stepsTo (hS : se_at en S R U n A T P) (ok : a_ok C) (hsz : a_sz C ≤ n) (hgl : a_is C γ = true ∧ gl = a_nb C γ)
    (hI : g_I C n bw most by_ Sd s (se_g J1 S R U) par cod (J1 S 2).toNat 0) (hq : Q (some (.int (m_i (a_met (J1 R) n gl)))) (T, m_I J1, P, L, z, w)) :
    m_wp en (d + 1) mSe_stepsTo 74 [some (.ref S), some (.int (m_i gl))] [] (T, m_I J1, P, L, z, w) Q := by
  obtain ⟨⟨b0, t0⟩, ⟨p0, tR, bR⟩, ⟨p1, tU, bU⟩, ⟨p4, hA⟩, ⟨p8, hfm⟩, ⟨p9, hnr⟩, hn, hAS, hRS, hUS, hRU⟩ := hS
  have hnb := a_nb_b ok hgl.1
  have e := hgl.2
  have hmin : ∀ i : Nat, (i : Int) = gl → m_in (J1 R i) := fun i hi => by
    have h1 := hI.1.2.1 i (by omega)
    have h2 : 0 ≤ J1 R i ∧ J1 R i < 2147483648 := h1
    exact ⟨by omega, by omega⟩
  refine r_aln eSe_stepsTo_74 rfl ?_
  refine r_iln eSe_stepsTo_75 rfl ?_
  refine r_vir eSe_stepsTo_76 rfl rfl rfl t0 rfl rfl ?_
  refine c_Se_stepsMet t0 p0 tR hn (by omega) (fun i hi => hmin i hi) ?_
  show m_wp en _ mSe_stepsTo 79 [some (.ref S), some (.int (m_i (gl)))] [(.int (m_i ((a_met (J1 R) n gl))))] (T, m_I J1, P, L, z, w) Q
  refine r_iret eSe_stepsTo_79 rfl ?_
  exact hq
theorem l_Se_stepsTo (hS : se_at en S R U n A T P) (ok : a_ok C) (hC : sp_is J A C) (e5 : J S 5 = bw) (hbw : bw = 0 ∨ bw = 1) (e6 : J S 6 = by_) (hby : 0 ≤ by_ ∧ by_ < 1000) (e7 : J S 7 = most) (hmo : 0 ≤ most ∧ most ≤ 100) (hsz : a_sz C ≤ n) (hgl : a_is C γ = true ∧ gl = a_nb C γ)
    (hq : ∀ J' par' cod' r, se_fr J J' S R U → g_I C n bw most by_ Sd s (se_g J' S R U) par' cod' (J' S 2).toNat 0 → 0 ≤ J' S 2 → b_ans Sd (g_E C bw most by_) γ r → r = a_met (J' R) n gl → Q (some (.int (m_i r))) (T, m_I J', P, L, z, w)) :
    ∀ (f : Nat) (J1 : Nat → Nat → Int) (par cod : Nat → Nat), n ≤ f + (J1 S 2).toNat → se_fr J J1 S R U → g_I C n bw most by_ Sd s (se_g J1 S R U) par cod (J1 S 2).toNat 0 → 0 ≤ J1 S 2 →
      m_wp en (d + 2) mSe_stepsTo 16 [some (.ref S), some (.int (m_i gl))] [] (T, m_I J1, P, L, z, w) Q := by
  have hS0 := hS
  obtain ⟨⟨b0, t0⟩, ⟨p0, tR, bR⟩, ⟨p1, tU, bU⟩, ⟨p4, hA⟩, ⟨p8, hfm⟩, ⟨p9, hnr⟩, hn, hAS, hRS, hUS, hRU⟩ := hS0
  have hnb := a_nb_b ok hgl.1
  have eg := hgl.2
  intro f
  induction f with
  | zero =>
    intro J1 par cod hf0 hf hI h2
    have h3 : 0 ≤ J1 S 3 ∧ J1 S 3 ≤ n := hI.1.1
    have hk : (J1 S 2).toNat ≤ (J1 S 3).toNat := hI.2.1.2.2.2.2.2.2.2
    have h74 := l74_Se_stepsTo (d := d + 1) (L := L) (z := z) (w := w) (Q := Q) hS ok hsz hgl hI (hq J1 par cod _ hf hI h2 (by rw [eg]; exact g_I_ans hI hsz ok hgl.1 (Or.inl (by show (J1 S 3).toNat ≤ _; omega))) rfl)
    refine r_aln eSe_stepsTo_16 rfl ?_
    refine r_gete (x := J1 S 2) eSe_stepsTo_17 rfl (by decide) t0 rfl ?_
    refine r_aln eSe_stepsTo_20 rfl ?_
    refine r_gete (x := J1 S 3) eSe_stepsTo_21 rfl (by decide) t0 rfl ?_
    refine r_cge (tgt := 74) eSe_stepsTo_24 rfl ⟨(by omega), (by omega)⟩ ⟨(by omega), (by omega)⟩ (fun c24 => ?_) (fun c24 => ?_)
    · exact h74
    · exfalso; omega
  | succ f ih =>
    intro J1 par cod hf0 hf hI h2
    have h3 : 0 ≤ J1 S 3 ∧ J1 S 3 ≤ n := hI.1.1
    have hk : (J1 S 2).toNat ≤ (J1 S 3).toNat := hI.2.1.2.2.2.2.2.2.2
    have f5 : J1 S 5 = bw := (hf S 5 (by omega) (by omega) (by omega) (by omega) (by omega)).trans e5
    have f6 : J1 S 6 = by_ := (hf S 6 (by omega) (by omega) (by omega) (by omega) (by omega)).trans e6
    have f7 : J1 S 7 = most := (hf S 7 (by omega) (by omega) (by omega) (by omega) (by omega)).trans e7
    have hm : 0 ≤ J1 R gl.toNat ∧ J1 R gl.toNat < 2147483648 := hI.1.2.1 gl.toNat (by omega)
    have h74 : (J1 S 3 ≤ J1 S 2 ∨ J1 R gl.toNat ≠ 0) → m_wp en (d + 2) mSe_stepsTo 74 [some (.ref S), some (.int (m_i gl))] [] (T, m_I J1, P, L, z, w) Q := fun q =>
      l74_Se_stepsTo (d := d + 1) hS ok hsz hgl hI (hq J1 par cod _ hf hI h2 (by
        rw [eg]
        refine g_I_ans hI hsz ok hgl.1 ?_
        rcases q with q | q
        · left
          show (J1 S 3).toNat ≤ _
          omega
        · right
          rw [eg] at q
          exact q) rfl)
    obtain ⟨ix, eix⟩ : ∃ ix : Nat, J1 S 2 = (ix : Int) := ⟨(J1 S 2).toNat, by omega⟩
    have eix2 : (J1 S 2).toNat = ix := by omega
    rw [eix2] at hI
    refine r_aln eSe_stepsTo_16 rfl ?_
    refine r_gete (x := J1 S 2) eSe_stepsTo_17 rfl (by decide) t0 rfl ?_
    refine r_aln eSe_stepsTo_20 rfl ?_
    refine r_gete (x := J1 S 3) eSe_stepsTo_21 rfl (by decide) t0 rfl ?_
    refine r_cge (tgt := 74) eSe_stepsTo_24 rfl ⟨(by omega), (by omega)⟩ ⟨(by omega), (by omega)⟩ (fun c24 => ?_) (fun c24 => ?_)
    · exact h74 (by omega)
    · refine r_aln eSe_stepsTo_27 rfl ?_
      refine r_gete (x := J1 S 2) eSe_stepsTo_28 rfl (by decide) t0 rfl ?_
      refine r_aln eSe_stepsTo_31 rfl ?_
      refine m_getR eSe_stepsTo_32 rfl t0 p1 ?_
      refine r_alen eSe_stepsTo_35 tU (by decide) ?_
      refine r_cge (tgt := 74) eSe_stepsTo_36 rfl ⟨(by omega), (by omega)⟩ ⟨(by omega), (by omega)⟩ (fun c36 => ?_) (fun c36 => ?_)
      · exact h74 (by omega)
      · refine r_aln eSe_stepsTo_39 rfl ?_
        refine m_getR eSe_stepsTo_40 rfl t0 p0 ?_
        refine r_iln eSe_stepsTo_43 rfl ?_
        refine r_ialde (x := J1 R ((gl).toNat)) eSe_stepsTo_44 tR (by omega) (by omega) (by omega) rfl ?_
        refine r_zne (tgt := 74) eSe_stepsTo_45 rfl ⟨(by omega), (by omega)⟩ (fun c45 => ?_) (fun c45 => ?_)
        · exact h74 (by omega)
        · refine r_aln eSe_stepsTo_48 rfl ?_
          refine r_aln eSe_stepsTo_49 rfl ?_
          refine r_gete (x := J1 S 2) eSe_stepsTo_50 rfl (by decide) t0 rfl ?_
          rw [eix]
          refine r_aln eSe_stepsTo_53 rfl ?_
          refine r_gete (x := J1 S 6) eSe_stepsTo_54 rfl (by decide) t0 rfl ?_
          rw [f6]
          refine r_con eSe_stepsTo_57 ?_
          refine r_vir eSe_stepsTo_58 rfl rfl rfl t0 rfl rfl ?_
          refine c_Se_expand hS ok (se_fr_sp hS hf hC) f5 hbw f7 hmo hby (by omega) hsz hI.1 (ix := ix) (by omega) rfl (fun J2 k1 k2 k3 => ?_)
          show m_wp en _ mSe_stepsTo 61 [some (.ref S), some (.int (m_i (gl)))] [] (T, m_I J2, P, L, z, w) Q
          refine r_aln eSe_stepsTo_61 rfl ?_
          refine r_dupr eSe_stepsTo_62 ?_
          refine r_gete (x := J2 S 2) eSe_stepsTo_63 rfl (by decide) t0 rfl ?_
          refine r_con eSe_stepsTo_66 ?_
          refine r_add eSe_stepsTo_67 ?_
          refine r_put eSe_stepsTo_68 rfl t0 b0 (Or.inl rfl) ?_
          refine r_go (tgt := 16) eSe_stepsTo_71 rfl ?_
          obtain ⟨p2, c2, i2⟩ := g_I_ex ok hsz hn hI (show ix < (J1 S 3).toNat by omega) rfl k3
          have e2 : m_up J2 S 2 (J2 S 2 + 1) S 2 = (ix : Int) + 1 := by rw [m_up_same, k2, eix]
          refine ih (m_up J2 S 2 (J2 S 2 + 1)) p2 c2 (by rw [e2]; omega) (se_fr_hd (se_fr_t hf k1)) ?_ (by rw [e2]; omega)
          rw [e2, se_g_hd (by omega) (by omega), show ((ix : Int) + 1).toNat = ix + 1 by omega]
          exact i2
theorem c_Se_stepsTo (hS : se_at en S R U n A T P) (ok : a_ok C) (hC : sp_is J A C) (e5 : J S 5 = bw) (hbw : bw = 0 ∨ bw = 1) (e6 : J S 6 = by_) (hby : 0 ≤ by_ ∧ by_ < 1000) (e7 : J S 7 = most) (hmo : 0 ≤ most ∧ most ≤ 100) (hsz : a_sz C ≤ n) (hI : g_I C n bw most by_ Sd s (se_g J S R U) par cod (J S 2).toNat 0) (h2 : 0 ≤ J S 2) (hgl : gl = -1 ∨ (a_is C γ = true ∧ gl = a_nb C γ))
    (h0 : gl = -1 → Q (some (.int (m_i (-2)))) (T, m_I J, P, L, z, w))
    (hq : ∀ J' par' cod' r, a_is C γ = true → gl = a_nb C γ → se_fr J J' S R U → g_I C n bw most by_ Sd s (se_g J' S R U) par' cod' (J' S 2).toNat 0 → 0 ≤ J' S 2 → b_ans Sd (g_E C bw most by_) γ r → r = a_met (J' R) n gl → Q (some (.int (m_i r))) (T, m_I J', P, L, z, w)) :
    m_call en (d + 3) mSe_stepsTo [.ref S, .int (m_i gl)] (T, m_I J, P, L, z, w) Q := by
  have hS0 := hS
  obtain ⟨⟨b0, t0⟩, ⟨p0, tR, bR⟩, ⟨p1, tU, bU⟩, ⟨p4, hA⟩, ⟨p8, hfm⟩, ⟨p9, hnr⟩, hn, hAS, hRS, hUS, hRU⟩ := hS0
  have hg : gl = -1 ∨ (0 ≤ gl ∧ gl < n) := by
    rcases hgl with q | q
    · exact Or.inl q
    · have := a_nb_b ok q.1
      omega
  have h16 : 0 ≤ gl → m_wp en (d + 2) mSe_stepsTo 16 [some (.ref S), some (.int (m_i gl))] [] (T, m_I J, P, L, z, w) Q := fun q => by
    rcases hgl with r | r
    · omega
    · exact l_Se_stepsTo hS ok hC e5 hbw e6 hby e7 hmo hsz r (fun J' p' c' r' => hq J' p' c' r' r.1 r.2) n J par cod (by omega) se_fr_r hI h2
  refine m_into (by decide) (Nat.le_of_ble_eq_true rfl) rfl ?_
  show m_wp en _ mSe_stepsTo 0 [some (.ref S), some (.int (m_i (gl)))] [] (T, m_I J, P, L, z, w) Q
  refine r_iln eSe_stepsTo_0 rfl ?_
  refine r_zlt (tgt := 13) eSe_stepsTo_1 rfl ⟨(by omega), (by omega)⟩ (fun c1 => ?_) (fun c1 => ?_)
  · refine r_bip eSe_stepsTo_13 (by decide) ?_
    refine r_iret eSe_stepsTo_15 rfl ?_
    first | exact h0 (by omega) | (exfalso; omega)
  · refine r_iln eSe_stepsTo_4 rfl ?_
    refine r_aln eSe_stepsTo_5 rfl ?_
    refine m_getR eSe_stepsTo_6 rfl t0 p0 ?_
    refine r_alen eSe_stepsTo_9 tR (by decide) ?_
    refine r_clt (tgt := 16) eSe_stepsTo_10 rfl ⟨(by omega), (by omega)⟩ ⟨(by omega), (by omega)⟩ (fun c10 => ?_) (fun c10 => ?_)
    · exact h16 (by omega)
    · refine r_bip eSe_stepsTo_13 (by decide) ?_
      refine r_iret eSe_stepsTo_15 rfl ?_
      first | exact h0 (by omega) | (exfalso; omega)
theorem l_Se_countMet (hS : se_at en S R U n A T P) (ok : a_ok C) (hC : sp_is J A C) (e5 : J S 5 = bw) (hbw : bw = 0 ∨ bw = 1) (e6 : J S 6 = by_) (hby : 0 ≤ by_ ∧ by_ < 1000) (e7 : J S 7 = most) (hmo : 0 ≤ most ∧ most ≤ 100) (hsz : a_sz C ≤ n)
    (hq : ∀ J' par' cod', se_fr J J' S R U → g_I C n bw most by_ Sd s (se_g J' S R U) par' cod' (J' S 2).toNat 0 → 0 ≤ J' S 2 → J' S 2 = J' S 3 → Q (some (.int (m_i (J' S 3)))) (T, m_I J', P, L, z, w)) :
    ∀ (f : Nat) (J1 : Nat → Nat → Int) (par cod : Nat → Nat), n ≤ f + (J1 S 2).toNat → se_fr J J1 S R U → g_I C n bw most by_ Sd s (se_g J1 S R U) par cod (J1 S 2).toNat 0 → 0 ≤ J1 S 2 →
      m_wp en (d + 2) mSe_countMet 0 [some (.ref S)] [] (T, m_I J1, P, L, z, w) Q := by
  have hS0 := hS
  obtain ⟨⟨b0, t0⟩, ⟨p0, tR, bR⟩, ⟨p1, tU, bU⟩, ⟨p4, hA⟩, ⟨p8, hfm⟩, ⟨p9, hnr⟩, hn, hAS, hRS, hUS, hRU⟩ := hS0
  intro f
  induction f with
  | zero =>
    intro J1 par cod hf0 hf hI h2
    have h3 : 0 ≤ J1 S 3 ∧ J1 S 3 ≤ n := hI.1.1
    have hk : (J1 S 2).toNat ≤ (J1 S 3).toNat := hI.2.1.2.2.2.2.2.2.2
    refine r_aln eSe_countMet_0 rfl ?_
    refine r_gete (x := J1 S 2) eSe_countMet_1 rfl (by decide) t0 rfl ?_
    refine r_aln eSe_countMet_4 rfl ?_
    refine r_gete (x := J1 S 3) eSe_countMet_5 rfl (by decide) t0 rfl ?_
    refine r_cge (tgt := 49) eSe_countMet_8 rfl ⟨(by omega), (by omega)⟩ ⟨(by omega), (by omega)⟩ (fun c8 => ?_) (fun c8 => ?_)
    · refine r_aln eSe_countMet_49 rfl ?_
      refine r_gete (x := J1 S 3) eSe_countMet_50 rfl (by decide) t0 rfl ?_
      refine r_iret eSe_countMet_53 rfl ?_
      exact hq J1 par cod hf hI h2 (by omega)
    · exfalso; omega
  | succ f ih =>
    intro J1 par cod hf0 hf hI h2
    have h3 : 0 ≤ J1 S 3 ∧ J1 S 3 ≤ n := hI.1.1
    have hk : (J1 S 2).toNat ≤ (J1 S 3).toNat := hI.2.1.2.2.2.2.2.2.2
    have f5 : J1 S 5 = bw := (hf S 5 (by omega) (by omega) (by omega) (by omega) (by omega)).trans e5
    have f6 : J1 S 6 = by_ := (hf S 6 (by omega) (by omega) (by omega) (by omega) (by omega)).trans e6
    have f7 : J1 S 7 = most := (hf S 7 (by omega) (by omega) (by omega) (by omega) (by omega)).trans e7
    have hend : J1 S 3 ≤ J1 S 2 → Q (some (.int (m_i (J1 S 3)))) (T, m_I J1, P, L, z, w) := fun q => hq J1 par cod hf hI h2 (by omega)
    obtain ⟨ix, eix⟩ : ∃ ix : Nat, J1 S 2 = (ix : Int) := ⟨(J1 S 2).toNat, by omega⟩
    have eix2 : (J1 S 2).toNat = ix := by omega
    rw [eix2] at hI
    refine r_aln eSe_countMet_0 rfl ?_
    refine r_gete (x := J1 S 2) eSe_countMet_1 rfl (by decide) t0 rfl ?_
    refine r_aln eSe_countMet_4 rfl ?_
    refine r_gete (x := J1 S 3) eSe_countMet_5 rfl (by decide) t0 rfl ?_
    refine r_cge (tgt := 49) eSe_countMet_8 rfl ⟨(by omega), (by omega)⟩ ⟨(by omega), (by omega)⟩ (fun c8 => ?_) (fun c8 => ?_)
    · refine r_aln eSe_countMet_49 rfl ?_
      refine r_gete (x := J1 S 3) eSe_countMet_50 rfl (by decide) t0 rfl ?_
      refine r_iret eSe_countMet_53 rfl ?_
      exact hend (by omega)
    · refine r_aln eSe_countMet_11 rfl ?_
      refine r_gete (x := J1 S 2) eSe_countMet_12 rfl (by decide) t0 rfl ?_
      refine r_aln eSe_countMet_15 rfl ?_
      refine m_getR eSe_countMet_16 rfl t0 p1 ?_
      refine r_alen eSe_countMet_19 tU (by decide) ?_
      refine r_cge (tgt := 49) eSe_countMet_20 rfl ⟨(by omega), (by omega)⟩ ⟨(by omega), (by omega)⟩ (fun c20 => ?_) (fun c20 => ?_)
      · refine r_aln eSe_countMet_49 rfl ?_
        refine r_gete (x := J1 S 3) eSe_countMet_50 rfl (by decide) t0 rfl ?_
        refine r_iret eSe_countMet_53 rfl ?_
        exact hend (by omega)
      · refine r_aln eSe_countMet_23 rfl ?_
        refine r_aln eSe_countMet_24 rfl ?_
        refine r_gete (x := J1 S 2) eSe_countMet_25 rfl (by decide) t0 rfl ?_
        rw [eix]
        refine r_aln eSe_countMet_28 rfl ?_
        refine r_gete (x := J1 S 6) eSe_countMet_29 rfl (by decide) t0 rfl ?_
        rw [f6]
        refine r_con eSe_countMet_32 ?_
        refine r_vir eSe_countMet_33 rfl rfl rfl t0 rfl rfl ?_
        refine c_Se_expand hS ok (se_fr_sp hS hf hC) f5 hbw f7 hmo hby (by omega) hsz hI.1 (ix := ix) (by omega) rfl (fun J2 k1 k2 k3 => ?_)
        show m_wp en _ mSe_countMet 36 [some (.ref S)] [] (T, m_I J2, P, L, z, w) Q
        refine r_aln eSe_countMet_36 rfl ?_
        refine r_dupr eSe_countMet_37 ?_
        refine r_gete (x := J2 S 2) eSe_countMet_38 rfl (by decide) t0 rfl ?_
        refine r_con eSe_countMet_41 ?_
        refine r_add eSe_countMet_42 ?_
        refine r_put eSe_countMet_43 rfl t0 b0 (Or.inl rfl) ?_
        refine r_go (tgt := 0) eSe_countMet_46 rfl ?_
        obtain ⟨p2, c2, i2⟩ := g_I_ex ok hsz hn hI (show ix < (J1 S 3).toNat by omega) rfl k3
        have e2 : m_up J2 S 2 (J2 S 2 + 1) S 2 = (ix : Int) + 1 := by rw [m_up_same, k2, eix]
        refine ih (m_up J2 S 2 (J2 S 2 + 1)) p2 c2 (by rw [e2]; omega) (se_fr_hd (se_fr_t hf k1)) ?_ (by rw [e2]; omega)
        rw [e2, se_g_hd (by omega) (by omega), show ((ix : Int) + 1).toNat = ix + 1 by omega]
        exact i2
theorem c_Se_countMet (hS : se_at en S R U n A T P) (ok : a_ok C) (hC : sp_is J A C) (e5 : J S 5 = bw) (hbw : bw = 0 ∨ bw = 1) (e6 : J S 6 = by_) (hby : 0 ≤ by_ ∧ by_ < 1000) (e7 : J S 7 = most) (hmo : 0 ≤ most ∧ most ≤ 100) (hsz : a_sz C ≤ n) (hI : g_I C n bw most by_ Sd s (se_g J S R U) par cod (J S 2).toNat 0) (h2 : 0 ≤ J S 2)
    (hq : ∀ J' par' cod', se_fr J J' S R U → g_I C n bw most by_ Sd s (se_g J' S R U) par' cod' (J' S 2).toNat 0 → 0 ≤ J' S 2 → J' S 2 = J' S 3 → Q (some (.int (m_i (J' S 3)))) (T, m_I J', P, L, z, w)) :
    m_call en (d + 3) mSe_countMet [.ref S] (T, m_I J, P, L, z, w) Q := by
  refine m_into (by decide) (Nat.le_of_ble_eq_true rfl) rfl ?_
  exact l_Se_countMet hS ok hC e5 hbw e6 hby e7 hmo hsz hq n J par cod (by omega) se_fr_r hI h2
end SED
