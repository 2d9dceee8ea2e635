/-! a search of the class: all codes of one state -/
section SEB
variable {en : Nat → Nat} {d : Nat} {T : Nat → Option (Nat × Nat)} {J J0 J1 K H : Nat → Nat → Int} {P : Nat → Nat → Option Nat} {L : Nat → Nat → Int64} {z w A B R U S n X : Nat} {Q : m_Q} {σ τ : a_S} {C : a_C} {h : Int}
theorem po_get_up {a j b : Nat} {v : Int} (h : b ≠ a) : po_get (m_up J a j v) b = po_get J b := by
  unfold po_get
  rw [m_up_o h, m_up_o h, m_up_o h, m_up_o h, m_up_o h]
theorem po_get_po {a b : Nat} (h : b ≠ a) : po_get (po_put J a σ) b = po_get J b := by
  unfold po_get
  rw [po_put_o (fun q => h q.1), po_put_o (fun q => h q.1), po_put_o (fun q => h q.1), po_put_o (fun q => h q.1), po_put_o (fun q => h q.1)]
theorem se_fr_nr (hf : se_fr J J1 S R U) : se_fr J (po_put J1 (S + 4) τ) S R U := fun b i a1 a2 a3 a4 a5 => (po_put_o (fun q => a5 q.1)).trans (hf b i a1 a2 a3 a4 a5)
theorem se_fr_fm (hf : se_fr J J1 S R U) : se_fr J (po_put J1 (S + 3) τ) S R U := fun b i a1 a2 a3 a4 a5 => (po_put_o (fun q => a4 q.1)).trans (hf b i a1 a2 a3 a4 a5)
/-- one that is met for the first time, in the heap -/
def se_ad (J : Nat → Nat → Int) (S R U : Nat) (k v p : Int) : Nat → Nat → Int := m_up (m_up (m_up J R k.toNat v) U (J S 3).toNat p) S 3 (J S 3 + 1)
theorem se_fr_ad {k v p : Int} (hf : se_fr J J1 S R U) : se_fr J (se_ad J1 S R U k v p) S R U := fun b i a1 a2 a3 a4 a5 => by
  unfold se_ad
  rw [m_up_at, if_neg (fun q => a3 ⟨q.1, Or.inr q.2⟩), m_up_o a2, m_up_o a1]
  exact hf b i a1 a2 a3 a4 a5
theorem se_g_ad {p v : Int} (hRU : R ≠ U) (hRS : R ≠ S) (hUS : U ≠ S) (hp : p = a_pk τ) : se_g (se_ad J S R U (a_nb C τ) v p) S R U = g_add C (se_g J S R U) τ v := by
  subst hp
  unfold se_g se_ad g_add
  refine Prod.ext ?_ (Prod.ext ?_ ?_)
  · funext i
    simp only
    rw [m_up_o hRS, m_up_o hRU, m_up_at]
    by_cases q : i = (a_nb C τ).toNat
    · rw [if_pos ⟨rfl, q⟩, if_pos q]
    · rw [if_neg (fun h => q h.2), if_neg q]
  · funext i
    simp only
    rw [m_up_o hUS, m_up_at]
    by_cases q : i = (J S 3).toNat
    · rw [if_pos ⟨rfl, q⟩, if_pos q]
    · rw [if_neg (fun h => q h.2), if_neg q, m_up_o (fun e => hRU e.symm)]
  · exact m_up_same
theorem se_g_nr (hR : R ≠ S + 4) (hU : U ≠ S + 4) : se_g (po_put J (S + 4) τ) S R U = se_g J S R U := by
  unfold se_g
  have e1 : po_put J (S + 4) τ R = J R := funext (fun i => po_put_o (fun q => hR q.1))
  have e2 : po_put J (S + 4) τ U = J U := funext (fun i => po_put_o (fun q => hU q.1))
  rw [e1, e2, po_put_o (by omega)]
theorem se_g_fm (hR : R ≠ S + 3) (hU : U ≠ S + 3) : se_g (po_put J (S + 3) τ) S R U = se_g J S R U := by
  unfold se_g
  have e1 : po_put J (S + 3) τ R = J R := funext (fun i => po_put_o (fun q => hR q.1))
  have e2 : po_put J (S + 3) τ U = J U := funext (fun i => po_put_o (fun q => hU q.1))
  rw [e1, e2, po_put_o (by omega)]
theorem g_nx_sm {bw c : Int} (h : a_p5 σ) (hc : 0 ≤ c ∧ c < 9) : a_sm (g_nx bw σ c) := by
  unfold g_nx
  split
  · exact a_step_sm (a_p5_t h) hc (by omega)
  · exact a_back_sm (a_p5_t h) hc
/-- rows and objects of a search are others -/
def se_ne (S R U : Nat) : Prop := R ≠ S ∧ R ≠ S + 3 ∧ R ≠ S + 4 ∧ U ≠ S ∧ U ≠ S + 3 ∧ U ≠ S + 4 ∧ R ≠ U
theorem se_at_ne (hS : se_at en S R U n A T P) : se_ne S R U := by
  obtain ⟨-, -, -, -, -, -, -, hA, hR, hU, hRU⟩ := hS
  exact ⟨by omega, by omega, by omega, by omega, by omega, by omega, hRU⟩
/-- what holds while the codes are tried -/
def se_b (J J1 : Nat → Nat → Int) (S R U n : Nat) (C : a_C) (σ : a_S) : Prop := se_fr J J1 S R U ∧ J1 S 2 = J S 2 ∧ po_get J1 (S + 3) = σ ∧ (∀ i : Nat, (i : Int) < a_sz C → 0 ≤ J1 R i ∧ J1 R i < 2147483648) ∧ (0 ≤ J1 S 3 ∧ J1 S 3 ≤ n)
theorem se_b_nr (h : se_b J J1 S R U n C σ) (r4 : R ≠ S + 4) : se_b J (po_put J1 (S + 4) τ) S R U n C σ := by
  obtain ⟨h1, h2, h3, h4, h5⟩ := h
  refine ⟨se_fr_nr h1, ?_, ?_, fun i hi => ?_, ?_⟩
  · rw [po_put_o (by omega)]; exact h2
  · rw [po_get_po (by omega)]; exact h3
  · rw [po_put_o (fun q => r4 q.1)]; exact h4 i hi
  · rw [po_put_o (by omega)]; exact h5
theorem se_b_ad (h : se_b J J1 S R U n C σ) (r0 : R ≠ S) (r3 : R ≠ S + 3) (r4 : R ≠ S + 4) (u0 : U ≠ S) (u3 : U ≠ S + 3) (hRU : R ≠ U) {v : Int} (hv : 0 ≤ v ∧ v < 2147483648) (ht : J1 S 3 < n) : se_b J (se_ad (po_put J1 (S + 4) τ) S R U (a_nb C τ) v (a_pk τ)) S R U n C σ := by
  obtain ⟨h1, h2, h3, h4, h5⟩ := h
  have e3 : po_put J1 (S + 4) τ S 3 = J1 S 3 := po_put_o (by omega)
  refine ⟨se_fr_ad (se_fr_nr h1), ?_, ?_, fun i hi => ?_, ?_⟩
  · unfold se_ad
    rw [m_up_j (by omega), m_up_o (fun e => u0 e.symm), m_up_o (fun e => r0 e.symm), po_put_o (by omega)]
    exact h2
  · unfold se_ad
    rw [po_get_up (by omega), po_get_up (fun e => u3 e.symm), po_get_up (fun e => r3 e.symm), po_get_po (by omega)]
    exact h3
  · unfold se_ad
    rw [m_up_o r0, m_up_o hRU, m_up_at]
    by_cases e : i = (a_nb C τ).toNat
    · rw [if_pos ⟨rfl, e⟩]; exact hv
    · rw [if_neg (fun x => e x.2), po_put_o (fun q => r4 q.1)]; exact h4 i hi
  · unfold se_ad
    rw [m_up_same, e3]
    omega
theorem l_Se_expand (hS : se_at en S R U n A T P) (ok : a_ok C) (hC : sp_is J A C) (hσ : a_p5 σ) {bw most by_ st ix ct : Int} (e5 : J S 5 = bw) (hbw : bw = 0 ∨ bw = 1) (e7 : J S 7 = most) (hmo : 0 ≤ most ∧ most ≤ 100) (hby : 0 ≤ by_ ∧ by_ < 1000) (hst : 0 ≤ st ∧ st ≤ 1000000) (hsz : a_sz C ≤ n)
    (hq : ∀ J', se_fr J J' S R U → J' S 2 = J S 2 → se_g J' S R U = g_all C n bw most by_ σ st (se_g J S R U) 9 → Q none (T, m_I J', P, L, z, w)) :
    ∀ (r k : Nat), k + r = 9 → ∀ (J1 : Nat → Nat → Int) (o6 : Option Value), se_b J J1 S R U n C σ → se_g J1 S R U = g_all C n bw most by_ σ st (se_g J S R U) k →
      m_wp en (d + 1) mSe_expand 49 [some (.ref S), some (.int (m_i ix)), some (.int (m_i by_)), some (.int (m_i ct)), some (.int (m_i st)), some (.int (m_i (k : Int))), o6] [] (T, m_I J1, P, L, z, w) Q := by
  have hS0 := hS
  obtain ⟨⟨b0, t0⟩, ⟨p0, tR, bR⟩, ⟨p1, tU, bU⟩, ⟨p4, hA⟩, ⟨p8, hfm⟩, ⟨p9, hnr⟩, hn, hAS, hRS, hUS, hRU⟩ := hS0
  have hne := se_at_ne hS
  have hbr : 0 ≤ bw ∧ bw ≤ 1 := by omega
  clear hbw hAS hRS hUS hRU
  intro r
  induction r with
  | zero =>
    intro k hk J1 o6 hB hg
    obtain rfl : k = 9 := by omega
    refine r_il eSe_expand_49 rfl ?_
    refine r_bip eSe_expand_51 (by decide) ?_
    refine r_cge (tgt := 243) eSe_expand_53 rfl ⟨(by omega), (by omega)⟩ ⟨(by omega), (by omega)⟩ (fun c53 => ?_) (fun c53 => ?_)
    · refine r_ret eSe_expand_243 rfl ?_
      exact hq J1 hB.1 hB.2.1 hg
    · exfalso; omega
  | succ r ih =>
    intro k hk J1 o6 hB hg
    obtain ⟨hf, h2, hσ1, hb, h3⟩ := hB
    have hB : se_b J J1 S R U n C σ := ⟨hf, h2, hσ1, hb, h3⟩
    have hi := ih (k + 1) (by omega)
    rw [show ((k + 1 : Nat) : Int) = (k : Int) + 1 by omega] at hi
    have f5 : J1 S 5 = bw := (hf S 5 (fun e => hne.1 e.symm) (fun e => hne.2.2.2.1 e.symm) (by omega) (by omega) (by omega)).trans e5
    have f7 : J1 S 7 = most := (hf S 7 (fun e => hne.1 e.symm) (fun e => hne.2.2.2.1 e.symm) (by omega) (by omega) (by omega)).trans e7
    have hbit := m_bit (x := by_) (k := (k : Int)) ⟨by omega, by omega⟩ k rfl (by omega)
    obtain ⟨bi, ebi⟩ : ∃ bi, bi = by_ / ((2 ^ k : Nat) : Int) % 2 := ⟨_, rfl⟩
    rw [← ebi] at hbit
    have hbi : 0 ≤ bi ∧ bi ≤ 1 := by omega
    obtain ⟨τ, eτ⟩ : ∃ τ, τ = g_nx bw σ (k : Int) := ⟨_, rfl⟩
    have hτs : a_sm τ := by rw [eτ]; exact g_nx_sm hσ ⟨by omega, by omega⟩
    have hτ2 : -100000 ≤ τ.2.2.1 ∧ τ.2.2.1 ≤ 100000 := hτs.2.2.1
    have eb : bw = 1 → a_back σ (k : Int) = τ := fun q => by rw [eτ]; unfold g_nx; rw [if_neg (by omega)]
    have es : bw = 0 → a_step σ (k : Int) 0 = τ := fun q => by rw [eτ]; unfold g_nx; rw [if_pos q]
    obtain ⟨y, ey⟩ : ∃ y, y = a_b (a_is C τ) := ⟨_, rfl⟩
    have hy1 : y = 1 → a_is C τ = true := fun q => by
      rw [ey] at q
      cases e : a_is C τ with
      | true => rfl
      | false => rw [e] at q; simp [a_b] at q
    have hy2 : a_is C τ = true → y = 1 := fun q => by rw [ey]; exact a_b_t q
    have hnb : (y = 1 ∧ 0 ≤ a_nb C τ ∧ a_nb C τ < a_sz C) ∨ (y = 0 ∧ a_nb C τ = -1) := by
      cases e : a_is C τ with
      | true => exact Or.inl ⟨hy2 e, a_nb_b ok e⟩
      | false => exact Or.inr ⟨by rw [ey, e]; rfl, by unfold a_nb; rw [if_neg (by rw [e]; decide)]⟩
    have hp5 : 0 ≤ a_nb C τ → a_p5 τ := fun q => a_is_p5 ok (hy1 (by omega))
    have hbn : 0 ≤ a_nb C τ → 0 ≤ J1 R (a_nb C τ).toNat ∧ J1 R (a_nb C τ).toNat < 2147483648 := fun q => hb _ (by omega)
    have eg1 : (se_g J1 S R U).1 (a_nb C τ).toNat = J1 R (a_nb C τ).toNat := rfl
    have eg3 : (se_g J1 S R U).2.2 = J1 S 3 := rfl
    have hno : ¬ (bi = 1 ∧ (-most ≤ τ.2.2.1 ∧ τ.2.2.1 ≤ most) ∧ y = 1 ∧ J1 R (a_nb C τ).toNat = 0 ∧ J1 S 3 < n) → g_all C n bw most by_ σ st (se_g J S R U) (k + 1) = g_all C n bw most by_ σ st (se_g J S R U) k := fun q => by
      show g_one _ _ _ _ _ _ _ _ _ = _
      unfold g_one
      rw [← eτ, ← ebi, ← hg, eg1, eg3, if_neg (fun e => q ⟨e.1, e.2.1, hy2 e.2.2.1, e.2.2.2.1, e.2.2.2.2⟩)]
    have hyes : (bi = 1 ∧ (-most ≤ τ.2.2.1 ∧ τ.2.2.1 ≤ most) ∧ y = 1 ∧ J1 R (a_nb C τ).toNat = 0 ∧ J1 S 3 < n) → g_all C n bw most by_ σ st (se_g J S R U) (k + 1) = g_add C (se_g J1 S R U) τ (st * 16 + ((k : Int) + 1)) := fun q => by
      show g_one _ _ _ _ _ _ _ _ _ = _
      unfold g_one
      rw [← eτ, ← ebi, ← hg, eg1, eg3, if_pos ⟨q.1, q.2.1, hy1 q.2.2.1, q.2.2.2.1, q.2.2.2.2⟩]
    have hvb : 0 ≤ st * 16 + ((k : Int) + 1) ∧ st * 16 + ((k : Int) + 1) < 2147483648 := by omega
    have hskip : ¬ bi = 1 → m_wp en (d + 1) mSe_expand 49 [some (.ref S), some (.int (m_i ix)), some (.int (m_i by_)), some (.int (m_i ct)), some (.int (m_i st)), some (.int (m_i ((k : Int) + 1))), o6] [] (T, m_I J1, P, L, z, w) Q := fun q =>
      hi J1 o6 hB (by rw [hno (fun e => q e.1)]; exact hg)
    have hnear : ∀ o, ¬ (bi = 1 ∧ (-most ≤ τ.2.2.1 ∧ τ.2.2.1 ≤ most) ∧ y = 1 ∧ J1 R (a_nb C τ).toNat = 0 ∧ J1 S 3 < n) → m_wp en (d + 1) mSe_expand 49 [some (.ref S), some (.int (m_i ix)), some (.int (m_i by_)), some (.int (m_i ct)), some (.int (m_i st)), some (.int (m_i ((k : Int) + 1))), o] [] (T, m_I (po_put J1 (S + 4) τ), P, L, z, w) Q := fun o q =>
      hi (po_put J1 (S + 4) τ) o (se_b_nr hB hne.2.2.1) (by rw [hno q, se_g_nr hne.2.2.1 hne.2.2.2.2.2.1]; exact hg)
    have hadd : ∀ o, (bi = 1 ∧ (-most ≤ τ.2.2.1 ∧ τ.2.2.1 ≤ most) ∧ y = 1 ∧ J1 R (a_nb C τ).toNat = 0 ∧ J1 S 3 < n) → m_wp en (d + 1) mSe_expand 49 [some (.ref S), some (.int (m_i ix)), some (.int (m_i by_)), some (.int (m_i ct)), some (.int (m_i st)), some (.int (m_i ((k : Int) + 1))), o] [] (T, m_I (se_ad (po_put J1 (S + 4) τ) S R U (a_nb C τ) (st * 16 + ((k : Int) + 1)) (a_pk τ)), P, L, z, w) Q := fun o q =>
      hi (se_ad (po_put J1 (S + 4) τ) S R U (a_nb C τ) (st * 16 + ((k : Int) + 1)) (a_pk τ)) o (se_b_ad hB hne.1 hne.2.1 hne.2.2.1 hne.2.2.2.1 hne.2.2.2.2.1 hne.2.2.2.2.2.2 hvb q.2.2.2.2) (by rw [se_g_ad hne.2.2.2.2.2.2 hne.1 hne.2.2.2.1 rfl, se_g_nr hne.2.2.1 hne.2.2.2.2.2.1]; exact (hyes q).symm)
    have hor : m_or (m_shl st 4) ((k : Int) + 1) = st * 16 + ((k : Int) + 1) := by
      have p4 : ((2 ^ 4 : Nat) : Int) = 16 := rfl
      have s4 := m_shl_v (x := st) (k := 4) (by omega) 4 rfl (by omega) (by rw [p4]; omega)
      rw [p4] at s4
      have o4 := m_or_d (q := st) (b := (k : Int) + 1) 4 (by omega) (by rw [p4]; omega) (by rw [p4]; omega)
      rw [p4] at o4
      rw [s4, o4]
    clear hno hyes ebi hb hi ih
    unfold se_ad at hadd
    rw [show po_put J1 (S + 4) τ S 3 = J1 S 3 from po_put_o (by omega)] at hadd
    refine r_il eSe_expand_49 rfl ?_
    refine r_bip eSe_expand_51 (by decide) ?_
    refine r_cge (tgt := 243) eSe_expand_53 rfl ⟨(by omega), (by omega)⟩ ⟨(by omega), (by omega)⟩ (fun c53 => ?_) (fun c53 => ?_)
    · exfalso; omega
    · refine r_iln eSe_expand_56 rfl ?_
      refine r_il eSe_expand_57 rfl ?_
      refine r_shr eSe_expand_59 ?_
      refine r_con eSe_expand_60 ?_
      refine r_and eSe_expand_61 ?_
      rw [hbit]
      refine r_zeq (tgt := 237) eSe_expand_62 rfl ⟨(by omega), (by omega)⟩ (fun c62 => ?_) (fun c62 => ?_)
      · refine r_inc (ls' := [some (.ref S), some (.int (m_i (ix))), some (.int (m_i (by_))), some (.int (m_i (ct))), some (.int (m_i (st))), some (.int (m_i ((k : Int) + 1))), o6]) eSe_expand_237 rfl rfl ?_
        refine r_go (tgt := 49) eSe_expand_240 rfl ?_
        first | exact hskip (by omega) | exact hadd _ (by omega) | exact hnear _ (by omega)
      · refine r_aln eSe_expand_65 rfl ?_
        refine m_getR eSe_expand_66 rfl t0 p9 ?_
        refine r_aln eSe_expand_69 rfl ?_
        refine m_getR eSe_expand_70 rfl t0 p8 ?_
        refine r_vir eSe_expand_73 rfl rfl rfl hnr.2.1 rfl rfl ?_
        refine c_Po_set hnr hfm (by omega) ?_
        rw [hσ1]
        show m_wp en _ mSe_expand 76 [some (.ref S), some (.int (m_i (ix))), some (.int (m_i (by_))), some (.int (m_i (ct))), some (.int (m_i (st))), some (.int (m_i ((k : Int)))), o6] [] (T, m_I (((po_put J1 (S + 4) σ))), P, L, z, w) Q
        refine r_aln eSe_expand_76 rfl ?_
        refine r_gete (x := J1 S 5) eSe_expand_77 rfl (by decide) t0 (by rw [po_put_o (by first | (exact fun q => absurd q.1 hne.2.2.1) | (exact fun q => absurd q.1 hne.2.2.2.2.2.1) | (exact fun q => absurd q.1.symm hne.1) | (exact fun q => absurd q.1.symm hne.2.2.2.1) | (exact fun q => absurd q.1 hne.2.2.2.2.2.2) | (exact fun q => absurd q.1.symm hne.2.2.2.2.2.2) | omega)]) ?_
        refine r_zeq (tgt := 95) eSe_expand_80 rfl ⟨(by omega), (by omega)⟩ (fun c80 => ?_) (fun c80 => ?_)
        · refine r_aln eSe_expand_95 rfl ?_
          refine m_getR eSe_expand_96 rfl t0 p9 ?_
          refine r_il eSe_expand_99 rfl ?_
          refine r_con eSe_expand_101 ?_
          refine r_vir eSe_expand_102 rfl rfl rfl hnr.2.1 rfl rfl ?_
          refine c_Po_move hnr (by rw [po_get_put]; exact a_p5_sm hσ) ⟨by omega, by omega⟩ ⟨by omega, by omega⟩ ?_
          rw [po_get_put, po_put_put, es (by omega)]
          show m_wp en _ mSe_expand 105 [some (.ref S), some (.int (m_i (ix))), some (.int (m_i (by_))), some (.int (m_i (ct))), some (.int (m_i (st))), some (.int (m_i ((k : Int)))), o6] [] (T, m_I (((po_put J1 (S + 4) τ))), P, L, z, w) Q
          refine r_aln eSe_expand_105 rfl ?_
          refine m_getR eSe_expand_106 rfl t0 p9 ?_
          refine r_gete (x := τ.2.2.1) eSe_expand_109 rfl (by decide) hnr.2.1 (by rw [po_put_2]) ?_
          refine r_aln eSe_expand_112 rfl ?_
          refine r_gete (x := J1 S 7) eSe_expand_113 rfl (by decide) t0 (by rw [po_put_o (by first | (exact fun q => absurd q.1 hne.2.2.1) | (exact fun q => absurd q.1 hne.2.2.2.2.2.1) | (exact fun q => absurd q.1.symm hne.1) | (exact fun q => absurd q.1.symm hne.2.2.2.1) | (exact fun q => absurd q.1 hne.2.2.2.2.2.2) | (exact fun q => absurd q.1.symm hne.2.2.2.2.2.2) | omega)]) ?_
          refine r_cgt (tgt := 134) eSe_expand_116 rfl ⟨(by omega), (by omega)⟩ ⟨(by omega), (by omega)⟩ (fun c116 => ?_) (fun c116 => ?_)
          · refine r_con eSe_expand_134 ?_
            refine r_go (tgt := 149) eSe_expand_135 rfl ?_
            refine r_is (ls' := [some (.ref S), some (.int (m_i (ix))), some (.int (m_i (by_))), some (.int (m_i (ct))), some (.int (m_i (st))), some (.int (m_i ((k : Int)))), some (.int (m_i ((-1))))]) eSe_expand_149 (Nat.le_of_ble_eq_true rfl) rfl ?_
            refine r_il eSe_expand_151 rfl ?_
            refine r_zlt (tgt := 237) eSe_expand_153 rfl ⟨(by omega), (by omega)⟩ (fun c153 => ?_) (fun c153 => ?_)
            · refine r_inc (ls' := [some (.ref S), some (.int (m_i (ix))), some (.int (m_i (by_))), some (.int (m_i (ct))), some (.int (m_i (st))), some (.int (m_i ((k : Int) + 1))), some (.int (m_i ((-1))))]) eSe_expand_237 rfl rfl ?_
              refine r_go (tgt := 49) eSe_expand_240 rfl ?_
              first | exact hskip (by omega) | exact hadd _ (by omega) | exact hnear _ (by omega)
            · exfalso; omega
          · refine r_aln eSe_expand_119 rfl ?_
            refine m_getR eSe_expand_120 rfl t0 p9 ?_
            refine r_gete (x := τ.2.2.1) eSe_expand_123 rfl (by decide) hnr.2.1 (by rw [po_put_2]) ?_
            refine r_aln eSe_expand_126 rfl ?_
            refine r_gete (x := J1 S 7) eSe_expand_127 rfl (by decide) t0 (by rw [po_put_o (by first | (exact fun q => absurd q.1 hne.2.2.1) | (exact fun q => absurd q.1 hne.2.2.2.2.2.1) | (exact fun q => absurd q.1.symm hne.1) | (exact fun q => absurd q.1.symm hne.2.2.2.1) | (exact fun q => absurd q.1 hne.2.2.2.2.2.2) | (exact fun q => absurd q.1.symm hne.2.2.2.2.2.2) | omega)]) ?_
            refine r_neg eSe_expand_130 ?_
            refine r_cge (tgt := 138) eSe_expand_131 rfl ⟨(by omega), (by omega)⟩ ⟨(by omega), (by omega)⟩ (fun c131 => ?_) (fun c131 => ?_)
            · refine r_aln eSe_expand_138 rfl ?_
              refine m_getR eSe_expand_139 rfl t0 p4 ?_
              refine r_aln eSe_expand_142 rfl ?_
              refine m_getR eSe_expand_143 rfl t0 p9 ?_
              refine r_vir eSe_expand_146 rfl rfl rfl hA.2.1 rfl rfl ?_
              refine c_Sp_numberOf hA hnr (se_fr_sp hS (se_fr_nr hf) hC) ok (by rw [po_get_put]; exact hτs) ?_
              rw [po_get_put]
              show m_wp en _ mSe_expand 149 [some (.ref S), some (.int (m_i (ix))), some (.int (m_i (by_))), some (.int (m_i (ct))), some (.int (m_i (st))), some (.int (m_i ((k : Int)))), o6] [(.int (m_i ((a_nb C τ))))] (T, m_I (((((po_put J1 (S + 4) τ))))), P, L, z, w) Q
              refine r_is (ls' := [some (.ref S), some (.int (m_i (ix))), some (.int (m_i (by_))), some (.int (m_i (ct))), some (.int (m_i (st))), some (.int (m_i ((k : Int)))), some (.int (m_i ((a_nb C τ))))]) eSe_expand_149 (Nat.le_of_ble_eq_true rfl) rfl ?_
              refine r_il eSe_expand_151 rfl ?_
              refine r_zlt (tgt := 237) eSe_expand_153 rfl ⟨(by omega), (by omega)⟩ (fun c153 => ?_) (fun c153 => ?_)
              · refine r_inc (ls' := [some (.ref S), some (.int (m_i (ix))), some (.int (m_i (by_))), some (.int (m_i (ct))), some (.int (m_i (st))), some (.int (m_i ((k : Int) + 1))), some (.int (m_i ((a_nb C τ))))]) eSe_expand_237 rfl rfl ?_
                refine r_go (tgt := 49) eSe_expand_240 rfl ?_
                first | exact hskip (by omega) | exact hadd _ (by omega) | exact hnear _ (by omega)
              · refine r_il eSe_expand_156 rfl ?_
                refine r_aln eSe_expand_158 rfl ?_
                refine m_getR eSe_expand_159 rfl t0 p0 ?_
                refine r_alen eSe_expand_162 tR (by decide) ?_
                refine r_cge (tgt := 237) eSe_expand_163 rfl ⟨(by omega), (by omega)⟩ ⟨(by omega), (by omega)⟩ (fun c163 => ?_) (fun c163 => ?_)
                · refine r_inc (ls' := [some (.ref S), some (.int (m_i (ix))), some (.int (m_i (by_))), some (.int (m_i (ct))), some (.int (m_i (st))), some (.int (m_i ((k : Int) + 1))), some (.int (m_i ((a_nb C τ))))]) eSe_expand_237 rfl rfl ?_
                  refine r_go (tgt := 49) eSe_expand_240 rfl ?_
                  first | exact hskip (by omega) | exact hadd _ (by omega) | exact hnear _ (by omega)
                · refine r_aln eSe_expand_166 rfl ?_
                  refine m_getR eSe_expand_167 rfl t0 p0 ?_
                  have hbn2 := hbn (by omega)
                  refine r_il eSe_expand_170 rfl ?_
                  refine r_ialde (x := J1 R (((a_nb C τ)).toNat)) eSe_expand_172 tR (by omega) (by omega) (by omega) (by rw [po_put_o (by first | (exact fun q => absurd q.1 hne.2.2.1) | (exact fun q => absurd q.1 hne.2.2.2.2.2.1) | (exact fun q => absurd q.1.symm hne.1) | (exact fun q => absurd q.1.symm hne.2.2.2.1) | (exact fun q => absurd q.1 hne.2.2.2.2.2.2) | (exact fun q => absurd q.1.symm hne.2.2.2.2.2.2) | omega)]) ?_
                  refine r_zne (tgt := 237) eSe_expand_173 rfl ⟨(by omega), (by omega)⟩ (fun c173 => ?_) (fun c173 => ?_)
                  · refine r_inc (ls' := [some (.ref S), some (.int (m_i (ix))), some (.int (m_i (by_))), some (.int (m_i (ct))), some (.int (m_i (st))), some (.int (m_i ((k : Int) + 1))), some (.int (m_i ((a_nb C τ))))]) eSe_expand_237 rfl rfl ?_
                    refine r_go (tgt := 49) eSe_expand_240 rfl ?_
                    first | exact hskip (by omega) | exact hadd _ (by omega) | exact hnear _ (by omega)
                  · refine r_aln eSe_expand_176 rfl ?_
                    refine r_gete (x := J1 S 3) eSe_expand_177 rfl (by decide) t0 (by rw [po_put_o (by first | (exact fun q => absurd q.1 hne.2.2.1) | (exact fun q => absurd q.1 hne.2.2.2.2.2.1) | (exact fun q => absurd q.1.symm hne.1) | (exact fun q => absurd q.1.symm hne.2.2.2.1) | (exact fun q => absurd q.1 hne.2.2.2.2.2.2) | (exact fun q => absurd q.1.symm hne.2.2.2.2.2.2) | omega)]) ?_
                    refine r_zlt (tgt := 237) eSe_expand_180 rfl ⟨(by omega), (by omega)⟩ (fun c180 => ?_) (fun c180 => ?_)
                    · refine r_inc (ls' := [some (.ref S), some (.int (m_i (ix))), some (.int (m_i (by_))), some (.int (m_i (ct))), some (.int (m_i (st))), some (.int (m_i ((k : Int) + 1))), some (.int (m_i ((a_nb C τ))))]) eSe_expand_237 rfl rfl ?_
                      refine r_go (tgt := 49) eSe_expand_240 rfl ?_
                      first | exact hskip (by omega) | exact hadd _ (by omega) | exact hnear _ (by omega)
                    · refine r_aln eSe_expand_183 rfl ?_
                      refine r_gete (x := J1 S 3) eSe_expand_184 rfl (by decide) t0 (by rw [po_put_o (by first | (exact fun q => absurd q.1 hne.2.2.1) | (exact fun q => absurd q.1 hne.2.2.2.2.2.1) | (exact fun q => absurd q.1.symm hne.1) | (exact fun q => absurd q.1.symm hne.2.2.2.1) | (exact fun q => absurd q.1 hne.2.2.2.2.2.2) | (exact fun q => absurd q.1.symm hne.2.2.2.2.2.2) | omega)]) ?_
                      refine r_aln eSe_expand_187 rfl ?_
                      refine m_getR eSe_expand_188 rfl t0 p1 ?_
                      refine r_alen eSe_expand_191 tU (by decide) ?_
                      refine r_cge (tgt := 237) eSe_expand_192 rfl ⟨(by omega), (by omega)⟩ ⟨(by omega), (by omega)⟩ (fun c192 => ?_) (fun c192 => ?_)
                      · refine r_inc (ls' := [some (.ref S), some (.int (m_i (ix))), some (.int (m_i (by_))), some (.int (m_i (ct))), some (.int (m_i (st))), some (.int (m_i ((k : Int) + 1))), some (.int (m_i ((a_nb C τ))))]) eSe_expand_237 rfl rfl ?_
                        refine r_go (tgt := 49) eSe_expand_240 rfl ?_
                        first | exact hskip (by omega) | exact hadd _ (by omega) | exact hnear _ (by omega)
                      · refine r_aln eSe_expand_195 rfl ?_
                        refine m_getR eSe_expand_196 rfl t0 p0 ?_
                        refine r_il eSe_expand_199 rfl ?_
                        refine r_il eSe_expand_201 rfl ?_
                        refine r_con eSe_expand_203 ?_
                        refine r_shl eSe_expand_204 ?_
                        refine r_il eSe_expand_205 rfl ?_
                        refine r_con eSe_expand_207 ?_
                        refine r_add eSe_expand_208 ?_
                        refine r_or eSe_expand_209 ?_
                        rw [hor]
                        refine r_iast eSe_expand_210 tR (by omega) (by omega) (by omega) bR ?_
                        refine r_aln eSe_expand_211 rfl ?_
                        refine m_getR eSe_expand_212 rfl t0 p1 ?_
                        refine r_aln eSe_expand_215 rfl ?_
                        refine r_gete (x := J1 S 3) eSe_expand_216 rfl (by decide) t0 (by rw [m_up_at, if_neg (by first | (exact fun q => absurd q.1 hne.2.2.1) | (exact fun q => absurd q.1 hne.2.2.2.2.2.1) | (exact fun q => absurd q.1.symm hne.1) | (exact fun q => absurd q.1.symm hne.2.2.2.1) | (exact fun q => absurd q.1 hne.2.2.2.2.2.2) | (exact fun q => absurd q.1.symm hne.2.2.2.2.2.2) | omega), po_put_o (by first | (exact fun q => absurd q.1 hne.2.2.1) | (exact fun q => absurd q.1 hne.2.2.2.2.2.1) | (exact fun q => absurd q.1.symm hne.1) | (exact fun q => absurd q.1.symm hne.2.2.2.1) | (exact fun q => absurd q.1 hne.2.2.2.2.2.2) | (exact fun q => absurd q.1.symm hne.2.2.2.2.2.2) | omega)]) ?_
                        refine r_aln eSe_expand_219 rfl ?_
                        refine m_getR eSe_expand_220 rfl t0 p9 ?_
                        refine r_vir eSe_expand_223 rfl rfl rfl hnr.2.1 rfl rfl ?_
                        refine c_Po_packed hnr (by rw [po_get_up (fun e => hne.2.2.1 e.symm), po_get_put]; exact hp5 (by omega)) ?_
                        rw [po_get_up (fun e => hne.2.2.1 e.symm), po_get_put]
                        show m_wp en _ mSe_expand 226 [some (.ref S), some (.int (m_i (ix))), some (.int (m_i (by_))), some (.int (m_i (ct))), some (.int (m_i (st))), some (.int (m_i ((k : Int)))), some (.int (m_i ((a_nb C τ))))] [(.int (m_i ((a_pk τ)))), (.int (m_i (J1 S 3))), (.ref U)] (T, m_I ((((m_up ((((po_put J1 (S + 4) τ)))) R (((a_nb C τ)).toNat) (st * 16 + ((k : Int) + 1)))))), P, L, z, w) Q
                        refine r_iast eSe_expand_226 tU (by omega) (by omega) (by omega) bU ?_
                        refine r_aln eSe_expand_227 rfl ?_
                        refine r_dupr eSe_expand_228 ?_
                        refine r_gete (x := J1 S 3) eSe_expand_229 rfl (by decide) t0 (by rw [m_up_at, if_neg (by first | (exact fun q => absurd q.1 hne.2.2.1) | (exact fun q => absurd q.1 hne.2.2.2.2.2.1) | (exact fun q => absurd q.1.symm hne.1) | (exact fun q => absurd q.1.symm hne.2.2.2.1) | (exact fun q => absurd q.1 hne.2.2.2.2.2.2) | (exact fun q => absurd q.1.symm hne.2.2.2.2.2.2) | omega), m_up_at, if_neg (by first | (exact fun q => absurd q.1 hne.2.2.1) | (exact fun q => absurd q.1 hne.2.2.2.2.2.1) | (exact fun q => absurd q.1.symm hne.1) | (exact fun q => absurd q.1.symm hne.2.2.2.1) | (exact fun q => absurd q.1 hne.2.2.2.2.2.2) | (exact fun q => absurd q.1.symm hne.2.2.2.2.2.2) | omega), po_put_o (by first | (exact fun q => absurd q.1 hne.2.2.1) | (exact fun q => absurd q.1 hne.2.2.2.2.2.1) | (exact fun q => absurd q.1.symm hne.1) | (exact fun q => absurd q.1.symm hne.2.2.2.1) | (exact fun q => absurd q.1 hne.2.2.2.2.2.2) | (exact fun q => absurd q.1.symm hne.2.2.2.2.2.2) | omega)]) ?_
                        refine r_con eSe_expand_232 ?_
                        refine r_add eSe_expand_233 ?_
                        refine r_put eSe_expand_234 rfl t0 b0 (Or.inl rfl) ?_
                        refine r_inc (ls' := [some (.ref S), some (.int (m_i (ix))), some (.int (m_i (by_))), some (.int (m_i (ct))), some (.int (m_i (st))), some (.int (m_i ((k : Int) + 1))), some (.int (m_i ((a_nb C τ))))]) eSe_expand_237 rfl rfl ?_
                        refine r_go (tgt := 49) eSe_expand_240 rfl ?_
                        first | exact hskip (by omega) | exact hadd _ (by omega) | exact hnear _ (by omega)
            · refine r_con eSe_expand_134 ?_
              refine r_go (tgt := 149) eSe_expand_135 rfl ?_
              refine r_is (ls' := [some (.ref S), some (.int (m_i (ix))), some (.int (m_i (by_))), some (.int (m_i (ct))), some (.int (m_i (st))), some (.int (m_i ((k : Int)))), some (.int (m_i ((-1))))]) eSe_expand_149 (Nat.le_of_ble_eq_true rfl) rfl ?_
              refine r_il eSe_expand_151 rfl ?_
              refine r_zlt (tgt := 237) eSe_expand_153 rfl ⟨(by omega), (by omega)⟩ (fun c153 => ?_) (fun c153 => ?_)
              · refine r_inc (ls' := [some (.ref S), some (.int (m_i (ix))), some (.int (m_i (by_))), some (.int (m_i (ct))), some (.int (m_i (st))), some (.int (m_i ((k : Int) + 1))), some (.int (m_i ((-1))))]) eSe_expand_237 rfl rfl ?_
                refine r_go (tgt := 49) eSe_expand_240 rfl ?_
                first | exact hskip (by omega) | exact hadd _ (by omega) | exact hnear _ (by omega)
              · exfalso; omega
        · refine r_aln eSe_expand_83 rfl ?_
          refine m_getR eSe_expand_84 rfl t0 p9 ?_
          refine r_il eSe_expand_87 rfl ?_
          refine r_vir eSe_expand_89 rfl rfl rfl hnr.2.1 rfl rfl ?_
          refine c_Po_moveBack hnr (by rw [po_get_put]; exact a_p5_sm hσ) ⟨by omega, by omega⟩ ?_
          rw [po_get_put, po_put_put, eb (by omega)]
          show m_wp en _ mSe_expand 92 [some (.ref S), some (.int (m_i (ix))), some (.int (m_i (by_))), some (.int (m_i (ct))), some (.int (m_i (st))), some (.int (m_i ((k : Int)))), o6] [] (T, m_I (((po_put J1 (S + 4) τ))), P, L, z, w) Q
          refine r_go (tgt := 105) eSe_expand_92 rfl ?_
          refine r_aln eSe_expand_105 rfl ?_
          refine m_getR eSe_expand_106 rfl t0 p9 ?_
          refine r_gete (x := τ.2.2.1) eSe_expand_109 rfl (by decide) hnr.2.1 (by rw [po_put_2]) ?_
          refine r_aln eSe_expand_112 rfl ?_
          refine r_gete (x := J1 S 7) eSe_expand_113 rfl (by decide) t0 (by rw [po_put_o (by first | (exact fun q => absurd q.1 hne.2.2.1) | (exact fun q => absurd q.1 hne.2.2.2.2.2.1) | (exact fun q => absurd q.1.symm hne.1) | (exact fun q => absurd q.1.symm hne.2.2.2.1) | (exact fun q => absurd q.1 hne.2.2.2.2.2.2) | (exact fun q => absurd q.1.symm hne.2.2.2.2.2.2) | omega)]) ?_
          refine r_cgt (tgt := 134) eSe_expand_116 rfl ⟨(by omega), (by omega)⟩ ⟨(by omega), (by omega)⟩ (fun c116 => ?_) (fun c116 => ?_)
          · refine r_con eSe_expand_134 ?_
            refine r_go (tgt := 149) eSe_expand_135 rfl ?_
            refine r_is (ls' := [some (.ref S), some (.int (m_i (ix))), some (.int (m_i (by_))), some (.int (m_i (ct))), some (.int (m_i (st))), some (.int (m_i ((k : Int)))), some (.int (m_i ((-1))))]) eSe_expand_149 (Nat.le_of_ble_eq_true rfl) rfl ?_
            refine r_il eSe_expand_151 rfl ?_
            refine r_zlt (tgt := 237) eSe_expand_153 rfl ⟨(by omega), (by omega)⟩ (fun c153 => ?_) (fun c153 => ?_)
            · refine r_inc (ls' := [some (.ref S), some (.int (m_i (ix))), some (.int (m_i (by_))), some (.int (m_i (ct))), some (.int (m_i (st))), some (.int (m_i ((k : Int) + 1))), some (.int (m_i ((-1))))]) eSe_expand_237 rfl rfl ?_
              refine r_go (tgt := 49) eSe_expand_240 rfl ?_
              first | exact hskip (by omega) | exact hadd _ (by omega) | exact hnear _ (by omega)
            · exfalso; omega
          · refine r_aln eSe_expand_119 rfl ?_
            refine m_getR eSe_expand_120 rfl t0 p9 ?_
            refine r_gete (x := τ.2.2.1) eSe_expand_123 rfl (by decide) hnr.2.1 (by rw [po_put_2]) ?_
            refine r_aln eSe_expand_126 rfl ?_
            refine r_gete (x := J1 S 7) eSe_expand_127 rfl (by decide) t0 (by rw [po_put_o (by first | (exact fun q => absurd q.1 hne.2.2.1) | (exact fun q => absurd q.1 hne.2.2.2.2.2.1) | (exact fun q => absurd q.1.symm hne.1) | (exact fun q => absurd q.1.symm hne.2.2.2.1) | (exact fun q => absurd q.1 hne.2.2.2.2.2.2) | (exact fun q => absurd q.1.symm hne.2.2.2.2.2.2) | omega)]) ?_
            refine r_neg eSe_expand_130 ?_
            refine r_cge (tgt := 138) eSe_expand_131 rfl ⟨(by omega), (by omega)⟩ ⟨(by omega), (by omega)⟩ (fun c131 => ?_) (fun c131 => ?_)
            · refine r_aln eSe_expand_138 rfl ?_
              refine m_getR eSe_expand_139 rfl t0 p4 ?_
              refine r_aln eSe_expand_142 rfl ?_
              refine m_getR eSe_expand_143 rfl t0 p9 ?_
              refine r_vir eSe_expand_146 rfl rfl rfl hA.2.1 rfl rfl ?_
              refine c_Sp_numberOf hA hnr (se_fr_sp hS (se_fr_nr hf) hC) ok (by rw [po_get_put]; exact hτs) ?_
              rw [po_get_put]
              show m_wp en _ mSe_expand 149 [some (.ref S), some (.int (m_i (ix))), some (.int (m_i (by_))), some (.int (m_i (ct))), some (.int (m_i (st))), some (.int (m_i ((k : Int)))), o6] [(.int (m_i ((a_nb C τ))))] (T, m_I (((((po_put J1 (S + 4) τ))))), P, L, z, w) Q
              refine r_is (ls' := [some (.ref S), some (.int (m_i (ix))), some (.int (m_i (by_))), some (.int (m_i (ct))), some (.int (m_i (st))), some (.int (m_i ((k : Int)))), some (.int (m_i ((a_nb C τ))))]) eSe_expand_149 (Nat.le_of_ble_eq_true rfl) rfl ?_
              refine r_il eSe_expand_151 rfl ?_
              refine r_zlt (tgt := 237) eSe_expand_153 rfl ⟨(by omega), (by omega)⟩ (fun c153 => ?_) (fun c153 => ?_)
              · refine r_inc (ls' := [some (.ref S), some (.int (m_i (ix))), some (.int (m_i (by_))), some (.int (m_i (ct))), some (.int (m_i (st))), some (.int (m_i ((k : Int) + 1))), some (.int (m_i ((a_nb C τ))))]) eSe_expand_237 rfl rfl ?_
                refine r_go (tgt := 49) eSe_expand_240 rfl ?_
                first | exact hskip (by omega) | exact hadd _ (by omega) | exact hnear _ (by omega)
              · refine r_il eSe_expand_156 rfl ?_
                refine r_aln eSe_expand_158 rfl ?_
                refine m_getR eSe_expand_159 rfl t0 p0 ?_
                refine r_alen eSe_expand_162 tR (by decide) ?_
                refine r_cge (tgt := 237) eSe_expand_163 rfl ⟨(by omega), (by omega)⟩ ⟨(by omega), (by omega)⟩ (fun c163 => ?_) (fun c163 => ?_)
                · refine r_inc (ls' := [some (.ref S), some (.int (m_i (ix))), some (.int (m_i (by_))), some (.int (m_i (ct))), some (.int (m_i (st))), some (.int (m_i ((k : Int) + 1))), some (.int (m_i ((a_nb C τ))))]) eSe_expand_237 rfl rfl ?_
                  refine r_go (tgt := 49) eSe_expand_240 rfl ?_
                  first | exact hskip (by omega) | exact hadd _ (by omega) | exact hnear _ (by omega)
                · refine r_aln eSe_expand_166 rfl ?_
                  refine m_getR eSe_expand_167 rfl t0 p0 ?_
                  have hbn2 := hbn (by omega)
                  refine r_il eSe_expand_170 rfl ?_
                  refine r_ialde (x := J1 R (((a_nb C τ)).toNat)) eSe_expand_172 tR (by omega) (by omega) (by omega) (by rw [po_put_o (by first | (exact fun q => absurd q.1 hne.2.2.1) | (exact fun q => absurd q.1 hne.2.2.2.2.2.1) | (exact fun q => absurd q.1.symm hne.1) | (exact fun q => absurd q.1.symm hne.2.2.2.1) | (exact fun q => absurd q.1 hne.2.2.2.2.2.2) | (exact fun q => absurd q.1.symm hne.2.2.2.2.2.2) | omega)]) ?_
                  refine r_zne (tgt := 237) eSe_expand_173 rfl ⟨(by omega), (by omega)⟩ (fun c173 => ?_) (fun c173 => ?_)
                  · refine r_inc (ls' := [some (.ref S), some (.int (m_i (ix))), some (.int (m_i (by_))), some (.int (m_i (ct))), some (.int (m_i (st))), some (.int (m_i ((k : Int) + 1))), some (.int (m_i ((a_nb C τ))))]) eSe_expand_237 rfl rfl ?_
                    refine r_go (tgt := 49) eSe_expand_240 rfl ?_
                    first | exact hskip (by omega) | exact hadd _ (by omega) | exact hnear _ (by omega)
                  · refine r_aln eSe_expand_176 rfl ?_
                    refine r_gete (x := J1 S 3) eSe_expand_177 rfl (by decide) t0 (by rw [po_put_o (by first | (exact fun q => absurd q.1 hne.2.2.1) | (exact fun q => absurd q.1 hne.2.2.2.2.2.1) | (exact fun q => absurd q.1.symm hne.1) | (exact fun q => absurd q.1.symm hne.2.2.2.1) | (exact fun q => absurd q.1 hne.2.2.2.2.2.2) | (exact fun q => absurd q.1.symm hne.2.2.2.2.2.2) | omega)]) ?_
                    refine r_zlt (tgt := 237) eSe_expand_180 rfl ⟨(by omega), (by omega)⟩ (fun c180 => ?_) (fun c180 => ?_)
                    · refine r_inc (ls' := [some (.ref S), some (.int (m_i (ix))), some (.int (m_i (by_))), some (.int (m_i (ct))), some (.int (m_i (st))), some (.int (m_i ((k : Int) + 1))), some (.int (m_i ((a_nb C τ))))]) eSe_expand_237 rfl rfl ?_
                      refine r_go (tgt := 49) eSe_expand_240 rfl ?_
                      first | exact hskip (by omega) | exact hadd _ (by omega) | exact hnear _ (by omega)
                    · refine r_aln eSe_expand_183 rfl ?_
                      refine r_gete (x := J1 S 3) eSe_expand_184 rfl (by decide) t0 (by rw [po_put_o (by first | (exact fun q => absurd q.1 hne.2.2.1) | (exact fun q => absurd q.1 hne.2.2.2.2.2.1) | (exact fun q => absurd q.1.symm hne.1) | (exact fun q => absurd q.1.symm hne.2.2.2.1) | (exact fun q => absurd q.1 hne.2.2.2.2.2.2) | (exact fun q => absurd q.1.symm hne.2.2.2.2.2.2) | omega)]) ?_
                      refine r_aln eSe_expand_187 rfl ?_
                      refine m_getR eSe_expand_188 rfl t0 p1 ?_
                      refine r_alen eSe_expand_191 tU (by decide) ?_
                      refine r_cge (tgt := 237) eSe_expand_192 rfl ⟨(by omega), (by omega)⟩ ⟨(by omega), (by omega)⟩ (fun c192 => ?_) (fun c192 => ?_)
                      · refine r_inc (ls' := [some (.ref S), some (.int (m_i (ix))), some (.int (m_i (by_))), some (.int (m_i (ct))), some (.int (m_i (st))), some (.int (m_i ((k : Int) + 1))), some (.int (m_i ((a_nb C τ))))]) eSe_expand_237 rfl rfl ?_
                        refine r_go (tgt := 49) eSe_expand_240 rfl ?_
                        first | exact hskip (by omega) | exact hadd _ (by omega) | exact hnear _ (by omega)
                      · refine r_aln eSe_expand_195 rfl ?_
                        refine m_getR eSe_expand_196 rfl t0 p0 ?_
                        refine r_il eSe_expand_199 rfl ?_
                        refine r_il eSe_expand_201 rfl ?_
                        refine r_con eSe_expand_203 ?_
                        refine r_shl eSe_expand_204 ?_
                        refine r_il eSe_expand_205 rfl ?_
                        refine r_con eSe_expand_207 ?_
                        refine r_add eSe_expand_208 ?_
                        refine r_or eSe_expand_209 ?_
                        rw [hor]
                        refine r_iast eSe_expand_210 tR (by omega) (by omega) (by omega) bR ?_
                        refine r_aln eSe_expand_211 rfl ?_
                        refine m_getR eSe_expand_212 rfl t0 p1 ?_
                        refine r_aln eSe_expand_215 rfl ?_
                        refine r_gete (x := J1 S 3) eSe_expand_216 rfl (by decide) t0 (by rw [m_up_at, if_neg (by first | (exact fun q => absurd q.1 hne.2.2.1) | (exact fun q => absurd q.1 hne.2.2.2.2.2.1) | (exact fun q => absurd q.1.symm hne.1) | (exact fun q => absurd q.1.symm hne.2.2.2.1) | (exact fun q => absurd q.1 hne.2.2.2.2.2.2) | (exact fun q => absurd q.1.symm hne.2.2.2.2.2.2) | omega), po_put_o (by first | (exact fun q => absurd q.1 hne.2.2.1) | (exact fun q => absurd q.1 hne.2.2.2.2.2.1) | (exact fun q => absurd q.1.symm hne.1) | (exact fun q => absurd q.1.symm hne.2.2.2.1) | (exact fun q => absurd q.1 hne.2.2.2.2.2.2) | (exact fun q => absurd q.1.symm hne.2.2.2.2.2.2) | omega)]) ?_
                        refine r_aln eSe_expand_219 rfl ?_
                        refine m_getR eSe_expand_220 rfl t0 p9 ?_
                        refine r_vir eSe_expand_223 rfl rfl rfl hnr.2.1 rfl rfl ?_
                        refine c_Po_packed hnr (by rw [po_get_up (fun e => hne.2.2.1 e.symm), po_get_put]; exact hp5 (by omega)) ?_
                        rw [po_get_up (fun e => hne.2.2.1 e.symm), po_get_put]
                        show m_wp en _ mSe_expand 226 [some (.ref S), some (.int (m_i (ix))), some (.int (m_i (by_))), some (.int (m_i (ct))), some (.int (m_i (st))), some (.int (m_i ((k : Int)))), some (.int (m_i ((a_nb C τ))))] [(.int (m_i ((a_pk τ)))), (.int (m_i (J1 S 3))), (.ref U)] (T, m_I ((((m_up ((((po_put J1 (S + 4) τ)))) R (((a_nb C τ)).toNat) (st * 16 + ((k : Int) + 1)))))), P, L, z, w) Q
                        refine r_iast eSe_expand_226 tU (by omega) (by omega) (by omega) bU ?_
                        refine r_aln eSe_expand_227 rfl ?_
                        refine r_dupr eSe_expand_228 ?_
                        refine r_gete (x := J1 S 3) eSe_expand_229 rfl (by decide) t0 (by rw [m_up_at, if_neg (by first | (exact fun q => absurd q.1 hne.2.2.1) | (exact fun q => absurd q.1 hne.2.2.2.2.2.1) | (exact fun q => absurd q.1.symm hne.1) | (exact fun q => absurd q.1.symm hne.2.2.2.1) | (exact fun q => absurd q.1 hne.2.2.2.2.2.2) | (exact fun q => absurd q.1.symm hne.2.2.2.2.2.2) | omega), m_up_at, if_neg (by first | (exact fun q => absurd q.1 hne.2.2.1) | (exact fun q => absurd q.1 hne.2.2.2.2.2.1) | (exact fun q => absurd q.1.symm hne.1) | (exact fun q => absurd q.1.symm hne.2.2.2.1) | (exact fun q => absurd q.1 hne.2.2.2.2.2.2) | (exact fun q => absurd q.1.symm hne.2.2.2.2.2.2) | omega), po_put_o (by first | (exact fun q => absurd q.1 hne.2.2.1) | (exact fun q => absurd q.1 hne.2.2.2.2.2.1) | (exact fun q => absurd q.1.symm hne.1) | (exact fun q => absurd q.1.symm hne.2.2.2.1) | (exact fun q => absurd q.1 hne.2.2.2.2.2.2) | (exact fun q => absurd q.1.symm hne.2.2.2.2.2.2) | omega)]) ?_
                        refine r_con eSe_expand_232 ?_
                        refine r_add eSe_expand_233 ?_
                        refine r_put eSe_expand_234 rfl t0 b0 (Or.inl rfl) ?_
                        refine r_inc (ls' := [some (.ref S), some (.int (m_i (ix))), some (.int (m_i (by_))), some (.int (m_i (ct))), some (.int (m_i (st))), some (.int (m_i ((k : Int) + 1))), some (.int (m_i ((a_nb C τ))))]) eSe_expand_237 rfl rfl ?_
                        refine r_go (tgt := 49) eSe_expand_240 rfl ?_
                        first | exact hskip (by omega) | exact hadd _ (by omega) | exact hnear _ (by omega)
            · refine r_con eSe_expand_134 ?_
              refine r_go (tgt := 149) eSe_expand_135 rfl ?_
              refine r_is (ls' := [some (.ref S), some (.int (m_i (ix))), some (.int (m_i (by_))), some (.int (m_i (ct))), some (.int (m_i (st))), some (.int (m_i ((k : Int)))), some (.int (m_i ((-1))))]) eSe_expand_149 (Nat.le_of_ble_eq_true rfl) rfl ?_
              refine r_il eSe_expand_151 rfl ?_
              refine r_zlt (tgt := 237) eSe_expand_153 rfl ⟨(by omega), (by omega)⟩ (fun c153 => ?_) (fun c153 => ?_)
              · refine r_inc (ls' := [some (.ref S), some (.int (m_i (ix))), some (.int (m_i (by_))), some (.int (m_i (ct))), some (.int (m_i (st))), some (.int (m_i ((k : Int) + 1))), some (.int (m_i ((-1))))]) eSe_expand_237 rfl rfl ?_
                refine r_go (tgt := 49) eSe_expand_240 rfl ?_
                first | exact hskip (by omega) | exact hadd _ (by omega) | exact hnear _ (by omega)
              · exfalso; omega
end SEB
