/-! the search by cost of the class -/
section SEK
variable {en : Nat → Nat} {d : Nat} {T : Nat → Option (Nat × Nat)} {J J0 J1 K H : Nat → Nat → Int} {P : Nat → Nat → Option Nat} {L : Nat → Nat → Int64} {z w A B R U S n X : Nat} {Q : m_Q} {σ τ γ : a_S} {C : a_C} {Sd : a_S → Prop} {gl : Int} {V b p0 p1 p2 : Nat}
/-- what stays of a search by cost -/
def kc_F (C : a_C) (J J1 : Nat → Nat → Int) (S R U : Nat) : Prop := se_fr J J1 S R U ∧ J1 S 2 = J S 2 ∧ g_x C (se_g J S R U) (se_g J1 S R U)
theorem kc_F_r : kc_F C J J S R U := ⟨se_fr_r, rfl, g_x_r⟩
theorem kc_F_t (h : kc_F C J J1 S R U) (h2 : kc_F C J1 H S R U) : kc_F C J H S R U := ⟨se_fr_t h.1 h2.1, h2.2.1.trans h.2.1, g_x_t h.2.2 h2.2.2⟩
theorem kc_F_57 (hne : se_ne S R U) (h : kc_F C J J1 S R U) : J1 S 5 = J S 5 ∧ J1 S 7 = J S 7 := ⟨h.1 S 5 (fun e => hne.1 e.symm) (fun e => hne.2.2.2.1 e.symm) (by omega) (by omega) (by omega), h.1 S 7 (fun e => hne.1 e.symm) (fun e => hne.2.2.2.1 e.symm) (by omega) (by omega) (by omega)⟩
theorem l_Se_spread (hS : se_at en S R U n A T P) (ok : a_ok C) (hC : sp_is J A C) (e5 : J S 5 = 0) (e7 : J S 7 = 4) (hsz : a_sz C ≤ n) {o1 : Option Value}
    (hq : ∀ J', kc_F C J J' S R U → kc_I C n Sd (se_g J' S R U) V b (J' S 3).toNat p1 p2 → Q none (T, m_I J', P, L, z, w)) :
    ∀ (f i : Nat) (J1 : Nat → Nat → Int), n ≤ f + i → kc_F C J J1 S R U → kc_I C n Sd (se_g J1 S R U) V b i p1 p2 → b ≤ i →
      m_wp en (d + 2) mSe_spread 2 [some (.ref S), o1, some (.int (m_i (i : Int)))] [] (T, m_I J1, P, L, z, w) Q := by
  have hS0 := hS
  obtain ⟨⟨b0, t0⟩, ⟨p0', tR, bR⟩, ⟨p1', tU, bU⟩, ⟨p4, hA⟩, ⟨p8, hfm⟩, ⟨p9, hnr⟩, hn, hAS, hRS, hUS, hRU⟩ := hS0
  have hne := se_at_ne hS
  clear hRS hUS hRU
  intro f
  induction f with
  | zero =>
    intro i J1 hf0 hf hI hb
    have h3 : 0 ≤ J1 S 3 ∧ J1 S 3 ≤ n := hI.1.1
    have hp : i ≤ (J1 S 3).toNat := hI.2.2.2.2.2.2.1.1
    have hend : i = (J1 S 3).toNat → Q none (T, m_I J1, P, L, z, w) := fun q => hq J1 hf (by rw [← q]; exact hI)
    refine r_iln eSe_spread_2 rfl ?_
    refine r_aln eSe_spread_3 rfl ?_
    refine r_gete (x := J1 S 3) eSe_spread_4 rfl (by decide) t0 rfl ?_
    refine r_cge (tgt := 33) eSe_spread_7 rfl ⟨(by omega), (by omega)⟩ ⟨(by omega), (by omega)⟩ (fun c7 => ?_) (fun c7 => ?_)
    · refine r_ret eSe_spread_33 rfl ?_
      exact hend (by omega)
    · exfalso; omega
  | succ f ih =>
    intro i J1 hf0 hf hI hb
    have h3 : 0 ≤ J1 S 3 ∧ J1 S 3 ≤ n := hI.1.1
    have hp : i ≤ (J1 S 3).toNat := hI.2.2.2.2.2.2.1.1
    have hend : i = (J1 S 3).toNat → Q none (T, m_I J1, P, L, z, w) := fun q => hq J1 hf (by rw [← q]; exact hI)
    have f5 : J1 S 5 = 0 := (kc_F_57 hne hf).1.trans e5
    have f7 : J1 S 7 = 4 := (kc_F_57 hne hf).2.trans e7
    refine r_iln eSe_spread_2 rfl ?_
    refine r_aln eSe_spread_3 rfl ?_
    refine r_gete (x := J1 S 3) eSe_spread_4 rfl (by decide) t0 rfl ?_
    refine r_cge (tgt := 33) eSe_spread_7 rfl ⟨(by omega), (by omega)⟩ ⟨(by omega), (by omega)⟩ (fun c7 => ?_) (fun c7 => ?_)
    · refine r_ret eSe_spread_33 rfl ?_
      exact hend (by omega)
    · refine r_iln eSe_spread_10 rfl ?_
      refine r_aln eSe_spread_11 rfl ?_
      refine m_getR eSe_spread_12 rfl t0 p1' ?_
      refine r_alen eSe_spread_15 tU (by decide) ?_
      refine r_cge (tgt := 33) eSe_spread_16 rfl ⟨(by omega), (by omega)⟩ ⟨(by omega), (by omega)⟩ (fun c16 => ?_) (fun c16 => ?_)
      · refine r_ret eSe_spread_33 rfl ?_
        exact hend (by omega)
      · refine r_aln eSe_spread_19 rfl ?_
        refine r_iln eSe_spread_20 rfl ?_
        refine r_bip eSe_spread_21 (by decide) ?_
        refine r_con eSe_spread_23 ?_
        refine r_vir eSe_spread_24 rfl rfl rfl t0 rfl rfl ?_
        refine c_Se_expand hS ok (se_fr_sp hS hf.1 hC) f5 (Or.inl rfl) f7 (by omega) (by omega) (by omega) hsz hI.1 (ix := i) (by omega) rfl (fun J2 k1 k2 k3 => ?_)
        show m_wp en _ mSe_spread 27 [some (.ref S), o1, some (.int (m_i ((i : Int))))] [] (T, m_I J2, P, L, z, w) Q
        refine r_inc (ls' := [some (.ref S), o1, some (.int (m_i ((i : Int) + 1)))]) eSe_spread_27 rfl rfl ?_
        refine r_go (tgt := 2) eSe_spread_30 rfl ?_
        obtain ⟨i1, i2⟩ := kc_s0 ok hsz hn hI (show i < (J1 S 3).toNat by omega) hb k3
        have := ih (i + 1) J2 (by omega) (kc_F_t hf ⟨k1, k2, i2⟩) i1 (by omega)
        rw [show ((i + 1 : Nat) : Int) = (i : Int) + 1 by omega] at this
        exact this
theorem c_Se_spread (hS : se_at en S R U n A T P) (ok : a_ok C) (hC : sp_is J A C) (e5 : J S 5 = 0) (e7 : J S 7 = 4) (hsz : a_sz C ≤ n) {i : Nat} (hI : kc_I C n Sd (se_g J S R U) V b i p1 p2) (hb : b ≤ i)
    (hq : ∀ J', kc_F C J J' S R U → kc_I C n Sd (se_g J' S R U) V b (J' S 3).toNat p1 p2 → Q none (T, m_I J', P, L, z, w)) :
    m_call en (d + 3) mSe_spread [.ref S, .int (m_i (i : Int))] (T, m_I J, P, L, z, w) Q := by
  have h2 := l_Se_spread (d := d) (L := L) (z := z) (w := w) (o1 := some (.int (m_i (i : Int)))) hS ok hC e5 e7 hsz hq n i J (by omega) kc_F_r hI hb
  refine m_into (by decide) (Nat.le_of_ble_eq_true rfl) rfl ?_
  show m_wp en _ mSe_spread 0 [some (.ref S), some (.int (m_i ((i : Int)))), none] [] (T, m_I J, P, L, z, w) Q
  refine r_iln eSe_spread_0 rfl ?_
  refine r_isn (ls' := [some (.ref S), some (.int (m_i ((i : Int)))), some (.int (m_i ((i : Int))))]) eSe_spread_1 (Nat.le_of_ble_eq_true rfl) rfl ?_
  exact h2
theorem l70_Se_spreadLevels (hS : se_at en S R U n A T P) (ok : a_ok C) (hC : sp_is J A C) (e5 : J S 5 = 0) (e7 : J S 7 = 4) (hsz : a_sz C ≤ n) {e : Nat} {o1 o2 o4 : Option Value} (hf : kc_F C J J1 S R U) (hI : kc_I C n Sd (se_g J1 S R U) V b e p1 p2) (hb : b ≤ e)
    (hq : ∀ J', kc_F C J J' S R U → kc_I C n Sd (se_g J' S R U) V b (J' S 3).toNat p1 p2 → Q none (T, m_I J', P, L, z, w)) :
    m_wp en (d + 3) mSe_spreadLevels 70 [some (.ref S), o1, o2, some (.int (m_i (e : Int))), o4] [] (T, m_I J1, P, L, z, w) Q := by
  have hne := se_at_ne hS
  have f5 : J1 S 5 = 0 := (kc_F_57 hne hf).1.trans e5
  have f7 : J1 S 7 = 4 := (kc_F_57 hne hf).2.trans e7
  refine r_aln eSe_spreadLevels_70 rfl ?_
  refine r_iln eSe_spreadLevels_71 rfl ?_
  refine r_vir eSe_spreadLevels_72 rfl rfl rfl hS.1.2 rfl rfl ?_
  refine c_Se_spread hS ok (se_fr_sp hS hf.1 hC) f5 f7 hsz hI hb (fun J2 k1 k2 => ?_)
  show m_wp en _ mSe_spreadLevels 75 [some (.ref S), o1, o2, some (.int (m_i ((e : Int)))), o4] [] (T, m_I J2, P, L, z, w) Q
  refine r_ret eSe_spreadLevels_75 rfl ?_
  exact hq J2 (kc_F_t hf k1) k2
theorem l38_Se_spreadLevels (hS : se_at en S R U n A T P) (ok : a_ok C) (hC : sp_is J A C) (e5 : J S 5 = 0) (e7 : J S 7 = 4) (hsz : a_sz C ≤ n) {e : Nat} {o1 o2 : Option Value} (he : b ≤ e) (hep : e ≤ (J S 3).toNat)
    (hl : ∀ i, i < e → p1 ≤ i → g_lv C (se_g J S R U) i + 1 = V)
    (hq : ∀ J', kc_F C J J' S R U → kc_I C n Sd (se_g J' S R U) V b (J' S 3).toNat e p2 → Q none (T, m_I J', P, L, z, w)) :
    ∀ (f i : Nat) (J1 : Nat → Nat → Int), i + f = e → p1 ≤ i → kc_F C J J1 S R U → kc_I C n Sd (se_g J1 S R U) V b e i p2 →
      m_wp en (d + 3) mSe_spreadLevels 38 [some (.ref S), o1, o2, some (.int (m_i (e : Int))), some (.int (m_i (i : Int)))] [] (T, m_I J1, P, L, z, w) Q := by
  have hS0 := hS
  obtain ⟨⟨b0, t0⟩, ⟨p0', tR, bR⟩, ⟨p1', tU, bU⟩, ⟨p4, hA⟩, ⟨p8, hfm⟩, ⟨p9, hnr⟩, hn, hAS, hRS, hUS, hRU⟩ := hS0
  have hne := se_at_ne hS
  clear hRS hUS hRU
  intro f
  induction f with
  | zero =>
    intro i J1 hif hip hf hI
    obtain rfl : i = e := by omega
    have h3 : 0 ≤ J1 S 3 ∧ J1 S 3 ≤ n := hI.1.1
    have hte : i ≤ (J1 S 3).toNat := hI.2.2.2.2.2.2.1.1
    have h70 := l70_Se_spreadLevels (d := d) (L := L) (z := z) (w := w) (o1 := o1) (o2 := o2) (o4 := some (.int (m_i (i : Int)))) hS ok hC e5 e7 hsz hf hI he hq
    refine r_il eSe_spreadLevels_38 rfl ?_
    refine r_iln eSe_spreadLevels_40 rfl ?_
    refine r_cge (tgt := 70) eSe_spreadLevels_41 rfl ⟨(by omega), (by omega)⟩ ⟨(by omega), (by omega)⟩ (fun c41 => ?_) (fun c41 => ?_)
    · exact h70
    · exfalso; omega
  | succ f ih =>
    intro i J1 hif hip hf hI
    have h3 : 0 ≤ J1 S 3 ∧ J1 S 3 ≤ n := hI.1.1
    have hte : e ≤ (J1 S 3).toNat := hI.2.2.2.2.2.2.1.1
    have hlv : g_lv C (se_g J1 S R U) i + 1 = V := by rw [g_x_lv hf.2.2 (show i < (J S 3).toNat by omega)]; exact hl i (by omega) hip
    have f5 : J1 S 5 = 0 := (kc_F_57 hne hf).1.trans e5
    have f7 : J1 S 7 = 4 := (kc_F_57 hne hf).2.trans e7
    refine r_il eSe_spreadLevels_38 rfl ?_
    refine r_iln eSe_spreadLevels_40 rfl ?_
    refine r_cge (tgt := 70) eSe_spreadLevels_41 rfl ⟨(by omega), (by omega)⟩ ⟨(by omega), (by omega)⟩ (fun c41 => ?_) (fun c41 => ?_)
    · exfalso; omega
    · refine r_il eSe_spreadLevels_44 rfl ?_
      refine r_aln eSe_spreadLevels_46 rfl ?_
      refine m_getR eSe_spreadLevels_47 rfl t0 p1' ?_
      refine r_alen eSe_spreadLevels_50 tU (by decide) ?_
      refine r_cge (tgt := 70) eSe_spreadLevels_51 rfl ⟨(by omega), (by omega)⟩ ⟨(by omega), (by omega)⟩ (fun c51 => ?_) (fun c51 => ?_)
      · exfalso; omega
      · refine r_aln eSe_spreadLevels_54 rfl ?_
        refine r_il eSe_spreadLevels_55 rfl ?_
        refine r_sip eSe_spreadLevels_57 (by decide) ?_
        refine r_con eSe_spreadLevels_60 ?_
        refine r_vir eSe_spreadLevels_61 rfl rfl rfl t0 rfl rfl ?_
        refine c_Se_expand hS ok (se_fr_sp hS hf.1 hC) f5 (Or.inl rfl) f7 (by omega) (by omega) (by omega) hsz hI.1 (ix := i) (by omega) rfl (fun J2 k1 k2 k3 => ?_)
        show m_wp en _ mSe_spreadLevels 64 [some (.ref S), o1, o2, some (.int (m_i ((e : Int)))), some (.int (m_i ((i : Int))))] [] (T, m_I J2, P, L, z, w) Q
        refine r_inc (ls' := [some (.ref S), o1, o2, some (.int (m_i ((e : Int)))), some (.int (m_i ((i : Int) + 1)))]) eSe_spreadLevels_64 rfl rfl ?_
        refine r_go (tgt := 38) eSe_spreadLevels_67 rfl ?_
        obtain ⟨i1, i2⟩ := kc_s1 ok hsz hn hI (show i < (J1 S 3).toNat by omega) (by show b ≤ (J1 S 3).toNat; omega) hlv k3
        have := ih (i + 1) J2 (by omega) (by omega) (kc_F_t hf ⟨k1, k2, i2⟩) i1
        rw [show ((i + 1 : Nat) : Int) = (i : Int) + 1 by omega] at this
        exact this
theorem l3_Se_spreadLevels (hS : se_at en S R U n A T P) (ok : a_ok C) (hC : sp_is J A C) (e5 : J S 5 = 0) (e7 : J S 7 = 4) (hsz : a_sz C ≤ n) {s e : Nat} {o1 : Option Value} (he : b ≤ e) (hse : s ≤ e) (hep : e ≤ (J S 3).toNat)
    (hl2 : ∀ i, i < s → p2 ≤ i → g_lv C (se_g J S R U) i + 2 = V) (hl : ∀ i, i < e → s ≤ i → g_lv C (se_g J S R U) i + 1 = V)
    (hq : ∀ J', kc_F C J J' S R U → kc_I C n Sd (se_g J' S R U) V b (J' S 3).toNat e s → Q none (T, m_I J', P, L, z, w)) :
    ∀ (f i : Nat) (J1 : Nat → Nat → Int), i + f = s → p2 ≤ i → kc_F C J J1 S R U → kc_I C n Sd (se_g J1 S R U) V b e s i →
      m_wp en (d + 3) mSe_spreadLevels 3 [some (.ref S), o1, some (.int (m_i (s : Int))), some (.int (m_i (e : Int))), some (.int (m_i (i : Int)))] [] (T, m_I J1, P, L, z, w) Q := by
  have hS0 := hS
  obtain ⟨⟨b0, t0⟩, ⟨p0', tR, bR⟩, ⟨p1', tU, bU⟩, ⟨p4, hA⟩, ⟨p8, hfm⟩, ⟨p9, hnr⟩, hn, hAS, hRS, hUS, hRU⟩ := hS0
  have hne := se_at_ne hS
  clear hRS hUS hRU
  intro f
  induction f with
  | zero =>
    intro i J1 hif hip hf hI
    obtain rfl : i = s := by omega
    have h3 : 0 ≤ J1 S 3 ∧ J1 S 3 ≤ n := hI.1.1
    have hte : e ≤ (J1 S 3).toNat := hI.2.2.2.2.2.2.1.1
    have f5 : J1 S 5 = 0 := (kc_F_57 hne hf).1.trans e5
    have f7 : J1 S 7 = 4 := (kc_F_57 hne hf).2.trans e7
    have h38 := l38_Se_spreadLevels (d := d) (L := L) (z := z) (w := w) (o1 := o1) (o2 := some (.int (m_i (i : Int)))) (p1 := i) (p2 := i) hS ok (se_fr_sp hS hf.1 hC) f5 f7 hsz he hte (fun m h1 h2 => by rw [g_x_lv hf.2.2 (show m < (J S 3).toNat by omega)]; exact hl m h1 h2) (fun J' h1 h2 => hq J' (kc_F_t hf h1) h2) (e - i) i J1 (by omega) (Nat.le_refl _) kc_F_r hI
    refine r_il eSe_spreadLevels_3 rfl ?_
    refine r_iln eSe_spreadLevels_5 rfl ?_
    refine r_cge (tgt := 35) eSe_spreadLevels_6 rfl ⟨(by omega), (by omega)⟩ ⟨(by omega), (by omega)⟩ (fun c6 => ?_) (fun c6 => ?_)
    · refine r_iln eSe_spreadLevels_35 rfl ?_
      refine r_is (ls' := [some (.ref S), o1, some (.int (m_i ((i : Int)))), some (.int (m_i ((e : Int)))), some (.int (m_i ((i : Int))))]) eSe_spreadLevels_36 (Nat.le_of_ble_eq_true rfl) rfl ?_
      exact h38
    · exfalso; omega
  | succ f ih =>
    intro i J1 hif hip hf hI
    have h3 : 0 ≤ J1 S 3 ∧ J1 S 3 ≤ n := hI.1.1
    have hte : e ≤ (J1 S 3).toNat := hI.2.2.2.2.2.2.1.1
    have hlv : g_lv C (se_g J1 S R U) i + 2 = V := by rw [g_x_lv hf.2.2 (show i < (J S 3).toNat by omega)]; exact hl2 i (by omega) hip
    have f5 : J1 S 5 = 0 := (kc_F_57 hne hf).1.trans e5
    have f7 : J1 S 7 = 4 := (kc_F_57 hne hf).2.trans e7
    refine r_il eSe_spreadLevels_3 rfl ?_
    refine r_iln eSe_spreadLevels_5 rfl ?_
    refine r_cge (tgt := 35) eSe_spreadLevels_6 rfl ⟨(by omega), (by omega)⟩ ⟨(by omega), (by omega)⟩ (fun c6 => ?_) (fun c6 => ?_)
    · exfalso; omega
    · refine r_il eSe_spreadLevels_9 rfl ?_
      refine r_aln eSe_spreadLevels_11 rfl ?_
      refine m_getR eSe_spreadLevels_12 rfl t0 p1' ?_
      refine r_alen eSe_spreadLevels_15 tU (by decide) ?_
      refine r_cge (tgt := 35) eSe_spreadLevels_16 rfl ⟨(by omega), (by omega)⟩ ⟨(by omega), (by omega)⟩ (fun c16 => ?_) (fun c16 => ?_)
      · exfalso; omega
      · refine r_aln eSe_spreadLevels_19 rfl ?_
        refine r_il eSe_spreadLevels_20 rfl ?_
        refine r_sip eSe_spreadLevels_22 (by decide) ?_
        refine r_con eSe_spreadLevels_25 ?_
        refine r_vir eSe_spreadLevels_26 rfl rfl rfl t0 rfl rfl ?_
        refine c_Se_expand hS ok (se_fr_sp hS hf.1 hC) f5 (Or.inl rfl) f7 (by omega) (by omega) (by omega) hsz hI.1 (ix := i) (by omega) rfl (fun J2 k1 k2 k3 => ?_)
        show m_wp en _ mSe_spreadLevels 29 [some (.ref S), o1, some (.int (m_i ((s : Int)))), some (.int (m_i ((e : Int)))), some (.int (m_i ((i : Int))))] [] (T, m_I J2, P, L, z, w) Q
        refine r_inc (ls' := [some (.ref S), o1, some (.int (m_i ((s : Int)))), some (.int (m_i ((e : Int)))), some (.int (m_i ((i : Int) + 1)))]) eSe_spreadLevels_29 rfl rfl ?_
        refine r_go (tgt := 3) eSe_spreadLevels_32 rfl ?_
        obtain ⟨i1, i2⟩ := kc_s2 ok hsz hn hI (show i < (J1 S 3).toNat by omega) (by show b ≤ (J1 S 3).toNat; omega) hlv k3
        have := ih (i + 1) J2 (by omega) (by omega) (kc_F_t hf ⟨k1, k2, i2⟩) i1
        rw [show ((i + 1 : Nat) : Int) = (i : Int) + 1 by omega] at this
        exact this
theorem c_Se_spreadLevels (hS : se_at en S R U n A T P) (ok : a_ok C) (hC : sp_is J A C) (e5 : J S 5 = 0) (e7 : J S 7 = 4) (hsz : a_sz C ≤ n) {a s e : Nat} (he : b ≤ e) (has : a ≤ s) (hse : s ≤ e) (hep : e ≤ (J S 3).toNat)
    (hl2 : ∀ i, i < s → a ≤ i → g_lv C (se_g J S R U) i + 2 = V) (hl : ∀ i, i < e → s ≤ i → g_lv C (se_g J S R U) i + 1 = V) (hI : kc_I C n Sd (se_g J S R U) V b e s a)
    (hq : ∀ J', kc_F C J J' S R U → kc_I C n Sd (se_g J' S R U) V b (J' S 3).toNat e s → Q none (T, m_I J', P, L, z, w)) :
    m_call en (d + 4) mSe_spreadLevels [.ref S, .int (m_i (a : Int)), .int (m_i (s : Int)), .int (m_i (e : Int))] (T, m_I J, P, L, z, w) Q := by
  have h3 := l3_Se_spreadLevels (d := d) (L := L) (z := z) (w := w) (o1 := some (.int (m_i (a : Int)))) (p2 := a) hS ok hC e5 e7 hsz he hse hep hl2 hl hq (s - a) a J (by omega) (Nat.le_refl _) kc_F_r hI
  refine m_into (by decide) (Nat.le_of_ble_eq_true rfl) rfl ?_
  show m_wp en _ mSe_spreadLevels 0 [some (.ref S), some (.int (m_i ((a : Int)))), some (.int (m_i ((s : Int)))), some (.int (m_i ((e : Int)))), none] [] (T, m_I J, P, L, z, w) Q
  refine r_iln eSe_spreadLevels_0 rfl ?_
  refine r_is (ls' := [some (.ref S), some (.int (m_i ((a : Int)))), some (.int (m_i ((s : Int)))), some (.int (m_i ((e : Int)))), some (.int (m_i ((a : Int))))]) eSe_spreadLevels_1 (Nat.le_of_ble_eq_true rfl) rfl ?_
  exact h3
end SEK
