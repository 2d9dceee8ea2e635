/-! THE TIE: the questions that look -/
section TQA
variable {en : Nat → Nat} {X M N O z0 w0 : Nat} {T0 : Nat → Option (Nat × Nat)} {J0 : Nat → Nat → Int} {k : Nat} {T T' : Nat → Option (Nat × Nat)} {J J' J1 K : Nat → Nat → Int} {P P' : Nat → Nat → Option Nat} {L L' : Nat → Nat → Int64} {z w z' w' zb wb : Nat} {C : a_C}
theorem a_find_c {f g : Nat → Int} {v : Int} {o : Nat} : ∀ (n k : Nat), (∀ i, k ≤ i → i < k + n → f (o + i) = g (o + i)) → a_find f v o n k = a_find g v o n k := by
  intro n
  induction n with
  | zero => intro k _; rfl
  | succ n ih =>
    intro k h
    unfold a_find
    rw [h k (by omega) (by omega), ih (k + 1) (fun i a b => h i (by omega) (by omega))]
theorem w1_no {f g : Nat → Int} {t : Int} : ∀ (n k : Nat), (∀ j, k ≤ j → j < k + n → f j ≠ t) → a_w1 f g t n k = 0 := by
  intro n
  induction n with
  | zero => intro k _; rfl
  | succ n ih =>
    intro k h
    unfold a_w1
    rw [if_neg (h k (by omega) (by omega))]
    exact ih (k + 1) (fun j a b => h j (by omega) (by omega))
theorem w1_hit {f g : Nat → Int} {t : Int} {i : Nat} (hi : f i = t) : ∀ (n k : Nat), k ≤ i → i < k + n → (∀ j, k ≤ j → j < i → f j ≠ t) → a_w1 f g t n k = g i := by
  intro n
  induction n with
  | zero => intro k a b; omega
  | succ n ih =>
    intro k a b h
    unfold a_w1
    by_cases e : k = i
    · subst e
      rw [if_pos hi]
    · rw [if_neg (h k (by omega) (by omega))]
      exact ih (k + 1) (by omega) (by omega) (fun j p q => h j (by omega) q)
theorem wn_no {f g : Nat → Int} {t : Int} : ∀ (n : Nat), (∀ j, j < n → f j ≠ t) → a_wind f g t n = 0 := by
  intro n
  induction n with
  | zero => intro _; rfl
  | succ n ih =>
    intro h
    unfold a_wind
    rw [if_neg (h n (by omega))]
    exact ih (fun j a => h j (by omega))
theorem wn_hit {f g : Nat → Int} {t : Int} {i : Nat} (hi : f i = t) : ∀ (n : Nat), i < n → (∀ j, i < j → j < n → f j ≠ t) → a_wind f g t n = g i := by
  intro n
  induction n with
  | zero => intro a; omega
  | succ n ih =>
    intro a h
    unfold a_wind
    by_cases e : n = i
    · subst e
      rw [if_pos hi]
    · rw [if_neg (h n (by omega) (by omega))]
      exact ih (by omega) (fun j p q => h j p (by omega))
/-- the first wind of a tick is its last -/
theorem to_wd (h : to_I en X M N O z0 w0 T0 J0 k T J P L z w) (t : Int) : cl_wd J X t = md_wd J M t := by
  obtain ⟨hp, -⟩ := h.rel
  have hn := h.inv.hwn
  unfold cl_wd md_wd
  rw [hp.1.2.2.2.1]
  have hf : ∀ i : Nat, i < (J (M + 2) 6).toNat → J (X + 23) i = J (M + 10) i ∧ J (X + 24) i = J (M + 11) i := fun i hi => hp.2.2.1 i (by omega)
  have hs : ∀ i j : Nat, i < j → j < (J (M + 2) 6).toNat → J (M + 10) i < J (M + 10) j := fun i j a b => hp.2.2.2.1 i j a (by omega)
  by_cases hx : ∃ i, i < (J (M + 2) 6).toNat ∧ J (M + 10) i = t
  · obtain ⟨i, hi, e⟩ := hx
    rw [wn_hit e _ hi (fun j a b => by have := hs i j a b; omega), w1_hit (i := i) (by rw [(hf i hi).1]; exact e) _ 0 (by omega) (by omega) (fun j a b => by rw [(hf j (by omega)).1]; have := hs j i b hi; omega)]
    exact (hf i hi).2
  · rw [wn_no _ (fun j a e => hx ⟨j, a, e⟩), w1_no _ 0 (fun j a b e => hx ⟨j, by omega, by rw [← (hf j (by omega)).1]; exact e⟩)]
theorem to_fr (h : to_I en X M N O z0 w0 T0 J0 k T J P L z w) {x : Int} (hx : 0 ≤ x ∧ x < J (M + 2) 0) : pl_fr J (X + 17) (J (X + 32)) x = J (M + 19) x.toNat := (to_cf h).2.2.2.2.2 x hx.1 (by have := to_wid h; show x < J (X + 17) 0; omega)
theorem t_fault (h : to_I en X M N O z0 w0 T0 J0 k T J P L z w) {x : Int} (hx : m_in x) : m_call en 40 mSc_fault [.ref X, .int (m_i x)] (T, m_I J, P, L, z, w) (to_C en X M N O z0 w0 T0 J0 k mMd_fault [.ref M, .int (m_i x)]) := by
  refine c_Sc_fault h.csh hx ?_
  refine to_mk h (fun K Q eK hK eX hQ => ?_)
  refine c_Md_fault hK.sh eK hx ?_
  rw [← hK.rel.2.2.2.2.2.2.1, ← hK.rel.2.2.2.2.2.2.2, eX (X + 1) (by omega)]
  exact hQ K (md_fy.refl K M) hK.inv.hkp
theorem t_named (h : to_I en X M N O z0 w0 T0 J0 k T J P L z w) {x : Int} (hx : m_in x) : m_call en 40 mSc_named [.ref X, .int (m_i x)] (T, m_I J, P, L, z, w) (to_C en X M N O z0 w0 T0 J0 k mMd_named [.ref M, .int (m_i x)]) := by
  refine c_Sc_named h.csh h.pok hx ?_
  refine to_mk h (fun K Q eK hK eX hQ => ?_)
  refine c_Md_named hK.sh eK hx hK.inv.hsb.1 hK.inv.hnm ?_
  have e1 : K (X + 29) 5 = K (M + 2) 4 := to_spn hK
  have e2 : a_find (K (M + 4)) x 0 (K (M + 2) 4).toNat 0 = a_find (J (X + 17 + 3)) x 0 (J (X + 17 + 12) 5).toNat 0 := by
    rw [show J (X + 17 + 12) 5 = K (X + 29) 5 from by rw [eX (X + 29) (by omega)], e1]
    refine a_find_c _ 0 (fun i _ q => ?_)
    rw [show J (X + 17 + 3) (0 + i) = K (X + 20) (0 + i) from by rw [eX (X + 20) (by omega)]]
    have := hK.inv.hsb.1
    exact (hK.rel.1.2.1 (0 + i) (by omega)).1.1.symm
  rw [e2]
  exact hQ K (md_fy.refl K M) hK.inv.hkp
theorem t_pile (h : to_I en X M N O z0 w0 T0 J0 k T J P L z w) {x : Int} (hx : m_in x) : m_call en 40 mSc_pile [.ref X, .int (m_i x)] (T, m_I J, P, L, z, w) (to_C en X M N O z0 w0 T0 J0 k mMd_pile [.ref M, .int (m_i x)]) := by
  refine c_Sc_pile h.csh h.pok hx ?_
  refine to_mk h (fun K Q eK hK eX hQ => ?_)
  refine c_Md_pile hK.sh eK hx hK.inv.pl.1 ?_
  have e1 := to_wid hK
  have e2 : (if 0 ≤ x ∧ x < K (M + 2) 0 then K (M + 18) x.toNat else -1) = if 0 ≤ x ∧ x < J (X + 17) 0 then J (X + 32) x.toNat else -1 := by
    rw [← e1, ← eX (X + 17) (by omega), ← eX (X + 32) (by omega)]
    by_cases q : 0 ≤ x ∧ x < K (X + 17) 0
    · have hw := hK.pok.1
      rw [if_pos q, if_pos q, hK.inv.2.1.2.1 _ (by omega), hK.rel.2.1.1.2.1 _ (by omega)]
    · rw [if_neg q, if_neg q]
  rw [e2]
  exact hQ K (md_fy.refl K M) hK.inv.hkp
theorem t_free (h : to_I en X M N O z0 w0 T0 J0 k T J P L z w) {x : Int} (hx : m_in x) : m_call en 40 mSc_free [.ref X, .int (m_i x)] (T, m_I J, P, L, z, w) (to_C en X M N O z0 w0 T0 J0 k mMd_free [.ref M, .int (m_i x)]) := by
  refine c_Sc_free h.csh h.pok (fun i hi => by have := h.mo.1 i hi; omega) hx ?_
  refine to_mk h (fun K Q eK hK eX hQ => ?_)
  refine c_Md_free hK.sh eK hx hK.inv.pl.1 ?_
  have e1 := to_wid hK
  have e3 : pl_fr J (X + 17) = pl_fr K (X + 17) := (pl_fr_x (fun k q => eX _ (by omega))).symm
  have e2 : (if 0 ≤ x ∧ x < K (M + 2) 0 then K (M + 19) x.toNat else -1) = if 0 ≤ x ∧ x < J (X + 17) 0 then pl_fr J (X + 17) (J (X + 32)) x else -1 := by
    rw [e3, ← eX (X + 17) (by omega), ← eX (X + 32) (by omega), e1]
    by_cases q : 0 ≤ x ∧ x < K (M + 2) 0
    · rw [if_pos q, if_pos q, to_fr hK q]
    · rw [if_neg q, if_neg q]
  rw [e2]
  exact hQ K (md_fy.refl K M) hK.inv.hkp
theorem t_wind (h : to_I en X M N O z0 w0 T0 J0 k T J P L z w) {x : Int} (hx : m_in x) : m_call en 40 mSc_wind [.ref X, .int (m_i x)] (T, m_I J, P, L, z, w) (to_C en X M N O z0 w0 T0 J0 k mMd_wind [.ref M, .int (m_i x)]) := by
  refine c_Sc_wind h.csh h.pok hx ?_
  refine to_mk h (fun K Q eK hK eX hQ => ?_)
  refine c_Md_wind hK.sh eK hx hK.inv.hwn hK.inv.hwb ?_
  have e1 : a_wind (K (M + 10)) (K (M + 11)) x (K (M + 2) 6).toNat = a_w1 (J (X + 17 + 6)) (J (X + 17 + 7)) x (J (X + 17 + 12) 7).toNat 0 := by
    have := to_wd hK x
    unfold cl_wd md_wd at this
    rw [← this, eX (X + 23) (by omega), eX (X + 24) (by omega), eX (X + 29) (by omega)]
  rw [e1]
  exact hQ K (md_fy.refl K M) hK.inv.hkp
theorem to_164 (h : to_I en X M N O z0 w0 T0 J0 k T J P L z w) (e : ∀ b i, b ≠ X + 164 → J' b i = J b i) : to_I en X M N O z0 w0 T0 J0 k T J' P L z w := by
  obtain ⟨⟨⟨zb, wb, hW, hz, hw⟩, -, -⟩, -⟩ := id h
  exact to_X h (cl_W_z hW (fun b i q => e b i (by omega))) hz hw (fun _ _ => rfl) (fun b i q => e b i (by omega)) (fun _ _ _ => rfl)
theorem t_why (h : to_I en X M N O z0 w0 T0 J0 k T J P L z w) {x : Int} (hx : m_in x) : m_call en 40 mSc_why [.ref X, .int (m_i x)] (T, m_I J, P, L, z, w) (to_C en X M N O z0 w0 T0 J0 k mMd_why [.ref M, .int (m_i x)]) := by
  obtain ⟨⟨⟨zb, wb, hW, hz, hw⟩, -, -⟩, -⟩ := id h
  refine c_Sc_why hW hx (fun q => ?_) (fun q => ?_)
  · refine to_mk h (fun K Q eK hK eX hQ => ?_)
    exact c_Md_why hK.sh eK hK.inv.ok hK.inv.hs hx (fun _ => hQ K (md_fy.refl K M) hK.inv.hkp) (fun p => absurd p (by omega))
  · have h' := to_164 h (J' := po_put J (X + 164) (a_step (po_get J (X + 31)) x 0)) (fun b i q => po_put_o (by omega))
    refine to_mk h' (fun K Q eK hK eX hQ => ?_)
    refine c_Md_why hK.sh eK hK.inv.ok hK.inv.hs hx (fun p => absurd q (by omega)) (fun _ => ?_)
    have e : ∀ b, b < X + 132 → K b = J b := fun b p => (eX b (by omega)).trans (funext (fun i => po_put_o (by omega)))
    rw [← to_why hK, ← to_pi hK, x_cf e, x_pi e]
    exact hQ _ ((md_fx.refl K M).put _).fy (md_kp_put _ hK.inv.hkp)
theorem t_can (h : to_I en X M N O z0 w0 T0 J0 k T J P L z w) : m_call en 40 mSc_can [.ref X] (T, m_I J, P, L, z, w) (to_C en X M N O z0 w0 T0 J0 k mMd_can [.ref M]) := by
  obtain ⟨⟨⟨zb, wb, hW, hz, hw⟩, -, -⟩, -⟩ := id h
  refine c_Sc_can hW (fun J' q => ?_)
  have h' := to_164 h q
  refine to_mk h' (fun K Q eK hK eX hQ => ?_)
  refine c_Md_can hK.sh eK hK.inv.ok hK.inv.hs (fun σ => ?_)
  have e : ∀ b, b < X + 132 → K b = J b := fun b p => (eX b (by omega)).trans (funext (fun i => q _ _ (by omega)))
  rw [← cf_can (to_cf hK), ← to_no hK, ← to_pi hK, x_cf e, x_pi e]
  exact hQ _ ((md_fx.refl K M).put σ).fy (md_kp_put σ hK.inv.hkp)
theorem t_sway (h : to_I en X M N O z0 w0 T0 J0 k T J P L z w) {x : Int} (hx : m_in x) : m_call en 40 mSc_sway [.ref X, .int (m_i x)] (T, m_I J, P, L, z, w) (to_C en X M N O z0 w0 T0 J0 k mMd_sway [.ref M, .int (m_i x)]) := by
  obtain ⟨⟨⟨zb, wb, hW, hz, hw⟩, -, -⟩, -⟩ := id h
  refine c_Sc_sway hW hx (fun q => ?_) (fun q => ?_)
  · refine to_mk h (fun K Q eK hK eX hQ => ?_)
    exact c_Md_sway hK.sh eK hK.inv.hs hx (fun _ => hQ K (md_fy.refl K M) hK.inv.hkp) (fun p => absurd p (by omega))
  · have h' := to_164 h (J' := po_put J (X + 164) (a_idle (po_get J (X + 31)) x.toNat)) (fun b i q => po_put_o (by omega))
    refine to_mk h' (fun K Q eK hK eX hQ => ?_)
    refine c_Md_sway hK.sh eK hK.inv.hs hx (fun p => absurd q (by omega)) (fun _ => ?_)
    have e : ∀ b, b < X + 132 → K b = J b := fun b p => (eX b (by omega)).trans (funext (fun i => po_put_o (by omega)))
    rw [← to_pi hK, x_pi e]
    exact hQ _ ((md_fx.refl K M).put _).fy (md_kp_put _ hK.inv.hkp)
theorem t_drift (h : to_I en X M N O z0 w0 T0 J0 k T J P L z w) : m_call en 40 mSc_drift [.ref X] (T, m_I J, P, L, z, w) (to_C en X M N O z0 w0 T0 J0 k mMd_drift [.ref M]) := by
  obtain ⟨⟨⟨zb, wb, hW, hz, hw⟩, -, -⟩, -⟩ := id h
  refine c_Sc_drift hW (fun J' q => ?_)
  have h' := to_164 h q
  refine to_mk h' (fun K Q eK hK eX hQ => ?_)
  refine c_Md_drift hK.sh eK hK.inv.ok hK.inv.hwn hK.inv.hwb hK.inv.hwv hK.inv.ht hK.inv.hs (fun σ => ?_)
  have e : ∀ b, b < X + 132 → K b = J b := fun b p => (eX b (by omega)).trans (funext (fun i => q _ _ (by omega)))
  have e1 : md_wd K M = cl_wd J X := funext (fun t => by
    rw [← to_wd hK t]
    unfold cl_wd
    rw [e _ (by omega), e _ (by omega), e _ (by omega)])
  rw [← cf_dr (to_cf hK), ← to_no hK, ← to_pi hK, x_cf e, x_pi e, e1, ← hK.rel.2.1.1.2.2.1.2.1, e _ (by omega)]
  exact hQ _ ((md_fx.refl K M).put σ).fy (md_kp_put σ hK.inv.hkp)
end TQA
