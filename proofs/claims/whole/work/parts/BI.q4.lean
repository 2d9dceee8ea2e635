/-! THE TIE: pulses, shortest, by, rests, chance, bears -/
def a_cq (e : Int) (n : Nat) (dd : Int) (t : Int × Int × Int) : Nat → Int
  | 0 => 0
  | k + 1 => a_cq e n dd t k + (if (a_pl e n (k : Int) t).1 = dd ∧ (a_pl e n (k : Int) t).2.1 = 0 ∧ (a_pl e n (k : Int) t).2.2 = 0 then 1 else 0)
def a_nt (e : Int) (t : Int × Int × Int) (a : Int) : Int × Int × Int := (t.1 + a, a_gr e * t.2.1 - t.2.2 - a, t.2.1)
section TQD
variable {en : Nat → Nat} {X M N O z0 w0 : Nat} {T0 : Nat → Option (Nat × Nat)} {J0 : Nat → Nat → Int} {k : Nat} {T T' : Nat → Option (Nat × Nat)} {J J' J1 K : Nat → Nat → Int} {P P' : Nat → Nat → Option Nat} {L L' : Nat → Nat → Int64} {z w z' w' zb wb : Nat} {C : a_C}
theorem a_cq_cp {e dd : Int} {n : Int} : ∀ k, a_cp e n dd k = a_cq e n.toNat dd (0, 0, 0) k := by
  intro k
  induction k with
  | zero => rfl
  | succ k ih => unfold a_cp a_cq; rw [ih]
theorem a_pl_s {e : Int} {n : Nat} {l : Int} {t : Int × Int × Int} : a_pl e (n + 1) l t = a_pl e n (l / 3) (a_nt e t (l % 3 - 1)) := rfl
theorem a_cq_k {e dd : Int} {n : Nat} {t : Int × Int × Int} {k : Nat} : a_cq e n dd t (k + 1) = a_cq e n dd t k + (if (a_pl e n (k : Int) t).1 = dd ∧ (a_pl e n (k : Int) t).2.1 = 0 ∧ (a_pl e n (k : Int) t).2.2 = 0 then 1 else 0) := rfl
theorem a_cq_s {e dd : Int} {n : Nat} {t : Int × Int × Int} : ∀ m : Nat, a_cq e (n + 1) dd t (m * 3) = a_cq e n dd (a_nt e t (-1)) m + a_cq e n dd (a_nt e t 0) m + a_cq e n dd (a_nt e t 1) m := by
  intro m
  induction m with
  | zero => rfl
  | succ m ih =>
    rw [show (m + 1) * 3 = m * 3 + 1 + 1 + 1 from by omega]
    have e0 : a_pl e (n + 1) ((m * 3 : Nat) : Int) t = a_pl e n (m : Int) (a_nt e t (-1)) := by
      rw [a_pl_s, show ((m * 3 : Nat) : Int) / 3 = (m : Int) from by omega, show ((m * 3 : Nat) : Int) % 3 - 1 = -1 from by omega]
    have e1 : a_pl e (n + 1) ((m * 3 + 1 : Nat) : Int) t = a_pl e n (m : Int) (a_nt e t 0) := by
      rw [a_pl_s, show ((m * 3 + 1 : Nat) : Int) / 3 = (m : Int) from by omega, show ((m * 3 + 1 : Nat) : Int) % 3 - 1 = 0 from by omega]
    have e2 : a_pl e (n + 1) ((m * 3 + 1 + 1 : Nat) : Int) t = a_pl e n (m : Int) (a_nt e t 1) := by
      rw [a_pl_s, show ((m * 3 + 1 + 1 : Nat) : Int) / 3 = (m : Int) from by omega, show ((m * 3 + 1 + 1 : Nat) : Int) % 3 - 1 = 1 from by omega]
    rw [a_cq_k (n := n + 1) (k := m * 3 + 1 + 1), e2, a_cq_k (n := n + 1) (k := m * 3 + 1), e1, a_cq_k (n := n + 1) (k := m * 3), e0, ih, a_cq_k (n := n) (t := a_nt e t (-1)) (k := m), a_cq_k (n := n) (t := a_nt e t 0) (k := m), a_cq_k (n := n) (t := a_nt e t 1) (k := m)]
    omega
theorem a_pl_1 {e : Int} : ∀ (n : Nat) (l : Int) (t : Int × Int × Int), t.1 - (n : Int) ≤ (a_pl e n l t).1 ∧ (a_pl e n l t).1 ≤ t.1 + (n : Int) := by
  intro n
  induction n with
  | zero => intro l t; exact ⟨by show t.1 - ((0 : Nat) : Int) ≤ t.1; omega, by show t.1 ≤ t.1 + ((0 : Nat) : Int); omega⟩
  | succ n ih =>
    intro l t
    rw [a_pl_s]
    have := ih (l / 3) (a_nt e t (l % 3 - 1))
    have e1 : (a_nt e t (l % 3 - 1)).1 = t.1 + (l % 3 - 1) := rfl
    omega
theorem a_cq_0 {e dd : Int} {n : Nat} {t : Int × Int × Int} (h : (n : Int) < a_abs (dd - t.1)) : ∀ k, a_cq e n dd t k = 0 := by
  intro k
  induction k with
  | zero => rfl
  | succ k ih =>
    unfold a_cq
    have := a_pl_1 (e := e) n (k : Int) t
    rw [ih, if_neg (fun q => by
      unfold a_abs at h
      have := q.1
      split at h <;> omega)]
    rfl
theorem cp_cq {e dd : Int} : ∀ (n : Nat) (t : Int × Int × Int) (ms sw la : Int), ms = dd - t.1 → sw = t.2.1 → la = t.2.2 → cl_cp (a_gr e) n ms sw la = a_cq e n dd t (a_p3 n) := by
  intro n
  induction n with
  | zero =>
    intro t ms sw la h1 h2 h3
    show (if ms = 0 ∧ sw = 0 ∧ la = 0 then (1 : Int) else 0) = 0 + (if t.1 = dd ∧ t.2.1 = 0 ∧ t.2.2 = 0 then 1 else 0)
    by_cases c : ms = 0 ∧ sw = 0 ∧ la = 0
    · rw [if_pos c, if_pos (by omega)]
      rfl
    · rw [if_neg c, if_neg (by omega)]
      rfl
  | succ n ih =>
    intro t ms sw la h1 h2 h3
    unfold cl_cp
    by_cases c : (n : Int) + 1 < a_abs ms
    · rw [if_pos c, a_cq_0 (by rw [← h1]; omega)]
    · rw [if_neg c, show a_p3 (n + 1) = a_p3 n * 3 from rfl, a_cq_s, ih (a_nt e t (-1)) _ _ _ (by rw [h1]; show dd - t.1 - -1 = dd - (t.1 + -1); omega) (by rw [h2, h3]; rfl) h2, ih (a_nt e t 0) _ _ _ (by rw [h1]; show dd - t.1 - 0 = dd - (t.1 + 0); omega) (by rw [h2, h3]; rfl) h2, ih (a_nt e t 1) _ _ _ (by rw [h1]; show dd - t.1 - 1 = dd - (t.1 + 1); omega) (by rw [h2, h3]; rfl) h2]
theorem pul_eq {e n dd : Int} : a_cp e n dd (a_p3 n.toNat) = cl_cp (a_gr e) n.toNat dd 0 0 := by
  rw [a_cq_cp, cp_cq n.toNat (0, 0, 0) dd 0 0 (by show dd = dd - 0; omega) rfl rfl]
theorem t_pulses (h : to_I en X M N O z0 w0 T0 J0 k T J P L z w) {x y v : Int} (hx : m_in x) (hy : m_in y) (hv : m_in v) : m_call en 40 mSc_pulses [.ref X, .int (m_i x), .int (m_i y), .int (m_i v)] (T, m_I J, P, L, z, w) (to_C en X M N O z0 w0 T0 J0 k mMd_pulses [.ref M, .int (m_i x), .int (m_i y), .int (m_i v)]) := by
  refine c_Sc_pulses hx hy hv (fun q => ?_) (fun q => ?_)
  · refine to_mk h (fun K Q eK hK eX hQ => ?_)
    exact c_Md_pulses hK.sh eK hx hy hv (fun _ => hQ K (md_fy.refl K M) hK.inv.hkp) (fun p' => absurd p' q)
  · refine to_mk h (fun K Q eK hK eX hQ => ?_)
    refine c_Md_pulses hK.sh eK hx hy hv (fun p' => absurd q p') (fun _ => ?_)
    rw [pul_eq]
    exact hQ K (md_fy.refl K M) hK.inv.hkp
theorem sho_eq {e dd : Int} : ∀ (m : Nat) (k : Int), a_sho e dd m k = cl_sh0 (a_gr e) dd m k := by
  intro m
  induction m with
  | zero => intro k; rfl
  | succ m ih => intro k; unfold a_sho cl_sh0; rw [pul_eq, ih]
theorem t_shortest (h : to_I en X M N O z0 w0 T0 J0 k T J P L z w) {x y : Int} (hx : m_in x) (hy : m_in y) : m_call en 40 mSc_shortest [.ref X, .int (m_i x), .int (m_i y)] (T, m_I J, P, L, z, w) (to_C en X M N O z0 w0 T0 J0 k mMd_shortest [.ref M, .int (m_i x), .int (m_i y)]) := by
  refine c_Sc_shortest hx hy (fun q => ?_) (fun q => ?_)
  · refine to_mk h (fun K Q eK hK eX hQ => ?_)
    exact c_Md_shortest hK.sh eK hx hy (fun _ => hQ K (md_fy.refl K M) hK.inv.hkp) (fun p' => absurd p' q)
  · refine to_mk h (fun K Q eK hK eX hQ => ?_)
    refine c_Md_shortest hK.sh eK hx hy (fun p' => absurd q p') (fun _ => ?_)
    have e1 : a_sho x y 9 0 = cl_sh0 (a_gr x) y 8 1 := by
      rw [sho_eq]
      show (if 0 < cl_cp (a_gr x) 0 y 0 0 then (0 : Int) else cl_sh0 (a_gr x) y 8 (0 + 1)) = cl_sh0 (a_gr x) y 8 1
      rw [if_neg]
      · rfl
      · show ¬ 0 < (if y = 0 ∧ (0 : Int) = 0 ∧ (0 : Int) = 0 then (1 : Int) else 0)
        rw [if_neg (fun c => q.2.2 c.1)]
        omega
    rw [e1]
    exact hQ K (md_fy.refl K M) hK.inv.hkp
theorem wy_cf {C' : a_C} (hw : cf_w C C') {π γ : a_S} {f : Nat → a_S} {c : Nat → Int} {t : Nat} (h : cl_wy C π γ f c t) : cl_wy C' π γ f c t := by
  unfold cl_wy at h ⊢
  rw [← cf_is hw, ← cf_first hw]
  exact h
theorem wy_way (ok : a_ok C) {π γ : a_S} {f : Nat → a_S} {c : Nat → Int} {t : Nat} (h : cl_wy C π γ f c t) : ∀ j, j ≤ t → s_way C (a_no γ) (a_no π) j (a_no (f (t - j))) := by
  intro j
  induction j with
  | zero => intro _; show a_no (f (t - 0)) = a_no π; rw [Nat.sub_zero, h.2.1]
  | succ j ih =>
    intro hj
    have q := h.2.2.2 (t - (j + 1)) (by omega)
    rw [show t - (j + 1) + 1 = t - j from by omega] at q
    refine ⟨a_no (f (t - j)), c (t - (j + 1)), ih (by omega), q.2, ?_⟩
    rw [a_of_no (a_is_bx ok (h.2.2.1 _ (by omega))), q.1]
theorem t_by (h : to_I en X M N O z0 w0 T0 J0 k T J P L z w) {x y : Int} (hx : m_in x) (hy : m_in y) : m_call en 40 mSc_by [.ref X, .int (m_i x), .int (m_i y)] (T, m_I J, P, L, z, w) (to_C en X M N O z0 w0 T0 J0 k mMd_by [.ref M, .int (m_i x), .int (m_i y)]) := by
  obtain ⟨⟨⟨zb, wb, hW, hz, hw⟩, -, -⟩, -⟩ := id h
  refine c_Sc_by hW hx hy (fun q => ?_) (fun q T' J' P' L' z' w' r hW' hq hr hr2 => ?_) (fun q T' J' P' L' z' w' r f c hW' hq hr hr2 hwy => ?_)
  · refine to_mk h (fun K Q eK hK eX hQ => ?_)
    have p : ¬ ((0 ≤ x ∧ x < K (M + 2) 4) ∧ 0 ≤ y) := by rw [← to_spn hK, eX _ (by omega)]; exact q
    exact c_Md_by hK.sh eK hK.inv.ok hK.inv.hs hK.inv.hkp hK.inv.hsb hx hy (fun _ => hQ K (md_fy.refl K M) hK.inv.hkp) (fun p' => absurd p' p) (fun p' => absurd p' p) (fun p' => absurd p' p)
  · have h' := to_Xq h hW' hz hw hq
    refine to_mk h' (fun K Q eK hK eX hQ => ?_)
    have e : ∀ b, b < X + 132 → K b = J b := fun b p => (eX b (by omega)).trans (funext (fun i => hq.2.1 b i (by omega)))
    have p : (0 ≤ x ∧ x < K (M + 2) 4) ∧ 0 ≤ y := by rw [← to_spn hK, e _ (by omega)]; exact q
    have hr' := u_fw hK p.1 (by rw [x_cf e, x_pi e, x_sp e]; exact hr)
    refine c_Md_by hK.sh eK hK.inv.ok hK.inv.hs hK.inv.hkp hK.inv.hsb hx hy (fun p' => absurd p p') (fun _ hy => hQ _ ((md_fx.refl K M).put _).fy (md_kp_put _ hK.inv.hkp)) (fun _ hy J1 r' fx kp ha _ => hQ J1 fx.fy kp) (fun _ hy J1 r' fx kp ha hlt => ?_)
    have := s_ans_u ha hr'
    omega
  · have h' := to_Xq h hW' hz hw hq
    refine to_mk h' (fun K Q eK hK eX hQ => ?_)
    have e : ∀ b, b < X + 132 → K b = J b := fun b p => (eX b (by omega)).trans (funext (fun i => hq.2.1 b i (by omega)))
    have p : (0 ≤ x ∧ x < K (M + 2) 4) ∧ 0 ≤ y := by rw [← to_spn hK, e _ (by omega)]; exact q
    have hr' := u_fw hK p.1 (by rw [x_cf e, x_pi e, x_sp e]; exact hr)
    refine c_Md_by hK.sh eK hK.inv.ok hK.inv.hs hK.inv.hkp hK.inv.hsb hx hy (fun p' => absurd p p') (fun _ hy => ?_) (fun _ hy J1 r' fx kp ha hle => ?_) (fun _ hy J1 r' fx kp ha hlt st c' hs hf => ?_)
    · rcases s_few_of hK hr' with ⟨_, e2⟩ | ⟨e2, _⟩
      · omega
      · exact absurd e2 hy
    · have := s_ans_u ha hr'
      omega
    · obtain rfl := s_ans_u ha hr'
      have hwy2 : cl_wy (md_cf K M) (a_of (K (M + 22) 0)) (cl_spt K X x.toNat) f c r'.toNat := by
        rw [← to_pi hK, x_pi e, x_sp e]
        refine wy_cf ?_ hwy
        rw [← x_cf e]
        exact to_cf hK
      have hway := wy_way hK.inv.ok hwy2 y.toNat (by omega)
      rw [to_no hK, ← (to_spt hK p.1).1] at hway
      have e1 := s_way_u hs hway
      have q2 := hwy2.2.2.2 (r' - 1 - y).toNat (by omega)
      rw [show (r' - 1 - y).toNat + 1 = r'.toNat - y.toNat from by omega, ← (to_spt hK p.1).1, ← e1] at q2
      rw [s_first_u hf q2.2]
      exact hQ J1 fx.fy kp
theorem t_rests (h : to_I en X M N O z0 w0 T0 J0 k T J P L z w) {x : Int} (hx : m_in x) : m_call en 40 mSc_rests [.ref X, .int (m_i x)] (T, m_I J, P, L, z, w) (to_C en X M N O z0 w0 T0 J0 k mMd_rests [.ref M, .int (m_i x)]) := by
  obtain ⟨⟨⟨zb, wb, hW, hz, hw⟩, -, -⟩, -⟩ := id h
  refine c_Sc_rests hW hx (fun q => ?_) (fun q T' J' P' L' z' w' r hW' hq hr hr2 => ?_) (fun q t ht => ?_)
  · refine to_mk h (fun K Q eK hK eX hQ => ?_)
    exact c_Md_rests hK.sh eK hK.inv.ok hK.inv.hs hK.inv.hkp hx (fun _ => hQ K (md_fy.refl K M) hK.inv.hkp) (fun p' => absurd p' (by omega)) (fun p' => absurd p' (by omega)) (fun p' => absurd p' (by omega))
  · have h' := to_Xq h hW' hz hw hq
    refine to_mk h' (fun K Q eK hK eX hQ => ?_)
    have e : ∀ b, b < X + 132 → K b = J b := fun b p => (eX b (by omega)).trans (funext (fun i => hq.2.1 b i (by omega)))
    have hr' := u_fh hK (by rw [x_cf e, x_pi e]; exact hr)
    refine c_Md_rests hK.sh eK hK.inv.ok hK.inv.hs hK.inv.hkp hx (fun p' => absurd q (by omega)) (fun _ _ => hQ _ ((md_fx.refl K M).put _).fy (md_kp_put _ hK.inv.hkp)) (fun _ _ J1 fx kp _ => hQ J1 fx.fy kp) (fun _ _ J1 r' fx kp ha h0 => ?_)
    have := s_ans_u ha hr'
    omega
  · have hr0 := u_fh h ht
    refine ⟨fun j σ => a_bx σ ∧ a_is (md_cf J M) σ = true ∧ s_way (md_cf J M) (-1) (J (M + 22) 0) j (a_no σ) ∧ s_ans (md_cf J M) (-1) 0 (a_no σ) ((t : Int) - (j : Int)), ?_, fun j σ q => q.1, fun j σ c hI hj hs hc => ?_, fun T' J' P' L' z' w' σ hW' hq hI => ?_⟩
    · rw [to_pi h]
      refine ⟨to_bx h, ?_, to_no h, ?_⟩
      · have := hr0
        rw [← to_no h] at this
        exact s_ans_is h.inv.ok (to_bx h) this (by omega)
      · rw [to_no h, show (t : Int) - ((0 : Nat) : Int) = (t : Int) from by omega]
        exact hr0
    · obtain ⟨i1, i2, i3, i4⟩ := hI
      rw [cf_stl (to_cf h)] at hs
      rcases hs with ⟨hs, -⟩ | ⟨-, hs⟩
      · exact (hs ⟨by rw [a_of_no i1]; exact i2, _, by omega, i4⟩).elim
      · obtain ⟨s1, ⟨s2, t', s3, s4, s5⟩, s6⟩ := id hs
        rw [a_of_no i1] at s2 s5
        have e1 := s_ans_u s4 i4
        refine ⟨a_is_bx h.inv.ok s2, s2, ⟨_, c, i3, hs, by rw [a_of_no i1]⟩, ?_⟩
        rw [show (t : Int) - ((j + 1 : Nat) : Int) = t' from by omega]
        exact s5
    · have hE : ∀ b i, tr_E X b i → b = X + 156 ∨ b = X + 161 ∨ b = X + 164 := fun b i q => by unfold tr_E at q; omega
      have h' := to_Xe hE h hW' hz hw hq
      refine to_mk h' (fun K Q eK hK eX hQ => ?_)
      have e : ∀ b, b < X + 132 → K b = J b := fun b p => (eX b (by omega)).trans (funext (fun i => hq.2.1 b i (by omega) (fun q => by have := hE b i q; omega)))
      have eM : ∀ k, k ≤ 26 → J' (M + k) = J (M + k) := fun k p => funext (fun i => hq.2.1 _ i (by have := h.2.1.1; have := hW.1.2.1; omega) (fun q => by have := hE _ i q; have := h.2.1.1; omega))
      have eM0 : J' M = J M := funext (fun i => hq.2.1 _ i (by have := h.2.1.1; have := hW.1.2.1; omega) (fun q => by have := hE _ i q; have := h.2.1.1; omega))
      have ecf : md_cf K M = md_cf J M := by
        rw [← eK, md_fy_0.cf]
        exact md_cf_eq (eM 2 (by omega)) (eM 19 (by omega)) (by rw [eM0])
      have e22 : K (M + 22) 0 = J (M + 22) 0 := by
        rw [← eK, m_up_at, if_neg (by omega), eM 22 (by omega)]
      have hr' : s_ans (md_cf K M) (-1) 0 (K (M + 22) 0) (t : Int) := by rw [ecf, e22]; exact hr0
      refine c_Md_rests hK.sh eK hK.inv.ok hK.inv.hs hK.inv.hkp hx (fun p' => absurd q (by omega)) (fun _ hy => ?_) (fun _ _ J1 fx kp ha => ?_) (fun _ _ J1 r' fx kp ha h0 st hst => ?_)
      · rcases s_few_of hK hr' with ⟨_, e2⟩ | ⟨e2, _⟩
        · omega
        · exact absurd e2 hy
      · have := s_ans_u ha hr'
        omega
      · have e1 := s_ans_u ha hr'
        rw [e1, show ((t : Nat) : Int).toNat = t from by omega, ecf, e22] at hst
        have e2 := s_way_u hst hI.2.2.1
        rw [e2, a_of_no hI.1]
        exact hQ J1 fx.fy kp
theorem s_chn_u {t0 n : Int} : ∀ (k : Nat) (dr st sw mn a1 a2 a3 b1 b2 b3 : Int), s_chn C t0 n k dr st sw mn a1 a2 a3 → s_chn C t0 n k dr st sw mn b1 b2 b3 → a1 = b1 ∧ a2 = b2 ∧ a3 = b3 := by
  intro k
  induction k with
  | zero =>
    intro dr st sw mn a1 a2 a3 b1 b2 b3 h h'
    obtain ⟨x1, x2, x3⟩ := h
    obtain ⟨y1, y2, y3⟩ := h'
    omega
  | succ k ih =>
    intro dr st sw mn a1 a2 a3 b1 b2 b3 h h'
    rcases h with ⟨c1, x1, x2, x3⟩ | ⟨c1, c, x1, x2⟩
    · rcases h' with ⟨-, y1, y2, y3⟩ | ⟨c2, -⟩
      · omega
      · exact absurd c2 c1
    · rcases h' with ⟨c2, -⟩ | ⟨-, c', y1, y2⟩
      · exact absurd c1 c2
      · obtain rfl := s_stl_u x1 y1
        rcases x2 with ⟨d1, x3, x4, x5⟩ | ⟨d1, x3⟩
        · rcases y2 with ⟨-, y3, y4, y5⟩ | ⟨d2, -⟩
          · omega
          · exact absurd d2 d1
        · rcases y2 with ⟨d2, -⟩ | ⟨-, y3⟩
          · exact absurd d1 d2
          · exact ih _ _ _ _ _ _ _ _ _ _ x3 y3
theorem t_chance (h : to_I en X M N O z0 w0 T0 J0 k T J P L z w) {x y v : Int} (hx : m_in x) (hy : m_in y) (hv : m_in v) : m_call en 40 mSc_chance [.ref X, .int (m_i x), .int (m_i y), .int (m_i v)] (T, m_I J, P, L, z, w) (to_C en X M N O z0 w0 T0 J0 k mMd_chance [.ref M, .int (m_i x), .int (m_i y), .int (m_i v)]) := by
  obtain ⟨⟨⟨zb, wb, hW, hz, hw⟩, -, -⟩, -⟩ := id h
  refine c_Sc_chance hW hx hy hv (fun q => ?_) (fun q T' J' P' L' z' w' mn gr σ hW' hq hσ hc => ?_)
  · refine to_mk h (fun K Q eK hK eX hQ => ?_)
    exact c_Md_chance hK.sh eK hK.inv hx hy hv (fun _ => hQ K (md_fy.refl K M) hK.inv.hkp) (fun p' => absurd p' q)
  · have hE : ∀ b i, tr_E X b i → b = X + 156 ∨ b = X + 161 ∨ b = X + 164 := fun b i q => by unfold tr_E at q; omega
    have h' := to_Xe hE h hW' hz hw hq
    refine to_mk h' (fun K Q eK hK eX hQ => ?_)
    have e : ∀ b, b < X + 132 → K b = J b := fun b p => (eX b (by omega)).trans (funext (fun i => hq.2.1 b i (by omega) (fun q => by have := hE b i q; omega)))
    refine c_Md_chance hK.sh eK hK.inv hx hy hv (fun p' => absurd q p') (fun _ J1 mn' sw' st' fy hi hc' => ?_)
    have e31 : J (X + 31) 2 = (a_of (K (M + 22) 0)).2.2.1 := by
      rw [← to_pi hK, x_pi e]
      rfl
    rw [← x_cf e, cf_chn (to_cf hK), ← x_pi e, to_pi hK, to_no hK, e31, ← e (X + 30) (by omega), hK.rel.2.1.1.2.2.1.2.1, ← e (X + 17) (by omega), hK.rel.1.1.1.2.2.2.2] at hc
    obtain ⟨u1, u2, u3⟩ := s_chn_u _ _ _ _ _ _ _ _ _ _ _ hc' hc
    rw [u1, u2, u3, a_of_no hσ]
    exact hQ J1 fy hi.hkp
theorem fh_bear (h : to_I en X M N O z0 w0 T0 J0 k T J P L z w) {x r : Int} (hx : -8 ≤ x ∧ x ≤ 8) (hr : cl_fh (md_cf J M) (a_step (a_of (J (M + 22) 0)) 4 x) r) : s_bear (md_cf J M) (J (M + 22) 0) x ↔ 0 ≤ r := by
  constructor
  · rintro ⟨h1, t, h2, h3⟩
    have hb := a_why_bx h.inv.ok h.inv.hs.1 (by have := h.inv.hs; omega) h1
    rw [← s_ans_u h3 (fh_ans h.inv.ok hb hr)]
    exact h2
  · intro h0
    rcases hr with ⟨h1, h2⟩ | ⟨h1, h2⟩
    · exact ⟨(a_is_spec h1).1, r, h0, fh_ans h.inv.ok (a_is_bx h.inv.ok h1) (Or.inl ⟨h1, h2⟩)⟩
    · omega
theorem s_brs_u {n r r' : Int} (h : s_brs C n r) (h' : s_brs C n r') : r = r' := by
  rcases h with ⟨k, k1, k2, k3, k4⟩ | ⟨k1, k2⟩
  · rcases h' with ⟨m, m1, m2, m3, m4⟩ | ⟨m1, m2⟩
    · have : k = m := by
        rcases Int.lt_trichotomy k m with q | q | q
        · exact (m3 k k1.1 q k2).elim
        · exact q
        · exact (k3 m m1.1 q m2).elim
      subst this
      rw [k4, m4]
    · exact (m1 k k1.1 (by omega) k2).elim
  · rcases h' with ⟨m, m1, m2, m3, m4⟩ | ⟨m1, m2⟩
    · exact (k1 m m1.1 (by omega) m2).elim
    · rw [k2, m2]
theorem t_bears (h : to_I en X M N O z0 w0 T0 J0 k T J P L z w) : m_call en 40 mSc_bears [.ref X] (T, m_I J, P, L, z, w) (to_C en X M N O z0 w0 T0 J0 k mMd_bears [.ref M]) := by
  obtain ⟨⟨⟨zb, wb, hW, hz, hw⟩, -, -⟩, -⟩ := id h
  refine c_Sc_bears hW (fun q => ?_) (fun q T' J' P' L' z' w' m hW' hq hm h1 h2 => ?_)
  · refine to_mk h (fun K Q eK hK eX hQ => ?_)
    have e : ∀ b, b < X + 132 → K b = J b := fun b p => eX b (by omega)
    refine c_Md_bears hK.sh eK hK.inv.ok hK.inv.hs hK.inv.hkp (fun _ => hQ _ ((md_fx.refl K M).put _).fy (md_kp_put _ hK.inv.hkp)) (fun p => absurd p ?_)
    rw [← to_why hK, ← to_pi hK, x_cf e, x_pi e]
    exact q
  · have hE : ∀ b i, tr_E X b i → b = X + 156 ∨ b = X + 161 ∨ b = X + 164 := fun b i q => by unfold tr_E at q; omega
    have h' := to_Xe hE h hW' hz hw hq
    refine to_mk h' (fun K Q eK hK eX hQ => ?_)
    have e : ∀ b, b < X + 132 → K b = J b := fun b p => (eX b (by omega)).trans (funext (fun i => hq.2.1 b i (by omega) (fun q => by have := hE b i q; omega)))
    have hy : a_why (md_cf K M) (a_of (K (M + 22) 0)) = 0 := by
      rw [← to_why hK, ← to_pi hK, x_cf e, x_pi e]
      exact q
    refine c_Md_bears hK.sh eK hK.inv.ok hK.inv.hs hK.inv.hkp (fun p => absurd hy p) (fun _ J1 r' fx kp hb => ?_)
    simp only [← x_cf e, cf_fh (to_cf hK), ← x_pi e, to_pi hK] at h1 h2
    have hb2 : s_brs (md_cf K M) (K (M + 22) 0) (if (m : Int) = 0 then -2 else (m : Int) - 1) := by
      have g1 : ∀ j : Int, 0 ≤ j → j < (m : Int) → ¬ s_brk (md_cf K M) (K (M + 22) 0) j := fun j j0 j1 c => by
        obtain ⟨⟨r1, a1, b1⟩, r2, a2, b2⟩ := h1 j.toNat (by omega)
        rw [show ((j.toNat : Nat) : Int) = j from by omega] at a1 a2
        exact c ⟨(fh_bear hK (by omega) a1).mpr b1, (fh_bear hK (by omega) a2).mpr b2⟩
      by_cases c : m < 9
      · refine Or.inl ⟨(m : Int), by omega, ?_, g1, rfl⟩
        rintro ⟨c1, c2⟩
        rcases h2 c with ⟨r1, a1, b1⟩ | ⟨r1, a1, b1⟩
        · have := (fh_bear hK (by omega) a1).mp c1
          omega
        · have := (fh_bear hK (by omega) a1).mp c2
          omega
      · refine Or.inr ⟨fun j j0 j1 => g1 j j0 (by omega), ?_⟩
        rw [if_neg (by omega)]
        omega
    rw [s_brs_u hb hb2]
    exact hQ J1 fx.fy kp
end TQD
