/-! THE TIE: along, steadiest -/
section TQE
variable {en : Nat → Nat} {X M N O z0 w0 : Nat} {T0 : Nat → Option (Nat × Nat)} {J0 : Nat → Nat → Int} {k : Nat} {T T' : Nat → Option (Nat × Nat)} {J J' J1 K : Nat → Nat → Int} {P P' : Nat → Nat → Option Nat} {L L' : Nat → Nat → Int64} {z w z' w' zb wb : Nat} {C : a_C}
theorem cf_nt {C' : a_C} (hw : cf_w C C') {what : Int} {σ : a_S} (h : a_is C σ = true) : cl_nt C what σ = cl_nt C' what σ := by
  have hl : 0 ≤ σ.1 + σ.2.2.1 ∧ σ.1 + σ.2.2.1 < C.1 := by
    have h1 := (a_is_spec h).1
    unfold a_why at h1
    by_cases c1 : 0 ≤ σ.1 + σ.2.2.1 ∧ σ.1 + σ.2.2.1 < C.1
    · exact c1
    · rw [if_pos c1] at h1
      split at h1
      · omega
      · split at h1
        · omega
        · split at h1
          · omega
          · split at h1 <;> omega
  unfold cl_nt
  rw [hw.2.2.2.2.2 _ hl.1 hl.2]
theorem al_cf {C' : a_C} (hw : cf_w C C') {what : Int} {f : Nat → a_S} {c : Nat → Int} : ∀ t, (∀ j, j ≤ t → a_is C (f j) = true) → cl_al C what f c t = cl_al C' what f c t := by
  intro t
  induction t with
  | zero => intro h; exact cf_nt hw (h 0 (by omega))
  | succ t ih =>
    intro h
    unfold cl_al
    rw [ih (fun j hj => h j (by omega)), cf_nt hw (h t (by omega))]
theorem cl_al_s {what : Int} {f : Nat → a_S} {c : Nat → Int} {j : Nat} : cl_al C what f c (j + 1) = if what = 2 then cl_al C what f c j + (if c j / 3 = 1 then 0 else 1) else if what = 3 then cl_al C what f c j + (if c j % 3 = 1 then 0 else 1) else if what = 4 then min (cl_al C what f c j) (cl_nt C what (f j)) else max (cl_al C what f c j) (cl_nt C what (f j)) := rfl
theorem a_gt_max {a b : Int} : a_gt a b = max a b := by unfold a_gt; split <;> omega
theorem a_mn_min {a b : Int} : a_mn a b = min a b := by unfold a_mn; split <;> omega
/-- five sums of a way, as the reference gathers them -/
theorem al_go (ok : a_ok C) {γ : a_S} {π : a_S} {f : Nat → a_S} {c : Nat → Int} {t : Nat} (h : cl_wy C π γ f c t) : ∀ (k : Nat) (n : Int) (v r : a_S), k < t → 0 < n → s_alg C (a_no γ) (t : Int) k n (a_no (f k)) v r →
    r = (max v.1 (cl_al C 0 f c (k + 1)), max v.2.1 (cl_al C 1 f c (k + 1)), v.2.2.1 + cl_al C 2 f c k, v.2.2.2.1 + cl_al C 3 f c k, min (cl_al C 4 f c (k + 1)) v.2.2.2.2) := by
  intro k
  induction k with
  | zero =>
    intro n v r hk hn q
    have hb := a_is_bx ok (h.2.2.1 0 (by omega))
    have q' : r = a_al1 C (t : Int) n (a_no (f 0)) v := q
    rw [q']
    unfold a_al1
    rw [if_pos (Or.inl hn), a_of_no hb, a_gt_max, a_gt_max, a_mn_min, cl_al_s, cl_al_s, cl_al_s, if_neg (by omega), if_neg (by omega), if_neg (by omega), if_neg (by omega), if_neg (by omega), if_neg (by omega), if_neg (by omega), if_neg (by omega), if_pos rfl]
    show _ = (max v.1 (max (a_abs (f 0).2.2.1) (a_abs (f 0).2.2.1)), max v.2.1 (max (a_abs (f 0).2.1) (a_abs (f 0).2.1)), v.2.2.1 + 0, v.2.2.2.1 + 0, min (min (C.2.2.2.2.2 ((f 0).1 + (f 0).2.2.1) - (f 0).2.2.2.2) (C.2.2.2.2.2 ((f 0).1 + (f 0).2.2.1) - (f 0).2.2.2.2)) v.2.2.2.2)
    rw [Int.max_self, Int.max_self, Int.min_self, Int.add_zero, Int.add_zero]
  | succ k ih =>
    intro n v r hk hn q
    obtain ⟨c', q1, q2⟩ := q
    have hb := a_is_bx ok (h.2.2.1 (k + 1) (by omega))
    have hs := h.2.2.2 k (by omega)
    obtain rfl := s_first_u q1 hs.2
    rw [a_of_no hb, ← hs.1] at q2
    have := ih (n + 1) _ r (by omega) (by omega) q2
    rw [this]
    unfold a_al2 a_al1
    rw [if_pos (Or.inl hn), a_of_no hb, a_gt_max, a_gt_max, a_mn_min]
    have e0 : cl_al C 0 f c (k + 1 + 1) = max (cl_al C 0 f c (k + 1)) (a_abs (f (k + 1)).2.2.1) := by rw [cl_al_s, if_neg (by omega), if_neg (by omega), if_neg (by omega)]; rfl
    have e1 : cl_al C 1 f c (k + 1 + 1) = max (cl_al C 1 f c (k + 1)) (a_abs (f (k + 1)).2.1) := by rw [cl_al_s, if_neg (by omega), if_neg (by omega), if_neg (by omega)]; rfl
    have e4 : cl_al C 4 f c (k + 1 + 1) = min (cl_al C 4 f c (k + 1)) (C.2.2.2.2.2 ((f (k + 1)).1 + (f (k + 1)).2.2.1) - (f (k + 1)).2.2.2.2) := by rw [cl_al_s, if_neg (by omega), if_neg (by omega), if_pos rfl]; rfl
    have e2 : cl_al C 2 f c (k + 1) = cl_al C 2 f c k + (if c k / 3 = 1 then 0 else 1) := by rw [cl_al_s, if_pos rfl]
    have e3 : cl_al C 3 f c (k + 1) = cl_al C 3 f c k + (if c k % 3 = 1 then 0 else 1) := by rw [cl_al_s, if_neg (by omega), if_pos rfl]
    rw [e0, e1, e4, e2, e3]
    refine Prod.ext ?_ (Prod.ext ?_ (Prod.ext ?_ (Prod.ext ?_ ?_)))
    · show max (max v.1 (a_abs (f (k + 1)).2.2.1)) (cl_al C 0 f c (k + 1)) = max v.1 (max (cl_al C 0 f c (k + 1)) (a_abs (f (k + 1)).2.2.1)); omega
    · show max (max v.2.1 (a_abs (f (k + 1)).2.1)) (cl_al C 1 f c (k + 1)) = max v.2.1 (max (cl_al C 1 f c (k + 1)) (a_abs (f (k + 1)).2.1)); omega
    · show v.2.2.1 + (if c k / 3 = 1 then 0 else 1) + cl_al C 2 f c k = v.2.2.1 + (cl_al C 2 f c k + (if c k / 3 = 1 then 0 else 1)); omega
    · show v.2.2.2.1 + (if c k % 3 = 1 then 0 else 1) + cl_al C 3 f c k = v.2.2.2.1 + (cl_al C 3 f c k + (if c k % 3 = 1 then 0 else 1)); omega
    · show min (cl_al C 4 f c (k + 1)) (min (C.2.2.2.2.2 ((f (k + 1)).1 + (f (k + 1)).2.2.1) - (f (k + 1)).2.2.2.2) v.2.2.2.2) = min (min (cl_al C 4 f c (k + 1)) (C.2.2.2.2.2 ((f (k + 1)).1 + (f (k + 1)).2.2.1) - (f (k + 1)).2.2.2.2)) v.2.2.2.2; omega
theorem al_nt_b (ok : a_ok C) {σ : a_S} (h : a_is C σ = true) : (0 ≤ cl_nt C 0 σ ∧ 0 ≤ cl_nt C 1 σ) ∧ cl_nt C 4 σ ≤ 30000 := by
  have hb := a_is_bx ok h
  have h1 := (a_is_spec h).1
  have hl : 0 ≤ σ.1 + σ.2.2.1 ∧ σ.1 + σ.2.2.1 < C.1 := by
    unfold a_why at h1
    by_cases c1 : 0 ≤ σ.1 + σ.2.2.1 ∧ σ.1 + σ.2.2.1 < C.1
    · exact c1
    · rw [if_pos c1] at h1
      split at h1
      · omega
      · split at h1
        · omega
        · split at h1
          · omega
          · split at h1 <;> omega
  have hf := ok.2.2.2.2.2 (σ.1 + σ.2.2.1) hl.1 (by have := ok.1; omega)
  refine ⟨⟨a_abs_nn _, a_abs_nn _⟩, ?_⟩
  show C.2.2.2.2.2 (σ.1 + σ.2.2.1) - σ.2.2.2.2 ≤ 30000
  have := hb.2.2.2.2
  omega
theorem al_al_b (ok : a_ok C) {f : Nat → a_S} {c : Nat → Int} : ∀ t, (∀ j, j ≤ t → a_is C (f j) = true) → (0 ≤ cl_al C 0 f c t ∧ 0 ≤ cl_al C 1 f c t) ∧ cl_al C 4 f c t ≤ 30000 := by
  intro t
  induction t with
  | zero => intro h; exact al_nt_b ok (h 0 (by omega))
  | succ t ih =>
    intro h
    have i1 := ih (fun j hj => h j (by omega))
    have i2 := al_nt_b ok (h t (by omega))
    rw [cl_al_s, cl_al_s, cl_al_s, if_neg (by omega), if_neg (by omega), if_neg (by omega), if_neg (by omega), if_neg (by omega), if_neg (by omega), if_neg (by omega), if_neg (by omega), if_pos rfl]
    omega
theorem al_eq (ok : a_ok C) {γ : a_S} {π : a_S} {f : Nat → a_S} {c : Nat → Int} {t : Nat} (h : cl_wy C π γ f c t) {r : a_S} (q : s_alg C (a_no γ) (t : Int) t 0 (a_no π) (0, 0, 0, 0, 30000) r) {what : Int} (hw : 0 ≤ what ∧ what ≤ 4) : a_al9 what r = cl_al C what f c t := by
  have hbd := al_al_b ok (c := c) t h.2.2.1
  have key : r = (max 0 (cl_al C 0 f c t), max 0 (cl_al C 1 f c t), 0 + cl_al C 2 f c t, 0 + cl_al C 3 f c t, min (cl_al C 4 f c t) 30000) := by
    cases t with
    | zero =>
      have q' : r = a_al1 C ((0 : Nat) : Int) 0 (a_no π) (0, 0, 0, 0, 30000) := q
      have hb := a_is_bx ok (h.2.2.1 0 (by omega))
      rw [q', ← h.2.1]
      unfold a_al1
      rw [if_pos (show (0 : Int) < 0 ∨ ((0 : Nat) : Int) = 0 from Or.inr rfl), a_of_no hb, a_gt_max, a_gt_max, a_mn_min]
      rfl
    | succ t =>
      obtain ⟨c', q1, q2⟩ := q
      have hs := h.2.2.2 t (by omega)
      have hb := a_is_bx ok (h.2.2.1 (t + 1) (by omega))
      rw [← h.2.1] at q1 q2
      obtain rfl := s_first_u q1 hs.2
      rw [a_of_no hb, ← hs.1] at q2
      have := al_go ok h t (0 + 1) _ r (by omega) (by omega) q2
      rw [this]
      have e2 : cl_al C 2 f c (t + 1) = cl_al C 2 f c t + (if c t / 3 = 1 then 0 else 1) := by rw [cl_al_s, if_pos rfl]
      have e3 : cl_al C 3 f c (t + 1) = cl_al C 3 f c t + (if c t % 3 = 1 then 0 else 1) := by rw [cl_al_s, if_neg (by omega), if_pos rfl]
      unfold a_al2 a_al1
      rw [if_neg (by omega), e2, e3]
      refine Prod.ext rfl (Prod.ext rfl (Prod.ext ?_ (Prod.ext ?_ rfl)))
      · show 0 + (if c t / 3 = 1 then 0 else 1) + cl_al C 2 f c t = 0 + (cl_al C 2 f c t + (if c t / 3 = 1 then 0 else 1)); omega
      · show 0 + (if c t % 3 = 1 then 0 else 1) + cl_al C 3 f c t = 0 + (cl_al C 3 f c t + (if c t % 3 = 1 then 0 else 1)); omega
  rw [key]
  unfold a_al9
  by_cases w0 : what = 0
  · rw [if_pos w0, w0]; show max 0 (cl_al C 0 f c t) = cl_al C 0 f c t; omega
  · by_cases w1 : what = 1
    · rw [if_neg w0, if_pos w1, w1]; show max 0 (cl_al C 1 f c t) = cl_al C 1 f c t; omega
    · by_cases w2 : what = 2
      · rw [if_neg w0, if_neg w1, if_pos w2, w2]; show 0 + cl_al C 2 f c t = cl_al C 2 f c t; omega
      · by_cases w3 : what = 3
        · rw [if_neg w0, if_neg w1, if_neg w2, if_pos w3, w3]; show 0 + cl_al C 3 f c t = cl_al C 3 f c t; omega
        · rw [if_neg w0, if_neg w1, if_neg w2, if_neg w3, show what = 4 from by omega]; show min (cl_al C 4 f c t) 30000 = cl_al C 4 f c t; omega
theorem t_along (h : to_I en X M N O z0 w0 T0 J0 k T J P L z w) {x y : Int} (hx : m_in x) (hy : m_in y) : m_call en 40 mSc_along [.ref X, .int (m_i x), .int (m_i y)] (T, m_I J, P, L, z, w) (to_C en X M N O z0 w0 T0 J0 k mMd_along [.ref M, .int (m_i x), .int (m_i y)]) := by
  obtain ⟨⟨⟨zb, wb, hW, hz, hw⟩, -, -⟩, -⟩ := id h
  refine c_Sc_along hW hx hy (fun q => ?_) (fun q T' J' P' L' z' w' r hW' hq hr hr2 => ?_) (fun q T' J' P' L' z' w' r f c hW' hq hr hr2 hwy => ?_)
  · refine to_mk h (fun K Q eK hK eX hQ => ?_)
    have p : ¬ ((0 ≤ x ∧ x < K (M + 2) 4) ∧ 0 ≤ y ∧ y ≤ 4) := by rw [← to_spn hK, eX _ (by omega)]; exact q
    exact c_Md_along hK.sh eK hK.inv hx hy (fun _ => hQ K (md_fy.refl K M) hK.inv.hkp) (fun p' => absurd p' p) (fun p' => absurd p' p)
  · have h' := to_Xq h hW' hz hw hq
    refine to_mk h' (fun K Q eK hK eX hQ => ?_)
    have e : ∀ b, b < X + 132 → K b = J b := fun b p => (eX b (by omega)).trans (funext (fun i => hq.2.1 b i (by omega)))
    have p : (0 ≤ x ∧ x < K (M + 2) 4) ∧ 0 ≤ y ∧ y ≤ 4 := by rw [← to_spn hK, e _ (by omega)]; exact q
    have hr' := s_few_of hK (u_fw hK p.1 (by rw [x_cf e, x_pi e, x_sp e]; exact hr))
    refine c_Md_along hK.sh eK hK.inv hx hy (fun p' => absurd p p') (fun _ J1 fx hi _ => hQ J1 fx.fy hi.hkp) (fun _ J1 all r' fx hi ha h0 _ => ?_)
    have := s_few_u ha hr'
    omega
  · have h' := to_Xq h hW' hz hw hq
    refine to_mk h' (fun K Q eK hK eX hQ => ?_)
    have e : ∀ b, b < X + 132 → K b = J b := fun b p => (eX b (by omega)).trans (funext (fun i => hq.2.1 b i (by omega)))
    have p : (0 ≤ x ∧ x < K (M + 2) 4) ∧ 0 ≤ y ∧ y ≤ 4 := by rw [← to_spn hK, e _ (by omega)]; exact q
    have hr' := s_few_of hK (u_fw hK p.1 (by rw [x_cf e, x_pi e, x_sp e]; exact hr))
    refine c_Md_along hK.sh eK hK.inv hx hy (fun p' => absurd p p') (fun _ J1 fx hi ha => ?_) (fun _ J1 all r' fx hi ha h0 hal => ?_)
    · have := s_few_u ha hr'
      omega
    · have e1 := s_few_u ha hr'
      have hcw : cf_w (cl_cf J X) (md_cf K M) := by rw [← x_cf e]; exact to_cf hK
      have hwy2 : cl_wy (md_cf K M) (a_of (K (M + 22) 0)) (cl_spt K X x.toNat) f c r.toNat := by
        rw [← to_pi hK, x_pi e, x_sp e]
        exact wy_cf hcw hwy
      rw [e1, (to_spt hK p.1).1, ← to_no hK, show r = ((r.toNat : Nat) : Int) from by omega, show (((r.toNat : Nat) : Int)).toNat = r.toNat from by omega] at hal
      rw [al_eq hK.inv.ok hwy2 hal p.2, ← al_cf hcw r.toNat hwy.2.2.1]
      exact hQ J1 fx.fy hi.hkp
/-- a step whose sway behind it is bounded -/
def w_F (C : a_C) (mo : Int) (σ τ : a_S) : Prop := ∃ c : Int, (0 ≤ c ∧ c < 9) ∧ a_is C (a_step σ c 0) = true ∧ a_abs (a_step σ c 0).2.2.1 ≤ mo ∧ τ = a_step σ c 0
theorem g_E_F (ok : a_ok C) {mo : Int} (hm : mo ≤ 4) : g_E C 0 mo 511 = w_F C mo := by
  funext σ τ
  have ha : ∀ v : Int, a_abs v ≤ mo ↔ -mo ≤ v ∧ v ≤ mo := fun v => by unfold a_abs; split <;> omega
  refine propext ⟨?_, ?_⟩
  · rintro ⟨c, hc, ⟨h1, h2, h3⟩, e⟩
    rw [g_nx0] at h2 h3 e
    exact ⟨(c : Int), by omega, h3, (ha _).mpr h2, e⟩
  · rintro ⟨c, hc, h1, h2, e⟩
    refine ⟨c.toNat, by omega, ⟨w_bit511 ⟨c.toNat, by omega⟩, ?_, ?_⟩, ?_⟩
    · rw [g_nx0, show ((c.toNat : Nat) : Int) = c from by omega]; exact (ha _).mp h2
    · rw [g_nx0, show ((c.toNat : Nat) : Int) = c from by omega]; exact h1
    · rw [g_nx0, show ((c.toNat : Nat) : Int) = c from by omega]; exact e
/-- steady: a way whose states behind the first sway no more -/
theorem sdy_ch (ok : a_ok C) {mo : Int} (hm : 0 ≤ mo) {π γ : a_S} (hπ : a_is C π = true) (hγ : a_is C γ = true) (hr : w_rs γ) : s_sdy C (a_no γ) (a_no π) mo ↔ ∃ t, p_ch (w_F C mo) t π γ := by
  have hs : a_abs γ.2.2.1 ≤ mo := by rw [hr.2.1]; exact hm
  have k1 : ∀ (t : Nat) (n : Int), b_D (fun x => x = a_no γ) (s_G C mo) t n → ∃ σ, a_is C σ = true ∧ n = a_no σ ∧ a_abs σ.2.2.1 ≤ mo ∧ p_ch (w_F C mo) t σ γ := by
    intro t
    induction t with
    | zero => intro n q; exact ⟨γ, hγ, q, hs, rfl⟩
    | succ t ih =>
      intro n q
      obtain ⟨m, q1, c, hc, ⟨q2, q3⟩, q4⟩ := q
      obtain ⟨σ, i1, i2, i3, i4⟩ := ih m q1
      rw [i2, a_of_no (a_is_bx ok i1)] at q2 q3 q4
      refine ⟨a_back σ c, q2, q4, q3, σ, ⟨c, hc, ?_, ?_, ?_⟩, i4⟩
      · rw [a_step_back]; exact i1
      · rw [a_step_back]; exact i3
      · rw [a_step_back]
  have k2 : ∀ (t : Nat) (σ : a_S), a_is C σ = true → a_abs σ.2.2.1 ≤ mo → p_ch (w_F C mo) t σ γ → b_D (fun x => x = a_no γ) (s_G C mo) t (a_no σ) := by
    intro t
    induction t with
    | zero => intro σ _ _ q; show a_no σ = a_no γ; rw [show σ = γ from q]
    | succ t ih =>
      intro σ h1 h2 q
      obtain ⟨τ, ⟨c, hc, q1, q2, q3⟩, q4⟩ := q
      subst q3
      refine ⟨a_no (a_step σ c 0), ih _ q1 q2 q4, c, hc, ?_, ?_⟩
      · rw [a_of_no (a_is_bx ok q1), a_back_step]; exact ⟨h1, h2⟩
      · rw [a_of_no (a_is_bx ok q1), a_back_step]
  constructor
  · rintro ⟨t, n, q1, q2⟩
    obtain ⟨σ, i1, i2, i3, i4⟩ := k1 t n q1
    rcases q2 with q2 | ⟨c, hc, q2, q3⟩
    · have : σ = π := a_no_i ok i1 hπ (by rw [← i2, q2])
      exact ⟨t, by rw [← this]; exact i4⟩
    · rw [i2, a_of_no (a_is_bx ok i1)] at q2 q3
      have : π = a_back σ c := a_no_i ok hπ q2 q3
      refine ⟨t + 1, σ, ⟨c, hc, ?_, ?_, ?_⟩, i4⟩
      · rw [this, a_step_back]; exact i1
      · rw [this, a_step_back]; exact i3
      · rw [this, a_step_back]
  · rintro ⟨t, q⟩
    cases t with
    | zero => exact ⟨0, a_no γ, rfl, Or.inl (by rw [show π = γ from q])⟩
    | succ t =>
      obtain ⟨τ, ⟨c, hc, q1, q2, q3⟩, q4⟩ := q
      subst q3
      refine ⟨t, _, k2 t _ q1 q2 q4, Or.inr ⟨c, hc, ?_, ?_⟩⟩
      · rw [a_of_no (a_is_bx ok q1), a_back_step]; exact hπ
      · rw [a_of_no (a_is_bx ok q1), a_back_step]
theorem p_ch_b {α : Type} {E : α → α → Prop} {x y : α} : ∀ t, b_D (fun q => q = x) E t y ↔ p_ch E t x y := by
  intro t
  induction t generalizing y with
  | zero => exact ⟨fun q => (show y = x from q).symm, fun q => (show x = y from q).symm⟩
  | succ t ih =>
    constructor
    · rintro ⟨τ, q1, q2⟩
      exact p_ch_e t x τ y (ih.mp q1) q2
    · intro q
      have := p_ch_D (S := fun q => q = x) (t + 1) 0 x y rfl q
      rw [show 0 + (t + 1) = t + 1 from by omega] at this
      exact this
theorem s_stt_u {goal fr r r' : Int} (h : s_stt C goal fr r) (h' : s_stt C goal fr r') : r = r' := by
  rcases h with ⟨k, k1, k2, k3, k4⟩ | ⟨k1, k2⟩
  · rcases h' with ⟨m, m1, m2, m3, m4⟩ | ⟨m1, m2⟩
    · have : k = m := by
        rcases Int.lt_trichotomy k m with q | q | q
        · exact (m3 k k1.1 q k2).elim
        · exact q
        · exact (k3 m m1.1 q m2).elim
      rw [k4, m4, this]
    · exact (m1 k k1.1 k1.2 k2).elim
  · rcases h' with ⟨m, m1, m2, m3, m4⟩ | ⟨m1, m2⟩
    · exact (k1 m m1.1 m1.2 m2).elim
    · rw [k2, m2]
theorem fx_ch (ok : a_ok C) {mo r : Int} (hm : mo ≤ 4) {π γ : a_S} (hπ : a_is C π = true) (hγ : a_is C γ = true) (h : cl_fx C 511 mo π γ r) : 0 ≤ r ↔ ∃ t, p_ch (w_F C mo) t π γ := by
  rcases h with ⟨-, h⟩ | ⟨h, -⟩
  · rw [w_sd_t hπ, g_E_F ok hm] at h
    rcases h with ⟨t, e, q, -⟩ | ⟨e, q⟩
    · exact ⟨fun _ => ⟨t, (p_ch_b t).mp q⟩, fun _ => by omega⟩
    · exact ⟨fun _ => by omega, fun ⟨t, q2⟩ => (q t ((p_ch_b t).mpr q2)).elim⟩
  · exact absurd hγ h
theorem t_steadiest (h : to_I en X M N O z0 w0 T0 J0 k T J P L z w) {x : Int} (hx : m_in x) : m_call en 40 mSc_steadiest [.ref X, .int (m_i x)] (T, m_I J, P, L, z, w) (to_C en X M N O z0 w0 T0 J0 k mMd_steadiest [.ref M, .int (m_i x)]) := by
  obtain ⟨⟨⟨zb, wb, hW, hz, hw⟩, -, -⟩, -⟩ := id h
  have h3 := h.rel.1.1.1.2.2.2.1
  have h3b := h.inv.pl.2.2.2.1
  refine c_Sc_steadiest (n := (J (M + 2) 3).toNat) hW hx (by omega) (fun q => ?_) (fun q T' J' P' L' z' w' r hW' hq hr hr2 => ?_) (fun q T' J' P' L' z' w' r m hW' hq hr hr2 hm hm1 hm2 => ?_)
  · refine to_mk h (fun K Q eK hK eX hQ => ?_)
    have p : ¬ (0 ≤ x ∧ x < K (M + 2) 4) := by rw [← to_spn hK, eX _ (by omega)]; exact q
    exact c_Md_steadiest hK.sh eK hK.inv hx (fun _ => hQ K (md_fy.refl K M) hK.inv.hkp) (fun p' => absurd p' p) (fun p' => absurd p' p)
  · have h' := to_Xq h hW' hz hw hq
    refine to_mk h' (fun K Q eK hK eX hQ => ?_)
    have e : ∀ b, b < X + 132 → K b = J b := fun b p => (eX b (by omega)).trans (funext (fun i => hq.2.1 b i (by omega)))
    have p : 0 ≤ x ∧ x < K (M + 2) 4 := by rw [← to_spn hK, e _ (by omega)]; exact q
    obtain ⟨e1, e2, e3⟩ := to_spt hK p
    have ok := hK.inv.ok
    have hr0 : cl_fw (md_cf K M) (a_of (K (M + 22) 0)) (cl_spt K X x.toNat) r := by
      rw [← cf_fw (to_cf hK), ← to_pi hK, x_cf e, x_pi e, x_sp e]
      exact hr
    have hr' := u_fw hK p (by rw [x_cf e, x_pi e, x_sp e]; exact hr)
    have hb := s_ans_bd ok hr'
    refine c_Md_steadiest hK.sh eK hK.inv hx (fun p' => absurd p p') (fun _ hy J1 fx hi => ?_) (fun _ hy J1 r' fx hi ha => ?_)
    · have : r = -2 := by
        rcases hb with hb | hb
        · exact hb
        · refine (hy ⟨?_, ?_⟩).elim
          · rw [← to_no hK] at hr'
            exact (to_is hK).mp (s_ans_is ok (to_bx hK) hr' hb.1)
          · rw [e1, a_of_no e2]
            exact cl_fw_is hr0 hb.1
      rw [← this]
      exact hQ J1 fx.fy hi.hkp
    · have hπ := (to_is hK).mpr hy.1
      have hγ : a_is (md_cf K M) (cl_spt K X x.toNat) = true := by rw [← a_of_no e2, ← e1]; exact hy.2
      have hst : s_stt (md_cf K M) (md_sp K M x) (K (M + 22) 0) r := by
        rw [e1, ← to_no hK]
        rcases hb with hb | hb
        · refine Or.inr ⟨fun j j0 j1 c => ?_, hb⟩
          obtain ⟨t, c⟩ := (sdy_ch ok j0 hπ hγ e3).mp c
          have hw4 : ∀ (t : Nat) (σ : a_S), p_ch (w_F (md_cf K M) j) t σ (cl_spt K X x.toNat) → p_ch (w_F (md_cf K M) 4) t σ (cl_spt K X x.toNat) := by
            intro t
            induction t with
            | zero => intro σ q; exact q
            | succ t ih =>
              intro σ q
              obtain ⟨τ, ⟨c, a1, a2, a3, a4⟩, q2⟩ := q
              exact ⟨τ, ⟨c, a1, a2, by have := ok.2.2.2.1; omega, a4⟩, ih τ q2⟩
          have := (fx_ch ok (by omega) hπ hγ (show cl_fx (md_cf K M) 511 4 (a_of (K (M + 22) 0)) (cl_spt K X x.toNat) r from hr0)).mpr ⟨t, hw4 t _ c⟩
          omega
        · have hr1 : r = 0 := by omega
          subst hr1
          have hd : a_of (K (M + 22) 0) = cl_spt K X x.toNat := by
            rcases hr0 with ⟨-, c⟩ | ⟨-, c⟩
            · rcases c with ⟨t, c1, c2, -⟩ | ⟨c1, -⟩
              · have : t = 0 := by omega
                subst this
                exact c2.2.symm
              · omega
            · omega
          refine Or.inl ⟨0, by have := ok.2.2.2.1; omega, (sdy_ch ok (Int.le_refl 0) hπ hγ e3).mpr ⟨0, hd⟩, fun j j0 j1 => by omega, rfl⟩
      rw [s_stt_u ha hst]
      exact hQ J1 fx.fy hi.hkp
  · have h' := to_Xq h hW' hz hw hq
    refine to_mk h' (fun K Q eK hK eX hQ => ?_)
    have e : ∀ b, b < X + 132 → K b = J b := fun b p => (eX b (by omega)).trans (funext (fun i => hq.2.1 b i (by omega)))
    have p : 0 ≤ x ∧ x < K (M + 2) 4 := by rw [← to_spn hK, e _ (by omega)]; exact q
    obtain ⟨e1, e2, e3⟩ := to_spt hK p
    have ok := hK.inv.ok
    have hr0 : cl_fw (md_cf K M) (a_of (K (M + 22) 0)) (cl_spt K X x.toNat) r := by
      rw [← cf_fw (to_cf hK), ← to_pi hK, x_cf e, x_pi e, x_sp e]
      exact hr
    have hr' := u_fw hK p (by rw [x_cf e, x_pi e, x_sp e]; exact hr)
    have hπ : a_is (md_cf K M) (a_of (K (M + 22) 0)) = true := by
      rw [← to_no hK] at hr'
      exact s_ans_is ok (to_bx hK) hr' (by omega)
    have hγ := cl_fw_is hr0 (by omega)
    simp only [← x_cf e, cf_fx (to_cf hK), ← x_pi e, to_pi hK, ← x_sp e] at hm1 hm2
    have hsw : (md_cf K M).2.2.2.1 = J (M + 2) 3 := by
      show K (M + 2) 3 = J (M + 2) 3
      rw [← hK.rel.1.1.1.2.2.2.1, e (X + 17) (by omega), h3]
    refine c_Md_steadiest hK.sh eK hK.inv hx (fun p' => absurd p p') (fun _ hy J1 fx hi => ?_) (fun _ hy J1 r' fx hi ha => ?_)
    · exact (hy ⟨(to_is hK).mp hπ, by rw [e1, a_of_no e2]; exact hγ⟩).elim
    · have hst : s_stt (md_cf K M) (md_sp K M x) (K (M + 22) 0) (m : Int) := by
        rw [e1, ← to_no hK]
        refine Or.inl ⟨(m : Int), by omega, ?_, fun j j0 j1 c => ?_, rfl⟩
        · rw [sdy_ch ok (by omega) hπ hγ e3]
          by_cases c : m < (J (M + 2) 3).toNat
          · obtain ⟨r2, a1, a2⟩ := hm2 c
            exact (fx_ch ok (by omega) hπ hγ a1).mp a2
          · obtain ⟨t, c2⟩ := (fx_ch ok (by omega) hπ hγ (show cl_fx (md_cf K M) 511 4 (a_of (K (M + 22) 0)) (cl_spt K X x.toNat) r from hr0)).mp (by omega)
            refine ⟨t, ?_⟩
            have hw4 : ∀ (t : Nat) (σ : a_S), p_ch (w_F (md_cf K M) 4) t σ (cl_spt K X x.toNat) → p_ch (w_F (md_cf K M) (m : Int)) t σ (cl_spt K X x.toNat) := by
              intro t
              induction t with
              | zero => intro σ q; exact q
              | succ t ih =>
                intro σ q
                obtain ⟨τ, ⟨c, a1, a2, a3, a4⟩, q2⟩ := q
                refine ⟨τ, ⟨c, a1, a2, ?_, a4⟩, ih τ q2⟩
                have hs := (a_is_sd (C := md_cf K M) (x := (a_step σ c 0).1) (v := (a_step σ c 0).2.1) (t := (a_step σ c 0).2.2.1) (l := (a_step σ c 0).2.2.2.1) (e := (a_step σ c 0).2.2.2.2)).mp a2
                have := hs.2.2.2.1
                omega
            exact hw4 t _ c2
        · obtain ⟨t, c⟩ := (sdy_ch ok j0 hπ hγ e3).mp c
          obtain ⟨r2, a1, a2⟩ := hm1 j.toNat (by omega)
          rw [show ((j.toNat : Nat) : Int) = j from by omega] at a1
          have := (fx_ch ok (by omega) hπ hγ a1).mpr ⟨t, c⟩
          omega
      rw [s_stt_u ha hst]
      exact hQ J1 fx.fy hi.hkp
end TQE
