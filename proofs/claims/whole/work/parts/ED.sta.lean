/-! the start: what the statement gives there -/
theorem st_D {s : State} {args : Array Value} (hts : ∀ w ∈ m_gw, w.before args s = true) : ∃ D : va_G, va_K D m_cl [] s := by
  have h : ∀ c : Nat, ∃ q : ClassId × (Nat → Nat), c < 13 → u_Kn s (m_cn c) (m_T c) (m_W c) q.1 q.2 := fun c => by
    by_cases hc : c < 13
    · obtain ⟨l1, -, -, -, -, l6, -, -⟩ := m_L_ok hc
      obtain ⟨cC, iS, hk⟩ := u_known hts l1 (hts _ l6)
      exact ⟨(cC, iS), fun _ => hk⟩
    · exact ⟨((0 : Nat), fun _ => 0), fun q => absurd q hc⟩
  obtain ⟨f, hf⟩ := Classical.axiomOfChoice h
  refine ⟨(fun c => (f c).1, fun c => (f c).2), fun c q hq => ?_, fun k q hk => by cases hk⟩
  have hc : c < 13 := (List.getElem?_eq_some_iff.mp hq).1
  obtain ⟨-, -, -, -, -, -, -, l8⟩ := m_L_ok hc
  cases Option.some.inj (hq.symm.trans l8)
  exact hf c hc
abbrev st_mt : Term := .static "SwingCrane" "MOST_TOLD" "[I"
abbrev st_oc : Term := .static "SwingCrane" "ORDER_CODES" "[I"
set_option maxRecDepth 100000 in
theorem st_w1 : (Cond.arrayOf st_mt .int ∈ flatC (Jvm.Cond.and given_1 narrow_1) ∧ Cond.eq (.length st_mt) (.int 12) ∈ flatC (Jvm.Cond.and given_1 narrow_1) ∧ Cond.not (.eq (.arg 0) st_mt) ∈ flatC (Jvm.Cond.and given_1 narrow_1)) ∧ (Cond.arrayOf st_oc .int ∈ flatC (Jvm.Cond.and given_1 narrow_1) ∧ Cond.eq (.length st_oc) (.int 5) ∈ flatC (Jvm.Cond.and given_1 narrow_1) ∧ Cond.not (.eq (.arg 0) st_oc) ∈ flatC (Jvm.Cond.and given_1 narrow_1)) := by decide +kernel
set_option maxRecDepth 100000 in
theorem st_w2 : ∀ j : Nat, j < 12 → Cond.eq (.elem st_mt (.int (Int32.ofNat j))) (.int (m_i (re_mt j))) ∈ flatC (Jvm.Cond.and given_1 narrow_1) := by decide +kernel
set_option maxRecDepth 100000 in
theorem st_w3 : ∀ j : Nat, j < 5 → Cond.eq (.elem st_oc (.int (Int32.ofNat j))) (.int (m_i (cl_oc j))) ∈ flatC (Jvm.Cond.and given_1 narrow_1) := by decide +kernel
set_option maxRecDepth 100000 in
theorem st_w4 : (Cond.laysStatic "SwingCrane" "MOST_TOLD" "[I" ∈ tables_1 ∧ Cond.laysStatic "SwingCrane" "ORDER_CODES" "[I" ∈ tables_1 ∧ Cond.initialized "SwingCrane" ∈ tables_1) ∧ (Cond.fieldLinkNest "SwingCrane$Reader" 129 "SwingCrane" "MOST_TOLD" "[I" "SwingCrane" ∈ tables_1 ∧ Cond.arrayOver (.object "SwingCrane$Moment") ∈ tables_1) := by decide +kernel
theorem st_ne {args : Array Value} {s : State} {t1 t2 : Term} {a : Nat} (h : (Cond.not (.eq t1 t2)).before args s = true) (h1 : t1.eval args s none [] s = some (.ref a)) (h2 : t2.eval args s none [] s = some (.ref a)) : False := by
  simp [Cond.before, Cond.holds, Cond.value, h1, h2] at h
theorem st_clo {s : State} {t L : Nat} {f : Nat → Value} {A : Nat → Prop} (h : va_T .int t L f A s s.heap) : m_arr s 20 t L f s.heap := by
  obtain ⟨cell, h1, ⟨h3, kA, h4, comp, h5⟩, h2, h6, h7, h8, -⟩ := h
  exact ⟨cell, kA, comp, h1, h2, h3, h4, h5, fun q => absurd q (by decide), ⟨h6, h7⟩, h8⟩
theorem st_start {p : Program} {s : State} {m : MethodId} {meth : Method} {c : Code} {b L : Nat} {xs : Nat → Int32} (hL : L ≤ 3072) (hn : meth.name = "law") (C0 : lw_At p s m meth c b L xs) :
    ∃ (en : Nat → Nat) (D : va_G) (T0 : Nat → Option (Nat × Nat)) (J0 : Nat → Nat → Int) (P0 : Nat → Nat → Option Nat) (L0 : Nat → Nat → Int64), m_cx en D s.heap p room_1 s m #[Value.ref b] meth c mLa_law ∧ m_rel D s.heap s (T0, m_I J0, P0, L0, s.heap.size, 0) s.heap ∧ en 0 = s.heap.size ∧ re_st en T0 J0 ∧ cl_os en T0 J0 ∧ T0 b = some (20, L) ∧ ∀ j, m_in (J0 b j) := by
  obtain ⟨hx, hb, hr, hml, hown, hts, hX, hbl, hlk, hgv⟩ := C0
  have hs := flat_of_before _ hgv
  have hgw : ∀ w ∈ m_gw, w.before #[Value.ref b] s = true := fun w hw => hts w (m_gwT hw).1
  obtain ⟨D, hD⟩ := st_D hgw
  have hA : ∀ a : Nat, a < s.heap.size → ¬ s.heap.size ≤ a := fun a q q2 => by omega
  obtain ⟨t2, e2, z2⟩ := va_Tof (args := #[Value.ref b]) (s := s) (tm := st_mt) (ty := .int) (N := 12) (f := fun j => .int (m_i (re_mt j))) (A := fun q => s.heap.size ≤ q) (by decide) (hs _ st_w1.1.1) (va_eqt (hs _ st_w1.1.2.1)) (fun j hj => va_eqt (hs _ (st_w2 j hj))) hA
  obtain ⟨t3, e3, z3⟩ := va_Tof (args := #[Value.ref b]) (s := s) (tm := st_oc) (ty := .int) (N := 5) (f := fun j => .int (m_i (cl_oc j))) (A := fun q => s.heap.size ≤ q) (by decide) (hs _ st_w1.2.1) (va_eqt (hs _ st_w1.2.2.1)) (fun j hj => va_eqt (hs _ (st_w3 j hj))) hA
  obtain ⟨a1, c1, cA1, kA1, q1, -⟩ := Cond.exactly_spec (args := #[Value.ref b]) (first := s) (o := none) (s := s) (idx := []) (hs _ jd_5.1)
  have n2 : ¬ t2 = b := fun q => by subst q; exact st_ne (hs _ st_w1.1.2.2) rfl e2
  have n3 : ¬ t3 = b := fun q => by subst q; exact st_ne (hs _ st_w1.2.2.2) rfl e3
  have n23 : ¬ t3 = t2 := fun q => by
    subst q
    obtain ⟨x2, y2, -, -, -, w2, -⟩ := z2
    obtain ⟨x3, y3, -, -, -, w3, -⟩ := z3
    cases y2.symm.trans y3
    exact absurd (w2.symm.trans w3) (by decide)
  have l2 : t2 < s.heap.size := by obtain ⟨x2, y2, -⟩ := z2; exact (Array.getElem?_eq_some_iff.mp y2).1
  have l3 : t3 < s.heap.size := by obtain ⟨x2, y2, -⟩ := z3; exact (Array.getElem?_eq_some_iff.mp y2).1
  have hm0 : m_s0 (fun k => if k = 0 then s.heap.size else if k = 1 then a1 else if k = 2 then t2 else t3) s.heap s := ⟨s, b, rfl, hgv, hts, q1, State.WarmedH.refl s⟩
  have hkn : m_kn (fun k => if k = 0 then s.heap.size else if k = 1 then a1 else if k = 2 then t2 else t3) D s.heap s :=
    ⟨hD, m_nst_all (fun a i x hh hm => va_Nw.of rfl (hts _ (m_nst_in _ hm))), va_Nw.of rfl (hts _ (m_inT st_w4.2.1)), va_Zof (hts _ (m_inT st_w4.1.1)) (hts _ (m_inT st_w4.1.2.2)) e2 hA, va_Zof (hts _ (m_inT st_w4.1.2.1)) (hts _ (m_inT st_w4.1.2.2)) e3 hA, rfl, va_AO.of (hts _ (m_inT st_w4.2.2)), hm0⟩
  refine ⟨fun k => if k = 0 then s.heap.size else if k = 1 then a1 else if k = 2 then t2 else t3, D, fun a => if a = b then some (20, L) else if a = t2 then some (20, 12) else if a = t3 then some (20, 5) else none, fun a j => if a = b then (xs j).toInt else if a = t2 then re_mt j else cl_oc j, fun _ _ => none, fun _ _ => 0, ⟨hx, hb, hml, hown, hn, hr, hlk, hgw, hkn, by decide, by decide⟩, ⟨rfl, Nat.le_refl _, fun _ _ => rfl, fun a t n hT => ?_⟩, rfl, ⟨⟨?_, l2⟩, fun i _ => ?_⟩, ⟨⟨?_, l3⟩, fun i _ => ?_⟩, if_pos rfl, fun j => ?_⟩
  · refine Or.inr ?_
    dsimp only at hT
    by_cases k1 : a = b
    · subst k1
      rw [if_pos rfl] at hT
      cases hT
      refine ⟨⟨by omega, by omega⟩, by omega, ?_⟩
      obtain ⟨cell, h1, ⟨h3, kA, h4, comp, h5⟩, h2, h6, h7⟩ := hX
      refine ⟨cell, kA, comp, h1, h2, h3, h4, h5, fun q => absurd q (by decide), m_siz_eq h6, fun j hj => ?_⟩
      rw [h7 j hj]
      show _ = some (Value.int (Int32.ofInt (if a = a then (xs j).toInt else _)))
      rw [if_pos rfl, Int32.ofInt_toInt]
    · rw [if_neg k1] at hT
      by_cases k2 : a = t2
      · subst k2
        rw [if_pos rfl] at hT
        cases hT
        refine ⟨⟨by omega, by omega⟩, by omega, ?_⟩
        obtain ⟨cell, kA, comp, h1, h2, h3, h4, h5, h6, h7, h8⟩ := st_clo z2
        refine ⟨cell, kA, comp, h1, h2, h3, h4, h5, h6, h7, fun j hj => ?_⟩
        rw [h8 j hj]
        show _ = some (Value.int (Int32.ofInt (if a = b then _ else if a = a then re_mt j else _)))
        rw [if_neg k1, if_pos rfl]
      · rw [if_neg k2] at hT
        by_cases k3 : a = t3
        · subst k3
          rw [if_pos rfl] at hT
          cases hT
          refine ⟨⟨by omega, by omega⟩, by omega, ?_⟩
          obtain ⟨cell, kA, comp, h1, h2, h3, h4, h5, h6, h7, h8⟩ := st_clo z3
          refine ⟨cell, kA, comp, h1, h2, h3, h4, h5, h6, h7, fun j hj => ?_⟩
          rw [h8 j hj]
          show _ = some (Value.int (Int32.ofInt (if a = b then _ else if a = t2 then _ else cl_oc j)))
          rw [if_neg k1, if_neg k2]
        · rw [if_neg k3] at hT
          cases hT
  · show (if t2 = b then _ else if t2 = t2 then some (20, 12) else _) = _
    rw [if_neg n2, if_pos rfl]
  · show (if t2 = b then _ else if t2 = t2 then re_mt i else _) = _
    rw [if_neg n2, if_pos rfl]
  · show (if t3 = b then _ else if t3 = t2 then _ else if t3 = t3 then some (20, 5) else _) = _
    rw [if_neg n3, if_neg n23, if_pos rfl]
  · show (if t3 = b then _ else if t3 = t2 then _ else cl_oc i) = _
    rw [if_neg n3, if_neg n23]
  · show m_in (if b = b then (xs j).toInt else _)
    rw [if_pos rfl]
    have h1 := Int32.le_toInt (xs j)
    have h2 := Int32.toInt_lt (xs j)
    unfold m_in
    omega
