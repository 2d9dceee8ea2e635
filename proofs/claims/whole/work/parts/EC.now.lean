section NWN
variable {en : Nat → Nat} {D : va_G} {H0 : Heap} {p : Program} {l : Launch} {e : Env} {s : State} {m : MethodId} {args : Array Value} {below : List Frame} {meth : Method} {c : Code} {s0 s2 : m_S} {v2 : Option Value}
variable {H : Heap} {locs : List Loc} {la : Array Slot}
/-- behind the class's answer: it goes into the row, the law's now gives 0 -/
theorem nw_put {Z : State → Prop} {R : Room} {z0 w0 : Nat} (hj : m_jdk en D H0 l) (cx : m_cx en D H0 p R s m args meth c mLa_now) {t1 : m_S} (hz : z0 ≤ t1.2.2.2.2.1) (hw : w0 ≤ t1.2.2.2.2.2) (hR : t1.2.2.2.2.1 - z0 ≤ R.cells ∧ t1.2.2.2.2.2 - w0 ≤ R.slots) (hr : m_rel D H0 s t1 H) (hlo : ∀ q ∈ locs, H0.size ≤ q.base) {ls : m_L} (hla : m_lr la ls) (hln : ls.length = 4)
    {o n : Nat} (hO : t1.1 o = some (24, n)) (hn : 0 < n) (hO2 : H0.size ≤ o) {y : Int32}
    (kk : ∀ (la : Array Slot) (H : Heap) (locs : List Loc), m_rel D H0 s (t1.1, t1.2.1, t1.2.2.1, m_up t1.2.2.2.1 o 0 y.toInt64, t1.2.2.2.2) H → (∀ q ∈ locs, H0.size ≤ q.base) → W p l e R s m args below meth c H locs (t1.2.2.2.2.1 - z0) (t1.2.2.2.2.2 - w0) Z (F0 m 19 la [.int 0])) :
    W p l e R s m args below meth c H locs (t1.2.2.2.2.1 - z0) (t1.2.2.2.2.2 - w0) Z (F0 m 7 la [.int y, .int 0, .ref o]) := by
  have cx0 := cx
  obtain ⟨hx, hb, hml, hown, -, -, hlk, hts, hkn, hfr, hlc⟩ := cx
  refine t_i2l hx hb eLa_now_7 rfl ?_
  obtain ⟨cell, q1, q2, q3, q4, q5⟩ := hr.arr hO (by omega)
  have i0 : (0 : Int32).toNatClampNeg = 0 := rfl
  refine W.last hx hb q1 q3 q2 (fun q => q.elim (fun q => absurd q (by decide)) (fun q => by rw [i0] at q; have := q4.1; omega)) rfl rfl eLa_now_8 fun H' e1 e2 e3 => ?_
  have hr' : m_rel D H0 s (t1.1, t1.2.1, t1.2.2.1, m_up t1.2.2.2.1 o 0 y.toInt64, t1.2.2.2.2) H' := by
    refine hr.aput hO (by omega) hO2 hn q1 e1 e2 e3 rfl rfl (fun _ _ => rfl) (fun _ _ => rfl) (fun b hb => m_up_ne hb) (fun j hj => ?_)
    by_cases ej : j = 0 <;> simp [m_av, m_up, ej]
  refine m_s_next (s0 := (t1.1, t1.2.1, t1.2.2.1, m_up t1.2.2.2.1 o 0 y.toInt64, t1.2.2.2.2)) (z0 := z0) (w0 := w0) (q := (18, ls, [], (t1.1, t1.2.1, t1.2.2.1, m_up t1.2.2.2.1 o 0 y.toInt64, t1.2.2.2.2))) hj cx0 hr' (m_locs hlo hO2) hla hln eLa_now_9 rfl hz hw rfl hR hR ?_
  intro la2 H2 locs2 hla2 hr2 hlo2
  refine m_s_next (s0 := (t1.1, t1.2.1, t1.2.2.1, m_up t1.2.2.2.1 o 0 y.toInt64, t1.2.2.2.2)) (z0 := z0) (w0 := w0) (q := (19, ls, [.int 0], (t1.1, t1.2.1, t1.2.2.1, m_up t1.2.2.2.1 o 0 y.toInt64, t1.2.2.2.2))) hj cx0 hr2 hlo2 hla2 hln eLa_now_18 rfl hz hw rfl hR hR ?_
  intro la3 H3 locs3 hla3 hr3 hlo3
  exact kk la3 H3 locs3 hr3 hlo3
theorem nw_law (hj : m_jdk en D H0 l) (hl : l.stackTraces = false) {as : List Value} (hc : m_call en 40 mLa_now as s0 (fun v t => v = v2 ∧ t = s2)) :
    vx_Met l nw_y nw_ws (m_rm 40 (s2.2.2.2.2.1 - s0.2.2.2.2.1) (s2.2.2.2.2.2 - s0.2.2.2.2.2)) (m_Pc en D H0 as s0) (m_Qc D H0 v2 s2) (fun _ _ _ => False) (s2.2.2.2.2.1 - s0.2.2.2.2.1) (s2.2.2.2.2.2 - s0.2.2.2.2.2) (fun q => H0.size ≤ q) := by
  refine vx_ofWH (cc := method_3_code) (maxL := 4) (ret := some .int) (hh := nw_hh) (by decide) rfl ?_
  intro p e s m args below meth c s₁ B hml hP
  obtain ⟨rfl, hrel, hkn⟩ := hP
  have hts0 := atoms_spec (ws := nw_ws) B.pre
  have htab := vx_table (x := nw_y) B (hts0 _ List.mem_cons_self)
  have hts : ∀ w ∈ m_gw, w.before as.toArray s = true := fun w hw => hts0 w (List.mem_cons_of_mem _ hw)
  have hown : s.vm.findClass (m_cn mLa_now.1) = some m.cls := findClass_of_methodNamed B.named
  have hname : meth.name = mLa_now.2.1.name := (name_of_methodNamed B.named B.method).1
  have cx : m_cx en D H0 p (m_rm 40 (s2.2.2.2.2.1 - s0.2.2.2.2.1) (s2.2.2.2.2.2 - s0.2.2.2.2.2)) s m as.toArray meth c mLa_now := ⟨B.exec, B.bytes, hml, hown, hname, B.returns, B.notSynchronized, hts, hkn, by show 8 ≤ 40 + 8; omega, by show 300 ≤ 64 * 40 + 400; omega⟩
  have hsl := m_call_sz _ _ _ _ _ _ hc
  unfold m_call at hc
  rw [if_pos ⟨rfl, rfl⟩] at hc
  obtain ⟨x, q, o, n, has, hO, hn, ⟨hO2, hnw⟩, h5⟩ := hc
  subst has
  obtain ⟨hlr, hln⟩ := m_lrent (me := mLa_now) (as := [.ref x, .int q, .ref o]) (fun a ha => by
    rcases List.mem_cons.mp ha with rfl | ha
    · rfl
    · rcases List.mem_cons.mp ha with rfl | ha
      · rfl
      · rw [List.mem_singleton.mp ha]; rfl) (Nat.le_of_ble_eq_true rfl)
  rw [hkn.2.2.2.2.2.1] at hO2
  have R0 : s0.2.2.2.2.1 - s0.2.2.2.2.1 ≤ (m_rm 40 (s2.2.2.2.2.1 - s0.2.2.2.2.1) (s2.2.2.2.2.2 - s0.2.2.2.2.2)).cells ∧ s0.2.2.2.2.2 - s0.2.2.2.2.2 ≤ (m_rm 40 (s2.2.2.2.2.1 - s0.2.2.2.2.1) (s2.2.2.2.2.2 - s0.2.2.2.2.2)).slots := ⟨by rw [Nat.sub_self]; exact Nat.zero_le _, by rw [Nat.sub_self]; exact Nat.zero_le _⟩
  have hret : ∀ (k : Int32) (pc : Nat) (t1 : m_S), some (.int k) = v2 → t1 = s2 → decode method_3_code pc = .ok (.ireturn, 1) → ∀ (la : Array Slot) (H : Heap) (locs : List Loc), m_rel D H0 s t1 H → (∀ q ∈ locs, H0.size ≤ q.base) → W p l e (m_rm 40 (s2.2.2.2.2.1 - s0.2.2.2.2.1) (s2.2.2.2.2.2 - s0.2.2.2.2.2)) s m ([.ref x, .int q, .ref o] : List Value).toArray below meth c H locs (s2.2.2.2.2.1 - s0.2.2.2.2.1) (s2.2.2.2.2.2 - s0.2.2.2.2.2) (vx_MQ below (m_Qc D H0 v2 s2) (fun _ _ _ => False) ([.ref x, .int q, .ref o] : List Value).toArray s (s2.2.2.2.2.1 - s0.2.2.2.2.1) (s2.2.2.2.2.2 - s0.2.2.2.2.2) (fun q => H0.size ≤ q)) (F0 m pc la [.int k]) := fun k pc t1 e1 e2 hd la H locs hr hlo =>
    vx_ret (W.iret B.exec B.bytes B.returns (fun t ht hW => ⟨by rw [← e1], by rw [ht, ← e2]; exact hr.moved hW.alike⟩) hlo hd B.notSynchronized)
  have key : W p l e (m_rm 40 (s2.2.2.2.2.1 - s0.2.2.2.2.1) (s2.2.2.2.2.2 - s0.2.2.2.2.2)) s m ([.ref x, .int q, .ref o] : List Value).toArray below meth c s.heap [] (s0.2.2.2.2.1 - s0.2.2.2.2.1) (s0.2.2.2.2.2 - s0.2.2.2.2.2) (vx_MQ below (m_Qc D H0 v2 s2) (fun _ _ _ => False) ([.ref x, .int q, .ref o] : List Value).toArray s (s2.2.2.2.2.1 - s0.2.2.2.2.1) (s2.2.2.2.2.2 - s0.2.2.2.2.2) (fun q => H0.size ≤ q)) (F0 m 0 (lg_sl [.ref x, .int q, .ref o] ++ List.replicate (mLa_now.2.2.2.1 - (lg_sl [.ref x, .int q, .ref o]).length) Slot.unset).toArray []) := by
    refine m_s_next (q := (1, m_ent mLa_now [.ref x, .int q, .ref o], [.ref o], s0)) hj cx hrel (fun q hq => by cases hq) hlr hln eLa_now_0 rfl (Nat.le_refl _) (Nat.le_refl _) rfl R0 R0 ?_
    intro la1 H1 locs1 hla1 hr1 hlo1
    refine m_s_next (q := (2, m_ent mLa_now [.ref x, .int q, .ref o], [.int 0, .ref o], s0)) hj cx hr1 hlo1 hla1 hln eLa_now_1 rfl (Nat.le_refl _) (Nat.le_refl _) rfl R0 R0 ?_
    intro la2 H2 locs2 hla2 hr2 hlo2
    refine m_s_next (q := (3, m_ent mLa_now [.ref x, .int q, .ref o], [.ref x, .int 0, .ref o], s0)) hj cx hr2 hlo2 hla2 hln eLa_now_2 rfl (Nat.le_refl _) (Nat.le_refl _) rfl R0 R0 ?_
    intro la3 H3 locs3 hla3 hr3 hlo3
    refine m_s_next (q := (4, m_ent mLa_now [.ref x, .int q, .ref o], [.int q, .ref x, .int 0, .ref o], s0)) hj cx hr3 hlo3 hla3 hln eLa_now_3 rfl (Nat.le_refl _) (Nat.le_refl _) rfl R0 R0 ?_
    intro la4 H4 locs4 hla4 hr4 hlo4
    dsimp only
    by_cases c1 : q < 0
    · rw [if_pos c1] at h5
      obtain ⟨e1, e2⟩ := h5
      have z1 : s2.2.2.2.2.1 - s0.2.2.2.2.1 = 1 := by rw [← e2]; exact Nat.add_sub_cancel_left _ _
      have w1 : s2.2.2.2.2.2 - s0.2.2.2.2.2 = 6 := by rw [← e2]; exact Nat.add_sub_cancel_left _ _
      rw [Nat.sub_self, Nat.sub_self]
      refine nw_cat (cls := nw_io) hj hl cx ⟨by show 12 ≤ 40 + 8; omega, by show 700 ≤ 64 * 40 + 400; omega, Nat.le_of_eq z1.symm, Nat.le_of_eq w1.symm⟩ htab hr4 hlo4 hla4 hln hnw (Or.inl ⟨c1, rfl⟩) (fun k pc hk la H locs hr hlo => ?_)
      rcases hk with ⟨rfl, rfl, -⟩ | ⟨-, -, c2⟩
      · have h := hret 1 14 (nw_b s0) e1 e2 eLa_now_14 la H locs hr hlo
        rw [z1, w1] at h ⊢
        exact h
      · exact absurd (Int32.lt_trans c2 c1) (by decide)
    · rw [if_neg c1] at h5
      by_cases c2 : 8 < q
      · rw [if_pos c2] at h5
        obtain ⟨e1, e2⟩ := h5
        have z1 : s2.2.2.2.2.1 - s0.2.2.2.2.1 = 1 := by rw [← e2]; exact Nat.add_sub_cancel_left _ _
        have w1 : s2.2.2.2.2.2 - s0.2.2.2.2.2 = 6 := by rw [← e2]; exact Nat.add_sub_cancel_left _ _
        rw [Nat.sub_self, Nat.sub_self]
        refine nw_cat (cls := nw_no) hj hl cx ⟨by show 12 ≤ 40 + 8; omega, by show 700 ≤ 64 * 40 + 400; omega, Nat.le_of_eq z1.symm, Nat.le_of_eq w1.symm⟩ htab hr4 hlo4 hla4 hln hnw (Or.inr ⟨c2, rfl⟩) (fun k pc hk la H locs hr hlo => ?_)
        rcases hk with ⟨-, -, c3⟩ | ⟨rfl, rfl, -⟩
        · exact absurd c3 c1
        · have h := hret 2 17 (nw_b s0) e1 e2 eLa_now_17 la H locs hr hlo
          rw [z1, w1] at h ⊢
          exact h
      · rw [if_neg c2] at h5
        obtain ⟨v', t', ⟨y, rfl, e1, e2⟩, h6⟩ := m_call_one _ _ _ _ _ h5
        have hs6 := m_call_sz _ _ _ _ _ _ h6
        have hz2 : t'.2.2.2.2.1 = s2.2.2.2.2.1 ∧ t'.2.2.2.2.2 = s2.2.2.2.2.2 := by rw [← e2]; exact ⟨rfl, rfl⟩
        have hTo : t'.1 o = some (24, n) := by
          rw [m_call_T _ _ _ _ _ _ h6 o (by rw [← hr4.1]; exact (hr4.2.2.2 o).lt hO)]
          exact hO
        obtain ⟨nx, ux, kx, rx, hT, -⟩ := hnw
        have RT : t'.2.2.2.2.1 - s0.2.2.2.2.1 ≤ (m_rm 40 (s2.2.2.2.2.1 - s0.2.2.2.2.1) (s2.2.2.2.2.2 - s0.2.2.2.2.2)).cells ∧ t'.2.2.2.2.2 - s0.2.2.2.2.2 ≤ (m_rm 40 (s2.2.2.2.2.1 - s0.2.2.2.2.1) (s2.2.2.2.2.2 - s0.2.2.2.2.2)).slots := by
          rw [hz2.1, hz2.2]; exact ⟨Nat.le_refl _, Nat.le_refl _⟩
        refine m_s_cal2 (d := 39) (m_sim_all hj m_no20 39) cx ⟨by show 39 + 9 ≤ 40 + 8; omega, by show 64 * 39 + 464 ≤ 64 * 40 + 400; omega⟩ hr4 hlo4 hla4 hln eLa_now_4 rfl (Nat.le_refl _) (Nat.le_refl _) (m' := mSc_now) (as := [.ref x, .int q]) (st' := [.int 0, .ref o]) ?_ (fun x n h _ _ _ _ _ _ => absurd (m_C13_20 h).1 (by decide +kernel)) h6 RT ?_
        · show (match s0.1 x with | some (t, _) => if _ then m_inv mSc_now 2 _ else none | none => none) = _
          rw [hT]; rfl
        · intro la5 H5 locs5 hla5 hr5 hlo5
          refine nw_put hj cx hs6.1 hs6.2 RT hr5 hlo5 hla5 hln hTo hn hO2 (fun la H locs hr hlo => ?_)
          have h := hret 0 19 _ e1 e2 eLa_now_19 la H locs hr hlo
          rw [← hz2.1, ← hz2.2] at h
          rw [hz2.1, hz2.2] at h ⊢
          exact h
  rw [Nat.sub_self, Nat.sub_self] at key
  rw [lg_entry_eq]
  exact key
/-- the law's call of its own now -/
theorem nw_CS {Z : State → Prop} (hj : m_jdk en D s.heap l) (hl : l.stackTraces = false) (cx : m_cx en D s.heap p room_1 s m args meth c mLa_law) : la_CS en D p l e s m args below meth c Z := by
  intro pc la ls st s0 H locs x v2 s2 hr hlo hla hln hC hd hz h3 hcat h8 hc hR kk
  have hx47 : x = 47 := by
    have q2 : ∀ q ∈ m_C13, q.2.1 = 20 → q.1 = 47 := by decide +kernel
    exact q2 _ (m_look hC) rfl
  subst hx47
  obtain ⟨hx, hb, hml, hown, -, -, -, hts, hkn, hfr, hlc⟩ := cx
  have S : CallFix p m c code 7 s args m_gw (m_cn 13) := ⟨hx, hb, hml, hown, hts⟩
  have hsl := m_call_sz _ _ _ _ _ _ hc
  have hPre : ∀ (as : List Value) (U : State), U.heap = H → s.WarmedH U.vm → m_Pc en D s.heap as s0 as.toArray U := fun as U hU hW => ⟨rfl, by rw [hU]; exact hr.moved hW.alike, hkn.warm hW⟩
  have hst : st = (st.take 3).reverse.reverse ++ st.drop 3 := by rw [List.reverse_reverse, List.take_append_drop]
  have hnl : (st.take 3).reverse.length = 3 := by simp; omega
  have hgw : ∀ w ∈ va_wsS (m_cn 13) 47 nw_y nw_ws, w ∈ m_gw := fun w hw => by
    unfold va_wsS at hw
    have k0 := nw_w5.2.2.2
    unfold va_wsS at k0
    rcases List.mem_append.mp hw with hw | hw
    · have k := k0 w (List.mem_append_left _ hw)
      exact m_gwI (m_inT k.1) k.2
    · rcases List.mem_cons.mp hw with rfl | hw
      · have k := k0 _ (List.mem_append_right _ List.mem_cons_self)
        exact m_gwI (m_inT k.1) k.2
      · exact hw
  have hfit : s0.2.2.2.2.1 - s.heap.size + (s2.2.2.2.2.1 - s0.2.2.2.2.1) ≤ room_1.cells ∧ s0.2.2.2.2.2 - 0 + (s2.2.2.2.2.2 - s0.2.2.2.2.2) ≤ room_1.slots := by omega
  have run := vx_runSX (p := p) (l := l) (e := e) (R := room_1) (below := below) (meth := meth) (H := H) (locs := locs) (cells := s0.2.2.2.2.1 - s.heap.size) (slots := s0.2.2.2.2.2 - 0) (As := (st.take 3).reverse) (rest := st.drop 3) (g := F0 m pc la st) S (nw_law hj hl hc) (vx_cwSW 3 hts (m_good hgw) rfl rfl rfl ⟨by decide, by decide, by decide +kernel⟩ ⟨by show 40 + 8 + 1 ≤ 2048; omega, by show 8 + (4 + 11) + (64 * 40 + 400) ≤ 84000; omega⟩) ⟨m_Pc_blind, hPre _⟩ rfl hnl (hla.1.1.trans hln) hst (lv_room h8) hd hfit
  intro T hT X
  rcases run T hT X with ⟨v, st₀, t, T', L, h1, X', hL, e1, e2, ⟨hv, hrel⟩, go⟩ | ⟨q9, st₀, t, T', L, E, ce, h1, X', hL, e1, e2, hf, -⟩
  · cases hv
    rw [show s0.2.2.2.2.1 - s.heap.size + (s2.2.2.2.2.1 - s0.2.2.2.2.1) = s2.2.2.2.2.1 - s.heap.size by omega, show s0.2.2.2.2.2 - 0 + (s2.2.2.2.2.2 - s0.2.2.2.2.2) = s2.2.2.2.2.2 - 0 by omega] at X'
    have hA : s.vm.Alike t.vm := by rw [← e2]; exact X'.warmed.alike
    rw [← e1] at hrel
    obtain ⟨t2, a1, b1⟩ := kk la T'.heap (locs ++ L) hla (hrel.moved hA.symm) (fun q hq => (List.mem_append.mp hq).elim (hlo q) (hL q)) T' rfl X'
    exact ⟨t2, go t2 a1, b1⟩
  · exact hf.elim
end NWN
