section NWL
variable {en : Nat → Nat} {D : va_G} {H0 : Heap} {p : Program} {l : Launch} {e : Env} {R : Room} {s : State} {m : MethodId} {args : Array Value} {below : List Frame} {meth : Method} {c : Code} {s0 s2 : m_S} {v2 : Option Value}
variable {H : Heap} {locs : List Loc} {la : Array Slot}
/-- behind the catch -/
theorem nw_end {Z : State → Prop} {ls : m_L} {q9 : Nat} {k : Int32} (hj : m_jdk en D H0 l) (cx : m_cx en D H0 p R s m args meth c mLa_now) (hR : 1 ≤ R.cells ∧ 6 ≤ R.slots) (hr : m_rel D H0 s (nw_b s0) H) (hlo : ∀ q ∈ locs, H0.size ≤ q.base) (hla : m_lr la ls) (hln : ls.length = 4) {pc : Nat}
    (d0 : decode method_3_code pc = .ok (.astore_n 3, 1)) {j : Int} (d1 : decode method_3_code (pc + 1) = .ok (.iconst j, 1)) (hk : Int32.ofInt j = k)
    (kk : ∀ (la : Array Slot) (H : Heap) (locs : List Loc), m_rel D H0 s (nw_b s0) H → (∀ q ∈ locs, H0.size ≤ q.base) → W p l e R s m args below meth c H locs 1 6 Z (F0 m (pc + 2) la [.int k])) :
    W p l e R s m args below meth c H locs 1 6 Z (F0 m pc la [.ref q9]) := by
  have z1 : (nw_b s0).2.2.2.2.1 - s0.2.2.2.2.1 = 1 := Nat.add_sub_cancel_left _ _
  have w1 : (nw_b s0).2.2.2.2.2 - s0.2.2.2.2.2 = 6 := Nat.add_sub_cancel_left _ _
  have R1 : (nw_b s0).2.2.2.2.1 - s0.2.2.2.2.1 ≤ R.cells ∧ (nw_b s0).2.2.2.2.2 - s0.2.2.2.2.2 ≤ R.slots := by rw [z1, w1]; exact hR
  have zl : s0.2.2.2.2.1 ≤ (nw_b s0).2.2.2.2.1 := Nat.le_succ _
  have wl : s0.2.2.2.2.2 ≤ (nw_b s0).2.2.2.2.2 := Nat.le_add_right _ 6
  have key : W p l e R s m args below meth c H locs ((nw_b s0).2.2.2.2.1 - s0.2.2.2.2.1) ((nw_b s0).2.2.2.2.2 - s0.2.2.2.2.2) Z (F0 m pc la [.ref q9]) := by
    refine m_s_next (q := (pc + 1, ls.set 3 (some (.ref q9)), [], nw_b s0)) hj cx hr hlo hla hln d0 rfl zl wl (by
      show (if 3 < ls.length then m_nx (pc + 1) (ls.set 3 (some (.ref q9))) [] (nw_b s0) else none) = _
      rw [if_pos (by omega)]; rfl) R1 R1 ?_
    intro la1 H1 locs1 hla1 hr1 hlo1
    refine m_s_next (q := (pc + 2, ls.set 3 (some (.ref q9)), [.int k], nw_b s0)) hj cx hr1 hlo1 hla1 (by rw [List.length_set]; exact hln) d1 rfl zl wl (by rw [← hk]; rfl) R1 R1 ?_
    intro la2 H2 locs2 hla2 hr2 hlo2
    dsimp only
    rw [z1, w1]
    exact kk la2 H2 locs2 hr2 hlo2
  rw [z1, w1] at key
  exact key
/-- the class's now throws, the law's catches -/
theorem nw_cat {Z : State → Prop} (hj : m_jdk en D H0 l) (hl : l.stackTraces = false) (cx : m_cx en D H0 p R s m args meth c mLa_now) (hRf : 12 ≤ R.frames ∧ 700 ≤ R.locals ∧ 1 ≤ R.cells ∧ 6 ≤ R.slots) (htab : c.exceptionTable.toList = tableOf nw_hh) (hr : m_rel D H0 s s0 H) (hlo : ∀ q ∈ locs, H0.size ≤ q.base) {ls : m_L} (hla : m_lr la ls) (hln : ls.length = 4)
    {x : Nat} {q : Int32} {o : Nat} (hn : m_nwx s0 x) {cls : String} (hq : (q < 0 ∧ cls = nw_io) ∨ (8 < q ∧ cls = nw_no))
    (kk : ∀ (k : Int32) (pc : Nat), ((k = 1 ∧ pc = 14 ∧ q < 0) ∨ (k = 2 ∧ pc = 17 ∧ 8 < q)) → ∀ (la : Array Slot) (H : Heap) (locs : List Loc), m_rel D H0 s (nw_b s0) H → (∀ q ∈ locs, H0.size ≤ q.base) → W p l e R s m args below meth c H locs 1 6 Z (F0 m pc la [.int k])) :
    W p l e R s m args below meth c H locs 0 0 Z (F0 m 4 la [.int q, .ref x, .int 0, .ref o]) := by
  have cx0 := cx
  obtain ⟨hx, hb, hml, hown, -, -, hlk, hts, hkn, hfr, hlc⟩ := cx
  have h0 := hkn.2.2.2.2.2.2.2
  have hC : m_C 13 7 = some (0, mSc_now, 1) := rfl
  have hPre : ∀ (as : List Value) (U : State), U.heap = H → s.WarmedH U.vm → m_Pc en D H0 as s0 as.toArray U := fun as U hU hW => ⟨rfl, by rw [hU]; exact hr.moved hW.alike, hkn.warm hW⟩
  have S : CallFix p m c method_3_code 4 s args m_gw (m_cn 13) := ⟨hx, hb, hml, hown, hts⟩
  rcases m_C_ok hC with q | ⟨hM, hpar, hn40, hk⟩
  · cases q
  have hM0 := hM
  obtain ⟨g1, g2, g3, g4, g5, g6, g7⟩ := hM
  obtain ⟨l1, l2, l3, l4, l5, l6, l7, l8⟩ := m_L_ok g1
  obtain ⟨nx, ux, kx, rx, hT, -⟩ := id hn
  have hrec : ∃ cellB : Cell, H[x]? = some cellB ∧ cellB.vm.isStatics = false ∧ s.vm.findClass mSc_now.2.1.cls = some cellB.cls := by
    rcases hr.2.2.2 x _ _ hT with ⟨-, cell, c1, c2, c3, -⟩ | ⟨q, -⟩
    · exact ⟨cell, c1, by rw [c3]; rfl, by rw [g2, c2]; exact (hkn.1.1 _ _ l8).2.1⟩
    · omega
  have hGood : GoodIn m_gw (wsV (m_cn 13) 7 mSc_now.2.1.cls mSc_now.2.1 (m_ws mSc_now)) := m_good (fun w hw => by
    unfold wsV at hw
    rcases List.mem_append.mp hw with hw | hw
    · simp only [List.mem_cons, List.not_mem_nil, or_false] at hw
      rcases hw with rfl | rfl | rfl | rfl
      · exact hk.1
      · exact hk.2.1
      · exact hk.2.2
      · exact g6
    · exact m_ws_in hM0 w hw)
  have run := vx_runV (p := p) (l := l) (e := e) (R := R) (below := below) (meth := meth) (H := H) (locs := locs) (cells := 0) (slots := 0) (As := [.int q]) (rest := [.int 0, .ref o]) (g := F0 m 4 la [.int q, .ref x, .int 0, .ref o]) (b := x) S (nw_met (en := en) (D := D) (H0 := H0) hj hl hn hq) (cwV 1 hts hGood rfl rfl rfl ⟨rfl, g3.1, g3.2, hpar⟩ (m_room (d := 3) ⟨hRf.1, by omega⟩ _ g7)) ⟨m_Pc_blind, hrec, hPre _⟩ rfl rfl (hla.1.1.trans hln) rfl (lv_room (Nat.le_of_ble_eq_true rfl)) eLa_now_4 ⟨by show 0 + 1 ≤ _; omega, by show 0 + 6 ≤ _; omega⟩
  intro T hT2 X
  rcases run T hT2 X with ⟨v, st₀, t, T', L, h1, X', hL, e1, e2, hf, st⟩ | ⟨q9, st₀, t, T', L, E, ce, h1, X', hL, e1, e2, ⟨hE, hrel⟩, hce, hcv, hcl, st⟩
  · exact hf.elim
  · subst hE
    have hA : s.vm.Alike t.vm := by rw [← e2]; exact X'.warmed.alike
    rw [← e1] at hrel hce
    have hrel' := hrel.moved hA.symm
    have hlo' : ∀ q ∈ locs ++ L, H0.size ≤ q.base := fun q hq => (List.mem_append.mp hq).elim (hlo q) (hL q)
    have key : vx_W p l e R s m args below meth c T'.heap (locs ++ L) 1 6 Z (F0 m 4 la [.int 0, .ref o]) q9 := by
      rcases hq with ⟨hq, rfl⟩ | ⟨hq, rfl⟩
      · refine vx_catch (own := "SwingCraneLaw") (name := nw_io) hown [] ⟨0, 9, 12, 13⟩ [⟨0, 9, 15, 15⟩] htab (fun z hz => by cases hz) (by decide) (by decide) (hts _ (m_gwI (m_inT nw_w5.1.1) nw_w5.1.2)) (nw_word h0 nw_w5.2.2.1.1 rfl args) hce hcv hcl ?_
        exact nw_end hj cx0 ⟨hRf.2.2.1, hRf.2.2.2⟩ hrel' hlo' hla hln eLa_now_12 eLa_now_13 rfl (kk 1 14 (Or.inl ⟨rfl, rfl, hq⟩))
      · refine vx_catch (own := "SwingCraneLaw") (name := nw_no) hown [⟨0, 9, 12, 13⟩] ⟨0, 9, 15, 15⟩ [] htab (fun z hz => ?_) (by decide) (by decide) (hts _ (m_gwI (m_inT nw_w5.2.1.1) nw_w5.2.1.2)) (nw_word h0 nw_w5.2.2.1.2 rfl args) hce hcv hcl ?_
        · rw [List.mem_singleton.mp hz]
          exact Or.inr ⟨by decide, nw_io, hts _ (m_gwI (m_inT nw_w5.1.1) nw_w5.1.2), nw_Nc h0⟩
        · exact nw_end hj cx0 ⟨hRf.2.2.1, hRf.2.2.2⟩ hrel' hlo' hla hln eLa_now_15 eLa_now_16 rfl (kk 2 17 (Or.inr ⟨rfl, rfl, hq⟩))
    obtain ⟨t2, a1, b1⟩ := key T' rfl X'
    exact ⟨t2, st.trans a1, b1⟩
end NWL
