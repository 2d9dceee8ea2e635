/-! the class's now where it throws, as a contract -/
section NWM
variable {en : Nat → Nat} {D : va_G} {H0 : Heap} {l : Launch} {s0 : m_S}
theorem nw_met (hj : m_jdk en D H0 l) (hl : l.stackTraces = false) {x : Nat} {q : Int32} (hn : m_nwx s0 x) {cls : String} (hq : (q < 0 ∧ cls = nw_io) ∨ (8 < q ∧ cls = nw_no)) :
    vx_Met l mSc_now.2.1 (m_ws mSc_now) (m_rm 3 1 6) (m_Pc en D H0 [.ref x, .int q] s0) (fun _ _ _ _ => False) (nw_X D H0 cls (nw_b s0)) 1 6 (fun q => H0.size ≤ q) := by
  refine vx_ofW (cc := prog_1_method_8_code) (maxL := 3) (ret := some .int) (by decide) rfl ?_
  intro p e s m args below meth c s₁ B hml htab hP
  obtain ⟨rfl, hrel, hkn⟩ := hP
  have hts0 := atoms_spec (ws := m_ws mSc_now) B.pre
  have hts : ∀ w ∈ m_gw, w.before ([.ref x, .int q] : List Value).toArray s = true := fun w hw => hts0 w (List.mem_cons_of_mem _ hw)
  have hown : s.vm.findClass (m_cn mSc_now.1) = some m.cls := findClass_of_methodNamed B.named
  have hname : meth.name = mSc_now.2.1.name := (name_of_methodNamed B.named B.method).1
  have cx : m_cx en D H0 p (m_rm 3 1 6) s m ([.ref x, .int q] : List Value).toArray meth c mSc_now := ⟨B.exec, B.bytes, hml, hown, hname, B.returns, B.notSynchronized, hts, hkn, by decide, by decide⟩
  obtain ⟨hlr, hln⟩ := m_lrent (me := mSc_now) (as := [.ref x, .int q]) (fun a ha => by
    rcases List.mem_cons.mp ha with rfl | ha
    · rfl
    · rw [List.mem_singleton.mp ha]; rfl) (Nat.le_of_ble_eq_true rfl)
  have hstr := nw_str hkn.2.2.2.2.2.2.2
  have R0 : s0.2.2.2.2.1 - s0.2.2.2.2.1 ≤ (m_rm 3 1 6).cells ∧ s0.2.2.2.2.2 - s0.2.2.2.2.2 ≤ (m_rm 3 1 6).slots := ⟨by rw [Nat.sub_self]; exact Nat.zero_le _, by rw [Nat.sub_self]; exact Nat.zero_le _⟩
  have key : W p l e (m_rm 3 1 6) s m ([.ref x, .int q] : List Value).toArray below meth c s.heap [] (s0.2.2.2.2.1 - s0.2.2.2.2.1) (s0.2.2.2.2.2 - s0.2.2.2.2.2) (vx_MQ below (fun _ _ _ _ => False) (nw_X D H0 cls (nw_b s0)) ([.ref x, .int q] : List Value).toArray s 1 6 (fun q => H0.size ≤ q)) (F0 m 0 (lg_sl [.ref x, .int q] ++ List.replicate (mSc_now.2.2.2.1 - (lg_sl [.ref x, .int q]).length) Slot.unset).toArray []) := by
    refine m_s_next (q := (1, m_ent mSc_now [.ref x, .int q], [.int q], s0)) hj cx hrel (fun q hq => by cases hq) hlr hln eSc_now_0 rfl (Nat.le_refl _) (Nat.le_refl _) rfl R0 R0 ?_
    intro la1 H1 locs1 hla1 hr1 hlo1
    rcases hq with ⟨h1, rfl⟩ | ⟨h1, rfl⟩
    · have hc : m_cmp .ge q 0 = false := decide_eq_false (fun h => by
        have a := Int32.lt_iff_toInt_lt.mp h1
        have b := Int32.le_iff_toInt_le.mp h
        omega)
      refine m_s_next (q := (4, m_ent mSc_now [.ref x, .int q], [], s0)) hj cx hr1 hlo1 hla1 hln eSc_now_1 rfl (Nat.le_refl _) (Nat.le_refl _) (by show some (Sum.inl (if m_cmp .ge q 0 = true then _ else _, _)) = _; rw [hc]; rfl) R0 R0 ?_
      intro la2 H2 locs2 hla2 hr2 hlo2
      dsimp only
      rw [Nat.sub_self, Nat.sub_self]
      exact nw_thr cx hl htab hr2 hlo2 (hla2.1.1.trans hln) Bundle.six_0 Bundle.six_1 Bundle.six_2 Bundle.six_5 (by decide +kernel) nw_w1 hstr.1 eSc_now_4 eSc_now_7 eSc_now_8 eSc_now_10 eSc_now_13 ⟨Nat.le_refl _, Nat.le_refl _⟩ (Nat.le_refl _) (Nat.le_refl _)
    · have hc : m_cmp .ge q 0 = true := decide_eq_true (Int32.le_iff_toInt_le.mpr (by
        have a := Int32.lt_iff_toInt_lt.mp h1
        have e8 : (8 : Int32).toInt = 8 := rfl
        have e0 : (0 : Int32).toInt = 0 := rfl
        omega))
      obtain ⟨n, u, k, r, hx1, hx2, hx3, hx4⟩ := hn
      refine m_s_next (q := (14, m_ent mSc_now [.ref x, .int q], [], s0)) hj cx hr1 hlo1 hla1 hln eSc_now_1 rfl (Nat.le_refl _) (Nat.le_refl _) (by show some (Sum.inl (if m_cmp .ge q 0 = true then _ else _, _)) = _; rw [hc]; rfl) R0 R0 ?_
      intro la2 H2 locs2 hla2 hr2 hlo2
      refine m_s_next (q := (15, m_ent mSc_now [.ref x, .int q], [.ref x], s0)) hj cx hr2 hlo2 hla2 hln eSc_now_14 rfl (Nat.le_refl _) (Nat.le_refl _) rfl R0 R0 ?_
      intro la3 H3 locs3 hla3 hr3 hlo3
      refine m_s_next (q := (18, m_ent mSc_now [.ref x, .int q], [.ref u], s0)) hj cx hr3 hlo3 hla3 hln eSc_now_15 rfl (Nat.le_refl _) (Nat.le_refl _) (by
        show m_gf 11 2 x 18 _ [] s0 = _
        unfold m_gf
        rw [hx1]
        show (if _ then m_nx 18 _ (va_rf (s0.2.2.1 x 2) :: []) s0 else _) = _
        rw [hx2]; rfl) R0 R0 ?_
      intro la4 H4 locs4 hla4 hr4 hlo4
      refine m_s_next (q := (21, m_ent mSc_now [.ref x, .int q], [.ref r], s0)) hj cx hr4 hlo4 hla4 hln eSc_now_18 rfl (Nat.le_refl _) (Nat.le_refl _) (by
        show m_gf 2 0 u 21 _ [] s0 = _
        unfold m_gf
        rw [hx3]
        show (if _ then m_nx 21 _ (va_rf (s0.2.2.1 u 0) :: []) s0 else _) = _
        rw [hx4]; rfl) R0 R0 ?_
      intro la5 H5 locs5 hla5 hr5 hlo5
      refine m_s_next (q := (22, [some (.ref x), some (.int q), some (.ref r)], [], s0)) hj cx hr5 hlo5 hla5 hln eSc_now_21 rfl (Nat.le_refl _) (Nat.le_refl _) rfl R0 R0 ?_
      intro la6 H6 locs6 hla6 hr6 hlo6
      refine m_s_next (q := (23, [some (.ref x), some (.int q), some (.ref r)], [.int q], s0)) hj cx hr6 hlo6 hla6 rfl eSc_now_22 rfl (Nat.le_refl _) (Nat.le_refl _) rfl R0 R0 ?_
      intro la7 H7 locs7 hla7 hr7 hlo7
      have h8 : (8 : Int) < q.toInt := by
        have a := Int32.lt_iff_toInt_lt.mp h1
        have e8 : (8 : Int32).toInt = 8 := rfl
        omega
      refine m_s_next (q := (135, [some (.ref x), some (.int q), some (.ref r)], [], s0)) hj cx hr7 hlo7 hla7 rfl eSc_now_23 rfl (Nat.le_refl _) (Nat.le_refl _) (by
        show (if q.toInt < 0 ∨ (8 : Int) < q.toInt then m_go 23 112 _ [] s0 else _) = _
        rw [if_pos (Or.inr h8)]; rfl) R0 R0 ?_
      intro la8 H8 locs8 hla8 hr8 hlo8
      dsimp only
      rw [Nat.sub_self, Nat.sub_self]
      exact nw_thr cx hl htab hr8 hlo8 (hla8.1.1) (by decide +kernel) (by decide +kernel) (by decide +kernel) (by decide +kernel) (by decide +kernel) nw_w2 hstr.2 eSc_now_135 eSc_now_138 eSc_now_139 eSc_now_141 eSc_now_144 ⟨Nat.le_refl _, Nat.le_refl _⟩ (Nat.le_refl _) (Nat.le_refl _)
  rw [Nat.sub_self, Nat.sub_self] at key
  rw [lg_entry_eq]
  exact key
end NWM
