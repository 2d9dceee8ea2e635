theorem jd_Z {c x : Nat} (h : m_Z c x = some 1) : (c = 6 ∧ x = 34) ∨ (c = 12 ∧ x = 149) := by
  unfold m_Z at h
  split at h
  · have := m_look h; simp [m_Z6] at this; exact Or.inl ⟨rfl, this⟩
  · have := m_look h; simp [m_Z11] at this
  · have := m_look h; simp [m_Z12] at this; exact Or.inr ⟨rfl, this⟩
  · cases h
set_option maxRecDepth 100000 in
theorem jd_gw1 : ∀ w ∈ ([.instanceMethod jd_lgt, .selects "java/lang/String" jd_lgt jd_lgt, .initialized "java/lang/String"] : List Cond) ++ jw_len, w ∈ tables_1 ∧ goodWord w = true := by decide +kernel
set_option maxRecDepth 100000 in
theorem jd_gw2 : ∀ w ∈ ([.instanceMethod jd_sca, .selects "java/lang/String" jd_sca jd_sca, .initialized "java/lang/String"] : List Cond) ++ jw_sca, w ∈ tables_1 ∧ goodWord w = true := by decide +kernel
theorem m_jdk_ok {l : Launch} {en : Nat → Nat} {D : va_G} {H0 : Heap} : m_jdk en D H0 l := by
  intro p e R s m args below meth c me H locs cells slots Z pc la st x cx hq hsz hla hc hs
  obtain ⟨hx, hb, hml, hown, -, -, -, hts, hkn, hfr, hlc⟩ := cx
  have h0 := hkn.2.2.2.2.2.2.2
  obtain ⟨r1, r2, t, hS⟩ := jd_txt h0
  have S : CallFix p m c me.2.2.1 me.2.2.2.1 s args m_gw (m_cn me.1) := ⟨hx, hb, hml, hown, hts⟩
  have hq2 : ∀ a : Nat, a < H0.size → ¬ H0.size ≤ a → H[a]? = H0[a]? := fun a q _ => hq a q
  obtain ⟨cl, c1, c2, c3, -⟩ := va_O.kept hS.1 hq2
  have hPre : ∀ U : State, U.heap = H → s.WarmedH U.vm → jd_Bt en H0 t U := fun U hU hW => ⟨⟨h0.warm hW, by rw [hU]; exact ⟨hsz, hq⟩⟩, hS.moved hW.alike⟩
  refine ⟨fun hZ hd k => ?_, fun hB h8 hd k => ?_, fun i i0 i1 hB h8 hd k => ?_⟩
  · rcases jd_Z hZ with ⟨e1, rfl⟩ | ⟨e1, rfl⟩
    · rw [e1] at hown
      exact va_ldcS hx hb hown r1 hd k
    · rw [e1] at hown
      exact va_ldcS hx hb hown r2 hd k
  · have hln : Cond.methodLink (m_cn me.1) x jd_lgt ∈ m_gw := m_B_ok hB
    have hG : GoodIn m_gw (wsV (m_cn me.1) x "java/lang/String" jd_lgt jw_len) := m_good (fun w hw => by
      rcases List.mem_cons.mp hw with rfl | hw
      · exact hln
      · exact m_gwI (m_inT (jd_gw1 w hw).1) (jd_gw1 w hw).2)
    exact jd_go (va_runV (As := []) (rest := st) S (jm_len (k := 0)) (cwV 0 hts hG rfl rfl rfl ⟨rfl, by decide, by decide, by decide +kernel⟩ ⟨by show 1 + 1 ≤ _; omega, by show 8 + (1 + 11) + (64 * 1 + 64) ≤ _; omega⟩) ⟨jd_blit, ⟨cl, c1, c2, c3⟩, fun U hU hW => ⟨rfl, hPre U hU hW⟩⟩ rfl rfl hla rfl (lv_room h8) hd ⟨hc, hs⟩) k
  · have hln : Cond.methodLink (m_cn me.1) x jd_sca ∈ m_gw := m_B_ok hB
    have hG : GoodIn m_gw (wsV (m_cn me.1) x "java/lang/String" jd_sca jw_sca) := m_good (fun w hw => by
      rcases List.mem_cons.mp hw with rfl | hw
      · exact hln
      · exact m_gwI (m_inT (jd_gw2 w hw).1) (jd_gw2 w hw).2)
    have b0 : ¬ i < 0 := fun q => by
      have := Int32.lt_iff_toInt_lt.mp q
      have e : (0 : Int32).toInt = 0 := rfl
      omega
    have b1 : i < 92 := Int32.lt_iff_toInt_lt.mpr (by
      have e : (92 : Int32).toInt = 92 := rfl
      omega)
    have b2 : i.toNatClampNeg < 92 := by
      show i.toInt.toNat < 92
      omega
    exact jd_go (va_runV (As := [.int i]) (rest := st) S (jm_sca (k := 0) b0 b1 b2) (cwV 1 hts hG rfl rfl rfl ⟨rfl, by decide, by decide, by decide +kernel⟩ ⟨by show 3 + 1 ≤ _; omega, by show 8 + (2 + 11) + (64 * 3 + 64) ≤ _; omega⟩) ⟨jd_blit, ⟨cl, c1, c2, c3⟩, fun U hU hW => ⟨rfl, hPre U hU hW⟩⟩ rfl rfl hla rfl (lv_room h8) hd ⟨hc, hs⟩) k
