section SD
variable {en : Nat → Nat} {D : va_G} {H0 : Heap} {p : Program} {l : Launch} {e : Env} {R : Room} {s : State} {m : MethodId} {args : Array Value} {below : List Frame} {meth : Method} {c : Code} {me : m_Me}
variable {H : Heap} {locs : List Loc} {z0 w0 : Nat} {Z : State → Prop} {pc : Nat} {la : Array Slot} {ls : m_L} {st : List Value} {s0 : m_S}
theorem m_inv_inl {m' : m_Me} {n : Nat} {st : List Value} {q : Nat × m_L × List Value × m_S} (h : m_inv m' n st = some (.inl q)) : False := by
  unfold m_inv at h
  split at h <;> cases h
set_option maxHeartbeats 4000000 in
/-- one instruction that goes on -/
theorem m_s_next (hj : m_jdk en D H0 l) (cx : m_cx en D H0 p R s m args meth c me) (hr : m_rel D H0 s s0 H) (hlo : ∀ q ∈ locs, H0.size ≤ q.base) (hla : m_lr la ls) (hln : ls.length = me.2.2.2.1) {i : Instr} {len : Nat} (hd : decode me.2.2.1 pc = .ok (i, len)) (hlk : m_lok i len = true) (hz : z0 ≤ s0.2.2.2.2.1) (hw : w0 ≤ s0.2.2.2.2.2)
    {q : Nat × m_L × List Value × m_S} (h : m_st en me i pc ls st s0 = some (.inl q)) (hR : q.2.2.2.2.2.2.2.1 - z0 ≤ R.cells ∧ q.2.2.2.2.2.2.2.2 - w0 ≤ R.slots) (hR0 : s0.2.2.2.2.1 - z0 ≤ R.cells ∧ s0.2.2.2.2.2 - w0 ≤ R.slots)
    (kk : m_K1 D H0 p l e R s m args below meth c z0 w0 Z q.1 q.2.1 q.2.2.1 q.2.2.2) : W p l e R s m args below meth c H locs (s0.2.2.2.2.1 - z0) (s0.2.2.2.2.2 - w0) Z (F0 m pc la st) := by
  have cx0 := cx
  obtain ⟨hx, hb, hml, hown, -, -, -, hts, hkn, hfr, hlc⟩ := cx
  have hB0 : en 0 = H0.size := hkn.2.2.2.2.2.1
  have hsz : la.size = me.2.2.2.1 := hla.1.1.trans hln
  unfold m_st at h
  split at h
  · obtain rfl : len = 1 := by simpa [m_lok] using hlk
    cases h; exact lv_iconst hx hb hd rfl (kk _ _ _ hla hr hlo)
  · obtain rfl : len = 2 := by simpa [m_lok] using hlk
    cases h; exact lv_bipush hx hb hd rfl (kk _ _ _ hla hr hlo)
  · obtain rfl : len = 3 := by simpa [m_lok] using hlk
    cases h; exact lv_sipush hx hb hd rfl (kk _ _ _ hla hr hlo)
  · obtain rfl : len = 2 := by simpa [m_lok] using hlk
    split at h
    · rename_i v hv
      cases h; exact lv_ldc hx hb hown (hts _ (m_K_ok hv)) hd (kk _ _ _ hla hr hlo)
    · split at h
      · rename_i zz hv
        cases h
        cases m_Z_one hv
        exact (hj p e R s m args below meth c me H locs (s0.2.2.2.2.1 - z0) (s0.2.2.2.2.2 - w0) Z pc la st _ cx0 hr.2.2.1 hr.2.1 hsz hR0.1 hR0.2).1 hv hd (kk _ _ _ hla hr hlo)
      · cases h
  · obtain rfl : len = 3 := by simpa [m_lok] using hlk
    split at h
    · rename_i v hv
      cases h; exact lv_ldcw hx hb hown (hts _ (m_K_ok hv)) hd (kk _ _ _ hla hr hlo)
    · cases h
  · obtain rfl : len = 2 := by simpa [m_lok] using hlk
    exact m_s_ldi cx0 hr hlo hla (Or.inl ⟨hd, rfl⟩) h kk
  · obtain rfl : len = 1 := by simpa [m_lok] using hlk
    exact m_s_ldi cx0 hr hlo hla (Or.inr ⟨_, rfl, hd, rfl⟩) h kk
  · obtain rfl : len = 2 := by simpa [m_lok] using hlk
    exact m_s_lda cx0 hr hlo hla (Or.inl ⟨hd, rfl⟩) h kk
  · obtain rfl : len = 1 := by simpa [m_lok] using hlk
    exact m_s_lda cx0 hr hlo hla (Or.inr ⟨_, rfl, hd, rfl⟩) h kk
  · obtain rfl : len = 2 := by simpa [m_lok] using hlk
    exact m_s_sti cx0 hr hlo hla (Or.inl ⟨hd, rfl⟩) h kk
  · obtain rfl : len = 1 := by simpa [m_lok] using hlk
    exact m_s_sti cx0 hr hlo hla (Or.inr ⟨_, rfl, hd, rfl⟩) h kk
  · obtain rfl : len = 2 := by simpa [m_lok] using hlk
    exact m_s_sta cx0 hr hlo hla (Or.inl ⟨hd, rfl⟩) h kk
  · obtain rfl : len = 1 := by simpa [m_lok] using hlk
    exact m_s_sta cx0 hr hlo hla (Or.inr ⟨_, rfl, hd, rfl⟩) h kk
  · obtain rfl : len = 3 := by simpa [m_lok] using hlk
    split at h
    · rename_i x hv
      cases h
      have hi := (List.getElem?_eq_some_iff.mp hv).1
      obtain ⟨k, hk⟩ := List.getElem?_of_mem (m_pl_mem.mpr hv)
      exact lv_iinc hx hb hd hla.1 hk rfl hi rfl (fun la' h' => kk _ _ _ (hla.put hi rfl h') hr hlo)
    · cases h
  · obtain rfl : len = 1 := by simpa [m_lok] using hlk
    unfold m_b2 at h; split at h
    · cases h; exact lv_iadd hx hb hd (kk _ _ _ hla hr hlo)
    · cases h
  · obtain rfl : len = 1 := by simpa [m_lok] using hlk
    unfold m_b2 at h; split at h
    · cases h; exact lv_isub hx hb hd (kk _ _ _ hla hr hlo)
    · cases h
  · obtain rfl : len = 1 := by simpa [m_lok] using hlk
    unfold m_b2 at h; split at h
    · cases h; exact lv_imul hx hb hd (kk _ _ _ hla hr hlo)
    · cases h
  · obtain rfl : len = 1 := by simpa [m_lok] using hlk
    unfold m_b2 at h; split at h
    · cases h; exact lv_iand hx hb hd (kk _ _ _ hla hr hlo)
    · cases h
  · obtain rfl : len = 1 := by simpa [m_lok] using hlk
    unfold m_b2 at h; split at h
    · cases h; exact lv_ior hx hb hd (kk _ _ _ hla hr hlo)
    · cases h
  · obtain rfl : len = 1 := by simpa [m_lok] using hlk
    unfold m_b2 at h; split at h
    · cases h; exact lv_ishl hx hb hd (kk _ _ _ hla hr hlo)
    · cases h
  · obtain rfl : len = 1 := by simpa [m_lok] using hlk
    unfold m_b2 at h; split at h
    · cases h; exact lv_ishr hx hb hd (kk _ _ _ hla hr hlo)
    · cases h
  · obtain rfl : len = 1 := by simpa [m_lok] using hlk
    split at h
    · split at h
      · cases h
      · rename_i hne; cases h; exact lv_idiv hx hb hd hne (kk _ _ _ hla hr hlo)
    · cases h
  · obtain rfl : len = 1 := by simpa [m_lok] using hlk
    split at h
    · split at h
      · cases h
      · rename_i hne; cases h; exact lv_irem hx hb hd hne (kk _ _ _ hla hr hlo)
    · cases h
  · obtain rfl : len = 1 := by simpa [m_lok] using hlk
    unfold m_b1 at h; split at h
    · cases h; exact lv_ineg hx hb hd (kk _ _ _ hla hr hlo)
    · cases h
  · obtain rfl : len = 1 := by simpa [m_lok] using hlk
    unfold m_b1 at h; split at h
    · cases h; exact lv_i2b hx hb hd rfl (kk _ _ _ hla hr hlo)
    · cases h
  · obtain rfl : len = 1 := by simpa [m_lok] using hlk
    unfold m_b1 at h; split at h
    · cases h; exact lv_i2s hx hb hd rfl (kk _ _ _ hla hr hlo)
    · cases h
  · obtain rfl : len = 1 := by simpa [m_lok] using hlk
    split at h
    · cases h; exact lv_i2l hx hb hd rfl (kk _ _ _ hla hr hlo)
    · cases h
  · obtain rfl : len = 1 := by simpa [m_lok] using hlk
    split at h
    · cases h; exact W.lcmp hx hb hd (kk _ _ _ hla hr hlo)
    · cases h
  · obtain rfl : len = 1 := by simpa [m_lok] using hlk
    split at h
    · split at h
      · rename_i hc; cases h; exact lv_dup hx hb hd hc (kk _ _ _ hla hr hlo)
      · cases h
    · cases h
  · obtain rfl : len = 1 := by simpa [m_lok] using hlk
    split at h
    · split at h
      · rename_i hc; cases h; exact lv_dup2_11 hx hb hd hc.1 hc.2 (kk _ _ _ hla hr hlo)
      · cases h
    · cases h
  · obtain rfl : len = 1 := by simpa [m_lok] using hlk
    split at h
    · split at h
      · rename_i hc; cases h; exact lv_pop hx hb hd hc (kk _ _ _ hla hr hlo)
      · cases h
    · cases h
  · obtain rfl : len = 3 := by simpa [m_lok] using hlk
    obtain ⟨tgt, ht, k⟩ := m_s_go cx0 hr hlo hla h kk
    exact lv_goto hx hb hd ht (by
      unfold m_go at h
      split at h
      · cases h; exact k
      · cases h)
  · obtain rfl : len = 3 := by simpa [m_lok] using hlk
    split at h
    · split at h
      · rename_i hc; cases h; exact m_s_icmp hx hb hd hc (kk _ _ _ hla hr hlo)
      · cases h
    · cases h
  · obtain rfl : len = 3 := by simpa [m_lok] using hlk
    split at h
    · split at h
      · rename_i hc; cases h; exact m_s_if hx hb hd hc (kk _ _ _ hla hr hlo)
      · cases h
    · cases h
  · split at h
    · split at h
      · rename_i hc
        unfold m_go at h
        split at h
        · rename_i hp
          cases h; exact lv_tableOut hx hb hd hc (Int.toNat_of_nonneg hp).symm (kk _ _ _ hla hr hlo)
        · cases h
      · rename_i hc
        split at h
        · rename_i off ho
          unfold m_go at h
          split at h
          · rename_i hp
            cases h; exact lv_tableIn hx hb hd (fun q => hc (Or.inl q)) (fun q => hc (Or.inr q)) ho (Int.toNat_of_nonneg hp).symm (kk _ _ _ hla hr hlo)
          · cases h
        · cases h
    · cases h
  · obtain rfl : len = 3 := by simpa [m_lok] using hlk
    split at h
    · rename_i hF; exact m_s_gf cx0 hr hlo hla hF hd h kk
    · cases h
  · obtain rfl : len = 3 := by simpa [m_lok] using hlk
    split at h
    · rename_i hF; exact m_s_pf cx0 hr hlo hla hF hd h kk
    · cases h
  · obtain rfl : len = 3 := by simpa [m_lok] using hlk
    split at h
    · rename_i hG; cases h; exact m_s_gs cx0 hr hlo hla hG hd kk
    · cases h
  · obtain rfl : len = 1 := by simpa [m_lok] using hlk
    exact m_s_al cx0 hr hlo hla (Or.inl ⟨rfl, hd⟩) h kk
  · obtain rfl : len = 1 := by simpa [m_lok] using hlk
    exact m_s_al cx0 hr hlo hla (Or.inr ⟨rfl, hd⟩) h kk
  · obtain rfl : len = 1 := by simpa [m_lok] using hlk
    split at h
    · split at h
      · rename_i hT
        split at h
        · rename_i hc; cases h; exact m_s_bal cx0 hr hlo hla hd hT hc.1 hc.2.1 hc.2.2 kk
        · cases h
      · cases h
    · cases h
  · obtain rfl : len = 1 := by simpa [m_lok] using hlk
    exact m_s_as cx0 hr hlo hla (Or.inl ⟨⟨rfl, rfl⟩, hd⟩) h kk
  · obtain rfl : len = 1 := by simpa [m_lok] using hlk
    exact m_s_as cx0 hr hlo hla (Or.inr ⟨⟨rfl, rfl⟩, hd⟩) h kk
  · obtain rfl : len = 1 := by simpa [m_lok] using hlk
    split at h
    · split at h
      · rename_i hT
        split at h
        · rename_i hc; cases h; exact m_s_bas cx0 hr hlo hla hd hT hc.1 hc.2.1 hc.2.2.1 (hB0 ▸ hc.2.2.2) kk
        · cases h
      · cases h
    · cases h
  · obtain rfl : len = 1 := by simpa [m_lok] using hlk
    split at h
    · split at h
      · rename_i hT
        split at h
        · rename_i hc; obtain ⟨rfl, h0, h1⟩ := hc; cases h; exact m_s_aal cx0 hr hlo hla hd hT h0 h1 kk
        · cases h
      · cases h
    · cases h
  · obtain rfl : len = 1 := by simpa [m_lok] using hlk
    split at h
    · split at h
      · rename_i hT hV
        split at h
        · rename_i hc; obtain ⟨⟨rfl, rfl⟩, h0, h1, h2⟩ := hc; cases h; exact m_s_aas cx0 hr hlo hla hd hT hV h0 h1 (hB0 ▸ h2) kk
        · cases h
      · cases h
    · cases h
  · obtain rfl : len = 1 := by simpa [m_lok] using hlk
    split at h
    · split at h
      · rename_i hT
        split at h
        · rename_i hc; obtain ⟨rfl, h0, h1⟩ := hc; cases h; exact m_s_lal cx0 hr hlo hla hd hT h0 h1 kk
        · cases h
      · cases h
    · cases h
  · obtain rfl : len = 1 := by simpa [m_lok] using hlk
    split at h
    · split at h
      · rename_i hT
        split at h
        · rename_i hc; cases h; exact m_s_alen cx0 hr hlo hla hd hT hc kk
        · cases h
      · cases h
    · cases h
  · obtain rfl : len = 3 := by simpa [m_lok] using hlk
    split at h
    · rename_i hN; cases h; exact m_s_new cx0 hr hlo hla hN hd hz hw hR kk
    · cases h
  · obtain rfl : len = 2 := by simpa [m_lok] using hlk
    split at h
    · rename_i hk
      split at h
      · rename_i hc; cases h; exact m_s_newa cx0 hr hlo hla hk hd hc.1 hc.2 hz hw hR kk
      · cases h
    · cases h
  · obtain rfl : len = 3 := by simpa [m_lok] using hlk
    split at h
    · rename_i hk
      split at h
      · rename_i hc; cases h; exact m_s_anew cx0 hr hlo hla hk hd hc.1 hc.2 hz hw hR kk
      · cases h
    · cases h
  · obtain rfl : len = 3 := by simpa [m_lok] using hlk
    split at h
    · rename_i hB
      split at h
      · rename_i hc; exact m_s_bi hj cx0 hr hlo hla hln hB (Or.inl ⟨hc, hd⟩) hR0 h kk
      · cases h
    · split at h
      · split at h
        · exact (m_inv_inl h).elim
        · cases h
      · cases h
  · obtain rfl : len = 3 := by simpa [m_lok] using hlk
    split at h
    · rename_i hB
      split at h
      · rename_i hc; exact m_s_bi hj cx0 hr hlo hla hln hB (Or.inr (Or.inl ⟨hc, hd⟩)) hR0 h kk
      · cases h
    · split at h
      · split at h
        · split at h
          · split at h
            · exact (m_inv_inl h).elim
            · cases h
          · cases h
        · cases h
      · cases h
  · obtain rfl : len = 3 := by simpa [m_lok] using hlk
    split at h
    · rename_i hB
      split at h
      · rename_i hc; exact m_s_bi hj cx0 hr hlo hla hln hB (Or.inr (Or.inr ⟨hc, hd⟩)) hR0 h kk
      · cases h
    · split at h
      · split at h
        · split at h
          · exact (m_inv_inl h).elim
          · cases h
        · cases h
      · cases h
  · split at h
    · cases h
    · split at h <;> cases h
    · cases h
  · split at h <;> cases h
  · split at h <;> cases h
  · cases h
end SD
