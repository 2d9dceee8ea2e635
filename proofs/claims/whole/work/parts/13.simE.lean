/-! calls, and the whole of it: a call of the small machine is one of the JVM's -/
theorem m_st_le {en : Nat → Nat} {me : m_Me} {i : Instr} {pc : Nat} {ls : m_L} {st : List Value} {s : m_S} {q : Nat × m_L × List Value × m_S} (h : m_st en me i pc ls st s = some (.inl q)) : q.2.1.length = ls.length ∧ s.2.2.2.2.1 ≤ q.2.2.2.2.2.2.2.1 ∧ s.2.2.2.2.2 ≤ q.2.2.2.2.2.2.2.2 := by
  unfold m_st at h
  split at h <;> try simp only [m_nx, m_go, m_ldi, m_lda, m_sti, m_sta, m_b2, m_b1, m_gf, m_pf, m_al, m_as, m_bi, m_inv] at h
  all_goals (repeat' (split at h))
  all_goals first | (cases h; done) | (cases h; exact ⟨by simp, by simp [m_new], by simp [m_new]⟩)
theorem m_run_le {en : Nat → Nat} {C : m_Cl} {me : m_Me} {v1 : Option Value} {s1 : m_S} (hC : ∀ (m : m_Me) (as : List Value) (s t : m_S) (v : Option Value), C m as s (fun v' t' => v' = v ∧ t' = t) → s.2.2.2.2.1 ≤ t.2.2.2.2.1 ∧ s.2.2.2.2.2 ≤ t.2.2.2.2.2) (h1 : ∀ (m : m_Me) (as : List Value) (s : m_S) (q : m_Q), C m as s q → ∃ v t, q v t ∧ C m as s (fun v' t' => v' = v ∧ t' = t)) :
    ∀ (n pc : Nat) (ls : m_L) (st : List Value) (s : m_S), m_run en C me (fun v t => v = v1 ∧ t = s1) n pc ls st s → s.2.2.2.2.1 ≤ s1.2.2.2.2.1 ∧ s.2.2.2.2.2 ≤ s1.2.2.2.2.2 := by
  intro n
  induction n with
  | zero => intro pc ls st s h; exact h.elim
  | succ n ih =>
    intro pc ls st s h
    obtain ⟨i, len, hd, hk, r, hr, h⟩ := h
    match r, hr, h with
    | .inl (pc', ls', st', s'), hr, h =>
      have h2 := m_st_le hr
      have h3 := ih _ _ _ _ h
      exact ⟨Nat.le_trans h2.2.1 h3.1, Nat.le_trans h2.2.2 h3.2⟩
    | .inr (.inl v), hr, h => rw [h.2]; exact ⟨Nat.le_refl _, Nat.le_refl _⟩
    | .inr (.inr (m', as, st')), hr, h =>
      obtain ⟨v, t, h2, h3⟩ := h1 _ _ _ _ h
      have h4 := ih _ _ _ _ h2
      have h5 := hC _ _ _ _ _ h3
      exact ⟨Nat.le_trans h5.1 h4.1, Nat.le_trans h5.2 h4.2⟩
theorem m_call_sz {en : Nat → Nat} : ∀ (d : Nat) (me : m_Me) (as : List Value) (s t : m_S) (v : Option Value), m_call en d me as s (fun v' t' => v' = v ∧ t' = t) → s.2.2.2.2.1 ≤ t.2.2.2.2.1 ∧ s.2.2.2.2.2 ≤ t.2.2.2.2.2 := by
  intro d
  induction d with
  | zero => intro me as s t v h; exact h.elim
  | succ d ih =>
    intro me as s t v h
    unfold m_call at h
    split at h
    · obtain ⟨x, p, o, n, h1, h2, h3, h4, h5⟩ := h
      split at h5
      · rw [← h5.2]; exact ⟨Nat.le_succ _, by simp⟩
      · split at h5
        · rw [← h5.2]; exact ⟨Nat.le_succ _, by simp⟩
        · obtain ⟨v', t', ⟨y, e, e2, e3⟩, h6⟩ := m_call_one _ _ _ _ _ h5
          have := ih _ _ _ _ _ h6
          rw [← e3]
          exact this
    · obtain ⟨hl, n, h⟩ := h
      exact m_run_le (fun m a s t v => ih m a s t v) (m_call_one d) n _ _ _ _ h
def m_ws (me : m_Me) : List Cond := Cond.code me.2.1 me.2.2.1 me.2.2.2.1 me.2.2.2.2 :: m_gw
def m_rm (d mc ms : Nat) : Room := { frames := d + 8, cells := mc, slots := ms, locals := 64 * d + 400 }
def m_Pc (en : Nat → Nat) (D : va_G) (H0 : Heap) (as : List Value) (s0 : m_S) : Array Value → State → Prop := va_Pc as (fun U => m_rel D H0 U s0 U.heap ∧ m_kn en D H0 U)
def m_Qc (D : va_G) (H0 : Heap) (v1 : Option Value) (s1 : m_S) : Array Value → State → Outcome → State → Prop := fun _ _ o t => o = .returned v1 ∧ m_rel D H0 t s1 t.heap
/-- calls of depth d are the JVM's -/
def m_sim (l : Launch) (en : Nat → Nat) (D : va_G) (H0 : Heap) (d : Nat) : Prop := ∀ (me : m_Me) (as : List Value) (s0 s1 : m_S) (v1 : Option Value), m_Mp me → (∀ a ∈ as, a.category = 1) → m_call en d me as s0 (fun v t => v = v1 ∧ t = s1) →
  Met l me.2.1 (m_ws me) (m_rm d (s1.2.2.2.2.1 - s0.2.2.2.2.1) (s1.2.2.2.2.2 - s0.2.2.2.2.2)) (m_Pc en D H0 as s0) (m_Qc D H0 v1 s1) (s1.2.2.2.2.1 - s0.2.2.2.2.1) (s1.2.2.2.2.2 - s0.2.2.2.2.2) (fun q => H0.size ≤ q)
theorem m_kn.same {en : Nat → Nat} {D : va_G} {H0 : Heap} {s U : State} (hv : s.vm = U.vm) (h : m_kn en D H0 s) : m_kn en D H0 U := by
  have hA : s.vm.Alike U.vm := by rw [hv]; exact Vm.Alike.refl _
  obtain ⟨h1, h2, h3, h4, h5, h6, h7, u, b, g1, g2, g3, g4, g5⟩ := h
  exact ⟨va_K.moved hA h1, m_nst_all (fun a i x hh hm => va_Nw.same rfl hv (h2 _ hm)), va_Nw.same rfl hv h3, va_Z.moved hA h4, va_Z.moved hA h5, h6, va_AO.moved hA h7, u, b, g1, g2, g3, g4, by rw [← hv]; exact g5⟩
theorem m_Pc_blind {en : Nat → Nat} {D : va_G} {H0 : Heap} {as : List Value} {s0 : m_S} : FrameBlind (m_Pc en D H0 as s0) := by
  intro a U g mk h
  obtain ⟨h1, h2, h3⟩ := h
  exact ⟨h1, m_rel.moved (u := U) (U := U.calling g mk a) (Vm.Alike.refl U.vm) h2, m_kn.same (s := U) (U := U.calling g mk a) rfl h3⟩
theorem m_good {ws : List Cond} (h : ∀ w ∈ ws, w ∈ m_gw) : GoodIn m_gw ws := fun w hw => ⟨h w hw, good_of_word (m_gwT (h w hw)).2⟩
theorem m_ws_in {me : m_Me} (h : m_Mp me) : ∀ w ∈ m_ws me, w ∈ m_gw := by
  intro w hw
  rcases List.mem_cons.mp hw with rfl | hw
  · exact h.2.2.2.2.1
  · exact hw
section SE
variable {en : Nat → Nat} {D : va_G} {H0 : Heap} {p : Program} {l : Launch} {e : Env} {R : Room} {s : State} {m : MethodId} {args : Array Value} {below : List Frame} {meth : Method} {c : Code} {me : m_Me}
variable {H : Heap} {locs : List Loc} {z0 w0 d : Nat} {Z : State → Prop} {pc : Nat} {la : Array Slot} {ls : m_L} {st : List Value} {s0 : m_S}
theorem m_s_run {as : Array Value} {rest : List Value} {v1 : Option Value} {s1 : m_S} (hr : m_rel D H0 s s0 H) (hlo : ∀ q ∈ locs, H0.size ≤ q.base) (hla : m_lr la ls) (hz : z0 ≤ s0.2.2.2.2.1) (hw : w0 ≤ s0.2.2.2.2.2) (hs : s0.2.2.2.2.1 ≤ s1.2.2.2.2.1 ∧ s0.2.2.2.2.2 ≤ s1.2.2.2.2.2)
    (run : va_Run p l e R s m args below meth c H locs (s0.2.2.2.2.1 - z0) (s0.2.2.2.2.2 - w0) (s1.2.2.2.2.1 - s0.2.2.2.2.1) (s1.2.2.2.2.2 - s0.2.2.2.2.2) (F0 m pc la st) rest (m_Qc D H0 v1 s1 as) (fun q => H0.size ≤ q))
    (kk : m_K1 D H0 p l e R s m args below meth c z0 w0 Z (pc + 3) ls (v1.toList ++ rest) s1) : W p l e R s m args below meth c H locs (s0.2.2.2.2.1 - z0) (s0.2.2.2.2.2 - w0) Z (F0 m pc la st) := by
  intro T hT X
  obtain ⟨v, st₀, t, T', L, h0, X', hL, e1, e2, ⟨hv, hrel⟩, go⟩ := run T hT X
  cases hv
  rw [show s0.2.2.2.2.1 - z0 + (s1.2.2.2.2.1 - s0.2.2.2.2.1) = s1.2.2.2.2.1 - z0 by omega, show s0.2.2.2.2.2 - w0 + (s1.2.2.2.2.2 - s0.2.2.2.2.2) = s1.2.2.2.2.2 - w0 by omega] at X'
  have hA : s.vm.Alike t.vm := by rw [← e2]; exact X'.warmed.alike
  rw [← e1] at hrel
  obtain ⟨t2, a1, b1⟩ := kk la T'.heap (locs ++ L) hla (hrel.moved hA.symm) (fun q hq => (List.mem_append.mp hq).elim (hlo q) (hL q)) T' rfl X'
  exact ⟨t2, go t2 a1, b1⟩
theorem m_take {st : List Value} {n : Nat} {v : Value} (h : st[n]? = some v) : (st.take (n + 1)).reverse = v :: (st.take n).reverse ∧ st = (st.take n).reverse.reverse ++ v :: st.drop (n + 1) ∧ (st.take n).reverse.length = n := by
  have hl := (List.getElem?_eq_some_iff.mp h).1
  have hv := (List.getElem?_eq_some_iff.mp h).2
  refine ⟨?_, ?_, by simp; omega⟩
  · rw [List.take_succ_eq_append_getElem hl, List.reverse_append, hv]; rfl
  · rw [List.reverse_reverse, ← hv, ← List.drop_eq_getElem_cons hl, List.take_append_drop]
theorem m_inv_spec {m' m2 : m_Me} {n : Nat} {st as st' : List Value} (h : m_inv m' n st = some (.inr (.inr (m2, as, st')))) : m2 = m' ∧ as = (st.take n).reverse ∧ st' = st.drop n ∧ n ≤ st.length ∧ (∀ a ∈ as, a.category = 1) ∧ (st'.map fun v => v.category).sum ≤ 8 := by
  unfold m_inv at h
  split at h
  · rename_i hc
    cases h
    refine ⟨rfl, rfl, rfl, hc.1.1, fun a ha => ?_, hc.2⟩
    have := List.all_eq_true.mp hc.1.2 a (List.mem_reverse.mp ha)
    simpa using this
  · cases h
theorem m_bi_inr {en : Nat → Nat} {b pc : Nat} {ls : m_L} {st : List Value} {s : m_S} {r : Option Value ⊕ (m_Me × List Value × List Value)} (h : m_bi en b pc ls st s = some (.inr r)) : False := by
  unfold m_bi at h
  split at h
  all_goals (try simp only [m_nx] at h)
  all_goals (repeat' (split at h))
  all_goals (cases h)
set_option maxRecDepth 20000 in
theorem m_room {d mc ms : Nat} {R : Room} (h : d + 9 ≤ R.frames ∧ 64 * d + 464 ≤ R.locals) (k : Nat) (hk : k ≤ 40) : (m_rm d mc ms).frames + 1 ≤ R.frames ∧ 8 + (k + 11) + (m_rm d mc ms).locals ≤ R.locals := by
  obtain ⟨h1, h2⟩ := h
  refine ⟨?_, ?_⟩
  · unfold m_rm
    dsimp only
    omega
  · unfold m_rm
    dsimp only
    omega
set_option maxHeartbeats 4000000 in
theorem m_s_call (hsim : m_sim l en D H0 d) (cx : m_cx en D H0 p R s m args meth c me) (hRf : d + 9 ≤ R.frames ∧ 64 * d + 464 ≤ R.locals) (hr : m_rel D H0 s s0 H) (hlo : ∀ q ∈ locs, H0.size ≤ q.base) (hla : m_lr la ls) (hln : ls.length = me.2.2.2.1) {i : Instr} {len : Nat} (hd : decode me.2.2.1 pc = .ok (i, len)) (hlk : m_lok i len = true) (hz : z0 ≤ s0.2.2.2.2.1) (hw : w0 ≤ s0.2.2.2.2.2)
    {m' : m_Me} {as st' : List Value} (h : m_st en me i pc ls st s0 = some (.inr (.inr (m', as, st')))) (h20 : ∀ x n m2, ¬ m_C me.1 x = some (20, m2, n)) {v1 : Option Value} {s1 : m_S} (hc : m_call en d m' as s0 (fun v t => v = v1 ∧ t = s1)) (hR : s1.2.2.2.2.1 - z0 ≤ R.cells ∧ s1.2.2.2.2.2 - w0 ≤ R.slots)
    (kk : m_K1 D H0 p l e R s m args below meth c z0 w0 Z (pc + 3) ls (v1.toList ++ st') s1) : W p l e R s m args below meth c H locs (s0.2.2.2.2.1 - z0) (s0.2.2.2.2.2 - w0) Z (F0 m pc la st) := by
  have cx0 := cx
  obtain ⟨hx, hb, hml, hown, -, -, -, hts, hkn, hfr, hlc⟩ := cx
  have hsz : la.size = me.2.2.2.1 := hla.1.1.trans hln
  have hsl := m_call_sz _ _ _ _ _ _ hc
  have hPre : ∀ (as : List Value) (U : State), U.heap = H → s.WarmedH U.vm → m_Pc en D H0 as s0 as.toArray U := fun as U hU hW => ⟨rfl, by rw [hU]; exact hr.moved hW.alike, hkn.warm hW⟩
  have hfit : s0.2.2.2.2.1 - z0 + (s1.2.2.2.2.1 - s0.2.2.2.2.1) ≤ R.cells ∧ s0.2.2.2.2.2 - w0 + (s1.2.2.2.2.2 - s0.2.2.2.2.2) ≤ R.slots := by omega
  have S : CallFix p m c me.2.2.1 me.2.2.2.1 s args m_gw (m_cn me.1) := ⟨hx, hb, hml, hown, hts⟩
  have hroom := fun k hk => m_room (mc := s1.2.2.2.2.1 - s0.2.2.2.2.1) (ms := s1.2.2.2.2.2 - s0.2.2.2.2.2) hRf k hk
  unfold m_st at h
  split at h <;> try (simp only [m_nx, m_go, m_ldi, m_lda, m_sti, m_sta, m_b2, m_b1, m_gf, m_pf, m_al, m_as] at h; repeat' (split at h)) <;> try (cases h; done)
  · obtain rfl : len = 3 := by simpa [m_lok] using hlk
    split at h
    · split at h
      · exact (m_bi_inr h).elim
      · cases h
    · split at h
      · rename_i kd m2 n hC
        split at h
        · rename_i hkd
          obtain ⟨rfl, rfl, rfl, hn, hcat, h8⟩ := m_inv_spec h
          have hst : st = (st.take n).reverse.reverse ++ st.drop n := by rw [List.reverse_reverse, List.take_append_drop]
          have hnl : (st.take n).reverse.length = n := by simp; omega
          rcases m_C_ok hC with rfl | ⟨hM, hpar, hn40, hk⟩
          · exact (h20 _ _ _ hC).elim
          · have hMet := hsim _ _ _ _ _ hM hcat hc
            obtain ⟨g1, g2, g3, g4, g5, g6, g7⟩ := hM
            have hdd : m'.2.1.cls ≠ "java/lang/invoke/MethodHandle" ∧ m'.2.1.cls ≠ "java/lang/invoke/VarHandle" ∧ (parseMethodDescriptor m'.2.1.desc).map (fun d => d.parameters.length) = some n := ⟨g3.1, g3.2, hpar⟩
            rcases hkd with rfl | rfl | rfl
            · exact m_s_run hr hlo hla hz hw hsl (va_runS (As := (st.take n).reverse) (rest := st.drop n) S hMet ⟨callB_of n hts (m_good (m_ws_in ⟨g1, g2, g3, g4, g5, g6, g7⟩)) rfl rfl rfl (hts _ g6) (hts _ hk.1) hdd (hroom _ g7), hts _ hk.2⟩ ⟨m_Pc_blind, hPre _⟩ rfl hnl hsz hst (lv_room h8) hd hfit) kk
            · exact m_s_run hr hlo hla hz hw hsl (va_runSN (host := "SwingCrane") (As := (st.take n).reverse) (rest := st.drop n) S hMet ⟨va_cnB n hts (m_good (m_ws_in ⟨g1, g2, g3, g4, g5, g6, g7⟩)) rfl rfl rfl (hkn.2.1 _ hk.1) (hts _ g6) hdd (hroom _ g7), hts _ hk.2, trivial⟩ ⟨m_Pc_blind, hPre _⟩ rfl hnl hsz hst (lv_room h8) hd hfit) kk
            · exact (h20 _ _ _ hC).elim
        · cases h
      · cases h
  · obtain rfl : len = 3 := by simpa [m_lok] using hlk
    split at h
    · split at h
      · exact (m_bi_inr h).elim
      · cases h
    · split at h
      · rename_i kd m2 n hC
        split at h
        · rename_i b hbs
          split at h
          · rename_i t nn hT
            split at h
            · rename_i hkd
              obtain ⟨rfl, rfl⟩ := hkd
              obtain ⟨rfl, has, rfl, hn, hcat, h8⟩ := m_inv_spec h
              obtain ⟨t1, t2, t3⟩ := m_take hbs
              rw [t1] at has
              subst has
              rcases m_C_ok hC with q | ⟨hM, hpar, hn40, hk⟩
              · cases q
              · have hMet := hsim _ _ _ _ _ hM hcat hc
                have hM0 := hM
                obtain ⟨g1, g2, g3, g4, g5, g6, g7⟩ := hM
                obtain ⟨l1, l2, l3, l4, l5, l6, l7, l8⟩ := m_L_ok g1
                have hrec : ∃ cellB : Cell, H[b]? = some cellB ∧ cellB.vm.isStatics = false ∧ s.vm.findClass m'.2.1.cls = some cellB.cls := by
                  rcases hr.2.2.2 b _ _ hT with ⟨-, cell, c1, c2, c3, -⟩ | ⟨q, -⟩
                  · exact ⟨cell, c1, by rw [c3]; rfl, by rw [g2, c2]; exact (hkn.1.1 _ _ l8).2.1⟩
                  · omega
                have hGood : GoodIn m_gw (wsV (m_cn me.1) _ m'.2.1.cls m'.2.1 (m_ws m')) := m_good (fun w hw => by
                  unfold wsV at hw
                  rcases List.mem_append.mp hw with hw | hw
                  · simp only [List.mem_cons, List.not_mem_nil, or_false] at hw
                    rcases hw with rfl | rfl | rfl | rfl
                    · exact hk.1
                    · exact hk.2.1
                    · exact hk.2.2
                    · exact g6
                  · exact m_ws_in hM0 w hw)
                exact m_s_run hr hlo hla hz hw hsl (va_runV (As := (st.take n).reverse) (rest := st.drop (n + 1)) S hMet (cwV n hts hGood rfl rfl rfl ⟨rfl, g3.1, g3.2, hpar⟩ (hroom _ g7)) ⟨m_Pc_blind, hrec, hPre _⟩ rfl t3 hsz t2 (lv_room h8) hd hfit) kk
            · cases h
          · cases h
        · cases h
      · cases h
  · obtain rfl : len = 3 := by simpa [m_lok] using hlk
    split at h
    · split at h
      · exact (m_bi_inr h).elim
      · cases h
    · split at h
      · rename_i kd m2 n hC
        split at h
        · rename_i b hbs
          split at h
          · rename_i hkd
            obtain ⟨rfl, has, rfl, hn, hcat, h8⟩ := m_inv_spec h
            obtain ⟨t1, t2, t3⟩ := m_take hbs
            rw [t1] at has
            subst has
            rcases m_C_ok hC with rfl | ⟨hM, hpar, hn40, hk⟩
            · exact (h20 _ _ _ hC).elim
            · have hMet := hsim _ _ _ _ _ hM hcat hc
              have hM0 := hM
              obtain ⟨g1, g2, g3, g4, g5, g6, g7⟩ := hM
              have hdd : m'.2.1.cls ≠ "java/lang/invoke/MethodHandle" ∧ m'.2.1.cls ≠ "java/lang/invoke/VarHandle" ∧ (parseMethodDescriptor m'.2.1.desc).map (fun d => d.parameters.length) = some n := ⟨g3.1, g3.2, hpar⟩
              rcases hkd with rfl | rfl
              · obtain ⟨k1, k2, k3, k4⟩ := hk
                exact m_s_run hr hlo hla hz hw hsl (va_runI (As := (st.take n).reverse) (rest := st.drop (n + 1)) S hMet (cwI n hts (m_good (m_ws_in hM0)) (by unfold m_ws; rw [k4]) rfl rfl (hts _ g6) (hts _ k1) (hts _ k2) k3 hdd (hroom _ g7)) ⟨m_Pc_blind, hPre _⟩ rfl t3 hsz t2 (lv_room h8) hd hfit) kk
              · obtain ⟨k1, k2, k3, k4⟩ := hk
                exact m_s_run hr hlo hla hz hw hsl (va_runIN (host := "SwingCrane") (As := (st.take n).reverse) (rest := st.drop (n + 1)) S hMet ⟨va_cnB n hts (m_good (m_ws_in hM0)) (by unfold m_ws; rw [k4]) rfl rfl (hkn.2.1 _ k1) (hts _ g6) hdd (hroom _ g7), k3, hts _ k2⟩ ⟨m_Pc_blind, hPre _⟩ rfl t3 hsz t2 (lv_room h8) hd hfit) kk
          · cases h
        · cases h
      · cases h
  all_goals (repeat' (split at h))
  all_goals (cases h)
end SE
