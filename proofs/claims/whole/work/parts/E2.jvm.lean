/-! the law on the JVM: what is left is La_now, the JDK's methods, the start -/
def R_law : String := "SwingCraneLaw"
def lw_P (b : Addr) (xs : List Int32) (args : Array Value) (s : State) : Prop := args = #[.ref b] ∧ s.IntsAt b xs ∧ xs.length ≤ 3072 ∧ (Jvm.Cond.and given_1 narrow_1).before args s = true
def lw_Q (_ : Array Value) (s : State) (o : Outcome) (t : State) : Prop := o = .returned (some (.int 1)) ∧ Framed s o t [] 601024 7293034
def lw_Z (below : List Frame) (a : Array Value) (s : State) : State → Prop := fun t => ∃ o, t.status = .running ∧ Ended t below o ∧ lw_Q a s o t
/-- the law's own end, with 1 on the stack, nothing written that was there before, its room as the claim has it -/
theorem lw_ret {p : Program} {l : Launch} {e : Env} {s : State} {m : MethodId} {below : List Frame} {meth : Method} {c : Code} {b : Nat} (hx : p.tables.exec = Jvm.exec) (hb : c.code = code) (hr : meth.sig.returnType = ret) (hlocks : meth.locks = false) {pc : Nat} {H : Heap} {ls : Array Slot} (hdg : decode code pc = .ok (.ireturn, 1)) : W p l e room_1 s m #[Value.ref b] below meth c H [] 601024 7293034 (lw_Z below #[Value.ref b] s) (F0 m pc ls [.int 1]) := by
  intro T hT X
  obtain ⟨fs, hret, hrun, hended, hW, hframe⟩ := X.leave (v := some (.int 1)) (hlocks := hlocks) (fun h => by rw [hr] at h; cases h)
  have hmeth' : T.vm.method? m = some meth := X.method'
  refine ⟨T.setFrames fs, ?_, .returned (some (.int 1)), hrun, hended, rfl, ⟨_, rfl⟩, hW, hframe⟩
  jvm_step X.here [X.here.top, hx, hb, hdg, hmeth', hr, ret, narrow_b1]
  (try refine ⟨rfl, ?_⟩); (try refine ⟨rfl, ?_⟩)
  first | (intro acts; rw [hret _ acts rfl rfl rfl]) | rw [hret _ _ rfl rfl rfl]
  exact Steps.refl _
/-- what holds at the law's entry: the machine, the code, the tables' words (any of lw_tbl by 'hts w (by decide +kernel)'), the script of L ints xs at the cell b, what the Statement gives of the start (any of its parts by flat_of_before) -/
def lw_At (p : Program) (s : State) (m : MethodId) (meth : Method) (c : Code) (b L : Nat) (xs : Nat → Int32) : Prop :=
  p.tables.exec = Jvm.exec ∧ c.code = code ∧ meth.sig.returnType = ret ∧ c.maxLocals = 7 ∧ s.vm.findClass R_law = some m.cls ∧ (∀ w ∈ lw_tbl, w.before #[Value.ref b] s = true) ∧ va_X b L xs s s.heap ∧ b < s.heap.size ∧ meth.locks = false ∧ (Jvm.Cond.and given_1 narrow_1).before #[Value.ref b] s = true
section LWJ
variable {en : Nat → Nat} {D : va_G} {H0 : Heap} {p : Program} {l : Launch} {e : Env} {R : Room} {s : State} {m : MethodId} {args : Array Value} {below : List Frame} {meth : Method} {c : Code} {me : m_Me}
variable {H : Heap} {locs : List Loc} {z0 w0 d : Nat} {Z : State → Prop} {pc : Nat} {la : Array Slot} {ls : m_L} {st : List Value} {s0 : m_S}
set_option maxHeartbeats 4000000 in
theorem m_s_cal2 (hsim : m_sim l en D H0 d) (cx : m_cx en D H0 p R s m args meth c me) (hRf : d + 9 ≤ R.frames ∧ 64 * d + 464 ≤ R.locals) (hr : m_rel D H0 s s0 H) (hlo : ∀ q ∈ locs, H0.size ≤ q.base) (hla : m_lr la ls) (hln : ls.length = me.2.2.2.1) {i : Instr} {len : Nat} (hd : decode me.2.2.1 pc = .ok (i, len)) (hlk : m_lok i len = true) (hz : z0 ≤ s0.2.2.2.2.1) (hw : w0 ≤ s0.2.2.2.2.2)
    {m' : m_Me} {as st' : List Value} (h : m_st en me i pc ls st s0 = some (.inr (.inr (m', as, st')))) (h20 : ∀ x n, m_C me.1 x = some (20, m', n) → decode me.2.2.1 pc = .ok (.invokestatic x, 3) → as = (st.take n).reverse → st' = st.drop n → n ≤ st.length → (∀ a ∈ as, a.category = 1) → (st'.map fun v => v.category).sum ≤ 8 → W p l e R s m args below meth c H locs (s0.2.2.2.2.1 - z0) (s0.2.2.2.2.2 - w0) Z (F0 m pc la st)) {v1 : Option Value} {s1 : m_S} (hc : m_call en d m' as s0 (fun v t => v = v1 ∧ t = s1)) (hR : s1.2.2.2.2.1 - z0 ≤ R.cells ∧ s1.2.2.2.2.2 - w0 ≤ R.slots)
    (kk : m_K1 D H0 p l e R s m args below meth c z0 w0 Z (pc + 3) ls (v1.toList ++ st') s1) : W p l e R s m args below meth c H locs (s0.2.2.2.2.1 - z0) (s0.2.2.2.2.2 - w0) Z (F0 m pc la st) := by
  have cx0 := cx
  obtain ⟨hx, hb, hml, hown, -, -, -, hts, hkn, hfr, hlc⟩ := cx
  have hsz : la.size = me.2.2.2.1 := hla.1.1.trans hln
  have hsl := m_call_sz _ _ _ _ _ _ hc
  have hPre : ∀ (as : List Value) (U : State), U.heap = H → s.WarmedH U.vm → m_Pc en D H0 as s0 as.toArray U := fun as U hU hW => ⟨rfl, by rw [hU]; exact hr.moved hW.alike, hkn.warm hW⟩
  have hfit : s0.2.2.2.2.1 - z0 + (s1.2.2.2.2.1 - s0.2.2.2.2.1) ≤ R.cells ∧ s0.2.2.2.2.2 - w0 + (s1.2.2.2.2.2 - s0.2.2.2.2.2) ≤ R.slots := by omega
  have S : CallFix p m c me.2.2.1 me.2.2.2.1 s args m_gw (m_cn me.1) := ⟨hx, hb, hml, hown, hts⟩
  have hroom := fun k hk => m_room (mc := s1.2.2.2.2.1 - s0.2.2.2.2.1) (ms := s1.2.2.2.2.2 - s0.2.2.2.2.2) hRf k hk
  unfold m_st at h
  split at h <;> try (simp only [m_nx, m_go, m_ldi, m_lda, m_sti, m_sta, m_b2, m_b1, m_gf, m_pf, m_al, m_as] at h; repeat' (split at h)) <;> try (cases h; done)
  · obtain rfl : len = 3 := by simpa [m_lok] using hlk
    split at h
    · split at h
      · exact (m_bi_inr h).elim
      · cases h
    · split at h
      · rename_i kd m2 n hC
        split at h
        · rename_i hkd
          obtain ⟨rfl, rfl, rfl, hn, hcat, h8⟩ := m_inv_spec h
          have hst : st = (st.take n).reverse.reverse ++ st.drop n := by rw [List.reverse_reverse, List.take_append_drop]
          have hnl : (st.take n).reverse.length = n := by simp; omega
          rcases m_C_ok hC with rfl | ⟨hM, hpar, hn40, hk⟩
          · exact h20 _ _ hC hd rfl rfl hn hcat h8
          · have hMet := hsim _ _ _ _ _ hM hcat hc
            obtain ⟨g1, g2, g3, g4, g5, g6, g7⟩ := hM
            have hdd : m'.2.1.cls ≠ "java/lang/invoke/MethodHandle" ∧ m'.2.1.cls ≠ "java/lang/invoke/VarHandle" ∧ (parseMethodDescriptor m'.2.1.desc).map (fun d => d.parameters.length) = some n := ⟨g3.1, g3.2, hpar⟩
            rcases hkd with rfl | rfl | rfl
            · exact m_s_run hr hlo hla hz hw hsl (va_runS (As := (st.take n).reverse) (rest := st.drop n) S hMet ⟨callB_of n hts (m_good (m_ws_in ⟨g1, g2, g3, g4, g5, g6, g7⟩)) rfl rfl rfl (hts _ g6) (hts _ hk.1) hdd (hroom _ g7), hts _ hk.2⟩ ⟨m_Pc_blind, hPre _⟩ rfl hnl hsz hst (lv_room h8) hd hfit) kk
            · exact m_s_run hr hlo hla hz hw hsl (va_runSN (host := "SwingCrane") (As := (st.take n).reverse) (rest := st.drop n) S hMet ⟨va_cnB n hts (m_good (m_ws_in ⟨g1, g2, g3, g4, g5, g6, g7⟩)) rfl rfl rfl (hkn.2.1 _ hk.1) (hts _ g6) hdd (hroom _ g7), hts _ hk.2, trivial⟩ ⟨m_Pc_blind, hPre _⟩ rfl hnl hsz hst (lv_room h8) hd hfit) kk
            · exact h20 _ _ hC hd rfl rfl hn hcat h8
        · cases h
      · cases h
  · obtain rfl : len = 3 := by simpa [m_lok] using hlk
    split at h
    · split at h
      · exact (m_bi_inr h).elim
      · cases h
    · split at h
      · rename_i kd m2 n hC
        split at h
        · rename_i b hbs
          split at h
          · rename_i t nn hT
            split at h
            · rename_i hkd
              obtain ⟨rfl, rfl⟩ := hkd
              obtain ⟨rfl, has, rfl, hn, hcat, h8⟩ := m_inv_spec h
              obtain ⟨t1, t2, t3⟩ := m_take hbs
              rw [t1] at has
              subst has
              rcases m_C_ok hC with q | ⟨hM, hpar, hn40, hk⟩
              · cases q
              · have hMet := hsim _ _ _ _ _ hM hcat hc
                have hM0 := hM
                obtain ⟨g1, g2, g3, g4, g5, g6, g7⟩ := hM
                obtain ⟨l1, l2, l3, l4, l5, l6, l7, l8⟩ := m_L_ok g1
                have hrec : ∃ cellB : Cell, H[b]? = some cellB ∧ cellB.vm.isStatics = false ∧ s.vm.findClass m'.2.1.cls = some cellB.cls := by
                  rcases hr.2.2.2 b _ _ hT with ⟨-, cell, c1, c2, c3, -⟩ | ⟨q, -⟩
                  · exact ⟨cell, c1, by rw [c3]; rfl, by rw [g2, c2]; exact (hkn.1.1 _ _ l8).2.1⟩
                  · omega
                have hGood : GoodIn m_gw (wsV (m_cn me.1) _ m'.2.1.cls m'.2.1 (m_ws m')) := m_good (fun w hw => by
                  unfold wsV at hw
                  rcases List.mem_append.mp hw with hw | hw
                  · simp only [List.mem_cons, List.not_mem_nil, or_false] at hw
                    rcases hw with rfl | rfl | rfl | rfl
                    · exact hk.1
                    · exact hk.2.1
                    · exact hk.2.2
                    · exact g6
                  · exact m_ws_in hM0 w hw)
                exact m_s_run hr hlo hla hz hw hsl (va_runV (As := (st.take n).reverse) (rest := st.drop (n + 1)) S hMet (cwV n hts hGood rfl rfl rfl ⟨rfl, g3.1, g3.2, hpar⟩ (hroom _ g7)) ⟨m_Pc_blind, hrec, hPre _⟩ rfl t3 hsz t2 (lv_room h8) hd hfit) kk
            · cases h
          · cases h
        · cases h
      · cases h
  · obtain rfl : len = 3 := by simpa [m_lok] using hlk
    split at h
    · split at h
      · exact (m_bi_inr h).elim
      · cases h
    · split at h
      · rename_i kd m2 n hC
        split at h
        · rename_i b hbs
          split at h
          · rename_i hkd
            obtain ⟨rfl, has, rfl, hn, hcat, h8⟩ := m_inv_spec h
            obtain ⟨t1, t2, t3⟩ := m_take hbs
            rw [t1] at has
            subst has
            rcases m_C_ok hC with rfl | ⟨hM, hpar, hn40, hk⟩
            · exact absurd hkd (by decide)
            · have hMet := hsim _ _ _ _ _ hM hcat hc
              have hM0 := hM
              obtain ⟨g1, g2, g3, g4, g5, g6, g7⟩ := hM
              have hdd : m'.2.1.cls ≠ "java/lang/invoke/MethodHandle" ∧ m'.2.1.cls ≠ "java/lang/invoke/VarHandle" ∧ (parseMethodDescriptor m'.2.1.desc).map (fun d => d.parameters.length) = some n := ⟨g3.1, g3.2, hpar⟩
              rcases hkd with rfl | rfl
              · obtain ⟨k1, k2, k3, k4⟩ := hk
                exact m_s_run hr hlo hla hz hw hsl (va_runI (As := (st.take n).reverse) (rest := st.drop (n + 1)) S hMet (cwI n hts (m_good (m_ws_in hM0)) (by unfold m_ws; rw [k4]) rfl rfl (hts _ g6) (hts _ k1) (hts _ k2) k3 hdd (hroom _ g7)) ⟨m_Pc_blind, hPre _⟩ rfl t3 hsz t2 (lv_room h8) hd hfit) kk
              · obtain ⟨k1, k2, k3, k4⟩ := hk
                exact m_s_run hr hlo hla hz hw hsl (va_runIN (host := "SwingCrane") (As := (st.take n).reverse) (rest := st.drop (n + 1)) S hMet ⟨va_cnB n hts (m_good (m_ws_in hM0)) (by unfold m_ws; rw [k4]) rfl rfl (hkn.2.1 _ k1) (hts _ g6) hdd (hroom _ g7), k3, hts _ k2⟩ ⟨m_Pc_blind, hPre _⟩ rfl t3 hsz t2 (lv_room h8) hd hfit) kk
          · cases h
        · cases h
      · cases h
  all_goals (repeat' (split at h))
  all_goals (cases h)
theorem m_no20 : ∀ c, c < 13 → ∀ x n m2, ¬ m_C c x = some (20, m2, n) := by
  intro c hc x n m2 h
  unfold m_C at h
  split at h
  · have q : ∀ q ∈ m_C0, q.2.1 ≠ 20 := by decide +kernel
    exact q _ (m_look h) rfl
  · have q : ∀ q ∈ m_C1, q.2.1 ≠ 20 := by decide +kernel
    exact q _ (m_look h) rfl
  · have q : ∀ q ∈ m_C2, q.2.1 ≠ 20 := by decide +kernel
    exact q _ (m_look h) rfl
  · have q : ∀ q ∈ m_C3, q.2.1 ≠ 20 := by decide +kernel
    exact q _ (m_look h) rfl
  · have q : ∀ q ∈ m_C4, q.2.1 ≠ 20 := by decide +kernel
    exact q _ (m_look h) rfl
  · have q : ∀ q ∈ m_C6, q.2.1 ≠ 20 := by decide +kernel
    exact q _ (m_look h) rfl
  · have q : ∀ q ∈ m_C7, q.2.1 ≠ 20 := by decide +kernel
    exact q _ (m_look h) rfl
  · have q : ∀ q ∈ m_C8, q.2.1 ≠ 20 := by decide +kernel
    exact q _ (m_look h) rfl
  · have q : ∀ q ∈ m_C9, q.2.1 ≠ 20 := by decide +kernel
    exact q _ (m_look h) rfl
  · have q : ∀ q ∈ m_C10, q.2.1 ≠ 20 := by decide +kernel
    exact q _ (m_look h) rfl
  · have q : ∀ q ∈ m_C11, q.2.1 ≠ 20 := by decide +kernel
    exact q _ (m_look h) rfl
  · have q : ∀ q ∈ m_C12, q.2.1 ≠ 20 := by decide +kernel
    exact q _ (m_look h) rfl
  · exact absurd hc (by decide)
  · cases h
/-- the law's own end -/
theorem lw_ret2 {b cells slots : Nat} (hx : p.tables.exec = Jvm.exec) (hb : c.code = code) (hr : meth.sig.returnType = ret) (hlocks : meth.locks = false) (hlo : ∀ q ∈ locs, s.heap.size ≤ q.base) (hc : cells ≤ 601024) (hs : slots ≤ 7293034) (hdg : decode code pc = .ok (.ireturn, 1)) : W p l e room_1 s m #[Value.ref b] below meth c H locs cells slots (lw_Z below #[Value.ref b] s) (F0 m pc la [.int 1]) := by
  intro T hT X
  obtain ⟨fs, hret, hrun, hended, hW, hframe⟩ := X.leave (v := some (.int 1)) (hlocks := hlocks) (fun h => by rw [hr] at h; cases h)
  have hmeth' : T.vm.method? m = some meth := X.method'
  obtain ⟨f1, f2, f3, f4, f5, f6⟩ := hframe
  refine ⟨T.setFrames fs, ?_, .returned (some (.int 1)), hrun, hended, rfl, ⟨_, rfl⟩, hW, f1, f2, Nat.le_trans f3 (Nat.add_le_add_left hc _), f4, Nat.le_trans f5 hs, fun a c' h => ?_⟩
  · jvm_step X.here [X.here.top, hx, hb, hdg, hmeth', hr, ret, narrow_b1]
    (try refine ⟨rfl, ?_⟩); (try refine ⟨rfl, ?_⟩)
    first | (intro acts; rw [hret _ acts rfl rfl rfl]) | rw [hret _ _ rfl rfl rfl]
    exact Steps.refl _
  · obtain ⟨c2, g1, g2, g3, g4⟩ := f6 a c' h
    refine ⟨c2, g1, g2, g3, fun i _ => g4 i (fun hm => ?_)⟩
    have q1 := hlo _ hm
    have q2 := (Array.getElem?_eq_some_iff.mp h).1
    dsimp only at q1
    exact absurd q2 (Nat.not_lt.mpr q1)
/-- what is asked of the law's call of its own now -/
def la_CS (en : Nat → Nat) (D : va_G) (p : Program) (l : Launch) (e : Env) (s : State) (m : MethodId) (args : Array Value) (below : List Frame) (meth : Method) (c : Code) (Z : State → Prop) : Prop :=
  ∀ (pc : Nat) (la : Array Slot) (ls : m_L) (st : List Value) (s0 : m_S) (H : Heap) (locs : List Loc) (x : Nat) (v2 : Option Value) (s2 : m_S), m_rel D s.heap s s0 H → (∀ q ∈ locs, s.heap.size ≤ q.base) → m_lr la ls → ls.length = 7 → m_C 13 x = some (20, mLa_now, 3) → decode code pc = .ok (.invokestatic x, 3) → s.heap.size ≤ s0.2.2.2.2.1 → 3 ≤ st.length → (∀ a ∈ (st.take 3).reverse, a.category = 1) → ((st.drop 3).map fun v => v.category).sum ≤ 8 →
    m_call en 40 mLa_now (st.take 3).reverse s0 (fun v t => v = v2 ∧ t = s2) → s2.2.2.2.2.1 - s.heap.size ≤ room_1.cells ∧ s2.2.2.2.2.2 - 0 ≤ room_1.slots → m_K1 D s.heap p l e room_1 s m args below meth c s.heap.size 0 Z (pc + 3) ls (v2.toList ++ st.drop 3) s2 → W p l e room_1 s m args below meth c H locs (s0.2.2.2.2.1 - s.heap.size) (s0.2.2.2.2.2 - 0) Z (F0 m pc la st)
theorem law_end {i : Instr} {len : Nat} {v1 : Option Value} {s1 : m_S} (hlk : m_lok i len = true) (hrt0 : me.2.2.2.2 = some .boolean) (hst : m_st en me i pc ls st s1 = some (.inr (.inl v1))) : i = .ireturn ∧ len = 1 ∧ ∃ y : Int32, v1 = some (.int y) ∧ st = [.int y] := by
  unfold m_st at hst
  split at hst <;> try (simp only [m_nx, m_go, m_ldi, m_lda, m_sti, m_sta, m_b2, m_b1, m_gf, m_pf, m_al, m_as, m_bi, m_inv] at hst; repeat' (split at hst)) <;> try (cases hst; done)
  · obtain rfl : len = 1 := by simpa [m_lok] using hlk
    split at hst
    · rename_i x hrt
      rw [hrt0] at hrt
      cases hrt
    · rename_i x hrt
      split at hst
      · cases hst
        exact ⟨rfl, rfl, _, rfl, rfl⟩
      · cases hst
    · cases hst
  · split at hst
    · rename_i a nm hrt
      rw [hrt0] at hrt
      cases hrt
    · cases hst
  · split at hst
    · rename_i hrt
      rw [hrt0] at hrt
      cases hrt
    · cases hst
  · cases hst
theorem m_C13_20 {x n : Nat} {m2 : m_Me} (h : m_C 13 x = some (20, m2, n)) : m2 = mLa_now ∧ n = 3 := by
  have q2 : ∀ q ∈ m_C13, q.2.1 = 20 → q.1 = 47 := by decide +kernel
  have x47 : x = 47 := q2 _ (m_look h) rfl
  subst x47
  have this : m_C 13 47 = some (20, mLa_now, 3) := rfl
  have e : (20, mLa_now, 3) = (20, m2, n) := Option.some.inj (this.symm.trans h)
  exact ⟨(congrArg (fun q : Nat × m_Me × Nat => q.2.1) e).symm, (congrArg (fun q : Nat × m_Me × Nat => q.2.2) e).symm⟩
theorem to_room {X M N O z0 w0 k : Nat} {T0 T : Nat → Option (Nat × Nat)} {J0 J : Nat → Nat → Int} {P : Nat → Nat → Option Nat} {L : Nat → Nat → Int64} {z w : Nat} (h : to_I en X M N O z0 w0 T0 J0 k T J P L z w) : z ≤ z0 + k + 1086 ∧ w ≤ w0 + 6 * k + 699840 := by
  obtain ⟨⟨⟨zb, wb, hW, hz, hw⟩, -⟩, -⟩ := h
  obtain ⟨-, -, -, cc, u, hs, e1, e2⟩ := hW.1
  have key : ∀ o, cl_o o → cc o ≤ 181 ∧ u o ≤ 116640 := fun o ho => by
    obtain ⟨-, -, -, h1, -, -, -, -, h2, h3⟩ := hs o ho
    omega
  have k1 := key 139 (Or.inl rfl)
  have k2 := key 144 (Or.inr (Or.inl rfl))
  have k3 := key 149 (Or.inr (Or.inr rfl))
  omega
theorem law_jvm {b n : Nat} {T0 : Nat → Option (Nat × Nat)} {J0 : Nat → Nat → Int} {P0 : Nat → Nat → Option Nat} {L0 : Nat → Nat → Int64} (hj : m_jdk en D s.heap l) (cx : m_cx en D s.heap p room_1 s m #[Value.ref b] meth c mLa_law) (h0 : m_rel D s.heap s (T0, m_I J0, P0, L0, s.heap.size, 0) s.heap) (hnow : la_CS en D p l e s m #[Value.ref b] below meth c (lw_Z below #[Value.ref b] s))
    (he : en 0 = s.heap.size) (hst : re_st en T0 J0) (hos : cl_os en T0 J0) (hS : T0 b = some (20, n)) (hn : n ≤ 3072) (hSX : b < s.heap.size) (hSi : ∀ j, m_in (J0 b j))
 : W p l e room_1 s m #[Value.ref b] below meth c s.heap [] 0 0 (lw_Z below #[Value.ref b] s) (entryFrame m ([Value.ref b] : List Value).toArray 7) := by
  have hlaw := law_all (en := en) (X := s.heap.size) (S := b) (T0 := T0) (J0 := J0) (P0 := P0) (L0 := L0) (w := 0) (Q := fun v t => v = some (.int 1) ∧ t.2.2.2.2.1 - s.heap.size ≤ 601024 ∧ t.2.2.2.2.2 - 0 ≤ 7293034) (by omega) hst hos hS hn hSX hSi  (fun z0 w0 k T J P L z' w' q1 q2 q3 h => ⟨by rfl, by
    have := to_room h
    dsimp only
    omega⟩)
  obtain ⟨f, hrun⟩ := hlaw
  obtain ⟨v1, s1, ⟨hv, hz1, hw1⟩, hrun⟩ := m_run_one (m_call_one 40) (m_call_mono 40) f _ _ _ _ hrun
  have cx0 := cx
  obtain ⟨hx, hb, hml, hown, hnm, hrt, hlk, hts, hkn, hfr, hlc⟩ := cx
  obtain ⟨hlr, hln⟩ := m_lrent (me := mLa_law) (as := [Value.ref b]) (fun a ha => by rcases List.mem_singleton.mp ha with rfl; rfl) (Nat.le_of_ble_eq_true rfl)
  rw [lg_entry_eq]
  have key := m_simW (l := l) (e := e) (below := below) (z0 := s.heap.size) (w0 := 0) (d := 40) (Z := lw_Z below #[Value.ref b] s) hj cx0 (v1 := v1) (s1 := s1) ⟨hz1, hw1⟩ ?_ ?_ f 0 _ [] _ hrun hln (Nat.le_refl _) (Nat.le_refl _) _ s.heap [] hlr h0 (fun q hq => by cases hq)
  · dsimp only at key
    rw [Nat.sub_self s.heap.size] at key
    exact key
  · intro pc la ls st s' H locs i len m' as' st' v2 s2 a1 a2 a3 a4 a5 a6 a7 a8 a9 a10 a11 a12
    refine m_s_cal2 (m_sim_all hj m_no20 40) cx0 (by decide) a1 a2 a3 a4 a5 a6 a7 a8 a9 (fun x n hC hd e1 e2 g1 g2 g3 => ?_) a10 a11 a12
    obtain ⟨rfl, rfl⟩ := m_C13_20 hC
    subst e1; subst e2
    exact hnow pc la ls st s' H locs x v2 s2 a1 a2 a3 a4 hC hd a7 g1 g2 g3 a10 a11 a12
  · intro pc la ls st H locs i len hd hk hs1 hrl hlo
    obtain ⟨hi, hl1, hs2⟩ := law_end (pc := pc) (v1 := v1) hk rfl hs1
    subst hi; subst hl1
    obtain ⟨y, hy1, hy2⟩ := hs2
    have hy : y = 1 := by
      rw [hv] at hy1
      exact (Value.int.inj (Option.some.inj hy1)).symm
    subst hy
    rw [hy2]
    exact lw_ret2 hx hb hrt hlk hlo hz1 hw1 hd
end LWJ
