section SF
variable {en : Nat → Nat} {D : va_G} {H0 : Heap} {p : Program} {l : Launch} {e : Env} {R : Room} {s : State} {m : MethodId} {args : Array Value} {below : List Frame} {meth : Method} {c : Code} {me : m_Me}
variable {z0 w0 d : Nat} {Z : State → Prop}
/-- what is asked of a call -/
def m_CS (en : Nat → Nat) (D : va_G) (H0 : Heap) (p : Program) (l : Launch) (e : Env) (R : Room) (s : State) (m : MethodId) (args : Array Value) (below : List Frame) (meth : Method) (c : Code) (me : m_Me) (z0 w0 d : Nat) (Z : State → Prop) : Prop :=
  ∀ (pc : Nat) (la : Array Slot) (ls : m_L) (st : List Value) (s0 : m_S) (H : Heap) (locs : List Loc) (i : Instr) (len : Nat) (m' : m_Me) (as st' : List Value) (v2 : Option Value) (s2 : m_S), m_rel D H0 s s0 H → (∀ q ∈ locs, H0.size ≤ q.base) → m_lr la ls → ls.length = me.2.2.2.1 → decode me.2.2.1 pc = .ok (i, len) → m_lok i len = true → z0 ≤ s0.2.2.2.2.1 → w0 ≤ s0.2.2.2.2.2 →
    m_st en me i pc ls st s0 = some (.inr (.inr (m', as, st'))) → m_call en d m' as s0 (fun v t => v = v2 ∧ t = s2) → s2.2.2.2.2.1 - z0 ≤ R.cells ∧ s2.2.2.2.2.2 - w0 ≤ R.slots → m_K1 D H0 p l e R s m args below meth c z0 w0 Z (pc + 3) ls (v2.toList ++ st') s2 → W p l e R s m args below meth c H locs (s0.2.2.2.2.1 - z0) (s0.2.2.2.2.2 - w0) Z (F0 m pc la st)
theorem m_simW (hj : m_jdk en D H0 l) (cx : m_cx en D H0 p R s m args meth c me) {v1 : Option Value} {s1 : m_S} (hfit : s1.2.2.2.2.1 - z0 ≤ R.cells ∧ s1.2.2.2.2.2 - w0 ≤ R.slots) (hcall : m_CS en D H0 p l e R s m args below meth c me z0 w0 d Z)
    (hret : ∀ (pc : Nat) (la : Array Slot) (ls : m_L) (st : List Value) (H : Heap) (locs : List Loc) (i : Instr) (len : Nat), decode me.2.2.1 pc = .ok (i, len) → m_lok i len = true → m_st en me i pc ls st s1 = some (.inr (.inl v1)) → m_rel D H0 s s1 H → (∀ q ∈ locs, H0.size ≤ q.base) → W p l e R s m args below meth c H locs (s1.2.2.2.2.1 - z0) (s1.2.2.2.2.2 - w0) Z (F0 m pc la st)) :
    ∀ (n pc : Nat) (ls : m_L) (st : List Value) (s0 : m_S), m_run en (m_call en d) me (fun v t => v = v1 ∧ t = s1) n pc ls st s0 → ls.length = me.2.2.2.1 → z0 ≤ s0.2.2.2.2.1 → w0 ≤ s0.2.2.2.2.2 → m_K1 D H0 p l e R s m args below meth c z0 w0 Z pc ls st s0 := by
  intro n
  induction n with
  | zero => intro pc ls st s0 h; exact h.elim
  | succ n ih =>
    intro pc ls st s0 h hln hz hw la H locs hla hr hlo
    have hle := m_run_le (m_call_sz d) (m_call_one d) _ _ _ _ _ h
    obtain ⟨i, len, hd, hk, r, hst, h⟩ := h
    match r, hst, h with
    | .inl (pc', ls', st', s'), hst, h =>
      have hle2 := m_run_le (m_call_sz d) (m_call_one d) _ _ _ _ _ h
      have h3 := m_st_le hst
      exact m_s_next hj cx hr hlo hla hln hd hk hz hw hst (by dsimp only at hle2 ⊢; omega) (by omega) (ih _ _ _ _ h (h3.1.trans hln) (Nat.le_trans hz h3.2.1) (Nat.le_trans hw h3.2.2))
    | .inr (.inl v), hst, h =>
      obtain ⟨rfl, rfl⟩ := h
      exact hret pc la ls st H locs i len hd hk hst hr hlo
    | .inr (.inr (m', as, st')), hst, h =>
      obtain ⟨v2, s2, h2, hc⟩ := m_call_one _ _ _ _ _ h
      have hle2 := m_run_le (m_call_sz d) (m_call_one d) _ _ _ _ _ h2
      have hle3 := m_call_sz _ _ _ _ _ _ hc
      exact hcall pc la ls st s0 H locs i len m' as st' v2 s2 hr hlo hla hln hd hk hz hw hst hc (by omega) (ih _ _ _ _ h2 hln (by omega) (by omega))
end SF
theorem m_lgsl : ∀ (vs : List Value), (∀ a ∈ vs, a.category = 1) → lg_sl vs = vs.map Slot.val
  | [], _ => rfl
  | v :: vs, h => by
    have h1 : v.category = 1 := h v List.mem_cons_self
    have h2 := m_lgsl vs (fun a ha => h a (List.mem_cons_of_mem _ ha))
    unfold lg_sl at h2 ⊢
    rw [List.flatMap_cons, h2, if_neg (by omega)]
    rfl
theorem m_lrent {as : List Value} {me : m_Me} (hc : ∀ a ∈ as, a.category = 1) (hl : as.length ≤ me.2.2.2.1) : m_lr (lg_sl as ++ List.replicate (me.2.2.2.1 - (lg_sl as).length) Slot.unset).toArray (m_ent me as) ∧ (m_ent me as).length = me.2.2.2.1 := by
  have hln : (m_ent me as).length = me.2.2.2.1 := by simp [m_ent]; omega
  have hsl := m_lgsl as hc
  have hle : (lg_sl as).length ≤ me.2.2.2.1 := by rw [hsl, List.length_map]; exact hl
  have he := lv_entry as (n := me.2.2.2.1) hle
  have key : ∀ (i : Nat) (v : Value), (m_ent me as)[i]? = some (some v) → as[i]? = some v := by
    intro i v h
    unfold m_ent at h
    by_cases hi : i < as.length
    · rw [List.getElem?_append_left (by simpa using hi), List.getElem?_map] at h
      cases ha : as[i]? with
      | none => rw [ha] at h; cases h
      | some a => rw [ha] at h; cases h; rfl
    · rw [List.getElem?_append_right (by simpa using hi), List.getElem?_replicate] at h
      split at h <;> cases h
  refine ⟨⟨⟨by rw [hln]; exact he.1, he.2.1, fun q hq => ?_⟩, fun i v h => hc v (List.mem_of_getElem? (key i v h))⟩, hln⟩
  obtain ⟨i, v⟩ := q
  have ha := key i v (m_pl_mem.mp hq)
  have hi := (List.getElem?_eq_some_iff.mp ha).1
  rw [hsl]
  simp only [List.getElem?_toArray]
  rw [List.getElem?_append_left (by simpa using hi), List.getElem?_map, ha]
  rfl
/-- every call of the small machine is one of the JVM's -/
theorem m_sim_all {l : Launch} {en : Nat → Nat} {D : va_G} {H0 : Heap} (hj : m_jdk en D H0 l) (h20 : ∀ c, c < 13 → ∀ x n m2, ¬ m_C c x = some (20, m2, n)) : ∀ d, m_sim l en D H0 d := by
  intro d
  induction d with
  | zero => intro me as s0 s1 v1 _ _ h; exact h.elim
  | succ d ih =>
    intro me as s0 s1 v1 hM hcat h
    have hsl := m_call_sz _ _ _ _ _ _ h
    unfold m_call at h
    have hM0 := hM
    obtain ⟨g1, g2, g3, g4, g5, g6, g7⟩ := hM
    rw [if_neg (fun q => by have := q.2; omega)] at h
    obtain ⟨hl, n, h⟩ := h
    refine Met.ofW (cc := me.2.2.1) (maxL := me.2.2.2.1) (ret := me.2.2.2.2) g4 rfl ?_
    intro p e s m args below meth c s₁ B hml hv
    obtain ⟨rfl, hrel, hkn⟩ := hv
    have hts0 := atoms_spec (ws := m_ws me) B.pre
    have hts : ∀ w ∈ m_gw, w.before as.toArray s = true := fun w hw => hts0 w (List.mem_cons_of_mem _ hw)
    have hown : s.vm.findClass (m_cn me.1) = some m.cls := by rw [← g2]; exact findClass_of_methodNamed B.named
    have hname : meth.name = me.2.1.name := (name_of_methodNamed B.named B.method).1
    have hlocks := B.notSynchronized
    have hr := B.returns
    have cx : m_cx en D H0 p (m_rm (d + 1) (s1.2.2.2.2.1 - s0.2.2.2.2.1) (s1.2.2.2.2.2 - s0.2.2.2.2.2)) s m as.toArray meth c me := ⟨B.exec, B.bytes, hml, hown, hname, hr, hlocks, hts, hkn, by simp only [m_rm]; omega, by simp only [m_rm]; omega⟩
    obtain ⟨hlr, hln⟩ := m_lrent hcat hl
    rw [lg_entry_eq]
    have key := m_simW (l := l) (e := e) (below := below) (z0 := s0.2.2.2.2.1) (w0 := s0.2.2.2.2.2) (d := d) (Z := MQ below (m_Qc D H0 v1 s1) as.toArray s (s1.2.2.2.2.1 - s0.2.2.2.2.1) (s1.2.2.2.2.2 - s0.2.2.2.2.2) (fun q => H0.size ≤ q)) hj cx (v1 := v1) (s1 := s1) ⟨Nat.le_refl _, Nat.le_refl _⟩ ?_ ?_ n 0 _ [] s0 h hln (Nat.le_refl _) (Nat.le_refl _) _ s.heap [] hlr hrel (fun q hq => by cases hq)
    · rw [Nat.sub_self, Nat.sub_self] at key
      exact key
    · intro pc la ls st s' H locs i len m' as' st' v2 s2 a1 a2 a3 a4 a5 a6 a7 a8 a9 a10 a11 a12
      exact m_s_call ih cx ⟨by simp only [m_rm]; omega, by simp only [m_rm]; omega⟩ a1 a2 a3 a4 a5 a6 a7 a8 a9 (h20 _ g1) a10 a11 a12
    · intro pc la ls st H locs i len hd hlk hst hrl hlo
      have hq : ∀ (v : Option Value), v = v1 → ∀ t : State, t.heap = H → s.WarmedH t.vm → m_Qc D H0 v1 s1 as.toArray s (.returned v) t := fun v hv t ht hW => ⟨by rw [hv], by rw [ht]; exact hrl.moved hW.alike⟩
      unfold m_st at hst
      split at hst <;> try (simp only [m_nx, m_go, m_ldi, m_lda, m_sti, m_sta, m_b2, m_b1, m_gf, m_pf, m_al, m_as, m_bi, m_inv] at hst; repeat' (split at hst)) <;> try (cases hst; done)
      · obtain rfl : len = 1 := by simpa [m_lok] using hlk
        split at hst
        · rename_i x hrt
          cases hst
          exact W.iret B.exec B.bytes (hr.trans hrt) (hq _ rfl) hlo hd hlocks
        · rename_i x hrt
          split at hst
          · rename_i hx01
            cases hst
            exact W.zret B.exec B.bytes (hr.trans hrt) (by rcases hx01 with rfl | rfl <;> rfl) (hq _ rfl) hlo hd hlocks
          · cases hst
        · cases hst
      · obtain rfl : len = 1 := by simpa [m_lok] using hlk
        split at hst
        · rename_i a nm hrt
          cases hst
          exact W.aret B.exec B.bytes (hr.trans hrt) (Or.inl ⟨_, rfl⟩) (Or.inr ⟨_, rfl⟩) (hq _ rfl) hlo hd hlocks
        · cases hst
      · obtain rfl : len = 1 := by simpa [m_lok] using hlk
        split at hst
        · rename_i hrt
          cases hst
          exact W.vret B.exec B.bytes (hr.trans hrt) (hq _ rfl) hlo hd hlocks
        · cases hst
      · cases hst
