/-! laws of the small machine -/
theorem m_run_mono {en : Nat → Nat} {C C' : m_Cl} {me : m_Me} {Q Q' : m_Q} (hC : ∀ (m : m_Me) (as : List Value) (s : m_S) (q q' : m_Q), (∀ v t, q v t → q' v t) → C m as s q → C' m as s q') (hQ : ∀ v t, Q v t → Q' v t) :
    ∀ (n k : Nat), n ≤ k → ∀ (pc : Nat) (ls : m_L) (st : List Value) (s : m_S), m_run en C me Q n pc ls st s → m_run en C' me Q' k pc ls st s := by
  intro n
  induction n with
  | zero => intro k _ pc ls st s h; exact h.elim
  | succ n ih =>
    intro k hk pc ls st s h
    obtain ⟨k, rfl⟩ : ∃ j, k = j + 1 := ⟨k - 1, by omega⟩
    obtain ⟨i, len, hd, hk2, r, hr, h⟩ := h
    refine ⟨i, len, hd, hk2, r, hr, ?_⟩
    match r, h with
    | .inl (pc', ls', st', s'), h => exact ih k (by omega) _ _ _ _ h
    | .inr (.inl v), h => exact hQ v s h
    | .inr (.inr (m', as, st')), h => exact hC _ _ _ _ _ (fun v t q => ih k (by omega) _ _ _ _ q) h
theorem m_call_mono {en : Nat → Nat} : ∀ (d : Nat) (me : m_Me) (as : List Value) (s : m_S) (Q Q' : m_Q), (∀ v t, Q v t → Q' v t) → m_call en d me as s Q → m_call en d me as s Q' := by
  intro d
  induction d with
  | zero => intro me as s Q Q' _ h; exact h.elim
  | succ d ih =>
    intro me as s Q Q' hQ h
    unfold m_call at h ⊢
    split at h
    · rename_i hn
      rw [if_pos hn]
      obtain ⟨x, p, o, n, h1, h2, h3, h4, h5⟩ := h
      refine ⟨x, p, o, n, h1, h2, h3, h4, ?_⟩
      split at h5
      · rename_i hp; rw [if_pos hp]; exact hQ _ _ h5
      · rename_i hp
        rw [if_neg hp]
        split at h5
        · rename_i hp2; rw [if_pos hp2]; exact hQ _ _ h5
        · rename_i hp2
          rw [if_neg hp2]
          exact ih _ _ _ _ _ (fun v t ⟨y, e, q⟩ => ⟨y, e, hQ _ _ q⟩) h5
    · rename_i hn
      rw [if_neg hn]
      obtain ⟨hl, n, h⟩ := h
      exact ⟨hl, n, m_run_mono (fun m a s q q' w z => ih m a s q q' w z) hQ n n (Nat.le_refl n) _ _ _ _ h⟩
/-- a run has one end -/
theorem m_run_one {en : Nat → Nat} {C : m_Cl} {me : m_Me} {Q : m_Q} (hC : ∀ (m : m_Me) (as : List Value) (s : m_S) (q : m_Q), C m as s q → ∃ v t, q v t ∧ C m as s (fun v' t' => v' = v ∧ t' = t))
    (hM : ∀ (m : m_Me) (as : List Value) (s : m_S) (q q' : m_Q), (∀ v t, q v t → q' v t) → C m as s q → C m as s q') :
    ∀ (n : Nat) (pc : Nat) (ls : m_L) (st : List Value) (s : m_S), m_run en C me Q n pc ls st s → ∃ v t, Q v t ∧ m_run en C me (fun v' t' => v' = v ∧ t' = t) n pc ls st s := by
  intro n
  induction n with
  | zero => intro pc ls st s h; exact h.elim
  | succ n ih =>
    intro pc ls st s h
    obtain ⟨i, len, hd, hk2, r, hr, h⟩ := h
    match r, hr, h with
    | .inl (pc', ls', st', s'), hr, h =>
      obtain ⟨v, t, hq, h2⟩ := ih _ _ _ _ h
      exact ⟨v, t, hq, i, len, hd, hk2, _, hr, h2⟩
    | .inr (.inl v), hr, h => exact ⟨v, s, h, i, len, hd, hk2, _, hr, rfl, rfl⟩
    | .inr (.inr (m', as, st')), hr, h =>
      obtain ⟨v1, t1, h1, h2⟩ := hC _ _ _ _ h
      obtain ⟨v, t, hq, h3⟩ := ih _ _ _ _ h1
      exact ⟨v, t, hq, i, len, hd, hk2, _, hr, hM _ _ _ _ _ (fun v' t' e => by rw [e.1, e.2]; exact h3) h2⟩
theorem m_call_one {en : Nat → Nat} : ∀ (d : Nat) (me : m_Me) (as : List Value) (s : m_S) (Q : m_Q), m_call en d me as s Q → ∃ v t, Q v t ∧ m_call en d me as s (fun v' t' => v' = v ∧ t' = t) := by
  intro d
  induction d with
  | zero => intro me as s Q h; exact h.elim
  | succ d ih =>
    intro me as s Q h
    unfold m_call at h ⊢
    split at h
    · rename_i hn
      obtain ⟨x, p, o, n, h1, h2, h3, h4, h5⟩ := h
      split at h5
      · rename_i hp
        refine ⟨_, _, h5, ?_⟩
        rw [if_pos hn]
        refine ⟨x, p, o, n, h1, h2, h3, h4, ?_⟩
        rw [if_pos hp]
        exact ⟨rfl, rfl⟩
      · rename_i hp
        split at h5
        · rename_i hp2
          refine ⟨_, _, h5, ?_⟩
          rw [if_pos hn]
          refine ⟨x, p, o, n, h1, h2, h3, h4, ?_⟩
          rw [if_neg hp, if_pos hp2]
          exact ⟨rfl, rfl⟩
        · rename_i hp2
          obtain ⟨v, t, ⟨y, e, hq⟩, h6⟩ := ih _ _ _ _ h5
          refine ⟨_, _, hq, ?_⟩
          rw [if_pos hn]
          refine ⟨x, p, o, n, h1, h2, h3, h4, ?_⟩
          rw [if_neg hp, if_neg hp2]
          exact m_call_mono _ _ _ _ _ _ (fun v' t' ⟨e1, e2⟩ => ⟨y, e1.trans e, rfl, by rw [e2]⟩) h6
    · rename_i hn
      obtain ⟨hl, n, h⟩ := h
      obtain ⟨v, t, hq, h2⟩ := m_run_one (fun m a s q w => ih m a s q w) (m_call_mono d) n _ _ _ _ h
      refine ⟨v, t, hq, ?_⟩
      rw [if_neg hn]
      exact ⟨hl, n, h2⟩
theorem m_call_up {en : Nat → Nat} : ∀ (d : Nat) (me : m_Me) (as : List Value) (s : m_S) (Q : m_Q), m_call en d me as s Q → m_call en (d + 1) me as s Q := by
  intro d
  induction d with
  | zero => intro me as s Q h; exact h.elim
  | succ d ih =>
    intro me as s Q h
    unfold m_call at h ⊢
    split at h
    · rename_i hn
      rw [if_pos hn]
      obtain ⟨x, p, o, n, h1, h2, h3, h4, h5⟩ := h
      refine ⟨x, p, o, n, h1, h2, h3, h4, ?_⟩
      split at h5
      · rename_i hp; rw [if_pos hp]; exact h5
      · rename_i hp
        rw [if_neg hp]
        split at h5
        · rename_i hp2; rw [if_pos hp2]; exact h5
        · rename_i hp2; rw [if_neg hp2]; exact ih _ _ _ _ h5
    · rename_i hn
      rw [if_neg hn]
      obtain ⟨hl, n, h⟩ := h
      exact ⟨hl, n, m_run_mono (fun m a s q q' w z => ih _ _ _ _ (m_call_mono d m a s q q' w z)) (fun _ _ h => h) n n (Nat.le_refl n) _ _ _ _ h⟩
theorem m_call_le {en : Nat → Nat} {d k : Nat} (h : d ≤ k) {me : m_Me} {as : List Value} {s : m_S} {Q : m_Q} (hc : m_call en d me as s Q) : m_call en k me as s Q := by
  induction h with
  | refl => exact hc
  | step _ ih => exact m_call_up _ _ _ _ _ ih
section MR
variable {en : Nat → Nat} {d : Nat} {me : m_Me} {pc : Nat} {ls : m_L} {st : List Value} {s : m_S} {Q : m_Q}
theorem m_next {i : Instr} {len : Nat} (hd : decode me.2.2.1 pc = .ok (i, len)) {pc' : Nat} {ls' : m_L} {st' : List Value} {s' : m_S} (h : m_st en me i pc ls st s = some (.inl (pc', ls', st', s'))) (k : m_wp en d me pc' ls' st' s' Q) (hl : m_lok i len = true := by rfl) : m_wp en d me pc ls st s Q := by
  obtain ⟨n, k⟩ := k
  exact ⟨n + 1, i, len, hd, hl, _, h, k⟩
theorem m_end {i : Instr} {len : Nat} (hd : decode me.2.2.1 pc = .ok (i, len)) {v : Option Value} (h : m_st en me i pc ls st s = some (.inr (.inl v))) (k : Q v s) (hl : m_lok i len = true := by rfl) : m_wp en d me pc ls st s Q := ⟨1, i, len, hd, hl, _, h, k⟩
theorem m_do {i : Instr} {len : Nat} (hd : decode me.2.2.1 pc = .ok (i, len)) {m' : m_Me} {as st' : List Value} (h : m_st en me i pc ls st s = some (.inr (.inr (m', as, st')))) (k : m_call en d m' as s (fun v s' => m_wp en d me (pc + 3) ls (v.toList ++ st') s' Q)) (hl : m_lok i len = true := by rfl) : m_wp en d me pc ls st s Q := by
  obtain ⟨v, t, ⟨n, h1⟩, h2⟩ := m_call_one d _ _ _ _ k
  exact ⟨n + 1, i, len, hd, hl, _, h, m_call_mono _ _ _ _ _ _ (fun v' t' e => by rw [e.1, e.2]; exact h1) h2⟩
theorem m_wp_mono {Q' : m_Q} (hQ : ∀ v t, Q v t → Q' v t) (h : m_wp en d me pc ls st s Q) : m_wp en d me pc ls st s Q' := by
  obtain ⟨n, h⟩ := h
  exact ⟨n, m_run_mono (m_call_mono d) hQ n n (Nat.le_refl n) _ _ _ _ h⟩
theorem m_into {as : List Value} (hn : ¬ (me.2.1.name = "now" ∧ me.1 = 13)) (hl : as.length ≤ me.2.2.2.1) {ls : m_L} (he : m_ent me as = ls) (k : m_wp en d me 0 ls [] s Q) : m_call en (d + 1) me as s Q := by
  unfold m_call
  rw [if_neg hn]
  subst he
  exact ⟨hl, k⟩
end MR
/-! the heap's instructions; T what cells are, I ints, P references, L longs, z how many cells, w how many slots -/
section MH
variable {en : Nat → Nat} {d : Nat} {me : m_Me} {pc : Nat} {ls : m_L} {st : List Value} {T : Nat → Option (Nat × Nat)} {I : Nat → Nat → Int32} {P : Nat → Nat → Option Nat} {L : Nat → Nat → Int64} {z w : Nat} {Q : m_Q} {a c j x n : Nat}
def m_fx (k x : Nat) : Option (Nat × Nat × Nat) := match m_F k x with
  | some (c, j) => if j < m_W c then some (m_fk c j, c, j) else none
  | none => none
theorem m_fx_spec {k x f c j : Nat} (h : m_fx k x = some (f, c, j)) : m_F k x = some (c, j) ∧ j < m_W c ∧ m_fk c j = f := by
  unfold m_fx at h
  split at h
  · rename_i c' j' e
    split at h
    · rename_i hl
      cases h
      exact ⟨e, hl, rfl⟩
    · cases h
  · cases h
/-- an int, or a boolean, of an object -/
theorem m_getI {f : Nat} (hd : decode me.2.2.1 pc = .ok (.getfield x, 3)) (hf : m_fx me.1 x = some (f, c, j)) (h2 : f ≠ 2) (hT : T a = some (c, n))
    (k : m_wp en d me (pc + 3) ls (.int (I a j) :: st) (T, I, P, L, z, w) Q) : m_wp en d me pc ls (.ref a :: st) (T, I, P, L, z, w) Q := by
  obtain ⟨h1, hw, hk⟩ := m_fx_spec hf
  refine m_next hd ?_ k
  simp [m_st, h1, m_gf, hT, hw, hk, h2, m_nx]
theorem m_getR {r : Nat} (hd : decode me.2.2.1 pc = .ok (.getfield x, 3)) (hf : m_fx me.1 x = some (2, c, j)) (hT : T a = some (c, n)) (hP : P a j = some r)
    (k : m_wp en d me (pc + 3) ls (.ref r :: st) (T, I, P, L, z, w) Q) : m_wp en d me pc ls (.ref a :: st) (T, I, P, L, z, w) Q := by
  obtain ⟨h1, hw, hk⟩ := m_fx_spec hf
  refine m_next hd ?_ k
  simp [m_st, h1, m_gf, hT, hw, hk, hP, va_rf, m_nx]
theorem m_putI {v : Int32} (hd : decode me.2.2.1 pc = .ok (.putfield x, 3)) (hf : m_fx me.1 x = some (0, c, j)) (hT : T a = some (c, n)) (hB : en 0 ≤ a) (hF : (m_T c j).2.2.2 = false ∨ (me.2.1.name = "<init>" ∧ me.1 = c))
    (k : m_wp en d me (pc + 3) ls st (T, m_up I a j v, P, L, z, w) Q) : m_wp en d me pc ls (.int v :: .ref a :: st) (T, I, P, L, z, w) Q := by
  obtain ⟨h1, hw, hk⟩ := m_fx_spec hf
  refine m_next hd ?_ k
  simp only [m_st, h1, m_pf, hT]
  rw [if_pos ⟨⟨trivial, hw, hB⟩, hF⟩]
  simp [hk, m_nx]
theorem m_putZ {v : Int32} (hd : decode me.2.2.1 pc = .ok (.putfield x, 3)) (hf : m_fx me.1 x = some (1, c, j)) (hT : T a = some (c, n)) (hB : en 0 ≤ a) (hF : (m_T c j).2.2.2 = false ∨ (me.2.1.name = "<init>" ∧ me.1 = c)) (hv : v = 0 ∨ v = 1)
    (k : m_wp en d me (pc + 3) ls st (T, m_up I a j v, P, L, z, w) Q) : m_wp en d me pc ls (.int v :: .ref a :: st) (T, I, P, L, z, w) Q := by
  obtain ⟨h1, hw, hk⟩ := m_fx_spec hf
  refine m_next hd ?_ k
  simp only [m_st, h1, m_pf, hT]
  rw [if_pos ⟨⟨trivial, hw, hB⟩, hF⟩]
  simp [hk, m_nx, hv]
theorem m_putR {r : Nat} (hd : decode me.2.2.1 pc = .ok (.putfield x, 3)) (hf : m_fx me.1 x = some (2, c, j)) (hT : T a = some (c, n)) (hB : en 0 ≤ a) (hF : (m_T c j).2.2.2 = false ∨ (me.2.1.name = "<init>" ∧ me.1 = c))
    (k : m_wp en d me (pc + 3) ls st (T, I, m_up P a j (some r), L, z, w) Q) : m_wp en d me pc ls (.ref r :: .ref a :: st) (T, I, P, L, z, w) Q := by
  obtain ⟨h1, hw, hk⟩ := m_fx_spec hf
  refine m_next hd ?_ k
  simp only [m_st, h1, m_pf, hT]
  rw [if_pos ⟨⟨trivial, hw, hB⟩, hF⟩]
  simp [hk, m_nx]
theorem m_iald {i : Int32} (hd : decode me.2.2.1 pc = .ok (.iaload, 1)) (hT : T a = some (20, n)) (h0 : 0 ≤ i.toInt) (h1 : i.toInt < n)
    (k : m_wp en d me (pc + 1) ls (.int (I a i.toNatClampNeg) :: st) (T, I, P, L, z, w) Q) : m_wp en d me pc ls (.int i :: .ref a :: st) (T, I, P, L, z, w) Q := by
  refine m_next hd ?_ k
  simp only [m_st, m_al, hT]
  rw [if_pos ⟨trivial, h0, h1⟩]
  rfl
theorem m_sald {i : Int32} (hd : decode me.2.2.1 pc = .ok (.saload, 1)) (hT : T a = some (23, n)) (h0 : 0 ≤ i.toInt) (h1 : i.toInt < n)
    (k : m_wp en d me (pc + 1) ls (.int (I a i.toNatClampNeg) :: st) (T, I, P, L, z, w) Q) : m_wp en d me pc ls (.int i :: .ref a :: st) (T, I, P, L, z, w) Q := by
  refine m_next hd ?_ k
  simp only [m_st, m_al, hT]
  rw [if_pos ⟨trivial, h0, h1⟩]
  rfl
theorem m_bald {i : Int32} {t : Nat} (hd : decode me.2.2.1 pc = .ok (.baload, 1)) (hT : T a = some (t, n)) (ht : t = 21 ∨ t = 22) (h0 : 0 ≤ i.toInt) (h1 : i.toInt < n)
    (k : m_wp en d me (pc + 1) ls (.int (I a i.toNatClampNeg) :: st) (T, I, P, L, z, w) Q) : m_wp en d me pc ls (.int i :: .ref a :: st) (T, I, P, L, z, w) Q := by
  refine m_next hd ?_ k
  simp only [m_st, hT]
  rw [if_pos ⟨ht, h0, h1⟩]
  rfl
theorem m_iast {i v : Int32} (hd : decode me.2.2.1 pc = .ok (.iastore, 1)) (hT : T a = some (20, n)) (h0 : 0 ≤ i.toInt) (h1 : i.toInt < n) (hB : en 0 ≤ a)
    (k : m_wp en d me (pc + 1) ls st (T, m_up I a i.toNatClampNeg v, P, L, z, w) Q) : m_wp en d me pc ls (.int v :: .int i :: .ref a :: st) (T, I, P, L, z, w) Q := by
  refine m_next hd ?_ k
  simp only [m_st, m_as, hT]
  rw [if_pos ⟨trivial, h0, h1, hB⟩]
  rfl
theorem m_sast {i v : Int32} (hd : decode me.2.2.1 pc = .ok (.sastore, 1)) (hT : T a = some (23, n)) (h0 : 0 ≤ i.toInt) (h1 : i.toInt < n) (hB : en 0 ≤ a)
    (k : m_wp en d me (pc + 1) ls st (T, m_up I a i.toNatClampNeg v.toInt16.toInt32, P, L, z, w) Q) : m_wp en d me pc ls (.int v :: .int i :: .ref a :: st) (T, I, P, L, z, w) Q := by
  refine m_next hd ?_ k
  simp only [m_st, m_as, hT]
  rw [if_pos ⟨trivial, h0, h1, hB⟩]
  rfl
theorem m_bast {i v : Int32} (hd : decode me.2.2.1 pc = .ok (.bastore, 1)) (hT : T a = some (21, n)) (h0 : 0 ≤ i.toInt) (h1 : i.toInt < n) (hB : en 0 ≤ a)
    (k : m_wp en d me (pc + 1) ls st (T, m_up I a i.toNatClampNeg v.toInt8.toInt32, P, L, z, w) Q) : m_wp en d me pc ls (.int v :: .int i :: .ref a :: st) (T, I, P, L, z, w) Q := by
  refine m_next hd ?_ k
  simp only [m_st, hT]
  rw [if_pos ⟨by first | exact Or.inl trivial | trivial | simp, h0, h1, hB⟩]
  first | rfl | simp [m_nx]
theorem m_zast {i v : Int32} (hd : decode me.2.2.1 pc = .ok (.bastore, 1)) (hT : T a = some (22, n)) (h0 : 0 ≤ i.toInt) (h1 : i.toInt < n) (hB : en 0 ≤ a) (hv : v = 0 ∨ v = 1)
    (k : m_wp en d me (pc + 1) ls st (T, m_up I a i.toNatClampNeg v, P, L, z, w) Q) : m_wp en d me pc ls (.int v :: .int i :: .ref a :: st) (T, I, P, L, z, w) Q := by
  refine m_next hd ?_ k
  simp only [m_st, hT]
  rw [if_pos ⟨by first | exact Or.inr ⟨trivial, hv⟩ | exact hv | simp [hv], h0, h1, hB⟩]
  first | rfl | simp [m_nx]
theorem m_alen {t : Nat} (hd : decode me.2.2.1 pc = .ok (.arraylength, 1)) (hT : T a = some (t, n)) (ht : 20 ≤ t)
    (k : m_wp en d me (pc + 1) ls (.int (Int32.ofNat n) :: st) (T, I, P, L, z, w) Q) : m_wp en d me pc ls (.ref a :: st) (T, I, P, L, z, w) Q := by
  refine m_next hd ?_ k
  simp only [m_st, hT]
  rw [if_pos ht]
  rfl
end MH
section MB
variable {en : Nat → Nat} {d : Nat} {me : m_Me} {pc tgt : Nat} {ls : m_L} {st : List Value} {s : m_S} {Q : m_Q} {off : Int} {x y : Int32}
theorem m_goto (hd : decode me.2.2.1 pc = .ok (.goto off, 3)) (ht : (pc : Int) + off = (tgt : Int)) (k : m_wp en d me tgt ls st s Q) : m_wp en d me pc ls st s Q := by
  refine m_next hd ?_ k
  simp only [m_st, m_go, ht]
  rw [if_pos (by omega)]
  rfl
theorem m_ic {c : ClassFile.Cond} (hd : decode me.2.2.1 pc = .ok (.if_icmp c off, 3)) (ht : (pc : Int) + off = (tgt : Int)) (kt : m_cmp c x y = true → m_wp en d me tgt ls st s Q) (kf : m_cmp c x y = false → m_wp en d me (pc + 3) ls st s Q) : m_wp en d me pc ls (.int y :: .int x :: st) s Q := by
  by_cases h : m_cmp c x y = true
  · refine m_next hd ?_ (kt h)
    simp only [m_st, ht]
    rw [if_pos (by omega), if_pos h]
    rfl
  · refine m_next hd ?_ (kf (by simpa using h))
    simp only [m_st, ht]
    rw [if_pos (by omega), if_neg h]
    rfl
theorem m_if {c : ClassFile.Cond} (hd : decode me.2.2.1 pc = .ok (.ifCond c off, 3)) (ht : (pc : Int) + off = (tgt : Int)) (kt : m_cmp c x 0 = true → m_wp en d me tgt ls st s Q) (kf : m_cmp c x 0 = false → m_wp en d me (pc + 3) ls st s Q) : m_wp en d me pc ls (.int x :: st) s Q := by
  by_cases h : m_cmp c x 0 = true
  · refine m_next hd ?_ (kt h)
    simp only [m_st, ht]
    rw [if_pos (by omega), if_pos h]
    rfl
  · refine m_next hd ?_ (kf (by simpa using h))
    simp only [m_st, ht]
    rw [if_pos (by omega), if_neg h]
    rfl
end MB
