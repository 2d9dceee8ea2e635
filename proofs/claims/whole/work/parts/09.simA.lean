/-! an instruction of the small machine is one of the JVM's -/
section SA
variable {en : Nat → Nat} {D : va_G} {H0 : Heap} {p : Program} {l : Launch} {e : Env} {R : Room} {s : State} {m : MethodId} {args : Array Value} {below : List Frame} {meth : Method} {c : Code} {me : m_Me}
variable {H : Heap} {locs : List Loc} {z0 w0 : Nat} {Z : State → Prop} {pc : Nat} {la : Array Slot} {ls : m_L} {st : List Value} {s0 : m_S}
/-- what comes next, for every frame and heap that the next state tells of -/
def m_K1 (D : va_G) (H0 : Heap) (p : Program) (l : Launch) (e : Env) (R : Room) (s : State) (m : MethodId) (args : Array Value) (below : List Frame) (meth : Method) (c : Code) (z0 w0 : Nat) (Z : State → Prop) (pc : Nat) (ls : m_L) (st : List Value) (s0 : m_S) : Prop :=
  ∀ (la : Array Slot) (H : Heap) (locs : List Loc), m_lr la ls → m_rel D H0 s s0 H → (∀ q ∈ locs, H0.size ≤ q.base) → W p l e R s m args below meth c H locs (s0.2.2.2.2.1 - z0) (s0.2.2.2.2.2 - w0) Z (F0 m pc la st)
theorem m_s_ldi (cx : m_cx en D H0 p R s m args meth c me) (hr : m_rel D H0 s s0 H) (hlo : ∀ q ∈ locs, H0.size ≤ q.base) (hla : m_lr la ls) {i k : Nat} (hd : decode me.2.2.1 pc = .ok (.iload i, 2) ∧ k = pc + 2 ∨ ∃ f : Fin 4, f.val = i ∧ decode me.2.2.1 pc = .ok (.iload_n f, 1) ∧ k = pc + 1)
    {q : Nat × m_L × List Value × m_S} (h : m_ldi ls i k st s0 = some (.inl q)) (kk : m_K1 D H0 p l e R s m args below meth c z0 w0 Z q.1 q.2.1 q.2.2.1 q.2.2.2) : W p l e R s m args below meth c H locs (s0.2.2.2.2.1 - z0) (s0.2.2.2.2.2 - w0) Z (F0 m pc la st) := by
  obtain ⟨hx, hb, -⟩ := cx
  unfold m_ldi at h
  split at h
  · rename_i x hv
    cases h
    rcases hd with ⟨hd, rfl⟩ | ⟨f, hf, hd, rfl⟩
    · exact lv_iload hx hb hd (hla.at hv) (kk _ _ _ hla hr hlo)
    · exact lv_iload_n hx hb hd hf (hla.at hv) (kk _ _ _ hla hr hlo)
  · cases h
theorem m_s_lda (cx : m_cx en D H0 p R s m args meth c me) (hr : m_rel D H0 s s0 H) (hlo : ∀ q ∈ locs, H0.size ≤ q.base) (hla : m_lr la ls) {i k : Nat} (hd : decode me.2.2.1 pc = .ok (.aload i, 2) ∧ k = pc + 2 ∨ ∃ f : Fin 4, f.val = i ∧ decode me.2.2.1 pc = .ok (.aload_n f, 1) ∧ k = pc + 1)
    {q : Nat × m_L × List Value × m_S} (h : m_lda ls i k st s0 = some (.inl q)) (kk : m_K1 D H0 p l e R s m args below meth c z0 w0 Z q.1 q.2.1 q.2.2.1 q.2.2.2) : W p l e R s m args below meth c H locs (s0.2.2.2.2.1 - z0) (s0.2.2.2.2.2 - w0) Z (F0 m pc la st) := by
  obtain ⟨hx, hb, -⟩ := cx
  unfold m_lda at h
  split at h
  · rename_i x hv
    cases h
    rcases hd with ⟨hd, rfl⟩ | ⟨f, hf, hd, rfl⟩
    · exact lv_aload hx hb hd (hla.at hv) (kk _ _ _ hla hr hlo)
    · exact lv_aload_n hx hb hd hf (hla.at hv) (kk _ _ _ hla hr hlo)
  · cases h
theorem m_s_sti (cx : m_cx en D H0 p R s m args meth c me) (hr : m_rel D H0 s s0 H) (hlo : ∀ q ∈ locs, H0.size ≤ q.base) (hla : m_lr la ls) {i k : Nat} (hd : decode me.2.2.1 pc = .ok (.istore i, 2) ∧ k = pc + 2 ∨ ∃ f : Fin 4, f.val = i ∧ decode me.2.2.1 pc = .ok (.istore_n f, 1) ∧ k = pc + 1)
    {q : Nat × m_L × List Value × m_S} (h : m_sti ls i k st s0 = some (.inl q)) (kk : m_K1 D H0 p l e R s m args below meth c z0 w0 Z q.1 q.2.1 q.2.2.1 q.2.2.2) : W p l e R s m args below meth c H locs (s0.2.2.2.2.1 - z0) (s0.2.2.2.2.2 - w0) Z (F0 m pc la st) := by
  obtain ⟨hx, hb, -⟩ := cx
  unfold m_sti at h
  split at h
  · rename_i x st2
    split at h
    · rename_i hi
      cases h
      rcases hd with ⟨hd, rfl⟩ | ⟨f, hf, hd, rfl⟩
      · exact lv_istore hx hb hd hla.1 hi rfl (fun la' h' => kk _ _ _ (hla.put hi rfl h') hr hlo)
      · exact lv_istore_n hx hb hd hf hla.1 hi rfl (fun la' h' => kk _ _ _ (hla.put hi rfl h') hr hlo)
    · cases h
  · cases h
theorem m_s_sta (cx : m_cx en D H0 p R s m args meth c me) (hr : m_rel D H0 s s0 H) (hlo : ∀ q ∈ locs, H0.size ≤ q.base) (hla : m_lr la ls) {i k : Nat} (hd : decode me.2.2.1 pc = .ok (.astore i, 2) ∧ k = pc + 2 ∨ ∃ f : Fin 4, f.val = i ∧ decode me.2.2.1 pc = .ok (.astore_n f, 1) ∧ k = pc + 1)
    {q : Nat × m_L × List Value × m_S} (h : m_sta ls i k st s0 = some (.inl q)) (kk : m_K1 D H0 p l e R s m args below meth c z0 w0 Z q.1 q.2.1 q.2.2.1 q.2.2.2) : W p l e R s m args below meth c H locs (s0.2.2.2.2.1 - z0) (s0.2.2.2.2.2 - w0) Z (F0 m pc la st) := by
  obtain ⟨hx, hb, -⟩ := cx
  unfold m_sta at h
  split at h
  · rename_i x st2
    split at h
    · rename_i hi
      cases h
      rcases hd with ⟨hd, rfl⟩ | ⟨f, hf, hd, rfl⟩
      · exact lv_astore hx hb hd hla.1 hi rfl (fun la' h' => kk _ _ _ (hla.put hi rfl h') hr hlo)
      · exact lv_astore_n hx hb hd hf hla.1 hi rfl (fun la' h' => kk _ _ _ (hla.put hi rfl h') hr hlo)
    · cases h
  · cases h
theorem m_s_go (cx : m_cx en D H0 p R s m args meth c me) (hr : m_rel D H0 s s0 H) (hlo : ∀ q ∈ locs, H0.size ≤ q.base) (hla : m_lr la ls) {off : Int} 
    {q : Nat × m_L × List Value × m_S} (h : m_go pc off ls st s0 = some (.inl q)) (kk : m_K1 D H0 p l e R s m args below meth c z0 w0 Z q.1 q.2.1 q.2.2.1 q.2.2.2) : ∃ tgt : Nat, (pc : Int) + off = (tgt : Int) ∧ W p l e R s m args below meth c H locs (s0.2.2.2.2.1 - z0) (s0.2.2.2.2.2 - w0) Z (F0 m tgt la st) := by
  unfold m_go at h
  split at h
  · rename_i hp
    cases h
    exact ⟨_, (Int.toNat_of_nonneg hp).symm, kk _ _ _ hla hr hlo⟩
  · cases h
/-- an array's cell -/
theorem m_rel.arr (hr : m_rel D H0 s s0 H) {a t n : Nat} (hT : s0.1 a = some (t, n)) (ht : 20 ≤ t) : ∃ (cell : Cell), H[a]? = some cell ∧ cell.vm ≠ .unknown ∧ s.isArrayOf cell (m_aty t) ∧ m_siz cell n ∧ (∀ j, j < n → cell.slots[j]? = some (m_av t (s0.2.1 a j) (s0.2.2.1 a j) (s0.2.2.2.1 a j))) := by
  rcases hr.2.2.2 a t n hT with ⟨g, -⟩ | ⟨-, -, cell, kA, comp, h1, h2, h3, h4, h5, -, h7, h8⟩
  · omega
  · exact ⟨cell, h1, h2, ⟨h3, kA, h4, comp, h5⟩, h7, h8⟩
theorem m_inx {i : Int32} {n : Nat} (h0 : 0 ≤ i.toInt) (h1 : i.toInt < n) : ¬ (i < 0 ∨ n ≤ i.toNatClampNeg) ∧ i.toNatClampNeg < n := by
  have h := vp_in_iff.mpr ⟨h0, h1⟩
  exact ⟨h, Nat.not_le.mp fun q => h (Or.inr q)⟩
theorem m_inz {cell : Cell} {n : Nat} {i : Int32} (h : m_siz cell n) (g : ¬ (i < 0 ∨ n ≤ i.toNatClampNeg)) : ¬ (i < 0 ∨ cell.slots.size ≤ i.toNatClampNeg) := fun q => g (q.imp id (fun q => Nat.le_trans h.1 q))
/-- an element of an array is written: what the heap holds then -/
theorem m_rel.aput (hr : m_rel D H0 s s0 H) {a t n k : Nat} (hT : s0.1 a = some (t, n)) (ht : 20 ≤ t) (hB : H0.size ≤ a) (hk : k < n) {cell : Cell} (hc : H[a]? = some cell) {v : Value} {H' : Heap} (e : H'[a]? = some (cell.setSlot k v)) (hz : H'.size = H.size) (ho : ∀ q, q ≠ a → H'[q]? = H[q]?)
    {s' : m_S} (ez : s'.2.2.2.2.1 = s0.2.2.2.2.1) (e1 : s'.1 = s0.1) (e2 : ∀ b, b ≠ a → s'.2.1 b = s0.2.1 b) (e3 : ∀ b, b ≠ a → s'.2.2.1 b = s0.2.2.1 b) (e4 : ∀ b, b ≠ a → s'.2.2.2.1 b = s0.2.2.2.1 b)
    (hv : ∀ j, j < n → m_av t (s'.2.1 a j) (s'.2.2.1 a j) (s'.2.2.2.1 a j) = if j = k then v else m_av t (s0.2.1 a j) (s0.2.2.1 a j) (s0.2.2.2.1 a j)) : m_rel D H0 s s' H' := by
  refine hr.put hB hz ho ez (fun b _ => by rw [e1]) e2 e3 e4 (fun t' n' hT' => ?_)
  rw [e1, hT] at hT'
  cases hT'
  rcases hr.2.2.2 a t n hT with ⟨g, -⟩ | ⟨g1, g2, cell', kA, comp, h1, h2, h3, h4, h5, h6, h7, h8⟩
  · omega
  · cases hc.symm.trans h1
    refine Or.inr ⟨g1, g2, cell.setSlot k v, kA, comp, e, h2, h3, h4, h5, h6, ?_, fun j hj => ?_⟩
    · have e7 : (cell.setSlot k v).slots.size = cell.slots.size := by simp [Cell.setSlot]
      unfold m_siz
      rw [e7]
      exact h7
    · refine Eq.trans ?_ (congrArg some (hv j hj).symm)
      by_cases ej : j = k
      · subst ej
        rw [if_pos rfl]
        have hjs : j < cell.slots.size := Nat.lt_of_lt_of_le hj h7.1
        simp [Cell.setSlot, hjs]
      · rw [if_neg ej]
        exact (slot_ne cell v (fun q => ej q.symm)).trans (h8 j hj)
theorem m_s_al (cx : m_cx en D H0 p R s m args meth c me) (hr : m_rel D H0 s s0 H) (hlo : ∀ q ∈ locs, H0.size ≤ q.base) (hla : m_lr la ls) {k : Nat} (hk : k = 20 ∧ decode me.2.2.1 pc = .ok (.iaload, 1) ∨ k = 23 ∧ decode me.2.2.1 pc = .ok (.saload, 1))
    {q : Nat × m_L × List Value × m_S} (h : m_al k pc ls st s0 = some (.inl q)) (kk : m_K1 D H0 p l e R s m args below meth c z0 w0 Z q.1 q.2.1 q.2.2.1 q.2.2.2) : W p l e R s m args below meth c H locs (s0.2.2.2.2.1 - z0) (s0.2.2.2.2.2 - w0) Z (F0 m pc la st) := by
  obtain ⟨hx, hb, -⟩ := cx
  unfold m_al at h
  split at h
  · rename_i i a st2
    split at h
    · rename_i t n hT
      split at h
      · rename_i hc
        obtain ⟨rfl, h0, h1⟩ := hc
        cases h
        obtain ⟨g1, g2⟩ := m_inx h0 h1
        rcases hk with ⟨rfl, hd⟩ | ⟨rfl, hd⟩
        · obtain ⟨cell, q1, q2, q3, q4, q5⟩ := hr.arr hT (by omega)
          exact W.iald hx hb q1 q3 q2 (m_inz q4 g1) (q5 _ g2) rfl rfl hd (kk _ _ _ hla hr hlo)
        · obtain ⟨cell, q1, q2, q3, q4, q5⟩ := hr.arr hT (by omega)
          exact W.sald hx hb q1 q3 q2 (m_inz q4 g1) (q5 _ g2) rfl rfl hd (kk _ _ _ hla hr hlo)
      · cases h
    · cases h
  · cases h
theorem m_locs {a k : Nat} (hlo : ∀ q ∈ locs, H0.size ≤ q.base) (hB : H0.size ≤ a) : ∀ q ∈ locs ++ [(⟨a, k⟩ : Loc)], H0.size ≤ q.base := by
  intro q hq
  rcases List.mem_append.mp hq with h | h
  · exact hlo q h
  · rw [List.mem_singleton.mp h]; exact hB
theorem m_s_as (cx : m_cx en D H0 p R s m args meth c me) (hr : m_rel D H0 s s0 H) (hlo : ∀ q ∈ locs, H0.size ≤ q.base) (hla : m_lr la ls) {k : Nat} {f : Int32 → Int32} (hk : (k = 20 ∧ f = fun x => x) ∧ decode me.2.2.1 pc = .ok (.iastore, 1) ∨ (k = 23 ∧ f = fun x => x.toInt16.toInt32) ∧ decode me.2.2.1 pc = .ok (.sastore, 1))
    {q : Nat × m_L × List Value × m_S} (h : m_as en k f pc ls st s0 = some (.inl q)) (kk : m_K1 D H0 p l e R s m args below meth c z0 w0 Z q.1 q.2.1 q.2.2.1 q.2.2.2) : W p l e R s m args below meth c H locs (s0.2.2.2.2.1 - z0) (s0.2.2.2.2.2 - w0) Z (F0 m pc la st) := by
  obtain ⟨hx, hb, -, -, -, -, -, -, hkn, -⟩ := cx
  have hB0 : en 0 = H0.size := hkn.2.2.2.2.2.1
  unfold m_as at h
  split at h
  · rename_i x i a st2
    split at h
    · rename_i t n hT
      split at h
      · rename_i hc
        obtain ⟨rfl, h0, h1, hB⟩ := hc
        rw [hB0] at hB
        cases h
        obtain ⟨g1, g2⟩ := m_inx h0 h1
        rcases hk with ⟨⟨rfl, rfl⟩, hd⟩ | ⟨⟨rfl, rfl⟩, hd⟩
        · obtain ⟨cell, q1, q2, q3, q4, q5⟩ := hr.arr hT (by omega)
          refine W.iast hx hb q1 q3 q2 (m_inz q4 g1) rfl rfl hd fun H' e1 e2 e3 => kk _ _ _ hla ?_ (m_locs hlo hB)
          refine hr.aput hT (by omega) hB g2 q1 e1 e2 e3 rfl rfl (fun b hb => m_up_ne hb) (fun _ _ => rfl) (fun _ _ => rfl) (fun j hj => ?_)
          by_cases ej : j = i.toNatClampNeg <;> simp [m_av, m_up, ej]
        · obtain ⟨cell, q1, q2, q3, q4, q5⟩ := hr.arr hT (by omega)
          refine W.sast hx hb q1 q3 q2 (m_inz q4 g1) rfl rfl hd fun H' e1 e2 e3 => kk _ _ _ hla ?_ (m_locs hlo hB)
          rw [narrow_short] at e1
          refine hr.aput hT (by omega) hB g2 q1 e1 e2 e3 rfl rfl (fun b hb => m_up_ne hb) (fun _ _ => rfl) (fun _ _ => rfl) (fun j hj => ?_)
          by_cases ej : j = i.toNatClampNeg <;> simp [m_av, m_up, ej]
      · cases h
    · cases h
  · cases h
/-- a field of an object is read -/
theorem m_s_gf (cx : m_cx en D H0 p R s m args meth c me) (hr : m_rel D H0 s s0 H) (hlo : ∀ q ∈ locs, H0.size ≤ q.base) (hla : m_lr la ls) {x ci j a : Nat} (hF : m_F me.1 x = some (ci, j)) (hd : decode me.2.2.1 pc = .ok (.getfield x, 3))
    {q : Nat × m_L × List Value × m_S} (h : m_gf ci j a (pc + 3) ls st s0 = some (.inl q)) (kk : m_K1 D H0 p l e R s m args below meth c z0 w0 Z q.1 q.2.1 q.2.2.1 q.2.2.2) : W p l e R s m args below meth c H locs (s0.2.2.2.2.1 - z0) (s0.2.2.2.2.2 - w0) Z (F0 m pc la (.ref a :: st)) := by
  obtain ⟨hx, hb, -, hown, -, -, -, hts, hkn, -⟩ := cx
  obtain ⟨hci, hj, hw⟩ := m_F_ok hF
  obtain ⟨l1, l2, l3, l4, l5, l6, l7, l8⟩ := m_L_ok hci
  unfold m_gf at h
  split at h
  · rename_i t n hT
    split at h
    · rename_i hc
      obtain ⟨rfl, hj2⟩ := hc
      rcases hr.2.2.2 a t n hT with ⟨-, hob⟩ | ⟨g, -⟩
      · obtain ⟨cell, q1, q2, q3, q4⟩ := hob
        obtain ⟨hS, hfc, kC, hkC, hkind⟩ := hkn.1.1 t _ l8
        obtain ⟨cf, kf, fi, f, hi, hsl⟩ := hS j hj2
        have hst := (u_facts hfc hkC (u_lays hts l1 hj2) hi).1
        have hv := q4 j hj2
        dsimp only at hv
        rw [← hsl] at hv
        split at h
        · rename_i hk2
          cases h
          rw [if_pos hk2] at hv
          exact W.getf hx hb hown (hts _ hw) hi hst q1 (by rw [q3]; exact fun h => by cases h) hv rfl rfl hd (kk _ _ _ hla hr hlo)
        · rename_i hk2
          cases h
          rw [if_neg hk2] at hv
          exact W.getf hx hb hown (hts _ hw) hi hst q1 (by rw [q3]; exact fun h => by cases h) hv rfl rfl hd (kk _ _ _ hla hr hlo)
      · simp only at hci; omega
    · cases h
  · cases h
/-- a field of an object is written -/
theorem m_s_pf (cx : m_cx en D H0 p R s m args meth c me) (hr : m_rel D H0 s s0 H) (hlo : ∀ q ∈ locs, H0.size ≤ q.base) (hla : m_lr la ls) {x ci j a : Nat} {v : Value} (hF : m_F me.1 x = some (ci, j)) (hd : decode me.2.2.1 pc = .ok (.putfield x, 3))
    {q : Nat × m_L × List Value × m_S} (h : m_pf en me ci j v a (pc + 3) ls st s0 = some (.inl q)) (kk : m_K1 D H0 p l e R s m args below meth c z0 w0 Z q.1 q.2.1 q.2.2.1 q.2.2.2) : W p l e R s m args below meth c H locs (s0.2.2.2.2.1 - z0) (s0.2.2.2.2.2 - w0) Z (F0 m pc la (v :: .ref a :: st)) := by
  obtain ⟨hx, hb, -, hown, hname, -, -, hts, hkn, -⟩ := cx
  have hB0 : en 0 = H0.size := hkn.2.2.2.2.2.1
  obtain ⟨hci, hj, hw⟩ := m_F_ok hF
  obtain ⟨l1, l2, l3, l4, l5, l6, l7, l8⟩ := m_L_ok hci
  unfold m_pf at h
  split at h
  · rename_i t n hT
    split at h
    · rename_i hc
      obtain ⟨⟨rfl, hj2, hB⟩, hfin⟩ := hc
      rw [hB0] at hB
      rcases hr.2.2.2 a t n hT with ⟨-, hob⟩ | ⟨g, -⟩
      · obtain ⟨cell, q1, q2, q3, q4⟩ := hob
        have hap := va_apart (D := D) (own := m_cn t) hts l1 (m_y t) l3 l2 hkn.1 l8
        obtain ⟨hS, hfc, kC, hkC, hkind⟩ := hkn.1.1 t _ l8
        obtain ⟨cf, kf, fi, f, hi, hsl⟩ := hS j hj2
        have hst := (u_facts hfc hkC (u_lays hts l1 hj2) hi).1
        have hlay := hts _ (l1 _ (u_in_lay hj2))
        -- the step itself, for any value that fits
        have key : ∀ (s' : m_S), q = (pc + 3, ls, st, s') → narrow (m_y t j) v = v → fits (m_y t j) v = true → s'.2.2.2.2 = s0.2.2.2.2 → s'.1 = s0.1 → (∀ b, b ≠ a → s'.2.1 b = s0.2.1 b) → (∀ b, b ≠ a → s'.2.2.1 b = s0.2.2.1 b) → s'.2.2.2.1 = s0.2.2.2.1 →
            (∀ k, k < m_W t → (if m_fk t k = 2 then va_rf (s'.2.2.1 a k) else Value.int (s'.2.1 a k)) = if k = j then v else (if m_fk t k = 2 then va_rf (s0.2.2.1 a k) else Value.int (s0.2.1 a k))) →
            W p l e R s m args below meth c H locs (s0.2.2.2.2.1 - z0) (s0.2.2.2.2.2 - w0) Z (F0 m pc la (v :: .ref a :: st)) := by
          intro s' hq hn hft ez e1 e2 e3 e4 hv
          subst hq
          have fin : ∀ H' : Heap, H'[a]? = some (cell.setSlot f.slot v) → H'.size = H.size → (∀ q, q ≠ a → H'[q]? = H[q]?) → W p l e R s m args below meth c H' (locs ++ [⟨a, f.slot⟩]) (s0.2.2.2.2.1 - z0) (s0.2.2.2.2.2 - w0) Z (F0 m (pc + 3) la st) := by
            intro H' g1 g2 g3
            have hk := kk la H' (locs ++ [⟨a, f.slot⟩]) hla (hr.put hB g2 g3 (by rw [show s'.2.2.2.2.1 = s0.2.2.2.2.1 by rw [ez]]) (fun b _ => by rw [e1]) e2 e3 (fun b _ => by rw [e4]) (fun t' n' hT' => ?_)) (m_locs hlo hB)
            · rw [show s'.2.2.2.2 = s0.2.2.2.2 from ez] at hk
              exact hk
            · rw [e1, hT] at hT'
              cases hT'
              refine Or.inl ⟨hci, cell.setSlot f.slot v, g1, q2, q3, fun k hk => ?_⟩
              refine Eq.trans ?_ (congrArg some (hv k hk).symm)
              by_cases ek : k = j
              · subst ek
                rw [if_pos rfl, ← hsl]
                have := k2_hasslot (q4 k hj2)
                rw [← hsl] at this
                simp [Cell.setSlot, this]
              · rw [if_neg ek]
                exact (slot_ne cell v (by rw [hsl]; exact hap j k hj2 hk (fun q => ek q.symm))).trans (q4 k hk)
          have hlt : f.slot < cell.slots.size := by rw [hsl]; exact k2_hasslot (q4 j hj2)
          by_cases hff : (m_T t j).2.2.2 = true
          · rcases hfin with hf0 | ⟨hi1, hi2⟩
            · rw [hff] at hf0; cases hf0
            · unfold u_lay at hlay
              rw [if_pos hff] at hlay
              have hdecl : (m_T t j).1 = m_cn t := l4 j hj2
              have hcf : m.cls = cf := by
                obtain ⟨_, _, c', _, _, _, -, -, hf', -, -, -, hown2, -⟩ := Cond.laysFinal_spec hlay
                have e1 : c' = cf := by have := hi.symm.trans hf'; simp at this; exact this.1.symm
                rw [hdecl, ← hi2] at hown2
                rw [← e1]; exact Option.some.inj (hown.symm.trans hown2)
              have h6 := u_fits hfc hkC hkind (Or.inr hlay) hi (l3 j hj2) hn hft
              exact W.putFinK hx hb hown (hts _ hw) hi hst hcf (hname.trans hi1) (by rw [q2]; exact h6) q1 q3 hlt rfl rfl hd fin
          · unfold u_lay at hlay
            rw [if_neg hff] at hlay
            have h6 := u_store hfc hkC hkind hlay hi (l3 j hj2) hn hft
            exact W.putK hx hb (f := f) ⟨hown, hts _ hw, ⟨_, _, _, hi⟩, hst⟩ (by rw [q2]; exact h6) q1 q3 hlt rfl rfl hd fin
        obtain ⟨y0, y1, y2, y3⟩ := l5 j hj2
        split at h
        · rename_i xv
          split at h
          · rename_i hk
            cases h
            refine key _ rfl ?_ ?_ rfl rfl (fun b hb => m_up_ne hb) (fun _ _ => rfl) rfl (fun k hk2 => ?_)
            · rcases hk with hk | ⟨hk, rfl | rfl⟩
              · rw [y0 hk]; rfl
              · rw [y1 hk]; rfl
              · rw [y1 hk]; rfl
            · rcases hk with hk | ⟨hk, rfl | rfl⟩
              · rw [y0 hk]; rfl
              · rw [y1 hk]; rfl
              · rw [y1 hk]; rfl
            · by_cases ek : k = j
              · subst ek
                have h2 : ¬ m_fk t k = 2 := by omega
                simp [h2, m_up]
              · simp [ek, m_up]
          · cases h
        · rename_i r
          split at h
          · rename_i hk
            cases h
            have hre := y2 hk
            refine key _ rfl ?_ ?_ rfl rfl (fun _ _ => rfl) (fun b hb => m_up_ne hb) rfl (fun k hk2 => ?_)
            · revert hre; cases m_y t j <;> intro hre <;> first | rfl | cases hre
            · revert hre; cases m_y t j <;> intro hre <;> first | rfl | cases hre
            · by_cases ek : k = j
              · subst ek
                simp [hk, m_up, va_rf]
              · simp [ek, m_up]
          · cases h
        · cases h
      · simp only at hci; omega
    · cases h
  · cases h
end SA
