section SC
variable {en : Nat → Nat} {D : va_G} {H0 : Heap} {p : Program} {l : Launch} {e : Env} {R : Room} {s : State} {m : MethodId} {args : Array Value} {below : List Frame} {meth : Method} {c : Code} {me : m_Me}
variable {H : Heap} {locs : List Loc} {z0 w0 : Nat} {Z : State → Prop} {pc : Nat} {la : Array Slot} {ls : m_L} {st : List Value} {s0 : m_S}
/-- what the JDK does on the text of the words: it is named, its length, a sign of it -/
def m_jdk (en : Nat → Nat) (D : va_G) (H0 : Heap) (l : Launch) : Prop := ∀ (p : Program) (e : Env) (R : Room) (s : State) (m : MethodId) (args : Array Value) (below : List Frame) (meth : Method) (c : Code) (me : m_Me) (H : Heap) (locs : List Loc) (cells slots : Nat) (Z : State → Prop) (pc : Nat) (la : Array Slot) (st : List Value) (x : Nat),
  m_cx en D H0 p R s m args meth c me → (∀ q, q < H0.size → H[q]? = H0[q]?) → H0.size ≤ H.size → la.size = me.2.2.2.1 → cells ≤ R.cells → slots ≤ R.slots →
  (m_Z me.1 x = some 1 → decode me.2.2.1 pc = .ok (.ldc x, 2) → W p l e R s m args below meth c H locs cells slots Z (F0 m (pc + 2) la (.ref (en 1) :: st)) → W p l e R s m args below meth c H locs cells slots Z (F0 m pc la st)) ∧
  (m_B me.1 x = some 14 → (st.map fun v => v.category).sum ≤ 8 → decode me.2.2.1 pc = .ok (.invokevirtual x, 3) → W p l e R s m args below meth c H locs cells slots Z (F0 m (pc + 3) la (.int 92 :: st)) → W p l e R s m args below meth c H locs cells slots Z (F0 m pc la (.ref (en 1) :: st))) ∧
  (∀ i : Int32, 0 ≤ i.toInt → i.toInt < 92 → m_B me.1 x = some 15 → (st.map fun v => v.category).sum ≤ 8 → decode me.2.2.1 pc = .ok (.invokevirtual x, 3) → W p l e R s m args below meth c H locs cells slots Z (F0 m (pc + 3) la (.int (Int32.ofNat (m_txt.getD i.toNatClampNeg 0)) :: st)) → W p l e R s m args below meth c H locs cells slots Z (F0 m pc la (.int i :: .ref (en 1) :: st)))
theorem m_Z_one {k x z : Nat} (h : m_Z k x = some z) : z = 1 := by
  unfold m_Z at h
  split at h
  · have := m_look h; simp [m_Z6] at this; exact this.2
  · simp [m_Z11] at h
  · have := m_look h; simp [m_Z12] at this; exact this.2
  · cases h
theorem m_s_icmp {cd : ClassFile.Cond} {off : Int} {x y : Int32} {cells slots : Nat} (hx : p.tables.exec = Jvm.exec) (hb : c.code = me.2.2.1) (hd : decode me.2.2.1 pc = .ok (.if_icmp cd off, 3)) (h0 : 0 ≤ (pc : Int) + off)
    (k : W p l e R s m args below meth c H locs cells slots Z (F0 m (if m_cmp cd x y = true then ((pc : Int) + off).toNat else pc + 3) la st)) : W p l e R s m args below meth c H locs cells slots Z (F0 m pc la (.int y :: .int x :: st)) := by
  have ht := (Int.toNat_of_nonneg h0).symm
  cases cd <;> simp only [m_cmp, decide_eq_true_eq] at k
  · exact lv_icmp_eq hx hb hd ht (fun h => by rw [if_pos h] at k; exact k) (fun h => by rw [if_neg h] at k; exact k)
  · exact lv_icmp_ne hx hb hd ht (fun h => by rw [if_pos h] at k; exact k) (fun h => by rw [if_neg (fun q => q h)] at k; exact k)
  · exact lv_icmp_lt hx hb hd ht (fun h => by rw [if_pos h] at k; exact k) (fun h => by rw [if_neg h] at k; exact k)
  · exact lv_icmp_ge hx hb hd ht (fun h => by rw [if_pos h] at k; exact k) (fun h => by rw [if_neg h] at k; exact k)
  · exact lv_icmp_gt hx hb hd ht (fun h => by rw [if_pos h] at k; exact k) (fun h => by rw [if_neg h] at k; exact k)
  · exact lv_icmp_le hx hb hd ht (fun h => by rw [if_pos h] at k; exact k) (fun h => by rw [if_neg h] at k; exact k)
theorem m_s_if {cd : ClassFile.Cond} {off : Int} {x : Int32} {cells slots : Nat} (hx : p.tables.exec = Jvm.exec) (hb : c.code = me.2.2.1) (hd : decode me.2.2.1 pc = .ok (.ifCond cd off, 3)) (h0 : 0 ≤ (pc : Int) + off)
    (k : W p l e R s m args below meth c H locs cells slots Z (F0 m (if m_cmp cd x 0 = true then ((pc : Int) + off).toNat else pc + 3) la st)) : W p l e R s m args below meth c H locs cells slots Z (F0 m pc la (.int x :: st)) := by
  have ht := (Int.toNat_of_nonneg h0).symm
  cases cd <;> simp only [m_cmp, decide_eq_true_eq] at k
  · exact lv_if_eq hx hb hd ht (fun h => by rw [if_pos h] at k; exact k) (fun h => by rw [if_neg h] at k; exact k)
  · exact lv_if_ne hx hb hd ht (fun h => by rw [if_pos h] at k; exact k) (fun h => by rw [if_neg (fun q => q h)] at k; exact k)
  · exact lv_if_lt hx hb hd ht (fun h => by rw [if_pos h] at k; exact k) (fun h => by rw [if_neg h] at k; exact k)
  · exact lv_if_ge hx hb hd ht (fun h => by rw [if_pos h] at k; exact k) (fun h => by rw [if_neg h] at k; exact k)
  · exact lv_if_gt hx hb hd ht (fun h => by rw [if_pos h] at k; exact k) (fun h => by rw [if_neg h] at k; exact k)
  · exact lv_if_le hx hb hd ht (fun h => by rw [if_pos h] at k; exact k) (fun h => by rw [if_neg h] at k; exact k)
theorem m_s_bi (hj : m_jdk en D H0 l) (cx : m_cx en D H0 p R s m args meth c me) (hr : m_rel D H0 s s0 H) (hlo : ∀ q ∈ locs, H0.size ≤ q.base) (hla : m_lr la ls) (hln : ls.length = me.2.2.2.1) {x b : Nat} (hB : m_B me.1 x = some b)
    (hd : (10 ≤ b ∧ b ≤ 12) ∧ decode me.2.2.1 pc = .ok (.invokestatic x, 3) ∨ 14 ≤ b ∧ decode me.2.2.1 pc = .ok (.invokevirtual x, 3) ∨ b = 13 ∧ decode me.2.2.1 pc = .ok (.invokespecial x, 3))
    (hR : s0.2.2.2.2.1 - z0 ≤ R.cells ∧ s0.2.2.2.2.2 - w0 ≤ R.slots) {q : Nat × m_L × List Value × m_S} (h : m_bi en b pc ls st s0 = some (.inl q)) (kk : m_K1 D H0 p l e R s m args below meth c z0 w0 Z q.1 q.2.1 q.2.2.1 q.2.2.2) : W p l e R s m args below meth c H locs (s0.2.2.2.2.1 - z0) (s0.2.2.2.2.2 - w0) Z (F0 m pc la st) := by
  have cx0 := cx
  obtain ⟨hx, hb, hml, hown, -, -, -, hts, hkn, hfr, hlc⟩ := cx
  have hBp := m_B_ok hB
  have hsz : la.size = me.2.2.2.1 := hla.1.1.trans hln
  have jd := fun (st2 : List Value) => hj p e R s m args below meth c me H locs (s0.2.2.2.2.1 - z0) (s0.2.2.2.2.2 - w0) Z pc la st2 x cx0 hr.2.2.1 hr.2.1 hsz hR.1 hR.2
  unfold m_bi at h
  split at h
  · split at h
    · split at h
      · rename_i hc
        cases h
        rcases hd with ⟨-, hd⟩ | ⟨hd, -⟩ | ⟨hd, -⟩
        · exact va_mmax hx hb (hml.trans hsz.symm) hown (hts _ hBp) (hts _ m_j_max.1) (hts _ m_j_math) (hts _ m_j_max.2) (by omega) (by omega) hR.1 hR.2 hd (kk _ _ _ hla hr hlo)
        · omega
        · omega
      · cases h
    · cases h
  · split at h
    · split at h
      · rename_i hc
        cases h
        rcases hd with ⟨-, hd⟩ | ⟨hd, -⟩ | ⟨hd, -⟩
        · exact va_mmin hx hb (hml.trans hsz.symm) hown (hts _ hBp) (hts _ m_j_min.1) (hts _ m_j_math) (hts _ m_j_min.2) (by omega) (by omega) hR.1 hR.2 hd (kk _ _ _ hla hr hlo)
        · omega
        · omega
      · cases h
    · cases h
  · split at h
    · split at h
      · rename_i hc
        cases h
        rcases hd with ⟨-, hd⟩ | ⟨hd, -⟩ | ⟨hd, -⟩
        · exact va_mabs hx hb (hml.trans hsz.symm) hown (hts _ hBp) (hts _ m_j_abs.1) (hts _ m_j_math) (hts _ m_j_abs.2) (by omega) (by omega) hR.1 hR.2 hd (kk _ _ _ hla hr hlo)
        · omega
        · omega
      · cases h
    · cases h
  · split at h
    · split at h
      · rename_i hc
        cases h
        rcases hd with ⟨hd, -⟩ | ⟨hd, -⟩ | ⟨-, hd⟩
        · omega
        · omega
        · exact W.objInit hx hb hown (hts _ hBp) (hts _ m_j_obj.1) (hts _ m_j_obj.2) rfl (hsz.trans hml.symm) rfl hd (by omega) (by show 2 * 0 + _ + 12 ≤ _; omega) (kk _ _ _ hla hr hlo)
      · cases h
    · cases h
  · split at h
    · split at h
      · rename_i hc
        obtain ⟨rfl, hc⟩ := hc
        cases h
        rcases hd with ⟨hd, -⟩ | ⟨-, hd⟩ | ⟨hd, -⟩
        · omega
        · exact (jd _).2.1 hB hc hd (kk _ _ _ hla hr hlo)
        · omega
      · cases h
    · cases h
  · split at h
    · split at h
      · rename_i hc
        obtain ⟨⟨rfl, h0, h1⟩, hc⟩ := hc
        cases h
        rcases hd with ⟨hd, -⟩ | ⟨-, hd⟩ | ⟨hd, -⟩
        · omega
        · exact (jd _).2.2 _ h0 h1 hB hc hd (kk _ _ _ hla hr hlo)
        · omega
      · cases h
    · cases h
  · cases h
end SC
