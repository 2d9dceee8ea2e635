/-! THE SMALL MACHINE AND THE JVM: what a state of the one says of a heap of the other -/
def m_pl (ls : m_L) : List (Nat × Value) := ls.zipIdx.filterMap (fun q => q.1.map (fun v => (q.2, v)))
theorem m_pl_mem {ls : m_L} {i : Nat} {v : Value} : (i, v) ∈ m_pl ls ↔ ls[i]? = some (some v) := by
  unfold m_pl
  rw [List.mem_filterMap]
  constructor
  · rintro ⟨⟨o, k⟩, h1, h2⟩
    have h3 := List.mem_zipIdx_iff_getElem?.mp h1
    cases o with
    | none => cases h2
    | some w => cases h2; exact h3
  · intro h
    exact ⟨(some v, i), List.mem_zipIdx_iff_getElem?.mpr h, rfl⟩
def m_lr (la : Array Slot) (ls : m_L) : Prop := lv_has la ls.length (m_pl ls) ∧ ∀ (i : Nat) (v : Value), ls[i]? = some (some v) → v.category = 1
theorem m_lr.at {la : Array Slot} {ls : m_L} (h : m_lr la ls) {i : Nat} {v : Value} (hi : ls[i]? = some (some v)) : la[i]? = some (.val v) := h.1.2.2 (i, v) (m_pl_mem.mpr hi)
theorem m_lr.put {la : Array Slot} {ls : m_L} (h : m_lr la ls) {i : Nat} {v : Value} (hi : i < ls.length) (hc : v.category = 1) {la' : Array Slot} (h' : lv_has la' ls.length ((i, v) :: (m_pl ls).filter (fun q => !(q.1 == i) && !(q.1 + 1 == i && q.2.category == 2)))) : m_lr la' (ls.set i (some v)) := by
  have key : ∀ (j : Nat) (w : Value), (ls.set i (some v))[j]? = some (some w) → (j = i ∧ w = v) ∨ (j ≠ i ∧ ls[j]? = some (some w)) := by
    intro j w hj
    rw [List.getElem?_set] at hj
    by_cases e : i = j
    · subst e
      simp [hi] at hj
      exact Or.inl ⟨rfl, hj.symm⟩
    · rw [if_neg e] at hj
      exact Or.inr ⟨fun q => e q.symm, hj⟩
  refine ⟨⟨by rw [List.length_set]; exact h'.1, h'.2.1, fun q hq => ?_⟩, fun j w hj => ?_⟩
  · obtain ⟨j, w⟩ := q
    rcases key j w (m_pl_mem.mp hq) with ⟨e1, e2⟩ | ⟨e1, e2⟩
    · subst e1; subst e2
      exact h'.2.2 _ List.mem_cons_self
    · have hw := h.2 j w e2
      refine h'.2.2 (j, w) (List.mem_cons_of_mem _ (List.mem_filter.mpr ⟨m_pl_mem.mpr e2, ?_⟩))
      simp [e1, hw]
  · rcases key j w hj with ⟨-, e2⟩ | ⟨-, e2⟩
    · rw [e2]; exact hc
    · exact h.2 j w e2
def m_aty (t : Nat) : FieldType := match t with
  | 20 => .int
  | 21 => .byte
  | 22 => .boolean
  | 23 => .short
  | 24 => .long
  | _ => .object "SwingCrane$Moment"
def m_av (t : Nat) (I : Int32) (P : Option Nat) (L : Int64) : Value := if t = 24 then .long L else if t = 25 then va_rf P else .int I
/-- an array has n elements, as its length tells -/
def m_siz (cell : Cell) (n : Nat) : Prop := n ≤ cell.slots.size ∧ cell.slots.size.toInt32 = Int32.ofNat n
theorem m_siz_eq {cell : Cell} {n : Nat} (h : cell.slots.size = n) : m_siz cell n := ⟨Nat.le_of_eq h.symm, by rw [h]⟩
def m_arr (U : State) (t a n : Nat) (f : Nat → Value) (H : Heap) : Prop := ∃ (cell : Cell) (kA : Class) (comp : ClassId), H[a]? = some cell ∧ cell.vm ≠ .unknown ∧ (∀ k, cell.vm ≠ .statics k) ∧ U.vm.classes[cell.cls]? = some kA ∧ kA.kind = .array comp (m_aty t) ∧ (t = 25 → U.vm.findClass "SwingCrane$Moment" = some comp) ∧ m_siz cell n ∧ ∀ j, j < n → cell.slots[j]? = some (f j)
def m_obj (D : va_G) (c a : Nat) (I : Nat → Int32) (P : Nat → Option Nat) (H : Heap) : Prop := t_OB a (D.1 c) (m_W c) (D.2 c) H (fun j => if m_fk c j = 2 then va_rf (P j) else .int (I j))
def m_cel (D : va_G) (U : State) (s : m_S) (H : Heap) (a : Nat) : Prop := ∀ t n, s.1 a = some (t, n) → (t < 13 ∧ m_obj D t a (s.2.1 a) (s.2.2.1 a) H) ∨ ((20 ≤ t ∧ t ≤ 25) ∧ n < 2 ^ 31 ∧ m_arr U t a n (fun j => m_av t (s.2.1 a j) (s.2.2.1 a j) (s.2.2.2.1 a j)) H)
def m_rel (D : va_G) (H0 : Heap) (U : State) (s : m_S) (H : Heap) : Prop := H.size = s.2.2.2.2.1 ∧ H0.size ≤ H.size ∧ (∀ q, q < H0.size → H[q]? = H0[q]?) ∧ ∀ a, m_cel D U s H a
theorem m_arr.moved {u U : State} (hvm : u.vm.Alike U.vm) {t a n : Nat} {f : Nat → Value} {H : Heap} (h : m_arr u t a n f H) : m_arr U t a n f H := by
  obtain ⟨cell, kA, comp, h1, h2, h3, h4, h5, h6, h7⟩ := h
  obtain ⟨k', hk', he⟩ := hvm.2.2 _ _ h4
  exact ⟨cell, k', comp, h1, h2, h3, hk', by rw [he]; exact h5, fun q => by rw [hvm.findClass]; exact h6 q, h7⟩
theorem m_rel.moved {D : va_G} {H0 : Heap} {u U : State} (hvm : u.vm.Alike U.vm) {s : m_S} {H : Heap} (h : m_rel D H0 u s H) : m_rel D H0 U s H := by
  obtain ⟨h1, h2, h3, h4⟩ := h
  refine ⟨h1, h2, h3, fun a t n hT => ?_⟩
  rcases h4 a t n hT with h | ⟨g1, g2, g3⟩
  · exact Or.inl h
  · exact Or.inr ⟨g1, g2, g3.moved hvm⟩
theorem m_cel.lt {D : va_G} {U : State} {s : m_S} {H : Heap} {a : Nat} (h : m_cel D U s H a) {t n : Nat} (hT : s.1 a = some (t, n)) : a < H.size := by
  rcases h t n hT with ⟨-, cell, g, -⟩ | ⟨-, -, cell, _, _, g, -⟩
  · exact (Array.getElem?_eq_some_iff.mp g).1
  · exact (Array.getElem?_eq_some_iff.mp g).1
theorem m_cel.kept {D : va_G} {U : State} {s s' : m_S} {H H' : Heap} {a : Nat} (h : m_cel D U s H a) (e1 : s'.1 a = s.1 a) (e2 : s'.2.1 a = s.2.1 a) (e3 : s'.2.2.1 a = s.2.2.1 a) (e4 : s'.2.2.2.1 a = s.2.2.2.1 a) (eH : (s.1 a).isSome = true → H'[a]? = H[a]?) : m_cel D U s' H' a := by
  intro t n hT
  rw [e1] at hT
  have eH := eH (by rw [hT]; rfl)
  rw [e2, e3, e4]
  rcases h t n hT with ⟨g1, g2⟩ | ⟨g1, g2, cell, kA, comp, g3, g4⟩
  · exact Or.inl ⟨g1, t_OB.kept g2 eH⟩
  · exact Or.inr ⟨g1, g2, cell, kA, comp, by rw [eH]; exact g3, g4⟩
/-- one cell is written -/
theorem m_rel.put {D : va_G} {H0 : Heap} {U : State} {s s' : m_S} {H H' : Heap} (h : m_rel D H0 U s H) {a : Nat} (hB : H0.size ≤ a) (hz : H'.size = H.size) (ho : ∀ q, q ≠ a → H'[q]? = H[q]?) (ez : s'.2.2.2.2.1 = s.2.2.2.2.1)
    (e1 : ∀ b, b ≠ a → s'.1 b = s.1 b) (e2 : ∀ b, b ≠ a → s'.2.1 b = s.2.1 b) (e3 : ∀ b, b ≠ a → s'.2.2.1 b = s.2.2.1 b) (e4 : ∀ b, b ≠ a → s'.2.2.2.1 b = s.2.2.2.1 b) (hc : m_cel D U s' H' a) : m_rel D H0 U s' H' := by
  obtain ⟨h1, h2, h3, h4⟩ := h
  refine ⟨by rw [hz, ez]; exact h1, by rw [hz]; exact h2, fun q hq => by rw [ho q (by omega)]; exact h3 q hq, fun b => ?_⟩
  by_cases e : b = a
  · subst e; exact hc
  · exact (h4 b).kept (e1 b e) (e2 b e) (e3 b e) (e4 b e) (fun _ => ho b e)
/-- a cell is made -/
theorem m_rel.new {D : va_G} {H0 : Heap} {U : State} {s s' : m_S} {H H' : Heap} (h : m_rel D H0 U s H) (hz : H'.size = H.size + 1) (ho : ∀ q, q < H.size → H'[q]? = H[q]?) (ez : s'.2.2.2.2.1 = s.2.2.2.2.1 + 1)
    (e1 : ∀ b, b ≠ s.2.2.2.2.1 → s'.1 b = s.1 b) (e2 : ∀ b, b ≠ s.2.2.2.2.1 → s'.2.1 b = s.2.1 b) (e3 : ∀ b, b ≠ s.2.2.2.2.1 → s'.2.2.1 b = s.2.2.1 b) (e4 : ∀ b, b ≠ s.2.2.2.2.1 → s'.2.2.2.1 b = s.2.2.2.1 b) (hc : m_cel D U s' H' s.2.2.2.2.1) : m_rel D H0 U s' H' := by
  obtain ⟨h1, h2, h3, h4⟩ := h
  refine ⟨by rw [hz, ez, h1], by omega, fun q hq => by rw [ho q (by omega)]; exact h3 q hq, fun b => ?_⟩
  by_cases e : b = s.2.2.2.2.1
  · rw [e]; exact hc
  · refine (h4 b).kept (e1 b e) (e2 b e) (e3 b e) (e4 b e) (fun hs => ho b ?_)
    obtain ⟨⟨t, n⟩, hq⟩ := Option.isSome_iff_exists.mp hs
    exact (h4 b).lt hq
theorem m_up_ne {α : Type} {f : Nat → Nat → α} {a j b : Nat} {v : α} (h : b ≠ a) : m_up f a j v b = f b := by
  funext i
  simp [m_up, h]
theorem m_nw_ne {α : Type} {f : Nat → Nat → α} {a b : Nat} {v : α} (h : b ≠ a) : m_nw f a v b = f b := by
  funext i
  simp [m_nw, h]
theorem m_nw_eq {α : Type} {f : Nat → Nat → α} {a : Nat} {v : α} : m_nw f a v a = fun _ => v := by
  funext i
  simp [m_nw]
/-- the law's start: what the statement gives there, and where the one text lies -/
def m_s0 (en : Nat → Nat) (H0 : Heap) (U : State) : Prop := ∃ (u : State) (b : Nat), u.heap = H0 ∧ (Jvm.Cond.and given_1 narrow_1).before #[Value.ref b] u = true ∧ (∀ w ∈ lw_tbl, w.before #[Value.ref b] u = true) ∧ (Term.string "SwingCrane$Reader" 34).eval #[Value.ref b] u none [] u = some (.ref (en 1)) ∧ u.WarmedH U.vm
/-- what a launch and its tables say, and where the old cells are -/
def m_kn (en : Nat → Nat) (D : va_G) (H0 : Heap) (U : State) : Prop := va_K D m_cl [] U ∧ (∀ w ∈ m_nst, va_Nw w U) ∧ va_Nw (.fieldLinkNest "SwingCrane$Reader" 129 "SwingCrane" "MOST_TOLD" "[I" "SwingCrane") U ∧ va_Z "SwingCrane" "MOST_TOLD" "[I" (.ref (en 2)) (fun q => H0.size ≤ q) U H0 ∧ va_Z "SwingCrane" "ORDER_CODES" "[I" (.ref (en 3)) (fun q => H0.size ≤ q) U H0 ∧ en 0 = H0.size ∧ va_AO "SwingCrane$Moment" U ∧ m_s0 en H0 U
theorem m_nst_all {Pr : Cond → Prop} (h : ∀ a i x hh, Cond.methodLinkNest a i x hh ∈ m_nst → Pr (.methodLinkNest a i x hh)) : ∀ w ∈ m_nst, Pr w := by
  intro w hw
  have hw2 := hw
  simp only [m_nst, List.mem_cons, List.not_mem_nil, or_false] at hw
  rcases hw with rfl | rfl | rfl | rfl | rfl | rfl | rfl | rfl | rfl <;> exact h _ _ _ _ hw2
theorem m_kn.warm {en : Nat → Nat} {D : va_G} {H0 : Heap} {s U : State} (hW : s.WarmedH U.vm) (h : m_kn en D H0 s) : m_kn en D H0 U := by
  obtain ⟨h1, h2, h3, h4, h5, h6, h7, u, b, g1, g2, g3, g4, g5⟩ := h
  exact ⟨va_K.moved hW.alike h1, m_nst_all (fun a i x hh hm => va_Nw.warmM hW (h2 _ hm)), va_Nw.warmF hW h3, va_Z.moved hW.alike h4, va_Z.moved hW.alike h5, h6, va_AO.moved hW.alike h7, u, b, g1, g2, g3, g4, State.WarmedH.trans g5 hW⟩
def m_cx (en : Nat → Nat) (D : va_G) (H0 : Heap) (p : Program) (R : Room) (s : State) (m : MethodId) (args : Array Value) (meth : Method) (c : Code) (me : m_Me) : Prop :=
  p.tables.exec = Jvm.exec ∧ c.code = me.2.2.1 ∧ c.maxLocals = me.2.2.2.1 ∧ s.vm.findClass (m_cn me.1) = some m.cls ∧ meth.name = me.2.1.name ∧ meth.sig.returnType = me.2.2.2.2 ∧ meth.locks = false ∧ (∀ w ∈ m_gw, w.before args s = true) ∧ m_kn en D H0 s ∧ 8 ≤ R.frames ∧ 300 ≤ R.locals
