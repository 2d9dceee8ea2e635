section SB
variable {en : Nat → Nat} {D : va_G} {H0 : Heap} {p : Program} {l : Launch} {e : Env} {R : Room} {s : State} {m : MethodId} {args : Array Value} {below : List Frame} {meth : Method} {c : Code} {me : m_Me}
variable {H : Heap} {locs : List Loc} {z0 w0 : Nat} {Z : State → Prop} {pc : Nat} {la : Array Slot} {ls : m_L} {st : List Value} {s0 : m_S}
/-- an object is made -/
theorem m_s_new (cx : m_cx en D H0 p R s m args meth c me) (hr : m_rel D H0 s s0 H) (hlo : ∀ q ∈ locs, H0.size ≤ q.base) (hla : m_lr la ls) {x ci : Nat} (hN : m_N me.1 x = some ci) (hd : decode me.2.2.1 pc = .ok (.new x, 3)) (hz : z0 ≤ s0.2.2.2.2.1) (hw : w0 ≤ s0.2.2.2.2.2)
    (hR : s0.2.2.2.2.1 + 1 - z0 ≤ R.cells ∧ s0.2.2.2.2.2 + m_W ci - w0 ≤ R.slots) (kk : m_K1 D H0 p l e R s m args below meth c z0 w0 Z (pc + 3) ls (.ref s0.2.2.2.2.1 :: st) (m_new ci 0 (m_W ci) s0)) : W p l e R s m args below meth c H locs (s0.2.2.2.2.1 - z0) (s0.2.2.2.2.2 - w0) Z (F0 m pc la st) := by
  obtain ⟨hx, hb, -, hown, -, -, -, hts, hkn, -⟩ := cx
  obtain ⟨hci, hcl⟩ := m_N_ok hN
  have hci : ci < 13 := hci
  have hcl : Cond.classLink (m_cn me.1) x (m_cn ci) ∈ m_gw := hcl
  obtain ⟨l1, l2, l3, l4, l5, l6, l7, l8⟩ := m_L_ok hci
  have hKn := hkn.1.1 ci _ l8
  have hsz := hr.1
  refine W.newcK hx hb hown (hts _ hcl) (hts _ l6) (hts _ l7) rfl hd (by omega) (by omega) hKn.2.1 hsz fun H1 kC hkC e1 z1 o1 => ?_
  have hk := kk la H1 locs hla (hr.new (by rw [z1, hsz]) (fun q hq => o1 q (by omega)) rfl (fun b hb => by simp [m_new, m_nT, hb]) (fun b hb => m_nw_ne hb) (fun b hb => m_nw_ne hb) (fun b hb => m_nw_ne hb) (fun t n hT => ?_)) hlo
  · rw [show (m_new ci 0 (m_W ci) s0).2.2.2.2.1 - z0 = s0.2.2.2.2.1 - z0 + 1 by simp only [m_new]; omega, show (m_new ci 0 (m_W ci) s0).2.2.2.2.2 - w0 = s0.2.2.2.2.2 - w0 + m_W ci by simp only [m_new]; omega] at hk
    exact hk
  · simp only [m_new, m_nT, if_pos rfl, if_true] at hT
    cases hT
    refine Or.inl ⟨hci, ?_⟩
    have hob := u_born (m_y ci) hts l1 hKn hkC e1 l3
    refine t_OB.to hob (fun k hk => ?_)
    simp only [m_new, m_nw_eq]
    obtain ⟨y0, y1, y2, y3⟩ := l5 k hk
    by_cases h2 : m_fk ci k = 2
    · rw [if_pos h2]
      have := y2 h2
      revert this
      cases m_y ci k <;> intro h <;> first | rfl | cases h
    · rw [if_neg h2]
      have : m_fk ci k = 0 ∨ m_fk ci k = 1 := by omega
      rcases this with h | h
      · rw [y0 h]; rfl
      · rw [y1 h]; rfl
theorem m_atc_spec {t : ArrayType} {k : Nat} (h : m_atc t = some k) : (20 ≤ k ∧ k ≤ 24) ∧ newarray.typeOf t = m_aty k ∧ (Cond.arrayClass (m_aty k)) ∈ m_gw ∧ componentBytes (m_aty k) ≤ 8 ∧ defaultValue (m_aty k) = m_av k 0 none 0 := by
  cases t <;> cases h
  · exact ⟨by decide, rfl, m_j_aboolean, by decide, rfl⟩
  · exact ⟨by decide, rfl, m_j_abyte, by decide, rfl⟩
  · exact ⟨by decide, rfl, m_j_ashort, by decide, rfl⟩
  · exact ⟨by decide, rfl, m_j_aint, by decide, rfl⟩
  · exact ⟨by decide, rfl, m_j_along, by decide, rfl⟩
theorem m_nn {n : Int32} (h : 0 ≤ n.toInt) : ¬ n < 0 := by
  rw [Int32.lt_iff_toInt_lt, Int32.toInt_zero]; omega
theorem m_clamp {n : Int32} (h : 0 ≤ n.toInt) : (n.toNatClampNeg : Int) = n.toInt := by
  unfold Int32.toNatClampNeg
  omega
/-- a row is made -/
theorem m_s_newa (cx : m_cx en D H0 p R s m args meth c me) (hr : m_rel D H0 s s0 H) (hlo : ∀ q ∈ locs, H0.size ≤ q.base) (hla : m_lr la ls) {t : ArrayType} {k : Nat} (hk : m_atc t = some k) {n : Int32} (hd : decode me.2.2.1 pc = .ok (.newarray t, 2)) (h0 : 0 ≤ n.toInt) (h1 : n.toInt ≤ 1000000) (hz : z0 ≤ s0.2.2.2.2.1) (hw : w0 ≤ s0.2.2.2.2.2)
    (hR : s0.2.2.2.2.1 + 1 - z0 ≤ R.cells ∧ s0.2.2.2.2.2 + n.toNatClampNeg - w0 ≤ R.slots) (kk : m_K1 D H0 p l e R s m args below meth c z0 w0 Z (pc + 2) ls (.ref s0.2.2.2.2.1 :: st) (m_new k n.toNatClampNeg n.toNatClampNeg s0)) : W p l e R s m args below meth c H locs (s0.2.2.2.2.1 - z0) (s0.2.2.2.2.2 - w0) Z (F0 m pc la (.int n :: st)) := by
  obtain ⟨hx, hb, -, hown, -, -, -, hts, hkn, -⟩ := cx
  obtain ⟨hk1, hty, hac, hcb, hdf⟩ := m_atc_spec hk
  have hsz := hr.1
  have hcl := m_clamp h0
  refine W.newa hx hb (by rw [hty]; exact hts _ hac) rfl hd rfl (m_nn h0) ?_ (by omega) (by omega) fun cA kA comp g1 g2 g3 => ?_
  · rw [hty]
    exact Nat.le_trans (Nat.mul_le_mul_left _ hcb) (by omega)
  · rw [hty] at g3
    have hkk := kk la (H.push { cls := cA, slots := Array.replicate n.toNatClampNeg (defaultValue (newarray.typeOf t)), vm := .none }) locs hla (hr.new (by simp) (fun q hq => by rw [Array.getElem?_push, if_neg (Nat.ne_of_lt hq)]) rfl (fun b hb => by simp [m_new, m_nT, hb]) (fun b hb => m_nw_ne hb) (fun b hb => m_nw_ne hb) (fun b hb => m_nw_ne hb) (fun t' n' hT => ?_)) hlo
    · rw [show (m_new k n.toNatClampNeg n.toNatClampNeg s0).2.2.2.2.1 - z0 = s0.2.2.2.2.1 - z0 + 1 by simp only [m_new]; omega, show (m_new k n.toNatClampNeg n.toNatClampNeg s0).2.2.2.2.2 - w0 = s0.2.2.2.2.2 - w0 + n.toNatClampNeg by simp only [m_new]; omega] at hkk
      rw [hsz]
      exact hkk
    · simp only [m_new, m_nT, if_pos rfl, if_true] at hT
      cases hT
      refine Or.inr ⟨⟨hk1.1, by omega⟩, by omega, ({ cls := cA, slots := Array.replicate n.toNatClampNeg (defaultValue (newarray.typeOf t)), vm := .none } : Cell), kA, comp, by rw [← hsz]; simp, (fun h => by cases h), (fun _ h => by cases h), g2, g3, (fun h => by omega), m_siz_eq (by simp), fun j hj => ?_⟩
      simp only [m_new, m_nw_eq]
      rw [hty, ← hdf]
      simp [hj]
theorem m_s_anew (cx : m_cx en D H0 p R s m args meth c me) (hr : m_rel D H0 s s0 H) (hlo : ∀ q ∈ locs, H0.size ≤ q.base) (hla : m_lr la ls) {x : Nat} (hN : m_N me.1 x = some 2) {n : Int32} (hd : decode me.2.2.1 pc = .ok (.anewarray x, 3)) (h0 : 0 ≤ n.toInt) (h1 : n.toInt ≤ 1000000) (hz : z0 ≤ s0.2.2.2.2.1) (hw : w0 ≤ s0.2.2.2.2.2)
    (hR : s0.2.2.2.2.1 + 1 - z0 ≤ R.cells ∧ s0.2.2.2.2.2 + n.toNatClampNeg - w0 ≤ R.slots) (kk : m_K1 D H0 p l e R s m args below meth c z0 w0 Z (pc + 3) ls (.ref s0.2.2.2.2.1 :: st) (m_new 25 n.toNatClampNeg n.toNatClampNeg s0)) : W p l e R s m args below meth c H locs (s0.2.2.2.2.1 - z0) (s0.2.2.2.2.2 - w0) Z (F0 m pc la (.int n :: st)) := by
  obtain ⟨hx, hb, -, hown, -, -, -, hts, hkn, -⟩ := cx
  obtain ⟨-, hcl⟩ := m_N_ok hN
  have hsz := hr.1
  have hcl2 := m_clamp h0
  refine W.anew (C := "SwingCrane$Moment") hx hb hown (hts _ hcl) (va_AO.use hkn.2.2.2.2.2.2.1) rfl hd rfl (m_nn h0) (by omega) (by omega) (by omega) fun cA kA comp g1 g2 g3 g4 => ?_
  have hkk := kk la (H.push { cls := cA, slots := Array.replicate n.toNatClampNeg .null, vm := .none }) locs hla (hr.new (by simp) (fun q hq => by rw [Array.getElem?_push, if_neg (Nat.ne_of_lt hq)]) rfl (fun b hb => by simp [m_new, m_nT, hb]) (fun b hb => m_nw_ne hb) (fun b hb => m_nw_ne hb) (fun b hb => m_nw_ne hb) (fun t' n' hT => ?_)) hlo
  · rw [show (m_new 25 n.toNatClampNeg n.toNatClampNeg s0).2.2.2.2.1 - z0 = s0.2.2.2.2.1 - z0 + 1 by simp only [m_new]; omega, show (m_new 25 n.toNatClampNeg n.toNatClampNeg s0).2.2.2.2.2 - w0 = s0.2.2.2.2.2 - w0 + n.toNatClampNeg by simp only [m_new]; omega] at hkk
    rw [hsz]
    exact hkk
  · simp only [m_new, m_nT, if_pos rfl, if_true] at hT
    cases hT
    refine Or.inr ⟨by omega, by omega, ({ cls := cA, slots := Array.replicate n.toNatClampNeg .null, vm := .none } : Cell), kA, comp, by rw [← hsz]; simp, (fun h => by cases h), (fun _ h => by cases h), g2, g3, (fun _ => g4), m_siz_eq (by simp), fun j hj => ?_⟩
    simp only [m_new, m_nw_eq]
    simp [hj, m_av, va_rf]
theorem m_s_bal (cx : m_cx en D H0 p R s m args meth c me) (hr : m_rel D H0 s s0 H) (hlo : ∀ q ∈ locs, H0.size ≤ q.base) (hla : m_lr la ls) {i : Int32} {a t n : Nat} (hd : decode me.2.2.1 pc = .ok (.baload, 1)) (hT : s0.1 a = some (t, n)) (ht : t = 21 ∨ t = 22) (h0 : 0 ≤ i.toInt) (h1 : i.toInt < n)
    (kk : m_K1 D H0 p l e R s m args below meth c z0 w0 Z (pc + 1) ls (.int (s0.2.1 a i.toNatClampNeg) :: st) s0) : W p l e R s m args below meth c H locs (s0.2.2.2.2.1 - z0) (s0.2.2.2.2.2 - w0) Z (F0 m pc la (.int i :: .ref a :: st)) := by
  obtain ⟨hx, hb, -⟩ := cx
  obtain ⟨g1, g2⟩ := m_inx h0 h1
  rcases ht with rfl | rfl
  · obtain ⟨cell, q1, q2, q3, q4, q5⟩ := hr.arr hT (by omega)
    exact W.bald hx hb q1 q3 q2 (m_inz q4 g1) (q5 _ g2) rfl rfl hd (kk _ _ _ hla hr hlo)
  · obtain ⟨cell, q1, q2, q3, q4, q5⟩ := hr.arr hT (by omega)
    exact W.zald hx hb q1 q3 q2 (m_inz q4 g1) (q5 _ g2) rfl rfl hd (kk _ _ _ hla hr hlo)
theorem m_s_bas (cx : m_cx en D H0 p R s m args meth c me) (hr : m_rel D H0 s s0 H) (hlo : ∀ q ∈ locs, H0.size ≤ q.base) (hla : m_lr la ls) {i x : Int32} {a t n : Nat} (hd : decode me.2.2.1 pc = .ok (.bastore, 1)) (hT : s0.1 a = some (t, n)) (ht : t = 21 ∨ (t = 22 ∧ (x = 0 ∨ x = 1))) (h0 : 0 ≤ i.toInt) (h1 : i.toInt < n) (hB : H0.size ≤ a)
    (kk : m_K1 D H0 p l e R s m args below meth c z0 w0 Z (pc + 1) ls st (s0.1, m_up s0.2.1 a i.toNatClampNeg (if t = 21 then x.toInt8.toInt32 else x), s0.2.2)) : W p l e R s m args below meth c H locs (s0.2.2.2.2.1 - z0) (s0.2.2.2.2.2 - w0) Z (F0 m pc la (.int x :: .int i :: .ref a :: st)) := by
  obtain ⟨hx, hb, -⟩ := cx
  obtain ⟨g1, g2⟩ := m_inx h0 h1
  rcases ht with rfl | ⟨rfl, hv⟩
  · obtain ⟨cell, q1, q2, q3, q4, q5⟩ := hr.arr hT (by omega)
    refine W.bast hx hb q1 q3 q2 (m_inz q4 g1) rfl rfl hd fun H' e1 e2 e3 => kk _ _ _ hla ?_ (m_locs hlo hB)
    rw [narrow_byte] at e1
    refine hr.aput hT (by omega) hB g2 q1 e1 e2 e3 rfl rfl (fun b hb => m_up_ne hb) (fun _ _ => rfl) (fun _ _ => rfl) (fun j hj => ?_)
    by_cases ej : j = i.toNatClampNeg <;> simp [m_av, m_up, ej]
  · obtain ⟨cell, q1, q2, q3, q4, q5⟩ := hr.arr hT (by omega)
    refine W.zast hx hb q1 q3 q2 (m_inz q4 g1) rfl rfl hd fun H' e1 e2 e3 => kk _ _ _ hla ?_ (m_locs hlo hB)
    rw [show narrow .boolean (.int x) = .int x by rcases hv with rfl | rfl <;> rfl] at e1
    refine hr.aput hT (by omega) hB g2 q1 e1 e2 e3 rfl rfl (fun b hb => m_up_ne hb) (fun _ _ => rfl) (fun _ _ => rfl) (fun j hj => ?_)
    by_cases ej : j = i.toNatClampNeg <;> simp [m_av, m_up, ej]
theorem m_s_aal (cx : m_cx en D H0 p R s m args meth c me) (hr : m_rel D H0 s s0 H) (hlo : ∀ q ∈ locs, H0.size ≤ q.base) (hla : m_lr la ls) {i : Int32} {a n : Nat} (hd : decode me.2.2.1 pc = .ok (.aaload, 1)) (hT : s0.1 a = some (25, n)) (h0 : 0 ≤ i.toInt) (h1 : i.toInt < n)
    (kk : m_K1 D H0 p l e R s m args below meth c z0 w0 Z (pc + 1) ls (va_rf (s0.2.2.1 a i.toNatClampNeg) :: st) s0) : W p l e R s m args below meth c H locs (s0.2.2.2.2.1 - z0) (s0.2.2.2.2.2 - w0) Z (F0 m pc la (.int i :: .ref a :: st)) := by
  obtain ⟨hx, hb, -⟩ := cx
  obtain ⟨g1, g2⟩ := m_inx h0 h1
  obtain ⟨cell, q1, q2, q3, q4, q5⟩ := hr.arr hT (by omega)
  exact W.aald (ty := m_aty 25) hx hb q1 q3 rfl q2 (m_inz q4 g1) (q5 _ g2) rfl rfl hd (kk _ _ _ hla hr hlo)
theorem m_s_aas (cx : m_cx en D H0 p R s m args meth c me) (hr : m_rel D H0 s s0 H) (hlo : ∀ q ∈ locs, H0.size ≤ q.base) (hla : m_lr la ls) {i : Int32} {a n v n2 : Nat} (hd : decode me.2.2.1 pc = .ok (.aastore, 1)) (hT : s0.1 a = some (25, n)) (hV : s0.1 v = some (2, n2)) (h0 : 0 ≤ i.toInt) (h1 : i.toInt < n) (hB : H0.size ≤ a)
    (kk : m_K1 D H0 p l e R s m args below meth c z0 w0 Z (pc + 1) ls st (s0.1, s0.2.1, m_up s0.2.2.1 a i.toNatClampNeg (some v), s0.2.2.2)) : W p l e R s m args below meth c H locs (s0.2.2.2.2.1 - z0) (s0.2.2.2.2.2 - w0) Z (F0 m pc la (.ref v :: .int i :: .ref a :: st)) := by
  obtain ⟨hx, hb, -, -, -, -, -, -, hkn, -⟩ := cx
  obtain ⟨g1, g2⟩ := m_inx h0 h1
  rcases hr.2.2.2 a 25 n hT with ⟨g, -⟩ | ⟨-, -, cell, kA, comp, f1, f2, f3, f4, f5, f6, f7, f8⟩
  · omega
  · rcases hr.2.2.2 v 2 n2 hV with ⟨-, cv, c1, c2, c3, -⟩ | ⟨g, -⟩
    · have hcls := (hkn.1.1 2 ("SwingCrane$Moment", m_T2, 5) rfl).2
      have hcomp : comp = D.1 2 := Option.some.inj ((f6 rfl).symm.trans hcls.1)
      subst hcomp
      obtain ⟨kC, hkC, -⟩ := hcls.2
      refine W.aast hx hb f1 f3 f2 f4 f5 rfl hkC ⟨fun q => g1 (Or.inl q), Nat.lt_of_lt_of_le g2 f7.1⟩ c1 (fun q h => by rw [c3] at h; cases h) (by rw [c2]; exact hkC) (by rw [c2]; exact va_assign hcls) rfl rfl hd fun H' e1 e2 e3 => kk _ _ _ hla ?_ (m_locs hlo hB)
      refine hr.aput hT (by omega) hB g2 f1 e1 e2 e3 rfl rfl (fun _ _ => rfl) (fun b hb => m_up_ne hb) (fun _ _ => rfl) (fun j hj => ?_)
      by_cases ej : j = i.toNatClampNeg <;> simp [m_av, m_up, ej, va_rf]
    · omega
theorem m_s_lal (cx : m_cx en D H0 p R s m args meth c me) (hr : m_rel D H0 s s0 H) (hlo : ∀ q ∈ locs, H0.size ≤ q.base) (hla : m_lr la ls) {i : Int32} {a n : Nat} (hd : decode me.2.2.1 pc = .ok (.laload, 1)) (hT : s0.1 a = some (24, n)) (h0 : 0 ≤ i.toInt) (h1 : i.toInt < n)
    (kk : m_K1 D H0 p l e R s m args below meth c z0 w0 Z (pc + 1) ls (.long (s0.2.2.2.1 a i.toNatClampNeg) :: st) s0) : W p l e R s m args below meth c H locs (s0.2.2.2.2.1 - z0) (s0.2.2.2.2.2 - w0) Z (F0 m pc la (.int i :: .ref a :: st)) := by
  obtain ⟨hx, hb, -⟩ := cx
  obtain ⟨g1, g2⟩ := m_inx h0 h1
  obtain ⟨cell, q1, q2, q3, q4, q5⟩ := hr.arr hT (by omega)
  exact W.lald hx hb q1 q3 q2 (m_inz q4 g1) (q5 _ g2) rfl rfl hd (kk _ _ _ hla hr hlo)
theorem m_s_alen (cx : m_cx en D H0 p R s m args meth c me) (hr : m_rel D H0 s s0 H) (hlo : ∀ q ∈ locs, H0.size ≤ q.base) (hla : m_lr la ls) {a t n : Nat} (hd : decode me.2.2.1 pc = .ok (.arraylength, 1)) (hT : s0.1 a = some (t, n)) (ht : 20 ≤ t)
    (kk : m_K1 D H0 p l e R s m args below meth c z0 w0 Z (pc + 1) ls (.int (Int32.ofNat n) :: st) s0) : W p l e R s m args below meth c H locs (s0.2.2.2.2.1 - z0) (s0.2.2.2.2.2 - w0) Z (F0 m pc la (.ref a :: st)) := by
  obtain ⟨hx, hb, -⟩ := cx
  obtain ⟨cell, q1, q2, q3, q4, q5⟩ := hr.arr hT ht
  exact W.alen hx hb q1 q3 q4.2 rfl rfl hd (kk _ _ _ hla hr hlo)
theorem m_s_gs (cx : m_cx en D H0 p R s m args meth c me) (hr : m_rel D H0 s s0 H) (hlo : ∀ q ∈ locs, H0.size ≤ q.base) (hla : m_lr la ls) {x k : Nat} (hG : m_G me.1 x = some k) (hd : decode me.2.2.1 pc = .ok (.getstatic x, 3))
    (kk : m_K1 D H0 p l e R s m args below meth c z0 w0 Z (pc + 3) ls (.ref (en k) :: st) s0) : W p l e R s m args below meth c H locs (s0.2.2.2.2.1 - z0) (s0.2.2.2.2.2 - w0) Z (F0 m pc la st) := by
  obtain ⟨hx, hb, -, hown, -, -, -, hts, hkn, -⟩ := cx
  obtain ⟨-, -, hn, hz2, hz3, -, -⟩ := hkn
  have old : ∀ {q : Nat}, ¬ H0.size ≤ q → H[q]? = H0[q]? := fun h => hr.2.2.1 _ (Nat.not_le.mp h)
  unfold m_G at hG
  split at hG
  · rename_i e6
    have := m_look hG
    simp [m_G6] at this
    obtain ⟨rfl, rfl⟩ := this
    obtain ⟨cf, kf, fi, f, a, cell, h1, h2, h3, h4, h5, h6, h7, h8⟩ := hz2
    refine va_WgetsN hx hb hown (host := "SwingCrane") ?_ h1 h2 h3 h4 (by rw [old h8]; exact h5) (fun e => by rw [e] at h6; cases h6) h7 rfl hd (kk _ _ _ hla hr hlo)
    rw [show m_cn me.1 = "SwingCrane$Reader" by rw [e6]; rfl]
    exact va_Nw.use rfl hn
  · rename_i e11
    have := m_look hG
    simp [m_G11] at this
    obtain ⟨rfl, rfl⟩ := this
    obtain ⟨cf, kf, fi, f, a, cell, h1, h2, h3, h4, h5, h6, h7, h8⟩ := hz3
    refine W.gets hx hb hown ?_ h1 h2 h3 h4 (by rw [old h8]; exact h5) (fun e => by rw [e] at h6; cases h6) h7 rfl hd (kk _ _ _ hla hr hlo)
    rw [show m_cn me.1 = "SwingCrane" by rw [e11]; rfl]
    exact hts _ m_j_oc
  · cases hG
end SB
