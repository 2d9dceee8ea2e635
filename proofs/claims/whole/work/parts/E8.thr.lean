/-! the class's now where it throws -/
def nw_g (w : Cond) : Bool := goodWord w || (match w with | .declares _ => true | .castable _ _ => true | _ => false)
theorem nw_word {en : Nat → Nat} {H0 : Heap} {U : State} (h : m_s0 en H0 U) {w : Cond} (hw : w ∈ tables_1) (hg : nw_g w = true) (A : Array Value) : w.before A U = true := by
  obtain ⟨u, b, g1, g2, g3, g4, g5⟩ := h
  have hu := g3 w (m_inT hw)
  unfold nw_g at hg
  by_cases hgw : goodWord w = true
  · exact word_at g5 (good_of_word hgw) hu
  · rw [Bool.eq_false_iff.mpr hgw, Bool.false_or] at hg
    split at hg
    · exact va_Nw.use rfl (va_Nw.warmD g5 (va_Nw.of rfl hu))
    · exact va_Nw.use rfl (va_Nw.warmC g5 (va_Nw.of rfl hu))
    · cases hg
def nw_io : String := "java/lang/IndexOutOfBoundsException"
def nw_no : String := "java/util/NoSuchElementException"
def nw_up : List String := ["java/lang/RuntimeException", "java/lang/Exception"]
def nw_13 : ByteArray := ⟨#[0x2a, 0x2b, 0xb7, 0x00, 0x0d, 0xb1]⟩
theorem nw_upf : ∀ n ∈ nw_up, Bundle.fit n = true := by decide +kernel
set_option maxRecDepth 100000 in
theorem nw_w1 : ∀ w ∈ Cond.classLink "SwingCrane" 137 nw_io :: Cond.initialized nw_io :: nx_at "SwingCrane" 141 nw_io 7 Bundle.six nw_up, w ∈ tables_1 ∧ nw_g w = true ∧ vx_ot w = true := by decide +kernel
set_option maxRecDepth 100000 in
theorem nw_w2 : ∀ w ∈ Cond.classLink "SwingCrane" 182 nw_no :: Cond.initialized nw_no :: nx_at "SwingCrane" 186 nw_no 13 nw_13 nw_up, w ∈ tables_1 ∧ nw_g w = true ∧ vx_ot w = true := by decide +kernel
set_option maxRecDepth 100000 in
theorem nw_w3 : (Cond.stringRef "SwingCrane" 139 "what is below 0" ∈ tables_1 ∧ Cond.stringRef "SwingCrane" 184 "what is above 8" ∈ tables_1) ∧ (Cond.laysStatic Bundle.tN "UNASSIGNED_STACK" Bundle.steD ∈ tables_1 ∧ Cond.laysStatic Bundle.tN "SUPPRESSED_SENTINEL" Bundle.listD ∈ tables_1 ∧ Cond.initialized Bundle.tN ∈ tables_1) := by decide +kernel
set_option maxRecDepth 100000 in
theorem nw_w4 : (Cond.exactly (Term.string "SwingCrane" 139) "java/lang/String" ∈ flatC (Jvm.Cond.and given_1 narrow_1) ∧ Cond.exactly (Term.string "SwingCrane" 184) "java/lang/String" ∈ flatC (Jvm.Cond.and given_1 narrow_1)) ∧ (Cond.isRef (.static Bundle.tN "UNASSIGNED_STACK" Bundle.steD) ∈ flatC (Jvm.Cond.and given_1 narrow_1) ∧ Cond.isRef (.static Bundle.tN "SUPPRESSED_SENTINEL" Bundle.listD) ∈ flatC (Jvm.Cond.and given_1 narrow_1)) ∧ Cond.not (.castable nw_no nw_io) ∈ flatC (Jvm.Cond.and given_1 narrow_1) := by decide +kernel
/-- where the texts of the two throws lie -/
theorem nw_str {en : Nat → Nat} {H0 : Heap} {U : State} (h : m_s0 en H0 U) : (∃ a, vk_R "SwingCrane" 139 "what is below 0" a U) ∧ ∃ a, vk_R "SwingCrane" 184 "what is above 8" a U := by
  obtain ⟨u, b, g1, g2, g3, g4, g5⟩ := h
  have hs := flat_of_before _ g2
  obtain ⟨a1, c1, cA1, kA1, q1, -⟩ := Cond.exactly_spec (args := #[Value.ref b]) (first := u) (o := none) (s := u) (idx := []) (hs _ nw_w4.1.1)
  obtain ⟨a2, c2, cA2, kA2, q2, -⟩ := Cond.exactly_spec (args := #[Value.ref b]) (first := u) (o := none) (s := u) (idx := []) (hs _ nw_w4.1.2)
  exact ⟨⟨a1, vk_R.warm g5 (vk_R.of (g3 _ (m_inT nw_w3.1.1)) q1)⟩, ⟨a2, vk_R.warm g5 (vk_R.of (g3 _ (m_inT nw_w3.1.2)) q2)⟩⟩
theorem nw_Z {en : Nat → Nat} {H0 : Heap} {U : State} (h : m_s0 en H0 U) : vx_Zq Bundle.tN "UNASSIGNED_STACK" Bundle.steD (fun q => H0.size ≤ q) U H0 ∧ vx_Zq Bundle.tN "SUPPRESSED_SENTINEL" Bundle.listD (fun q => H0.size ≤ q) U H0 := by
  obtain ⟨u, b, g1, g2, g3, g4, g5⟩ := h
  have hs := flat_of_before _ g2
  have hA : ∀ a : Nat, a < u.heap.size → ¬ H0.size ≤ a := fun a q q2 => by rw [← g1] at q2; omega
  have z1 := vx_Zq.moved g5.alike (vx_Zqof (A := fun q => H0.size ≤ q) (g3 _ (m_inT nw_w3.2.1)) (g3 _ (m_inT nw_w3.2.2.2)) (hs _ nw_w4.2.1.1) hA)
  have z2 := vx_Zq.moved g5.alike (vx_Zqof (A := fun q => H0.size ≤ q) (g3 _ (m_inT nw_w3.2.2.1)) (g3 _ (m_inT nw_w3.2.2.2)) (hs _ nw_w4.2.1.2) hA)
  rw [g1] at z1 z2
  exact ⟨z1, z2⟩
def nw_b (s : m_S) : m_S := (s.1, s.2.1, s.2.2.1, s.2.2.2.1, s.2.2.2.2.1 + 1, s.2.2.2.2.2 + 6)
def nw_X (D : va_G) (H0 : Heap) (E0 : String) (s1 : m_S) : String → State → State → Prop := fun E _ t => E = E0 ∧ m_rel D H0 t s1 t.heap
section NWT
variable {en : Nat → Nat} {D : va_G} {H0 : Heap} {p : Program} {l : Launch} {e : Env} {R : Room} {s : State} {m : MethodId} {args : Array Value} {below : List Frame} {meth : Method} {c : Code}
variable {H : Heap} {locs : List Loc} {cells slots : Nat} {la : Array Slot} {s0 : m_S}
theorem nw_rel (hr : m_rel D H0 s s0 H) {H1 : Heap} (hz : H1.size = H.size + 1) (hq : ∀ q : Nat, q < H.size → H1[q]? = H[q]?) : m_rel D H0 s (nw_b s0) H1 :=
  hr.new (s' := nw_b s0) hz hq rfl (fun _ _ => rfl) (fun _ _ => rfl) (fun _ _ => rfl) (fun _ _ => rfl) (fun t n hT => absurd ((hr.2.2.2 _).lt hT) (by rw [hr.1]; exact Nat.lt_irrefl _))
theorem nw_thr (cx : m_cx en D H0 p R s m args meth c mSc_now) (hl : l.stackTraces = false) (htab : ∀ x ∈ c.exceptionTable.toList, False) (hr : m_rel D H0 s s0 H) (hlo : ∀ q ∈ locs, H0.size ≤ q.base) (hsz : la.size = 3)
    {cls text : String} {pc ik is ic ix : Nat} {rx : ByteArray} (x0 : decode rx 0 = .ok (.aload_n 0, 1)) (x1 : decode rx 1 = .ok (.aload_n 1, 1)) (x2 : decode rx 2 = .ok (.invokespecial ix, 3)) (x5 : decode rx 5 = .ok (.return_, 1)) (hcls : Bundle.fit cls = true)
    (hw : ∀ w ∈ Cond.classLink "SwingCrane" ik cls :: Cond.initialized cls :: nx_at "SwingCrane" ic cls ix rx nw_up, w ∈ tables_1 ∧ nw_g w = true ∧ vx_ot w = true) (hstr : ∃ sa, vk_R "SwingCrane" is text sa s)
    (d0 : decode prog_1_method_8_code pc = .ok (.new ik, 3)) (d3 : decode prog_1_method_8_code (pc + 3) = .ok (.dup, 1)) (d4 : decode prog_1_method_8_code (pc + 4) = .ok (.ldc is, 2)) (d6 : decode prog_1_method_8_code (pc + 6) = .ok (.invokespecial ic, 3)) (d9 : decode prog_1_method_8_code (pc + 9) = .ok (.athrow, 1))
    (hR : cells + 1 ≤ R.cells ∧ slots + 6 ≤ R.slots) {mc ms : Nat} (hc : cells + 1 ≤ mc) (hs : slots + 6 ≤ ms) {Qc : Array Value → State → Outcome → State → Prop} :
    W p l e R s m args below meth c H locs cells slots (vx_MQ below Qc (nw_X D H0 cls (nw_b s0)) args s mc ms (fun q => H0.size ≤ q)) (F0 m pc la []) := by
  obtain ⟨hx, hb, hml, hown, -, -, hlk, hts, hkn, hfr, hlc⟩ := cx
  have h0 := hkn.2.2.2.2.2.2.2
  obtain ⟨zU, zN⟩ := nw_Z h0
  have hq : ∀ a : Nat, a < H0.size → ¬ H0.size ≤ a → H[a]? = H0[a]? := fun a q _ => hr.2.2.1 a q
  obtain ⟨sa, hstr⟩ := hstr
  have hww := fun w hw' => nw_word h0 (hw w hw').1 (hw w hw').2.1 args
  refine nx_make (cc := prog_1_method_8_code) (own := "SwingCrane") (names := nw_up) hx hb hl x0 x1 x2 x5 hown hcls nw_upf (hww _ List.mem_cons_self) (hww _ (List.mem_cons_of_mem _ List.mem_cons_self)) hstr (fun w q => hww w (List.mem_cons_of_mem _ (List.mem_cons_of_mem _ q))) (fun w q => (hw w q).2.2) (zU.kept hq) (zN.kept hq) (hsz.trans hml.symm) d0 d3 d4 d6 (by show 2 + 3 < _; omega) (by show 0 + (13 * (2 + 1) + 43) ≤ _; omega) hR.1 hR.2 (fun H1 ce k1 k2 k3 k4 k5 => ?_)
  refine vx_athrow hx hb d9 (vx_out (fun x q => (htab x q).elim) hlk k3 k4 k5 (fun t ht hA => ⟨rfl, ?_⟩) hlo hc hs)
  rw [ht]
  exact (nw_rel hr k1 k2).moved hA
end NWT
