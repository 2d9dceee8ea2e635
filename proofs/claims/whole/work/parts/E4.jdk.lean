/-! the JDK's own methods on the one text -/
/-- what holds where one of them is called -/
def jd_B (en : Nat → Nat) (H0 : Heap) (U : State) : Prop := m_s0 en H0 U ∧ H0.size ≤ U.heap.size ∧ ∀ q, q < H0.size → U.heap[q]? = H0[q]?
def jd_Q (v : Option Value) : Array Value → State → Outcome → State → Prop := fun _ s o t => o = .returned v ∧ t.heap = s.heap
theorem m_s0.same {en : Nat → Nat} {H0 : Heap} {s U : State} (hv : s.vm = U.vm) (h : m_s0 en H0 s) : m_s0 en H0 U := by
  obtain ⟨u, b, g1, g2, g3, g4, g5⟩ := h
  exact ⟨u, b, g1, g2, g3, g4, by rw [← hv]; exact g5⟩
theorem m_s0.warm {en : Nat → Nat} {H0 : Heap} {s U : State} (hW : s.WarmedH U.vm) (h : m_s0 en H0 s) : m_s0 en H0 U := by
  obtain ⟨u, b, g1, g2, g3, g4, g5⟩ := h
  exact ⟨u, b, g1, g2, g3, g4, State.WarmedH.trans g5 hW⟩
theorem jd_blind {en : Nat → Nat} {H0 : Heap} {as : List Value} : FrameBlind (va_Pc as (jd_B en H0)) := by
  intro a U g mk h
  obtain ⟨h1, h2, h3⟩ := h
  exact ⟨h1, m_s0.same (s := U) (U := U.calling g mk a) rfl h2, h3⟩
def jd_rm (k : Nat) : Room := { frames := k, cells := 0, slots := 0, locals := 64 * k + 64 }
def jd_coder : MethodName := ⟨"java/lang/String", "coder", "()B"⟩
def jw_coder : List Cond := [.code jd_coder prog_22_method_152_code 1 (some .byte), .fieldLink "java/lang/String" 38 "java/lang/String" "COMPACT_STRINGS" "Z", .fieldLink "java/lang/String" 15 "java/lang/String" "coder" "B"]
theorem dcd_0 : decode prog_22_method_152_code 0 = .ok (.getstatic 38, 3) := by decide +kernel
theorem dcd_3 : decode prog_22_method_152_code 3 = .ok (.ifCond .eq 10, 3) := by decide +kernel
theorem dcd_6 : decode prog_22_method_152_code 6 = .ok (.aload_n 0, 1) := by decide +kernel
theorem dcd_7 : decode prog_22_method_152_code 7 = .ok (.getfield 15, 3) := by decide +kernel
theorem dcd_10 : decode prog_22_method_152_code 10 = .ok (.goto 4, 3) := by decide +kernel
theorem dcd_14 : decode prog_22_method_152_code 14 = .ok (.ireturn, 1) := by decide +kernel
theorem jd_l1 {n a : Nat} : ((lg_sl [Value.ref a] ++ List.replicate n Slot.unset).toArray)[0]? = some (.val (.ref a)) := rfl
theorem jm_coder {l : Launch} {en : Nat → Nat} {H0 : Heap} {k : Nat} : Met l jd_coder jw_coder (jd_rm k) (va_Pc [.ref (en 1)] (jd_B en H0)) (jd_Q (some (.int 0))) 0 0 (fun _ => False) := by
  refine Met.ofW (cc := prog_22_method_152_code) (maxL := 1) (ret := some .byte) (by decide) rfl ?_
  intro p e s m args below meth c s₁ B hml hv
  obtain ⟨rfl, hB⟩ := hv
  have hts := atoms_spec (ws := jw_coder) B.pre
  have hown : s.vm.findClass "java/lang/String" = some m.cls := findClass_of_methodNamed B.named
  have hx := B.exec
  have hb := B.bytes
  have hlocks := B.notSynchronized
  have hr := B.returns
  have hS : va_S (fun q => H0.size ≤ q) s.heap s.heap [] := ⟨Nat.le_refl _, fun _ _ _ => rfl, fun _ h => absurd h List.not_mem_nil⟩
  have hq : ∀ a : Nat, a < H0.size → ¬ H0.size ≤ a → s.heap[a]? = H0[a]? := fun a q _ => hB.2.2 a q
  obtain ⟨-, -, t, t1, t2, t3, t4⟩ := jd_txt hB.1
  rw [lg_entry_eq]
  refine va_gets hx hb (va_Z.kept (jd_st hB.1).1 hq) hS hown (hts _ (by decide)) (fun x h => h) dcd_0 ?_
  refine lv_if_eq hx hb dcd_3 (tgt := 13) (by decide) (fun q => absurd q (by decide)) (fun _ => ?_)
  refine lv_aload_n hx hb dcd_6 rfl jd_l1 ?_
  refine vk_getf hx hb (va_OF.kept t2 hq) hS hown (hts _ (by decide)) (fun x h => h) dcd_7 ?_
  refine lv_goto hx hb dcd_10 (tgt := 14) (by decide) ?_
  exact W.zret hx hb hr rfl (fun t ht _ => ⟨rfl, ht⟩) (fun q h => absurd h List.not_mem_nil) dcd_14 hlocks
/-- the rest of them -/
def jd_Bt (en : Nat → Nat) (H0 : Heap) (t : Nat) (U : State) : Prop := jd_B en H0 U ∧ jd_S (en 1) t (fun q => H0.size ≤ q) U H0
theorem jd_S.moved {a t : Nat} {A : Nat → Prop} {u U : State} {H : Heap} (hvm : u.vm.Alike U.vm) (h : jd_S a t A u H) : jd_S a t A U H := ⟨h.1.moved hvm, h.2.1.moved hvm, h.2.2.1.moved hvm, h.2.2.2.moved hvm⟩
theorem jd_Bt.warm {en : Nat → Nat} {H0 : Heap} {t : Nat} {s U : State} (h : jd_Bt en H0 t s) (hU : U.heap = s.heap) (hW : s.WarmedH U.vm) : jd_Bt en H0 t U := ⟨⟨h.1.1.warm hW, by rw [hU]; exact h.1.2⟩, h.2.moved hW.alike⟩
theorem jd_blit {en : Nat → Nat} {H0 : Heap} {t : Nat} {as : List Value} : FrameBlind (va_Pc as (jd_Bt en H0 t)) := by
  intro a U g mk h
  obtain ⟨h1, ⟨h2, h3⟩, h4⟩ := h
  exact ⟨h1, ⟨m_s0.same (s := U) (U := U.calling g mk a) rfl h2, h3⟩, jd_S.moved (u := U) (U := U.calling g mk a) (Vm.Alike.refl _) h4⟩
theorem jd_go {p : Program} {l : Launch} {e : Env} {R : Room} {s : State} {m : MethodId} {args : Array Value} {below : List Frame} {meth : Method} {c : Code} {H : Heap} {locs : List Loc} {cells slots pc : Nat} {ls : Array Slot} {st0 rest : List Value} {Q : State → Prop} {v : Option Value} {a : Array Value}
    (hr : va_Run p l e R s m args below meth c H locs cells slots 0 0 (F0 m pc ls st0) rest (jd_Q v a) (fun _ => False)) (kk : W p l e R s m args below meth c H locs cells slots Q (F0 m (pc + 3) ls (v.toList ++ rest))) : W p l e R s m args below meth c H locs cells slots Q (F0 m pc ls st0) := by
  intro T hT X
  obtain ⟨v', st₀, t, T', L, h0, X', hL, e1, e2, ⟨hv, hh⟩, go⟩ := hr T hT X
  cases hv
  have hL0 : L = [] := by
    cases L with
    | nil => rfl
    | cons q L => exact (hL q List.mem_cons_self).elim
  subst hL0
  rw [List.append_nil] at X'
  obtain ⟨t2, a1, b1⟩ := kk T' (e1.trans (hh.trans h0)) X'
  exact ⟨t2, go t2 a1, b1⟩
theorem jd_room {k n : Nat} (hn : n ≤ 20) : (jd_rm k).frames + 1 ≤ (jd_rm (k + 1)).frames ∧ 8 + (n + 11) + (jd_rm k).locals ≤ (jd_rm (k + 1)).locals := by
  unfold jd_rm
  dsimp only
  omega
def jd_isL : MethodName := ⟨"java/lang/String", "isLatin1", "()Z"⟩
def jw_isL : List Cond := .code jd_isL prog_22_method_154_code 1 (some .boolean) :: ([.fieldLink "java/lang/String" 38 "java/lang/String" "COMPACT_STRINGS" "Z", .fieldLink "java/lang/String" 15 "java/lang/String" "coder" "B"])
theorem dil_0 : decode prog_22_method_154_code 0 = .ok (.getstatic 38, 3) := by decide +kernel
theorem dil_3 : decode prog_22_method_154_code 3 = .ok (.ifCond .eq 14, 3) := by decide +kernel
theorem dil_6 : decode prog_22_method_154_code 6 = .ok (.aload_n 0, 1) := by decide +kernel
theorem dil_7 : decode prog_22_method_154_code 7 = .ok (.getfield 15, 3) := by decide +kernel
theorem dil_10 : decode prog_22_method_154_code 10 = .ok (.ifCond .ne 7, 3) := by decide +kernel
theorem dil_13 : decode prog_22_method_154_code 13 = .ok (.iconst 1, 1) := by decide +kernel
theorem dil_14 : decode prog_22_method_154_code 14 = .ok (.goto 4, 3) := by decide +kernel
theorem dil_18 : decode prog_22_method_154_code 18 = .ok (.ireturn, 1) := by decide +kernel
theorem jm_isL {l : Launch} {en : Nat → Nat} {H0 : Heap} {k t : Nat} : Met l jd_isL jw_isL (jd_rm k) (va_Pc [.ref (en 1)] (jd_Bt en H0 t)) (jd_Q (some (.int 1))) 0 0 (fun _ => False) := by
  refine Met.ofW (cc := prog_22_method_154_code) (maxL := 1) (ret := some .boolean) (by decide) rfl ?_
  intro p e s m args below meth c s₁ B hml hv
  obtain ⟨rfl, HB⟩ := hv
  have hts := atoms_spec (ws := jw_isL) B.pre
  have hown : s.vm.findClass "java/lang/String" = some m.cls := findClass_of_methodNamed B.named
  have hx := B.exec
  have hb := B.bytes
  have hlocks := B.notSynchronized
  have hr := B.returns
  have hS : va_S (fun q => H0.size ≤ q) s.heap s.heap [] := ⟨Nat.le_refl _, fun _ _ _ => rfl, fun _ h => absurd h List.not_mem_nil⟩
  have hB := HB.1
  have hq : ∀ a : Nat, a < H0.size → ¬ H0.size ≤ a → s.heap[a]? = H0[a]? := fun a q _ => hB.2.2 a q
  obtain ⟨t1, t2, t3, t4⟩ := HB.2
  have S : CallFix p m c prog_22_method_154_code 1 s _ jw_isL "java/lang/String" := ⟨hx, hb, hml, hown, hts⟩
  have hPre : ∀ U : State, U.heap = s.heap → s.WarmedH U.vm → jd_Bt en H0 t U := fun U hU hW => HB.warm hU hW
  rw [lg_entry_eq]
  refine va_gets hx hb (va_Z.kept (jd_st hB.1).1 hq) hS hown (hts _ (by decide)) (fun x h => h) dil_0 ?_
  refine lv_if_eq hx hb dil_3 (tgt := 17) (by decide) (fun q => absurd q (by decide)) (fun _ => ?_)
  refine lv_aload_n hx hb dil_6 rfl jd_l1 ?_
  refine vk_getf hx hb (va_OF.kept t2 hq) hS hown (hts _ (by decide)) (fun x h => h) dil_7 ?_
  refine lv_if_ne hx hb dil_10 (tgt := 17) (by decide) (fun q => absurd rfl q) (fun _ => ?_)
  refine lv_iconst hx hb dil_13 (v := 1) (by decide) ?_
  refine lv_goto hx hb dil_14 (tgt := 18) (by decide) ?_
  exact W.zret hx hb hr rfl (fun t ht _ => ⟨rfl, ht⟩) (fun q h => absurd h List.not_mem_nil) dil_18 hlocks
theorem jm_cod {l : Launch} {en : Nat → Nat} {H0 : Heap} {k t : Nat} : Met l jd_coder jw_coder (jd_rm k) (va_Pc [.ref (en 1)] (jd_Bt en H0 t)) (jd_Q (some (.int 0))) 0 0 (fun _ => False) := by
  refine Met.ofW (cc := prog_22_method_152_code) (maxL := 1) (ret := some .byte) (by decide) rfl ?_
  intro p e s m args below meth c s₁ B hml hv
  obtain ⟨rfl, HB⟩ := hv
  have hts := atoms_spec (ws := jw_coder) B.pre
  have hown : s.vm.findClass "java/lang/String" = some m.cls := findClass_of_methodNamed B.named
  have hx := B.exec
  have hb := B.bytes
  have hlocks := B.notSynchronized
  have hr := B.returns
  have hS : va_S (fun q => H0.size ≤ q) s.heap s.heap [] := ⟨Nat.le_refl _, fun _ _ _ => rfl, fun _ h => absurd h List.not_mem_nil⟩
  have hB := HB.1
  have hq : ∀ a : Nat, a < H0.size → ¬ H0.size ≤ a → s.heap[a]? = H0[a]? := fun a q _ => hB.2.2 a q
  obtain ⟨t1, t2, t3, t4⟩ := HB.2
  have S : CallFix p m c prog_22_method_152_code 1 s _ jw_coder "java/lang/String" := ⟨hx, hb, hml, hown, hts⟩
  have hPre : ∀ U : State, U.heap = s.heap → s.WarmedH U.vm → jd_Bt en H0 t U := fun U hU hW => HB.warm hU hW
  rw [lg_entry_eq]
  refine va_gets hx hb (va_Z.kept (jd_st hB.1).1 hq) hS hown (hts _ (by decide)) (fun x h => h) dcd_0 ?_
  refine lv_if_eq hx hb dcd_3 (tgt := 13) (by decide) (fun q => absurd q (by decide)) (fun _ => ?_)
  refine lv_aload_n hx hb dcd_6 rfl jd_l1 ?_
  refine vk_getf hx hb (va_OF.kept t2 hq) hS hown (hts _ (by decide)) (fun x h => h) dcd_7 ?_
  refine lv_goto hx hb dcd_10 (tgt := 14) (by decide) ?_
  exact W.zret hx hb hr rfl (fun t ht _ => ⟨rfl, ht⟩) (fun q h => absurd h List.not_mem_nil) dcd_14 hlocks
def jd_lgt : MethodName := ⟨"java/lang/String", "length", "()I"⟩
def jw_len : List Cond := .code jd_lgt prog_22_method_54_code 1 (some .int) :: ((.fieldLink "java/lang/String" 9 "java/lang/String" "value" "[B") :: wsV "java/lang/String" 335 "java/lang/String" jd_coder jw_coder)
theorem dln_0 : decode prog_22_method_54_code 0 = .ok (.aload_n 0, 1) := by decide +kernel
theorem dln_1 : decode prog_22_method_54_code 1 = .ok (.getfield 9, 3) := by decide +kernel
theorem dln_4 : decode prog_22_method_54_code 4 = .ok (.arraylength, 1) := by decide +kernel
theorem dln_5 : decode prog_22_method_54_code 5 = .ok (.aload_n 0, 1) := by decide +kernel
theorem dln_6 : decode prog_22_method_54_code 6 = .ok (.invokevirtual 335, 3) := by decide +kernel
theorem dln_9 : decode prog_22_method_54_code 9 = .ok (.ishr, 1) := by decide +kernel
theorem dln_10 : decode prog_22_method_54_code 10 = .ok (.ireturn, 1) := by decide +kernel
theorem jm_len {l : Launch} {en : Nat → Nat} {H0 : Heap} {k t : Nat} : Met l jd_lgt jw_len (jd_rm (k + 1)) (va_Pc [.ref (en 1)] (jd_Bt en H0 t)) (jd_Q (some (.int 92))) 0 0 (fun _ => False) := by
  refine Met.ofW (cc := prog_22_method_54_code) (maxL := 1) (ret := some .int) (by decide) rfl ?_
  intro p e s m args below meth c s₁ B hml hv
  obtain ⟨rfl, HB⟩ := hv
  have hts := atoms_spec (ws := jw_len) B.pre
  have hown : s.vm.findClass "java/lang/String" = some m.cls := findClass_of_methodNamed B.named
  have hx := B.exec
  have hb := B.bytes
  have hlocks := B.notSynchronized
  have hr := B.returns
  have hS : va_S (fun q => H0.size ≤ q) s.heap s.heap [] := ⟨Nat.le_refl _, fun _ _ _ => rfl, fun _ h => absurd h List.not_mem_nil⟩
  have hB := HB.1
  have hq : ∀ a : Nat, a < H0.size → ¬ H0.size ≤ a → s.heap[a]? = H0[a]? := fun a q _ => hB.2.2 a q
  obtain ⟨t1, t2, t3, t4⟩ := HB.2
  have S : CallFix p m c prog_22_method_54_code 1 s _ jw_len "java/lang/String" := ⟨hx, hb, hml, hown, hts⟩
  have hPre : ∀ U : State, U.heap = s.heap → s.WarmedH U.vm → jd_Bt en H0 t U := fun U hU hW => HB.warm hU hW
  rw [lg_entry_eq]
  obtain ⟨cl, c1, c2, c3, -⟩ := va_O.kept t1 hq
  refine lv_aload_n hx hb dln_0 rfl jd_l1 ?_
  refine vk_getf hx hb (va_OF.kept t3 hq) hS hown (hts _ (by decide)) (fun x h => h) dln_1 ?_
  refine va_tlen hx hb (va_T.kept t4 hq) hS (v := 92) rfl dln_4 ?_
  refine lv_aload_n hx hb dln_5 rfl jd_l1 ?_
  refine jd_go (va_runV (As := []) (rest := [.int 92]) S (jm_cod (k := k)) (cwV 0 hts (goodIn_of _ (by decide +kernel)) rfl rfl rfl ⟨rfl, by decide, by decide, by decide +kernel⟩ (jd_room (by decide))) ⟨jd_blit, ⟨cl, c1, c2, c3⟩, fun U hU hW => ⟨rfl, hPre U hU hW⟩⟩ rfl rfl rfl rfl (lv_room (by decide)) dln_6 ⟨Nat.le_refl _, Nat.le_refl _⟩) ?_
  refine lv_ishr hx hb dln_9 ?_
  exact W.iret hx hb hr (fun t ht _ => ⟨by decide, ht⟩) (fun q h => absurd h List.not_mem_nil) dln_10 hlocks
def jd_pci : MethodName := ⟨"jdk/internal/util/Preconditions", "checkIndex", "(IILjava/util/function/BiFunction;)I"⟩
def jw_pci : List Cond := .code jd_pci prog_29_method_11_code 3 (some .int) :: ([])
theorem dpc_0 : decode prog_29_method_11_code 0 = .ok (.iload_n 0, 1) := by decide +kernel
theorem dpc_1 : decode prog_29_method_11_code 1 = .ok (.ifCond .lt 8, 3) := by decide +kernel
theorem dpc_4 : decode prog_29_method_11_code 4 = .ok (.iload_n 0, 1) := by decide +kernel
theorem dpc_5 : decode prog_29_method_11_code 5 = .ok (.iload_n 1, 1) := by decide +kernel
theorem dpc_6 : decode prog_29_method_11_code 6 = .ok (.if_icmp .lt 10, 3) := by decide +kernel
theorem dpc_16 : decode prog_29_method_11_code 16 = .ok (.iload_n 0, 1) := by decide +kernel
theorem dpc_17 : decode prog_29_method_11_code 17 = .ok (.ireturn, 1) := by decide +kernel
theorem jd_p0 {n : Nat} {i j : Int32} {f : Value} (hf : f = .null ∨ ∃ a, f = .ref a) : ((lg_sl [Value.int i, Value.int j, f] ++ List.replicate n Slot.unset).toArray)[0]? = some (.val (.int i)) ∧ ((lg_sl [Value.int i, Value.int j, f] ++ List.replicate n Slot.unset).toArray)[1]? = some (.val (.int j)) := by
  rcases hf with rfl | ⟨a, rfl⟩ <;> exact ⟨rfl, rfl⟩
theorem jm_pci {l : Launch} {en : Nat → Nat} {H0 : Heap} {k t : Nat} {i : Int32} {f : Value} (h0 : ¬ i < 0) (h1 : i < 92) (hf : f = .null ∨ ∃ a, f = .ref a) : Met l jd_pci jw_pci (jd_rm k) (va_Pc [.int i, .int 92, f] (jd_Bt en H0 t)) (jd_Q (some (.int i))) 0 0 (fun _ => False) := by
  refine Met.ofW (cc := prog_29_method_11_code) (maxL := 3) (ret := some .int) (by decide) rfl ?_
  intro p e s m args below meth c s₁ B hml hv
  obtain ⟨rfl, HB⟩ := hv
  have hts := atoms_spec (ws := jw_pci) B.pre
  have hown : s.vm.findClass "jdk/internal/util/Preconditions" = some m.cls := findClass_of_methodNamed B.named
  have hx := B.exec
  have hb := B.bytes
  have hlocks := B.notSynchronized
  have hr := B.returns
  have hS : va_S (fun q => H0.size ≤ q) s.heap s.heap [] := ⟨Nat.le_refl _, fun _ _ _ => rfl, fun _ h => absurd h List.not_mem_nil⟩
  have hB := HB.1
  have hq : ∀ a : Nat, a < H0.size → ¬ H0.size ≤ a → s.heap[a]? = H0[a]? := fun a q _ => hB.2.2 a q
  obtain ⟨t1, t2, t3, t4⟩ := HB.2
  have S : CallFix p m c prog_29_method_11_code 3 s _ jw_pci "jdk/internal/util/Preconditions" := ⟨hx, hb, hml, hown, hts⟩
  have hPre : ∀ U : State, U.heap = s.heap → s.WarmedH U.vm → jd_Bt en H0 t U := fun U hU hW => HB.warm hU hW
  rw [lg_entry_eq]
  obtain ⟨l0, l1⟩ := jd_p0 (n := 3 - (lg_sl [Value.int i, Value.int 92, f]).length) (i := i) (j := 92) hf
  refine lv_iload_n hx hb dpc_0 rfl l0 ?_
  refine lv_if_lt hx hb dpc_1 (tgt := 9) (by decide) (fun q => absurd q h0) (fun _ => ?_)
  refine lv_iload_n hx hb dpc_4 rfl l0 ?_
  refine lv_iload_n hx hb dpc_5 rfl l1 ?_
  refine lv_icmp_lt hx hb dpc_6 (tgt := 16) (by decide) (fun _ => ?_) (fun q => absurd h1 q)
  refine lv_iload_n hx hb dpc_16 rfl l0 ?_
  exact W.iret hx hb hr (fun t ht _ => ⟨rfl, ht⟩) (fun q h => absurd h List.not_mem_nil) dpc_17 hlocks
def jd_sci : MethodName := ⟨"java/lang/String", "checkIndex", "(II)V"⟩
def jw_sci : List Cond := .code jd_sci prog_22_method_155_code 2 none :: ([.fieldLink "java/lang/String" 1053 "jdk/internal/util/Preconditions" "SIOOBE_FORMATTER" "Ljava/util/function/BiFunction;", .methodLink "java/lang/String" 1059 jd_pci, .static jd_pci, .initialized "jdk/internal/util/Preconditions"] ++ jw_pci)
theorem dsc_0 : decode prog_22_method_155_code 0 = .ok (.iload_n 0, 1) := by decide +kernel
theorem dsc_1 : decode prog_22_method_155_code 1 = .ok (.iload_n 1, 1) := by decide +kernel
theorem dsc_2 : decode prog_22_method_155_code 2 = .ok (.getstatic 1053, 3) := by decide +kernel
theorem dsc_5 : decode prog_22_method_155_code 5 = .ok (.invokestatic 1059, 3) := by decide +kernel
theorem dsc_8 : decode prog_22_method_155_code 8 = .ok (.pop, 1) := by decide +kernel
theorem dsc_9 : decode prog_22_method_155_code 9 = .ok (.return_, 1) := by decide +kernel
theorem jm_sci {l : Launch} {en : Nat → Nat} {H0 : Heap} {k t : Nat} {i : Int32} (h0 : ¬ i < 0) (h1 : i < 92) : Met l jd_sci jw_sci (jd_rm (k + 1)) (va_Pc [.int i, .int 92] (jd_Bt en H0 t)) (jd_Q none) 0 0 (fun _ => False) := by
  refine Met.ofW (cc := prog_22_method_155_code) (maxL := 2) (ret := none) (by decide) rfl ?_
  intro p e s m args below meth c s₁ B hml hv
  obtain ⟨rfl, HB⟩ := hv
  have hts := atoms_spec (ws := jw_sci) B.pre
  have hown : s.vm.findClass "java/lang/String" = some m.cls := findClass_of_methodNamed B.named
  have hx := B.exec
  have hb := B.bytes
  have hlocks := B.notSynchronized
  have hr := B.returns
  have hS : va_S (fun q => H0.size ≤ q) s.heap s.heap [] := ⟨Nat.le_refl _, fun _ _ _ => rfl, fun _ h => absurd h List.not_mem_nil⟩
  have hB := HB.1
  have hq : ∀ a : Nat, a < H0.size → ¬ H0.size ≤ a → s.heap[a]? = H0[a]? := fun a q _ => hB.2.2 a q
  obtain ⟨t1, t2, t3, t4⟩ := HB.2
  have S : CallFix p m c prog_22_method_155_code 2 s _ jw_sci "java/lang/String" := ⟨hx, hb, hml, hown, hts⟩
  have hPre : ∀ U : State, U.heap = s.heap → s.WarmedH U.vm → jd_Bt en H0 t U := fun U hU hW => HB.warm hU hW
  rw [lg_entry_eq]
  obtain ⟨f, hf, hz⟩ := (jd_st hB.1).2
  refine lv_iload_n hx hb dsc_0 rfl rfl ?_
  refine lv_iload_n hx hb dsc_1 rfl rfl ?_
  refine va_gets hx hb (va_Z.kept hz hq) hS hown (hts _ (by decide)) (fun x h => h) dsc_2 ?_
  refine jd_go (va_runS (As := [.int i, .int 92, f]) (rest := []) S (jm_pci (k := k) h0 h1 hf) ⟨callB_of 3 hts (goodIn_of _ (by decide +kernel)) rfl rfl rfl (hts _ (by decide +kernel)) (hts _ (by decide +kernel)) ⟨by decide, by decide, by decide +kernel⟩ (jd_room (by decide)), hts _ (by decide +kernel)⟩ ⟨jd_blit, fun U hU hW => ⟨rfl, hPre U hU hW⟩⟩ rfl rfl rfl rfl (lv_room (by decide)) dsc_5 ⟨Nat.le_refl _, Nat.le_refl _⟩) ?_
  refine lv_pop hx hb dsc_8 rfl ?_
  exact W.vret hx hb hr (fun t ht _ => ⟨rfl, ht⟩) (fun q h => absurd h List.not_mem_nil) dsc_9 hlocks
def jd_lca : MethodName := ⟨"java/lang/StringLatin1", "charAt", "([BI)C"⟩
def jw_lca : List Cond := .code jd_lca prog_23_method_2_code 2 (some .char) :: ([.methodLink "java/lang/StringLatin1" 9 jd_sci, .static jd_sci, .initialized "java/lang/String"] ++ jw_sci)
theorem dlc_0 : decode prog_23_method_2_code 0 = .ok (.iload_n 1, 1) := by decide +kernel
theorem dlc_1 : decode prog_23_method_2_code 1 = .ok (.aload_n 0, 1) := by decide +kernel
theorem dlc_2 : decode prog_23_method_2_code 2 = .ok (.arraylength, 1) := by decide +kernel
theorem dlc_3 : decode prog_23_method_2_code 3 = .ok (.invokestatic 9, 3) := by decide +kernel
theorem dlc_6 : decode prog_23_method_2_code 6 = .ok (.aload_n 0, 1) := by decide +kernel
theorem dlc_7 : decode prog_23_method_2_code 7 = .ok (.iload_n 1, 1) := by decide +kernel
theorem dlc_8 : decode prog_23_method_2_code 8 = .ok (.baload, 1) := by decide +kernel
theorem dlc_9 : decode prog_23_method_2_code 9 = .ok (.sipush 255, 3) := by decide +kernel
theorem dlc_12 : decode prog_23_method_2_code 12 = .ok (.iand, 1) := by decide +kernel
theorem dlc_13 : decode prog_23_method_2_code 13 = .ok (.i2c, 1) := by decide +kernel
theorem dlc_14 : decode prog_23_method_2_code 14 = .ok (.ireturn, 1) := by decide +kernel
theorem jd_chr : ∀ j : Nat, j < 92 → ((Int32.ofNat (m_txt.getD j 0) &&& 255).toUInt32 % 65536).toInt32 = Int32.ofNat (m_txt.getD j 0) ∧ narrow .char (.int (Int32.ofNat (m_txt.getD j 0))) = .int (Int32.ofNat (m_txt.getD j 0)) := by decide +kernel
theorem jm_lca {l : Launch} {en : Nat → Nat} {H0 : Heap} {k t : Nat} {i : Int32} (h0 : ¬ i < 0) (h1 : i < 92) (h2 : i.toNatClampNeg < 92) : Met l jd_lca jw_lca (jd_rm (k + 2)) (va_Pc [.ref t, .int i] (jd_Bt en H0 t)) (jd_Q (some (.int (Int32.ofNat (m_txt.getD i.toNatClampNeg 0))))) 0 0 (fun _ => False) := by
  refine Met.ofW (cc := prog_23_method_2_code) (maxL := 2) (ret := some .char) (by decide) rfl ?_
  intro p e s m args below meth c s₁ B hml hv
  obtain ⟨rfl, HB⟩ := hv
  have hts := atoms_spec (ws := jw_lca) B.pre
  have hown : s.vm.findClass "java/lang/StringLatin1" = some m.cls := findClass_of_methodNamed B.named
  have hx := B.exec
  have hb := B.bytes
  have hlocks := B.notSynchronized
  have hr := B.returns
  have hS : va_S (fun q => H0.size ≤ q) s.heap s.heap [] := ⟨Nat.le_refl _, fun _ _ _ => rfl, fun _ h => absurd h List.not_mem_nil⟩
  have hB := HB.1
  have hq : ∀ a : Nat, a < H0.size → ¬ H0.size ≤ a → s.heap[a]? = H0[a]? := fun a q _ => hB.2.2 a q
  obtain ⟨t1, t2, t3, t4⟩ := HB.2
  have S : CallFix p m c prog_23_method_2_code 2 s _ jw_lca "java/lang/StringLatin1" := ⟨hx, hb, hml, hown, hts⟩
  have hPre : ∀ U : State, U.heap = s.heap → s.WarmedH U.vm → jd_Bt en H0 t U := fun U hU hW => HB.warm hU hW
  rw [lg_entry_eq]
  refine lv_iload_n hx hb dlc_0 rfl rfl ?_
  refine lv_aload_n hx hb dlc_1 rfl rfl ?_
  refine va_tlen hx hb (va_T.kept t4 hq) hS (v := 92) rfl dlc_2 ?_
  refine jd_go (va_runS (As := [.int i, .int 92]) (rest := []) S (jm_sci (k := k) h0 h1) ⟨callB_of 2 hts (goodIn_of _ (by decide +kernel)) rfl rfl rfl (hts _ (by decide +kernel)) (hts _ (by decide +kernel)) ⟨by decide, by decide, by decide +kernel⟩ (jd_room (by decide)), hts _ (by decide +kernel)⟩ ⟨jd_blit, fun U hU hW => ⟨rfl, hPre U hU hW⟩⟩ rfl rfl rfl rfl (lv_room (by decide)) dlc_3 ⟨Nat.le_refl _, Nat.le_refl _⟩) ?_
  refine lv_aload_n hx hb dlc_6 rfl rfl ?_
  refine lv_iload_n hx hb dlc_7 rfl rfl ?_
  refine va_tb hx hb (va_T.kept t4 hq) hS (fun q => q.elim h0 (fun q => absurd h2 (Nat.not_lt.mpr q))) rfl dlc_8 ?_
  refine lv_sipush hx hb dlc_9 (v := 255) (by decide) ?_
  refine lv_iand hx hb dlc_12 ?_
  refine lv_i2c hx hb dlc_13 (jd_chr _ h2).1 ?_
  exact W.zret hx hb hr (jd_chr _ h2).2 (fun t ht _ => ⟨rfl, ht⟩) (fun q h => absurd h List.not_mem_nil) dlc_14 hlocks
def jd_sca : MethodName := ⟨"java/lang/String", "charAt", "(I)C"⟩
def jw_sca : List Cond := .code jd_sca prog_22_method_56_code 2 (some .char) :: ((.fieldLink "java/lang/String" 9 "java/lang/String" "value" "[B") :: (wsV "java/lang/String" 492 "java/lang/String" jd_isL jw_isL ++ ([.methodLink "java/lang/String" 495 jd_lca, .static jd_lca, .initialized "java/lang/StringLatin1"] ++ jw_lca)))
theorem dsa_0 : decode prog_22_method_56_code 0 = .ok (.aload_n 0, 1) := by decide +kernel
theorem dsa_1 : decode prog_22_method_56_code 1 = .ok (.invokevirtual 492, 3) := by decide +kernel
theorem dsa_4 : decode prog_22_method_56_code 4 = .ok (.ifCond .eq 12, 3) := by decide +kernel
theorem dsa_7 : decode prog_22_method_56_code 7 = .ok (.aload_n 0, 1) := by decide +kernel
theorem dsa_8 : decode prog_22_method_56_code 8 = .ok (.getfield 9, 3) := by decide +kernel
theorem dsa_11 : decode prog_22_method_56_code 11 = .ok (.iload_n 1, 1) := by decide +kernel
theorem dsa_12 : decode prog_22_method_56_code 12 = .ok (.invokestatic 495, 3) := by decide +kernel
theorem dsa_15 : decode prog_22_method_56_code 15 = .ok (.ireturn, 1) := by decide +kernel
theorem jm_sca {l : Launch} {en : Nat → Nat} {H0 : Heap} {k t : Nat} {i : Int32} (h0 : ¬ i < 0) (h1 : i < 92) (h2 : i.toNatClampNeg < 92) : Met l jd_sca jw_sca (jd_rm (k + 3)) (va_Pc [.ref (en 1), .int i] (jd_Bt en H0 t)) (jd_Q (some (.int (Int32.ofNat (m_txt.getD i.toNatClampNeg 0))))) 0 0 (fun _ => False) := by
  refine Met.ofW (cc := prog_22_method_56_code) (maxL := 2) (ret := some .char) (by decide) rfl ?_
  intro p e s m args below meth c s₁ B hml hv
  obtain ⟨rfl, HB⟩ := hv
  have hts := atoms_spec (ws := jw_sca) B.pre
  have hown : s.vm.findClass "java/lang/String" = some m.cls := findClass_of_methodNamed B.named
  have hx := B.exec
  have hb := B.bytes
  have hlocks := B.notSynchronized
  have hr := B.returns
  have hS : va_S (fun q => H0.size ≤ q) s.heap s.heap [] := ⟨Nat.le_refl _, fun _ _ _ => rfl, fun _ h => absurd h List.not_mem_nil⟩
  have hB := HB.1
  have hq : ∀ a : Nat, a < H0.size → ¬ H0.size ≤ a → s.heap[a]? = H0[a]? := fun a q _ => hB.2.2 a q
  obtain ⟨t1, t2, t3, t4⟩ := HB.2
  have S : CallFix p m c prog_22_method_56_code 2 s _ jw_sca "java/lang/String" := ⟨hx, hb, hml, hown, hts⟩
  have hPre : ∀ U : State, U.heap = s.heap → s.WarmedH U.vm → jd_Bt en H0 t U := fun U hU hW => HB.warm hU hW
  rw [lg_entry_eq]
  obtain ⟨cl, c1, c2, c3, -⟩ := va_O.kept t1 hq
  refine lv_aload_n hx hb dsa_0 rfl rfl ?_
  refine jd_go (va_runV (As := []) (rest := []) S (jm_isL (k := k + 2)) (cwV 0 hts (goodIn_of _ (by decide +kernel)) rfl rfl rfl ⟨rfl, by decide, by decide, by decide +kernel⟩ (jd_room (by decide))) ⟨jd_blit, ⟨cl, c1, c2, c3⟩, fun U hU hW => ⟨rfl, hPre U hU hW⟩⟩ rfl rfl rfl rfl (lv_room (by decide)) dsa_1 ⟨Nat.le_refl _, Nat.le_refl _⟩) ?_
  refine lv_if_eq hx hb dsa_4 (tgt := 16) (by decide) (fun q => absurd q (by decide)) (fun _ => ?_)
  refine lv_aload_n hx hb dsa_7 rfl rfl ?_
  refine vk_getf hx hb (va_OF.kept t3 hq) hS hown (hts _ (by decide)) (fun x h => h) dsa_8 ?_
  refine lv_iload_n hx hb dsa_11 rfl rfl ?_
  refine jd_go (va_runS (As := [.ref t, .int i]) (rest := []) S (jm_lca (k := k) h0 h1 h2) ⟨callB_of 2 hts (goodIn_of _ (by decide +kernel)) rfl rfl rfl (hts _ (by decide +kernel)) (hts _ (by decide +kernel)) ⟨by decide, by decide, by decide +kernel⟩ (jd_room (by decide)), hts _ (by decide +kernel)⟩ ⟨jd_blit, fun U hU hW => ⟨rfl, hPre U hU hW⟩⟩ rfl rfl rfl rfl (lv_room (by decide)) dsa_12 ⟨Nat.le_refl _, Nat.le_refl _⟩) ?_
  exact W.zret hx hb hr (jd_chr _ h2).2 (fun t ht _ => ⟨rfl, ht⟩) (fun q h => absurd h List.not_mem_nil) dsa_15 hlocks
