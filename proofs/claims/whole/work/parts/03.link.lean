/-! the words that the small machine stands on, by wip/whole/gen/genlink.py -/
theorem m_inT {w : Cond} (h : w ∈ tables_1) : w ∈ lw_tbl := List.mem_append_right _ h
theorem m_in1 {w : Cond} (h : w ∈ tables_1_1) : w ∈ lw_tbl := m_inT (List.mem_append_left _ h)
theorem m_in2 {w : Cond} (h : w ∈ tables_1_2) : w ∈ lw_tbl := m_inT (List.mem_append_right _ (List.mem_append_left _ h))
theorem m_in3 {w : Cond} (h : w ∈ tables_1_3) : w ∈ lw_tbl := m_inT (List.mem_append_right _ (List.mem_append_right _ (List.mem_append_left _ h)))
theorem m_in4 {w : Cond} (h : w ∈ tables_1_4) : w ∈ lw_tbl := m_inT (List.mem_append_right _ (List.mem_append_right _ (List.mem_append_right _ (List.mem_append_left _ h))))
theorem m_in5 {w : Cond} (h : w ∈ tables_1_5) : w ∈ lw_tbl := m_inT (List.mem_append_right _ (List.mem_append_right _ (List.mem_append_right _ (List.mem_append_right _ (List.mem_append_left _ h)))))
theorem m_in6 {w : Cond} (h : w ∈ tables_1_6) : w ∈ lw_tbl := m_inT (List.mem_append_right _ (List.mem_append_right _ (List.mem_append_right _ (List.mem_append_right _ (List.mem_append_right _ (List.mem_append_left _ h))))))
theorem m_in7 {w : Cond} (h : w ∈ tables_1_7) : w ∈ lw_tbl := m_inT (List.mem_append_right _ (List.mem_append_right _ (List.mem_append_right _ (List.mem_append_right _ (List.mem_append_right _ (List.mem_append_right _ (List.mem_append_left _ h)))))))
theorem m_in8 {w : Cond} (h : w ∈ tables_1_8) : w ∈ lw_tbl := m_inT (List.mem_append_right _ (List.mem_append_right _ (List.mem_append_right _ (List.mem_append_right _ (List.mem_append_right _ (List.mem_append_right _ (List.mem_append_right _ (List.mem_append_left _ h))))))))
theorem m_in9 {w : Cond} (h : w ∈ tables_1_9) : w ∈ lw_tbl := m_inT (List.mem_append_right _ (List.mem_append_right _ (List.mem_append_right _ (List.mem_append_right _ (List.mem_append_right _ (List.mem_append_right _ (List.mem_append_right _ (List.mem_append_right _ (h)))))))))
def m_gw : List Cond := lw_tbl.filter goodWord
theorem m_gwI {w : Cond} (h : w ∈ lw_tbl) (g : goodWord w = true) : w ∈ m_gw := List.mem_filter.mpr ⟨h, g⟩
theorem m_gwT {w : Cond} (h : w ∈ m_gw) : w ∈ lw_tbl ∧ goodWord w = true := List.mem_filter.mp h
theorem m_look {α : Type} {k : Nat} {v : α} : ∀ {l : List (Nat × α)}, l.lookup k = some v → (k, v) ∈ l
  | [], h => by cases h
  | (a, b) :: l, h => by
    rw [List.lookup_cons] at h
    by_cases e : k = a
    · subst e
      simp at h
      rw [h]; exact List.mem_cons_self
    · have e2 : (k == a) = false := by simpa using e
      rw [e2] at h
      exact List.mem_cons_of_mem _ (m_look h)
def m_Fp (c : Nat) (q : Nat × Nat × Nat) : Prop := q.2.1 < 13 ∧ q.2.2 < m_W q.2.1 ∧ Cond.fieldLink (m_cn c) q.1 (m_T q.2.1 q.2.2).1 (m_T q.2.1 q.2.2).2.1 (m_T q.2.1 q.2.2).2.2.1 ∈ m_gw
set_option maxRecDepth 100000 in
theorem m_F0_ok : ∀ q ∈ m_F0, m_Fp 0 q := List.forall_mem_cons.mpr ⟨⟨by decide, by decide, m_gwI (m_in3 (List.mem_of_getElem? (i := 46) rfl)) rfl⟩,
  List.forall_mem_cons.mpr ⟨⟨by decide, by decide, m_gwI (m_in3 (List.mem_of_getElem? (i := 47) rfl)) rfl⟩,
  List.forall_mem_cons.mpr ⟨⟨by decide, by decide, m_gwI (m_in3 (List.mem_of_getElem? (i := 48) rfl)) rfl⟩,
  List.forall_mem_cons.mpr ⟨⟨by decide, by decide, m_gwI (m_in3 (List.mem_of_getElem? (i := 49) rfl)) rfl⟩,
  List.forall_mem_cons.mpr ⟨⟨by decide, by decide, m_gwI (m_in3 (List.mem_of_getElem? (i := 50) rfl)) rfl⟩,
  List.forall_mem_cons.mpr ⟨⟨by decide, by decide, m_gwI (m_in3 (List.mem_of_getElem? (i := 51) rfl)) rfl⟩,
  List.forall_mem_cons.mpr ⟨⟨by decide, by decide, m_gwI (m_in3 (List.mem_of_getElem? (i := 54) rfl)) rfl⟩,
  List.forall_mem_cons.mpr ⟨⟨by decide, by decide, m_gwI (m_in2 (List.mem_of_getElem? (i := 49) rfl)) rfl⟩,
  List.forall_mem_cons.mpr ⟨⟨by decide, by decide, m_gwI (m_in2 (List.mem_of_getElem? (i := 224) rfl)) rfl⟩,
  List.forall_mem_cons.mpr ⟨⟨by decide, by decide, m_gwI (m_in3 (List.mem_of_getElem? (i := 53) rfl)) rfl⟩,
  List.forall_mem_cons.mpr ⟨⟨by decide, by decide, m_gwI (m_in2 (List.mem_of_getElem? (i := 211) rfl)) rfl⟩,
  List.forall_mem_cons.mpr ⟨⟨by decide, by decide, m_gwI (m_in1 (List.mem_of_getElem? (i := 104) rfl)) rfl⟩,
  List.forall_mem_cons.mpr ⟨⟨by decide, by decide, m_gwI (m_in1 (List.mem_of_getElem? (i := 97) rfl)) rfl⟩,
  List.forall_mem_cons.mpr ⟨⟨by decide, by decide, m_gwI (m_in1 (List.mem_of_getElem? (i := 100) rfl)) rfl⟩,
  fun _ h => absurd h List.not_mem_nil⟩⟩⟩⟩⟩⟩⟩⟩⟩⟩⟩⟩⟩⟩
set_option maxRecDepth 100000 in
theorem m_F1_ok : ∀ q ∈ m_F1, m_Fp 1 q := List.forall_mem_cons.mpr ⟨⟨by decide, by decide, m_gwI (m_in2 (List.mem_of_getElem? (i := 87) rfl)) rfl⟩,
  List.forall_mem_cons.mpr ⟨⟨by decide, by decide, m_gwI (m_in2 (List.mem_of_getElem? (i := 88) rfl)) rfl⟩,
  List.forall_mem_cons.mpr ⟨⟨by decide, by decide, m_gwI (m_in2 (List.mem_of_getElem? (i := 89) rfl)) rfl⟩,
  fun _ h => absurd h List.not_mem_nil⟩⟩⟩
set_option maxRecDepth 100000 in
theorem m_F2_ok : ∀ q ∈ m_F2, m_Fp 2 q := List.forall_mem_cons.mpr ⟨⟨by decide, by decide, m_gwI (m_in2 (List.mem_of_getElem? (i := 45) rfl)) rfl⟩,
  List.forall_mem_cons.mpr ⟨⟨by decide, by decide, m_gwI (m_in2 (List.mem_of_getElem? (i := 48) rfl)) rfl⟩,
  List.forall_mem_cons.mpr ⟨⟨by decide, by decide, m_gwI (m_in2 (List.mem_of_getElem? (i := 52) rfl)) rfl⟩,
  List.forall_mem_cons.mpr ⟨⟨by decide, by decide, m_gwI (m_in2 (List.mem_of_getElem? (i := 55) rfl)) rfl⟩,
  List.forall_mem_cons.mpr ⟨⟨by decide, by decide, m_gwI (m_in2 (List.mem_of_getElem? (i := 57) rfl)) rfl⟩,
  List.forall_mem_cons.mpr ⟨⟨by decide, by decide, m_gwI (m_in1 (List.mem_of_getElem? (i := 70) rfl)) rfl⟩,
  List.forall_mem_cons.mpr ⟨⟨by decide, by decide, m_gwI (m_in1 (List.mem_of_getElem? (i := 73) rfl)) rfl⟩,
  List.forall_mem_cons.mpr ⟨⟨by decide, by decide, m_gwI (m_in1 (List.mem_of_getElem? (i := 78) rfl)) rfl⟩,
  fun _ h => absurd h List.not_mem_nil⟩⟩⟩⟩⟩⟩⟩⟩
set_option maxRecDepth 100000 in
theorem m_F3_ok : ∀ q ∈ m_F3, m_Fp 3 q := List.forall_mem_cons.mpr ⟨⟨by decide, by decide, m_gwI (m_in2 (List.mem_of_getElem? (i := 106) rfl)) rfl⟩,
  List.forall_mem_cons.mpr ⟨⟨by decide, by decide, m_gwI (m_in2 (List.mem_of_getElem? (i := 107) rfl)) rfl⟩,
  List.forall_mem_cons.mpr ⟨⟨by decide, by decide, m_gwI (m_in2 (List.mem_of_getElem? (i := 108) rfl)) rfl⟩,
  fun _ h => absurd h List.not_mem_nil⟩⟩⟩
set_option maxRecDepth 100000 in
theorem m_F4_ok : ∀ q ∈ m_F4, m_Fp 4 q := List.forall_mem_cons.mpr ⟨⟨by decide, by decide, m_gwI (m_in1 (List.mem_of_getElem? (i := 75) rfl)) rfl⟩,
  List.forall_mem_cons.mpr ⟨⟨by decide, by decide, m_gwI (m_in1 (List.mem_of_getElem? (i := 77) rfl)) rfl⟩,
  List.forall_mem_cons.mpr ⟨⟨by decide, by decide, m_gwI (m_in1 (List.mem_of_getElem? (i := 80) rfl)) rfl⟩,
  List.forall_mem_cons.mpr ⟨⟨by decide, by decide, m_gwI (m_in1 (List.mem_of_getElem? (i := 82) rfl)) rfl⟩,
  List.forall_mem_cons.mpr ⟨⟨by decide, by decide, m_gwI (m_in1 (List.mem_of_getElem? (i := 85) rfl)) rfl⟩,
  List.forall_mem_cons.mpr ⟨⟨by decide, by decide, m_gwI (m_in1 (List.mem_of_getElem? (i := 88) rfl)) rfl⟩,
  List.forall_mem_cons.mpr ⟨⟨by decide, by decide, m_gwI (m_in1 (List.mem_of_getElem? (i := 90) rfl)) rfl⟩,
  List.forall_mem_cons.mpr ⟨⟨by decide, by decide, m_gwI (m_in1 (List.mem_of_getElem? (i := 92) rfl)) rfl⟩,
  List.forall_mem_cons.mpr ⟨⟨by decide, by decide, m_gwI (m_in1 (List.mem_of_getElem? (i := 94) rfl)) rfl⟩,
  List.forall_mem_cons.mpr ⟨⟨by decide, by decide, m_gwI (m_in1 (List.mem_of_getElem? (i := 96) rfl)) rfl⟩,
  List.forall_mem_cons.mpr ⟨⟨by decide, by decide, m_gwI (m_in1 (List.mem_of_getElem? (i := 99) rfl)) rfl⟩,
  List.forall_mem_cons.mpr ⟨⟨by decide, by decide, m_gwI (m_in1 (List.mem_of_getElem? (i := 102) rfl)) rfl⟩,
  List.forall_mem_cons.mpr ⟨⟨by decide, by decide, m_gwI (m_in1 (List.mem_of_getElem? (i := 49) rfl)) rfl⟩,
  List.forall_mem_cons.mpr ⟨⟨by decide, by decide, m_gwI (m_in1 (List.mem_of_getElem? (i := 53) rfl)) rfl⟩,
  List.forall_mem_cons.mpr ⟨⟨by decide, by decide, m_gwI (m_in1 (List.mem_of_getElem? (i := 58) rfl)) rfl⟩,
  List.forall_mem_cons.mpr ⟨⟨by decide, by decide, m_gwI (m_in1 (List.mem_of_getElem? (i := 62) rfl)) rfl⟩,
  List.forall_mem_cons.mpr ⟨⟨by decide, by decide, m_gwI (m_in1 (List.mem_of_getElem? (i := 66) rfl)) rfl⟩,
  List.forall_mem_cons.mpr ⟨⟨by decide, by decide, m_gwI (m_in1 (List.mem_of_getElem? (i := 69) rfl)) rfl⟩,
  List.forall_mem_cons.mpr ⟨⟨by decide, by decide, m_gwI (m_in1 (List.mem_of_getElem? (i := 72) rfl)) rfl⟩,
  fun _ h => absurd h List.not_mem_nil⟩⟩⟩⟩⟩⟩⟩⟩⟩⟩⟩⟩⟩⟩⟩⟩⟩⟩⟩
set_option maxRecDepth 100000 in
theorem m_F5_ok : ∀ q ∈ m_F5, m_Fp 5 q := List.forall_mem_cons.mpr ⟨⟨by decide, by decide, m_gwI (m_in2 (List.mem_of_getElem? (i := 15) rfl)) rfl⟩,
  List.forall_mem_cons.mpr ⟨⟨by decide, by decide, m_gwI (m_in2 (List.mem_of_getElem? (i := 18) rfl)) rfl⟩,
  List.forall_mem_cons.mpr ⟨⟨by decide, by decide, m_gwI (m_in2 (List.mem_of_getElem? (i := 22) rfl)) rfl⟩,
  List.forall_mem_cons.mpr ⟨⟨by decide, by decide, m_gwI (m_in2 (List.mem_of_getElem? (i := 27) rfl)) rfl⟩,
  List.forall_mem_cons.mpr ⟨⟨by decide, by decide, m_gwI (m_in2 (List.mem_of_getElem? (i := 30) rfl)) rfl⟩,
  fun _ h => absurd h List.not_mem_nil⟩⟩⟩⟩⟩
set_option maxRecDepth 100000 in
theorem m_F6_ok : ∀ q ∈ m_F6, m_Fp 6 q := List.forall_mem_cons.mpr ⟨⟨by decide, by decide, m_gwI (m_in1 (List.mem_of_getElem? (i := 203) rfl)) rfl⟩,
  List.forall_mem_cons.mpr ⟨⟨by decide, by decide, m_gwI (m_in1 (List.mem_of_getElem? (i := 206) rfl)) rfl⟩,
  List.forall_mem_cons.mpr ⟨⟨by decide, by decide, m_gwI (m_in1 (List.mem_of_getElem? (i := 212) rfl)) rfl⟩,
  List.forall_mem_cons.mpr ⟨⟨by decide, by decide, m_gwI (m_in1 (List.mem_of_getElem? (i := 210) rfl)) rfl⟩,
  List.forall_mem_cons.mpr ⟨⟨by decide, by decide, m_gwI (m_in1 (List.mem_of_getElem? (i := 205) rfl)) rfl⟩,
  List.forall_mem_cons.mpr ⟨⟨by decide, by decide, m_gwI (m_in1 (List.mem_of_getElem? (i := 209) rfl)) rfl⟩,
  List.forall_mem_cons.mpr ⟨⟨by decide, by decide, m_gwI (m_in1 (List.mem_of_getElem? (i := 213) rfl)) rfl⟩,
  List.forall_mem_cons.mpr ⟨⟨by decide, by decide, m_gwI (m_in1 (List.mem_of_getElem? (i := 215) rfl)) rfl⟩,
  List.forall_mem_cons.mpr ⟨⟨by decide, by decide, m_gwI (m_in1 (List.mem_of_getElem? (i := 216) rfl)) rfl⟩,
  List.forall_mem_cons.mpr ⟨⟨by decide, by decide, m_gwI (m_in1 (List.mem_of_getElem? (i := 105) rfl)) rfl⟩,
  List.forall_mem_cons.mpr ⟨⟨by decide, by decide, m_gwI (m_in1 (List.mem_of_getElem? (i := 214) rfl)) rfl⟩,
  List.forall_mem_cons.mpr ⟨⟨by decide, by decide, m_gwI (m_in1 (List.mem_of_getElem? (i := 217) rfl)) rfl⟩,
  List.forall_mem_cons.mpr ⟨⟨by decide, by decide, m_gwI (m_in1 (List.mem_of_getElem? (i := 51) rfl)) rfl⟩,
  List.forall_mem_cons.mpr ⟨⟨by decide, by decide, m_gwI (m_in1 (List.mem_of_getElem? (i := 56) rfl)) rfl⟩,
  List.forall_mem_cons.mpr ⟨⟨by decide, by decide, m_gwI (m_in1 (List.mem_of_getElem? (i := 60) rfl)) rfl⟩,
  List.forall_mem_cons.mpr ⟨⟨by decide, by decide, m_gwI (m_in1 (List.mem_of_getElem? (i := 64) rfl)) rfl⟩,
  List.forall_mem_cons.mpr ⟨⟨by decide, by decide, m_gwI (m_in1 (List.mem_of_getElem? (i := 71) rfl)) rfl⟩,
  List.forall_mem_cons.mpr ⟨⟨by decide, by decide, m_gwI (m_in1 (List.mem_of_getElem? (i := 74) rfl)) rfl⟩,
  List.forall_mem_cons.mpr ⟨⟨by decide, by decide, m_gwI (m_in1 (List.mem_of_getElem? (i := 67) rfl)) rfl⟩,
  List.forall_mem_cons.mpr ⟨⟨by decide, by decide, m_gwI (m_in1 (List.mem_of_getElem? (i := 76) rfl)) rfl⟩,
  List.forall_mem_cons.mpr ⟨⟨by decide, by decide, m_gwI (m_in1 (List.mem_of_getElem? (i := 81) rfl)) rfl⟩,
  List.forall_mem_cons.mpr ⟨⟨by decide, by decide, m_gwI (m_in1 (List.mem_of_getElem? (i := 84) rfl)) rfl⟩,
  List.forall_mem_cons.mpr ⟨⟨by decide, by decide, m_gwI (m_in1 (List.mem_of_getElem? (i := 87) rfl)) rfl⟩,
  List.forall_mem_cons.mpr ⟨⟨by decide, by decide, m_gwI (m_in1 (List.mem_of_getElem? (i := 89) rfl)) rfl⟩,
  List.forall_mem_cons.mpr ⟨⟨by decide, by decide, m_gwI (m_in1 (List.mem_of_getElem? (i := 91) rfl)) rfl⟩,
  List.forall_mem_cons.mpr ⟨⟨by decide, by decide, m_gwI (m_in1 (List.mem_of_getElem? (i := 93) rfl)) rfl⟩,
  List.forall_mem_cons.mpr ⟨⟨by decide, by decide, m_gwI (m_in1 (List.mem_of_getElem? (i := 95) rfl)) rfl⟩,
  List.forall_mem_cons.mpr ⟨⟨by decide, by decide, m_gwI (m_in1 (List.mem_of_getElem? (i := 79) rfl)) rfl⟩,
  List.forall_mem_cons.mpr ⟨⟨by decide, by decide, m_gwI (m_in1 (List.mem_of_getElem? (i := 98) rfl)) rfl⟩,
  List.forall_mem_cons.mpr ⟨⟨by decide, by decide, m_gwI (m_in1 (List.mem_of_getElem? (i := 101) rfl)) rfl⟩,
  fun _ h => absurd h List.not_mem_nil⟩⟩⟩⟩⟩⟩⟩⟩⟩⟩⟩⟩⟩⟩⟩⟩⟩⟩⟩⟩⟩⟩⟩⟩⟩⟩⟩⟩⟩⟩
set_option maxRecDepth 100000 in
theorem m_F7_ok : ∀ q ∈ m_F7, m_Fp 7 q := List.forall_mem_cons.mpr ⟨⟨by decide, by decide, m_gwI (m_in3 (List.mem_of_getElem? (i := 20) rfl)) rfl⟩,
  List.forall_mem_cons.mpr ⟨⟨by decide, by decide, m_gwI (m_in3 (List.mem_of_getElem? (i := 21) rfl)) rfl⟩,
  List.forall_mem_cons.mpr ⟨⟨by decide, by decide, m_gwI (m_in3 (List.mem_of_getElem? (i := 22) rfl)) rfl⟩,
  List.forall_mem_cons.mpr ⟨⟨by decide, by decide, m_gwI (m_in3 (List.mem_of_getElem? (i := 23) rfl)) rfl⟩,
  List.forall_mem_cons.mpr ⟨⟨by decide, by decide, m_gwI (m_in3 (List.mem_of_getElem? (i := 26) rfl)) rfl⟩,
  List.forall_mem_cons.mpr ⟨⟨by decide, by decide, m_gwI (m_in2 (List.mem_of_getElem? (i := 223) rfl)) rfl⟩,
  List.forall_mem_cons.mpr ⟨⟨by decide, by decide, m_gwI (m_in3 (List.mem_of_getElem? (i := 25) rfl)) rfl⟩,
  List.forall_mem_cons.mpr ⟨⟨by decide, by decide, m_gwI (m_in1 (List.mem_of_getElem? (i := 103) rfl)) rfl⟩,
  fun _ h => absurd h List.not_mem_nil⟩⟩⟩⟩⟩⟩⟩⟩
set_option maxRecDepth 100000 in
theorem m_F8_ok : ∀ q ∈ m_F8, m_Fp 8 q := List.forall_mem_cons.mpr ⟨⟨by decide, by decide, m_gwI (m_in2 (List.mem_of_getElem? (i := 173) rfl)) rfl⟩,
  List.forall_mem_cons.mpr ⟨⟨by decide, by decide, m_gwI (m_in2 (List.mem_of_getElem? (i := 174) rfl)) rfl⟩,
  List.forall_mem_cons.mpr ⟨⟨by decide, by decide, m_gwI (m_in2 (List.mem_of_getElem? (i := 177) rfl)) rfl⟩,
  List.forall_mem_cons.mpr ⟨⟨by decide, by decide, m_gwI (m_in2 (List.mem_of_getElem? (i := 181) rfl)) rfl⟩,
  List.forall_mem_cons.mpr ⟨⟨by decide, by decide, m_gwI (m_in2 (List.mem_of_getElem? (i := 182) rfl)) rfl⟩,
  List.forall_mem_cons.mpr ⟨⟨by decide, by decide, m_gwI (m_in2 (List.mem_of_getElem? (i := 178) rfl)) rfl⟩,
  List.forall_mem_cons.mpr ⟨⟨by decide, by decide, m_gwI (m_in2 (List.mem_of_getElem? (i := 179) rfl)) rfl⟩,
  List.forall_mem_cons.mpr ⟨⟨by decide, by decide, m_gwI (m_in2 (List.mem_of_getElem? (i := 180) rfl)) rfl⟩,
  List.forall_mem_cons.mpr ⟨⟨by decide, by decide, m_gwI (m_in2 (List.mem_of_getElem? (i := 175) rfl)) rfl⟩,
  List.forall_mem_cons.mpr ⟨⟨by decide, by decide, m_gwI (m_in2 (List.mem_of_getElem? (i := 176) rfl)) rfl⟩,
  List.forall_mem_cons.mpr ⟨⟨by decide, by decide, m_gwI (m_in2 (List.mem_of_getElem? (i := 133) rfl)) rfl⟩,
  List.forall_mem_cons.mpr ⟨⟨by decide, by decide, m_gwI (m_in2 (List.mem_of_getElem? (i := 25) rfl)) rfl⟩,
  fun _ h => absurd h List.not_mem_nil⟩⟩⟩⟩⟩⟩⟩⟩⟩⟩⟩⟩
set_option maxRecDepth 100000 in
theorem m_F9_ok : ∀ q ∈ m_F9, m_Fp 9 q := List.forall_mem_cons.mpr ⟨⟨by decide, by decide, m_gwI (m_in2 (List.mem_of_getElem? (i := 139) rfl)) rfl⟩,
  List.forall_mem_cons.mpr ⟨⟨by decide, by decide, m_gwI (m_in2 (List.mem_of_getElem? (i := 140) rfl)) rfl⟩,
  List.forall_mem_cons.mpr ⟨⟨by decide, by decide, m_gwI (m_in1 (List.mem_of_getElem? (i := 48) rfl)) rfl⟩,
  List.forall_mem_cons.mpr ⟨⟨by decide, by decide, m_gwI (m_in2 (List.mem_of_getElem? (i := 129) rfl)) rfl⟩,
  List.forall_mem_cons.mpr ⟨⟨by decide, by decide, m_gwI (m_in1 (List.mem_of_getElem? (i := 54) rfl)) rfl⟩,
  List.forall_mem_cons.mpr ⟨⟨by decide, by decide, m_gwI (m_in2 (List.mem_of_getElem? (i := 130) rfl)) rfl⟩,
  List.forall_mem_cons.mpr ⟨⟨by decide, by decide, m_gwI (m_in1 (List.mem_of_getElem? (i := 59) rfl)) rfl⟩,
  List.forall_mem_cons.mpr ⟨⟨by decide, by decide, m_gwI (m_in2 (List.mem_of_getElem? (i := 131) rfl)) rfl⟩,
  List.forall_mem_cons.mpr ⟨⟨by decide, by decide, m_gwI (m_in1 (List.mem_of_getElem? (i := 63) rfl)) rfl⟩,
  List.forall_mem_cons.mpr ⟨⟨by decide, by decide, m_gwI (m_in2 (List.mem_of_getElem? (i := 132) rfl)) rfl⟩,
  List.forall_mem_cons.mpr ⟨⟨by decide, by decide, m_gwI (m_in2 (List.mem_of_getElem? (i := 135) rfl)) rfl⟩,
  List.forall_mem_cons.mpr ⟨⟨by decide, by decide, m_gwI (m_in2 (List.mem_of_getElem? (i := 136) rfl)) rfl⟩,
  List.forall_mem_cons.mpr ⟨⟨by decide, by decide, m_gwI (m_in2 (List.mem_of_getElem? (i := 137) rfl)) rfl⟩,
  List.forall_mem_cons.mpr ⟨⟨by decide, by decide, m_gwI (m_in2 (List.mem_of_getElem? (i := 134) rfl)) rfl⟩,
  List.forall_mem_cons.mpr ⟨⟨by decide, by decide, m_gwI (m_in2 (List.mem_of_getElem? (i := 138) rfl)) rfl⟩,
  List.forall_mem_cons.mpr ⟨⟨by decide, by decide, m_gwI (m_in2 (List.mem_of_getElem? (i := 16) rfl)) rfl⟩,
  List.forall_mem_cons.mpr ⟨⟨by decide, by decide, m_gwI (m_in2 (List.mem_of_getElem? (i := 19) rfl)) rfl⟩,
  List.forall_mem_cons.mpr ⟨⟨by decide, by decide, m_gwI (m_in2 (List.mem_of_getElem? (i := 31) rfl)) rfl⟩,
  List.forall_mem_cons.mpr ⟨⟨by decide, by decide, m_gwI (m_in2 (List.mem_of_getElem? (i := 23) rfl)) rfl⟩,
  List.forall_mem_cons.mpr ⟨⟨by decide, by decide, m_gwI (m_in2 (List.mem_of_getElem? (i := 28) rfl)) rfl⟩,
  fun _ h => absurd h List.not_mem_nil⟩⟩⟩⟩⟩⟩⟩⟩⟩⟩⟩⟩⟩⟩⟩⟩⟩⟩⟩⟩
set_option maxRecDepth 100000 in
theorem m_F10_ok : ∀ q ∈ m_F10, m_Fp 10 q := List.forall_mem_cons.mpr ⟨⟨by decide, by decide, m_gwI (m_in2 (List.mem_of_getElem? (i := 206) rfl)) rfl⟩,
  List.forall_mem_cons.mpr ⟨⟨by decide, by decide, m_gwI (m_in2 (List.mem_of_getElem? (i := 207) rfl)) rfl⟩,
  List.forall_mem_cons.mpr ⟨⟨by decide, by decide, m_gwI (m_in2 (List.mem_of_getElem? (i := 208) rfl)) rfl⟩,
  List.forall_mem_cons.mpr ⟨⟨by decide, by decide, m_gwI (m_in2 (List.mem_of_getElem? (i := 210) rfl)) rfl⟩,
  List.forall_mem_cons.mpr ⟨⟨by decide, by decide, m_gwI (m_in2 (List.mem_of_getElem? (i := 212) rfl)) rfl⟩,
  List.forall_mem_cons.mpr ⟨⟨by decide, by decide, m_gwI (m_in2 (List.mem_of_getElem? (i := 213) rfl)) rfl⟩,
  List.forall_mem_cons.mpr ⟨⟨by decide, by decide, m_gwI (m_in2 (List.mem_of_getElem? (i := 214) rfl)) rfl⟩,
  List.forall_mem_cons.mpr ⟨⟨by decide, by decide, m_gwI (m_in2 (List.mem_of_getElem? (i := 215) rfl)) rfl⟩,
  List.forall_mem_cons.mpr ⟨⟨by decide, by decide, m_gwI (m_in2 (List.mem_of_getElem? (i := 219) rfl)) rfl⟩,
  List.forall_mem_cons.mpr ⟨⟨by decide, by decide, m_gwI (m_in2 (List.mem_of_getElem? (i := 220) rfl)) rfl⟩,
  List.forall_mem_cons.mpr ⟨⟨by decide, by decide, m_gwI (m_in2 (List.mem_of_getElem? (i := 217) rfl)) rfl⟩,
  List.forall_mem_cons.mpr ⟨⟨by decide, by decide, m_gwI (m_in2 (List.mem_of_getElem? (i := 222) rfl)) rfl⟩,
  List.forall_mem_cons.mpr ⟨⟨by decide, by decide, m_gwI (m_in2 (List.mem_of_getElem? (i := 50) rfl)) rfl⟩,
  List.forall_mem_cons.mpr ⟨⟨by decide, by decide, m_gwI (m_in2 (List.mem_of_getElem? (i := 53) rfl)) rfl⟩,
  List.forall_mem_cons.mpr ⟨⟨by decide, by decide, m_gwI (m_in2 (List.mem_of_getElem? (i := 218) rfl)) rfl⟩,
  List.forall_mem_cons.mpr ⟨⟨by decide, by decide, m_gwI (m_in2 (List.mem_of_getElem? (i := 216) rfl)) rfl⟩,
  List.forall_mem_cons.mpr ⟨⟨by decide, by decide, m_gwI (m_in1 (List.mem_of_getElem? (i := 83) rfl)) rfl⟩,
  List.forall_mem_cons.mpr ⟨⟨by decide, by decide, m_gwI (m_in1 (List.mem_of_getElem? (i := 86) rfl)) rfl⟩,
  List.forall_mem_cons.mpr ⟨⟨by decide, by decide, m_gwI (m_in2 (List.mem_of_getElem? (i := 46) rfl)) rfl⟩,
  List.forall_mem_cons.mpr ⟨⟨by decide, by decide, m_gwI (m_in2 (List.mem_of_getElem? (i := 26) rfl)) rfl⟩,
  List.forall_mem_cons.mpr ⟨⟨by decide, by decide, m_gwI (m_in2 (List.mem_of_getElem? (i := 21) rfl)) rfl⟩,
  List.forall_mem_cons.mpr ⟨⟨by decide, by decide, m_gwI (m_in2 (List.mem_of_getElem? (i := 33) rfl)) rfl⟩,
  List.forall_mem_cons.mpr ⟨⟨by decide, by decide, m_gwI (m_in1 (List.mem_of_getElem? (i := 50) rfl)) rfl⟩,
  List.forall_mem_cons.mpr ⟨⟨by decide, by decide, m_gwI (m_in1 (List.mem_of_getElem? (i := 55) rfl)) rfl⟩,
  fun _ h => absurd h List.not_mem_nil⟩⟩⟩⟩⟩⟩⟩⟩⟩⟩⟩⟩⟩⟩⟩⟩⟩⟩⟩⟩⟩⟩⟩⟩
set_option maxRecDepth 100000 in
theorem m_F11_ok : ∀ q ∈ m_F11, m_Fp 11 q := List.forall_mem_cons.mpr ⟨⟨by decide, by decide, m_gwI (m_in3 (List.mem_of_getElem? (i := 108) rfl)) rfl⟩,
  List.forall_mem_cons.mpr ⟨⟨by decide, by decide, m_gwI (m_in3 (List.mem_of_getElem? (i := 109) rfl)) rfl⟩,
  List.forall_mem_cons.mpr ⟨⟨by decide, by decide, m_gwI (m_in3 (List.mem_of_getElem? (i := 110) rfl)) rfl⟩,
  List.forall_mem_cons.mpr ⟨⟨by decide, by decide, m_gwI (m_in3 (List.mem_of_getElem? (i := 111) rfl)) rfl⟩,
  List.forall_mem_cons.mpr ⟨⟨by decide, by decide, m_gwI (m_in3 (List.mem_of_getElem? (i := 112) rfl)) rfl⟩,
  List.forall_mem_cons.mpr ⟨⟨by decide, by decide, m_gwI (m_in3 (List.mem_of_getElem? (i := 113) rfl)) rfl⟩,
  List.forall_mem_cons.mpr ⟨⟨by decide, by decide, m_gwI (m_in3 (List.mem_of_getElem? (i := 114) rfl)) rfl⟩,
  List.forall_mem_cons.mpr ⟨⟨by decide, by decide, m_gwI (m_in3 (List.mem_of_getElem? (i := 116) rfl)) rfl⟩,
  List.forall_mem_cons.mpr ⟨⟨by decide, by decide, m_gwI (m_in3 (List.mem_of_getElem? (i := 117) rfl)) rfl⟩,
  List.forall_mem_cons.mpr ⟨⟨by decide, by decide, m_gwI (m_in3 (List.mem_of_getElem? (i := 118) rfl)) rfl⟩,
  List.forall_mem_cons.mpr ⟨⟨by decide, by decide, m_gwI (m_in3 (List.mem_of_getElem? (i := 119) rfl)) rfl⟩,
  List.forall_mem_cons.mpr ⟨⟨by decide, by decide, m_gwI (m_in1 (List.mem_of_getElem? (i := 204) rfl)) rfl⟩,
  List.forall_mem_cons.mpr ⟨⟨by decide, by decide, m_gwI (m_in1 (List.mem_of_getElem? (i := 207) rfl)) rfl⟩,
  List.forall_mem_cons.mpr ⟨⟨by decide, by decide, m_gwI (m_in3 (List.mem_of_getElem? (i := 115) rfl)) rfl⟩,
  List.forall_mem_cons.mpr ⟨⟨by decide, by decide, m_gwI (m_in1 (List.mem_of_getElem? (i := 208) rfl)) rfl⟩,
  List.forall_mem_cons.mpr ⟨⟨by decide, by decide, m_gwI (m_in1 (List.mem_of_getElem? (i := 211) rfl)) rfl⟩,
  List.forall_mem_cons.mpr ⟨⟨by decide, by decide, m_gwI (m_in2 (List.mem_of_getElem? (i := 56) rfl)) rfl⟩,
  List.forall_mem_cons.mpr ⟨⟨by decide, by decide, m_gwI (m_in2 (List.mem_of_getElem? (i := 47) rfl)) rfl⟩,
  List.forall_mem_cons.mpr ⟨⟨by decide, by decide, m_gwI (m_in2 (List.mem_of_getElem? (i := 17) rfl)) rfl⟩,
  List.forall_mem_cons.mpr ⟨⟨by decide, by decide, m_gwI (m_in2 (List.mem_of_getElem? (i := 20) rfl)) rfl⟩,
  List.forall_mem_cons.mpr ⟨⟨by decide, by decide, m_gwI (m_in2 (List.mem_of_getElem? (i := 24) rfl)) rfl⟩,
  List.forall_mem_cons.mpr ⟨⟨by decide, by decide, m_gwI (m_in2 (List.mem_of_getElem? (i := 29) rfl)) rfl⟩,
  List.forall_mem_cons.mpr ⟨⟨by decide, by decide, m_gwI (m_in2 (List.mem_of_getElem? (i := 32) rfl)) rfl⟩,
  List.forall_mem_cons.mpr ⟨⟨by decide, by decide, m_gwI (m_in2 (List.mem_of_getElem? (i := 209) rfl)) rfl⟩,
  List.forall_mem_cons.mpr ⟨⟨by decide, by decide, m_gwI (m_in2 (List.mem_of_getElem? (i := 54) rfl)) rfl⟩,
  List.forall_mem_cons.mpr ⟨⟨by decide, by decide, m_gwI (m_in2 (List.mem_of_getElem? (i := 51) rfl)) rfl⟩,
  List.forall_mem_cons.mpr ⟨⟨by decide, by decide, m_gwI (m_in3 (List.mem_of_getElem? (i := 24) rfl)) rfl⟩,
  List.forall_mem_cons.mpr ⟨⟨by decide, by decide, m_gwI (m_in1 (List.mem_of_getElem? (i := 106) rfl)) rfl⟩,
  List.forall_mem_cons.mpr ⟨⟨by decide, by decide, m_gwI (m_in3 (List.mem_of_getElem? (i := 52) rfl)) rfl⟩,
  List.forall_mem_cons.mpr ⟨⟨by decide, by decide, m_gwI (m_in1 (List.mem_of_getElem? (i := 52) rfl)) rfl⟩,
  List.forall_mem_cons.mpr ⟨⟨by decide, by decide, m_gwI (m_in1 (List.mem_of_getElem? (i := 57) rfl)) rfl⟩,
  List.forall_mem_cons.mpr ⟨⟨by decide, by decide, m_gwI (m_in1 (List.mem_of_getElem? (i := 65) rfl)) rfl⟩,
  List.forall_mem_cons.mpr ⟨⟨by decide, by decide, m_gwI (m_in1 (List.mem_of_getElem? (i := 68) rfl)) rfl⟩,
  List.forall_mem_cons.mpr ⟨⟨by decide, by decide, m_gwI (m_in2 (List.mem_of_getElem? (i := 109) rfl)) rfl⟩,
  List.forall_mem_cons.mpr ⟨⟨by decide, by decide, m_gwI (m_in1 (List.mem_of_getElem? (i := 61) rfl)) rfl⟩,
  List.forall_mem_cons.mpr ⟨⟨by decide, by decide, m_gwI (m_in2 (List.mem_of_getElem? (i := 58) rfl)) rfl⟩,
  List.forall_mem_cons.mpr ⟨⟨by decide, by decide, m_gwI (m_in2 (List.mem_of_getElem? (i := 221) rfl)) rfl⟩,
  fun _ h => absurd h List.not_mem_nil⟩⟩⟩⟩⟩⟩⟩⟩⟩⟩⟩⟩⟩⟩⟩⟩⟩⟩⟩⟩⟩⟩⟩⟩⟩⟩⟩⟩⟩⟩⟩⟩⟩⟩⟩⟩⟩
set_option maxRecDepth 100000 in
theorem m_F12_ok : ∀ q ∈ m_F12, m_Fp 12 q := List.forall_mem_cons.mpr ⟨⟨by decide, by decide, m_gwI (m_in6 (List.mem_of_getElem? (i := 190) rfl)) rfl⟩,
  List.forall_mem_cons.mpr ⟨⟨by decide, by decide, m_gwI (m_in6 (List.mem_of_getElem? (i := 192) rfl)) rfl⟩,
  List.forall_mem_cons.mpr ⟨⟨by decide, by decide, m_gwI (m_in6 (List.mem_of_getElem? (i := 193) rfl)) rfl⟩,
  List.forall_mem_cons.mpr ⟨⟨by decide, by decide, m_gwI (m_in6 (List.mem_of_getElem? (i := 194) rfl)) rfl⟩,
  List.forall_mem_cons.mpr ⟨⟨by decide, by decide, m_gwI (m_in6 (List.mem_of_getElem? (i := 195) rfl)) rfl⟩,
  List.forall_mem_cons.mpr ⟨⟨by decide, by decide, m_gwI (m_in6 (List.mem_of_getElem? (i := 196) rfl)) rfl⟩,
  List.forall_mem_cons.mpr ⟨⟨by decide, by decide, m_gwI (m_in6 (List.mem_of_getElem? (i := 197) rfl)) rfl⟩,
  List.forall_mem_cons.mpr ⟨⟨by decide, by decide, m_gwI (m_in6 (List.mem_of_getElem? (i := 198) rfl)) rfl⟩,
  List.forall_mem_cons.mpr ⟨⟨by decide, by decide, m_gwI (m_in6 (List.mem_of_getElem? (i := 199) rfl)) rfl⟩,
  List.forall_mem_cons.mpr ⟨⟨by decide, by decide, m_gwI (m_in6 (List.mem_of_getElem? (i := 200) rfl)) rfl⟩,
  List.forall_mem_cons.mpr ⟨⟨by decide, by decide, m_gwI (m_in6 (List.mem_of_getElem? (i := 201) rfl)) rfl⟩,
  List.forall_mem_cons.mpr ⟨⟨by decide, by decide, m_gwI (m_in6 (List.mem_of_getElem? (i := 202) rfl)) rfl⟩,
  List.forall_mem_cons.mpr ⟨⟨by decide, by decide, m_gwI (m_in6 (List.mem_of_getElem? (i := 203) rfl)) rfl⟩,
  List.forall_mem_cons.mpr ⟨⟨by decide, by decide, m_gwI (m_in6 (List.mem_of_getElem? (i := 204) rfl)) rfl⟩,
  List.forall_mem_cons.mpr ⟨⟨by decide, by decide, m_gwI (m_in6 (List.mem_of_getElem? (i := 205) rfl)) rfl⟩,
  List.forall_mem_cons.mpr ⟨⟨by decide, by decide, m_gwI (m_in6 (List.mem_of_getElem? (i := 206) rfl)) rfl⟩,
  List.forall_mem_cons.mpr ⟨⟨by decide, by decide, m_gwI (m_in6 (List.mem_of_getElem? (i := 217) rfl)) rfl⟩,
  List.forall_mem_cons.mpr ⟨⟨by decide, by decide, m_gwI (m_in6 (List.mem_of_getElem? (i := 218) rfl)) rfl⟩,
  List.forall_mem_cons.mpr ⟨⟨by decide, by decide, m_gwI (m_in6 (List.mem_of_getElem? (i := 219) rfl)) rfl⟩,
  List.forall_mem_cons.mpr ⟨⟨by decide, by decide, m_gwI (m_in6 (List.mem_of_getElem? (i := 220) rfl)) rfl⟩,
  List.forall_mem_cons.mpr ⟨⟨by decide, by decide, m_gwI (m_in6 (List.mem_of_getElem? (i := 227) rfl)) rfl⟩,
  List.forall_mem_cons.mpr ⟨⟨by decide, by decide, m_gwI (m_in6 (List.mem_of_getElem? (i := 228) rfl)) rfl⟩,
  List.forall_mem_cons.mpr ⟨⟨by decide, by decide, m_gwI (m_in6 (List.mem_of_getElem? (i := 229) rfl)) rfl⟩,
  List.forall_mem_cons.mpr ⟨⟨by decide, by decide, m_gwI (m_in6 (List.mem_of_getElem? (i := 232) rfl)) rfl⟩,
  List.forall_mem_cons.mpr ⟨⟨by decide, by decide, m_gwI (m_in6 (List.mem_of_getElem? (i := 233) rfl)) rfl⟩,
  List.forall_mem_cons.mpr ⟨⟨by decide, by decide, m_gwI (m_in6 (List.mem_of_getElem? (i := 236) rfl)) rfl⟩,
  List.forall_mem_cons.mpr ⟨⟨by decide, by decide, m_gwI (m_in6 (List.mem_of_getElem? (i := 237) rfl)) rfl⟩,
  List.forall_mem_cons.mpr ⟨⟨by decide, by decide, m_gwI (m_in6 (List.mem_of_getElem? (i := 239) rfl)) rfl⟩,
  List.forall_mem_cons.mpr ⟨⟨by decide, by decide, m_gwI (m_in6 (List.mem_of_getElem? (i := 189) rfl)) rfl⟩,
  List.forall_mem_cons.mpr ⟨⟨by decide, by decide, m_gwI (m_in6 (List.mem_of_getElem? (i := 191) rfl)) rfl⟩,
  List.forall_mem_cons.mpr ⟨⟨by decide, by decide, m_gwI (m_in6 (List.mem_of_getElem? (i := 210) rfl)) rfl⟩,
  List.forall_mem_cons.mpr ⟨⟨by decide, by decide, m_gwI (m_in6 (List.mem_of_getElem? (i := 209) rfl)) rfl⟩,
  List.forall_mem_cons.mpr ⟨⟨by decide, by decide, m_gwI (m_in6 (List.mem_of_getElem? (i := 211) rfl)) rfl⟩,
  List.forall_mem_cons.mpr ⟨⟨by decide, by decide, m_gwI (m_in6 (List.mem_of_getElem? (i := 212) rfl)) rfl⟩,
  List.forall_mem_cons.mpr ⟨⟨by decide, by decide, m_gwI (m_in6 (List.mem_of_getElem? (i := 213) rfl)) rfl⟩,
  List.forall_mem_cons.mpr ⟨⟨by decide, by decide, m_gwI (m_in6 (List.mem_of_getElem? (i := 214) rfl)) rfl⟩,
  List.forall_mem_cons.mpr ⟨⟨by decide, by decide, m_gwI (m_in6 (List.mem_of_getElem? (i := 215) rfl)) rfl⟩,
  List.forall_mem_cons.mpr ⟨⟨by decide, by decide, m_gwI (m_in6 (List.mem_of_getElem? (i := 207) rfl)) rfl⟩,
  List.forall_mem_cons.mpr ⟨⟨by decide, by decide, m_gwI (m_in6 (List.mem_of_getElem? (i := 208) rfl)) rfl⟩,
  List.forall_mem_cons.mpr ⟨⟨by decide, by decide, m_gwI (m_in6 (List.mem_of_getElem? (i := 216) rfl)) rfl⟩,
  List.forall_mem_cons.mpr ⟨⟨by decide, by decide, m_gwI (m_in6 (List.mem_of_getElem? (i := 226) rfl)) rfl⟩,
  List.forall_mem_cons.mpr ⟨⟨by decide, by decide, m_gwI (m_in6 (List.mem_of_getElem? (i := 225) rfl)) rfl⟩,
  List.forall_mem_cons.mpr ⟨⟨by decide, by decide, m_gwI (m_in6 (List.mem_of_getElem? (i := 224) rfl)) rfl⟩,
  List.forall_mem_cons.mpr ⟨⟨by decide, by decide, m_gwI (m_in6 (List.mem_of_getElem? (i := 223) rfl)) rfl⟩,
  List.forall_mem_cons.mpr ⟨⟨by decide, by decide, m_gwI (m_in6 (List.mem_of_getElem? (i := 222) rfl)) rfl⟩,
  List.forall_mem_cons.mpr ⟨⟨by decide, by decide, m_gwI (m_in6 (List.mem_of_getElem? (i := 221) rfl)) rfl⟩,
  List.forall_mem_cons.mpr ⟨⟨by decide, by decide, m_gwI (m_in6 (List.mem_of_getElem? (i := 231) rfl)) rfl⟩,
  List.forall_mem_cons.mpr ⟨⟨by decide, by decide, m_gwI (m_in6 (List.mem_of_getElem? (i := 230) rfl)) rfl⟩,
  List.forall_mem_cons.mpr ⟨⟨by decide, by decide, m_gwI (m_in6 (List.mem_of_getElem? (i := 234) rfl)) rfl⟩,
  List.forall_mem_cons.mpr ⟨⟨by decide, by decide, m_gwI (m_in6 (List.mem_of_getElem? (i := 235) rfl)) rfl⟩,
  List.forall_mem_cons.mpr ⟨⟨by decide, by decide, m_gwI (m_in6 (List.mem_of_getElem? (i := 238) rfl)) rfl⟩,
  List.forall_mem_cons.mpr ⟨⟨by decide, by decide, m_gwI (m_in7 (List.mem_of_getElem? (i := 0) rfl)) rfl⟩,
  List.forall_mem_cons.mpr ⟨⟨by decide, by decide, m_gwI (m_in7 (List.mem_of_getElem? (i := 1) rfl)) rfl⟩,
  fun _ h => absurd h List.not_mem_nil⟩⟩⟩⟩⟩⟩⟩⟩⟩⟩⟩⟩⟩⟩⟩⟩⟩⟩⟩⟩⟩⟩⟩⟩⟩⟩⟩⟩⟩⟩⟩⟩⟩⟩⟩⟩⟩⟩⟩⟩⟩⟩⟩⟩⟩⟩⟩⟩⟩⟩⟩⟩⟩
theorem m_F_ok {c x : Nat} {ci j : Nat} (h : m_F c x = some (ci, j)) : m_Fp c (x, ci, j) := by
  unfold m_F at h
  split at h
  · exact m_F0_ok _ (m_look h)
  · exact m_F1_ok _ (m_look h)
  · exact m_F2_ok _ (m_look h)
  · exact m_F3_ok _ (m_look h)
  · exact m_F4_ok _ (m_look h)
  · exact m_F5_ok _ (m_look h)
  · exact m_F6_ok _ (m_look h)
  · exact m_F7_ok _ (m_look h)
  · exact m_F8_ok _ (m_look h)
  · exact m_F9_ok _ (m_look h)
  · exact m_F10_ok _ (m_look h)
  · exact m_F11_ok _ (m_look h)
  · exact m_F12_ok _ (m_look h)
  · cases h
def m_Np (c : Nat) (q : Nat × Nat) : Prop := q.2 < 13 ∧ Cond.classLink (m_cn c) q.1 (m_cn q.2) ∈ m_gw
set_option maxRecDepth 100000 in
theorem m_N2_ok : ∀ q ∈ m_N2, m_Np 2 q := List.forall_mem_cons.mpr ⟨⟨by decide, m_gwI (m_in2 (List.mem_of_getElem? (i := 9) rfl)) rfl⟩,
  fun _ h => absurd h List.not_mem_nil⟩
set_option maxRecDepth 100000 in
theorem m_N3_ok : ∀ q ∈ m_N3, m_Np 3 q := List.forall_mem_cons.mpr ⟨⟨by decide, m_gwI (m_in2 (List.mem_of_getElem? (i := 103) rfl)) rfl⟩,
  fun _ h => absurd h List.not_mem_nil⟩
set_option maxRecDepth 100000 in
theorem m_N6_ok : ∀ q ∈ m_N6, m_Np 6 q := List.forall_mem_cons.mpr ⟨⟨by decide, m_gwI (m_in1 (List.mem_of_getElem? (i := 38) rfl)) rfl⟩,
  fun _ h => absurd h List.not_mem_nil⟩
set_option maxRecDepth 100000 in
theorem m_N8_ok : ∀ q ∈ m_N8, m_Np 8 q := List.forall_mem_cons.mpr ⟨⟨by decide, m_gwI (m_in2 (List.mem_of_getElem? (i := 171) rfl)) rfl⟩,
  fun _ h => absurd h List.not_mem_nil⟩
set_option maxRecDepth 100000 in
theorem m_N10_ok : ∀ q ∈ m_N10, m_Np 10 q := List.forall_mem_cons.mpr ⟨⟨by decide, m_gwI (m_in2 (List.mem_of_getElem? (i := 123) rfl)) rfl⟩,
  List.forall_mem_cons.mpr ⟨⟨by decide, m_gwI (m_in2 (List.mem_of_getElem? (i := 165) rfl)) rfl⟩,
  List.forall_mem_cons.mpr ⟨⟨by decide, m_gwI (m_in2 (List.mem_of_getElem? (i := 204) rfl)) rfl⟩,
  fun _ h => absurd h List.not_mem_nil⟩⟩⟩
set_option maxRecDepth 100000 in
theorem m_N11_ok : ∀ q ∈ m_N11, m_Np 11 q := List.forall_mem_cons.mpr ⟨⟨by decide, m_gwI (m_in1 (List.mem_of_getElem? (i := 32) rfl)) rfl⟩,
  List.forall_mem_cons.mpr ⟨⟨by decide, m_gwI (m_in2 (List.mem_of_getElem? (i := 1) rfl)) rfl⟩,
  List.forall_mem_cons.mpr ⟨⟨by decide, m_gwI (m_in2 (List.mem_of_getElem? (i := 3) rfl)) rfl⟩,
  List.forall_mem_cons.mpr ⟨⟨by decide, m_gwI (m_in2 (List.mem_of_getElem? (i := 81) rfl)) rfl⟩,
  List.forall_mem_cons.mpr ⟨⟨by decide, m_gwI (m_in2 (List.mem_of_getElem? (i := 97) rfl)) rfl⟩,
  List.forall_mem_cons.mpr ⟨⟨by decide, m_gwI (m_in2 (List.mem_of_getElem? (i := 117) rfl)) rfl⟩,
  List.forall_mem_cons.mpr ⟨⟨by decide, m_gwI (m_in3 (List.mem_of_getElem? (i := 14) rfl)) rfl⟩,
  List.forall_mem_cons.mpr ⟨⟨by decide, m_gwI (m_in3 (List.mem_of_getElem? (i := 40) rfl)) rfl⟩,
  List.forall_mem_cons.mpr ⟨⟨by decide, m_gwI (m_in3 (List.mem_of_getElem? (i := 72) rfl)) rfl⟩,
  fun _ h => absurd h List.not_mem_nil⟩⟩⟩⟩⟩⟩⟩⟩⟩
set_option maxRecDepth 100000 in
theorem m_N13_ok : ∀ q ∈ m_N13, m_Np 13 q := List.forall_mem_cons.mpr ⟨⟨by decide, m_gwI (m_in1 (List.mem_of_getElem? (i := 24) rfl)) rfl⟩,
  List.forall_mem_cons.mpr ⟨⟨by decide, m_gwI (m_in6 (List.mem_of_getElem? (i := 147) rfl)) rfl⟩,
  fun _ h => absurd h List.not_mem_nil⟩⟩
theorem m_N_ok {c x : Nat} {ci : Nat} (h : m_N c x = some ci) : m_Np c (x, ci) := by
  unfold m_N at h
  split at h
  · exact m_N2_ok _ (m_look h)
  · exact m_N3_ok _ (m_look h)
  · exact m_N6_ok _ (m_look h)
  · exact m_N8_ok _ (m_look h)
  · exact m_N10_ok _ (m_look h)
  · exact m_N11_ok _ (m_look h)
  · exact m_N13_ok _ (m_look h)
  · cases h
def m_Kp (c : Nat) (q : Nat × Int32) : Prop := Cond.constant (m_cn c) q.1 q.2 ∈ m_gw
set_option maxRecDepth 100000 in
theorem m_K6_ok : ∀ q ∈ m_K6, m_Kp 6 q := List.forall_mem_cons.mpr ⟨m_gwI (m_in3 (List.mem_of_getElem? (i := 191) rfl)) rfl,
  List.forall_mem_cons.mpr ⟨m_gwI (m_in4 (List.mem_of_getElem? (i := 15) rfl)) rfl,
  fun _ h => absurd h List.not_mem_nil⟩⟩
set_option maxRecDepth 100000 in
theorem m_K8_ok : ∀ q ∈ m_K8, m_Kp 8 q := List.forall_mem_cons.mpr ⟨m_gwI (m_in4 (List.mem_of_getElem? (i := 130) rfl)) rfl,
  List.forall_mem_cons.mpr ⟨m_gwI (m_in5 (List.mem_of_getElem? (i := 201) rfl)) rfl,
  fun _ h => absurd h List.not_mem_nil⟩⟩
set_option maxRecDepth 100000 in
theorem m_K11_ok : ∀ q ∈ m_K11, m_Kp 11 q := List.forall_mem_cons.mpr ⟨m_gwI (m_in6 (List.mem_of_getElem? (i := 15) rfl)) rfl,
  List.forall_mem_cons.mpr ⟨m_gwI (m_in6 (List.mem_of_getElem? (i := 16) rfl)) rfl,
  fun _ h => absurd h List.not_mem_nil⟩⟩
set_option maxRecDepth 100000 in
theorem m_K12_ok : ∀ q ∈ m_K12, m_Kp 12 q := List.forall_mem_cons.mpr ⟨m_gwI (m_in6 (List.mem_of_getElem? (i := 153) rfl)) rfl,
  List.forall_mem_cons.mpr ⟨m_gwI (m_in7 (List.mem_of_getElem? (i := 155) rfl)) rfl,
  List.forall_mem_cons.mpr ⟨m_gwI (m_in9 (List.mem_of_getElem? (i := 119) rfl)) rfl,
  List.forall_mem_cons.mpr ⟨m_gwI (m_in9 (List.mem_of_getElem? (i := 120) rfl)) rfl,
  fun _ h => absurd h List.not_mem_nil⟩⟩⟩⟩
theorem m_K_ok {c x : Nat} {v : Int32} (h : m_K c x = some v) : m_Kp c (x, v) := by
  unfold m_K at h
  split at h
  · exact m_K6_ok _ (m_look h)
  · exact m_K8_ok _ (m_look h)
  · exact m_K11_ok _ (m_look h)
  · exact m_K12_ok _ (m_look h)
  · cases h
def m_Lp (c : Nat) : Prop := (∀ w ∈ u_ws (m_cn c) (m_T c) (m_W c), w ∈ m_gw) ∧ (∀ a, a < m_W c → ∀ b, b < m_W c → a ≠ b → (m_T c a).2.1 ≠ (m_T c b).2.1) ∧ (∀ k, k < m_W c → parseFieldDescriptor (m_T c k).2.2.1 = some (m_y c k)) ∧ (∀ k, k < m_W c → (m_T c k).1 = m_cn c) ∧ (∀ k, k < m_W c → (m_fk c k = 0 → m_y c k = .int) ∧ (m_fk c k = 1 → m_y c k = .boolean) ∧ (m_fk c k = 2 → (m_y c k).isReference = true) ∧ m_fk c k < 3) ∧ Cond.instantiable (m_cn c) (m_W c) ∈ m_gw ∧ Cond.initialized (m_cn c) ∈ m_gw ∧ m_cl[c]? = some (m_cn c, m_T c, m_W c)
theorem m_L0_ok : m_Lp 0 := ⟨List.forall_mem_cons.mpr ⟨m_gwI (m_in3 (List.mem_of_getElem? (i := 55) rfl)) rfl,
  List.forall_mem_cons.mpr ⟨m_gwI (m_in3 (List.mem_of_getElem? (i := 57) rfl)) rfl,
  List.forall_mem_cons.mpr ⟨m_gwI (m_in3 (List.mem_of_getElem? (i := 59) rfl)) rfl,
  List.forall_mem_cons.mpr ⟨m_gwI (m_in3 (List.mem_of_getElem? (i := 61) rfl)) rfl,
  List.forall_mem_cons.mpr ⟨m_gwI (m_in3 (List.mem_of_getElem? (i := 63) rfl)) rfl,
  List.forall_mem_cons.mpr ⟨m_gwI (m_in3 (List.mem_of_getElem? (i := 65) rfl)) rfl,
  List.forall_mem_cons.mpr ⟨m_gwI (m_in3 (List.mem_of_getElem? (i := 67) rfl)) rfl,
  List.forall_mem_cons.mpr ⟨m_gwI (m_in3 (List.mem_of_getElem? (i := 69) rfl)) rfl,
  fun _ h => absurd h List.not_mem_nil⟩⟩⟩⟩⟩⟩⟩⟩,
  by decide +kernel, by decide +kernel, by decide +kernel, by decide +kernel, m_gwI (m_in3 (List.mem_of_getElem? (i := 41) rfl)) rfl, m_gwI (m_in1 (List.mem_of_getElem? (i := 16) rfl)) rfl, rfl⟩
theorem m_L1_ok : m_Lp 1 := ⟨List.forall_mem_cons.mpr ⟨m_gwI (m_in2 (List.mem_of_getElem? (i := 90) rfl)) rfl,
  List.forall_mem_cons.mpr ⟨m_gwI (m_in2 (List.mem_of_getElem? (i := 92) rfl)) rfl,
  List.forall_mem_cons.mpr ⟨m_gwI (m_in2 (List.mem_of_getElem? (i := 94) rfl)) rfl,
  fun _ h => absurd h List.not_mem_nil⟩⟩⟩,
  by decide +kernel, by decide +kernel, by decide +kernel, by decide +kernel, m_gwI (m_in2 (List.mem_of_getElem? (i := 82) rfl)) rfl, m_gwI (m_in1 (List.mem_of_getElem? (i := 10) rfl)) rfl, rfl⟩
theorem m_L2_ok : m_Lp 2 := ⟨List.forall_mem_cons.mpr ⟨m_gwI (m_in2 (List.mem_of_getElem? (i := 59) rfl)) rfl,
  List.forall_mem_cons.mpr ⟨m_gwI (m_in2 (List.mem_of_getElem? (i := 61) rfl)) rfl,
  List.forall_mem_cons.mpr ⟨m_gwI (m_in2 (List.mem_of_getElem? (i := 63) rfl)) rfl,
  List.forall_mem_cons.mpr ⟨m_gwI (m_in2 (List.mem_of_getElem? (i := 65) rfl)) rfl,
  List.forall_mem_cons.mpr ⟨m_gwI (m_in2 (List.mem_of_getElem? (i := 67) rfl)) rfl,
  fun _ h => absurd h List.not_mem_nil⟩⟩⟩⟩⟩,
  by decide +kernel, by decide +kernel, by decide +kernel, by decide +kernel, m_gwI (m_in2 (List.mem_of_getElem? (i := 4) rfl)) rfl, m_gwI (m_in1 (List.mem_of_getElem? (i := 8) rfl)) rfl, rfl⟩
theorem m_L3_ok : m_Lp 3 := ⟨List.forall_mem_cons.mpr ⟨m_gwI (m_in2 (List.mem_of_getElem? (i := 110) rfl)) rfl,
  List.forall_mem_cons.mpr ⟨m_gwI (m_in2 (List.mem_of_getElem? (i := 112) rfl)) rfl,
  List.forall_mem_cons.mpr ⟨m_gwI (m_in2 (List.mem_of_getElem? (i := 114) rfl)) rfl,
  fun _ h => absurd h List.not_mem_nil⟩⟩⟩,
  by decide +kernel, by decide +kernel, by decide +kernel, by decide +kernel, m_gwI (m_in2 (List.mem_of_getElem? (i := 98) rfl)) rfl, m_gwI (m_in1 (List.mem_of_getElem? (i := 11) rfl)) rfl, rfl⟩
theorem m_L4_ok : m_Lp 4 := ⟨List.forall_mem_cons.mpr ⟨m_gwI (m_in1 (List.mem_of_getElem? (i := 107) rfl)) rfl,
  List.forall_mem_cons.mpr ⟨m_gwI (m_in1 (List.mem_of_getElem? (i := 109) rfl)) rfl,
  List.forall_mem_cons.mpr ⟨m_gwI (m_in1 (List.mem_of_getElem? (i := 111) rfl)) rfl,
  List.forall_mem_cons.mpr ⟨m_gwI (m_in1 (List.mem_of_getElem? (i := 113) rfl)) rfl,
  List.forall_mem_cons.mpr ⟨m_gwI (m_in1 (List.mem_of_getElem? (i := 115) rfl)) rfl,
  List.forall_mem_cons.mpr ⟨m_gwI (m_in1 (List.mem_of_getElem? (i := 117) rfl)) rfl,
  List.forall_mem_cons.mpr ⟨m_gwI (m_in1 (List.mem_of_getElem? (i := 119) rfl)) rfl,
  List.forall_mem_cons.mpr ⟨m_gwI (m_in1 (List.mem_of_getElem? (i := 121) rfl)) rfl,
  List.forall_mem_cons.mpr ⟨m_gwI (m_in1 (List.mem_of_getElem? (i := 123) rfl)) rfl,
  List.forall_mem_cons.mpr ⟨m_gwI (m_in1 (List.mem_of_getElem? (i := 125) rfl)) rfl,
  List.forall_mem_cons.mpr ⟨m_gwI (m_in1 (List.mem_of_getElem? (i := 127) rfl)) rfl,
  List.forall_mem_cons.mpr ⟨m_gwI (m_in1 (List.mem_of_getElem? (i := 129) rfl)) rfl,
  List.forall_mem_cons.mpr ⟨m_gwI (m_in1 (List.mem_of_getElem? (i := 131) rfl)) rfl,
  List.forall_mem_cons.mpr ⟨m_gwI (m_in1 (List.mem_of_getElem? (i := 133) rfl)) rfl,
  List.forall_mem_cons.mpr ⟨m_gwI (m_in1 (List.mem_of_getElem? (i := 135) rfl)) rfl,
  List.forall_mem_cons.mpr ⟨m_gwI (m_in1 (List.mem_of_getElem? (i := 137) rfl)) rfl,
  List.forall_mem_cons.mpr ⟨m_gwI (m_in1 (List.mem_of_getElem? (i := 139) rfl)) rfl,
  List.forall_mem_cons.mpr ⟨m_gwI (m_in1 (List.mem_of_getElem? (i := 141) rfl)) rfl,
  List.forall_mem_cons.mpr ⟨m_gwI (m_in1 (List.mem_of_getElem? (i := 143) rfl)) rfl,
  fun _ h => absurd h List.not_mem_nil⟩⟩⟩⟩⟩⟩⟩⟩⟩⟩⟩⟩⟩⟩⟩⟩⟩⟩⟩,
  by decide +kernel, by decide +kernel, by decide +kernel, by decide +kernel, m_gwI (m_in1 (List.mem_of_getElem? (i := 39) rfl)) rfl, m_gwI (m_in1 (List.mem_of_getElem? (i := 3) rfl)) rfl, rfl⟩
theorem m_L5_ok : m_Lp 5 := ⟨List.forall_mem_cons.mpr ⟨m_gwI (m_in2 (List.mem_of_getElem? (i := 34) rfl)) rfl,
  List.forall_mem_cons.mpr ⟨m_gwI (m_in2 (List.mem_of_getElem? (i := 36) rfl)) rfl,
  List.forall_mem_cons.mpr ⟨m_gwI (m_in2 (List.mem_of_getElem? (i := 38) rfl)) rfl,
  List.forall_mem_cons.mpr ⟨m_gwI (m_in2 (List.mem_of_getElem? (i := 40) rfl)) rfl,
  List.forall_mem_cons.mpr ⟨m_gwI (m_in2 (List.mem_of_getElem? (i := 42) rfl)) rfl,
  fun _ h => absurd h List.not_mem_nil⟩⟩⟩⟩⟩,
  by decide +kernel, by decide +kernel, by decide +kernel, by decide +kernel, m_gwI (m_in2 (List.mem_of_getElem? (i := 10) rfl)) rfl, m_gwI (m_in1 (List.mem_of_getElem? (i := 9) rfl)) rfl, rfl⟩
theorem m_L6_ok : m_Lp 6 := ⟨List.forall_mem_cons.mpr ⟨m_gwI (m_in1 (List.mem_of_getElem? (i := 218) rfl)) rfl,
  List.forall_mem_cons.mpr ⟨m_gwI (m_in1 (List.mem_of_getElem? (i := 220) rfl)) rfl,
  List.forall_mem_cons.mpr ⟨m_gwI (m_in1 (List.mem_of_getElem? (i := 222) rfl)) rfl,
  List.forall_mem_cons.mpr ⟨m_gwI (m_in1 (List.mem_of_getElem? (i := 224) rfl)) rfl,
  List.forall_mem_cons.mpr ⟨m_gwI (m_in1 (List.mem_of_getElem? (i := 226) rfl)) rfl,
  List.forall_mem_cons.mpr ⟨m_gwI (m_in1 (List.mem_of_getElem? (i := 228) rfl)) rfl,
  List.forall_mem_cons.mpr ⟨m_gwI (m_in1 (List.mem_of_getElem? (i := 230) rfl)) rfl,
  List.forall_mem_cons.mpr ⟨m_gwI (m_in1 (List.mem_of_getElem? (i := 232) rfl)) rfl,
  List.forall_mem_cons.mpr ⟨m_gwI (m_in1 (List.mem_of_getElem? (i := 234) rfl)) rfl,
  List.forall_mem_cons.mpr ⟨m_gwI (m_in1 (List.mem_of_getElem? (i := 236) rfl)) rfl,
  List.forall_mem_cons.mpr ⟨m_gwI (m_in1 (List.mem_of_getElem? (i := 238) rfl)) rfl,
  fun _ h => absurd h List.not_mem_nil⟩⟩⟩⟩⟩⟩⟩⟩⟩⟩⟩,
  by decide +kernel, by decide +kernel, by decide +kernel, by decide +kernel, m_gwI (m_in1 (List.mem_of_getElem? (i := 33) rfl)) rfl, m_gwI (m_in1 (List.mem_of_getElem? (i := 2) rfl)) rfl, rfl⟩
theorem m_L7_ok : m_Lp 7 := ⟨List.forall_mem_cons.mpr ⟨m_gwI (m_in3 (List.mem_of_getElem? (i := 27) rfl)) rfl,
  List.forall_mem_cons.mpr ⟨m_gwI (m_in3 (List.mem_of_getElem? (i := 29) rfl)) rfl,
  List.forall_mem_cons.mpr ⟨m_gwI (m_in3 (List.mem_of_getElem? (i := 31) rfl)) rfl,
  List.forall_mem_cons.mpr ⟨m_gwI (m_in3 (List.mem_of_getElem? (i := 33) rfl)) rfl,
  List.forall_mem_cons.mpr ⟨m_gwI (m_in3 (List.mem_of_getElem? (i := 35) rfl)) rfl,
  List.forall_mem_cons.mpr ⟨m_gwI (m_in3 (List.mem_of_getElem? (i := 37) rfl)) rfl,
  fun _ h => absurd h List.not_mem_nil⟩⟩⟩⟩⟩⟩,
  by decide +kernel, by decide +kernel, by decide +kernel, by decide +kernel, m_gwI (m_in3 (List.mem_of_getElem? (i := 15) rfl)) rfl, m_gwI (m_in1 (List.mem_of_getElem? (i := 15) rfl)) rfl, rfl⟩
theorem m_L8_ok : m_Lp 8 := ⟨List.forall_mem_cons.mpr ⟨m_gwI (m_in2 (List.mem_of_getElem? (i := 183) rfl)) rfl,
  List.forall_mem_cons.mpr ⟨m_gwI (m_in2 (List.mem_of_getElem? (i := 185) rfl)) rfl,
  List.forall_mem_cons.mpr ⟨m_gwI (m_in2 (List.mem_of_getElem? (i := 187) rfl)) rfl,
  List.forall_mem_cons.mpr ⟨m_gwI (m_in2 (List.mem_of_getElem? (i := 189) rfl)) rfl,
  List.forall_mem_cons.mpr ⟨m_gwI (m_in2 (List.mem_of_getElem? (i := 191) rfl)) rfl,
  List.forall_mem_cons.mpr ⟨m_gwI (m_in2 (List.mem_of_getElem? (i := 193) rfl)) rfl,
  List.forall_mem_cons.mpr ⟨m_gwI (m_in2 (List.mem_of_getElem? (i := 195) rfl)) rfl,
  List.forall_mem_cons.mpr ⟨m_gwI (m_in2 (List.mem_of_getElem? (i := 197) rfl)) rfl,
  List.forall_mem_cons.mpr ⟨m_gwI (m_in2 (List.mem_of_getElem? (i := 199) rfl)) rfl,
  List.forall_mem_cons.mpr ⟨m_gwI (m_in2 (List.mem_of_getElem? (i := 201) rfl)) rfl,
  fun _ h => absurd h List.not_mem_nil⟩⟩⟩⟩⟩⟩⟩⟩⟩⟩,
  by decide +kernel, by decide +kernel, by decide +kernel, by decide +kernel, m_gwI (m_in2 (List.mem_of_getElem? (i := 166) rfl)) rfl, m_gwI (m_in1 (List.mem_of_getElem? (i := 14) rfl)) rfl, rfl⟩
theorem m_L9_ok : m_Lp 9 := ⟨List.forall_mem_cons.mpr ⟨m_gwI (m_in2 (List.mem_of_getElem? (i := 141) rfl)) rfl,
  List.forall_mem_cons.mpr ⟨m_gwI (m_in2 (List.mem_of_getElem? (i := 143) rfl)) rfl,
  List.forall_mem_cons.mpr ⟨m_gwI (m_in2 (List.mem_of_getElem? (i := 145) rfl)) rfl,
  List.forall_mem_cons.mpr ⟨m_gwI (m_in2 (List.mem_of_getElem? (i := 147) rfl)) rfl,
  List.forall_mem_cons.mpr ⟨m_gwI (m_in2 (List.mem_of_getElem? (i := 149) rfl)) rfl,
  List.forall_mem_cons.mpr ⟨m_gwI (m_in2 (List.mem_of_getElem? (i := 151) rfl)) rfl,
  List.forall_mem_cons.mpr ⟨m_gwI (m_in2 (List.mem_of_getElem? (i := 153) rfl)) rfl,
  List.forall_mem_cons.mpr ⟨m_gwI (m_in2 (List.mem_of_getElem? (i := 155) rfl)) rfl,
  List.forall_mem_cons.mpr ⟨m_gwI (m_in2 (List.mem_of_getElem? (i := 157) rfl)) rfl,
  List.forall_mem_cons.mpr ⟨m_gwI (m_in2 (List.mem_of_getElem? (i := 159) rfl)) rfl,
  List.forall_mem_cons.mpr ⟨m_gwI (m_in2 (List.mem_of_getElem? (i := 161) rfl)) rfl,
  fun _ h => absurd h List.not_mem_nil⟩⟩⟩⟩⟩⟩⟩⟩⟩⟩⟩,
  by decide +kernel, by decide +kernel, by decide +kernel, by decide +kernel, m_gwI (m_in2 (List.mem_of_getElem? (i := 124) rfl)) rfl, m_gwI (m_in1 (List.mem_of_getElem? (i := 13) rfl)) rfl, rfl⟩
theorem m_L10_ok : m_Lp 10 := ⟨List.forall_mem_cons.mpr ⟨m_gwI (m_in2 (List.mem_of_getElem? (i := 225) rfl)) rfl,
  List.forall_mem_cons.mpr ⟨m_gwI (m_in2 (List.mem_of_getElem? (i := 227) rfl)) rfl,
  List.forall_mem_cons.mpr ⟨m_gwI (m_in2 (List.mem_of_getElem? (i := 229) rfl)) rfl,
  List.forall_mem_cons.mpr ⟨m_gwI (m_in2 (List.mem_of_getElem? (i := 231) rfl)) rfl,
  List.forall_mem_cons.mpr ⟨m_gwI (m_in2 (List.mem_of_getElem? (i := 233) rfl)) rfl,
  List.forall_mem_cons.mpr ⟨m_gwI (m_in2 (List.mem_of_getElem? (i := 235) rfl)) rfl,
  List.forall_mem_cons.mpr ⟨m_gwI (m_in2 (List.mem_of_getElem? (i := 237) rfl)) rfl,
  List.forall_mem_cons.mpr ⟨m_gwI (m_in2 (List.mem_of_getElem? (i := 239) rfl)) rfl,
  List.forall_mem_cons.mpr ⟨m_gwI (m_in3 (List.mem_of_getElem? (i := 1) rfl)) rfl,
  List.forall_mem_cons.mpr ⟨m_gwI (m_in3 (List.mem_of_getElem? (i := 3) rfl)) rfl,
  List.forall_mem_cons.mpr ⟨m_gwI (m_in3 (List.mem_of_getElem? (i := 5) rfl)) rfl,
  List.forall_mem_cons.mpr ⟨m_gwI (m_in3 (List.mem_of_getElem? (i := 7) rfl)) rfl,
  List.forall_mem_cons.mpr ⟨m_gwI (m_in3 (List.mem_of_getElem? (i := 9) rfl)) rfl,
  List.forall_mem_cons.mpr ⟨m_gwI (m_in3 (List.mem_of_getElem? (i := 11) rfl)) rfl,
  fun _ h => absurd h List.not_mem_nil⟩⟩⟩⟩⟩⟩⟩⟩⟩⟩⟩⟩⟩⟩,
  by decide +kernel, by decide +kernel, by decide +kernel, by decide +kernel, m_gwI (m_in2 (List.mem_of_getElem? (i := 118) rfl)) rfl, m_gwI (m_in1 (List.mem_of_getElem? (i := 12) rfl)) rfl, rfl⟩
theorem m_L11_ok : m_Lp 11 := ⟨List.forall_mem_cons.mpr ⟨m_gwI (m_in3 (List.mem_of_getElem? (i := 120) rfl)) rfl,
  List.forall_mem_cons.mpr ⟨m_gwI (m_in3 (List.mem_of_getElem? (i := 122) rfl)) rfl,
  List.forall_mem_cons.mpr ⟨m_gwI (m_in3 (List.mem_of_getElem? (i := 124) rfl)) rfl,
  List.forall_mem_cons.mpr ⟨m_gwI (m_in3 (List.mem_of_getElem? (i := 126) rfl)) rfl,
  List.forall_mem_cons.mpr ⟨m_gwI (m_in3 (List.mem_of_getElem? (i := 128) rfl)) rfl,
  List.forall_mem_cons.mpr ⟨m_gwI (m_in3 (List.mem_of_getElem? (i := 130) rfl)) rfl,
  List.forall_mem_cons.mpr ⟨m_gwI (m_in3 (List.mem_of_getElem? (i := 132) rfl)) rfl,
  List.forall_mem_cons.mpr ⟨m_gwI (m_in3 (List.mem_of_getElem? (i := 134) rfl)) rfl,
  List.forall_mem_cons.mpr ⟨m_gwI (m_in3 (List.mem_of_getElem? (i := 136) rfl)) rfl,
  List.forall_mem_cons.mpr ⟨m_gwI (m_in3 (List.mem_of_getElem? (i := 138) rfl)) rfl,
  List.forall_mem_cons.mpr ⟨m_gwI (m_in3 (List.mem_of_getElem? (i := 140) rfl)) rfl,
  List.forall_mem_cons.mpr ⟨m_gwI (m_in3 (List.mem_of_getElem? (i := 142) rfl)) rfl,
  fun _ h => absurd h List.not_mem_nil⟩⟩⟩⟩⟩⟩⟩⟩⟩⟩⟩⟩,
  by decide +kernel, by decide +kernel, by decide +kernel, by decide +kernel, m_gwI (m_in1 (List.mem_of_getElem? (i := 25) rfl)) rfl, m_gwI (m_in1 (List.mem_of_getElem? (i := 1) rfl)) rfl, rfl⟩
theorem m_L12_ok : m_Lp 12 := ⟨List.forall_mem_cons.mpr ⟨m_gwI (m_in7 (List.mem_of_getElem? (i := 2) rfl)) rfl,
  List.forall_mem_cons.mpr ⟨m_gwI (m_in7 (List.mem_of_getElem? (i := 4) rfl)) rfl,
  List.forall_mem_cons.mpr ⟨m_gwI (m_in7 (List.mem_of_getElem? (i := 6) rfl)) rfl,
  List.forall_mem_cons.mpr ⟨m_gwI (m_in7 (List.mem_of_getElem? (i := 8) rfl)) rfl,
  List.forall_mem_cons.mpr ⟨m_gwI (m_in7 (List.mem_of_getElem? (i := 10) rfl)) rfl,
  List.forall_mem_cons.mpr ⟨m_gwI (m_in7 (List.mem_of_getElem? (i := 12) rfl)) rfl,
  List.forall_mem_cons.mpr ⟨m_gwI (m_in7 (List.mem_of_getElem? (i := 14) rfl)) rfl,
  List.forall_mem_cons.mpr ⟨m_gwI (m_in7 (List.mem_of_getElem? (i := 16) rfl)) rfl,
  List.forall_mem_cons.mpr ⟨m_gwI (m_in7 (List.mem_of_getElem? (i := 18) rfl)) rfl,
  List.forall_mem_cons.mpr ⟨m_gwI (m_in7 (List.mem_of_getElem? (i := 20) rfl)) rfl,
  List.forall_mem_cons.mpr ⟨m_gwI (m_in7 (List.mem_of_getElem? (i := 22) rfl)) rfl,
  List.forall_mem_cons.mpr ⟨m_gwI (m_in7 (List.mem_of_getElem? (i := 24) rfl)) rfl,
  List.forall_mem_cons.mpr ⟨m_gwI (m_in7 (List.mem_of_getElem? (i := 26) rfl)) rfl,
  List.forall_mem_cons.mpr ⟨m_gwI (m_in7 (List.mem_of_getElem? (i := 28) rfl)) rfl,
  List.forall_mem_cons.mpr ⟨m_gwI (m_in7 (List.mem_of_getElem? (i := 30) rfl)) rfl,
  List.forall_mem_cons.mpr ⟨m_gwI (m_in7 (List.mem_of_getElem? (i := 32) rfl)) rfl,
  List.forall_mem_cons.mpr ⟨m_gwI (m_in7 (List.mem_of_getElem? (i := 34) rfl)) rfl,
  List.forall_mem_cons.mpr ⟨m_gwI (m_in7 (List.mem_of_getElem? (i := 36) rfl)) rfl,
  List.forall_mem_cons.mpr ⟨m_gwI (m_in7 (List.mem_of_getElem? (i := 38) rfl)) rfl,
  List.forall_mem_cons.mpr ⟨m_gwI (m_in7 (List.mem_of_getElem? (i := 40) rfl)) rfl,
  List.forall_mem_cons.mpr ⟨m_gwI (m_in7 (List.mem_of_getElem? (i := 42) rfl)) rfl,
  List.forall_mem_cons.mpr ⟨m_gwI (m_in7 (List.mem_of_getElem? (i := 44) rfl)) rfl,
  List.forall_mem_cons.mpr ⟨m_gwI (m_in7 (List.mem_of_getElem? (i := 46) rfl)) rfl,
  List.forall_mem_cons.mpr ⟨m_gwI (m_in7 (List.mem_of_getElem? (i := 48) rfl)) rfl,
  List.forall_mem_cons.mpr ⟨m_gwI (m_in7 (List.mem_of_getElem? (i := 50) rfl)) rfl,
  List.forall_mem_cons.mpr ⟨m_gwI (m_in7 (List.mem_of_getElem? (i := 52) rfl)) rfl,
  List.forall_mem_cons.mpr ⟨m_gwI (m_in7 (List.mem_of_getElem? (i := 54) rfl)) rfl,
  List.forall_mem_cons.mpr ⟨m_gwI (m_in7 (List.mem_of_getElem? (i := 56) rfl)) rfl,
  List.forall_mem_cons.mpr ⟨m_gwI (m_in7 (List.mem_of_getElem? (i := 58) rfl)) rfl,
  List.forall_mem_cons.mpr ⟨m_gwI (m_in7 (List.mem_of_getElem? (i := 60) rfl)) rfl,
  List.forall_mem_cons.mpr ⟨m_gwI (m_in7 (List.mem_of_getElem? (i := 62) rfl)) rfl,
  List.forall_mem_cons.mpr ⟨m_gwI (m_in7 (List.mem_of_getElem? (i := 64) rfl)) rfl,
  List.forall_mem_cons.mpr ⟨m_gwI (m_in7 (List.mem_of_getElem? (i := 66) rfl)) rfl,
  List.forall_mem_cons.mpr ⟨m_gwI (m_in7 (List.mem_of_getElem? (i := 68) rfl)) rfl,
  List.forall_mem_cons.mpr ⟨m_gwI (m_in7 (List.mem_of_getElem? (i := 70) rfl)) rfl,
  List.forall_mem_cons.mpr ⟨m_gwI (m_in7 (List.mem_of_getElem? (i := 72) rfl)) rfl,
  List.forall_mem_cons.mpr ⟨m_gwI (m_in7 (List.mem_of_getElem? (i := 74) rfl)) rfl,
  List.forall_mem_cons.mpr ⟨m_gwI (m_in7 (List.mem_of_getElem? (i := 76) rfl)) rfl,
  List.forall_mem_cons.mpr ⟨m_gwI (m_in7 (List.mem_of_getElem? (i := 78) rfl)) rfl,
  List.forall_mem_cons.mpr ⟨m_gwI (m_in7 (List.mem_of_getElem? (i := 80) rfl)) rfl,
  List.forall_mem_cons.mpr ⟨m_gwI (m_in7 (List.mem_of_getElem? (i := 82) rfl)) rfl,
  List.forall_mem_cons.mpr ⟨m_gwI (m_in7 (List.mem_of_getElem? (i := 84) rfl)) rfl,
  List.forall_mem_cons.mpr ⟨m_gwI (m_in7 (List.mem_of_getElem? (i := 86) rfl)) rfl,
  List.forall_mem_cons.mpr ⟨m_gwI (m_in7 (List.mem_of_getElem? (i := 88) rfl)) rfl,
  List.forall_mem_cons.mpr ⟨m_gwI (m_in7 (List.mem_of_getElem? (i := 90) rfl)) rfl,
  List.forall_mem_cons.mpr ⟨m_gwI (m_in7 (List.mem_of_getElem? (i := 92) rfl)) rfl,
  List.forall_mem_cons.mpr ⟨m_gwI (m_in7 (List.mem_of_getElem? (i := 94) rfl)) rfl,
  List.forall_mem_cons.mpr ⟨m_gwI (m_in7 (List.mem_of_getElem? (i := 96) rfl)) rfl,
  List.forall_mem_cons.mpr ⟨m_gwI (m_in7 (List.mem_of_getElem? (i := 98) rfl)) rfl,
  List.forall_mem_cons.mpr ⟨m_gwI (m_in7 (List.mem_of_getElem? (i := 100) rfl)) rfl,
  List.forall_mem_cons.mpr ⟨m_gwI (m_in7 (List.mem_of_getElem? (i := 102) rfl)) rfl,
  List.forall_mem_cons.mpr ⟨m_gwI (m_in7 (List.mem_of_getElem? (i := 104) rfl)) rfl,
  List.forall_mem_cons.mpr ⟨m_gwI (m_in7 (List.mem_of_getElem? (i := 106) rfl)) rfl,
  fun _ h => absurd h List.not_mem_nil⟩⟩⟩⟩⟩⟩⟩⟩⟩⟩⟩⟩⟩⟩⟩⟩⟩⟩⟩⟩⟩⟩⟩⟩⟩⟩⟩⟩⟩⟩⟩⟩⟩⟩⟩⟩⟩⟩⟩⟩⟩⟩⟩⟩⟩⟩⟩⟩⟩⟩⟩⟩⟩,
  by decide +kernel, by decide +kernel, by decide +kernel, by decide +kernel, m_gwI (m_in6 (List.mem_of_getElem? (i := 148) rfl)) rfl, m_gwI (m_in1 (List.mem_of_getElem? (i := 18) rfl)) rfl, rfl⟩
theorem m_L_ok {c : Nat} (h : c < 13) : m_Lp c := by
  match c, h with
  | 0, _ => exact m_L0_ok
  | 1, _ => exact m_L1_ok
  | 2, _ => exact m_L2_ok
  | 3, _ => exact m_L3_ok
  | 4, _ => exact m_L4_ok
  | 5, _ => exact m_L5_ok
  | 6, _ => exact m_L6_ok
  | 7, _ => exact m_L7_ok
  | 8, _ => exact m_L8_ok
  | 9, _ => exact m_L9_ok
  | 10, _ => exact m_L10_ok
  | 11, _ => exact m_L11_ok
  | 12, _ => exact m_L12_ok
  | c + 13, h => omega
def m_Mp (me : m_Me) : Prop := me.1 < 13 ∧ me.2.1.cls = m_cn me.1 ∧ (me.2.1.cls ≠ "java/lang/invoke/MethodHandle" ∧ me.2.1.cls ≠ "java/lang/invoke/VarHandle") ∧ plainName me.2.1.cls = true ∧ Cond.code me.2.1 me.2.2.1 me.2.2.2.1 me.2.2.2.2 ∈ m_gw ∧ Cond.initialized me.2.1.cls ∈ m_gw ∧ me.2.2.2.1 ≤ 40
theorem pHa_init : m_Mp mHa_init := ⟨by decide, rfl, ⟨by decide, by decide⟩, by decide, m_gwI (m_in3 (List.mem_of_getElem? (i := 44) rfl)) rfl, m_gwI (m_in1 (List.mem_of_getElem? (i := 16) rfl)) rfl, by decide⟩
theorem pHa_fromNow : m_Mp mHa_fromNow := ⟨by decide, rfl, ⟨by decide, by decide⟩, by decide, m_gwI (m_in5 (List.mem_of_getElem? (i := 66) rfl)) rfl, m_gwI (m_in1 (List.mem_of_getElem? (i := 16) rfl)) rfl, by decide⟩
theorem pHa_fewestInAll : m_Mp mHa_fewestInAll := ⟨by decide, rfl, ⟨by decide, by decide⟩, by decide, m_gwI (m_in5 (List.mem_of_getElem? (i := 94) rfl)) rfl, m_gwI (m_in1 (List.mem_of_getElem? (i := 16) rfl)) rfl, by decide⟩
theorem pHa_stepsOf : m_Mp mHa_stepsOf := ⟨by decide, rfl, ⟨by decide, by decide⟩, by decide, m_gwI (m_in5 (List.mem_of_getElem? (i := 71) rfl)) rfl, m_gwI (m_in1 (List.mem_of_getElem? (i := 16) rfl)) rfl, by decide⟩
theorem pHa_dropDepth : m_Mp mHa_dropDepth := ⟨by decide, rfl, ⟨by decide, by decide⟩, by decide, m_gwI (m_in5 (List.mem_of_getElem? (i := 86) rfl)) rfl, m_gwI (m_in1 (List.mem_of_getElem? (i := 16) rfl)) rfl, by decide⟩
theorem pHa_goOn : m_Mp mHa_goOn := ⟨by decide, rfl, ⟨by decide, by decide⟩, by decide, m_gwI (m_in5 (List.mem_of_getElem? (i := 98) rfl)) rfl, m_gwI (m_in1 (List.mem_of_getElem? (i := 16) rfl)) rfl, by decide⟩
theorem pLo_init : m_Mp mLo_init := ⟨by decide, rfl, ⟨by decide, by decide⟩, by decide, m_gwI (m_in2 (List.mem_of_getElem? (i := 85) rfl)) rfl, m_gwI (m_in1 (List.mem_of_getElem? (i := 10) rfl)) rfl, by decide⟩
theorem pLo_clear : m_Mp mLo_clear := ⟨by decide, rfl, ⟨by decide, by decide⟩, by decide, m_gwI (m_in4 (List.mem_of_getElem? (i := 28) rfl)) rfl, m_gwI (m_in1 (List.mem_of_getElem? (i := 10) rfl)) rfl, by decide⟩
theorem pLo_set : m_Mp mLo_set := ⟨by decide, rfl, ⟨by decide, by decide⟩, by decide, m_gwI (m_in6 (List.mem_of_getElem? (i := 41) rfl)) rfl, m_gwI (m_in1 (List.mem_of_getElem? (i := 10) rfl)) rfl, by decide⟩
theorem pLo_shown : m_Mp mLo_shown := ⟨by decide, rfl, ⟨by decide, by decide⟩, by decide, m_gwI (m_in5 (List.mem_of_getElem? (i := 234) rfl)) rfl, m_gwI (m_in1 (List.mem_of_getElem? (i := 10) rfl)) rfl, by decide⟩
theorem pLo_add : m_Mp mLo_add := ⟨by decide, rfl, ⟨by decide, by decide⟩, by decide, m_gwI (m_in4 (List.mem_of_getElem? (i := 83) rfl)) rfl, m_gwI (m_in1 (List.mem_of_getElem? (i := 10) rfl)) rfl, by decide⟩
theorem pLo_letterOf : m_Mp mLo_letterOf := ⟨by decide, rfl, ⟨by decide, by decide⟩, by decide, m_gwI (m_in4 (List.mem_of_getElem? (i := 86) rfl)) rfl, m_gwI (m_in1 (List.mem_of_getElem? (i := 10) rfl)) rfl, by decide⟩
theorem pLo_forget : m_Mp mLo_forget := ⟨by decide, rfl, ⟨by decide, by decide⟩, by decide, m_gwI (m_in6 (List.mem_of_getElem? (i := 32) rfl)) rfl, m_gwI (m_in1 (List.mem_of_getElem? (i := 10) rfl)) rfl, by decide⟩
theorem pLo_latest : m_Mp mLo_latest := ⟨by decide, rfl, ⟨by decide, by decide⟩, by decide, m_gwI (m_in6 (List.mem_of_getElem? (i := 2) rfl)) rfl, m_gwI (m_in1 (List.mem_of_getElem? (i := 10) rfl)) rfl, by decide⟩
theorem pLo_tell : m_Mp mLo_tell := ⟨by decide, rfl, ⟨by decide, by decide⟩, by decide, m_gwI (m_in5 (List.mem_of_getElem? (i := 238) rfl)) rfl, m_gwI (m_in1 (List.mem_of_getElem? (i := 10) rfl)) rfl, by decide⟩
theorem pLo_repeats : m_Mp mLo_repeats := ⟨by decide, rfl, ⟨by decide, by decide⟩, by decide, m_gwI (m_in6 (List.mem_of_getElem? (i := 10) rfl)) rfl, m_gwI (m_in1 (List.mem_of_getElem? (i := 10) rfl)) rfl, by decide⟩
theorem pMo_init : m_Mp mMo_init := ⟨by decide, rfl, ⟨by decide, by decide⟩, by decide, m_gwI (m_in2 (List.mem_of_getElem? (i := 7) rfl)) rfl, m_gwI (m_in1 (List.mem_of_getElem? (i := 8) rfl)) rfl, by decide⟩
theorem pMo_set : m_Mp mMo_set := ⟨by decide, rfl, ⟨by decide, by decide⟩, by decide, m_gwI (m_in4 (List.mem_of_getElem? (i := 77) rfl)) rfl, m_gwI (m_in1 (List.mem_of_getElem? (i := 8) rfl)) rfl, by decide⟩
theorem pMo_begin : m_Mp mMo_begin := ⟨by decide, rfl, ⟨by decide, by decide⟩, by decide, m_gwI (m_in2 (List.mem_of_getElem? (i := 73) rfl)) rfl, m_gwI (m_in1 (List.mem_of_getElem? (i := 8) rfl)) rfl, by decide⟩
theorem pMo_countBoxes : m_Mp mMo_countBoxes := ⟨by decide, rfl, ⟨by decide, by decide⟩, by decide, m_gwI (m_in6 (List.mem_of_getElem? (i := 54) rfl)) rfl, m_gwI (m_in1 (List.mem_of_getElem? (i := 8) rfl)) rfl, by decide⟩
theorem pPa_init : m_Mp mPa_init := ⟨by decide, rfl, ⟨by decide, by decide⟩, by decide, m_gwI (m_in2 (List.mem_of_getElem? (i := 101) rfl)) rfl, m_gwI (m_in1 (List.mem_of_getElem? (i := 11) rfl)) rfl, by decide⟩
theorem pPa_clear : m_Mp mPa_clear := ⟨by decide, rfl, ⟨by decide, by decide⟩, by decide, m_gwI (m_in4 (List.mem_of_getElem? (i := 32) rfl)) rfl, m_gwI (m_in1 (List.mem_of_getElem? (i := 11) rfl)) rfl, by decide⟩
theorem pPa_push : m_Mp mPa_push := ⟨by decide, rfl, ⟨by decide, by decide⟩, by decide, m_gwI (m_in4 (List.mem_of_getElem? (i := 73) rfl)) rfl, m_gwI (m_in1 (List.mem_of_getElem? (i := 11) rfl)) rfl, by decide⟩
theorem pPa_pop : m_Mp mPa_pop := ⟨by decide, rfl, ⟨by decide, by decide⟩, by decide, m_gwI (m_in6 (List.mem_of_getElem? (i := 28) rfl)) rfl, m_gwI (m_in1 (List.mem_of_getElem? (i := 11) rfl)) rfl, by decide⟩
theorem pPl_init : m_Mp mPl_init := ⟨by decide, rfl, ⟨by decide, by decide⟩, by decide, m_gwI (m_in1 (List.mem_of_getElem? (i := 42) rfl)) rfl, m_gwI (m_in1 (List.mem_of_getElem? (i := 3) rfl)) rfl, by decide⟩
theorem pPl_clear : m_Mp mPl_clear := ⟨by decide, rfl, ⟨by decide, by decide⟩, by decide, m_gwI (m_in1 (List.mem_of_getElem? (i := 47) rfl)) rfl, m_gwI (m_in1 (List.mem_of_getElem? (i := 3) rfl)) rfl, by decide⟩
theorem pPl_set : m_Mp mPl_set := ⟨by decide, rfl, ⟨by decide, by decide⟩, by decide, m_gwI (m_in4 (List.mem_of_getElem? (i := 23) rfl)) rfl, m_gwI (m_in1 (List.mem_of_getElem? (i := 3) rfl)) rfl, by decide⟩
theorem pPl_hasColumn : m_Mp mPl_hasColumn := ⟨by decide, rfl, ⟨by decide, by decide⟩, by decide, m_gwI (m_in3 (List.mem_of_getElem? (i := 89) rfl)) rfl, m_gwI (m_in1 (List.mem_of_getElem? (i := 3) rfl)) rfl, by decide⟩
theorem pPl_hasSpot : m_Mp mPl_hasSpot := ⟨by decide, rfl, ⟨by decide, by decide⟩, by decide, m_gwI (m_in4 (List.mem_of_getElem? (i := 228) rfl)) rfl, m_gwI (m_in1 (List.mem_of_getElem? (i := 3) rfl)) rfl, by decide⟩
theorem pPl_freeOf : m_Mp mPl_freeOf := ⟨by decide, rfl, ⟨by decide, by decide⟩, by decide, m_gwI (m_in3 (List.mem_of_getElem? (i := 85) rfl)) rfl, m_gwI (m_in1 (List.mem_of_getElem? (i := 3) rfl)) rfl, by decide⟩
theorem pPl_spotNamed : m_Mp mPl_spotNamed := ⟨by decide, rfl, ⟨by decide, by decide⟩, by decide, m_gwI (m_in3 (List.mem_of_getElem? (i := 234) rfl)) rfl, m_gwI (m_in1 (List.mem_of_getElem? (i := 3) rfl)) rfl, by decide⟩
theorem pPl_windAt : m_Mp mPl_windAt := ⟨by decide, rfl, ⟨by decide, by decide⟩, by decide, m_gwI (m_in4 (List.mem_of_getElem? (i := 57) rfl)) rfl, m_gwI (m_in1 (List.mem_of_getElem? (i := 3) rfl)) rfl, by decide⟩
theorem pPl_orderAt : m_Mp mPl_orderAt := ⟨by decide, rfl, ⟨by decide, by decide⟩, by decide, m_gwI (m_in4 (List.mem_of_getElem? (i := 103) rfl)) rfl, m_gwI (m_in1 (List.mem_of_getElem? (i := 3) rfl)) rfl, by decide⟩
theorem pPo_init : m_Mp mPo_init := ⟨by decide, rfl, ⟨by decide, by decide⟩, by decide, m_gwI (m_in2 (List.mem_of_getElem? (i := 13) rfl)) rfl, m_gwI (m_in1 (List.mem_of_getElem? (i := 9) rfl)) rfl, by decide⟩
theorem pPo_set : m_Mp mPo_set := ⟨by decide, rfl, ⟨by decide, by decide⟩, by decide, m_gwI (m_in4 (List.mem_of_getElem? (i := 53) rfl)) rfl, m_gwI (m_in1 (List.mem_of_getElem? (i := 9) rfl)) rfl, by decide⟩
theorem pPo_hang : m_Mp mPo_hang := ⟨by decide, rfl, ⟨by decide, by decide⟩, by decide, m_gwI (m_in2 (List.mem_of_getElem? (i := 77) rfl)) rfl, m_gwI (m_in1 (List.mem_of_getElem? (i := 9) rfl)) rfl, by decide⟩
theorem pPo_move : m_Mp mPo_move := ⟨by decide, rfl, ⟨by decide, by decide⟩, by decide, m_gwI (m_in4 (List.mem_of_getElem? (i := 61) rfl)) rfl, m_gwI (m_in1 (List.mem_of_getElem? (i := 9) rfl)) rfl, by decide⟩
theorem pPo_moveBack : m_Mp mPo_moveBack := ⟨by decide, rfl, ⟨by decide, by decide⟩, by decide, m_gwI (m_in4 (List.mem_of_getElem? (i := 163) rfl)) rfl, m_gwI (m_in1 (List.mem_of_getElem? (i := 9) rfl)) rfl, by decide⟩
theorem pPo_isStill : m_Mp mPo_isStill := ⟨by decide, rfl, ⟨by decide, by decide⟩, by decide, m_gwI (m_in4 (List.mem_of_getElem? (i := 113) rfl)) rfl, m_gwI (m_in1 (List.mem_of_getElem? (i := 9) rfl)) rfl, by decide⟩
theorem pPo_load : m_Mp mPo_load := ⟨by decide, rfl, ⟨by decide, by decide⟩, by decide, m_gwI (m_in4 (List.mem_of_getElem? (i := 69) rfl)) rfl, m_gwI (m_in1 (List.mem_of_getElem? (i := 9) rfl)) rfl, by decide⟩
theorem pPo_packed : m_Mp mPo_packed := ⟨by decide, rfl, ⟨by decide, by decide⟩, by decide, m_gwI (m_in4 (List.mem_of_getElem? (i := 142) rfl)) rfl, m_gwI (m_in1 (List.mem_of_getElem? (i := 9) rfl)) rfl, by decide⟩
theorem pPo_unpack : m_Mp mPo_unpack := ⟨by decide, rfl, ⟨by decide, by decide⟩, by decide, m_gwI (m_in4 (List.mem_of_getElem? (i := 154) rfl)) rfl, m_gwI (m_in1 (List.mem_of_getElem? (i := 9) rfl)) rfl, by decide⟩
theorem pRe_init : m_Mp mRe_init := ⟨by decide, rfl, ⟨by decide, by decide⟩, by decide, m_gwI (m_in1 (List.mem_of_getElem? (i := 36) rfl)) rfl, m_gwI (m_in1 (List.mem_of_getElem? (i := 2) rfl)) rfl, by decide⟩
theorem pRe_packLanguage : m_Mp mRe_packLanguage := ⟨by decide, rfl, ⟨by decide, by decide⟩, by decide, m_gwI (m_in1 (List.mem_of_getElem? (i := 150) rfl)) rfl, m_gwI (m_in1 (List.mem_of_getElem? (i := 2) rfl)) rfl, by decide⟩
theorem pRe_letterBits : m_Mp mRe_letterBits := ⟨by decide, rfl, ⟨by decide, by decide⟩, by decide, m_gwI (m_in1 (List.mem_of_getElem? (i := 202) rfl)) rfl, m_gwI (m_in1 (List.mem_of_getElem? (i := 2) rfl)) rfl, by decide⟩
theorem pRe_takeBytes : m_Mp mRe_takeBytes := ⟨by decide, rfl, ⟨by decide, by decide⟩, by decide, m_gwI (m_in3 (List.mem_of_getElem? (i := 152) rfl)) rfl, m_gwI (m_in1 (List.mem_of_getElem? (i := 2) rfl)) rfl, by decide⟩
theorem pRe_takeNumber : m_Mp mRe_takeNumber := ⟨by decide, rfl, ⟨by decide, by decide⟩, by decide, m_gwI (m_in3 (List.mem_of_getElem? (i := 156) rfl)) rfl, m_gwI (m_in1 (List.mem_of_getElem? (i := 2) rfl)) rfl, by decide⟩
theorem pRe_readTape : m_Mp mRe_readTape := ⟨by decide, rfl, ⟨by decide, by decide⟩, by decide, m_gwI (m_in3 (List.mem_of_getElem? (i := 164) rfl)) rfl, m_gwI (m_in1 (List.mem_of_getElem? (i := 2) rfl)) rfl, by decide⟩
theorem pRe_refuse : m_Mp mRe_refuse := ⟨by decide, rfl, ⟨by decide, by decide⟩, by decide, m_gwI (m_in3 (List.mem_of_getElem? (i := 208) rfl)) rfl, m_gwI (m_in1 (List.mem_of_getElem? (i := 2) rfl)) rfl, by decide⟩
theorem pRe_signAt : m_Mp mRe_signAt := ⟨by decide, rfl, ⟨by decide, by decide⟩, by decide, m_gwI (m_in3 (List.mem_of_getElem? (i := 173) rfl)) rfl, m_gwI (m_in1 (List.mem_of_getElem? (i := 2) rfl)) rfl, by decide⟩
theorem pRe_isLetter : m_Mp mRe_isLetter := ⟨by decide, rfl, ⟨by decide, by decide⟩, by decide, m_gwI (m_in3 (List.mem_of_getElem? (i := 179) rfl)) rfl, m_gwI (m_in1 (List.mem_of_getElem? (i := 2) rfl)) rfl, by decide⟩
theorem pRe_isDigit : m_Mp mRe_isDigit := ⟨by decide, rfl, ⟨by decide, by decide⟩, by decide, m_gwI (m_in3 (List.mem_of_getElem? (i := 186) rfl)) rfl, m_gwI (m_in1 (List.mem_of_getElem? (i := 2) rfl)) rfl, by decide⟩
theorem pRe_isBlank : m_Mp mRe_isBlank := ⟨by decide, rfl, ⟨by decide, by decide⟩, by decide, m_gwI (m_in3 (List.mem_of_getElem? (i := 176) rfl)) rfl, m_gwI (m_in1 (List.mem_of_getElem? (i := 2) rfl)) rfl, by decide⟩
theorem pRe_nextToken : m_Mp mRe_nextToken := ⟨by decide, rfl, ⟨by decide, by decide⟩, by decide, m_gwI (m_in3 (List.mem_of_getElem? (i := 169) rfl)) rfl, m_gwI (m_in1 (List.mem_of_getElem? (i := 2) rfl)) rfl, by decide⟩
theorem pRe_takeWord : m_Mp mRe_takeWord := ⟨by decide, rfl, ⟨by decide, by decide⟩, by decide, m_gwI (m_in3 (List.mem_of_getElem? (i := 183) rfl)) rfl, m_gwI (m_in1 (List.mem_of_getElem? (i := 2) rfl)) rfl, by decide⟩
theorem pRe_takeDigits : m_Mp mRe_takeDigits := ⟨by decide, rfl, ⟨by decide, by decide⟩, by decide, m_gwI (m_in3 (List.mem_of_getElem? (i := 190) rfl)) rfl, m_gwI (m_in1 (List.mem_of_getElem? (i := 2) rfl)) rfl, by decide⟩
theorem pRe_wordNumber : m_Mp mRe_wordNumber := ⟨by decide, rfl, ⟨by decide, by decide⟩, by decide, m_gwI (m_in3 (List.mem_of_getElem? (i := 196) rfl)) rfl, m_gwI (m_in1 (List.mem_of_getElem? (i := 2) rfl)) rfl, by decide⟩
theorem pRe_mayStand : m_Mp mRe_mayStand := ⟨by decide, rfl, ⟨by decide, by decide⟩, by decide, m_gwI (m_in3 (List.mem_of_getElem? (i := 200) rfl)) rfl, m_gwI (m_in1 (List.mem_of_getElem? (i := 2) rfl)) rfl, by decide⟩
theorem pRe_isBegun : m_Mp mRe_isBegun := ⟨by decide, rfl, ⟨by decide, by decide⟩, by decide, m_gwI (m_in3 (List.mem_of_getElem? (i := 204) rfl)) rfl, m_gwI (m_in1 (List.mem_of_getElem? (i := 2) rfl)) rfl, by decide⟩
theorem pRe_readLine : m_Mp mRe_readLine := ⟨by decide, rfl, ⟨by decide, by decide⟩, by decide, m_gwI (m_in3 (List.mem_of_getElem? (i := 214) rfl)) rfl, m_gwI (m_in1 (List.mem_of_getElem? (i := 2) rfl)) rfl, by decide⟩
theorem pRe_number : m_Mp mRe_number := ⟨by decide, rfl, ⟨by decide, by decide⟩, by decide, m_gwI (m_in3 (List.mem_of_getElem? (i := 218) rfl)) rfl, m_gwI (m_in1 (List.mem_of_getElem? (i := 2) rfl)) rfl, by decide⟩
theorem pRe_within : m_Mp mRe_within := ⟨by decide, rfl, ⟨by decide, by decide⟩, by decide, m_gwI (m_in3 (List.mem_of_getElem? (i := 222) rfl)) rfl, m_gwI (m_in1 (List.mem_of_getElem? (i := 2) rfl)) rfl, by decide⟩
theorem pRe_needSemicolon : m_Mp mRe_needSemicolon := ⟨by decide, rfl, ⟨by decide, by decide⟩, by decide, m_gwI (m_in4 (List.mem_of_getElem? (i := 19) rfl)) rfl, m_gwI (m_in1 (List.mem_of_getElem? (i := 2) rfl)) rfl, by decide⟩
theorem pRe_readBlock : m_Mp mRe_readBlock := ⟨by decide, rfl, ⟨by decide, by decide⟩, by decide, m_gwI (m_in3 (List.mem_of_getElem? (i := 226) rfl)) rfl, m_gwI (m_in1 (List.mem_of_getElem? (i := 2) rfl)) rfl, by decide⟩
theorem pRe_readSpot : m_Mp mRe_readSpot := ⟨by decide, rfl, ⟨by decide, by decide⟩, by decide, m_gwI (m_in3 (List.mem_of_getElem? (i := 230) rfl)) rfl, m_gwI (m_in1 (List.mem_of_getElem? (i := 2) rfl)) rfl, by decide⟩
theorem pRe_readWind : m_Mp mRe_readWind := ⟨by decide, rfl, ⟨by decide, by decide⟩, by decide, m_gwI (m_in3 (List.mem_of_getElem? (i := 238) rfl)) rfl, m_gwI (m_in1 (List.mem_of_getElem? (i := 2) rfl)) rfl, by decide⟩
theorem pRe_signedNumber : m_Mp mRe_signedNumber := ⟨by decide, rfl, ⟨by decide, by decide⟩, by decide, m_gwI (m_in4 (List.mem_of_getElem? (i := 2) rfl)) rfl, m_gwI (m_in1 (List.mem_of_getElem? (i := 2) rfl)) rfl, by decide⟩
theorem pRe_readOrder : m_Mp mRe_readOrder := ⟨by decide, rfl, ⟨by decide, by decide⟩, by decide, m_gwI (m_in4 (List.mem_of_getElem? (i := 6) rfl)) rfl, m_gwI (m_in1 (List.mem_of_getElem? (i := 2) rfl)) rfl, by decide⟩
theorem pRe_readPile : m_Mp mRe_readPile := ⟨by decide, rfl, ⟨by decide, by decide⟩, by decide, m_gwI (m_in4 (List.mem_of_getElem? (i := 10) rfl)) rfl, m_gwI (m_in1 (List.mem_of_getElem? (i := 2) rfl)) rfl, by decide⟩
theorem pRe_readJob : m_Mp mRe_readJob := ⟨by decide, rfl, ⟨by decide, by decide⟩, by decide, m_gwI (m_in4 (List.mem_of_getElem? (i := 14) rfl)) rfl, m_gwI (m_in1 (List.mem_of_getElem? (i := 2) rfl)) rfl, by decide⟩
theorem pRo_init : m_Mp mRo_init := ⟨by decide, rfl, ⟨by decide, by decide⟩, by decide, m_gwI (m_in3 (List.mem_of_getElem? (i := 18) rfl)) rfl, m_gwI (m_in1 (List.mem_of_getElem? (i := 15) rfl)) rfl, by decide⟩
theorem pRo_fewestInAll : m_Mp mRo_fewestInAll := ⟨by decide, rfl, ⟨by decide, by decide⟩, by decide, m_gwI (m_in5 (List.mem_of_getElem? (i := 47) rfl)) rfl, m_gwI (m_in1 (List.mem_of_getElem? (i := 15) rfl)) rfl, by decide⟩
theorem pRo_goOn : m_Mp mRo_goOn := ⟨by decide, rfl, ⟨by decide, by decide⟩, by decide, m_gwI (m_in5 (List.mem_of_getElem? (i := 51) rfl)) rfl, m_gwI (m_in1 (List.mem_of_getElem? (i := 15) rfl)) rfl, by decide⟩
theorem pSe_init : m_Mp mSe_init := ⟨by decide, rfl, ⟨by decide, by decide⟩, by decide, m_gwI (m_in2 (List.mem_of_getElem? (i := 169) rfl)) rfl, m_gwI (m_in1 (List.mem_of_getElem? (i := 14) rfl)) rfl, by decide⟩
theorem pSe_begin : m_Mp mSe_begin := ⟨by decide, rfl, ⟨by decide, by decide⟩, by decide, m_gwI (m_in4 (List.mem_of_getElem? (i := 129) rfl)) rfl, m_gwI (m_in1 (List.mem_of_getElem? (i := 14) rfl)) rfl, by decide⟩
theorem pSe_seed : m_Mp mSe_seed := ⟨by decide, rfl, ⟨by decide, by decide⟩, by decide, m_gwI (m_in4 (List.mem_of_getElem? (i := 137) rfl)) rfl, m_gwI (m_in1 (List.mem_of_getElem? (i := 14) rfl)) rfl, by decide⟩
theorem pSe_stepsMet : m_Mp mSe_stepsMet := ⟨by decide, rfl, ⟨by decide, by decide⟩, by decide, m_gwI (m_in4 (List.mem_of_getElem? (i := 158) rfl)) rfl, m_gwI (m_in1 (List.mem_of_getElem? (i := 14) rfl)) rfl, by decide⟩
theorem pSe_codeMet : m_Mp mSe_codeMet := ⟨by decide, rfl, ⟨by decide, by decide⟩, by decide, m_gwI (m_in5 (List.mem_of_getElem? (i := 17) rfl)) rfl, m_gwI (m_in1 (List.mem_of_getElem? (i := 14) rfl)) rfl, by decide⟩
theorem pSe_stepsTo : m_Mp mSe_stepsTo := ⟨by decide, rfl, ⟨by decide, by decide⟩, by decide, m_gwI (m_in4 (List.mem_of_getElem? (i := 146) rfl)) rfl, m_gwI (m_in1 (List.mem_of_getElem? (i := 14) rfl)) rfl, by decide⟩
theorem pSe_countMet : m_Mp mSe_countMet := ⟨by decide, rfl, ⟨by decide, by decide⟩, by decide, m_gwI (m_in5 (List.mem_of_getElem? (i := 132) rfl)) rfl, m_gwI (m_in1 (List.mem_of_getElem? (i := 14) rfl)) rfl, by decide⟩
theorem pSe_expand : m_Mp mSe_expand := ⟨by decide, rfl, ⟨by decide, by decide⟩, by decide, m_gwI (m_in4 (List.mem_of_getElem? (i := 150) rfl)) rfl, m_gwI (m_in1 (List.mem_of_getElem? (i := 14) rfl)) rfl, by decide⟩
theorem pSe_costTo : m_Mp mSe_costTo := ⟨by decide, rfl, ⟨by decide, by decide⟩, by decide, m_gwI (m_in5 (List.mem_of_getElem? (i := 196) rfl)) rfl, m_gwI (m_in1 (List.mem_of_getElem? (i := 14) rfl)) rfl, by decide⟩
theorem pSe_spreadLevels : m_Mp mSe_spreadLevels := ⟨by decide, rfl, ⟨by decide, by decide⟩, by decide, m_gwI (m_in5 (List.mem_of_getElem? (i := 205) rfl)) rfl, m_gwI (m_in1 (List.mem_of_getElem? (i := 14) rfl)) rfl, by decide⟩
theorem pSe_spread : m_Mp mSe_spread := ⟨by decide, rfl, ⟨by decide, by decide⟩, by decide, m_gwI (m_in5 (List.mem_of_getElem? (i := 200) rfl)) rfl, m_gwI (m_in1 (List.mem_of_getElem? (i := 14) rfl)) rfl, by decide⟩
theorem pSp_init : m_Mp mSp_init := ⟨by decide, rfl, ⟨by decide, by decide⟩, by decide, m_gwI (m_in2 (List.mem_of_getElem? (i := 127) rfl)) rfl, m_gwI (m_in1 (List.mem_of_getElem? (i := 13) rfl)) rfl, by decide⟩
theorem pSp_lay : m_Mp mSp_lay := ⟨by decide, rfl, ⟨by decide, by decide⟩, by decide, m_gwI (m_in3 (List.mem_of_getElem? (i := 81) rfl)) rfl, m_gwI (m_in1 (List.mem_of_getElem? (i := 13) rfl)) rfl, by decide⟩
theorem pSp_layRopes : m_Mp mSp_layRopes := ⟨by decide, rfl, ⟨by decide, by decide⟩, by decide, m_gwI (m_in3 (List.mem_of_getElem? (i := 99) rfl)) rfl, m_gwI (m_in1 (List.mem_of_getElem? (i := 13) rfl)) rfl, by decide⟩
theorem pSp_freeAt : m_Mp mSp_freeAt := ⟨by decide, rfl, ⟨by decide, by decide⟩, by decide, m_gwI (m_in3 (List.mem_of_getElem? (i := 107) rfl)) rfl, m_gwI (m_in1 (List.mem_of_getElem? (i := 13) rfl)) rfl, by decide⟩
theorem pSp_isClear : m_Mp mSp_isClear := ⟨by decide, rfl, ⟨by decide, by decide⟩, by decide, m_gwI (m_in3 (List.mem_of_getElem? (i := 103) rfl)) rfl, m_gwI (m_in1 (List.mem_of_getElem? (i := 13) rfl)) rfl, by decide⟩
theorem pSp_whyNot : m_Mp mSp_whyNot := ⟨by decide, rfl, ⟨by decide, by decide⟩, by decide, m_gwI (m_in4 (List.mem_of_getElem? (i := 65) rfl)) rfl, m_gwI (m_in1 (List.mem_of_getElem? (i := 13) rfl)) rfl, by decide⟩
theorem pSp_numberOf : m_Mp mSp_numberOf := ⟨by decide, rfl, ⟨by decide, by decide⟩, by decide, m_gwI (m_in4 (List.mem_of_getElem? (i := 121) rfl)) rfl, m_gwI (m_in1 (List.mem_of_getElem? (i := 13) rfl)) rfl, by decide⟩
theorem pSp_countStates : m_Mp mSp_countStates := ⟨by decide, rfl, ⟨by decide, by decide⟩, by decide, m_gwI (m_in5 (List.mem_of_getElem? (i := 136) rfl)) rfl, m_gwI (m_in1 (List.mem_of_getElem? (i := 13) rfl)) rfl, by decide⟩
theorem pWa_init : m_Mp mWa_init := ⟨by decide, rfl, ⟨by decide, by decide⟩, by decide, m_gwI (m_in2 (List.mem_of_getElem? (i := 121) rfl)) rfl, m_gwI (m_in1 (List.mem_of_getElem? (i := 12) rfl)) rfl, by decide⟩
theorem pWa_moved : m_Mp mWa_moved := ⟨by decide, rfl, ⟨by decide, by decide⟩, by decide, m_gwI (m_in4 (List.mem_of_getElem? (i := 91) rfl)) rfl, m_gwI (m_in1 (List.mem_of_getElem? (i := 12) rfl)) rfl, by decide⟩
theorem pWa_changed : m_Mp mWa_changed := ⟨by decide, rfl, ⟨by decide, by decide⟩, by decide, m_gwI (m_in3 (List.mem_of_getElem? (i := 77) rfl)) rfl, m_gwI (m_in1 (List.mem_of_getElem? (i := 12) rfl)) rfl, by decide⟩
theorem pWa_restNumber : m_Mp mWa_restNumber := ⟨by decide, rfl, ⟨by decide, by decide⟩, by decide, m_gwI (m_in5 (List.mem_of_getElem? (i := 1) rfl)) rfl, m_gwI (m_in1 (List.mem_of_getElem? (i := 12) rfl)) rfl, by decide⟩
theorem pWa_spotNumber : m_Mp mWa_spotNumber := ⟨by decide, rfl, ⟨by decide, by decide⟩, by decide, m_gwI (m_in4 (List.mem_of_getElem? (i := 236) rfl)) rfl, m_gwI (m_in1 (List.mem_of_getElem? (i := 12) rfl)) rfl, by decide⟩
theorem pWa_fromHere : m_Mp mWa_fromHere := ⟨by decide, rfl, ⟨by decide, by decide⟩, by decide, m_gwI (m_in5 (List.mem_of_getElem? (i := 5) rfl)) rfl, m_gwI (m_in1 (List.mem_of_getElem? (i := 12) rfl)) rfl, by decide⟩
theorem pWa_stepsToSpot : m_Mp mWa_stepsToSpot := ⟨by decide, rfl, ⟨by decide, by decide⟩, by decide, m_gwI (m_in4 (List.mem_of_getElem? (i := 232) rfl)) rfl, m_gwI (m_in1 (List.mem_of_getElem? (i := 12) rfl)) rfl, by decide⟩
theorem pWa_stepsToRest : m_Mp mWa_stepsToRest := ⟨by decide, rfl, ⟨by decide, by decide⟩, by decide, m_gwI (m_in5 (List.mem_of_getElem? (i := 77) rfl)) rfl, m_gwI (m_in1 (List.mem_of_getElem? (i := 12) rfl)) rfl, by decide⟩
theorem pWa_stepsAtRest : m_Mp mWa_stepsAtRest := ⟨by decide, rfl, ⟨by decide, by decide⟩, by decide, m_gwI (m_in5 (List.mem_of_getElem? (i := 119) rfl)) rfl, m_gwI (m_in1 (List.mem_of_getElem? (i := 12) rfl)) rfl, by decide⟩
theorem pWa_codeOnWay : m_Mp mWa_codeOnWay := ⟨by decide, rfl, ⟨by decide, by decide⟩, by decide, m_gwI (m_in5 (List.mem_of_getElem? (i := 13) rfl)) rfl, m_gwI (m_in1 (List.mem_of_getElem? (i := 12) rfl)) rfl, by decide⟩
theorem pWa_onWay : m_Mp mWa_onWay := ⟨by decide, rfl, ⟨by decide, by decide⟩, by decide, m_gwI (m_in5 (List.mem_of_getElem? (i := 217) rfl)) rfl, m_gwI (m_in1 (List.mem_of_getElem? (i := 12) rfl)) rfl, by decide⟩
theorem pWa_noted : m_Mp mWa_noted := ⟨by decide, rfl, ⟨by decide, by decide⟩, by decide, m_gwI (m_in5 (List.mem_of_getElem? (i := 221) rfl)) rfl, m_gwI (m_in1 (List.mem_of_getElem? (i := 12) rfl)) rfl, by decide⟩
theorem pWa_toHome : m_Mp mWa_toHome := ⟨by decide, rfl, ⟨by decide, by decide⟩, by decide, m_gwI (m_in4 (List.mem_of_getElem? (i := 125) rfl)) rfl, m_gwI (m_in1 (List.mem_of_getElem? (i := 12) rfl)) rfl, by decide⟩
theorem pWa_stepsHome : m_Mp mWa_stepsHome := ⟨by decide, rfl, ⟨by decide, by decide⟩, by decide, m_gwI (m_in4 (List.mem_of_getElem? (i := 117) rfl)) rfl, m_gwI (m_in1 (List.mem_of_getElem? (i := 12) rfl)) rfl, by decide⟩
theorem pWa_countHoming : m_Mp mWa_countHoming := ⟨by decide, rfl, ⟨by decide, by decide⟩, by decide, m_gwI (m_in5 (List.mem_of_getElem? (i := 128) rfl)) rfl, m_gwI (m_in1 (List.mem_of_getElem? (i := 12) rfl)) rfl, by decide⟩
theorem pWa_codeHome : m_Mp mWa_codeHome := ⟨by decide, rfl, ⟨by decide, by decide⟩, by decide, m_gwI (m_in4 (List.mem_of_getElem? (i := 109) rfl)) rfl, m_gwI (m_in1 (List.mem_of_getElem? (i := 12) rfl)) rfl, by decide⟩
theorem pWa_legOf : m_Mp mWa_legOf := ⟨by decide, rfl, ⟨by decide, by decide⟩, by decide, m_gwI (m_in5 (List.mem_of_getElem? (i := 35) rfl)) rfl, m_gwI (m_in1 (List.mem_of_getElem? (i := 12) rfl)) rfl, by decide⟩
theorem pWa_searchLegs : m_Mp mWa_searchLegs := ⟨by decide, rfl, ⟨by decide, by decide⟩, by decide, m_gwI (m_in5 (List.mem_of_getElem? (i := 39) rfl)) rfl, m_gwI (m_in1 (List.mem_of_getElem? (i := 12) rfl)) rfl, by decide⟩
theorem pWa_stepsBySome : m_Mp mWa_stepsBySome := ⟨by decide, rfl, ⟨by decide, by decide⟩, by decide, m_gwI (m_in5 (List.mem_of_getElem? (i := 172) rfl)) rfl, m_gwI (m_in1 (List.mem_of_getElem? (i := 12) rfl)) rfl, by decide⟩
theorem pWa_pushesTo : m_Mp mWa_pushesTo := ⟨by decide, rfl, ⟨by decide, by decide⟩, by decide, m_gwI (m_in5 (List.mem_of_getElem? (i := 192) rfl)) rfl, m_gwI (m_in1 (List.mem_of_getElem? (i := 12) rfl)) rfl, by decide⟩
theorem pWa_stepsBehindWind : m_Mp mWa_stepsBehindWind := ⟨by decide, rfl, ⟨by decide, by decide⟩, by decide, m_gwI (m_in5 (List.mem_of_getElem? (i := 180) rfl)) rfl, m_gwI (m_in1 (List.mem_of_getElem? (i := 12) rfl)) rfl, by decide⟩
theorem pWa_stepsUnderPile : m_Mp mWa_stepsUnderPile := ⟨by decide, rfl, ⟨by decide, by decide⟩, by decide, m_gwI (m_in5 (List.mem_of_getElem? (i := 110) rfl)) rfl, m_gwI (m_in1 (List.mem_of_getElem? (i := 12) rfl)) rfl, by decide⟩
theorem pWa_supposedSteps : m_Mp mWa_supposedSteps := ⟨by decide, rfl, ⟨by decide, by decide⟩, by decide, m_gwI (m_in5 (List.mem_of_getElem? (i := 82) rfl)) rfl, m_gwI (m_in1 (List.mem_of_getElem? (i := 12) rfl)) rfl, by decide⟩
theorem pSc_init : m_Mp mSc_init := ⟨by decide, rfl, ⟨by decide, by decide⟩, by decide, m_gwI (m_in1 (List.mem_of_getElem? (i := 28) rfl)) rfl, m_gwI (m_in1 (List.mem_of_getElem? (i := 1) rfl)) rfl, by decide⟩
theorem pSc_feed : m_Mp mSc_feed := ⟨by decide, rfl, ⟨by decide, by decide⟩, by decide, m_gwI (m_in3 (List.mem_of_getElem? (i := 148) rfl)) rfl, m_gwI (m_in1 (List.mem_of_getElem? (i := 1) rfl)) rfl, by decide⟩
theorem pSc_text : m_Mp mSc_text := ⟨by decide, rfl, ⟨by decide, by decide⟩, by decide, m_gwI (m_in3 (List.mem_of_getElem? (i := 160) rfl)) rfl, m_gwI (m_in1 (List.mem_of_getElem? (i := 1) rfl)) rfl, by decide⟩
theorem pSc_fault : m_Mp mSc_fault := ⟨by decide, rfl, ⟨by decide, by decide⟩, by decide, m_gwI (m_in4 (List.mem_of_getElem? (i := 36) rfl)) rfl, m_gwI (m_in1 (List.mem_of_getElem? (i := 1) rfl)) rfl, by decide⟩
theorem pSc_named : m_Mp mSc_named := ⟨by decide, rfl, ⟨by decide, by decide⟩, by decide, m_gwI (m_in4 (List.mem_of_getElem? (i := 40) rfl)) rfl, m_gwI (m_in1 (List.mem_of_getElem? (i := 1) rfl)) rfl, by decide⟩
theorem pSc_step : m_Mp mSc_step := ⟨by decide, rfl, ⟨by decide, by decide⟩, by decide, m_gwI (m_in4 (List.mem_of_getElem? (i := 45) rfl)) rfl, m_gwI (m_in1 (List.mem_of_getElem? (i := 1) rfl)) rfl, by decide⟩
theorem pSc_flow : m_Mp mSc_flow := ⟨by decide, rfl, ⟨by decide, by decide⟩, by decide, m_gwI (m_in4 (List.mem_of_getElem? (i := 95) rfl)) rfl, m_gwI (m_in1 (List.mem_of_getElem? (i := 1) rfl)) rfl, by decide⟩
theorem pSc_now : m_Mp mSc_now := ⟨by decide, rfl, ⟨by decide, by decide⟩, by decide, m_gwI (m_in6 (List.mem_of_getElem? (i := 63) rfl)) rfl, m_gwI (m_in1 (List.mem_of_getElem? (i := 1) rfl)) rfl, by decide⟩
theorem pSc_grab : m_Mp mSc_grab := ⟨by decide, rfl, ⟨by decide, by decide⟩, by decide, m_gwI (m_in4 (List.mem_of_getElem? (i := 171) rfl)) rfl, m_gwI (m_in1 (List.mem_of_getElem? (i := 1) rfl)) rfl, by decide⟩
theorem pSc_drop : m_Mp mSc_drop := ⟨by decide, rfl, ⟨by decide, by decide⟩, by decide, m_gwI (m_in4 (List.mem_of_getElem? (i := 182) rfl)) rfl, m_gwI (m_in1 (List.mem_of_getElem? (i := 1) rfl)) rfl, by decide⟩
theorem pSc_pile : m_Mp mSc_pile := ⟨by decide, rfl, ⟨by decide, by decide⟩, by decide, m_gwI (m_in4 (List.mem_of_getElem? (i := 186) rfl)) rfl, m_gwI (m_in1 (List.mem_of_getElem? (i := 1) rfl)) rfl, by decide⟩
theorem pSc_free : m_Mp mSc_free := ⟨by decide, rfl, ⟨by decide, by decide⟩, by decide, m_gwI (m_in4 (List.mem_of_getElem? (i := 190) rfl)) rfl, m_gwI (m_in1 (List.mem_of_getElem? (i := 1) rfl)) rfl, by decide⟩
theorem pSc_gap : m_Mp mSc_gap := ⟨by decide, rfl, ⟨by decide, by decide⟩, by decide, m_gwI (m_in4 (List.mem_of_getElem? (i := 194) rfl)) rfl, m_gwI (m_in1 (List.mem_of_getElem? (i := 1) rfl)) rfl, by decide⟩
theorem pSc_wind : m_Mp mSc_wind := ⟨by decide, rfl, ⟨by decide, by decide⟩, by decide, m_gwI (m_in4 (List.mem_of_getElem? (i := 200) rfl)) rfl, m_gwI (m_in1 (List.mem_of_getElem? (i := 1) rfl)) rfl, by decide⟩
theorem pSc_why : m_Mp mSc_why := ⟨by decide, rfl, ⟨by decide, by decide⟩, by decide, m_gwI (m_in4 (List.mem_of_getElem? (i := 204) rfl)) rfl, m_gwI (m_in1 (List.mem_of_getElem? (i := 1) rfl)) rfl, by decide⟩
theorem pSc_can : m_Mp mSc_can := ⟨by decide, rfl, ⟨by decide, by decide⟩, by decide, m_gwI (m_in4 (List.mem_of_getElem? (i := 212) rfl)) rfl, m_gwI (m_in1 (List.mem_of_getElem? (i := 1) rfl)) rfl, by decide⟩
theorem pSc_sway : m_Mp mSc_sway := ⟨by decide, rfl, ⟨by decide, by decide⟩, by decide, m_gwI (m_in4 (List.mem_of_getElem? (i := 216) rfl)) rfl, m_gwI (m_in1 (List.mem_of_getElem? (i := 1) rfl)) rfl, by decide⟩
theorem pSc_drift : m_Mp mSc_drift := ⟨by decide, rfl, ⟨by decide, by decide⟩, by decide, m_gwI (m_in4 (List.mem_of_getElem? (i := 220) rfl)) rfl, m_gwI (m_in1 (List.mem_of_getElem? (i := 1) rfl)) rfl, by decide⟩
theorem pSc_fewest : m_Mp mSc_fewest := ⟨by decide, rfl, ⟨by decide, by decide⟩, by decide, m_gwI (m_in4 (List.mem_of_getElem? (i := 224) rfl)) rfl, m_gwI (m_in1 (List.mem_of_getElem? (i := 1) rfl)) rfl, by decide⟩
theorem pSc_by : m_Mp mSc_by := ⟨by decide, rfl, ⟨by decide, by decide⟩, by decide, m_gwI (m_in5 (List.mem_of_getElem? (i := 9) rfl)) rfl, m_gwI (m_in1 (List.mem_of_getElem? (i := 1) rfl)) rfl, by decide⟩
theorem pSc_halt : m_Mp mSc_halt := ⟨by decide, rfl, ⟨by decide, by decide⟩, by decide, m_gwI (m_in5 (List.mem_of_getElem? (i := 22) rfl)) rfl, m_gwI (m_in1 (List.mem_of_getElem? (i := 1) rfl)) rfl, by decide⟩
theorem pSc_rests : m_Mp mSc_rests := ⟨by decide, rfl, ⟨by decide, by decide⟩, by decide, m_gwI (m_in5 (List.mem_of_getElem? (i := 27) rfl)) rfl, m_gwI (m_in1 (List.mem_of_getElem? (i := 1) rfl)) rfl, by decide⟩
theorem pSc_between : m_Mp mSc_between := ⟨by decide, rfl, ⟨by decide, by decide⟩, by decide, m_gwI (m_in5 (List.mem_of_getElem? (i := 31) rfl)) rfl, m_gwI (m_in1 (List.mem_of_getElem? (i := 1) rfl)) rfl, by decide⟩
theorem pSc_tour : m_Mp mSc_tour := ⟨by decide, rfl, ⟨by decide, by decide⟩, by decide, m_gwI (m_in5 (List.mem_of_getElem? (i := 43) rfl)) rfl, m_gwI (m_in1 (List.mem_of_getElem? (i := 1) rfl)) rfl, by decide⟩
theorem pSc_stop : m_Mp mSc_stop := ⟨by decide, rfl, ⟨by decide, by decide⟩, by decide, m_gwI (m_in5 (List.mem_of_getElem? (i := 58) rfl)) rfl, m_gwI (m_in1 (List.mem_of_getElem? (i := 1) rfl)) rfl, by decide⟩
theorem pSc_carry : m_Mp mSc_carry := ⟨by decide, rfl, ⟨by decide, by decide⟩, by decide, m_gwI (m_in5 (List.mem_of_getElem? (i := 62) rfl)) rfl, m_gwI (m_in1 (List.mem_of_getElem? (i := 1) rfl)) rfl, by decide⟩
theorem pSc_jobs : m_Mp mSc_jobs := ⟨by decide, rfl, ⟨by decide, by decide⟩, by decide, m_gwI (m_in5 (List.mem_of_getElem? (i := 90) rfl)) rfl, m_gwI (m_in1 (List.mem_of_getElem? (i := 1) rfl)) rfl, by decide⟩
theorem pSc_job : m_Mp mSc_job := ⟨by decide, rfl, ⟨by decide, by decide⟩, by decide, m_gwI (m_in5 (List.mem_of_getElem? (i := 102) rfl)) rfl, m_gwI (m_in1 (List.mem_of_getElem? (i := 1) rfl)) rfl, by decide⟩
theorem pSc_ifPile : m_Mp mSc_ifPile := ⟨by decide, rfl, ⟨by decide, by decide⟩, by decide, m_gwI (m_in5 (List.mem_of_getElem? (i := 106) rfl)) rfl, m_gwI (m_in1 (List.mem_of_getElem? (i := 1) rfl)) rfl, by decide⟩
theorem pSc_reach : m_Mp mSc_reach := ⟨by decide, rfl, ⟨by decide, by decide⟩, by decide, m_gwI (m_in5 (List.mem_of_getElem? (i := 115) rfl)) rfl, m_gwI (m_in1 (List.mem_of_getElem? (i := 1) rfl)) rfl, by decide⟩
theorem pSc_safe : m_Mp mSc_safe := ⟨by decide, rfl, ⟨by decide, by decide⟩, by decide, m_gwI (m_in5 (List.mem_of_getElem? (i := 124) rfl)) rfl, m_gwI (m_in1 (List.mem_of_getElem? (i := 1) rfl)) rfl, by decide⟩
theorem pSc_bears : m_Mp mSc_bears := ⟨by decide, rfl, ⟨by decide, by decide⟩, by decide, m_gwI (m_in5 (List.mem_of_getElem? (i := 140) rfl)) rfl, m_gwI (m_in1 (List.mem_of_getElem? (i := 1) rfl)) rfl, by decide⟩
theorem pSc_pulses : m_Mp mSc_pulses := ⟨by decide, rfl, ⟨by decide, by decide⟩, by decide, m_gwI (m_in5 (List.mem_of_getElem? (i := 148) rfl)) rfl, m_gwI (m_in1 (List.mem_of_getElem? (i := 1) rfl)) rfl, by decide⟩
theorem pSc_shortest : m_Mp mSc_shortest := ⟨by decide, rfl, ⟨by decide, by decide⟩, by decide, m_gwI (m_in5 (List.mem_of_getElem? (i := 164) rfl)) rfl, m_gwI (m_in1 (List.mem_of_getElem? (i := 1) rfl)) rfl, by decide⟩
theorem pSc_level : m_Mp mSc_level := ⟨by decide, rfl, ⟨by decide, by decide⟩, by decide, m_gwI (m_in5 (List.mem_of_getElem? (i := 168) rfl)) rfl, m_gwI (m_in1 (List.mem_of_getElem? (i := 1) rfl)) rfl, by decide⟩
theorem pSc_ifWind : m_Mp mSc_ifWind := ⟨by decide, rfl, ⟨by decide, by decide⟩, by decide, m_gwI (m_in5 (List.mem_of_getElem? (i := 176) rfl)) rfl, m_gwI (m_in1 (List.mem_of_getElem? (i := 1) rfl)) rfl, by decide⟩
theorem pSc_nearest : m_Mp mSc_nearest := ⟨by decide, rfl, ⟨by decide, by decide⟩, by decide, m_gwI (m_in5 (List.mem_of_getElem? (i := 184) rfl)) rfl, m_gwI (m_in1 (List.mem_of_getElem? (i := 1) rfl)) rfl, by decide⟩
theorem pSc_least : m_Mp mSc_least := ⟨by decide, rfl, ⟨by decide, by decide⟩, by decide, m_gwI (m_in5 (List.mem_of_getElem? (i := 188) rfl)) rfl, m_gwI (m_in1 (List.mem_of_getElem? (i := 1) rfl)) rfl, by decide⟩
theorem pSc_steadiest : m_Mp mSc_steadiest := ⟨by decide, rfl, ⟨by decide, by decide⟩, by decide, m_gwI (m_in5 (List.mem_of_getElem? (i := 209) rfl)) rfl, m_gwI (m_in1 (List.mem_of_getElem? (i := 1) rfl)) rfl, by decide⟩
theorem pSc_along : m_Mp mSc_along := ⟨by decide, rfl, ⟨by decide, by decide⟩, by decide, m_gwI (m_in5 (List.mem_of_getElem? (i := 213) rfl)) rfl, m_gwI (m_in1 (List.mem_of_getElem? (i := 1) rfl)) rfl, by decide⟩
theorem pSc_log : m_Mp mSc_log := ⟨by decide, rfl, ⟨by decide, by decide⟩, by decide, m_gwI (m_in5 (List.mem_of_getElem? (i := 230) rfl)) rfl, m_gwI (m_in1 (List.mem_of_getElem? (i := 1) rfl)) rfl, by decide⟩
theorem pSc_again : m_Mp mSc_again := ⟨by decide, rfl, ⟨by decide, by decide⟩, by decide, m_gwI (m_in6 (List.mem_of_getElem? (i := 6) rfl)) rfl, m_gwI (m_in1 (List.mem_of_getElem? (i := 1) rfl)) rfl, by decide⟩
theorem pSc_chance : m_Mp mSc_chance := ⟨by decide, rfl, ⟨by decide, by decide⟩, by decide, m_gwI (m_in6 (List.mem_of_getElem? (i := 14) rfl)) rfl, m_gwI (m_in1 (List.mem_of_getElem? (i := 1) rfl)) rfl, by decide⟩
theorem pSc_undo : m_Mp mSc_undo := ⟨by decide, rfl, ⟨by decide, by decide⟩, by decide, m_gwI (m_in6 (List.mem_of_getElem? (i := 24) rfl)) rfl, m_gwI (m_in1 (List.mem_of_getElem? (i := 1) rfl)) rfl, by decide⟩
theorem pSc_keep : m_Mp mSc_keep := ⟨by decide, rfl, ⟨by decide, by decide⟩, by decide, m_gwI (m_in6 (List.mem_of_getElem? (i := 36) rfl)) rfl, m_gwI (m_in1 (List.mem_of_getElem? (i := 1) rfl)) rfl, by decide⟩
theorem pSc_back : m_Mp mSc_back := ⟨by decide, rfl, ⟨by decide, by decide⟩, by decide, m_gwI (m_in6 (List.mem_of_getElem? (i := 46) rfl)) rfl, m_gwI (m_in1 (List.mem_of_getElem? (i := 1) rfl)) rfl, by decide⟩
theorem pSc_count : m_Mp mSc_count := ⟨by decide, rfl, ⟨by decide, by decide⟩, by decide, m_gwI (m_in6 (List.mem_of_getElem? (i := 50) rfl)) rfl, m_gwI (m_in1 (List.mem_of_getElem? (i := 1) rfl)) rfl, by decide⟩
theorem pSc_hangsStill : m_Mp mSc_hangsStill := ⟨by decide, rfl, ⟨by decide, by decide⟩, by decide, m_gwI (m_in4 (List.mem_of_getElem? (i := 175) rfl)) rfl, m_gwI (m_in1 (List.mem_of_getElem? (i := 1) rfl)) rfl, by decide⟩
theorem pSc_whyNot : m_Mp mSc_whyNot := ⟨by decide, rfl, ⟨by decide, by decide⟩, by decide, m_gwI (m_in4 (List.mem_of_getElem? (i := 208) rfl)) rfl, m_gwI (m_in1 (List.mem_of_getElem? (i := 1) rfl)) rfl, by decide⟩
theorem pSc_tickBy : m_Mp mSc_tickBy := ⟨by decide, rfl, ⟨by decide, by decide⟩, by decide, m_gwI (m_in4 (List.mem_of_getElem? (i := 49) rfl)) rfl, m_gwI (m_in1 (List.mem_of_getElem? (i := 1) rfl)) rfl, by decide⟩
theorem pSc_flowOn : m_Mp mSc_flowOn := ⟨by decide, rfl, ⟨by decide, by decide⟩, by decide, m_gwI (m_in4 (List.mem_of_getElem? (i := 99) rfl)) rfl, m_gwI (m_in1 (List.mem_of_getElem? (i := 1) rfl)) rfl, by decide⟩
theorem pSc_bearsWind : m_Mp mSc_bearsWind := ⟨by decide, rfl, ⟨by decide, by decide⟩, by decide, m_gwI (m_in5 (List.mem_of_getElem? (i := 144) rfl)) rfl, m_gwI (m_in1 (List.mem_of_getElem? (i := 1) rfl)) rfl, by decide⟩
theorem pSc_chanceTick : m_Mp mSc_chanceTick := ⟨by decide, rfl, ⟨by decide, by decide⟩, by decide, m_gwI (m_in6 (List.mem_of_getElem? (i := 20) rfl)) rfl, m_gwI (m_in1 (List.mem_of_getElem? (i := 1) rfl)) rfl, by decide⟩
theorem pSc_isPulse : m_Mp mSc_isPulse := ⟨by decide, rfl, ⟨by decide, by decide⟩, by decide, m_gwI (m_in5 (List.mem_of_getElem? (i := 151) rfl)) rfl, m_gwI (m_in1 (List.mem_of_getElem? (i := 1) rfl)) rfl, by decide⟩
theorem pSc_turnAt : m_Mp mSc_turnAt := ⟨by decide, rfl, ⟨by decide, by decide⟩, by decide, m_gwI (m_in5 (List.mem_of_getElem? (i := 154) rfl)) rfl, m_gwI (m_in1 (List.mem_of_getElem? (i := 1) rfl)) rfl, by decide⟩
theorem pSc_countPulses : m_Mp mSc_countPulses := ⟨by decide, rfl, ⟨by decide, by decide⟩, by decide, m_gwI (m_in5 (List.mem_of_getElem? (i := 157) rfl)) rfl, m_gwI (m_in1 (List.mem_of_getElem? (i := 1) rfl)) rfl, by decide⟩
theorem pSc_copyRow : m_Mp mSc_copyRow := ⟨by decide, rfl, ⟨by decide, by decide⟩, by decide, m_gwI (m_in2 (List.mem_of_getElem? (i := 80) rfl)) rfl, m_gwI (m_in1 (List.mem_of_getElem? (i := 1) rfl)) rfl, by decide⟩
theorem pMd_init : m_Mp mMd_init := ⟨by decide, rfl, ⟨by decide, by decide⟩, by decide, m_gwI (m_in6 (List.mem_of_getElem? (i := 151) rfl)) rfl, m_gwI (m_in1 (List.mem_of_getElem? (i := 18) rfl)) rfl, by decide⟩
theorem pMd_thrown : m_Mp mMd_thrown := ⟨by decide, rfl, ⟨by decide, by decide⟩, by decide, m_gwI (m_in7 (List.mem_of_getElem? (i := 113) rfl)) rfl, m_gwI (m_in1 (List.mem_of_getElem? (i := 18) rfl)) rfl, by decide⟩
theorem pMd_feed : m_Mp mMd_feed := ⟨by decide, rfl, ⟨by decide, by decide⟩, by decide, m_gwI (m_in7 (List.mem_of_getElem? (i := 117) rfl)) rfl, m_gwI (m_in1 (List.mem_of_getElem? (i := 18) rfl)) rfl, by decide⟩
theorem pMd_here : m_Mp mMd_here := ⟨by decide, rfl, ⟨by decide, by decide⟩, by decide, m_gwI (m_in7 (List.mem_of_getElem? (i := 133) rfl)) rfl, m_gwI (m_in1 (List.mem_of_getElem? (i := 18) rfl)) rfl, by decide⟩
theorem pMd_isSmall : m_Mp mMd_isSmall := ⟨by decide, rfl, ⟨by decide, by decide⟩, by decide, m_gwI (m_in7 (List.mem_of_getElem? (i := 136) rfl)) rfl, m_gwI (m_in1 (List.mem_of_getElem? (i := 18) rfl)) rfl, by decide⟩
theorem pMd_isDigit : m_Mp mMd_isDigit := ⟨by decide, rfl, ⟨by decide, by decide⟩, by decide, m_gwI (m_in7 (List.mem_of_getElem? (i := 150) rfl)) rfl, m_gwI (m_in1 (List.mem_of_getElem? (i := 18) rfl)) rfl, by decide⟩
theorem pMd_token : m_Mp mMd_token := ⟨by decide, rfl, ⟨by decide, by decide⟩, by decide, m_gwI (m_in7 (List.mem_of_getElem? (i := 129) rfl)) rfl, m_gwI (m_in1 (List.mem_of_getElem? (i := 18) rfl)) rfl, by decide⟩
theorem pMd_digits : m_Mp mMd_digits := ⟨by decide, rfl, ⟨by decide, by decide⟩, by decide, m_gwI (m_in7 (List.mem_of_getElem? (i := 154) rfl)) rfl, m_gwI (m_in1 (List.mem_of_getElem? (i := 18) rfl)) rfl, by decide⟩
theorem pMd_wordHere : m_Mp mMd_wordHere := ⟨by decide, rfl, ⟨by decide, by decide⟩, by decide, m_gwI (m_in7 (List.mem_of_getElem? (i := 140) rfl)) rfl, m_gwI (m_in1 (List.mem_of_getElem? (i := 18) rfl)) rfl, by decide⟩
theorem pMd_nameHere : m_Mp mMd_nameHere := ⟨by decide, rfl, ⟨by decide, by decide⟩, by decide, m_gwI (m_in7 (List.mem_of_getElem? (i := 147) rfl)) rfl, m_gwI (m_in1 (List.mem_of_getElem? (i := 18) rfl)) rfl, by decide⟩
theorem pMd_wrong : m_Mp mMd_wrong := ⟨by decide, rfl, ⟨by decide, by decide⟩, by decide, m_gwI (m_in7 (List.mem_of_getElem? (i := 167) rfl)) rfl, m_gwI (m_in1 (List.mem_of_getElem? (i := 18) rfl)) rfl, by decide⟩
theorem pMd_goOn : m_Mp mMd_goOn := ⟨by decide, rfl, ⟨by decide, by decide⟩, by decide, m_gwI (m_in7 (List.mem_of_getElem? (i := 175) rfl)) rfl, m_gwI (m_in1 (List.mem_of_getElem? (i := 18) rfl)) rfl, by decide⟩
theorem pMd_numeralOf : m_Mp mMd_numeralOf := ⟨by decide, rfl, ⟨by decide, by decide⟩, by decide, m_gwI (m_in7 (List.mem_of_getElem? (i := 183) rfl)) rfl, m_gwI (m_in1 (List.mem_of_getElem? (i := 18) rfl)) rfl, by decide⟩
theorem pMd_numeral : m_Mp mMd_numeral := ⟨by decide, rfl, ⟨by decide, by decide⟩, by decide, m_gwI (m_in7 (List.mem_of_getElem? (i := 179) rfl)) rfl, m_gwI (m_in1 (List.mem_of_getElem? (i := 18) rfl)) rfl, by decide⟩
theorem pMd_atHand : m_Mp mMd_atHand := ⟨by decide, rfl, ⟨by decide, by decide⟩, by decide, m_gwI (m_in7 (List.mem_of_getElem? (i := 215) rfl)) rfl, m_gwI (m_in1 (List.mem_of_getElem? (i := 18) rfl)) rfl, by decide⟩
theorem pMd_reading : m_Mp mMd_reading := ⟨by decide, rfl, ⟨by decide, by decide⟩, by decide, m_gwI (m_in6 (List.mem_of_getElem? (i := 169) rfl)) rfl, m_gwI (m_in1 (List.mem_of_getElem? (i := 18) rfl)) rfl, by decide⟩
theorem pMd_reads : m_Mp mMd_reads := ⟨by decide, rfl, ⟨by decide, by decide⟩, by decide, m_gwI (m_in6 (List.mem_of_getElem? (i := 161) rfl)) rfl, m_gwI (m_in1 (List.mem_of_getElem? (i := 18) rfl)) rfl, by decide⟩
theorem pMd_once : m_Mp mMd_once := ⟨by decide, rfl, ⟨by decide, by decide⟩, by decide, m_gwI (m_in7 (List.mem_of_getElem? (i := 171) rfl)) rfl, m_gwI (m_in1 (List.mem_of_getElem? (i := 18) rfl)) rfl, by decide⟩
theorem pMd_readAhead : m_Mp mMd_readAhead := ⟨by decide, rfl, ⟨by decide, by decide⟩, by decide, m_gwI (m_in7 (List.mem_of_getElem? (i := 163) rfl)) rfl, m_gwI (m_in1 (List.mem_of_getElem? (i := 18) rfl)) rfl, by decide⟩
theorem pMd_readBlock : m_Mp mMd_readBlock := ⟨by decide, rfl, ⟨by decide, by decide⟩, by decide, m_gwI (m_in7 (List.mem_of_getElem? (i := 187) rfl)) rfl, m_gwI (m_in1 (List.mem_of_getElem? (i := 18) rfl)) rfl, by decide⟩
theorem pMd_spotAt : m_Mp mMd_spotAt := ⟨by decide, rfl, ⟨by decide, by decide⟩, by decide, m_gwI (m_in7 (List.mem_of_getElem? (i := 195) rfl)) rfl, m_gwI (m_in1 (List.mem_of_getElem? (i := 18) rfl)) rfl, by decide⟩
theorem pMd_readSpot : m_Mp mMd_readSpot := ⟨by decide, rfl, ⟨by decide, by decide⟩, by decide, m_gwI (m_in7 (List.mem_of_getElem? (i := 191) rfl)) rfl, m_gwI (m_in1 (List.mem_of_getElem? (i := 18) rfl)) rfl, by decide⟩
theorem pMd_readStart : m_Mp mMd_readStart := ⟨by decide, rfl, ⟨by decide, by decide⟩, by decide, m_gwI (m_in7 (List.mem_of_getElem? (i := 199) rfl)) rfl, m_gwI (m_in1 (List.mem_of_getElem? (i := 18) rfl)) rfl, by decide⟩
theorem pMd_readWind : m_Mp mMd_readWind := ⟨by decide, rfl, ⟨by decide, by decide⟩, by decide, m_gwI (m_in7 (List.mem_of_getElem? (i := 203) rfl)) rfl, m_gwI (m_in1 (List.mem_of_getElem? (i := 18) rfl)) rfl, by decide⟩
theorem pMd_readPile : m_Mp mMd_readPile := ⟨by decide, rfl, ⟨by decide, by decide⟩, by decide, m_gwI (m_in7 (List.mem_of_getElem? (i := 211) rfl)) rfl, m_gwI (m_in1 (List.mem_of_getElem? (i := 18) rfl)) rfl, by decide⟩
theorem pMd_readJob : m_Mp mMd_readJob := ⟨by decide, rfl, ⟨by decide, by decide⟩, by decide, m_gwI (m_in7 (List.mem_of_getElem? (i := 219) rfl)) rfl, m_gwI (m_in1 (List.mem_of_getElem? (i := 18) rfl)) rfl, by decide⟩
theorem pMd_readDo : m_Mp mMd_readDo := ⟨by decide, rfl, ⟨by decide, by decide⟩, by decide, m_gwI (m_in7 (List.mem_of_getElem? (i := 207) rfl)) rfl, m_gwI (m_in1 (List.mem_of_getElem? (i := 18) rfl)) rfl, by decide⟩
theorem pMd_readLine : m_Mp mMd_readLine := ⟨by decide, rfl, ⟨by decide, by decide⟩, by decide, m_gwI (m_in7 (List.mem_of_getElem? (i := 159) rfl)) rfl, m_gwI (m_in1 (List.mem_of_getElem? (i := 18) rfl)) rfl, by decide⟩
theorem pMd_readSeed : m_Mp mMd_readSeed := ⟨by decide, rfl, ⟨by decide, by decide⟩, by decide, m_gwI (m_in7 (List.mem_of_getElem? (i := 223) rfl)) rfl, m_gwI (m_in1 (List.mem_of_getElem? (i := 18) rfl)) rfl, by decide⟩
theorem pMd_freshText : m_Mp mMd_freshText := ⟨by decide, rfl, ⟨by decide, by decide⟩, by decide, m_gwI (m_in6 (List.mem_of_getElem? (i := 157) rfl)) rfl, m_gwI (m_in1 (List.mem_of_getElem? (i := 18) rfl)) rfl, by decide⟩
theorem pMd_readText : m_Mp mMd_readText := ⟨by decide, rfl, ⟨by decide, by decide⟩, by decide, m_gwI (m_in7 (List.mem_of_getElem? (i := 125) rfl)) rfl, m_gwI (m_in1 (List.mem_of_getElem? (i := 18) rfl)) rfl, by decide⟩
theorem pMd_takeText : m_Mp mMd_takeText := ⟨by decide, rfl, ⟨by decide, by decide⟩, by decide, m_gwI (m_in6 (List.mem_of_getElem? (i := 165) rfl)) rfl, m_gwI (m_in1 (List.mem_of_getElem? (i := 18) rfl)) rfl, by decide⟩
theorem pMd_text : m_Mp mMd_text := ⟨by decide, rfl, ⟨by decide, by decide⟩, by decide, m_gwI (m_in7 (List.mem_of_getElem? (i := 121) rfl)) rfl, m_gwI (m_in1 (List.mem_of_getElem? (i := 18) rfl)) rfl, by decide⟩
theorem pMd_fault : m_Mp mMd_fault := ⟨by decide, rfl, ⟨by decide, by decide⟩, by decide, m_gwI (m_in7 (List.mem_of_getElem? (i := 227) rfl)) rfl, m_gwI (m_in1 (List.mem_of_getElem? (i := 18) rfl)) rfl, by decide⟩
theorem pMd_named : m_Mp mMd_named := ⟨by decide, rfl, ⟨by decide, by decide⟩, by decide, m_gwI (m_in7 (List.mem_of_getElem? (i := 231) rfl)) rfl, m_gwI (m_in1 (List.mem_of_getElem? (i := 18) rfl)) rfl, by decide⟩
theorem pMd_piles : m_Mp mMd_piles := ⟨by decide, rfl, ⟨by decide, by decide⟩, by decide, m_gwI (m_in6 (List.mem_of_getElem? (i := 188) rfl)) rfl, m_gwI (m_in1 (List.mem_of_getElem? (i := 18) rfl)) rfl, by decide⟩
theorem pMd_without : m_Mp mMd_without := ⟨by decide, rfl, ⟨by decide, by decide⟩, by decide, m_gwI (m_in8 (List.mem_of_getElem? (i := 57) rfl)) rfl, m_gwI (m_in1 (List.mem_of_getElem? (i := 18) rfl)) rfl, by decide⟩
theorem pMd_growth : m_Mp mMd_growth := ⟨by decide, rfl, ⟨by decide, by decide⟩, by decide, m_gwI (m_in8 (List.mem_of_getElem? (i := 50) rfl)) rfl, m_gwI (m_in1 (List.mem_of_getElem? (i := 18) rfl)) rfl, by decide⟩
theorem pMd_numberOf : m_Mp mMd_numberOf := ⟨by decide, rfl, ⟨by decide, by decide⟩, by decide, m_gwI (m_in6 (List.mem_of_getElem? (i := 180) rfl)) rfl, m_gwI (m_in1 (List.mem_of_getElem? (i := 18) rfl)) rfl, by decide⟩
theorem pMd_lays : m_Mp mMd_lays := ⟨by decide, rfl, ⟨by decide, by decide⟩, by decide, m_gwI (m_in8 (List.mem_of_getElem? (i := 43) rfl)) rfl, m_gwI (m_in1 (List.mem_of_getElem? (i := 18) rfl)) rfl, by decide⟩
theorem pMd_isThere : m_Mp mMd_isThere := ⟨by decide, rfl, ⟨by decide, by decide⟩, by decide, m_gwI (m_in8 (List.mem_of_getElem? (i := 19) rfl)) rfl, m_gwI (m_in1 (List.mem_of_getElem? (i := 18) rfl)) rfl, by decide⟩
theorem pMd_isClear : m_Mp mMd_isClear := ⟨by decide, rfl, ⟨by decide, by decide⟩, by decide, m_gwI (m_in8 (List.mem_of_getElem? (i := 61) rfl)) rfl, m_gwI (m_in1 (List.mem_of_getElem? (i := 18) rfl)) rfl, by decide⟩
theorem pMd_whyNot : m_Mp mMd_whyNot := ⟨by decide, rfl, ⟨by decide, by decide⟩, by decide, m_gwI (m_in8 (List.mem_of_getElem? (i := 54) rfl)) rfl, m_gwI (m_in1 (List.mem_of_getElem? (i := 18) rfl)) rfl, by decide⟩
theorem pMd_steps : m_Mp mMd_steps := ⟨by decide, rfl, ⟨by decide, by decide⟩, by decide, m_gwI (m_in8 (List.mem_of_getElem? (i := 47) rfl)) rfl, m_gwI (m_in1 (List.mem_of_getElem? (i := 18) rfl)) rfl, by decide⟩
theorem pMd_isState : m_Mp mMd_isState := ⟨by decide, rfl, ⟨by decide, by decide⟩, by decide, m_gwI (m_in8 (List.mem_of_getElem? (i := 93) rfl)) rfl, m_gwI (m_in1 (List.mem_of_getElem? (i := 18) rfl)) rfl, by decide⟩
theorem pMd_laid : m_Mp mMd_laid := ⟨by decide, rfl, ⟨by decide, by decide⟩, by decide, m_gwI (m_in8 (List.mem_of_getElem? (i := 65) rfl)) rfl, m_gwI (m_in1 (List.mem_of_getElem? (i := 18) rfl)) rfl, by decide⟩
theorem pMd_stepsBack : m_Mp mMd_stepsBack := ⟨by decide, rfl, ⟨by decide, by decide⟩, by decide, m_gwI (m_in8 (List.mem_of_getElem? (i := 109) rfl)) rfl, m_gwI (m_in1 (List.mem_of_getElem? (i := 18) rfl)) rfl, by decide⟩
theorem pMd_adds : m_Mp mMd_adds := ⟨by decide, rfl, ⟨by decide, by decide⟩, by decide, m_gwI (m_in8 (List.mem_of_getElem? (i := 105) rfl)) rfl, m_gwI (m_in1 (List.mem_of_getElem? (i := 18) rfl)) rfl, by decide⟩
theorem pMd_still : m_Mp mMd_still := ⟨by decide, rfl, ⟨by decide, by decide⟩, by decide, m_gwI (m_in6 (List.mem_of_getElem? (i := 177) rfl)) rfl, m_gwI (m_in1 (List.mem_of_getElem? (i := 18) rfl)) rfl, by decide⟩
theorem pMd_doesStand : m_Mp mMd_doesStand := ⟨by decide, rfl, ⟨by decide, by decide⟩, by decide, m_gwI (m_in8 (List.mem_of_getElem? (i := 89) rfl)) rfl, m_gwI (m_in1 (List.mem_of_getElem? (i := 18) rfl)) rfl, by decide⟩
theorem pMd_seeks : m_Mp mMd_seeks := ⟨by decide, rfl, ⟨by decide, by decide⟩, by decide, m_gwI (m_in8 (List.mem_of_getElem? (i := 97) rfl)) rfl, m_gwI (m_in1 (List.mem_of_getElem? (i := 18) rfl)) rfl, by decide⟩
theorem pMd_seeksFrom : m_Mp mMd_seeksFrom := ⟨by decide, rfl, ⟨by decide, by decide⟩, by decide, m_gwI (m_in8 (List.mem_of_getElem? (i := 101) rfl)) rfl, m_gwI (m_in1 (List.mem_of_getElem? (i := 18) rfl)) rfl, by decide⟩
theorem pMd_firstStep : m_Mp mMd_firstStep := ⟨by decide, rfl, ⟨by decide, by decide⟩, by decide, m_gwI (m_in8 (List.mem_of_getElem? (i := 113) rfl)) rfl, m_gwI (m_in1 (List.mem_of_getElem? (i := 18) rfl)) rfl, by decide⟩
theorem pMd_stepped : m_Mp mMd_stepped := ⟨by decide, rfl, ⟨by decide, by decide⟩, by decide, m_gwI (m_in8 (List.mem_of_getElem? (i := 197) rfl)) rfl, m_gwI (m_in1 (List.mem_of_getElem? (i := 18) rfl)) rfl, by decide⟩
theorem pMd_begins : m_Mp mMd_begins := ⟨by decide, rfl, ⟨by decide, by decide⟩, by decide, m_gwI (m_in6 (List.mem_of_getElem? (i := 173) rfl)) rfl, m_gwI (m_in1 (List.mem_of_getElem? (i := 18) rfl)) rfl, by decide⟩
theorem pMd_asItIs : m_Mp mMd_asItIs := ⟨by decide, rfl, ⟨by decide, by decide⟩, by decide, m_gwI (m_in6 (List.mem_of_getElem? (i := 184) rfl)) rfl, m_gwI (m_in1 (List.mem_of_getElem? (i := 18) rfl)) rfl, by decide⟩
theorem pMd_laysKept : m_Mp mMd_laysKept := ⟨by decide, rfl, ⟨by decide, by decide⟩, by decide, m_gwI (m_in8 (List.mem_of_getElem? (i := 7) rfl)) rfl, m_gwI (m_in1 (List.mem_of_getElem? (i := 18) rfl)) rfl, by decide⟩
theorem pMd_laysBack : m_Mp mMd_laysBack := ⟨by decide, rfl, ⟨by decide, by decide⟩, by decide, m_gwI (m_in7 (List.mem_of_getElem? (i := 239) rfl)) rfl, m_gwI (m_in1 (List.mem_of_getElem? (i := 18) rfl)) rfl, by decide⟩
theorem pMd_remembers : m_Mp mMd_remembers := ⟨by decide, rfl, ⟨by decide, by decide⟩, by decide, m_gwI (m_in8 (List.mem_of_getElem? (i := 69) rfl)) rfl, m_gwI (m_in1 (List.mem_of_getElem? (i := 18) rfl)) rfl, by decide⟩
theorem pMd_undo : m_Mp mMd_undo := ⟨by decide, rfl, ⟨by decide, by decide⟩, by decide, m_gwI (m_in7 (List.mem_of_getElem? (i := 235) rfl)) rfl, m_gwI (m_in1 (List.mem_of_getElem? (i := 18) rfl)) rfl, by decide⟩
theorem pMd_keep : m_Mp mMd_keep := ⟨by decide, rfl, ⟨by decide, by decide⟩, by decide, m_gwI (m_in8 (List.mem_of_getElem? (i := 3) rfl)) rfl, m_gwI (m_in1 (List.mem_of_getElem? (i := 18) rfl)) rfl, by decide⟩
theorem pMd_back : m_Mp mMd_back := ⟨by decide, rfl, ⟨by decide, by decide⟩, by decide, m_gwI (m_in8 (List.mem_of_getElem? (i := 11) rfl)) rfl, m_gwI (m_in1 (List.mem_of_getElem? (i := 18) rfl)) rfl, by decide⟩
theorem pMd_windAt : m_Mp mMd_windAt := ⟨by decide, rfl, ⟨by decide, by decide⟩, by decide, m_gwI (m_in8 (List.mem_of_getElem? (i := 27) rfl)) rfl, m_gwI (m_in1 (List.mem_of_getElem? (i := 18) rfl)) rfl, by decide⟩
theorem pMd_gap : m_Mp mMd_gap := ⟨by decide, rfl, ⟨by decide, by decide⟩, by decide, m_gwI (m_in8 (List.mem_of_getElem? (i := 15) rfl)) rfl, m_gwI (m_in1 (List.mem_of_getElem? (i := 18) rfl)) rfl, by decide⟩
theorem pMd_wind : m_Mp mMd_wind := ⟨by decide, rfl, ⟨by decide, by decide⟩, by decide, m_gwI (m_in8 (List.mem_of_getElem? (i := 23) rfl)) rfl, m_gwI (m_in1 (List.mem_of_getElem? (i := 18) rfl)) rfl, by decide⟩
theorem pMd_canStep : m_Mp mMd_canStep := ⟨by decide, rfl, ⟨by decide, by decide⟩, by decide, m_gwI (m_in8 (List.mem_of_getElem? (i := 39) rfl)) rfl, m_gwI (m_in1 (List.mem_of_getElem? (i := 18) rfl)) rfl, by decide⟩
theorem pMd_notes : m_Mp mMd_notes := ⟨by decide, rfl, ⟨by decide, by decide⟩, by decide, m_gwI (m_in8 (List.mem_of_getElem? (i := 73) rfl)) rfl, m_gwI (m_in1 (List.mem_of_getElem? (i := 18) rfl)) rfl, by decide⟩
theorem pMd_ticks : m_Mp mMd_ticks := ⟨by decide, rfl, ⟨by decide, by decide⟩, by decide, m_gwI (m_in8 (List.mem_of_getElem? (i := 35) rfl)) rfl, m_gwI (m_in1 (List.mem_of_getElem? (i := 18) rfl)) rfl, by decide⟩
theorem pMd_step : m_Mp mMd_step := ⟨by decide, rfl, ⟨by decide, by decide⟩, by decide, m_gwI (m_in8 (List.mem_of_getElem? (i := 31) rfl)) rfl, m_gwI (m_in1 (List.mem_of_getElem? (i := 18) rfl)) rfl, by decide⟩
theorem pMd_stillStep : m_Mp mMd_stillStep := ⟨by decide, rfl, ⟨by decide, by decide⟩, by decide, m_gwI (m_in8 (List.mem_of_getElem? (i := 85) rfl)) rfl, m_gwI (m_in1 (List.mem_of_getElem? (i := 18) rfl)) rfl, by decide⟩
theorem pMd_codeOf : m_Mp mMd_codeOf := ⟨by decide, rfl, ⟨by decide, by decide⟩, by decide, m_gwI (m_in8 (List.mem_of_getElem? (i := 81) rfl)) rfl, m_gwI (m_in1 (List.mem_of_getElem? (i := 18) rfl)) rfl, by decide⟩
theorem pMd_flow : m_Mp mMd_flow := ⟨by decide, rfl, ⟨by decide, by decide⟩, by decide, m_gwI (m_in8 (List.mem_of_getElem? (i := 77) rfl)) rfl, m_gwI (m_in1 (List.mem_of_getElem? (i := 18) rfl)) rfl, by decide⟩
theorem pMd_isStillNow : m_Mp mMd_isStillNow := ⟨by decide, rfl, ⟨by decide, by decide⟩, by decide, m_gwI (m_in8 (List.mem_of_getElem? (i := 125) rfl)) rfl, m_gwI (m_in1 (List.mem_of_getElem? (i := 18) rfl)) rfl, by decide⟩
theorem pMd_whyNow : m_Mp mMd_whyNow := ⟨by decide, rfl, ⟨by decide, by decide⟩, by decide, m_gwI (m_in8 (List.mem_of_getElem? (i := 121) rfl)) rfl, m_gwI (m_in1 (List.mem_of_getElem? (i := 18) rfl)) rfl, by decide⟩
theorem pMd_now : m_Mp mMd_now := ⟨by decide, rfl, ⟨by decide, by decide⟩, by decide, m_gwI (m_in8 (List.mem_of_getElem? (i := 117) rfl)) rfl, m_gwI (m_in1 (List.mem_of_getElem? (i := 18) rfl)) rfl, by decide⟩
theorem pMd_canGrab : m_Mp mMd_canGrab := ⟨by decide, rfl, ⟨by decide, by decide⟩, by decide, m_gwI (m_in8 (List.mem_of_getElem? (i := 133) rfl)) rfl, m_gwI (m_in1 (List.mem_of_getElem? (i := 18) rfl)) rfl, by decide⟩
theorem pMd_canDrop : m_Mp mMd_canDrop := ⟨by decide, rfl, ⟨by decide, by decide⟩, by decide, m_gwI (m_in8 (List.mem_of_getElem? (i := 145) rfl)) rfl, m_gwI (m_in1 (List.mem_of_getElem? (i := 18) rfl)) rfl, by decide⟩
theorem pMd_takes : m_Mp mMd_takes := ⟨by decide, rfl, ⟨by decide, by decide⟩, by decide, m_gwI (m_in8 (List.mem_of_getElem? (i := 137) rfl)) rfl, m_gwI (m_in1 (List.mem_of_getElem? (i := 18) rfl)) rfl, by decide⟩
theorem pMd_grab : m_Mp mMd_grab := ⟨by decide, rfl, ⟨by decide, by decide⟩, by decide, m_gwI (m_in8 (List.mem_of_getElem? (i := 129) rfl)) rfl, m_gwI (m_in1 (List.mem_of_getElem? (i := 18) rfl)) rfl, by decide⟩
theorem pMd_drop : m_Mp mMd_drop := ⟨by decide, rfl, ⟨by decide, by decide⟩, by decide, m_gwI (m_in8 (List.mem_of_getElem? (i := 141) rfl)) rfl, m_gwI (m_in1 (List.mem_of_getElem? (i := 18) rfl)) rfl, by decide⟩
theorem pMd_pile : m_Mp mMd_pile := ⟨by decide, rfl, ⟨by decide, by decide⟩, by decide, m_gwI (m_in8 (List.mem_of_getElem? (i := 149) rfl)) rfl, m_gwI (m_in1 (List.mem_of_getElem? (i := 18) rfl)) rfl, by decide⟩
theorem pMd_free : m_Mp mMd_free := ⟨by decide, rfl, ⟨by decide, by decide⟩, by decide, m_gwI (m_in8 (List.mem_of_getElem? (i := 153) rfl)) rfl, m_gwI (m_in1 (List.mem_of_getElem? (i := 18) rfl)) rfl, by decide⟩
theorem pMd_why : m_Mp mMd_why := ⟨by decide, rfl, ⟨by decide, by decide⟩, by decide, m_gwI (m_in8 (List.mem_of_getElem? (i := 157) rfl)) rfl, m_gwI (m_in1 (List.mem_of_getElem? (i := 18) rfl)) rfl, by decide⟩
theorem pMd_can : m_Mp mMd_can := ⟨by decide, rfl, ⟨by decide, by decide⟩, by decide, m_gwI (m_in8 (List.mem_of_getElem? (i := 161) rfl)) rfl, m_gwI (m_in1 (List.mem_of_getElem? (i := 18) rfl)) rfl, by decide⟩
theorem pMd_sway : m_Mp mMd_sway := ⟨by decide, rfl, ⟨by decide, by decide⟩, by decide, m_gwI (m_in8 (List.mem_of_getElem? (i := 165) rfl)) rfl, m_gwI (m_in1 (List.mem_of_getElem? (i := 18) rfl)) rfl, by decide⟩
theorem pMd_drift : m_Mp mMd_drift := ⟨by decide, rfl, ⟨by decide, by decide⟩, by decide, m_gwI (m_in8 (List.mem_of_getElem? (i := 169) rfl)) rfl, m_gwI (m_in1 (List.mem_of_getElem? (i := 18) rfl)) rfl, by decide⟩
theorem pMd_isSpot : m_Mp mMd_isSpot := ⟨by decide, rfl, ⟨by decide, by decide⟩, by decide, m_gwI (m_in8 (List.mem_of_getElem? (i := 177) rfl)) rfl, m_gwI (m_in1 (List.mem_of_getElem? (i := 18) rfl)) rfl, by decide⟩
theorem pMd_spotState : m_Mp mMd_spotState := ⟨by decide, rfl, ⟨by decide, by decide⟩, by decide, m_gwI (m_in8 (List.mem_of_getElem? (i := 181) rfl)) rfl, m_gwI (m_in1 (List.mem_of_getElem? (i := 18) rfl)) rfl, by decide⟩
theorem pMd_fewestTo : m_Mp mMd_fewestTo := ⟨by decide, rfl, ⟨by decide, by decide⟩, by decide, m_gwI (m_in8 (List.mem_of_getElem? (i := 185) rfl)) rfl, m_gwI (m_in1 (List.mem_of_getElem? (i := 18) rfl)) rfl, by decide⟩
theorem pMd_fewest : m_Mp mMd_fewest := ⟨by decide, rfl, ⟨by decide, by decide⟩, by decide, m_gwI (m_in8 (List.mem_of_getElem? (i := 173) rfl)) rfl, m_gwI (m_in1 (List.mem_of_getElem? (i := 18) rfl)) rfl, by decide⟩
theorem pMd_level : m_Mp mMd_level := ⟨by decide, rfl, ⟨by decide, by decide⟩, by decide, m_gwI (m_in8 (List.mem_of_getElem? (i := 189) rfl)) rfl, m_gwI (m_in1 (List.mem_of_getElem? (i := 18) rfl)) rfl, by decide⟩
theorem pMd_by : m_Mp mMd_by := ⟨by decide, rfl, ⟨by decide, by decide⟩, by decide, m_gwI (m_in8 (List.mem_of_getElem? (i := 193) rfl)) rfl, m_gwI (m_in1 (List.mem_of_getElem? (i := 18) rfl)) rfl, by decide⟩
theorem pMd_halt : m_Mp mMd_halt := ⟨by decide, rfl, ⟨by decide, by decide⟩, by decide, m_gwI (m_in8 (List.mem_of_getElem? (i := 201) rfl)) rfl, m_gwI (m_in1 (List.mem_of_getElem? (i := 18) rfl)) rfl, by decide⟩
theorem pMd_rests : m_Mp mMd_rests := ⟨by decide, rfl, ⟨by decide, by decide⟩, by decide, m_gwI (m_in8 (List.mem_of_getElem? (i := 205) rfl)) rfl, m_gwI (m_in1 (List.mem_of_getElem? (i := 18) rfl)) rfl, by decide⟩
theorem pMd_fewestFrom : m_Mp mMd_fewestFrom := ⟨by decide, rfl, ⟨by decide, by decide⟩, by decide, m_gwI (m_in8 (List.mem_of_getElem? (i := 213) rfl)) rfl, m_gwI (m_in1 (List.mem_of_getElem? (i := 18) rfl)) rfl, by decide⟩
theorem pMd_between : m_Mp mMd_between := ⟨by decide, rfl, ⟨by decide, by decide⟩, by decide, m_gwI (m_in8 (List.mem_of_getElem? (i := 209) rfl)) rfl, m_gwI (m_in1 (List.mem_of_getElem? (i := 18) rfl)) rfl, by decide⟩
theorem pMd_laysTour : m_Mp mMd_laysTour := ⟨by decide, rfl, ⟨by decide, by decide⟩, by decide, m_gwI (m_in8 (List.mem_of_getElem? (i := 221) rfl)) rfl, m_gwI (m_in1 (List.mem_of_getElem? (i := 18) rfl)) rfl, by decide⟩
theorem pMd_leastLeft : m_Mp mMd_leastLeft := ⟨by decide, rfl, ⟨by decide, by decide⟩, by decide, m_gwI (m_in8 (List.mem_of_getElem? (i := 225) rfl)) rfl, m_gwI (m_in1 (List.mem_of_getElem? (i := 18) rfl)) rfl, by decide⟩
theorem pMd_tour : m_Mp mMd_tour := ⟨by decide, rfl, ⟨by decide, by decide⟩, by decide, m_gwI (m_in8 (List.mem_of_getElem? (i := 217) rfl)) rfl, m_gwI (m_in1 (List.mem_of_getElem? (i := 18) rfl)) rfl, by decide⟩
theorem pMd_stop : m_Mp mMd_stop := ⟨by decide, rfl, ⟨by decide, by decide⟩, by decide, m_gwI (m_in8 (List.mem_of_getElem? (i := 229) rfl)) rfl, m_gwI (m_in1 (List.mem_of_getElem? (i := 18) rfl)) rfl, by decide⟩
theorem pMd_carries : m_Mp mMd_carries := ⟨by decide, rfl, ⟨by decide, by decide⟩, by decide, m_gwI (m_in8 (List.mem_of_getElem? (i := 237) rfl)) rfl, m_gwI (m_in1 (List.mem_of_getElem? (i := 18) rfl)) rfl, by decide⟩
theorem pMd_fewestStanding : m_Mp mMd_fewestStanding := ⟨by decide, rfl, ⟨by decide, by decide⟩, by decide, m_gwI (m_in9 (List.mem_of_getElem? (i := 1) rfl)) rfl, m_gwI (m_in1 (List.mem_of_getElem? (i := 18) rfl)) rfl, by decide⟩
theorem pMd_carry : m_Mp mMd_carry := ⟨by decide, rfl, ⟨by decide, by decide⟩, by decide, m_gwI (m_in8 (List.mem_of_getElem? (i := 233) rfl)) rfl, m_gwI (m_in1 (List.mem_of_getElem? (i := 18) rfl)) rfl, by decide⟩
theorem pMd_inOrder : m_Mp mMd_inOrder := ⟨by decide, rfl, ⟨by decide, by decide⟩, by decide, m_gwI (m_in9 (List.mem_of_getElem? (i := 16) rfl)) rfl, m_gwI (m_in1 (List.mem_of_getElem? (i := 18) rfl)) rfl, by decide⟩
theorem pMd_isOrder : m_Mp mMd_isOrder := ⟨by decide, rfl, ⟨by decide, by decide⟩, by decide, m_gwI (m_in9 (List.mem_of_getElem? (i := 13) rfl)) rfl, m_gwI (m_in1 (List.mem_of_getElem? (i := 18) rfl)) rfl, by decide⟩
theorem pMd_stepsBy : m_Mp mMd_stepsBy := ⟨by decide, rfl, ⟨by decide, by decide⟩, by decide, m_gwI (m_in9 (List.mem_of_getElem? (i := 20) rfl)) rfl, m_gwI (m_in1 (List.mem_of_getElem? (i := 18) rfl)) rfl, by decide⟩
theorem pMd_laysJobs : m_Mp mMd_laysJobs := ⟨by decide, rfl, ⟨by decide, by decide⟩, by decide, m_gwI (m_in9 (List.mem_of_getElem? (i := 9) rfl)) rfl, m_gwI (m_in1 (List.mem_of_getElem? (i := 18) rfl)) rfl, by decide⟩
theorem pMd_jobs : m_Mp mMd_jobs := ⟨by decide, rfl, ⟨by decide, by decide⟩, by decide, m_gwI (m_in9 (List.mem_of_getElem? (i := 5) rfl)) rfl, m_gwI (m_in1 (List.mem_of_getElem? (i := 18) rfl)) rfl, by decide⟩
theorem pMd_job : m_Mp mMd_job := ⟨by decide, rfl, ⟨by decide, by decide⟩, by decide, m_gwI (m_in9 (List.mem_of_getElem? (i := 24) rfl)) rfl, m_gwI (m_in1 (List.mem_of_getElem? (i := 18) rfl)) rfl, by decide⟩
theorem pMd_ifPile : m_Mp mMd_ifPile := ⟨by decide, rfl, ⟨by decide, by decide⟩, by decide, m_gwI (m_in9 (List.mem_of_getElem? (i := 28) rfl)) rfl, m_gwI (m_in1 (List.mem_of_getElem? (i := 18) rfl)) rfl, by decide⟩
theorem pMd_reach : m_Mp mMd_reach := ⟨by decide, rfl, ⟨by decide, by decide⟩, by decide, m_gwI (m_in9 (List.mem_of_getElem? (i := 32) rfl)) rfl, m_gwI (m_in1 (List.mem_of_getElem? (i := 18) rfl)) rfl, by decide⟩
theorem pMd_walks : m_Mp mMd_walks := ⟨by decide, rfl, ⟨by decide, by decide⟩, by decide, m_gwI (m_in9 (List.mem_of_getElem? (i := 36) rfl)) rfl, m_gwI (m_in1 (List.mem_of_getElem? (i := 18) rfl)) rfl, by decide⟩
theorem pMd_isWithin : m_Mp mMd_isWithin := ⟨by decide, rfl, ⟨by decide, by decide⟩, by decide, m_gwI (m_in9 (List.mem_of_getElem? (i := 44) rfl)) rfl, m_gwI (m_in1 (List.mem_of_getElem? (i := 18) rfl)) rfl, by decide⟩
theorem pMd_safe : m_Mp mMd_safe := ⟨by decide, rfl, ⟨by decide, by decide⟩, by decide, m_gwI (m_in9 (List.mem_of_getElem? (i := 40) rfl)) rfl, m_gwI (m_in1 (List.mem_of_getElem? (i := 18) rfl)) rfl, by decide⟩
theorem pMd_bears : m_Mp mMd_bears := ⟨by decide, rfl, ⟨by decide, by decide⟩, by decide, m_gwI (m_in9 (List.mem_of_getElem? (i := 48) rfl)) rfl, m_gwI (m_in1 (List.mem_of_getElem? (i := 18) rfl)) rfl, by decide⟩
theorem pMd_bearsBy : m_Mp mMd_bearsBy := ⟨by decide, rfl, ⟨by decide, by decide⟩, by decide, m_gwI (m_in9 (List.mem_of_getElem? (i := 52) rfl)) rfl, m_gwI (m_in1 (List.mem_of_getElem? (i := 18) rfl)) rfl, by decide⟩
theorem pMd_pulses : m_Mp mMd_pulses := ⟨by decide, rfl, ⟨by decide, by decide⟩, by decide, m_gwI (m_in9 (List.mem_of_getElem? (i := 56) rfl)) rfl, m_gwI (m_in1 (List.mem_of_getElem? (i := 18) rfl)) rfl, by decide⟩
theorem pMd_pulsesBy : m_Mp mMd_pulsesBy := ⟨by decide, rfl, ⟨by decide, by decide⟩, by decide, m_gwI (m_in9 (List.mem_of_getElem? (i := 59) rfl)) rfl, m_gwI (m_in1 (List.mem_of_getElem? (i := 18) rfl)) rfl, by decide⟩
theorem pMd_shortest : m_Mp mMd_shortest := ⟨by decide, rfl, ⟨by decide, by decide⟩, by decide, m_gwI (m_in9 (List.mem_of_getElem? (i := 63) rfl)) rfl, m_gwI (m_in1 (List.mem_of_getElem? (i := 18) rfl)) rfl, by decide⟩
theorem pMd_empties : m_Mp mMd_empties := ⟨by decide, rfl, ⟨by decide, by decide⟩, by decide, m_gwI (m_in9 (List.mem_of_getElem? (i := 75) rfl)) rfl, m_gwI (m_in1 (List.mem_of_getElem? (i := 18) rfl)) rfl, by decide⟩
theorem pMd_deeds : m_Mp mMd_deeds := ⟨by decide, rfl, ⟨by decide, by decide⟩, by decide, m_gwI (m_in9 (List.mem_of_getElem? (i := 78) rfl)) rfl, m_gwI (m_in1 (List.mem_of_getElem? (i := 18) rfl)) rfl, by decide⟩
theorem pMd_seeksDeeds : m_Mp mMd_seeksDeeds := ⟨by decide, rfl, ⟨by decide, by decide⟩, by decide, m_gwI (m_in9 (List.mem_of_getElem? (i := 71) rfl)) rfl, m_gwI (m_in1 (List.mem_of_getElem? (i := 18) rfl)) rfl, by decide⟩
theorem pMd_least : m_Mp mMd_least := ⟨by decide, rfl, ⟨by decide, by decide⟩, by decide, m_gwI (m_in9 (List.mem_of_getElem? (i := 67) rfl)) rfl, m_gwI (m_in1 (List.mem_of_getElem? (i := 18) rfl)) rfl, by decide⟩
theorem pMd_ifWind : m_Mp mMd_ifWind := ⟨by decide, rfl, ⟨by decide, by decide⟩, by decide, m_gwI (m_in9 (List.mem_of_getElem? (i := 86) rfl)) rfl, m_gwI (m_in1 (List.mem_of_getElem? (i := 18) rfl)) rfl, by decide⟩
theorem pMd_nearest : m_Mp mMd_nearest := ⟨by decide, rfl, ⟨by decide, by decide⟩, by decide, m_gwI (m_in9 (List.mem_of_getElem? (i := 90) rfl)) rfl, m_gwI (m_in1 (List.mem_of_getElem? (i := 18) rfl)) rfl, by decide⟩
theorem pMd_isSteady : m_Mp mMd_isSteady := ⟨by decide, rfl, ⟨by decide, by decide⟩, by decide, m_gwI (m_in9 (List.mem_of_getElem? (i := 98) rfl)) rfl, m_gwI (m_in1 (List.mem_of_getElem? (i := 18) rfl)) rfl, by decide⟩
theorem pMd_steadiest : m_Mp mMd_steadiest := ⟨by decide, rfl, ⟨by decide, by decide⟩, by decide, m_gwI (m_in9 (List.mem_of_getElem? (i := 94) rfl)) rfl, m_gwI (m_in1 (List.mem_of_getElem? (i := 18) rfl)) rfl, by decide⟩
theorem pMd_greater : m_Mp mMd_greater := ⟨by decide, rfl, ⟨by decide, by decide⟩, by decide, m_gwI (m_in9 (List.mem_of_getElem? (i := 82) rfl)) rfl, m_gwI (m_in1 (List.mem_of_getElem? (i := 18) rfl)) rfl, by decide⟩
theorem pMd_along : m_Mp mMd_along := ⟨by decide, rfl, ⟨by decide, by decide⟩, by decide, m_gwI (m_in9 (List.mem_of_getElem? (i := 102) rfl)) rfl, m_gwI (m_in1 (List.mem_of_getElem? (i := 18) rfl)) rfl, by decide⟩
theorem pMd_log : m_Mp mMd_log := ⟨by decide, rfl, ⟨by decide, by decide⟩, by decide, m_gwI (m_in9 (List.mem_of_getElem? (i := 106) rfl)) rfl, m_gwI (m_in1 (List.mem_of_getElem? (i := 18) rfl)) rfl, by decide⟩
theorem pMd_again : m_Mp mMd_again := ⟨by decide, rfl, ⟨by decide, by decide⟩, by decide, m_gwI (m_in9 (List.mem_of_getElem? (i := 110) rfl)) rfl, m_gwI (m_in1 (List.mem_of_getElem? (i := 18) rfl)) rfl, by decide⟩
theorem pMd_draw : m_Mp mMd_draw := ⟨by decide, rfl, ⟨by decide, by decide⟩, by decide, m_gwI (m_in9 (List.mem_of_getElem? (i := 118) rfl)) rfl, m_gwI (m_in1 (List.mem_of_getElem? (i := 18) rfl)) rfl, by decide⟩
theorem pMd_chance : m_Mp mMd_chance := ⟨by decide, rfl, ⟨by decide, by decide⟩, by decide, m_gwI (m_in9 (List.mem_of_getElem? (i := 114) rfl)) rfl, m_gwI (m_in1 (List.mem_of_getElem? (i := 18) rfl)) rfl, by decide⟩
theorem pMd_count : m_Mp mMd_count := ⟨by decide, rfl, ⟨by decide, by decide⟩, by decide, m_gwI (m_in9 (List.mem_of_getElem? (i := 124) rfl)) rfl, m_gwI (m_in1 (List.mem_of_getElem? (i := 18) rfl)) rfl, by decide⟩
theorem m_pr1 {q : MethodName × Nat} (h : q ∈ lw_privs_1) : Cond.selects q.1.cls q.1 q.1 ∈ lw_tbl := List.mem_append_left _ (List.mem_map.mpr ⟨q, (show q ∈ lw_privs from List.mem_append_left _ h), rfl⟩)
theorem m_pr2 {q : MethodName × Nat} (h : q ∈ lw_privs_2) : Cond.selects q.1.cls q.1 q.1 ∈ lw_tbl := List.mem_append_left _ (List.mem_map.mpr ⟨q, (show q ∈ lw_privs from List.mem_append_right _ (List.mem_append_left _ h)), rfl⟩)
theorem m_pr3 {q : MethodName × Nat} (h : q ∈ lw_privs_3) : Cond.selects q.1.cls q.1 q.1 ∈ lw_tbl := List.mem_append_left _ (List.mem_map.mpr ⟨q, (show q ∈ lw_privs from List.mem_append_right _ (List.mem_append_right _ (List.mem_append_left _ h))), rfl⟩)
theorem m_pr4 {q : MethodName × Nat} (h : q ∈ lw_privs_4) : Cond.selects q.1.cls q.1 q.1 ∈ lw_tbl := List.mem_append_left _ (List.mem_map.mpr ⟨q, (show q ∈ lw_privs from List.mem_append_right _ (List.mem_append_right _ (List.mem_append_right _ (List.mem_append_left _ h)))), rfl⟩)
theorem m_pr5 {q : MethodName × Nat} (h : q ∈ lw_privs_5) : Cond.selects q.1.cls q.1 q.1 ∈ lw_tbl := List.mem_append_left _ (List.mem_map.mpr ⟨q, (show q ∈ lw_privs from List.mem_append_right _ (List.mem_append_right _ (List.mem_append_right _ (List.mem_append_right _ (List.mem_append_left _ h))))), rfl⟩)
theorem m_pr6 {q : MethodName × Nat} (h : q ∈ lw_privs_6) : Cond.selects q.1.cls q.1 q.1 ∈ lw_tbl := List.mem_append_left _ (List.mem_map.mpr ⟨q, (show q ∈ lw_privs from List.mem_append_right _ (List.mem_append_right _ (List.mem_append_right _ (List.mem_append_right _ (List.mem_append_right _ (List.mem_append_left _ h)))))), rfl⟩)
theorem m_pr7 {q : MethodName × Nat} (h : q ∈ lw_privs_7) : Cond.selects q.1.cls q.1 q.1 ∈ lw_tbl := List.mem_append_left _ (List.mem_map.mpr ⟨q, (show q ∈ lw_privs from List.mem_append_right _ (List.mem_append_right _ (List.mem_append_right _ (List.mem_append_right _ (List.mem_append_right _ (List.mem_append_right _ (List.mem_append_left _ h))))))), rfl⟩)
theorem m_pr8 {q : MethodName × Nat} (h : q ∈ lw_privs_8) : Cond.selects q.1.cls q.1 q.1 ∈ lw_tbl := List.mem_append_left _ (List.mem_map.mpr ⟨q, (show q ∈ lw_privs from List.mem_append_right _ (List.mem_append_right _ (List.mem_append_right _ (List.mem_append_right _ (List.mem_append_right _ (List.mem_append_right _ (List.mem_append_right _ (h)))))))), rfl⟩)
def m_nst : List Cond := [(Jvm.Cond.methodLinkNest "SwingCrane$Moment" (11 : Nat) ({ cls := "SwingCrane$Pose", name := "<init>", desc := "()V" } : Jvm.MethodName) "SwingCrane"), (Jvm.Cond.methodLinkNest "SwingCrane$Moment" (26 : Nat) ({ cls := "SwingCrane", name := "copyRow", desc := "([I[I)V" } : Jvm.MethodName) "SwingCrane"), (Jvm.Cond.methodLinkNest "SwingCrane$Search" (24 : Nat) ({ cls := "SwingCrane$Pose", name := "<init>", desc := "()V" } : Jvm.MethodName) "SwingCrane"), (Jvm.Cond.methodLinkNest "SwingCrane$Ways" (50 : Nat) ({ cls := "SwingCrane$Pose", name := "<init>", desc := "()V" } : Jvm.MethodName) "SwingCrane"), (Jvm.Cond.methodLinkNest "SwingCrane" (83 : Nat) ({ cls := "SwingCrane$Pose", name := "<init>", desc := "()V" } : Jvm.MethodName) "SwingCrane"), (Jvm.Cond.methodLinkNest "SwingCrane$Plan" (73 : Nat) ({ cls := "SwingCrane", name := "copyRow", desc := "([I[I)V" } : Jvm.MethodName) "SwingCrane"), (Jvm.Cond.methodLinkNest "SwingCrane$Round" (45 : Nat) ({ cls := "SwingCrane", name := "copyRow", desc := "([I[I)V" } : Jvm.MethodName) "SwingCrane"), (Jvm.Cond.methodLinkNest "SwingCrane$Haul" (40 : Nat) ({ cls := "SwingCrane", name := "copyRow", desc := "([I[I)V" } : Jvm.MethodName) "SwingCrane"), (Jvm.Cond.methodLinkNest "SwingCrane$Log" (22 : Nat) ({ cls := "SwingCrane", name := "copyRow", desc := "([I[I)V" } : Jvm.MethodName) "SwingCrane")]
theorem m_nst_in : ∀ w ∈ m_nst, w ∈ lw_tbl := List.forall_mem_cons.mpr ⟨m_in2 (List.mem_of_getElem? (i := 11) rfl),
  List.forall_mem_cons.mpr ⟨m_in2 (List.mem_of_getElem? (i := 78) rfl),
  List.forall_mem_cons.mpr ⟨m_in2 (List.mem_of_getElem? (i := 172) rfl),
  List.forall_mem_cons.mpr ⟨m_in2 (List.mem_of_getElem? (i := 205) rfl),
  List.forall_mem_cons.mpr ⟨m_in3 (List.mem_of_getElem? (i := 73) rfl),
  List.forall_mem_cons.mpr ⟨m_in4 (List.mem_of_getElem? (i := 24) rfl),
  List.forall_mem_cons.mpr ⟨m_in5 (List.mem_of_getElem? (i := 52) rfl),
  List.forall_mem_cons.mpr ⟨m_in5 (List.mem_of_getElem? (i := 67) rfl),
  List.forall_mem_cons.mpr ⟨m_in6 (List.mem_of_getElem? (i := 42) rfl),
  fun _ h => absurd h List.not_mem_nil⟩⟩⟩⟩⟩⟩⟩⟩⟩
def m_Cp (c : Nat) (q : Nat × Nat × m_Me × Nat) : Prop := match q with
  | (x, kd, me, n) => kd = 20 ∨ (m_Mp me ∧ (parseMethodDescriptor me.2.1.desc).map (fun d => d.parameters.length) = some n ∧ n + 1 ≤ 40 ∧
    (match kd with
    | 0 => Cond.methodLink (m_cn c) x me.2.1 ∈ m_gw ∧ Cond.instanceMethod me.2.1 ∈ m_gw ∧ Cond.selects me.2.1.cls me.2.1 me.2.1 ∈ m_gw
    | 1 => Cond.methodLink (m_cn c) x me.2.1 ∈ m_gw ∧ Cond.static me.2.1 ∈ m_gw
    | 2 => Cond.methodLink (m_cn c) x me.2.1 ∈ m_gw ∧ Cond.instanceMethod me.2.1 ∈ m_gw ∧ me.2.1.name = "<init>" ∧ me.2.2.2.2 = none
    | 3 => Cond.methodLinkNest (m_cn c) x me.2.1 "SwingCrane" ∈ m_nst ∧ Cond.static me.2.1 ∈ m_gw
    | 4 => Cond.methodLinkNest (m_cn c) x me.2.1 "SwingCrane" ∈ m_nst ∧ Cond.instanceMethod me.2.1 ∈ m_gw ∧ me.2.1.name = "<init>" ∧ me.2.2.2.2 = none
    | _ => False))
set_option maxRecDepth 100000 in
theorem m_C0_ok : ∀ q ∈ m_C0, m_Cp 0 q := List.forall_mem_cons.mpr ⟨Or.inr ⟨pSc_copyRow, by decide +kernel, by decide, ⟨List.mem_of_getElem? (i := 7) rfl, m_gwI (m_in2 (List.mem_of_getElem? (i := 79) rfl)) rfl⟩⟩,
  List.forall_mem_cons.mpr ⟨Or.inr ⟨pHa_stepsOf, by decide +kernel, by decide, ⟨m_gwI (m_in5 (List.mem_of_getElem? (i := 68) rfl)) rfl, m_gwI (m_in5 (List.mem_of_getElem? (i := 70) rfl)) rfl, m_gwI (m_pr3 (q := (⟨"SwingCrane$Haul", "stepsOf", "(IIII)I"⟩, 8)) (List.mem_of_getElem? (i := 1) rfl)) rfl⟩⟩,
  List.forall_mem_cons.mpr ⟨Or.inr ⟨pHa_goOn, by decide +kernel, by decide, ⟨m_gwI (m_in5 (List.mem_of_getElem? (i := 95) rfl)) rfl, m_gwI (m_in5 (List.mem_of_getElem? (i := 97) rfl)) rfl, m_gwI (m_pr3 (q := (⟨"SwingCrane$Haul", "goOn", "(IIIII)V"⟩, 8)) (List.mem_of_getElem? (i := 3) rfl)) rfl⟩⟩,
  List.forall_mem_cons.mpr ⟨Or.inr ⟨pPl_hasColumn, by decide +kernel, by decide, ⟨m_gwI (m_in5 (List.mem_of_getElem? (i := 72) rfl)) rfl, m_gwI (m_in3 (List.mem_of_getElem? (i := 87) rfl)) rfl, m_gwI (m_in3 (List.mem_of_getElem? (i := 88) rfl)) rfl⟩⟩,
  List.forall_mem_cons.mpr ⟨Or.inr ⟨pPl_freeOf, by decide +kernel, by decide, ⟨m_gwI (m_in5 (List.mem_of_getElem? (i := 73) rfl)) rfl, m_gwI (m_in3 (List.mem_of_getElem? (i := 83) rfl)) rfl, m_gwI (m_in3 (List.mem_of_getElem? (i := 84) rfl)) rfl⟩⟩,
  List.forall_mem_cons.mpr ⟨Or.inr ⟨pWa_stepsToRest, by decide +kernel, by decide, ⟨m_gwI (m_in5 (List.mem_of_getElem? (i := 74) rfl)) rfl, m_gwI (m_in5 (List.mem_of_getElem? (i := 75) rfl)) rfl, m_gwI (m_in5 (List.mem_of_getElem? (i := 76) rfl)) rfl⟩⟩,
  List.forall_mem_cons.mpr ⟨Or.inr ⟨pSp_lay, by decide +kernel, by decide, ⟨m_gwI (m_in5 (List.mem_of_getElem? (i := 78) rfl)) rfl, m_gwI (m_in3 (List.mem_of_getElem? (i := 79) rfl)) rfl, m_gwI (m_in3 (List.mem_of_getElem? (i := 80) rfl)) rfl⟩⟩,
  List.forall_mem_cons.mpr ⟨Or.inr ⟨pWa_supposedSteps, by decide +kernel, by decide, ⟨m_gwI (m_in5 (List.mem_of_getElem? (i := 79) rfl)) rfl, m_gwI (m_in5 (List.mem_of_getElem? (i := 80) rfl)) rfl, m_gwI (m_in5 (List.mem_of_getElem? (i := 81) rfl)) rfl⟩⟩,
  List.forall_mem_cons.mpr ⟨Or.inr ⟨pHa_dropDepth, by decide +kernel, by decide, ⟨m_gwI (m_in5 (List.mem_of_getElem? (i := 83) rfl)) rfl, m_gwI (m_in5 (List.mem_of_getElem? (i := 85) rfl)) rfl, m_gwI (m_pr3 (q := (⟨"SwingCrane$Haul", "dropDepth", "(I)I"⟩, 8)) (List.mem_of_getElem? (i := 2) rfl)) rfl⟩⟩,
  fun _ h => absurd h List.not_mem_nil⟩⟩⟩⟩⟩⟩⟩⟩⟩
set_option maxRecDepth 100000 in
theorem m_C1_ok : ∀ q ∈ m_C1, m_Cp 1 q := List.forall_mem_cons.mpr ⟨Or.inr ⟨pSc_copyRow, by decide +kernel, by decide, ⟨List.mem_of_getElem? (i := 8) rfl, m_gwI (m_in2 (List.mem_of_getElem? (i := 79) rfl)) rfl⟩⟩,
  List.forall_mem_cons.mpr ⟨Or.inr ⟨pLo_letterOf, by decide +kernel, by decide, ⟨m_gwI (m_in4 (List.mem_of_getElem? (i := 84) rfl)) rfl, m_gwI (m_in4 (List.mem_of_getElem? (i := 85) rfl)) rfl⟩⟩,
  List.forall_mem_cons.mpr ⟨Or.inr ⟨pLo_latest, by decide +kernel, by decide, ⟨m_gwI (m_in5 (List.mem_of_getElem? (i := 239) rfl)) rfl, m_gwI (m_in6 (List.mem_of_getElem? (i := 1) rfl)) rfl, m_gwI (m_pr3 (q := (⟨"SwingCrane$Log", "latest", "(I)I"⟩, 3)) (List.mem_of_getElem? (i := 8) rfl)) rfl⟩⟩,
  fun _ h => absurd h List.not_mem_nil⟩⟩⟩
set_option maxRecDepth 100000 in
theorem m_C2_ok : ∀ q ∈ m_C2, m_Cp 2 q := List.forall_mem_cons.mpr ⟨Or.inr ⟨pPo_init, by decide +kernel, by decide, ⟨List.mem_of_getElem? (i := 0) rfl, m_gwI (m_in2 (List.mem_of_getElem? (i := 12) rfl)) rfl, rfl, rfl⟩⟩,
  List.forall_mem_cons.mpr ⟨Or.inr ⟨pPo_set, by decide +kernel, by decide, ⟨m_gwI (m_in4 (List.mem_of_getElem? (i := 78) rfl)) rfl, m_gwI (m_in4 (List.mem_of_getElem? (i := 51) rfl)) rfl, m_gwI (m_in4 (List.mem_of_getElem? (i := 52) rfl)) rfl⟩⟩,
  List.forall_mem_cons.mpr ⟨Or.inr ⟨pSc_copyRow, by decide +kernel, by decide, ⟨List.mem_of_getElem? (i := 1) rfl, m_gwI (m_in2 (List.mem_of_getElem? (i := 79) rfl)) rfl⟩⟩,
  List.forall_mem_cons.mpr ⟨Or.inr ⟨pPo_hang, by decide +kernel, by decide, ⟨m_gwI (m_in2 (List.mem_of_getElem? (i := 74) rfl)) rfl, m_gwI (m_in2 (List.mem_of_getElem? (i := 75) rfl)) rfl, m_gwI (m_in2 (List.mem_of_getElem? (i := 76) rfl)) rfl⟩⟩,
  fun _ h => absurd h List.not_mem_nil⟩⟩⟩⟩
set_option maxRecDepth 100000 in
theorem m_C3_ok : ∀ q ∈ m_C3, m_Cp 3 q := List.forall_mem_cons.mpr ⟨Or.inr ⟨pMo_init, by decide +kernel, by decide, ⟨m_gwI (m_in2 (List.mem_of_getElem? (i := 105) rfl)) rfl, m_gwI (m_in2 (List.mem_of_getElem? (i := 6) rfl)) rfl, rfl, rfl⟩⟩,
  List.forall_mem_cons.mpr ⟨Or.inr ⟨pMo_set, by decide +kernel, by decide, ⟨m_gwI (m_in4 (List.mem_of_getElem? (i := 74) rfl)) rfl, m_gwI (m_in4 (List.mem_of_getElem? (i := 75) rfl)) rfl, m_gwI (m_in4 (List.mem_of_getElem? (i := 76) rfl)) rfl⟩⟩,
  fun _ h => absurd h List.not_mem_nil⟩⟩
set_option maxRecDepth 100000 in
theorem m_C4_ok : ∀ q ∈ m_C4, m_Cp 4 q := List.forall_mem_cons.mpr ⟨Or.inr ⟨pPl_clear, by decide +kernel, by decide, ⟨m_gwI (m_in1 (List.mem_of_getElem? (i := 44) rfl)) rfl, m_gwI (m_in1 (List.mem_of_getElem? (i := 45) rfl)) rfl, m_gwI (m_in1 (List.mem_of_getElem? (i := 46) rfl)) rfl⟩⟩,
  List.forall_mem_cons.mpr ⟨Or.inr ⟨pSc_copyRow, by decide +kernel, by decide, ⟨List.mem_of_getElem? (i := 5) rfl, m_gwI (m_in2 (List.mem_of_getElem? (i := 79) rfl)) rfl⟩⟩,
  List.forall_mem_cons.mpr ⟨Or.inr ⟨pPl_hasColumn, by decide +kernel, by decide, ⟨m_gwI (m_in3 (List.mem_of_getElem? (i := 86) rfl)) rfl, m_gwI (m_in3 (List.mem_of_getElem? (i := 87) rfl)) rfl, m_gwI (m_in3 (List.mem_of_getElem? (i := 88) rfl)) rfl⟩⟩,
  fun _ h => absurd h List.not_mem_nil⟩⟩⟩
set_option maxRecDepth 100000 in
theorem m_C6_ok : ∀ q ∈ m_C6, m_Cp 6 q := List.forall_mem_cons.mpr ⟨Or.inr ⟨pPl_init, by decide +kernel, by decide, ⟨m_gwI (m_in1 (List.mem_of_getElem? (i := 40) rfl)) rfl, m_gwI (m_in1 (List.mem_of_getElem? (i := 41) rfl)) rfl, rfl, rfl⟩⟩,
  List.forall_mem_cons.mpr ⟨Or.inr ⟨pRe_packLanguage, by decide +kernel, by decide, ⟨m_gwI (m_in1 (List.mem_of_getElem? (i := 148) rfl)) rfl, m_gwI (m_in1 (List.mem_of_getElem? (i := 149) rfl)) rfl⟩⟩,
  List.forall_mem_cons.mpr ⟨Or.inr ⟨pRe_letterBits, by decide +kernel, by decide, ⟨m_gwI (m_in1 (List.mem_of_getElem? (i := 200) rfl)) rfl, m_gwI (m_in1 (List.mem_of_getElem? (i := 201) rfl)) rfl⟩⟩,
  List.forall_mem_cons.mpr ⟨Or.inr ⟨pRe_takeNumber, by decide +kernel, by decide, ⟨m_gwI (m_in3 (List.mem_of_getElem? (i := 153) rfl)) rfl, m_gwI (m_in3 (List.mem_of_getElem? (i := 155) rfl)) rfl, m_gwI (m_pr1 (q := (⟨"SwingCrane$Reader", "takeNumber", "(I)V"⟩, 11)) (List.mem_of_getElem? (i := 2) rfl)) rfl⟩⟩,
  List.forall_mem_cons.mpr ⟨Or.inr ⟨pPl_clear, by decide +kernel, by decide, ⟨m_gwI (m_in3 (List.mem_of_getElem? (i := 165) rfl)) rfl, m_gwI (m_in1 (List.mem_of_getElem? (i := 45) rfl)) rfl, m_gwI (m_in1 (List.mem_of_getElem? (i := 46) rfl)) rfl⟩⟩,
  List.forall_mem_cons.mpr ⟨Or.inr ⟨pRe_nextToken, by decide +kernel, by decide, ⟨m_gwI (m_in3 (List.mem_of_getElem? (i := 166) rfl)) rfl, m_gwI (m_in3 (List.mem_of_getElem? (i := 168) rfl)) rfl, m_gwI (m_pr1 (q := (⟨"SwingCrane$Reader", "nextToken", "()V"⟩, 11)) (List.mem_of_getElem? (i := 3) rfl)) rfl⟩⟩,
  List.forall_mem_cons.mpr ⟨Or.inr ⟨pRe_wordNumber, by decide +kernel, by decide, ⟨m_gwI (m_in3 (List.mem_of_getElem? (i := 193) rfl)) rfl, m_gwI (m_in3 (List.mem_of_getElem? (i := 195) rfl)) rfl, m_gwI (m_pr1 (q := (⟨"SwingCrane$Reader", "wordNumber", "()I"⟩, 11)) (List.mem_of_getElem? (i := 7) rfl)) rfl⟩⟩,
  List.forall_mem_cons.mpr ⟨Or.inr ⟨pRe_mayStand, by decide +kernel, by decide, ⟨m_gwI (m_in3 (List.mem_of_getElem? (i := 197) rfl)) rfl, m_gwI (m_in3 (List.mem_of_getElem? (i := 199) rfl)) rfl, m_gwI (m_pr1 (q := (⟨"SwingCrane$Reader", "mayStand", "(I)Z"⟩, 11)) (List.mem_of_getElem? (i := 8) rfl)) rfl⟩⟩,
  List.forall_mem_cons.mpr ⟨Or.inr ⟨pRe_readLine, by decide +kernel, by decide, ⟨m_gwI (m_in3 (List.mem_of_getElem? (i := 211) rfl)) rfl, m_gwI (m_in3 (List.mem_of_getElem? (i := 213) rfl)) rfl, m_gwI (m_pr1 (q := (⟨"SwingCrane$Reader", "readLine", "(II)V"⟩, 11)) (List.mem_of_getElem? (i := 11) rfl)) rfl⟩⟩,
  List.forall_mem_cons.mpr ⟨Or.inr ⟨pRe_needSemicolon, by decide +kernel, by decide, ⟨m_gwI (m_in4 (List.mem_of_getElem? (i := 16) rfl)) rfl, m_gwI (m_in4 (List.mem_of_getElem? (i := 18) rfl)) rfl, m_gwI (m_pr2 (q := (⟨"SwingCrane$Reader", "needSemicolon", "()V"⟩, 11)) (List.mem_of_getElem? (i := 5) rfl)) rfl⟩⟩,
  List.forall_mem_cons.mpr ⟨Or.inr ⟨pRe_signAt, by decide +kernel, by decide, ⟨m_gwI (m_in3 (List.mem_of_getElem? (i := 170) rfl)) rfl, m_gwI (m_in3 (List.mem_of_getElem? (i := 172) rfl)) rfl, m_gwI (m_pr1 (q := (⟨"SwingCrane$Reader", "signAt", "(I)I"⟩, 11)) (List.mem_of_getElem? (i := 4) rfl)) rfl⟩⟩,
  List.forall_mem_cons.mpr ⟨Or.inr ⟨pRe_isBlank, by decide +kernel, by decide, ⟨m_gwI (m_in3 (List.mem_of_getElem? (i := 174) rfl)) rfl, m_gwI (m_in3 (List.mem_of_getElem? (i := 175) rfl)) rfl⟩⟩,
  List.forall_mem_cons.mpr ⟨Or.inr ⟨pRe_isLetter, by decide +kernel, by decide, ⟨m_gwI (m_in3 (List.mem_of_getElem? (i := 177) rfl)) rfl, m_gwI (m_in3 (List.mem_of_getElem? (i := 178) rfl)) rfl⟩⟩,
  List.forall_mem_cons.mpr ⟨Or.inr ⟨pRe_takeWord, by decide +kernel, by decide, ⟨m_gwI (m_in3 (List.mem_of_getElem? (i := 180) rfl)) rfl, m_gwI (m_in3 (List.mem_of_getElem? (i := 182) rfl)) rfl, m_gwI (m_pr1 (q := (⟨"SwingCrane$Reader", "takeWord", "()V"⟩, 11)) (List.mem_of_getElem? (i := 5) rfl)) rfl⟩⟩,
  List.forall_mem_cons.mpr ⟨Or.inr ⟨pRe_isDigit, by decide +kernel, by decide, ⟨m_gwI (m_in3 (List.mem_of_getElem? (i := 184) rfl)) rfl, m_gwI (m_in3 (List.mem_of_getElem? (i := 185) rfl)) rfl⟩⟩,
  List.forall_mem_cons.mpr ⟨Or.inr ⟨pRe_takeDigits, by decide +kernel, by decide, ⟨m_gwI (m_in3 (List.mem_of_getElem? (i := 187) rfl)) rfl, m_gwI (m_in3 (List.mem_of_getElem? (i := 189) rfl)) rfl, m_gwI (m_pr1 (q := (⟨"SwingCrane$Reader", "takeDigits", "(I)V"⟩, 11)) (List.mem_of_getElem? (i := 6) rfl)) rfl⟩⟩,
  List.forall_mem_cons.mpr ⟨Or.inr ⟨pRe_isBegun, by decide +kernel, by decide, ⟨m_gwI (m_in3 (List.mem_of_getElem? (i := 201) rfl)) rfl, m_gwI (m_in3 (List.mem_of_getElem? (i := 203) rfl)) rfl, m_gwI (m_pr1 (q := (⟨"SwingCrane$Reader", "isBegun", "()Z"⟩, 11)) (List.mem_of_getElem? (i := 9) rfl)) rfl⟩⟩,
  List.forall_mem_cons.mpr ⟨Or.inr ⟨pRe_refuse, by decide +kernel, by decide, ⟨m_gwI (m_in3 (List.mem_of_getElem? (i := 205) rfl)) rfl, m_gwI (m_in3 (List.mem_of_getElem? (i := 207) rfl)) rfl, m_gwI (m_pr1 (q := (⟨"SwingCrane$Reader", "refuse", "(I)V"⟩, 11)) (List.mem_of_getElem? (i := 10) rfl)) rfl⟩⟩,
  List.forall_mem_cons.mpr ⟨Or.inr ⟨pRe_number, by decide +kernel, by decide, ⟨m_gwI (m_in3 (List.mem_of_getElem? (i := 215) rfl)) rfl, m_gwI (m_in3 (List.mem_of_getElem? (i := 217) rfl)) rfl, m_gwI (m_pr1 (q := (⟨"SwingCrane$Reader", "number", "(II)I"⟩, 11)) (List.mem_of_getElem? (i := 12) rfl)) rfl⟩⟩,
  List.forall_mem_cons.mpr ⟨Or.inr ⟨pRe_readBlock, by decide +kernel, by decide, ⟨m_gwI (m_in3 (List.mem_of_getElem? (i := 223) rfl)) rfl, m_gwI (m_in3 (List.mem_of_getElem? (i := 225) rfl)) rfl, m_gwI (m_pr1 (q := (⟨"SwingCrane$Reader", "readBlock", "()V"⟩, 11)) (List.mem_of_getElem? (i := 14) rfl)) rfl⟩⟩,
  List.forall_mem_cons.mpr ⟨Or.inr ⟨pRe_readSpot, by decide +kernel, by decide, ⟨m_gwI (m_in3 (List.mem_of_getElem? (i := 227) rfl)) rfl, m_gwI (m_in3 (List.mem_of_getElem? (i := 229) rfl)) rfl, m_gwI (m_pr1 (q := (⟨"SwingCrane$Reader", "readSpot", "(I)V"⟩, 11)) (List.mem_of_getElem? (i := 15) rfl)) rfl⟩⟩,
  List.forall_mem_cons.mpr ⟨Or.inr ⟨pRe_readWind, by decide +kernel, by decide, ⟨m_gwI (m_in3 (List.mem_of_getElem? (i := 235) rfl)) rfl, m_gwI (m_in3 (List.mem_of_getElem? (i := 237) rfl)) rfl, m_gwI (m_pr2 (q := (⟨"SwingCrane$Reader", "readWind", "(I)V"⟩, 11)) (List.mem_of_getElem? (i := 0) rfl)) rfl⟩⟩,
  List.forall_mem_cons.mpr ⟨Or.inr ⟨pRe_readOrder, by decide +kernel, by decide, ⟨m_gwI (m_in4 (List.mem_of_getElem? (i := 3) rfl)) rfl, m_gwI (m_in4 (List.mem_of_getElem? (i := 5) rfl)) rfl, m_gwI (m_pr2 (q := (⟨"SwingCrane$Reader", "readOrder", "(I)V"⟩, 11)) (List.mem_of_getElem? (i := 2) rfl)) rfl⟩⟩,
  List.forall_mem_cons.mpr ⟨Or.inr ⟨pRe_readPile, by decide +kernel, by decide, ⟨m_gwI (m_in4 (List.mem_of_getElem? (i := 7) rfl)) rfl, m_gwI (m_in4 (List.mem_of_getElem? (i := 9) rfl)) rfl, m_gwI (m_pr2 (q := (⟨"SwingCrane$Reader", "readPile", "()V"⟩, 11)) (List.mem_of_getElem? (i := 3) rfl)) rfl⟩⟩,
  List.forall_mem_cons.mpr ⟨Or.inr ⟨pRe_readJob, by decide +kernel, by decide, ⟨m_gwI (m_in4 (List.mem_of_getElem? (i := 11) rfl)) rfl, m_gwI (m_in4 (List.mem_of_getElem? (i := 13) rfl)) rfl, m_gwI (m_pr2 (q := (⟨"SwingCrane$Reader", "readJob", "(I)V"⟩, 11)) (List.mem_of_getElem? (i := 4) rfl)) rfl⟩⟩,
  List.forall_mem_cons.mpr ⟨Or.inr ⟨pRe_within, by decide +kernel, by decide, ⟨m_gwI (m_in3 (List.mem_of_getElem? (i := 219) rfl)) rfl, m_gwI (m_in3 (List.mem_of_getElem? (i := 221) rfl)) rfl, m_gwI (m_pr1 (q := (⟨"SwingCrane$Reader", "within", "(II)I"⟩, 11)) (List.mem_of_getElem? (i := 13) rfl)) rfl⟩⟩,
  List.forall_mem_cons.mpr ⟨Or.inr ⟨pPl_spotNamed, by decide +kernel, by decide, ⟨m_gwI (m_in3 (List.mem_of_getElem? (i := 231) rfl)) rfl, m_gwI (m_in3 (List.mem_of_getElem? (i := 232) rfl)) rfl, m_gwI (m_in3 (List.mem_of_getElem? (i := 233) rfl)) rfl⟩⟩,
  List.forall_mem_cons.mpr ⟨Or.inr ⟨pRe_signedNumber, by decide +kernel, by decide, ⟨m_gwI (m_in3 (List.mem_of_getElem? (i := 239) rfl)) rfl, m_gwI (m_in4 (List.mem_of_getElem? (i := 1) rfl)) rfl, m_gwI (m_pr2 (q := (⟨"SwingCrane$Reader", "signedNumber", "()I"⟩, 11)) (List.mem_of_getElem? (i := 1) rfl)) rfl⟩⟩,
  fun _ h => absurd h List.not_mem_nil⟩⟩⟩⟩⟩⟩⟩⟩⟩⟩⟩⟩⟩⟩⟩⟩⟩⟩⟩⟩⟩⟩⟩⟩⟩⟩⟩⟩
set_option maxRecDepth 100000 in
theorem m_C7_ok : ∀ q ∈ m_C7, m_Cp 7 q := List.forall_mem_cons.mpr ⟨Or.inr ⟨pRo_goOn, by decide +kernel, by decide, ⟨m_gwI (m_in5 (List.mem_of_getElem? (i := 48) rfl)) rfl, m_gwI (m_in5 (List.mem_of_getElem? (i := 50) rfl)) rfl, m_gwI (m_pr3 (q := (⟨"SwingCrane$Round", "goOn", "(III)V"⟩, 6)) (List.mem_of_getElem? (i := 0) rfl)) rfl⟩⟩,
  List.forall_mem_cons.mpr ⟨Or.inr ⟨pSc_copyRow, by decide +kernel, by decide, ⟨List.mem_of_getElem? (i := 6) rfl, m_gwI (m_in2 (List.mem_of_getElem? (i := 79) rfl)) rfl⟩⟩,
  List.forall_mem_cons.mpr ⟨Or.inr ⟨pWa_stepsToSpot, by decide +kernel, by decide, ⟨m_gwI (m_in5 (List.mem_of_getElem? (i := 53) rfl)) rfl, m_gwI (m_in4 (List.mem_of_getElem? (i := 230) rfl)) rfl, m_gwI (m_in4 (List.mem_of_getElem? (i := 231) rfl)) rfl⟩⟩,
  List.forall_mem_cons.mpr ⟨Or.inr ⟨pWa_legOf, by decide +kernel, by decide, ⟨m_gwI (m_in5 (List.mem_of_getElem? (i := 54) rfl)) rfl, m_gwI (m_in5 (List.mem_of_getElem? (i := 33) rfl)) rfl, m_gwI (m_in5 (List.mem_of_getElem? (i := 34) rfl)) rfl⟩⟩,
  fun _ h => absurd h List.not_mem_nil⟩⟩⟩⟩
set_option maxRecDepth 100000 in
theorem m_C8_ok : ∀ q ∈ m_C8, m_Cp 8 q := List.forall_mem_cons.mpr ⟨Or.inr ⟨pPo_init, by decide +kernel, by decide, ⟨List.mem_of_getElem? (i := 2) rfl, m_gwI (m_in2 (List.mem_of_getElem? (i := 12) rfl)) rfl, rfl, rfl⟩⟩,
  List.forall_mem_cons.mpr ⟨Or.inr ⟨pSp_numberOf, by decide +kernel, by decide, ⟨m_gwI (m_in4 (List.mem_of_getElem? (i := 138) rfl)) rfl, m_gwI (m_in4 (List.mem_of_getElem? (i := 119) rfl)) rfl, m_gwI (m_in4 (List.mem_of_getElem? (i := 120) rfl)) rfl⟩⟩,
  List.forall_mem_cons.mpr ⟨Or.inr ⟨pPo_packed, by decide +kernel, by decide, ⟨m_gwI (m_in4 (List.mem_of_getElem? (i := 139) rfl)) rfl, m_gwI (m_in4 (List.mem_of_getElem? (i := 140) rfl)) rfl, m_gwI (m_in4 (List.mem_of_getElem? (i := 141) rfl)) rfl⟩⟩,
  List.forall_mem_cons.mpr ⟨Or.inr ⟨pSe_expand, by decide +kernel, by decide, ⟨m_gwI (m_in4 (List.mem_of_getElem? (i := 147) rfl)) rfl, m_gwI (m_in4 (List.mem_of_getElem? (i := 149) rfl)) rfl, m_gwI (m_pr2 (q := (⟨"SwingCrane$Search", "expand", "(III)V"⟩, 10)) (List.mem_of_getElem? (i := 9) rfl)) rfl⟩⟩,
  List.forall_mem_cons.mpr ⟨Or.inr ⟨pSe_stepsMet, by decide +kernel, by decide, ⟨m_gwI (m_in4 (List.mem_of_getElem? (i := 155) rfl)) rfl, m_gwI (m_in4 (List.mem_of_getElem? (i := 156) rfl)) rfl, m_gwI (m_in4 (List.mem_of_getElem? (i := 157) rfl)) rfl⟩⟩,
  List.forall_mem_cons.mpr ⟨Or.inr ⟨pPo_unpack, by decide +kernel, by decide, ⟨m_gwI (m_in4 (List.mem_of_getElem? (i := 151) rfl)) rfl, m_gwI (m_in4 (List.mem_of_getElem? (i := 152) rfl)) rfl, m_gwI (m_in4 (List.mem_of_getElem? (i := 153) rfl)) rfl⟩⟩,
  List.forall_mem_cons.mpr ⟨Or.inr ⟨pPo_set, by decide +kernel, by decide, ⟨m_gwI (m_in4 (List.mem_of_getElem? (i := 159) rfl)) rfl, m_gwI (m_in4 (List.mem_of_getElem? (i := 51) rfl)) rfl, m_gwI (m_in4 (List.mem_of_getElem? (i := 52) rfl)) rfl⟩⟩,
  List.forall_mem_cons.mpr ⟨Or.inr ⟨pPo_moveBack, by decide +kernel, by decide, ⟨m_gwI (m_in4 (List.mem_of_getElem? (i := 160) rfl)) rfl, m_gwI (m_in4 (List.mem_of_getElem? (i := 161) rfl)) rfl, m_gwI (m_in4 (List.mem_of_getElem? (i := 162) rfl)) rfl⟩⟩,
  List.forall_mem_cons.mpr ⟨Or.inr ⟨pPo_move, by decide +kernel, by decide, ⟨m_gwI (m_in4 (List.mem_of_getElem? (i := 164) rfl)) rfl, m_gwI (m_in4 (List.mem_of_getElem? (i := 59) rfl)) rfl, m_gwI (m_in4 (List.mem_of_getElem? (i := 60) rfl)) rfl⟩⟩,
  List.forall_mem_cons.mpr ⟨Or.inr ⟨pSe_spread, by decide +kernel, by decide, ⟨m_gwI (m_in5 (List.mem_of_getElem? (i := 197) rfl)) rfl, m_gwI (m_in5 (List.mem_of_getElem? (i := 199) rfl)) rfl, m_gwI (m_pr3 (q := (⟨"SwingCrane$Search", "spread", "(I)V"⟩, 10)) (List.mem_of_getElem? (i := 5) rfl)) rfl⟩⟩,
  List.forall_mem_cons.mpr ⟨Or.inr ⟨pSe_spreadLevels, by decide +kernel, by decide, ⟨m_gwI (m_in5 (List.mem_of_getElem? (i := 202) rfl)) rfl, m_gwI (m_in5 (List.mem_of_getElem? (i := 204) rfl)) rfl, m_gwI (m_pr3 (q := (⟨"SwingCrane$Search", "spreadLevels", "(III)V"⟩, 10)) (List.mem_of_getElem? (i := 6) rfl)) rfl⟩⟩,
  fun _ h => absurd h List.not_mem_nil⟩⟩⟩⟩⟩⟩⟩⟩⟩⟩⟩
set_option maxRecDepth 100000 in
theorem m_C9_ok : ∀ q ∈ m_C9, m_Cp 9 q := List.forall_mem_cons.mpr ⟨Or.inr ⟨pPl_freeOf, by decide +kernel, by decide, ⟨m_gwI (m_in3 (List.mem_of_getElem? (i := 82) rfl)) rfl, m_gwI (m_in3 (List.mem_of_getElem? (i := 83) rfl)) rfl, m_gwI (m_in3 (List.mem_of_getElem? (i := 84) rfl)) rfl⟩⟩,
  List.forall_mem_cons.mpr ⟨Or.inr ⟨pSp_layRopes, by decide +kernel, by decide, ⟨m_gwI (m_in3 (List.mem_of_getElem? (i := 96) rfl)) rfl, m_gwI (m_in3 (List.mem_of_getElem? (i := 98) rfl)) rfl, m_gwI (m_pr1 (q := (⟨"SwingCrane$Space", "layRopes", "(II)V"⟩, 11)) (List.mem_of_getElem? (i := 0) rfl)) rfl⟩⟩,
  List.forall_mem_cons.mpr ⟨Or.inr ⟨pSp_isClear, by decide +kernel, by decide, ⟨m_gwI (m_in3 (List.mem_of_getElem? (i := 100) rfl)) rfl, m_gwI (m_in3 (List.mem_of_getElem? (i := 102) rfl)) rfl, m_gwI (m_pr1 (q := (⟨"SwingCrane$Space", "isClear", "(III)Z"⟩, 11)) (List.mem_of_getElem? (i := 1) rfl)) rfl⟩⟩,
  List.forall_mem_cons.mpr ⟨Or.inr ⟨pSp_freeAt, by decide +kernel, by decide, ⟨m_gwI (m_in3 (List.mem_of_getElem? (i := 104) rfl)) rfl, m_gwI (m_in3 (List.mem_of_getElem? (i := 105) rfl)) rfl, m_gwI (m_in3 (List.mem_of_getElem? (i := 106) rfl)) rfl⟩⟩,
  List.forall_mem_cons.mpr ⟨Or.inr ⟨pPo_load, by decide +kernel, by decide, ⟨m_gwI (m_in4 (List.mem_of_getElem? (i := 66) rfl)) rfl, m_gwI (m_in4 (List.mem_of_getElem? (i := 67) rfl)) rfl, m_gwI (m_in4 (List.mem_of_getElem? (i := 68) rfl)) rfl⟩⟩,
  fun _ h => absurd h List.not_mem_nil⟩⟩⟩⟩⟩
set_option maxRecDepth 100000 in
theorem m_C10_ok : ∀ q ∈ m_C10, m_Cp 10 q := List.forall_mem_cons.mpr ⟨Or.inr ⟨pSp_init, by decide +kernel, by decide, ⟨m_gwI (m_in2 (List.mem_of_getElem? (i := 125) rfl)) rfl, m_gwI (m_in2 (List.mem_of_getElem? (i := 126) rfl)) rfl, rfl, rfl⟩⟩,
  List.forall_mem_cons.mpr ⟨Or.inr ⟨pSe_init, by decide +kernel, by decide, ⟨m_gwI (m_in2 (List.mem_of_getElem? (i := 167) rfl)) rfl, m_gwI (m_in2 (List.mem_of_getElem? (i := 168) rfl)) rfl, rfl, rfl⟩⟩,
  List.forall_mem_cons.mpr ⟨Or.inr ⟨pPo_init, by decide +kernel, by decide, ⟨List.mem_of_getElem? (i := 3) rfl, m_gwI (m_in2 (List.mem_of_getElem? (i := 12) rfl)) rfl, rfl, rfl⟩⟩,
  List.forall_mem_cons.mpr ⟨Or.inr ⟨pSp_lay, by decide +kernel, by decide, ⟨m_gwI (m_in3 (List.mem_of_getElem? (i := 78) rfl)) rfl, m_gwI (m_in3 (List.mem_of_getElem? (i := 79) rfl)) rfl, m_gwI (m_in3 (List.mem_of_getElem? (i := 80) rfl)) rfl⟩⟩,
  List.forall_mem_cons.mpr ⟨Or.inr ⟨pPo_hang, by decide +kernel, by decide, ⟨m_gwI (m_in4 (List.mem_of_getElem? (i := 133) rfl)) rfl, m_gwI (m_in2 (List.mem_of_getElem? (i := 75) rfl)) rfl, m_gwI (m_in2 (List.mem_of_getElem? (i := 76) rfl)) rfl⟩⟩,
  List.forall_mem_cons.mpr ⟨Or.inr ⟨pSp_numberOf, by decide +kernel, by decide, ⟨m_gwI (m_in4 (List.mem_of_getElem? (i := 118) rfl)) rfl, m_gwI (m_in4 (List.mem_of_getElem? (i := 119) rfl)) rfl, m_gwI (m_in4 (List.mem_of_getElem? (i := 120) rfl)) rfl⟩⟩,
  List.forall_mem_cons.mpr ⟨Or.inr ⟨pPl_hasSpot, by decide +kernel, by decide, ⟨m_gwI (m_in4 (List.mem_of_getElem? (i := 237) rfl)) rfl, m_gwI (m_in4 (List.mem_of_getElem? (i := 226) rfl)) rfl, m_gwI (m_in4 (List.mem_of_getElem? (i := 227) rfl)) rfl⟩⟩,
  List.forall_mem_cons.mpr ⟨Or.inr ⟨pWa_restNumber, by decide +kernel, by decide, ⟨m_gwI (m_in4 (List.mem_of_getElem? (i := 238) rfl)) rfl, m_gwI (m_in5 (List.mem_of_getElem? (i := 0) rfl)) rfl, m_gwI (m_pr2 (q := (⟨"SwingCrane$Ways", "restNumber", "(LSwingCrane$Space;II)I"⟩, 14)) (List.mem_of_getElem? (i := 13) rfl)) rfl⟩⟩,
  List.forall_mem_cons.mpr ⟨Or.inr ⟨pSe_begin, by decide +kernel, by decide, ⟨m_gwI (m_in4 (List.mem_of_getElem? (i := 126) rfl)) rfl, m_gwI (m_in4 (List.mem_of_getElem? (i := 127) rfl)) rfl, m_gwI (m_in4 (List.mem_of_getElem? (i := 128) rfl)) rfl⟩⟩,
  List.forall_mem_cons.mpr ⟨Or.inr ⟨pSe_seed, by decide +kernel, by decide, ⟨m_gwI (m_in4 (List.mem_of_getElem? (i := 134) rfl)) rfl, m_gwI (m_in4 (List.mem_of_getElem? (i := 135) rfl)) rfl, m_gwI (m_in4 (List.mem_of_getElem? (i := 136) rfl)) rfl⟩⟩,
  List.forall_mem_cons.mpr ⟨Or.inr ⟨pWa_spotNumber, by decide +kernel, by decide, ⟨m_gwI (m_in4 (List.mem_of_getElem? (i := 233) rfl)) rfl, m_gwI (m_in4 (List.mem_of_getElem? (i := 235) rfl)) rfl, m_gwI (m_pr2 (q := (⟨"SwingCrane$Ways", "spotNumber", "(LSwingCrane$Space;I)I"⟩, 14)) (List.mem_of_getElem? (i := 12) rfl)) rfl⟩⟩,
  List.forall_mem_cons.mpr ⟨Or.inr ⟨pWa_fromHere, by decide +kernel, by decide, ⟨m_gwI (m_in5 (List.mem_of_getElem? (i := 2) rfl)) rfl, m_gwI (m_in5 (List.mem_of_getElem? (i := 4) rfl)) rfl, m_gwI (m_pr2 (q := (⟨"SwingCrane$Ways", "fromHere", "()LSwingCrane$Search;"⟩, 14)) (List.mem_of_getElem? (i := 14) rfl)) rfl⟩⟩,
  List.forall_mem_cons.mpr ⟨Or.inr ⟨pSe_stepsTo, by decide +kernel, by decide, ⟨m_gwI (m_in4 (List.mem_of_getElem? (i := 143) rfl)) rfl, m_gwI (m_in4 (List.mem_of_getElem? (i := 144) rfl)) rfl, m_gwI (m_in4 (List.mem_of_getElem? (i := 145) rfl)) rfl⟩⟩,
  List.forall_mem_cons.mpr ⟨Or.inr ⟨pSe_codeMet, by decide +kernel, by decide, ⟨m_gwI (m_in5 (List.mem_of_getElem? (i := 14) rfl)) rfl, m_gwI (m_in5 (List.mem_of_getElem? (i := 15) rfl)) rfl, m_gwI (m_in5 (List.mem_of_getElem? (i := 16) rfl)) rfl⟩⟩,
  List.forall_mem_cons.mpr ⟨Or.inr ⟨pPo_moveBack, by decide +kernel, by decide, ⟨m_gwI (m_in5 (List.mem_of_getElem? (i := 18) rfl)) rfl, m_gwI (m_in4 (List.mem_of_getElem? (i := 161) rfl)) rfl, m_gwI (m_in4 (List.mem_of_getElem? (i := 162) rfl)) rfl⟩⟩,
  List.forall_mem_cons.mpr ⟨Or.inr ⟨pSe_stepsMet, by decide +kernel, by decide, ⟨m_gwI (m_in4 (List.mem_of_getElem? (i := 167) rfl)) rfl, m_gwI (m_in4 (List.mem_of_getElem? (i := 156) rfl)) rfl, m_gwI (m_in4 (List.mem_of_getElem? (i := 157) rfl)) rfl⟩⟩,
  List.forall_mem_cons.mpr ⟨Or.inr ⟨pWa_noted, by decide +kernel, by decide, ⟨m_gwI (m_in5 (List.mem_of_getElem? (i := 218) rfl)) rfl, m_gwI (m_in5 (List.mem_of_getElem? (i := 220) rfl)) rfl, m_gwI (m_pr3 (q := (⟨"SwingCrane$Ways", "noted", "(I)I"⟩, 14)) (List.mem_of_getElem? (i := 7) rfl)) rfl⟩⟩,
  List.forall_mem_cons.mpr ⟨Or.inr ⟨pPo_load, by decide +kernel, by decide, ⟨m_gwI (m_in5 (List.mem_of_getElem? (i := 223) rfl)) rfl, m_gwI (m_in4 (List.mem_of_getElem? (i := 67) rfl)) rfl, m_gwI (m_in4 (List.mem_of_getElem? (i := 68) rfl)) rfl⟩⟩,
  List.forall_mem_cons.mpr ⟨Or.inr ⟨pSp_freeAt, by decide +kernel, by decide, ⟨m_gwI (m_in5 (List.mem_of_getElem? (i := 224) rfl)) rfl, m_gwI (m_in3 (List.mem_of_getElem? (i := 105) rfl)) rfl, m_gwI (m_in3 (List.mem_of_getElem? (i := 106) rfl)) rfl⟩⟩,
  List.forall_mem_cons.mpr ⟨Or.inr ⟨pWa_toHome, by decide +kernel, by decide, ⟨m_gwI (m_in4 (List.mem_of_getElem? (i := 122) rfl)) rfl, m_gwI (m_in4 (List.mem_of_getElem? (i := 124) rfl)) rfl, m_gwI (m_pr2 (q := (⟨"SwingCrane$Ways", "toHome", "()LSwingCrane$Search;"⟩, 14)) (List.mem_of_getElem? (i := 8) rfl)) rfl⟩⟩,
  List.forall_mem_cons.mpr ⟨Or.inr ⟨pSe_countMet, by decide +kernel, by decide, ⟨m_gwI (m_in5 (List.mem_of_getElem? (i := 129) rfl)) rfl, m_gwI (m_in5 (List.mem_of_getElem? (i := 130) rfl)) rfl, m_gwI (m_in5 (List.mem_of_getElem? (i := 131) rfl)) rfl⟩⟩,
  List.forall_mem_cons.mpr ⟨Or.inr ⟨pPo_isStill, by decide +kernel, by decide, ⟨m_gwI (m_in4 (List.mem_of_getElem? (i := 110) rfl)) rfl, m_gwI (m_in4 (List.mem_of_getElem? (i := 111) rfl)) rfl, m_gwI (m_in4 (List.mem_of_getElem? (i := 112) rfl)) rfl⟩⟩,
  List.forall_mem_cons.mpr ⟨Or.inr ⟨pWa_stepsHome, by decide +kernel, by decide, ⟨m_gwI (m_in4 (List.mem_of_getElem? (i := 114) rfl)) rfl, m_gwI (m_in4 (List.mem_of_getElem? (i := 115) rfl)) rfl, m_gwI (m_in4 (List.mem_of_getElem? (i := 116) rfl)) rfl⟩⟩,
  List.forall_mem_cons.mpr ⟨Or.inr ⟨pPo_set, by decide +kernel, by decide, ⟨m_gwI (m_in4 (List.mem_of_getElem? (i := 165) rfl)) rfl, m_gwI (m_in4 (List.mem_of_getElem? (i := 51) rfl)) rfl, m_gwI (m_in4 (List.mem_of_getElem? (i := 52) rfl)) rfl⟩⟩,
  List.forall_mem_cons.mpr ⟨Or.inr ⟨pPo_move, by decide +kernel, by decide, ⟨m_gwI (m_in4 (List.mem_of_getElem? (i := 166) rfl)) rfl, m_gwI (m_in4 (List.mem_of_getElem? (i := 59) rfl)) rfl, m_gwI (m_in4 (List.mem_of_getElem? (i := 60) rfl)) rfl⟩⟩,
  List.forall_mem_cons.mpr ⟨Or.inr ⟨pWa_searchLegs, by decide +kernel, by decide, ⟨m_gwI (m_in5 (List.mem_of_getElem? (i := 36) rfl)) rfl, m_gwI (m_in5 (List.mem_of_getElem? (i := 38) rfl)) rfl, m_gwI (m_pr2 (q := (⟨"SwingCrane$Ways", "searchLegs", "(I)V"⟩, 14)) (List.mem_of_getElem? (i := 15) rfl)) rfl⟩⟩,
  List.forall_mem_cons.mpr ⟨Or.inr ⟨pSe_costTo, by decide +kernel, by decide, ⟨m_gwI (m_in5 (List.mem_of_getElem? (i := 193) rfl)) rfl, m_gwI (m_in5 (List.mem_of_getElem? (i := 194) rfl)) rfl, m_gwI (m_in5 (List.mem_of_getElem? (i := 195) rfl)) rfl⟩⟩,
  List.forall_mem_cons.mpr ⟨Or.inr ⟨pPl_hasColumn, by decide +kernel, by decide, ⟨m_gwI (m_in5 (List.mem_of_getElem? (i := 111) rfl)) rfl, m_gwI (m_in3 (List.mem_of_getElem? (i := 87) rfl)) rfl, m_gwI (m_in3 (List.mem_of_getElem? (i := 88) rfl)) rfl⟩⟩,
  fun _ h => absurd h List.not_mem_nil⟩⟩⟩⟩⟩⟩⟩⟩⟩⟩⟩⟩⟩⟩⟩⟩⟩⟩⟩⟩⟩⟩⟩⟩⟩⟩⟩⟩
set_option maxRecDepth 100000 in
theorem m_C11_ok : ∀ q ∈ m_C11, m_Cp 11 q := List.forall_mem_cons.mpr ⟨Or.inr ⟨pRe_init, by decide +kernel, by decide, ⟨m_gwI (m_in1 (List.mem_of_getElem? (i := 34) rfl)) rfl, m_gwI (m_in1 (List.mem_of_getElem? (i := 35) rfl)) rfl, rfl, rfl⟩⟩,
  List.forall_mem_cons.mpr ⟨Or.inr ⟨pPl_init, by decide +kernel, by decide, ⟨m_gwI (m_in2 (List.mem_of_getElem? (i := 2) rfl)) rfl, m_gwI (m_in1 (List.mem_of_getElem? (i := 41) rfl)) rfl, rfl, rfl⟩⟩,
  List.forall_mem_cons.mpr ⟨Or.inr ⟨pMo_init, by decide +kernel, by decide, ⟨m_gwI (m_in2 (List.mem_of_getElem? (i := 5) rfl)) rfl, m_gwI (m_in2 (List.mem_of_getElem? (i := 6) rfl)) rfl, rfl, rfl⟩⟩,
  List.forall_mem_cons.mpr ⟨Or.inr ⟨pMo_begin, by decide +kernel, by decide, ⟨m_gwI (m_in2 (List.mem_of_getElem? (i := 70) rfl)) rfl, m_gwI (m_in2 (List.mem_of_getElem? (i := 71) rfl)) rfl, m_gwI (m_in2 (List.mem_of_getElem? (i := 72) rfl)) rfl⟩⟩,
  List.forall_mem_cons.mpr ⟨Or.inr ⟨pLo_init, by decide +kernel, by decide, ⟨m_gwI (m_in2 (List.mem_of_getElem? (i := 83) rfl)) rfl, m_gwI (m_in2 (List.mem_of_getElem? (i := 84) rfl)) rfl, rfl, rfl⟩⟩,
  List.forall_mem_cons.mpr ⟨Or.inr ⟨pPa_init, by decide +kernel, by decide, ⟨m_gwI (m_in2 (List.mem_of_getElem? (i := 99) rfl)) rfl, m_gwI (m_in2 (List.mem_of_getElem? (i := 100) rfl)) rfl, rfl, rfl⟩⟩,
  List.forall_mem_cons.mpr ⟨Or.inr ⟨pWa_init, by decide +kernel, by decide, ⟨m_gwI (m_in2 (List.mem_of_getElem? (i := 119) rfl)) rfl, m_gwI (m_in2 (List.mem_of_getElem? (i := 120) rfl)) rfl, rfl, rfl⟩⟩,
  List.forall_mem_cons.mpr ⟨Or.inr ⟨pRo_init, by decide +kernel, by decide, ⟨m_gwI (m_in3 (List.mem_of_getElem? (i := 16) rfl)) rfl, m_gwI (m_in3 (List.mem_of_getElem? (i := 17) rfl)) rfl, rfl, rfl⟩⟩,
  List.forall_mem_cons.mpr ⟨Or.inr ⟨pHa_init, by decide +kernel, by decide, ⟨m_gwI (m_in3 (List.mem_of_getElem? (i := 42) rfl)) rfl, m_gwI (m_in3 (List.mem_of_getElem? (i := 43) rfl)) rfl, rfl, rfl⟩⟩,
  List.forall_mem_cons.mpr ⟨Or.inr ⟨pPo_init, by decide +kernel, by decide, ⟨List.mem_of_getElem? (i := 4) rfl, m_gwI (m_in2 (List.mem_of_getElem? (i := 12) rfl)) rfl, rfl, rfl⟩⟩,
  List.forall_mem_cons.mpr ⟨Or.inr ⟨pWa_changed, by decide +kernel, by decide, ⟨m_gwI (m_in3 (List.mem_of_getElem? (i := 74) rfl)) rfl, m_gwI (m_in3 (List.mem_of_getElem? (i := 75) rfl)) rfl, m_gwI (m_in3 (List.mem_of_getElem? (i := 76) rfl)) rfl⟩⟩,
  List.forall_mem_cons.mpr ⟨Or.inr ⟨pRe_takeBytes, by decide +kernel, by decide, ⟨m_gwI (m_in3 (List.mem_of_getElem? (i := 149) rfl)) rfl, m_gwI (m_in3 (List.mem_of_getElem? (i := 150) rfl)) rfl, m_gwI (m_in3 (List.mem_of_getElem? (i := 151) rfl)) rfl⟩⟩,
  List.forall_mem_cons.mpr ⟨Or.inr ⟨pRe_readTape, by decide +kernel, by decide, ⟨m_gwI (m_in3 (List.mem_of_getElem? (i := 161) rfl)) rfl, m_gwI (m_in3 (List.mem_of_getElem? (i := 162) rfl)) rfl, m_gwI (m_in3 (List.mem_of_getElem? (i := 163) rfl)) rfl⟩⟩,
  List.forall_mem_cons.mpr ⟨Or.inr ⟨pPl_set, by decide +kernel, by decide, ⟨m_gwI (m_in4 (List.mem_of_getElem? (i := 20) rfl)) rfl, m_gwI (m_in4 (List.mem_of_getElem? (i := 21) rfl)) rfl, m_gwI (m_in4 (List.mem_of_getElem? (i := 22) rfl)) rfl⟩⟩,
  List.forall_mem_cons.mpr ⟨Or.inr ⟨pLo_clear, by decide +kernel, by decide, ⟨m_gwI (m_in4 (List.mem_of_getElem? (i := 25) rfl)) rfl, m_gwI (m_in4 (List.mem_of_getElem? (i := 26) rfl)) rfl, m_gwI (m_in4 (List.mem_of_getElem? (i := 27) rfl)) rfl⟩⟩,
  List.forall_mem_cons.mpr ⟨Or.inr ⟨pPa_clear, by decide +kernel, by decide, ⟨m_gwI (m_in4 (List.mem_of_getElem? (i := 29) rfl)) rfl, m_gwI (m_in4 (List.mem_of_getElem? (i := 30) rfl)) rfl, m_gwI (m_in4 (List.mem_of_getElem? (i := 31) rfl)) rfl⟩⟩,
  List.forall_mem_cons.mpr ⟨Or.inr ⟨pPl_spotNamed, by decide +kernel, by decide, ⟨m_gwI (m_in4 (List.mem_of_getElem? (i := 41) rfl)) rfl, m_gwI (m_in3 (List.mem_of_getElem? (i := 232) rfl)) rfl, m_gwI (m_in3 (List.mem_of_getElem? (i := 233) rfl)) rfl⟩⟩,
  List.forall_mem_cons.mpr ⟨Or.inr ⟨pSc_tickBy, by decide +kernel, by decide, ⟨m_gwI (m_in4 (List.mem_of_getElem? (i := 46) rfl)) rfl, m_gwI (m_in4 (List.mem_of_getElem? (i := 48) rfl)) rfl, m_gwI (m_pr2 (q := (⟨"SwingCrane", "tickBy", "(IZ)Z"⟩, 12)) (List.mem_of_getElem? (i := 6) rfl)) rfl⟩⟩,
  List.forall_mem_cons.mpr ⟨Or.inr ⟨pSc_flowOn, by decide +kernel, by decide, ⟨m_gwI (m_in4 (List.mem_of_getElem? (i := 96) rfl)) rfl, m_gwI (m_in4 (List.mem_of_getElem? (i := 98) rfl)) rfl, m_gwI (m_pr2 (q := (⟨"SwingCrane", "flowOn", "()Z"⟩, 12)) (List.mem_of_getElem? (i := 7) rfl)) rfl⟩⟩,
  List.forall_mem_cons.mpr ⟨Or.inr ⟨pPo_load, by decide +kernel, by decide, ⟨m_gwI (m_in6 (List.mem_of_getElem? (i := 130) rfl)) rfl, m_gwI (m_in4 (List.mem_of_getElem? (i := 67) rfl)) rfl, m_gwI (m_in4 (List.mem_of_getElem? (i := 68) rfl)) rfl⟩⟩,
  List.forall_mem_cons.mpr ⟨Or.inr ⟨pPo_isStill, by decide +kernel, by decide, ⟨m_gwI (m_in4 (List.mem_of_getElem? (i := 176) rfl)) rfl, m_gwI (m_in4 (List.mem_of_getElem? (i := 111) rfl)) rfl, m_gwI (m_in4 (List.mem_of_getElem? (i := 112) rfl)) rfl⟩⟩,
  List.forall_mem_cons.mpr ⟨Or.inr ⟨pSp_whyNot, by decide +kernel, by decide, ⟨m_gwI (m_in4 (List.mem_of_getElem? (i := 62) rfl)) rfl, m_gwI (m_in4 (List.mem_of_getElem? (i := 63) rfl)) rfl, m_gwI (m_in4 (List.mem_of_getElem? (i := 64) rfl)) rfl⟩⟩,
  List.forall_mem_cons.mpr ⟨Or.inr ⟨pSc_hangsStill, by decide +kernel, by decide, ⟨m_gwI (m_in4 (List.mem_of_getElem? (i := 172) rfl)) rfl, m_gwI (m_in4 (List.mem_of_getElem? (i := 174) rfl)) rfl, m_gwI (m_pr2 (q := (⟨"SwingCrane", "hangsStill", "()Z"⟩, 12)) (List.mem_of_getElem? (i := 10) rfl)) rfl⟩⟩,
  List.forall_mem_cons.mpr ⟨Or.inr ⟨pPl_hasColumn, by decide +kernel, by decide, ⟨m_gwI (m_in4 (List.mem_of_getElem? (i := 177) rfl)) rfl, m_gwI (m_in3 (List.mem_of_getElem? (i := 87) rfl)) rfl, m_gwI (m_in3 (List.mem_of_getElem? (i := 88) rfl)) rfl⟩⟩,
  List.forall_mem_cons.mpr ⟨Or.inr ⟨pPl_freeOf, by decide +kernel, by decide, ⟨m_gwI (m_in4 (List.mem_of_getElem? (i := 178) rfl)) rfl, m_gwI (m_in3 (List.mem_of_getElem? (i := 83) rfl)) rfl, m_gwI (m_in3 (List.mem_of_getElem? (i := 84) rfl)) rfl⟩⟩,
  List.forall_mem_cons.mpr ⟨Or.inr ⟨pPa_push, by decide +kernel, by decide, ⟨m_gwI (m_in4 (List.mem_of_getElem? (i := 70) rfl)) rfl, m_gwI (m_in4 (List.mem_of_getElem? (i := 71) rfl)) rfl, m_gwI (m_in4 (List.mem_of_getElem? (i := 72) rfl)) rfl⟩⟩,
  List.forall_mem_cons.mpr ⟨Or.inr ⟨pPl_windAt, by decide +kernel, by decide, ⟨m_gwI (m_in4 (List.mem_of_getElem? (i := 54) rfl)) rfl, m_gwI (m_in4 (List.mem_of_getElem? (i := 55) rfl)) rfl, m_gwI (m_in4 (List.mem_of_getElem? (i := 56) rfl)) rfl⟩⟩,
  List.forall_mem_cons.mpr ⟨Or.inr ⟨pSc_whyNot, by decide +kernel, by decide, ⟨m_gwI (m_in4 (List.mem_of_getElem? (i := 205) rfl)) rfl, m_gwI (m_in4 (List.mem_of_getElem? (i := 207) rfl)) rfl, m_gwI (m_pr2 (q := (⟨"SwingCrane", "whyNot", "(I)I"⟩, 12)) (List.mem_of_getElem? (i := 11) rfl)) rfl⟩⟩,
  List.forall_mem_cons.mpr ⟨Or.inr ⟨pPo_set, by decide +kernel, by decide, ⟨m_gwI (m_in4 (List.mem_of_getElem? (i := 50) rfl)) rfl, m_gwI (m_in4 (List.mem_of_getElem? (i := 51) rfl)) rfl, m_gwI (m_in4 (List.mem_of_getElem? (i := 52) rfl)) rfl⟩⟩,
  List.forall_mem_cons.mpr ⟨Or.inr ⟨pPo_move, by decide +kernel, by decide, ⟨m_gwI (m_in4 (List.mem_of_getElem? (i := 58) rfl)) rfl, m_gwI (m_in4 (List.mem_of_getElem? (i := 59) rfl)) rfl, m_gwI (m_in4 (List.mem_of_getElem? (i := 60) rfl)) rfl⟩⟩,
  List.forall_mem_cons.mpr ⟨Or.inr ⟨pPl_hasSpot, by decide +kernel, by decide, ⟨m_gwI (m_in4 (List.mem_of_getElem? (i := 225) rfl)) rfl, m_gwI (m_in4 (List.mem_of_getElem? (i := 226) rfl)) rfl, m_gwI (m_in4 (List.mem_of_getElem? (i := 227) rfl)) rfl⟩⟩,
  List.forall_mem_cons.mpr ⟨Or.inr ⟨pWa_stepsToSpot, by decide +kernel, by decide, ⟨m_gwI (m_in4 (List.mem_of_getElem? (i := 229) rfl)) rfl, m_gwI (m_in4 (List.mem_of_getElem? (i := 230) rfl)) rfl, m_gwI (m_in4 (List.mem_of_getElem? (i := 231) rfl)) rfl⟩⟩,
  List.forall_mem_cons.mpr ⟨Or.inr ⟨pWa_codeOnWay, by decide +kernel, by decide, ⟨m_gwI (m_in5 (List.mem_of_getElem? (i := 10) rfl)) rfl, m_gwI (m_in5 (List.mem_of_getElem? (i := 11) rfl)) rfl, m_gwI (m_in5 (List.mem_of_getElem? (i := 12) rfl)) rfl⟩⟩,
  List.forall_mem_cons.mpr ⟨Or.inr ⟨pWa_stepsHome, by decide +kernel, by decide, ⟨m_gwI (m_in5 (List.mem_of_getElem? (i := 23) rfl)) rfl, m_gwI (m_in4 (List.mem_of_getElem? (i := 115) rfl)) rfl, m_gwI (m_in4 (List.mem_of_getElem? (i := 116) rfl)) rfl⟩⟩,
  List.forall_mem_cons.mpr ⟨Or.inr ⟨pWa_codeHome, by decide +kernel, by decide, ⟨m_gwI (m_in4 (List.mem_of_getElem? (i := 106) rfl)) rfl, m_gwI (m_in4 (List.mem_of_getElem? (i := 107) rfl)) rfl, m_gwI (m_in4 (List.mem_of_getElem? (i := 108) rfl)) rfl⟩⟩,
  List.forall_mem_cons.mpr ⟨Or.inr ⟨pWa_legOf, by decide +kernel, by decide, ⟨m_gwI (m_in5 (List.mem_of_getElem? (i := 32) rfl)) rfl, m_gwI (m_in5 (List.mem_of_getElem? (i := 33) rfl)) rfl, m_gwI (m_in5 (List.mem_of_getElem? (i := 34) rfl)) rfl⟩⟩,
  List.forall_mem_cons.mpr ⟨Or.inr ⟨pRo_fewestInAll, by decide +kernel, by decide, ⟨m_gwI (m_in5 (List.mem_of_getElem? (i := 44) rfl)) rfl, m_gwI (m_in5 (List.mem_of_getElem? (i := 45) rfl)) rfl, m_gwI (m_in5 (List.mem_of_getElem? (i := 46) rfl)) rfl⟩⟩,
  List.forall_mem_cons.mpr ⟨Or.inr ⟨pHa_fromNow, by decide +kernel, by decide, ⟨m_gwI (m_in5 (List.mem_of_getElem? (i := 63) rfl)) rfl, m_gwI (m_in5 (List.mem_of_getElem? (i := 64) rfl)) rfl, m_gwI (m_in5 (List.mem_of_getElem? (i := 65) rfl)) rfl⟩⟩,
  List.forall_mem_cons.mpr ⟨Or.inr ⟨pHa_fewestInAll, by decide +kernel, by decide, ⟨m_gwI (m_in5 (List.mem_of_getElem? (i := 91) rfl)) rfl, m_gwI (m_in5 (List.mem_of_getElem? (i := 92) rfl)) rfl, m_gwI (m_in5 (List.mem_of_getElem? (i := 93) rfl)) rfl⟩⟩,
  List.forall_mem_cons.mpr ⟨Or.inr ⟨pWa_stepsUnderPile, by decide +kernel, by decide, ⟨m_gwI (m_in5 (List.mem_of_getElem? (i := 107) rfl)) rfl, m_gwI (m_in5 (List.mem_of_getElem? (i := 108) rfl)) rfl, m_gwI (m_in5 (List.mem_of_getElem? (i := 109) rfl)) rfl⟩⟩,
  List.forall_mem_cons.mpr ⟨Or.inr ⟨pWa_stepsAtRest, by decide +kernel, by decide, ⟨m_gwI (m_in5 (List.mem_of_getElem? (i := 116) rfl)) rfl, m_gwI (m_in5 (List.mem_of_getElem? (i := 117) rfl)) rfl, m_gwI (m_in5 (List.mem_of_getElem? (i := 118) rfl)) rfl⟩⟩,
  List.forall_mem_cons.mpr ⟨Or.inr ⟨pWa_stepsToRest, by decide +kernel, by decide, ⟨m_gwI (m_in5 (List.mem_of_getElem? (i := 120) rfl)) rfl, m_gwI (m_in5 (List.mem_of_getElem? (i := 75) rfl)) rfl, m_gwI (m_in5 (List.mem_of_getElem? (i := 76) rfl)) rfl⟩⟩,
  List.forall_mem_cons.mpr ⟨Or.inr ⟨pWa_countHoming, by decide +kernel, by decide, ⟨m_gwI (m_in5 (List.mem_of_getElem? (i := 125) rfl)) rfl, m_gwI (m_in5 (List.mem_of_getElem? (i := 126) rfl)) rfl, m_gwI (m_in5 (List.mem_of_getElem? (i := 127) rfl)) rfl⟩⟩,
  List.forall_mem_cons.mpr ⟨Or.inr ⟨pSp_countStates, by decide +kernel, by decide, ⟨m_gwI (m_in5 (List.mem_of_getElem? (i := 133) rfl)) rfl, m_gwI (m_in5 (List.mem_of_getElem? (i := 134) rfl)) rfl, m_gwI (m_in5 (List.mem_of_getElem? (i := 135) rfl)) rfl⟩⟩,
  List.forall_mem_cons.mpr ⟨Or.inr ⟨pSc_bearsWind, by decide +kernel, by decide, ⟨m_gwI (m_in5 (List.mem_of_getElem? (i := 141) rfl)) rfl, m_gwI (m_in5 (List.mem_of_getElem? (i := 143) rfl)) rfl, m_gwI (m_pr3 (q := (⟨"SwingCrane", "bearsWind", "(I)Z"⟩, 12)) (List.mem_of_getElem? (i := 4) rfl)) rfl⟩⟩,
  List.forall_mem_cons.mpr ⟨Or.inr ⟨pSc_isPulse, by decide +kernel, by decide, ⟨m_gwI (m_in5 (List.mem_of_getElem? (i := 149) rfl)) rfl, m_gwI (m_in5 (List.mem_of_getElem? (i := 150) rfl)) rfl⟩⟩,
  List.forall_mem_cons.mpr ⟨Or.inr ⟨pSc_turnAt, by decide +kernel, by decide, ⟨m_gwI (m_in5 (List.mem_of_getElem? (i := 152) rfl)) rfl, m_gwI (m_in5 (List.mem_of_getElem? (i := 153) rfl)) rfl⟩⟩,
  List.forall_mem_cons.mpr ⟨Or.inr ⟨pSc_countPulses, by decide +kernel, by decide, ⟨m_gwI (m_in5 (List.mem_of_getElem? (i := 155) rfl)) rfl, m_gwI (m_in5 (List.mem_of_getElem? (i := 156) rfl)) rfl⟩⟩,
  List.forall_mem_cons.mpr ⟨Or.inr ⟨pWa_stepsBySome, by decide +kernel, by decide, ⟨m_gwI (m_in5 (List.mem_of_getElem? (i := 169) rfl)) rfl, m_gwI (m_in5 (List.mem_of_getElem? (i := 170) rfl)) rfl, m_gwI (m_in5 (List.mem_of_getElem? (i := 171) rfl)) rfl⟩⟩,
  List.forall_mem_cons.mpr ⟨Or.inr ⟨pWa_stepsBehindWind, by decide +kernel, by decide, ⟨m_gwI (m_in5 (List.mem_of_getElem? (i := 177) rfl)) rfl, m_gwI (m_in5 (List.mem_of_getElem? (i := 178) rfl)) rfl, m_gwI (m_in5 (List.mem_of_getElem? (i := 179) rfl)) rfl⟩⟩,
  List.forall_mem_cons.mpr ⟨Or.inr ⟨pWa_pushesTo, by decide +kernel, by decide, ⟨m_gwI (m_in5 (List.mem_of_getElem? (i := 189) rfl)) rfl, m_gwI (m_in5 (List.mem_of_getElem? (i := 190) rfl)) rfl, m_gwI (m_in5 (List.mem_of_getElem? (i := 191) rfl)) rfl⟩⟩,
  List.forall_mem_cons.mpr ⟨Or.inr ⟨pWa_onWay, by decide +kernel, by decide, ⟨m_gwI (m_in5 (List.mem_of_getElem? (i := 214) rfl)) rfl, m_gwI (m_in5 (List.mem_of_getElem? (i := 215) rfl)) rfl, m_gwI (m_in5 (List.mem_of_getElem? (i := 216) rfl)) rfl⟩⟩,
  List.forall_mem_cons.mpr ⟨Or.inr ⟨pLo_shown, by decide +kernel, by decide, ⟨m_gwI (m_in5 (List.mem_of_getElem? (i := 231) rfl)) rfl, m_gwI (m_in5 (List.mem_of_getElem? (i := 232) rfl)) rfl, m_gwI (m_in5 (List.mem_of_getElem? (i := 233) rfl)) rfl⟩⟩,
  List.forall_mem_cons.mpr ⟨Or.inr ⟨pLo_tell, by decide +kernel, by decide, ⟨m_gwI (m_in5 (List.mem_of_getElem? (i := 235) rfl)) rfl, m_gwI (m_in5 (List.mem_of_getElem? (i := 236) rfl)) rfl, m_gwI (m_in5 (List.mem_of_getElem? (i := 237) rfl)) rfl⟩⟩,
  List.forall_mem_cons.mpr ⟨Or.inr ⟨pLo_repeats, by decide +kernel, by decide, ⟨m_gwI (m_in6 (List.mem_of_getElem? (i := 7) rfl)) rfl, m_gwI (m_in6 (List.mem_of_getElem? (i := 8) rfl)) rfl, m_gwI (m_in6 (List.mem_of_getElem? (i := 9) rfl)) rfl⟩⟩,
  List.forall_mem_cons.mpr ⟨Or.inr ⟨pSc_chanceTick, by decide +kernel, by decide, ⟨m_gwI (m_in6 (List.mem_of_getElem? (i := 17) rfl)) rfl, m_gwI (m_in6 (List.mem_of_getElem? (i := 19) rfl)) rfl, m_gwI (m_pr3 (q := (⟨"SwingCrane", "chanceTick", "(I)Z"⟩, 12)) (List.mem_of_getElem? (i := 9) rfl)) rfl⟩⟩,
  List.forall_mem_cons.mpr ⟨Or.inr ⟨pPa_pop, by decide +kernel, by decide, ⟨m_gwI (m_in6 (List.mem_of_getElem? (i := 25) rfl)) rfl, m_gwI (m_in6 (List.mem_of_getElem? (i := 26) rfl)) rfl, m_gwI (m_in6 (List.mem_of_getElem? (i := 27) rfl)) rfl⟩⟩,
  List.forall_mem_cons.mpr ⟨Or.inr ⟨pLo_forget, by decide +kernel, by decide, ⟨m_gwI (m_in6 (List.mem_of_getElem? (i := 29) rfl)) rfl, m_gwI (m_in6 (List.mem_of_getElem? (i := 30) rfl)) rfl, m_gwI (m_in6 (List.mem_of_getElem? (i := 31) rfl)) rfl⟩⟩,
  List.forall_mem_cons.mpr ⟨Or.inr ⟨pWa_moved, by decide +kernel, by decide, ⟨m_gwI (m_in4 (List.mem_of_getElem? (i := 88) rfl)) rfl, m_gwI (m_in4 (List.mem_of_getElem? (i := 89) rfl)) rfl, m_gwI (m_in4 (List.mem_of_getElem? (i := 90) rfl)) rfl⟩⟩,
  List.forall_mem_cons.mpr ⟨Or.inr ⟨pMo_set, by decide +kernel, by decide, ⟨m_gwI (m_in6 (List.mem_of_getElem? (i := 37) rfl)) rfl, m_gwI (m_in4 (List.mem_of_getElem? (i := 75) rfl)) rfl, m_gwI (m_in4 (List.mem_of_getElem? (i := 76) rfl)) rfl⟩⟩,
  List.forall_mem_cons.mpr ⟨Or.inr ⟨pLo_set, by decide +kernel, by decide, ⟨m_gwI (m_in6 (List.mem_of_getElem? (i := 38) rfl)) rfl, m_gwI (m_in6 (List.mem_of_getElem? (i := 39) rfl)) rfl, m_gwI (m_in6 (List.mem_of_getElem? (i := 40) rfl)) rfl⟩⟩,
  List.forall_mem_cons.mpr ⟨Or.inr ⟨pMo_countBoxes, by decide +kernel, by decide, ⟨m_gwI (m_in6 (List.mem_of_getElem? (i := 51) rfl)) rfl, m_gwI (m_in6 (List.mem_of_getElem? (i := 52) rfl)) rfl, m_gwI (m_in6 (List.mem_of_getElem? (i := 53) rfl)) rfl⟩⟩,
  List.forall_mem_cons.mpr ⟨Or.inr ⟨pLo_add, by decide +kernel, by decide, ⟨m_gwI (m_in4 (List.mem_of_getElem? (i := 80) rfl)) rfl, m_gwI (m_in4 (List.mem_of_getElem? (i := 81) rfl)) rfl, m_gwI (m_in4 (List.mem_of_getElem? (i := 82) rfl)) rfl⟩⟩,
  List.forall_mem_cons.mpr ⟨Or.inr ⟨pPl_orderAt, by decide +kernel, by decide, ⟨m_gwI (m_in4 (List.mem_of_getElem? (i := 100) rfl)) rfl, m_gwI (m_in4 (List.mem_of_getElem? (i := 101) rfl)) rfl, m_gwI (m_in4 (List.mem_of_getElem? (i := 102) rfl)) rfl⟩⟩,
  fun _ h => absurd h List.not_mem_nil⟩⟩⟩⟩⟩⟩⟩⟩⟩⟩⟩⟩⟩⟩⟩⟩⟩⟩⟩⟩⟩⟩⟩⟩⟩⟩⟩⟩⟩⟩⟩⟩⟩⟩⟩⟩⟩⟩⟩⟩⟩⟩⟩⟩⟩⟩⟩⟩⟩⟩⟩⟩⟩⟩⟩⟩⟩⟩⟩⟩⟩⟩⟩⟩
set_option maxRecDepth 100000 in
theorem m_C12_ok : ∀ q ∈ m_C12, m_Cp 12 q := List.forall_mem_cons.mpr ⟨Or.inr ⟨pMd_freshText, by decide +kernel, by decide, ⟨m_gwI (m_in6 (List.mem_of_getElem? (i := 154) rfl)) rfl, m_gwI (m_in6 (List.mem_of_getElem? (i := 156) rfl)) rfl, m_gwI (m_pr3 (q := (⟨"SwingCraneModel", "freshText", "()V"⟩, 53)) (List.mem_of_getElem? (i := 11) rfl)) rfl⟩⟩,
  List.forall_mem_cons.mpr ⟨Or.inr ⟨pMd_takeText, by decide +kernel, by decide, ⟨m_gwI (m_in6 (List.mem_of_getElem? (i := 162) rfl)) rfl, m_gwI (m_in6 (List.mem_of_getElem? (i := 164) rfl)) rfl, m_gwI (m_pr3 (q := (⟨"SwingCraneModel", "takeText", "()V"⟩, 53)) (List.mem_of_getElem? (i := 13) rfl)) rfl⟩⟩,
  List.forall_mem_cons.mpr ⟨Or.inr ⟨pMd_begins, by decide +kernel, by decide, ⟨m_gwI (m_in6 (List.mem_of_getElem? (i := 170) rfl)) rfl, m_gwI (m_in6 (List.mem_of_getElem? (i := 172) rfl)) rfl, m_gwI (m_pr3 (q := (⟨"SwingCraneModel", "begins", "()V"⟩, 53)) (List.mem_of_getElem? (i := 15) rfl)) rfl⟩⟩,
  List.forall_mem_cons.mpr ⟨Or.inr ⟨pMd_here, by decide +kernel, by decide, ⟨m_gwI (m_in7 (List.mem_of_getElem? (i := 130) rfl)) rfl, m_gwI (m_in7 (List.mem_of_getElem? (i := 132) rfl)) rfl, m_gwI (m_pr4 (q := (⟨"SwingCraneModel", "here", "()I"⟩, 53)) (List.mem_of_getElem? (i := 5) rfl)) rfl⟩⟩,
  List.forall_mem_cons.mpr ⟨Or.inr ⟨pMd_isSmall, by decide +kernel, by decide, ⟨m_gwI (m_in7 (List.mem_of_getElem? (i := 134) rfl)) rfl, m_gwI (m_in7 (List.mem_of_getElem? (i := 135) rfl)) rfl⟩⟩,
  List.forall_mem_cons.mpr ⟨Or.inr ⟨pMd_wordHere, by decide +kernel, by decide, ⟨m_gwI (m_in7 (List.mem_of_getElem? (i := 137) rfl)) rfl, m_gwI (m_in7 (List.mem_of_getElem? (i := 139) rfl)) rfl, m_gwI (m_pr4 (q := (⟨"SwingCraneModel", "wordHere", "()I"⟩, 53)) (List.mem_of_getElem? (i := 6) rfl)) rfl⟩⟩,
  List.forall_mem_cons.mpr ⟨Or.inr ⟨pMd_nameHere, by decide +kernel, by decide, ⟨m_gwI (m_in7 (List.mem_of_getElem? (i := 144) rfl)) rfl, m_gwI (m_in7 (List.mem_of_getElem? (i := 146) rfl)) rfl, m_gwI (m_pr4 (q := (⟨"SwingCraneModel", "nameHere", "()V"⟩, 53)) (List.mem_of_getElem? (i := 7) rfl)) rfl⟩⟩,
  List.forall_mem_cons.mpr ⟨Or.inr ⟨pMd_isDigit, by decide +kernel, by decide, ⟨m_gwI (m_in7 (List.mem_of_getElem? (i := 148) rfl)) rfl, m_gwI (m_in7 (List.mem_of_getElem? (i := 149) rfl)) rfl⟩⟩,
  List.forall_mem_cons.mpr ⟨Or.inr ⟨pMd_digits, by decide +kernel, by decide, ⟨m_gwI (m_in7 (List.mem_of_getElem? (i := 151) rfl)) rfl, m_gwI (m_in7 (List.mem_of_getElem? (i := 153) rfl)) rfl, m_gwI (m_pr4 (q := (⟨"SwingCraneModel", "digits", "()V"⟩, 53)) (List.mem_of_getElem? (i := 8) rfl)) rfl⟩⟩,
  List.forall_mem_cons.mpr ⟨Or.inr ⟨pMd_token, by decide +kernel, by decide, ⟨m_gwI (m_in7 (List.mem_of_getElem? (i := 126) rfl)) rfl, m_gwI (m_in7 (List.mem_of_getElem? (i := 128) rfl)) rfl, m_gwI (m_pr4 (q := (⟨"SwingCraneModel", "token", "()V"⟩, 53)) (List.mem_of_getElem? (i := 4) rfl)) rfl⟩⟩,
  List.forall_mem_cons.mpr ⟨Or.inr ⟨pMd_wrong, by decide +kernel, by decide, ⟨m_gwI (m_in7 (List.mem_of_getElem? (i := 164) rfl)) rfl, m_gwI (m_in7 (List.mem_of_getElem? (i := 166) rfl)) rfl, m_gwI (m_pr4 (q := (⟨"SwingCraneModel", "wrong", "(I)V"⟩, 53)) (List.mem_of_getElem? (i := 11) rfl)) rfl⟩⟩,
  List.forall_mem_cons.mpr ⟨Or.inr ⟨pMd_goOn, by decide +kernel, by decide, ⟨m_gwI (m_in7 (List.mem_of_getElem? (i := 172) rfl)) rfl, m_gwI (m_in7 (List.mem_of_getElem? (i := 174) rfl)) rfl, m_gwI (m_pr4 (q := (⟨"SwingCraneModel", "goOn", "()V"⟩, 53)) (List.mem_of_getElem? (i := 13) rfl)) rfl⟩⟩,
  List.forall_mem_cons.mpr ⟨Or.inr ⟨pMd_numeralOf, by decide +kernel, by decide, ⟨m_gwI (m_in7 (List.mem_of_getElem? (i := 180) rfl)) rfl, m_gwI (m_in7 (List.mem_of_getElem? (i := 182) rfl)) rfl, m_gwI (m_pr4 (q := (⟨"SwingCraneModel", "numeralOf", "(ZII)I"⟩, 53)) (List.mem_of_getElem? (i := 15) rfl)) rfl⟩⟩,
  List.forall_mem_cons.mpr ⟨Or.inr ⟨pMd_once, by decide +kernel, by decide, ⟨m_gwI (m_in7 (List.mem_of_getElem? (i := 168) rfl)) rfl, m_gwI (m_in7 (List.mem_of_getElem? (i := 170) rfl)) rfl, m_gwI (m_pr4 (q := (⟨"SwingCraneModel", "once", "(I)V"⟩, 53)) (List.mem_of_getElem? (i := 12) rfl)) rfl⟩⟩,
  List.forall_mem_cons.mpr ⟨Or.inr ⟨pMd_numeral, by decide +kernel, by decide, ⟨m_gwI (m_in7 (List.mem_of_getElem? (i := 176) rfl)) rfl, m_gwI (m_in7 (List.mem_of_getElem? (i := 178) rfl)) rfl, m_gwI (m_pr4 (q := (⟨"SwingCraneModel", "numeral", "(II)I"⟩, 53)) (List.mem_of_getElem? (i := 14) rfl)) rfl⟩⟩,
  List.forall_mem_cons.mpr ⟨Or.inr ⟨pMd_reads, by decide +kernel, by decide, ⟨m_gwI (m_in6 (List.mem_of_getElem? (i := 158) rfl)) rfl, m_gwI (m_in6 (List.mem_of_getElem? (i := 160) rfl)) rfl, m_gwI (m_pr3 (q := (⟨"SwingCraneModel", "reads", "(II)V"⟩, 53)) (List.mem_of_getElem? (i := 12) rfl)) rfl⟩⟩,
  List.forall_mem_cons.mpr ⟨Or.inr ⟨pMd_reading, by decide +kernel, by decide, ⟨m_gwI (m_in6 (List.mem_of_getElem? (i := 166) rfl)) rfl, m_gwI (m_in6 (List.mem_of_getElem? (i := 168) rfl)) rfl, m_gwI (m_pr3 (q := (⟨"SwingCraneModel", "reading", "(I)I"⟩, 53)) (List.mem_of_getElem? (i := 14) rfl)) rfl⟩⟩,
  List.forall_mem_cons.mpr ⟨Or.inr ⟨pMd_spotAt, by decide +kernel, by decide, ⟨m_gwI (m_in7 (List.mem_of_getElem? (i := 192) rfl)) rfl, m_gwI (m_in7 (List.mem_of_getElem? (i := 194) rfl)) rfl, m_gwI (m_pr5 (q := (⟨"SwingCraneModel", "spotAt", "(III)I"⟩, 53)) (List.mem_of_getElem? (i := 2) rfl)) rfl⟩⟩,
  List.forall_mem_cons.mpr ⟨Or.inr ⟨pMd_atHand, by decide +kernel, by decide, ⟨m_gwI (m_in7 (List.mem_of_getElem? (i := 212) rfl)) rfl, m_gwI (m_in7 (List.mem_of_getElem? (i := 214) rfl)) rfl, m_gwI (m_pr5 (q := (⟨"SwingCraneModel", "atHand", "(II)I"⟩, 53)) (List.mem_of_getElem? (i := 7) rfl)) rfl⟩⟩,
  List.forall_mem_cons.mpr ⟨Or.inr ⟨pMd_readAhead, by decide +kernel, by decide, ⟨m_gwI (m_in7 (List.mem_of_getElem? (i := 160) rfl)) rfl, m_gwI (m_in7 (List.mem_of_getElem? (i := 162) rfl)) rfl, m_gwI (m_pr4 (q := (⟨"SwingCraneModel", "readAhead", "(IIII)V"⟩, 53)) (List.mem_of_getElem? (i := 10) rfl)) rfl⟩⟩,
  List.forall_mem_cons.mpr ⟨Or.inr ⟨pMd_readBlock, by decide +kernel, by decide, ⟨m_gwI (m_in7 (List.mem_of_getElem? (i := 184) rfl)) rfl, m_gwI (m_in7 (List.mem_of_getElem? (i := 186) rfl)) rfl, m_gwI (m_pr5 (q := (⟨"SwingCraneModel", "readBlock", "()V"⟩, 53)) (List.mem_of_getElem? (i := 0) rfl)) rfl⟩⟩,
  List.forall_mem_cons.mpr ⟨Or.inr ⟨pMd_readSpot, by decide +kernel, by decide, ⟨m_gwI (m_in7 (List.mem_of_getElem? (i := 188) rfl)) rfl, m_gwI (m_in7 (List.mem_of_getElem? (i := 190) rfl)) rfl, m_gwI (m_pr5 (q := (⟨"SwingCraneModel", "readSpot", "()V"⟩, 53)) (List.mem_of_getElem? (i := 1) rfl)) rfl⟩⟩,
  List.forall_mem_cons.mpr ⟨Or.inr ⟨pMd_readStart, by decide +kernel, by decide, ⟨m_gwI (m_in7 (List.mem_of_getElem? (i := 196) rfl)) rfl, m_gwI (m_in7 (List.mem_of_getElem? (i := 198) rfl)) rfl, m_gwI (m_pr5 (q := (⟨"SwingCraneModel", "readStart", "()V"⟩, 53)) (List.mem_of_getElem? (i := 3) rfl)) rfl⟩⟩,
  List.forall_mem_cons.mpr ⟨Or.inr ⟨pMd_readWind, by decide +kernel, by decide, ⟨m_gwI (m_in7 (List.mem_of_getElem? (i := 200) rfl)) rfl, m_gwI (m_in7 (List.mem_of_getElem? (i := 202) rfl)) rfl, m_gwI (m_pr5 (q := (⟨"SwingCraneModel", "readWind", "()V"⟩, 53)) (List.mem_of_getElem? (i := 4) rfl)) rfl⟩⟩,
  List.forall_mem_cons.mpr ⟨Or.inr ⟨pMd_readDo, by decide +kernel, by decide, ⟨m_gwI (m_in7 (List.mem_of_getElem? (i := 204) rfl)) rfl, m_gwI (m_in7 (List.mem_of_getElem? (i := 206) rfl)) rfl, m_gwI (m_pr5 (q := (⟨"SwingCraneModel", "readDo", "()V"⟩, 53)) (List.mem_of_getElem? (i := 5) rfl)) rfl⟩⟩,
  List.forall_mem_cons.mpr ⟨Or.inr ⟨pMd_readPile, by decide +kernel, by decide, ⟨m_gwI (m_in7 (List.mem_of_getElem? (i := 208) rfl)) rfl, m_gwI (m_in7 (List.mem_of_getElem? (i := 210) rfl)) rfl, m_gwI (m_pr5 (q := (⟨"SwingCraneModel", "readPile", "()V"⟩, 53)) (List.mem_of_getElem? (i := 6) rfl)) rfl⟩⟩,
  List.forall_mem_cons.mpr ⟨Or.inr ⟨pMd_readJob, by decide +kernel, by decide, ⟨m_gwI (m_in7 (List.mem_of_getElem? (i := 216) rfl)) rfl, m_gwI (m_in7 (List.mem_of_getElem? (i := 218) rfl)) rfl, m_gwI (m_pr5 (q := (⟨"SwingCraneModel", "readJob", "()V"⟩, 53)) (List.mem_of_getElem? (i := 8) rfl)) rfl⟩⟩,
  List.forall_mem_cons.mpr ⟨Or.inr ⟨pMd_readSeed, by decide +kernel, by decide, ⟨m_gwI (m_in7 (List.mem_of_getElem? (i := 220) rfl)) rfl, m_gwI (m_in7 (List.mem_of_getElem? (i := 222) rfl)) rfl, m_gwI (m_pr5 (q := (⟨"SwingCraneModel", "readSeed", "()V"⟩, 53)) (List.mem_of_getElem? (i := 9) rfl)) rfl⟩⟩,
  List.forall_mem_cons.mpr ⟨Or.inr ⟨pMd_readLine, by decide +kernel, by decide, ⟨m_gwI (m_in7 (List.mem_of_getElem? (i := 156) rfl)) rfl, m_gwI (m_in7 (List.mem_of_getElem? (i := 158) rfl)) rfl, m_gwI (m_pr4 (q := (⟨"SwingCraneModel", "readLine", "()V"⟩, 53)) (List.mem_of_getElem? (i := 9) rfl)) rfl⟩⟩,
  List.forall_mem_cons.mpr ⟨Or.inr ⟨pMd_readText, by decide +kernel, by decide, ⟨m_gwI (m_in7 (List.mem_of_getElem? (i := 122) rfl)) rfl, m_gwI (m_in7 (List.mem_of_getElem? (i := 124) rfl)) rfl, m_gwI (m_pr4 (q := (⟨"SwingCraneModel", "readText", "(I)V"⟩, 53)) (List.mem_of_getElem? (i := 3) rfl)) rfl⟩⟩,
  List.forall_mem_cons.mpr ⟨Or.inr ⟨pMd_without, by decide +kernel, by decide, ⟨m_gwI (m_in8 (List.mem_of_getElem? (i := 55) rfl)) rfl, m_gwI (m_in8 (List.mem_of_getElem? (i := 56) rfl)) rfl⟩⟩,
  List.forall_mem_cons.mpr ⟨Or.inr ⟨pMd_isThere, by decide +kernel, by decide, ⟨m_gwI (m_in8 (List.mem_of_getElem? (i := 16) rfl)) rfl, m_gwI (m_in8 (List.mem_of_getElem? (i := 18) rfl)) rfl, m_gwI (m_pr5 (q := (⟨"SwingCraneModel", "isThere", "(I)Z"⟩, 53)) (List.mem_of_getElem? (i := 12) rfl)) rfl⟩⟩,
  List.forall_mem_cons.mpr ⟨Or.inr ⟨pMd_isClear, by decide +kernel, by decide, ⟨m_gwI (m_in8 (List.mem_of_getElem? (i := 58) rfl)) rfl, m_gwI (m_in8 (List.mem_of_getElem? (i := 60) rfl)) rfl, m_gwI (m_pr6 (q := (⟨"SwingCraneModel", "isClear", "()Z"⟩, 53)) (List.mem_of_getElem? (i := 3) rfl)) rfl⟩⟩,
  List.forall_mem_cons.mpr ⟨Or.inr ⟨pMd_growth, by decide +kernel, by decide, ⟨m_gwI (m_in8 (List.mem_of_getElem? (i := 48) rfl)) rfl, m_gwI (m_in8 (List.mem_of_getElem? (i := 49) rfl)) rfl⟩⟩,
  List.forall_mem_cons.mpr ⟨Or.inr ⟨pMd_whyNot, by decide +kernel, by decide, ⟨m_gwI (m_in8 (List.mem_of_getElem? (i := 51) rfl)) rfl, m_gwI (m_in8 (List.mem_of_getElem? (i := 53) rfl)) rfl, m_gwI (m_pr6 (q := (⟨"SwingCraneModel", "whyNot", "()I"⟩, 53)) (List.mem_of_getElem? (i := 2) rfl)) rfl⟩⟩,
  List.forall_mem_cons.mpr ⟨Or.inr ⟨pMd_numberOf, by decide +kernel, by decide, ⟨m_gwI (m_in6 (List.mem_of_getElem? (i := 178) rfl)) rfl, m_gwI (m_in6 (List.mem_of_getElem? (i := 179) rfl)) rfl⟩⟩,
  List.forall_mem_cons.mpr ⟨Or.inr ⟨pMd_lays, by decide +kernel, by decide, ⟨m_gwI (m_in8 (List.mem_of_getElem? (i := 40) rfl)) rfl, m_gwI (m_in8 (List.mem_of_getElem? (i := 42) rfl)) rfl, m_gwI (m_pr6 (q := (⟨"SwingCraneModel", "lays", "(I)V"⟩, 53)) (List.mem_of_getElem? (i := 0) rfl)) rfl⟩⟩,
  List.forall_mem_cons.mpr ⟨Or.inr ⟨pMd_isState, by decide +kernel, by decide, ⟨m_gwI (m_in8 (List.mem_of_getElem? (i := 90) rfl)) rfl, m_gwI (m_in8 (List.mem_of_getElem? (i := 92) rfl)) rfl, m_gwI (m_pr6 (q := (⟨"SwingCraneModel", "isState", "()Z"⟩, 53)) (List.mem_of_getElem? (i := 10) rfl)) rfl⟩⟩,
  List.forall_mem_cons.mpr ⟨Or.inr ⟨pMd_seeksFrom, by decide +kernel, by decide, ⟨m_gwI (m_in8 (List.mem_of_getElem? (i := 98) rfl)) rfl, m_gwI (m_in8 (List.mem_of_getElem? (i := 100) rfl)) rfl, m_gwI (m_pr6 (q := (⟨"SwingCraneModel", "seeksFrom", "(IZI)V"⟩, 53)) (List.mem_of_getElem? (i := 12) rfl)) rfl⟩⟩,
  List.forall_mem_cons.mpr ⟨Or.inr ⟨pMd_still, by decide +kernel, by decide, ⟨m_gwI (m_in6 (List.mem_of_getElem? (i := 174) rfl)) rfl, m_gwI (m_in6 (List.mem_of_getElem? (i := 176) rfl)) rfl, m_gwI (m_pr4 (q := (⟨"SwingCraneModel", "still", "(II)I"⟩, 53)) (List.mem_of_getElem? (i := 0) rfl)) rfl⟩⟩,
  List.forall_mem_cons.mpr ⟨Or.inr ⟨pMd_doesStand, by decide +kernel, by decide, ⟨m_gwI (m_in8 (List.mem_of_getElem? (i := 86) rfl)) rfl, m_gwI (m_in8 (List.mem_of_getElem? (i := 88) rfl)) rfl, m_gwI (m_pr6 (q := (⟨"SwingCraneModel", "doesStand", "(I)Z"⟩, 53)) (List.mem_of_getElem? (i := 9) rfl)) rfl⟩⟩,
  List.forall_mem_cons.mpr ⟨Or.inr ⟨pMd_adds, by decide +kernel, by decide, ⟨m_gwI (m_in8 (List.mem_of_getElem? (i := 102) rfl)) rfl, m_gwI (m_in8 (List.mem_of_getElem? (i := 104) rfl)) rfl, m_gwI (m_pr6 (q := (⟨"SwingCraneModel", "adds", "(II)V"⟩, 53)) (List.mem_of_getElem? (i := 13) rfl)) rfl⟩⟩,
  List.forall_mem_cons.mpr ⟨Or.inr ⟨pMd_stepsBack, by decide +kernel, by decide, ⟨m_gwI (m_in8 (List.mem_of_getElem? (i := 106) rfl)) rfl, m_gwI (m_in8 (List.mem_of_getElem? (i := 108) rfl)) rfl, m_gwI (m_pr6 (q := (⟨"SwingCraneModel", "stepsBack", "(I)V"⟩, 53)) (List.mem_of_getElem? (i := 14) rfl)) rfl⟩⟩,
  List.forall_mem_cons.mpr ⟨Or.inr ⟨pMd_laid, by decide +kernel, by decide, ⟨m_gwI (m_in8 (List.mem_of_getElem? (i := 62) rfl)) rfl, m_gwI (m_in8 (List.mem_of_getElem? (i := 64) rfl)) rfl, m_gwI (m_pr6 (q := (⟨"SwingCraneModel", "laid", "()I"⟩, 53)) (List.mem_of_getElem? (i := 4) rfl)) rfl⟩⟩,
  List.forall_mem_cons.mpr ⟨Or.inr ⟨pMd_steps, by decide +kernel, by decide, ⟨m_gwI (m_in8 (List.mem_of_getElem? (i := 44) rfl)) rfl, m_gwI (m_in8 (List.mem_of_getElem? (i := 46) rfl)) rfl, m_gwI (m_pr6 (q := (⟨"SwingCraneModel", "steps", "(II)V"⟩, 53)) (List.mem_of_getElem? (i := 1) rfl)) rfl⟩⟩,
  List.forall_mem_cons.mpr ⟨Or.inr ⟨pMd_asItIs, by decide +kernel, by decide, ⟨m_gwI (m_in6 (List.mem_of_getElem? (i := 181) rfl)) rfl, m_gwI (m_in6 (List.mem_of_getElem? (i := 183) rfl)) rfl, m_gwI (m_pr4 (q := (⟨"SwingCraneModel", "asItIs", "()V"⟩, 53)) (List.mem_of_getElem? (i := 1) rfl)) rfl⟩⟩,
  List.forall_mem_cons.mpr ⟨Or.inr ⟨pMd_piles, by decide +kernel, by decide, ⟨m_gwI (m_in6 (List.mem_of_getElem? (i := 185) rfl)) rfl, m_gwI (m_in6 (List.mem_of_getElem? (i := 187) rfl)) rfl, m_gwI (m_pr4 (q := (⟨"SwingCraneModel", "piles", "()V"⟩, 53)) (List.mem_of_getElem? (i := 2) rfl)) rfl⟩⟩,
  List.forall_mem_cons.mpr ⟨Or.inr ⟨pMd_laysKept, by decide +kernel, by decide, ⟨m_gwI (m_in8 (List.mem_of_getElem? (i := 4) rfl)) rfl, m_gwI (m_in8 (List.mem_of_getElem? (i := 6) rfl)) rfl, m_gwI (m_pr5 (q := (⟨"SwingCraneModel", "laysKept", "(I)V"⟩, 53)) (List.mem_of_getElem? (i := 11) rfl)) rfl⟩⟩,
  List.forall_mem_cons.mpr ⟨Or.inr ⟨pMd_laysBack, by decide +kernel, by decide, ⟨m_gwI (m_in7 (List.mem_of_getElem? (i := 236) rfl)) rfl, m_gwI (m_in7 (List.mem_of_getElem? (i := 238) rfl)) rfl, m_gwI (m_pr5 (q := (⟨"SwingCraneModel", "laysBack", "(I)V"⟩, 53)) (List.mem_of_getElem? (i := 10) rfl)) rfl⟩⟩,
  List.forall_mem_cons.mpr ⟨Or.inr ⟨pMd_windAt, by decide +kernel, by decide, ⟨m_gwI (m_in8 (List.mem_of_getElem? (i := 24) rfl)) rfl, m_gwI (m_in8 (List.mem_of_getElem? (i := 26) rfl)) rfl, m_gwI (m_pr5 (q := (⟨"SwingCraneModel", "windAt", "(I)I"⟩, 53)) (List.mem_of_getElem? (i := 13) rfl)) rfl⟩⟩,
  List.forall_mem_cons.mpr ⟨Or.inr ⟨pMd_canStep, by decide +kernel, by decide, ⟨m_gwI (m_in8 (List.mem_of_getElem? (i := 36) rfl)) rfl, m_gwI (m_in8 (List.mem_of_getElem? (i := 38) rfl)) rfl, m_gwI (m_pr5 (q := (⟨"SwingCraneModel", "canStep", "(III)Z"⟩, 53)) (List.mem_of_getElem? (i := 15) rfl)) rfl⟩⟩,
  List.forall_mem_cons.mpr ⟨Or.inr ⟨pMd_remembers, by decide +kernel, by decide, ⟨m_gwI (m_in8 (List.mem_of_getElem? (i := 66) rfl)) rfl, m_gwI (m_in8 (List.mem_of_getElem? (i := 68) rfl)) rfl, m_gwI (m_pr6 (q := (⟨"SwingCraneModel", "remembers", "()V"⟩, 53)) (List.mem_of_getElem? (i := 5) rfl)) rfl⟩⟩,
  List.forall_mem_cons.mpr ⟨Or.inr ⟨pMd_notes, by decide +kernel, by decide, ⟨m_gwI (m_in8 (List.mem_of_getElem? (i := 70) rfl)) rfl, m_gwI (m_in8 (List.mem_of_getElem? (i := 72) rfl)) rfl, m_gwI (m_pr6 (q := (⟨"SwingCraneModel", "notes", "(I)V"⟩, 53)) (List.mem_of_getElem? (i := 6) rfl)) rfl⟩⟩,
  List.forall_mem_cons.mpr ⟨Or.inr ⟨pMd_ticks, by decide +kernel, by decide, ⟨m_gwI (m_in8 (List.mem_of_getElem? (i := 32) rfl)) rfl, m_gwI (m_in8 (List.mem_of_getElem? (i := 34) rfl)) rfl, m_gwI (m_pr5 (q := (⟨"SwingCraneModel", "ticks", "(I)Z"⟩, 53)) (List.mem_of_getElem? (i := 14) rfl)) rfl⟩⟩,
  List.forall_mem_cons.mpr ⟨Or.inr ⟨pMd_seeks, by decide +kernel, by decide, ⟨m_gwI (m_in8 (List.mem_of_getElem? (i := 94) rfl)) rfl, m_gwI (m_in8 (List.mem_of_getElem? (i := 96) rfl)) rfl, m_gwI (m_pr6 (q := (⟨"SwingCraneModel", "seeks", "(IZ)V"⟩, 53)) (List.mem_of_getElem? (i := 11) rfl)) rfl⟩⟩,
  List.forall_mem_cons.mpr ⟨Or.inr ⟨pMd_firstStep, by decide +kernel, by decide, ⟨m_gwI (m_in8 (List.mem_of_getElem? (i := 110) rfl)) rfl, m_gwI (m_in8 (List.mem_of_getElem? (i := 112) rfl)) rfl, m_gwI (m_pr6 (q := (⟨"SwingCraneModel", "firstStep", "(I)I"⟩, 53)) (List.mem_of_getElem? (i := 15) rfl)) rfl⟩⟩,
  List.forall_mem_cons.mpr ⟨Or.inr ⟨pMd_stillStep, by decide +kernel, by decide, ⟨m_gwI (m_in8 (List.mem_of_getElem? (i := 82) rfl)) rfl, m_gwI (m_in8 (List.mem_of_getElem? (i := 84) rfl)) rfl, m_gwI (m_pr6 (q := (⟨"SwingCraneModel", "stillStep", "(I)I"⟩, 53)) (List.mem_of_getElem? (i := 8) rfl)) rfl⟩⟩,
  List.forall_mem_cons.mpr ⟨Or.inr ⟨pMd_codeOf, by decide +kernel, by decide, ⟨m_gwI (m_in8 (List.mem_of_getElem? (i := 78) rfl)) rfl, m_gwI (m_in8 (List.mem_of_getElem? (i := 80) rfl)) rfl, m_gwI (m_pr6 (q := (⟨"SwingCraneModel", "codeOf", "(I)I"⟩, 53)) (List.mem_of_getElem? (i := 7) rfl)) rfl⟩⟩,
  List.forall_mem_cons.mpr ⟨Or.inr ⟨pMd_whyNow, by decide +kernel, by decide, ⟨m_gwI (m_in8 (List.mem_of_getElem? (i := 118) rfl)) rfl, m_gwI (m_in8 (List.mem_of_getElem? (i := 120) rfl)) rfl, m_gwI (m_pr7 (q := (⟨"SwingCraneModel", "whyNow", "()I"⟩, 53)) (List.mem_of_getElem? (i := 0) rfl)) rfl⟩⟩,
  List.forall_mem_cons.mpr ⟨Or.inr ⟨pMd_isStillNow, by decide +kernel, by decide, ⟨m_gwI (m_in8 (List.mem_of_getElem? (i := 122) rfl)) rfl, m_gwI (m_in8 (List.mem_of_getElem? (i := 124) rfl)) rfl, m_gwI (m_pr7 (q := (⟨"SwingCraneModel", "isStillNow", "()Z"⟩, 53)) (List.mem_of_getElem? (i := 1) rfl)) rfl⟩⟩,
  List.forall_mem_cons.mpr ⟨Or.inr ⟨pMd_canGrab, by decide +kernel, by decide, ⟨m_gwI (m_in8 (List.mem_of_getElem? (i := 130) rfl)) rfl, m_gwI (m_in8 (List.mem_of_getElem? (i := 132) rfl)) rfl, m_gwI (m_pr7 (q := (⟨"SwingCraneModel", "canGrab", "()Z"⟩, 53)) (List.mem_of_getElem? (i := 2) rfl)) rfl⟩⟩,
  List.forall_mem_cons.mpr ⟨Or.inr ⟨pMd_takes, by decide +kernel, by decide, ⟨m_gwI (m_in8 (List.mem_of_getElem? (i := 134) rfl)) rfl, m_gwI (m_in8 (List.mem_of_getElem? (i := 136) rfl)) rfl, m_gwI (m_pr7 (q := (⟨"SwingCraneModel", "takes", "(IZ)V"⟩, 53)) (List.mem_of_getElem? (i := 3) rfl)) rfl⟩⟩,
  List.forall_mem_cons.mpr ⟨Or.inr ⟨pMd_canDrop, by decide +kernel, by decide, ⟨m_gwI (m_in8 (List.mem_of_getElem? (i := 142) rfl)) rfl, m_gwI (m_in8 (List.mem_of_getElem? (i := 144) rfl)) rfl, m_gwI (m_pr7 (q := (⟨"SwingCraneModel", "canDrop", "()Z"⟩, 53)) (List.mem_of_getElem? (i := 4) rfl)) rfl⟩⟩,
  List.forall_mem_cons.mpr ⟨Or.inr ⟨pMd_isSpot, by decide +kernel, by decide, ⟨m_gwI (m_in8 (List.mem_of_getElem? (i := 174) rfl)) rfl, m_gwI (m_in8 (List.mem_of_getElem? (i := 176) rfl)) rfl, m_gwI (m_pr7 (q := (⟨"SwingCraneModel", "isSpot", "(I)Z"⟩, 53)) (List.mem_of_getElem? (i := 5) rfl)) rfl⟩⟩,
  List.forall_mem_cons.mpr ⟨Or.inr ⟨pMd_spotState, by decide +kernel, by decide, ⟨m_gwI (m_in8 (List.mem_of_getElem? (i := 178) rfl)) rfl, m_gwI (m_in8 (List.mem_of_getElem? (i := 180) rfl)) rfl, m_gwI (m_pr7 (q := (⟨"SwingCraneModel", "spotState", "(I)I"⟩, 53)) (List.mem_of_getElem? (i := 6) rfl)) rfl⟩⟩,
  List.forall_mem_cons.mpr ⟨Or.inr ⟨pMd_fewestTo, by decide +kernel, by decide, ⟨m_gwI (m_in8 (List.mem_of_getElem? (i := 182) rfl)) rfl, m_gwI (m_in8 (List.mem_of_getElem? (i := 184) rfl)) rfl, m_gwI (m_pr7 (q := (⟨"SwingCraneModel", "fewestTo", "(IZ)I"⟩, 53)) (List.mem_of_getElem? (i := 7) rfl)) rfl⟩⟩,
  List.forall_mem_cons.mpr ⟨Or.inr ⟨pMd_stepped, by decide +kernel, by decide, ⟨m_gwI (m_in8 (List.mem_of_getElem? (i := 194) rfl)) rfl, m_gwI (m_in8 (List.mem_of_getElem? (i := 196) rfl)) rfl, m_gwI (m_pr7 (q := (⟨"SwingCraneModel", "stepped", "(II)I"⟩, 53)) (List.mem_of_getElem? (i := 8) rfl)) rfl⟩⟩,
  List.forall_mem_cons.mpr ⟨Or.inr ⟨pMd_fewestFrom, by decide +kernel, by decide, ⟨m_gwI (m_in8 (List.mem_of_getElem? (i := 210) rfl)) rfl, m_gwI (m_in8 (List.mem_of_getElem? (i := 212) rfl)) rfl, m_gwI (m_pr7 (q := (⟨"SwingCraneModel", "fewestFrom", "(II)I"⟩, 53)) (List.mem_of_getElem? (i := 9) rfl)) rfl⟩⟩,
  List.forall_mem_cons.mpr ⟨Or.inr ⟨pMd_leastLeft, by decide +kernel, by decide, ⟨m_gwI (m_in8 (List.mem_of_getElem? (i := 222) rfl)) rfl, m_gwI (m_in8 (List.mem_of_getElem? (i := 224) rfl)) rfl, m_gwI (m_pr7 (q := (⟨"SwingCraneModel", "leastLeft", "(II)I"⟩, 53)) (List.mem_of_getElem? (i := 11) rfl)) rfl⟩⟩,
  List.forall_mem_cons.mpr ⟨Or.inr ⟨pMd_laysTour, by decide +kernel, by decide, ⟨m_gwI (m_in8 (List.mem_of_getElem? (i := 218) rfl)) rfl, m_gwI (m_in8 (List.mem_of_getElem? (i := 220) rfl)) rfl, m_gwI (m_pr7 (q := (⟨"SwingCraneModel", "laysTour", "()V"⟩, 53)) (List.mem_of_getElem? (i := 10) rfl)) rfl⟩⟩,
  List.forall_mem_cons.mpr ⟨Or.inr ⟨pMd_fewestStanding, by decide +kernel, by decide, ⟨m_gwI (m_in8 (List.mem_of_getElem? (i := 238) rfl)) rfl, m_gwI (m_in9 (List.mem_of_getElem? (i := 0) rfl)) rfl, m_gwI (m_pr7 (q := (⟨"SwingCraneModel", "fewestStanding", "(II)I"⟩, 53)) (List.mem_of_getElem? (i := 13) rfl)) rfl⟩⟩,
  List.forall_mem_cons.mpr ⟨Or.inr ⟨pMd_carries, by decide +kernel, by decide, ⟨m_gwI (m_in8 (List.mem_of_getElem? (i := 234) rfl)) rfl, m_gwI (m_in8 (List.mem_of_getElem? (i := 236) rfl)) rfl, m_gwI (m_pr7 (q := (⟨"SwingCraneModel", "carries", "(III)I"⟩, 53)) (List.mem_of_getElem? (i := 12) rfl)) rfl⟩⟩,
  List.forall_mem_cons.mpr ⟨Or.inr ⟨pMd_inOrder, by decide +kernel, by decide, ⟨m_gwI (m_in9 (List.mem_of_getElem? (i := 14) rfl)) rfl, m_gwI (m_in9 (List.mem_of_getElem? (i := 15) rfl)) rfl⟩⟩,
  List.forall_mem_cons.mpr ⟨Or.inr ⟨pMd_isOrder, by decide +kernel, by decide, ⟨m_gwI (m_in9 (List.mem_of_getElem? (i := 10) rfl)) rfl, m_gwI (m_in9 (List.mem_of_getElem? (i := 12) rfl)) rfl, m_gwI (m_pr7 (q := (⟨"SwingCraneModel", "isOrder", "(I)Z"⟩, 53)) (List.mem_of_getElem? (i := 15) rfl)) rfl⟩⟩,
  List.forall_mem_cons.mpr ⟨Or.inr ⟨pMd_stepsBy, by decide +kernel, by decide, ⟨m_gwI (m_in9 (List.mem_of_getElem? (i := 17) rfl)) rfl, m_gwI (m_in9 (List.mem_of_getElem? (i := 19) rfl)) rfl, m_gwI (m_pr8 (q := (⟨"SwingCraneModel", "stepsBy", "(I)I"⟩, 53)) (List.mem_of_getElem? (i := 0) rfl)) rfl⟩⟩,
  List.forall_mem_cons.mpr ⟨Or.inr ⟨pMd_laysJobs, by decide +kernel, by decide, ⟨m_gwI (m_in9 (List.mem_of_getElem? (i := 6) rfl)) rfl, m_gwI (m_in9 (List.mem_of_getElem? (i := 8) rfl)) rfl, m_gwI (m_pr7 (q := (⟨"SwingCraneModel", "laysJobs", "()V"⟩, 53)) (List.mem_of_getElem? (i := 14) rfl)) rfl⟩⟩,
  List.forall_mem_cons.mpr ⟨Or.inr ⟨pMd_walks, by decide +kernel, by decide, ⟨m_gwI (m_in9 (List.mem_of_getElem? (i := 33) rfl)) rfl, m_gwI (m_in9 (List.mem_of_getElem? (i := 35) rfl)) rfl, m_gwI (m_pr8 (q := (⟨"SwingCraneModel", "walks", "()V"⟩, 53)) (List.mem_of_getElem? (i := 1) rfl)) rfl⟩⟩,
  List.forall_mem_cons.mpr ⟨Or.inr ⟨pMd_isWithin, by decide +kernel, by decide, ⟨m_gwI (m_in9 (List.mem_of_getElem? (i := 41) rfl)) rfl, m_gwI (m_in9 (List.mem_of_getElem? (i := 43) rfl)) rfl, m_gwI (m_pr8 (q := (⟨"SwingCraneModel", "isWithin", "()Z"⟩, 53)) (List.mem_of_getElem? (i := 2) rfl)) rfl⟩⟩,
  List.forall_mem_cons.mpr ⟨Or.inr ⟨pMd_bearsBy, by decide +kernel, by decide, ⟨m_gwI (m_in9 (List.mem_of_getElem? (i := 49) rfl)) rfl, m_gwI (m_in9 (List.mem_of_getElem? (i := 51) rfl)) rfl, m_gwI (m_pr8 (q := (⟨"SwingCraneModel", "bearsBy", "(I)Z"⟩, 53)) (List.mem_of_getElem? (i := 3) rfl)) rfl⟩⟩,
  List.forall_mem_cons.mpr ⟨Or.inr ⟨pMd_pulsesBy, by decide +kernel, by decide, ⟨m_gwI (m_in9 (List.mem_of_getElem? (i := 57) rfl)) rfl, m_gwI (m_in9 (List.mem_of_getElem? (i := 58) rfl)) rfl⟩⟩,
  List.forall_mem_cons.mpr ⟨Or.inr ⟨pMd_empties, by decide +kernel, by decide, ⟨m_gwI (m_in9 (List.mem_of_getElem? (i := 72) rfl)) rfl, m_gwI (m_in9 (List.mem_of_getElem? (i := 74) rfl)) rfl, m_gwI (m_pr8 (q := (⟨"SwingCraneModel", "empties", "()V"⟩, 53)) (List.mem_of_getElem? (i := 5) rfl)) rfl⟩⟩,
  List.forall_mem_cons.mpr ⟨Or.inr ⟨pMd_deeds, by decide +kernel, by decide, ⟨m_gwI (m_in9 (List.mem_of_getElem? (i := 76) rfl)) rfl, m_gwI (m_in9 (List.mem_of_getElem? (i := 77) rfl)) rfl⟩⟩,
  List.forall_mem_cons.mpr ⟨Or.inr ⟨pMd_greater, by decide +kernel, by decide, ⟨m_gwI (m_in9 (List.mem_of_getElem? (i := 79) rfl)) rfl, m_gwI (m_in9 (List.mem_of_getElem? (i := 81) rfl)) rfl, m_gwI (m_pr8 (q := (⟨"SwingCraneModel", "greater", "(II)I"⟩, 53)) (List.mem_of_getElem? (i := 6) rfl)) rfl⟩⟩,
  List.forall_mem_cons.mpr ⟨Or.inr ⟨pMd_seeksDeeds, by decide +kernel, by decide, ⟨m_gwI (m_in9 (List.mem_of_getElem? (i := 68) rfl)) rfl, m_gwI (m_in9 (List.mem_of_getElem? (i := 70) rfl)) rfl, m_gwI (m_pr8 (q := (⟨"SwingCraneModel", "seeksDeeds", "(I)V"⟩, 53)) (List.mem_of_getElem? (i := 4) rfl)) rfl⟩⟩,
  List.forall_mem_cons.mpr ⟨Or.inr ⟨pMd_isSteady, by decide +kernel, by decide, ⟨m_gwI (m_in9 (List.mem_of_getElem? (i := 95) rfl)) rfl, m_gwI (m_in9 (List.mem_of_getElem? (i := 97) rfl)) rfl, m_gwI (m_pr8 (q := (⟨"SwingCraneModel", "isSteady", "(III)Z"⟩, 53)) (List.mem_of_getElem? (i := 7) rfl)) rfl⟩⟩,
  List.forall_mem_cons.mpr ⟨Or.inr ⟨pMd_draw, by decide +kernel, by decide, ⟨m_gwI (m_in9 (List.mem_of_getElem? (i := 115) rfl)) rfl, m_gwI (m_in9 (List.mem_of_getElem? (i := 117) rfl)) rfl, m_gwI (m_pr8 (q := (⟨"SwingCraneModel", "draw", "(I)I"⟩, 53)) (List.mem_of_getElem? (i := 8) rfl)) rfl⟩⟩,
  fun _ h => absurd h List.not_mem_nil⟩⟩⟩⟩⟩⟩⟩⟩⟩⟩⟩⟩⟩⟩⟩⟩⟩⟩⟩⟩⟩⟩⟩⟩⟩⟩⟩⟩⟩⟩⟩⟩⟩⟩⟩⟩⟩⟩⟩⟩⟩⟩⟩⟩⟩⟩⟩⟩⟩⟩⟩⟩⟩⟩⟩⟩⟩⟩⟩⟩⟩⟩⟩⟩⟩⟩⟩⟩⟩⟩⟩⟩⟩⟩⟩⟩⟩⟩⟩⟩⟩⟩⟩⟩⟩⟩
set_option maxRecDepth 100000 in
theorem m_C13_ok : ∀ q ∈ m_C13, m_Cp 13 q := List.forall_mem_cons.mpr ⟨Or.inr ⟨pSc_now, by decide +kernel, by decide, ⟨m_gwI (m_in6 (List.mem_of_getElem? (i := 60) rfl)) rfl, m_gwI (m_in6 (List.mem_of_getElem? (i := 61) rfl)) rfl, m_gwI (m_in6 (List.mem_of_getElem? (i := 62) rfl)) rfl⟩⟩,
  List.forall_mem_cons.mpr ⟨Or.inr ⟨pSc_init, by decide +kernel, by decide, ⟨m_gwI (m_in1 (List.mem_of_getElem? (i := 26) rfl)) rfl, m_gwI (m_in1 (List.mem_of_getElem? (i := 27) rfl)) rfl, rfl, rfl⟩⟩,
  List.forall_mem_cons.mpr ⟨Or.inr ⟨pMd_init, by decide +kernel, by decide, ⟨m_gwI (m_in6 (List.mem_of_getElem? (i := 149) rfl)) rfl, m_gwI (m_in6 (List.mem_of_getElem? (i := 150) rfl)) rfl, rfl, rfl⟩⟩,
  List.forall_mem_cons.mpr ⟨Or.inr ⟨pSc_feed, by decide +kernel, by decide, ⟨m_gwI (m_in3 (List.mem_of_getElem? (i := 145) rfl)) rfl, m_gwI (m_in3 (List.mem_of_getElem? (i := 146) rfl)) rfl, m_gwI (m_in3 (List.mem_of_getElem? (i := 147) rfl)) rfl⟩⟩,
  List.forall_mem_cons.mpr ⟨Or.inr ⟨pMd_feed, by decide +kernel, by decide, ⟨m_gwI (m_in7 (List.mem_of_getElem? (i := 114) rfl)) rfl, m_gwI (m_in7 (List.mem_of_getElem? (i := 115) rfl)) rfl, m_gwI (m_in7 (List.mem_of_getElem? (i := 116) rfl)) rfl⟩⟩,
  List.forall_mem_cons.mpr ⟨Or.inr ⟨pSc_text, by decide +kernel, by decide, ⟨m_gwI (m_in3 (List.mem_of_getElem? (i := 157) rfl)) rfl, m_gwI (m_in3 (List.mem_of_getElem? (i := 158) rfl)) rfl, m_gwI (m_in3 (List.mem_of_getElem? (i := 159) rfl)) rfl⟩⟩,
  List.forall_mem_cons.mpr ⟨Or.inr ⟨pMd_text, by decide +kernel, by decide, ⟨m_gwI (m_in7 (List.mem_of_getElem? (i := 118) rfl)) rfl, m_gwI (m_in7 (List.mem_of_getElem? (i := 119) rfl)) rfl, m_gwI (m_in7 (List.mem_of_getElem? (i := 120) rfl)) rfl⟩⟩,
  List.forall_mem_cons.mpr ⟨Or.inr ⟨pSc_fault, by decide +kernel, by decide, ⟨m_gwI (m_in4 (List.mem_of_getElem? (i := 33) rfl)) rfl, m_gwI (m_in4 (List.mem_of_getElem? (i := 34) rfl)) rfl, m_gwI (m_in4 (List.mem_of_getElem? (i := 35) rfl)) rfl⟩⟩,
  List.forall_mem_cons.mpr ⟨Or.inr ⟨pMd_fault, by decide +kernel, by decide, ⟨m_gwI (m_in7 (List.mem_of_getElem? (i := 224) rfl)) rfl, m_gwI (m_in7 (List.mem_of_getElem? (i := 225) rfl)) rfl, m_gwI (m_in7 (List.mem_of_getElem? (i := 226) rfl)) rfl⟩⟩,
  List.forall_mem_cons.mpr ⟨Or.inr ⟨pSc_named, by decide +kernel, by decide, ⟨m_gwI (m_in4 (List.mem_of_getElem? (i := 37) rfl)) rfl, m_gwI (m_in4 (List.mem_of_getElem? (i := 38) rfl)) rfl, m_gwI (m_in4 (List.mem_of_getElem? (i := 39) rfl)) rfl⟩⟩,
  List.forall_mem_cons.mpr ⟨Or.inr ⟨pMd_named, by decide +kernel, by decide, ⟨m_gwI (m_in7 (List.mem_of_getElem? (i := 228) rfl)) rfl, m_gwI (m_in7 (List.mem_of_getElem? (i := 229) rfl)) rfl, m_gwI (m_in7 (List.mem_of_getElem? (i := 230) rfl)) rfl⟩⟩,
  List.forall_mem_cons.mpr ⟨Or.inr ⟨pSc_step, by decide +kernel, by decide, ⟨m_gwI (m_in4 (List.mem_of_getElem? (i := 42) rfl)) rfl, m_gwI (m_in4 (List.mem_of_getElem? (i := 43) rfl)) rfl, m_gwI (m_in4 (List.mem_of_getElem? (i := 44) rfl)) rfl⟩⟩,
  List.forall_mem_cons.mpr ⟨Or.inr ⟨pMd_step, by decide +kernel, by decide, ⟨m_gwI (m_in8 (List.mem_of_getElem? (i := 28) rfl)) rfl, m_gwI (m_in8 (List.mem_of_getElem? (i := 29) rfl)) rfl, m_gwI (m_in8 (List.mem_of_getElem? (i := 30) rfl)) rfl⟩⟩,
  List.forall_mem_cons.mpr ⟨Or.inr ⟨pSc_flow, by decide +kernel, by decide, ⟨m_gwI (m_in4 (List.mem_of_getElem? (i := 92) rfl)) rfl, m_gwI (m_in4 (List.mem_of_getElem? (i := 93) rfl)) rfl, m_gwI (m_in4 (List.mem_of_getElem? (i := 94) rfl)) rfl⟩⟩,
  List.forall_mem_cons.mpr ⟨Or.inr ⟨pMd_flow, by decide +kernel, by decide, ⟨m_gwI (m_in8 (List.mem_of_getElem? (i := 74) rfl)) rfl, m_gwI (m_in8 (List.mem_of_getElem? (i := 75) rfl)) rfl, m_gwI (m_in8 (List.mem_of_getElem? (i := 76) rfl)) rfl⟩⟩,
  List.forall_mem_cons.mpr ⟨Or.inl rfl,
  List.forall_mem_cons.mpr ⟨Or.inr ⟨pMd_now, by decide +kernel, by decide, ⟨m_gwI (m_in8 (List.mem_of_getElem? (i := 114) rfl)) rfl, m_gwI (m_in8 (List.mem_of_getElem? (i := 115) rfl)) rfl, m_gwI (m_in8 (List.mem_of_getElem? (i := 116) rfl)) rfl⟩⟩,
  List.forall_mem_cons.mpr ⟨Or.inr ⟨pMd_thrown, by decide +kernel, by decide, ⟨m_gwI (m_in7 (List.mem_of_getElem? (i := 110) rfl)) rfl, m_gwI (m_in7 (List.mem_of_getElem? (i := 111) rfl)) rfl, m_gwI (m_in7 (List.mem_of_getElem? (i := 112) rfl)) rfl⟩⟩,
  List.forall_mem_cons.mpr ⟨Or.inr ⟨pSc_grab, by decide +kernel, by decide, ⟨m_gwI (m_in4 (List.mem_of_getElem? (i := 168) rfl)) rfl, m_gwI (m_in4 (List.mem_of_getElem? (i := 169) rfl)) rfl, m_gwI (m_in4 (List.mem_of_getElem? (i := 170) rfl)) rfl⟩⟩,
  List.forall_mem_cons.mpr ⟨Or.inr ⟨pMd_grab, by decide +kernel, by decide, ⟨m_gwI (m_in8 (List.mem_of_getElem? (i := 126) rfl)) rfl, m_gwI (m_in8 (List.mem_of_getElem? (i := 127) rfl)) rfl, m_gwI (m_in8 (List.mem_of_getElem? (i := 128) rfl)) rfl⟩⟩,
  List.forall_mem_cons.mpr ⟨Or.inr ⟨pSc_drop, by decide +kernel, by decide, ⟨m_gwI (m_in4 (List.mem_of_getElem? (i := 179) rfl)) rfl, m_gwI (m_in4 (List.mem_of_getElem? (i := 180) rfl)) rfl, m_gwI (m_in4 (List.mem_of_getElem? (i := 181) rfl)) rfl⟩⟩,
  List.forall_mem_cons.mpr ⟨Or.inr ⟨pMd_drop, by decide +kernel, by decide, ⟨m_gwI (m_in8 (List.mem_of_getElem? (i := 138) rfl)) rfl, m_gwI (m_in8 (List.mem_of_getElem? (i := 139) rfl)) rfl, m_gwI (m_in8 (List.mem_of_getElem? (i := 140) rfl)) rfl⟩⟩,
  List.forall_mem_cons.mpr ⟨Or.inr ⟨pSc_pile, by decide +kernel, by decide, ⟨m_gwI (m_in4 (List.mem_of_getElem? (i := 183) rfl)) rfl, m_gwI (m_in4 (List.mem_of_getElem? (i := 184) rfl)) rfl, m_gwI (m_in4 (List.mem_of_getElem? (i := 185) rfl)) rfl⟩⟩,
  List.forall_mem_cons.mpr ⟨Or.inr ⟨pMd_pile, by decide +kernel, by decide, ⟨m_gwI (m_in8 (List.mem_of_getElem? (i := 146) rfl)) rfl, m_gwI (m_in8 (List.mem_of_getElem? (i := 147) rfl)) rfl, m_gwI (m_in8 (List.mem_of_getElem? (i := 148) rfl)) rfl⟩⟩,
  List.forall_mem_cons.mpr ⟨Or.inr ⟨pSc_free, by decide +kernel, by decide, ⟨m_gwI (m_in4 (List.mem_of_getElem? (i := 187) rfl)) rfl, m_gwI (m_in4 (List.mem_of_getElem? (i := 188) rfl)) rfl, m_gwI (m_in4 (List.mem_of_getElem? (i := 189) rfl)) rfl⟩⟩,
  List.forall_mem_cons.mpr ⟨Or.inr ⟨pMd_free, by decide +kernel, by decide, ⟨m_gwI (m_in8 (List.mem_of_getElem? (i := 150) rfl)) rfl, m_gwI (m_in8 (List.mem_of_getElem? (i := 151) rfl)) rfl, m_gwI (m_in8 (List.mem_of_getElem? (i := 152) rfl)) rfl⟩⟩,
  List.forall_mem_cons.mpr ⟨Or.inr ⟨pSc_gap, by decide +kernel, by decide, ⟨m_gwI (m_in4 (List.mem_of_getElem? (i := 191) rfl)) rfl, m_gwI (m_in4 (List.mem_of_getElem? (i := 192) rfl)) rfl, m_gwI (m_in4 (List.mem_of_getElem? (i := 193) rfl)) rfl⟩⟩,
  List.forall_mem_cons.mpr ⟨Or.inr ⟨pMd_gap, by decide +kernel, by decide, ⟨m_gwI (m_in8 (List.mem_of_getElem? (i := 12) rfl)) rfl, m_gwI (m_in8 (List.mem_of_getElem? (i := 13) rfl)) rfl, m_gwI (m_in8 (List.mem_of_getElem? (i := 14) rfl)) rfl⟩⟩,
  List.forall_mem_cons.mpr ⟨Or.inr ⟨pSc_wind, by decide +kernel, by decide, ⟨m_gwI (m_in4 (List.mem_of_getElem? (i := 197) rfl)) rfl, m_gwI (m_in4 (List.mem_of_getElem? (i := 198) rfl)) rfl, m_gwI (m_in4 (List.mem_of_getElem? (i := 199) rfl)) rfl⟩⟩,
  List.forall_mem_cons.mpr ⟨Or.inr ⟨pMd_wind, by decide +kernel, by decide, ⟨m_gwI (m_in8 (List.mem_of_getElem? (i := 20) rfl)) rfl, m_gwI (m_in8 (List.mem_of_getElem? (i := 21) rfl)) rfl, m_gwI (m_in8 (List.mem_of_getElem? (i := 22) rfl)) rfl⟩⟩,
  List.forall_mem_cons.mpr ⟨Or.inr ⟨pSc_why, by decide +kernel, by decide, ⟨m_gwI (m_in4 (List.mem_of_getElem? (i := 201) rfl)) rfl, m_gwI (m_in4 (List.mem_of_getElem? (i := 202) rfl)) rfl, m_gwI (m_in4 (List.mem_of_getElem? (i := 203) rfl)) rfl⟩⟩,
  List.forall_mem_cons.mpr ⟨Or.inr ⟨pMd_why, by decide +kernel, by decide, ⟨m_gwI (m_in8 (List.mem_of_getElem? (i := 154) rfl)) rfl, m_gwI (m_in8 (List.mem_of_getElem? (i := 155) rfl)) rfl, m_gwI (m_in8 (List.mem_of_getElem? (i := 156) rfl)) rfl⟩⟩,
  List.forall_mem_cons.mpr ⟨Or.inr ⟨pSc_can, by decide +kernel, by decide, ⟨m_gwI (m_in4 (List.mem_of_getElem? (i := 209) rfl)) rfl, m_gwI (m_in4 (List.mem_of_getElem? (i := 210) rfl)) rfl, m_gwI (m_in4 (List.mem_of_getElem? (i := 211) rfl)) rfl⟩⟩,
  List.forall_mem_cons.mpr ⟨Or.inr ⟨pMd_can, by decide +kernel, by decide, ⟨m_gwI (m_in8 (List.mem_of_getElem? (i := 158) rfl)) rfl, m_gwI (m_in8 (List.mem_of_getElem? (i := 159) rfl)) rfl, m_gwI (m_in8 (List.mem_of_getElem? (i := 160) rfl)) rfl⟩⟩,
  List.forall_mem_cons.mpr ⟨Or.inr ⟨pSc_sway, by decide +kernel, by decide, ⟨m_gwI (m_in4 (List.mem_of_getElem? (i := 213) rfl)) rfl, m_gwI (m_in4 (List.mem_of_getElem? (i := 214) rfl)) rfl, m_gwI (m_in4 (List.mem_of_getElem? (i := 215) rfl)) rfl⟩⟩,
  List.forall_mem_cons.mpr ⟨Or.inr ⟨pMd_sway, by decide +kernel, by decide, ⟨m_gwI (m_in8 (List.mem_of_getElem? (i := 162) rfl)) rfl, m_gwI (m_in8 (List.mem_of_getElem? (i := 163) rfl)) rfl, m_gwI (m_in8 (List.mem_of_getElem? (i := 164) rfl)) rfl⟩⟩,
  List.forall_mem_cons.mpr ⟨Or.inr ⟨pSc_drift, by decide +kernel, by decide, ⟨m_gwI (m_in4 (List.mem_of_getElem? (i := 217) rfl)) rfl, m_gwI (m_in4 (List.mem_of_getElem? (i := 218) rfl)) rfl, m_gwI (m_in4 (List.mem_of_getElem? (i := 219) rfl)) rfl⟩⟩,
  List.forall_mem_cons.mpr ⟨Or.inr ⟨pMd_drift, by decide +kernel, by decide, ⟨m_gwI (m_in8 (List.mem_of_getElem? (i := 166) rfl)) rfl, m_gwI (m_in8 (List.mem_of_getElem? (i := 167) rfl)) rfl, m_gwI (m_in8 (List.mem_of_getElem? (i := 168) rfl)) rfl⟩⟩,
  List.forall_mem_cons.mpr ⟨Or.inr ⟨pSc_fewest, by decide +kernel, by decide, ⟨m_gwI (m_in4 (List.mem_of_getElem? (i := 221) rfl)) rfl, m_gwI (m_in4 (List.mem_of_getElem? (i := 222) rfl)) rfl, m_gwI (m_in4 (List.mem_of_getElem? (i := 223) rfl)) rfl⟩⟩,
  List.forall_mem_cons.mpr ⟨Or.inr ⟨pMd_fewest, by decide +kernel, by decide, ⟨m_gwI (m_in8 (List.mem_of_getElem? (i := 170) rfl)) rfl, m_gwI (m_in8 (List.mem_of_getElem? (i := 171) rfl)) rfl, m_gwI (m_in8 (List.mem_of_getElem? (i := 172) rfl)) rfl⟩⟩,
  List.forall_mem_cons.mpr ⟨Or.inr ⟨pSc_by, by decide +kernel, by decide, ⟨m_gwI (m_in5 (List.mem_of_getElem? (i := 6) rfl)) rfl, m_gwI (m_in5 (List.mem_of_getElem? (i := 7) rfl)) rfl, m_gwI (m_in5 (List.mem_of_getElem? (i := 8) rfl)) rfl⟩⟩,
  List.forall_mem_cons.mpr ⟨Or.inr ⟨pMd_by, by decide +kernel, by decide, ⟨m_gwI (m_in8 (List.mem_of_getElem? (i := 190) rfl)) rfl, m_gwI (m_in8 (List.mem_of_getElem? (i := 191) rfl)) rfl, m_gwI (m_in8 (List.mem_of_getElem? (i := 192) rfl)) rfl⟩⟩,
  List.forall_mem_cons.mpr ⟨Or.inr ⟨pSc_halt, by decide +kernel, by decide, ⟨m_gwI (m_in5 (List.mem_of_getElem? (i := 19) rfl)) rfl, m_gwI (m_in5 (List.mem_of_getElem? (i := 20) rfl)) rfl, m_gwI (m_in5 (List.mem_of_getElem? (i := 21) rfl)) rfl⟩⟩,
  List.forall_mem_cons.mpr ⟨Or.inr ⟨pMd_halt, by decide +kernel, by decide, ⟨m_gwI (m_in8 (List.mem_of_getElem? (i := 198) rfl)) rfl, m_gwI (m_in8 (List.mem_of_getElem? (i := 199) rfl)) rfl, m_gwI (m_in8 (List.mem_of_getElem? (i := 200) rfl)) rfl⟩⟩,
  List.forall_mem_cons.mpr ⟨Or.inr ⟨pSc_rests, by decide +kernel, by decide, ⟨m_gwI (m_in5 (List.mem_of_getElem? (i := 24) rfl)) rfl, m_gwI (m_in5 (List.mem_of_getElem? (i := 25) rfl)) rfl, m_gwI (m_in5 (List.mem_of_getElem? (i := 26) rfl)) rfl⟩⟩,
  List.forall_mem_cons.mpr ⟨Or.inr ⟨pMd_rests, by decide +kernel, by decide, ⟨m_gwI (m_in8 (List.mem_of_getElem? (i := 202) rfl)) rfl, m_gwI (m_in8 (List.mem_of_getElem? (i := 203) rfl)) rfl, m_gwI (m_in8 (List.mem_of_getElem? (i := 204) rfl)) rfl⟩⟩,
  List.forall_mem_cons.mpr ⟨Or.inr ⟨pSc_between, by decide +kernel, by decide, ⟨m_gwI (m_in5 (List.mem_of_getElem? (i := 28) rfl)) rfl, m_gwI (m_in5 (List.mem_of_getElem? (i := 29) rfl)) rfl, m_gwI (m_in5 (List.mem_of_getElem? (i := 30) rfl)) rfl⟩⟩,
  List.forall_mem_cons.mpr ⟨Or.inr ⟨pMd_between, by decide +kernel, by decide, ⟨m_gwI (m_in8 (List.mem_of_getElem? (i := 206) rfl)) rfl, m_gwI (m_in8 (List.mem_of_getElem? (i := 207) rfl)) rfl, m_gwI (m_in8 (List.mem_of_getElem? (i := 208) rfl)) rfl⟩⟩,
  List.forall_mem_cons.mpr ⟨Or.inr ⟨pSc_tour, by decide +kernel, by decide, ⟨m_gwI (m_in5 (List.mem_of_getElem? (i := 40) rfl)) rfl, m_gwI (m_in5 (List.mem_of_getElem? (i := 41) rfl)) rfl, m_gwI (m_in5 (List.mem_of_getElem? (i := 42) rfl)) rfl⟩⟩,
  List.forall_mem_cons.mpr ⟨Or.inr ⟨pMd_tour, by decide +kernel, by decide, ⟨m_gwI (m_in8 (List.mem_of_getElem? (i := 214) rfl)) rfl, m_gwI (m_in8 (List.mem_of_getElem? (i := 215) rfl)) rfl, m_gwI (m_in8 (List.mem_of_getElem? (i := 216) rfl)) rfl⟩⟩,
  List.forall_mem_cons.mpr ⟨Or.inr ⟨pSc_stop, by decide +kernel, by decide, ⟨m_gwI (m_in5 (List.mem_of_getElem? (i := 55) rfl)) rfl, m_gwI (m_in5 (List.mem_of_getElem? (i := 56) rfl)) rfl, m_gwI (m_in5 (List.mem_of_getElem? (i := 57) rfl)) rfl⟩⟩,
  List.forall_mem_cons.mpr ⟨Or.inr ⟨pMd_stop, by decide +kernel, by decide, ⟨m_gwI (m_in8 (List.mem_of_getElem? (i := 226) rfl)) rfl, m_gwI (m_in8 (List.mem_of_getElem? (i := 227) rfl)) rfl, m_gwI (m_in8 (List.mem_of_getElem? (i := 228) rfl)) rfl⟩⟩,
  List.forall_mem_cons.mpr ⟨Or.inr ⟨pSc_carry, by decide +kernel, by decide, ⟨m_gwI (m_in5 (List.mem_of_getElem? (i := 59) rfl)) rfl, m_gwI (m_in5 (List.mem_of_getElem? (i := 60) rfl)) rfl, m_gwI (m_in5 (List.mem_of_getElem? (i := 61) rfl)) rfl⟩⟩,
  List.forall_mem_cons.mpr ⟨Or.inr ⟨pMd_carry, by decide +kernel, by decide, ⟨m_gwI (m_in8 (List.mem_of_getElem? (i := 230) rfl)) rfl, m_gwI (m_in8 (List.mem_of_getElem? (i := 231) rfl)) rfl, m_gwI (m_in8 (List.mem_of_getElem? (i := 232) rfl)) rfl⟩⟩,
  List.forall_mem_cons.mpr ⟨Or.inr ⟨pSc_jobs, by decide +kernel, by decide, ⟨m_gwI (m_in5 (List.mem_of_getElem? (i := 87) rfl)) rfl, m_gwI (m_in5 (List.mem_of_getElem? (i := 88) rfl)) rfl, m_gwI (m_in5 (List.mem_of_getElem? (i := 89) rfl)) rfl⟩⟩,
  List.forall_mem_cons.mpr ⟨Or.inr ⟨pMd_jobs, by decide +kernel, by decide, ⟨m_gwI (m_in9 (List.mem_of_getElem? (i := 2) rfl)) rfl, m_gwI (m_in9 (List.mem_of_getElem? (i := 3) rfl)) rfl, m_gwI (m_in9 (List.mem_of_getElem? (i := 4) rfl)) rfl⟩⟩,
  List.forall_mem_cons.mpr ⟨Or.inr ⟨pSc_job, by decide +kernel, by decide, ⟨m_gwI (m_in5 (List.mem_of_getElem? (i := 99) rfl)) rfl, m_gwI (m_in5 (List.mem_of_getElem? (i := 100) rfl)) rfl, m_gwI (m_in5 (List.mem_of_getElem? (i := 101) rfl)) rfl⟩⟩,
  List.forall_mem_cons.mpr ⟨Or.inr ⟨pMd_job, by decide +kernel, by decide, ⟨m_gwI (m_in9 (List.mem_of_getElem? (i := 21) rfl)) rfl, m_gwI (m_in9 (List.mem_of_getElem? (i := 22) rfl)) rfl, m_gwI (m_in9 (List.mem_of_getElem? (i := 23) rfl)) rfl⟩⟩,
  List.forall_mem_cons.mpr ⟨Or.inr ⟨pSc_ifPile, by decide +kernel, by decide, ⟨m_gwI (m_in5 (List.mem_of_getElem? (i := 103) rfl)) rfl, m_gwI (m_in5 (List.mem_of_getElem? (i := 104) rfl)) rfl, m_gwI (m_in5 (List.mem_of_getElem? (i := 105) rfl)) rfl⟩⟩,
  List.forall_mem_cons.mpr ⟨Or.inr ⟨pMd_ifPile, by decide +kernel, by decide, ⟨m_gwI (m_in9 (List.mem_of_getElem? (i := 25) rfl)) rfl, m_gwI (m_in9 (List.mem_of_getElem? (i := 26) rfl)) rfl, m_gwI (m_in9 (List.mem_of_getElem? (i := 27) rfl)) rfl⟩⟩,
  List.forall_mem_cons.mpr ⟨Or.inr ⟨pSc_reach, by decide +kernel, by decide, ⟨m_gwI (m_in5 (List.mem_of_getElem? (i := 112) rfl)) rfl, m_gwI (m_in5 (List.mem_of_getElem? (i := 113) rfl)) rfl, m_gwI (m_in5 (List.mem_of_getElem? (i := 114) rfl)) rfl⟩⟩,
  List.forall_mem_cons.mpr ⟨Or.inr ⟨pMd_reach, by decide +kernel, by decide, ⟨m_gwI (m_in9 (List.mem_of_getElem? (i := 29) rfl)) rfl, m_gwI (m_in9 (List.mem_of_getElem? (i := 30) rfl)) rfl, m_gwI (m_in9 (List.mem_of_getElem? (i := 31) rfl)) rfl⟩⟩,
  List.forall_mem_cons.mpr ⟨Or.inr ⟨pSc_safe, by decide +kernel, by decide, ⟨m_gwI (m_in5 (List.mem_of_getElem? (i := 121) rfl)) rfl, m_gwI (m_in5 (List.mem_of_getElem? (i := 122) rfl)) rfl, m_gwI (m_in5 (List.mem_of_getElem? (i := 123) rfl)) rfl⟩⟩,
  List.forall_mem_cons.mpr ⟨Or.inr ⟨pMd_safe, by decide +kernel, by decide, ⟨m_gwI (m_in9 (List.mem_of_getElem? (i := 37) rfl)) rfl, m_gwI (m_in9 (List.mem_of_getElem? (i := 38) rfl)) rfl, m_gwI (m_in9 (List.mem_of_getElem? (i := 39) rfl)) rfl⟩⟩,
  List.forall_mem_cons.mpr ⟨Or.inr ⟨pSc_bears, by decide +kernel, by decide, ⟨m_gwI (m_in5 (List.mem_of_getElem? (i := 137) rfl)) rfl, m_gwI (m_in5 (List.mem_of_getElem? (i := 138) rfl)) rfl, m_gwI (m_in5 (List.mem_of_getElem? (i := 139) rfl)) rfl⟩⟩,
  List.forall_mem_cons.mpr ⟨Or.inr ⟨pMd_bears, by decide +kernel, by decide, ⟨m_gwI (m_in9 (List.mem_of_getElem? (i := 45) rfl)) rfl, m_gwI (m_in9 (List.mem_of_getElem? (i := 46) rfl)) rfl, m_gwI (m_in9 (List.mem_of_getElem? (i := 47) rfl)) rfl⟩⟩,
  List.forall_mem_cons.mpr ⟨Or.inr ⟨pSc_pulses, by decide +kernel, by decide, ⟨m_gwI (m_in5 (List.mem_of_getElem? (i := 145) rfl)) rfl, m_gwI (m_in5 (List.mem_of_getElem? (i := 146) rfl)) rfl, m_gwI (m_in5 (List.mem_of_getElem? (i := 147) rfl)) rfl⟩⟩,
  List.forall_mem_cons.mpr ⟨Or.inr ⟨pMd_pulses, by decide +kernel, by decide, ⟨m_gwI (m_in9 (List.mem_of_getElem? (i := 53) rfl)) rfl, m_gwI (m_in9 (List.mem_of_getElem? (i := 54) rfl)) rfl, m_gwI (m_in9 (List.mem_of_getElem? (i := 55) rfl)) rfl⟩⟩,
  List.forall_mem_cons.mpr ⟨Or.inr ⟨pSc_shortest, by decide +kernel, by decide, ⟨m_gwI (m_in5 (List.mem_of_getElem? (i := 161) rfl)) rfl, m_gwI (m_in5 (List.mem_of_getElem? (i := 162) rfl)) rfl, m_gwI (m_in5 (List.mem_of_getElem? (i := 163) rfl)) rfl⟩⟩,
  List.forall_mem_cons.mpr ⟨Or.inr ⟨pMd_shortest, by decide +kernel, by decide, ⟨m_gwI (m_in9 (List.mem_of_getElem? (i := 60) rfl)) rfl, m_gwI (m_in9 (List.mem_of_getElem? (i := 61) rfl)) rfl, m_gwI (m_in9 (List.mem_of_getElem? (i := 62) rfl)) rfl⟩⟩,
  List.forall_mem_cons.mpr ⟨Or.inr ⟨pSc_level, by decide +kernel, by decide, ⟨m_gwI (m_in5 (List.mem_of_getElem? (i := 165) rfl)) rfl, m_gwI (m_in5 (List.mem_of_getElem? (i := 166) rfl)) rfl, m_gwI (m_in5 (List.mem_of_getElem? (i := 167) rfl)) rfl⟩⟩,
  List.forall_mem_cons.mpr ⟨Or.inr ⟨pMd_level, by decide +kernel, by decide, ⟨m_gwI (m_in8 (List.mem_of_getElem? (i := 186) rfl)) rfl, m_gwI (m_in8 (List.mem_of_getElem? (i := 187) rfl)) rfl, m_gwI (m_in8 (List.mem_of_getElem? (i := 188) rfl)) rfl⟩⟩,
  List.forall_mem_cons.mpr ⟨Or.inr ⟨pSc_ifWind, by decide +kernel, by decide, ⟨m_gwI (m_in5 (List.mem_of_getElem? (i := 173) rfl)) rfl, m_gwI (m_in5 (List.mem_of_getElem? (i := 174) rfl)) rfl, m_gwI (m_in5 (List.mem_of_getElem? (i := 175) rfl)) rfl⟩⟩,
  List.forall_mem_cons.mpr ⟨Or.inr ⟨pMd_ifWind, by decide +kernel, by decide, ⟨m_gwI (m_in9 (List.mem_of_getElem? (i := 83) rfl)) rfl, m_gwI (m_in9 (List.mem_of_getElem? (i := 84) rfl)) rfl, m_gwI (m_in9 (List.mem_of_getElem? (i := 85) rfl)) rfl⟩⟩,
  List.forall_mem_cons.mpr ⟨Or.inr ⟨pSc_nearest, by decide +kernel, by decide, ⟨m_gwI (m_in5 (List.mem_of_getElem? (i := 181) rfl)) rfl, m_gwI (m_in5 (List.mem_of_getElem? (i := 182) rfl)) rfl, m_gwI (m_in5 (List.mem_of_getElem? (i := 183) rfl)) rfl⟩⟩,
  List.forall_mem_cons.mpr ⟨Or.inr ⟨pMd_nearest, by decide +kernel, by decide, ⟨m_gwI (m_in9 (List.mem_of_getElem? (i := 87) rfl)) rfl, m_gwI (m_in9 (List.mem_of_getElem? (i := 88) rfl)) rfl, m_gwI (m_in9 (List.mem_of_getElem? (i := 89) rfl)) rfl⟩⟩,
  List.forall_mem_cons.mpr ⟨Or.inr ⟨pSc_least, by decide +kernel, by decide, ⟨m_gwI (m_in5 (List.mem_of_getElem? (i := 185) rfl)) rfl, m_gwI (m_in5 (List.mem_of_getElem? (i := 186) rfl)) rfl, m_gwI (m_in5 (List.mem_of_getElem? (i := 187) rfl)) rfl⟩⟩,
  List.forall_mem_cons.mpr ⟨Or.inr ⟨pMd_least, by decide +kernel, by decide, ⟨m_gwI (m_in9 (List.mem_of_getElem? (i := 64) rfl)) rfl, m_gwI (m_in9 (List.mem_of_getElem? (i := 65) rfl)) rfl, m_gwI (m_in9 (List.mem_of_getElem? (i := 66) rfl)) rfl⟩⟩,
  List.forall_mem_cons.mpr ⟨Or.inr ⟨pSc_steadiest, by decide +kernel, by decide, ⟨m_gwI (m_in5 (List.mem_of_getElem? (i := 206) rfl)) rfl, m_gwI (m_in5 (List.mem_of_getElem? (i := 207) rfl)) rfl, m_gwI (m_in5 (List.mem_of_getElem? (i := 208) rfl)) rfl⟩⟩,
  List.forall_mem_cons.mpr ⟨Or.inr ⟨pMd_steadiest, by decide +kernel, by decide, ⟨m_gwI (m_in9 (List.mem_of_getElem? (i := 91) rfl)) rfl, m_gwI (m_in9 (List.mem_of_getElem? (i := 92) rfl)) rfl, m_gwI (m_in9 (List.mem_of_getElem? (i := 93) rfl)) rfl⟩⟩,
  List.forall_mem_cons.mpr ⟨Or.inr ⟨pSc_along, by decide +kernel, by decide, ⟨m_gwI (m_in5 (List.mem_of_getElem? (i := 210) rfl)) rfl, m_gwI (m_in5 (List.mem_of_getElem? (i := 211) rfl)) rfl, m_gwI (m_in5 (List.mem_of_getElem? (i := 212) rfl)) rfl⟩⟩,
  List.forall_mem_cons.mpr ⟨Or.inr ⟨pMd_along, by decide +kernel, by decide, ⟨m_gwI (m_in9 (List.mem_of_getElem? (i := 99) rfl)) rfl, m_gwI (m_in9 (List.mem_of_getElem? (i := 100) rfl)) rfl, m_gwI (m_in9 (List.mem_of_getElem? (i := 101) rfl)) rfl⟩⟩,
  List.forall_mem_cons.mpr ⟨Or.inr ⟨pSc_log, by decide +kernel, by decide, ⟨m_gwI (m_in5 (List.mem_of_getElem? (i := 227) rfl)) rfl, m_gwI (m_in5 (List.mem_of_getElem? (i := 228) rfl)) rfl, m_gwI (m_in5 (List.mem_of_getElem? (i := 229) rfl)) rfl⟩⟩,
  List.forall_mem_cons.mpr ⟨Or.inr ⟨pMd_log, by decide +kernel, by decide, ⟨m_gwI (m_in9 (List.mem_of_getElem? (i := 103) rfl)) rfl, m_gwI (m_in9 (List.mem_of_getElem? (i := 104) rfl)) rfl, m_gwI (m_in9 (List.mem_of_getElem? (i := 105) rfl)) rfl⟩⟩,
  List.forall_mem_cons.mpr ⟨Or.inr ⟨pSc_again, by decide +kernel, by decide, ⟨m_gwI (m_in6 (List.mem_of_getElem? (i := 3) rfl)) rfl, m_gwI (m_in6 (List.mem_of_getElem? (i := 4) rfl)) rfl, m_gwI (m_in6 (List.mem_of_getElem? (i := 5) rfl)) rfl⟩⟩,
  List.forall_mem_cons.mpr ⟨Or.inr ⟨pMd_again, by decide +kernel, by decide, ⟨m_gwI (m_in9 (List.mem_of_getElem? (i := 107) rfl)) rfl, m_gwI (m_in9 (List.mem_of_getElem? (i := 108) rfl)) rfl, m_gwI (m_in9 (List.mem_of_getElem? (i := 109) rfl)) rfl⟩⟩,
  List.forall_mem_cons.mpr ⟨Or.inr ⟨pSc_chance, by decide +kernel, by decide, ⟨m_gwI (m_in6 (List.mem_of_getElem? (i := 11) rfl)) rfl, m_gwI (m_in6 (List.mem_of_getElem? (i := 12) rfl)) rfl, m_gwI (m_in6 (List.mem_of_getElem? (i := 13) rfl)) rfl⟩⟩,
  List.forall_mem_cons.mpr ⟨Or.inr ⟨pMd_chance, by decide +kernel, by decide, ⟨m_gwI (m_in9 (List.mem_of_getElem? (i := 111) rfl)) rfl, m_gwI (m_in9 (List.mem_of_getElem? (i := 112) rfl)) rfl, m_gwI (m_in9 (List.mem_of_getElem? (i := 113) rfl)) rfl⟩⟩,
  List.forall_mem_cons.mpr ⟨Or.inr ⟨pSc_undo, by decide +kernel, by decide, ⟨m_gwI (m_in6 (List.mem_of_getElem? (i := 21) rfl)) rfl, m_gwI (m_in6 (List.mem_of_getElem? (i := 22) rfl)) rfl, m_gwI (m_in6 (List.mem_of_getElem? (i := 23) rfl)) rfl⟩⟩,
  List.forall_mem_cons.mpr ⟨Or.inr ⟨pMd_undo, by decide +kernel, by decide, ⟨m_gwI (m_in7 (List.mem_of_getElem? (i := 232) rfl)) rfl, m_gwI (m_in7 (List.mem_of_getElem? (i := 233) rfl)) rfl, m_gwI (m_in7 (List.mem_of_getElem? (i := 234) rfl)) rfl⟩⟩,
  List.forall_mem_cons.mpr ⟨Or.inr ⟨pSc_keep, by decide +kernel, by decide, ⟨m_gwI (m_in6 (List.mem_of_getElem? (i := 33) rfl)) rfl, m_gwI (m_in6 (List.mem_of_getElem? (i := 34) rfl)) rfl, m_gwI (m_in6 (List.mem_of_getElem? (i := 35) rfl)) rfl⟩⟩,
  List.forall_mem_cons.mpr ⟨Or.inr ⟨pMd_keep, by decide +kernel, by decide, ⟨m_gwI (m_in8 (List.mem_of_getElem? (i := 0) rfl)) rfl, m_gwI (m_in8 (List.mem_of_getElem? (i := 1) rfl)) rfl, m_gwI (m_in8 (List.mem_of_getElem? (i := 2) rfl)) rfl⟩⟩,
  List.forall_mem_cons.mpr ⟨Or.inr ⟨pSc_back, by decide +kernel, by decide, ⟨m_gwI (m_in6 (List.mem_of_getElem? (i := 43) rfl)) rfl, m_gwI (m_in6 (List.mem_of_getElem? (i := 44) rfl)) rfl, m_gwI (m_in6 (List.mem_of_getElem? (i := 45) rfl)) rfl⟩⟩,
  List.forall_mem_cons.mpr ⟨Or.inr ⟨pMd_back, by decide +kernel, by decide, ⟨m_gwI (m_in8 (List.mem_of_getElem? (i := 8) rfl)) rfl, m_gwI (m_in8 (List.mem_of_getElem? (i := 9) rfl)) rfl, m_gwI (m_in8 (List.mem_of_getElem? (i := 10) rfl)) rfl⟩⟩,
  List.forall_mem_cons.mpr ⟨Or.inr ⟨pSc_count, by decide +kernel, by decide, ⟨m_gwI (m_in6 (List.mem_of_getElem? (i := 47) rfl)) rfl, m_gwI (m_in6 (List.mem_of_getElem? (i := 48) rfl)) rfl, m_gwI (m_in6 (List.mem_of_getElem? (i := 49) rfl)) rfl⟩⟩,
  List.forall_mem_cons.mpr ⟨Or.inr ⟨pMd_count, by decide +kernel, by decide, ⟨m_gwI (m_in9 (List.mem_of_getElem? (i := 121) rfl)) rfl, m_gwI (m_in9 (List.mem_of_getElem? (i := 122) rfl)) rfl, m_gwI (m_in9 (List.mem_of_getElem? (i := 123) rfl)) rfl⟩⟩,
  fun _ h => absurd h List.not_mem_nil⟩⟩⟩⟩⟩⟩⟩⟩⟩⟩⟩⟩⟩⟩⟩⟩⟩⟩⟩⟩⟩⟩⟩⟩⟩⟩⟩⟩⟩⟩⟩⟩⟩⟩⟩⟩⟩⟩⟩⟩⟩⟩⟩⟩⟩⟩⟩⟩⟩⟩⟩⟩⟩⟩⟩⟩⟩⟩⟩⟩⟩⟩⟩⟩⟩⟩⟩⟩⟩⟩⟩⟩⟩⟩⟩⟩⟩⟩⟩⟩⟩⟩⟩⟩⟩⟩⟩⟩⟩⟩⟩⟩⟩⟩⟩⟩
theorem m_C_ok {c x : Nat} {q : Nat × m_Me × Nat} (h : m_C c x = some q) : m_Cp c (x, q) := by
  unfold m_C at h
  split at h
  · exact m_C0_ok _ (m_look h)
  · exact m_C1_ok _ (m_look h)
  · exact m_C2_ok _ (m_look h)
  · exact m_C3_ok _ (m_look h)
  · exact m_C4_ok _ (m_look h)
  · exact m_C6_ok _ (m_look h)
  · exact m_C7_ok _ (m_look h)
  · exact m_C8_ok _ (m_look h)
  · exact m_C9_ok _ (m_look h)
  · exact m_C10_ok _ (m_look h)
  · exact m_C11_ok _ (m_look h)
  · exact m_C12_ok _ (m_look h)
  · exact m_C13_ok _ (m_look h)
  · cases h
def m_Bp (c : Nat) (q : Nat × Nat) : Prop := match q.2 with
  | 10 => Cond.methodLink (m_cn c) q.1 Lib.Math.max.name ∈ m_gw
  | 11 => Cond.methodLink (m_cn c) q.1 Lib.Math.min.name ∈ m_gw
  | 12 => Cond.methodLink (m_cn c) q.1 Lib.Math.abs.name ∈ m_gw
  | 13 => Cond.methodLink (m_cn c) q.1 Lib.objectInit ∈ m_gw
  | 14 => Cond.methodLink (m_cn c) q.1 ⟨"java/lang/String", "length", "()I"⟩ ∈ m_gw
  | 15 => Cond.methodLink (m_cn c) q.1 ⟨"java/lang/String", "charAt", "(I)C"⟩ ∈ m_gw
  | _ => False
set_option maxRecDepth 100000 in
theorem m_B0_ok : ∀ q ∈ m_B0, m_Bp 0 q := List.forall_mem_cons.mpr ⟨m_gwI (m_in3 (List.mem_of_getElem? (i := 45) rfl)) rfl,
  fun _ h => absurd h List.not_mem_nil⟩
set_option maxRecDepth 100000 in
theorem m_B1_ok : ∀ q ∈ m_B1, m_Bp 1 q := List.forall_mem_cons.mpr ⟨m_gwI (m_in2 (List.mem_of_getElem? (i := 86) rfl)) rfl,
  List.forall_mem_cons.mpr ⟨m_gwI (m_in4 (List.mem_of_getElem? (i := 87) rfl)) rfl,
  fun _ h => absurd h List.not_mem_nil⟩⟩
set_option maxRecDepth 100000 in
theorem m_B2_ok : ∀ q ∈ m_B2, m_Bp 2 q := List.forall_mem_cons.mpr ⟨m_gwI (m_in2 (List.mem_of_getElem? (i := 8) rfl)) rfl,
  fun _ h => absurd h List.not_mem_nil⟩
set_option maxRecDepth 100000 in
theorem m_B3_ok : ∀ q ∈ m_B3, m_Bp 3 q := List.forall_mem_cons.mpr ⟨m_gwI (m_in2 (List.mem_of_getElem? (i := 102) rfl)) rfl,
  List.forall_mem_cons.mpr ⟨m_gwI (m_in4 (List.mem_of_getElem? (i := 79) rfl)) rfl,
  fun _ h => absurd h List.not_mem_nil⟩⟩
set_option maxRecDepth 100000 in
theorem m_B4_ok : ∀ q ∈ m_B4, m_Bp 4 q := List.forall_mem_cons.mpr ⟨m_gwI (m_in1 (List.mem_of_getElem? (i := 43) rfl)) rfl,
  List.forall_mem_cons.mpr ⟨m_gwI (m_in3 (List.mem_of_getElem? (i := 90) rfl)) rfl,
  List.forall_mem_cons.mpr ⟨m_gwI (m_in3 (List.mem_of_getElem? (i := 93) rfl)) rfl,
  fun _ h => absurd h List.not_mem_nil⟩⟩⟩
set_option maxRecDepth 100000 in
theorem m_B5_ok : ∀ q ∈ m_B5, m_Bp 5 q := List.forall_mem_cons.mpr ⟨m_gwI (m_in2 (List.mem_of_getElem? (i := 14) rfl)) rfl,
  fun _ h => absurd h List.not_mem_nil⟩
set_option maxRecDepth 100000 in
theorem m_B6_ok : ∀ q ∈ m_B6, m_Bp 6 q := List.forall_mem_cons.mpr ⟨m_gwI (m_in1 (List.mem_of_getElem? (i := 37) rfl)) rfl,
  List.forall_mem_cons.mpr ⟨m_gwI (m_in1 (List.mem_of_getElem? (i := 152) rfl)) rfl,
  List.forall_mem_cons.mpr ⟨m_gwI (m_in1 (List.mem_of_getElem? (i := 162) rfl)) rfl,
  List.forall_mem_cons.mpr ⟨m_gwI (m_in3 (List.mem_of_getElem? (i := 192) rfl)) rfl,
  fun _ h => absurd h List.not_mem_nil⟩⟩⟩⟩
set_option maxRecDepth 100000 in
theorem m_B7_ok : ∀ q ∈ m_B7, m_Bp 7 q := List.forall_mem_cons.mpr ⟨m_gwI (m_in3 (List.mem_of_getElem? (i := 19) rfl)) rfl,
  fun _ h => absurd h List.not_mem_nil⟩
set_option maxRecDepth 100000 in
theorem m_B8_ok : ∀ q ∈ m_B8, m_Bp 8 q := List.forall_mem_cons.mpr ⟨m_gwI (m_in2 (List.mem_of_getElem? (i := 170) rfl)) rfl,
  List.forall_mem_cons.mpr ⟨m_gwI (m_in4 (List.mem_of_getElem? (i := 131) rfl)) rfl,
  List.forall_mem_cons.mpr ⟨m_gwI (m_in4 (List.mem_of_getElem? (i := 132) rfl)) rfl,
  fun _ h => absurd h List.not_mem_nil⟩⟩⟩
set_option maxRecDepth 100000 in
theorem m_B9_ok : ∀ q ∈ m_B9, m_Bp 9 q := List.forall_mem_cons.mpr ⟨m_gwI (m_in2 (List.mem_of_getElem? (i := 128) rfl)) rfl,
  fun _ h => absurd h List.not_mem_nil⟩
set_option maxRecDepth 100000 in
theorem m_B10_ok : ∀ q ∈ m_B10, m_Bp 10 q := List.forall_mem_cons.mpr ⟨m_gwI (m_in2 (List.mem_of_getElem? (i := 122) rfl)) rfl,
  List.forall_mem_cons.mpr ⟨m_gwI (m_in5 (List.mem_of_getElem? (i := 225) rfl)) rfl,
  List.forall_mem_cons.mpr ⟨m_gwI (m_in5 (List.mem_of_getElem? (i := 226) rfl)) rfl,
  List.forall_mem_cons.mpr ⟨m_gwI (m_in5 (List.mem_of_getElem? (i := 222) rfl)) rfl,
  fun _ h => absurd h List.not_mem_nil⟩⟩⟩⟩
set_option maxRecDepth 100000 in
theorem m_B11_ok : ∀ q ∈ m_B11, m_Bp 11 q := List.forall_mem_cons.mpr ⟨m_gwI (m_in1 (List.mem_of_getElem? (i := 29) rfl)) rfl,
  List.forall_mem_cons.mpr ⟨m_gwI (m_in4 (List.mem_of_getElem? (i := 195) rfl)) rfl,
  List.forall_mem_cons.mpr ⟨m_gwI (m_in4 (List.mem_of_getElem? (i := 196) rfl)) rfl,
  List.forall_mem_cons.mpr ⟨m_gwI (m_in5 (List.mem_of_getElem? (i := 158) rfl)) rfl,
  fun _ h => absurd h List.not_mem_nil⟩⟩⟩⟩
set_option maxRecDepth 100000 in
theorem m_B12_ok : ∀ q ∈ m_B12, m_Bp 12 q := List.forall_mem_cons.mpr ⟨m_gwI (m_in6 (List.mem_of_getElem? (i := 152) rfl)) rfl,
  List.forall_mem_cons.mpr ⟨m_gwI (m_in7 (List.mem_of_getElem? (i := 142) rfl)) rfl,
  List.forall_mem_cons.mpr ⟨m_gwI (m_in7 (List.mem_of_getElem? (i := 143) rfl)) rfl,
  fun _ h => absurd h List.not_mem_nil⟩⟩⟩
theorem m_B_ok {c x : Nat} {b : Nat} (h : m_B c x = some b) : m_Bp c (x, b) := by
  unfold m_B at h
  split at h
  · exact m_B0_ok _ (m_look h)
  · exact m_B1_ok _ (m_look h)
  · exact m_B2_ok _ (m_look h)
  · exact m_B3_ok _ (m_look h)
  · exact m_B4_ok _ (m_look h)
  · exact m_B5_ok _ (m_look h)
  · exact m_B6_ok _ (m_look h)
  · exact m_B7_ok _ (m_look h)
  · exact m_B8_ok _ (m_look h)
  · exact m_B9_ok _ (m_look h)
  · exact m_B10_ok _ (m_look h)
  · exact m_B11_ok _ (m_look h)
  · exact m_B12_ok _ (m_look h)
  · cases h
theorem m_j_max : Cond.static Lib.Math.max.name ∈ m_gw ∧ Cond.code Lib.Math.max.name Lib.Math.max.code 2 (some .int) ∈ m_gw := ⟨m_gwI (m_in3 (List.mem_of_getElem? (i := 94) rfl)) rfl, m_gwI (m_in3 (List.mem_of_getElem? (i := 95) rfl)) rfl⟩
theorem m_j_min : Cond.static Lib.Math.min.name ∈ m_gw ∧ Cond.code Lib.Math.min.name Lib.Math.min.code 2 (some .int) ∈ m_gw := ⟨m_gwI (m_in3 (List.mem_of_getElem? (i := 91) rfl)) rfl, m_gwI (m_in3 (List.mem_of_getElem? (i := 92) rfl)) rfl⟩
theorem m_j_abs : Cond.static Lib.Math.abs.name ∈ m_gw ∧ Cond.code Lib.Math.abs.name Lib.Math.abs.code 1 (some .int) ∈ m_gw := ⟨m_gwI (m_in5 (List.mem_of_getElem? (i := 159) rfl)) rfl, m_gwI (m_in5 (List.mem_of_getElem? (i := 160) rfl)) rfl⟩
theorem m_j_math : Cond.initialized "java/lang/Math" ∈ m_gw := m_gwI (m_in1 (List.mem_of_getElem? (i := 17) rfl)) rfl
theorem m_j_obj : Cond.instanceMethod Lib.objectInit ∈ m_gw ∧ Cond.code Lib.objectInit ⟨#[0xb1]⟩ 1 none ∈ m_gw := ⟨m_gwI (m_in1 (List.mem_of_getElem? (i := 30) rfl)) rfl, m_gwI (m_in1 (List.mem_of_getElem? (i := 31) rfl)) rfl⟩
theorem m_j_abyte : Cond.arrayClass .byte ∈ m_gw := m_gwI (m_in1 (List.mem_of_getElem? (i := 146) rfl)) rfl
theorem m_j_aint : Cond.arrayClass .int ∈ m_gw := m_gwI (m_in1 (List.mem_of_getElem? (i := 147) rfl)) rfl
theorem m_j_aboolean : Cond.arrayClass .boolean ∈ m_gw := m_gwI (m_in2 (List.mem_of_getElem? (i := 164) rfl)) rfl
theorem m_j_ashort : Cond.arrayClass .short ∈ m_gw := m_gwI (m_in7 (List.mem_of_getElem? (i := 109) rfl)) rfl
theorem m_j_along : Cond.arrayClass .long ∈ m_gw := m_gwI (m_in9 (List.mem_of_getElem? (i := 125) rfl)) rfl
theorem m_j_over : Cond.arrayOver (.object "SwingCrane$Moment") ∈ lw_tbl := m_in2 (List.mem_of_getElem? (i := 104) rfl)
theorem m_j_oc : Cond.fieldLink "SwingCrane" 362 "SwingCrane" "ORDER_CODES" "[I" ∈ m_gw := m_gwI (m_in4 (List.mem_of_getElem? (i := 104) rfl)) rfl
theorem m_j_mt : Cond.fieldLinkNest "SwingCrane$Reader" 129 "SwingCrane" "MOST_TOLD" "[I" "SwingCrane" ∈ lw_tbl := m_in3 (List.mem_of_getElem? (i := 209) rfl)
