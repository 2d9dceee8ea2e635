section SW
variable {en : Nat → Nat} {d : Nat} {me : m_Me} {pc tgt len : Nat} {ls : m_L} {st : List Value} {s : m_S} {Q : m_Q} {x v : Int} {df lo hi off : Int} {offs : Array Int}
theorem r_tcase (hd : decode me.2.2.1 pc = .ok (.tableswitch df lo hi offs, len)) (hv : x = v) (h1 : lo ≤ v ∧ v ≤ hi) (h2 : m_in v) (ho : offs[(v - lo).toNat]? = some off) (ht : (pc : Int) + off = (tgt : Int)) (kk : m_wp en d me tgt ls st s Q) : m_wp en d me pc ls (.int (m_i x) :: st) s Q := by
  subst hv
  refine m_next hd ?_ kk
  simp only [m_st, m_i_toInt h2]
  rw [if_neg (by omega), ho]
  simp only [m_go, ht]
  rw [if_pos (by omega)]
  rfl
theorem r_tdef (hd : decode me.2.2.1 pc = .ok (.tableswitch df lo hi offs, len)) (hv : x < lo ∨ hi < x) (h2 : m_in x) (ht : (pc : Int) + df = (tgt : Int)) (kk : m_wp en d me tgt ls st s Q) : m_wp en d me pc ls (.int (m_i x) :: st) s Q := by
  refine m_next hd ?_ kk
  simp only [m_st, m_i_toInt h2]
  rw [if_pos hv]
  simp only [m_go, ht]
  rw [if_pos (by omega)]
  rfl
end SW
