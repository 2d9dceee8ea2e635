/-! the reference is made -/
section MDI
variable {en : Nat → Nat} {d : Nat} {me : m_Me} {pc : Nat} {ls : m_L} {st : List Value} {T : Nat → Option (Nat × Nat)} {J : Nat → Nat → Int} {P : Nat → Nat → Option Nat} {L : Nat → Nat → Int64} {z w M : Nat} {Q : m_Q}
theorem r_nwa {ty : ArrayType} {k n : Nat} (hd : decode me.2.2.1 pc = .ok (.newarray ty, 2)) (hk : m_atc ty = some k) (hn : n ≤ 1000000) (kk : m_wp en d me (pc + 2) ls (.ref z :: st) (m_nT T z (k, n), m_I (m_nw J z 0), m_nw P z none, m_nw L z 0, z + 1, w + n) Q) : m_wp en d me pc ls (.int (m_i (n : Int)) :: st) (T, m_I J, P, L, z, w) Q := by
  have e := r_ix (i := (n : Int)) (n := n + 1) (by omega) (by omega) (by omega)
  have e1 : (m_i (n : Int)).toInt = n := m_i_toInt ⟨by omega, by omega⟩
  have e2 : (m_i (n : Int)).toNatClampNeg = n := by rw [e.2, Int.toNat_natCast]
  refine m_next hd ?_ kk
  simp only [m_st, hk]
  rw [if_pos (by rw [e1]; omega), e2, ← m_I_nw]
  rfl
/-- the rows of the reference: field, kind, length -/
def md_fd (k : Nat) : Nat := (md_tab.getD k (0, 0, 0, 0)).1
def md_ty (k : Nat) : Nat × Nat := (md_tab.getD k (0, 0, 0, 0)).2.2
def md_nT (T : Nat → Option (Nat × Nat)) (M : Nat) : Nat → Nat → Option (Nat × Nat)
  | 0 => T
  | k + 1 => m_nT (md_nT T M k) (M + 1 + k) (md_ty k)
def md_nP (P : Nat → Nat → Option Nat) (M : Nat) : Nat → Nat → Nat → Option Nat
  | 0 => P
  | k + 1 => m_up (m_nw (md_nP P M k) (M + 1 + k) none) M (md_fd k) (some (M + 1 + k))
def md_nZ {α : Type} (v : α) (J : Nat → Nat → α) (M : Nat) : Nat → Nat → Nat → α
  | 0 => J
  | k + 1 => m_nw (md_nZ v J M k) (M + 1 + k) v
theorem md_nT_o {b : Nat} (h : b ≤ M) : ∀ k, md_nT T M k b = T b := by
  intro k
  induction k with
  | zero => rfl
  | succ k ih =>
    unfold md_nT m_nT
    rw [if_neg (by omega)]
    exact ih
theorem md_nT_i {j : Nat} : ∀ k, j < k → md_nT T M k (M + 1 + j) = some (md_ty j) := by
  intro k
  induction k with
  | zero => omega
  | succ k ih =>
    intro h
    unfold md_nT m_nT
    by_cases q : j = k
    · subst q
      rw [if_pos rfl]
    · rw [if_neg (by omega)]
      exact ih (by omega)
theorem md_fd_i : ∀ j : Nat, j < 26 → ∀ k : Nat, k < 26 → md_fd j = md_fd k → j = k := by decide
theorem md_nP_i {j : Nat} : ∀ k, k ≤ 26 → j < k → md_nP P M k M (md_fd j) = some (M + 1 + j) := by
  intro k
  induction k with
  | zero => omega
  | succ k ih =>
    intro h h2
    unfold md_nP m_up m_nw
    by_cases q : j = k
    · subst q
      rw [if_pos ⟨rfl, rfl⟩]
    · rw [if_neg (fun g => q (md_fd_i j (by omega) k (by omega) g.2)), if_neg (by omega)]
      exact ih (by omega) (by omega)
theorem md_nP_o {b : Nat} (h : b < M) (i : Nat) : ∀ k, md_nP P M k b i = P b i := by
  intro k
  induction k with
  | zero => rfl
  | succ k ih =>
    unfold md_nP m_up m_nw
    rw [if_neg (by omega), if_neg (by omega)]
    exact ih
theorem md_nZ_e {α : Type} {v : α} {J : Nat → Nat → α} {b i : Nat} : ∀ k, md_nZ v J M k b i = if M < b ∧ b ≤ M + k then v else J b i := by
  intro k
  induction k with
  | zero =>
    rw [if_neg (by omega)]
    rfl
  | succ k ih =>
    unfold md_nZ m_nw
    by_cases q : b = M + 1 + k
    · rw [if_pos q, if_pos (by omega)]
    · rw [if_neg q, ih]
      by_cases q2 : M < b ∧ b ≤ M + k
      · rw [if_pos q2, if_pos (by omega)]
      · rw [if_neg q2, if_neg (by omega)]
theorem md_nZ_up {J : Nat → Nat → Int} {i k : Nat} {v : Int} : m_up (md_nZ 0 J M k) M i v = md_nZ 0 (m_up J M i v) M k := by
  funext b j
  rw [md_nZ_e, m_up_at, m_up_at, md_nZ_e]
  by_cases q : b = M ∧ j = i
  · rw [if_pos q, if_pos q, if_neg (by omega)]
  · rw [if_neg q, if_neg q]
/-- the world with so many rows of the reference made -/
def md_nS (T : Nat → Option (Nat × Nat)) (J : Nat → Nat → Int) (P : Nat → Nat → Option Nat) (L : Nat → Nat → Int64) (M k w : Nat) : m_S := (md_nT T M k, m_I (md_nZ 0 J M k), md_nP P M k, md_nZ 0 L M k, M + 1 + k, w)
theorem r_mdr {pc2 q k t n : Nat} {ty : ArrayType} (hT : T M = some (12, 0)) (hB : en 0 ≤ M) (h1 : decode mMd_init.2.2.1 pc = .ok (.aload_n 0, 1))
    (hp : ∀ st s, m_wp en d mMd_init pc2 [some (.ref M)] (.int (m_i (n : Int)) :: st) s Q → m_wp en d mMd_init (pc + 1) [some (.ref M)] st s Q)
    (h3 : decode mMd_init.2.2.1 pc2 = .ok (.newarray ty, 2)) (h4 : decode mMd_init.2.2.1 (pc2 + 2) = .ok (.putfield q, 3)) (hf : m_fx 12 q = some (2, 12, md_fd k)) (hk : m_atc ty = some t) (ht : md_ty k = (t, n)) (hn : n ≤ 1000000)
    (kk : m_wp en d mMd_init (pc2 + 5) [some (.ref M)] [] (md_nS T J P L M (k + 1) (w + n)) Q) : m_wp en d mMd_init pc [some (.ref M)] [] (md_nS T J P L M k w) Q := by
  unfold md_nS at kk ⊢
  refine r_aln h1 rfl (hp _ _ (r_nwa h3 hk hn ?_))
  refine m_putR (c := 12) (n := 0) h4 hf ?_ hB (Or.inr ⟨rfl, rfl⟩) ?_
  · unfold m_nT
    rw [if_neg (by omega), md_nT_o (Nat.le_refl M)]
    exact hT
  · rw [← ht]
    exact kk
end MDI
