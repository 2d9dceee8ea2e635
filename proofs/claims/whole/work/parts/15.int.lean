/-! the small machine over whole numbers: an int of the machine is m_i x for a number x, the heap's ints are m_I J for a table J of numbers -/
abbrev m_i (x : Int) : Int32 := Int32.ofInt x
def m_I (J : Nat → Nat → Int) : Nat → Nat → Int32 := fun a j => Int32.ofInt (J a j)
def m_in (x : Int) : Prop := -2147483648 ≤ x ∧ x < 2147483648
theorem m_i_toInt {x : Int} (h : m_in x) : (m_i x).toInt = x := by
  unfold m_in at h
  exact Int32.toInt_ofInt_of_le (by simpa using h.1) (by simpa using h.2)
theorem m_i_clamp {x : Int} (h0 : 0 ≤ x) (h1 : x < 2147483648) : (m_i x).toNatClampNeg = x.toNat := by
  unfold Int32.toNatClampNeg
  rw [m_i_toInt ⟨by omega, h1⟩]
theorem m_i_add (x y : Int) : m_i x + m_i y = m_i (x + y) := (Int32.ofInt_add x y).symm
theorem m_i_sub (x y : Int) : m_i x - m_i y = m_i (x - y) := (Int32.ofInt_sub x y).symm
theorem m_i_mul (x y : Int) : m_i x * m_i y = m_i (x * y) := (Int32.ofInt_mul x y).symm
theorem m_i_neg (x : Int) : - m_i x = m_i (-x) := (Int32.ofInt_neg x).symm
theorem m_i_lt {x y : Int} (hx : m_in x) (hy : m_in y) : m_i x < m_i y ↔ x < y := by rw [Int32.lt_iff_toInt_lt, m_i_toInt hx, m_i_toInt hy]
theorem m_i_le {x y : Int} (hx : m_in x) (hy : m_in y) : m_i x ≤ m_i y ↔ x ≤ y := by rw [Int32.le_iff_toInt_le, m_i_toInt hx, m_i_toInt hy]
theorem m_i_eq {x y : Int} (hx : m_in x) (hy : m_in y) : m_i x = m_i y ↔ x = y := by rw [← Int32.toInt_inj, m_i_toInt hx, m_i_toInt hy]
theorem m_i_ofNat (n : Nat) : Int32.ofNat n = m_i (n : Int) := by rfl
theorem m_i_self (v : Int32) : m_i v.toInt = v := Int32.ofInt_toInt v
theorem m_i_div {x y : Int} (h0 : 0 ≤ x) (h1 : x < 2147483648) (hy0 : 0 < y) (hy : y < 2147483648) : m_i x / m_i y = m_i (x / y) := by
  have e : (m_i x / m_i y).toInt = x / y := by
    rw [Int32.toInt_div, m_i_toInt ⟨by omega, h1⟩, m_i_toInt ⟨by omega, hy⟩, Int.tdiv_eq_ediv_of_nonneg h0]
    have h2 : 0 ≤ x / y := Int.ediv_nonneg h0 (by omega)
    have h3 : x / y ≤ x := Int.ediv_le_self y h0
    rw [Int.bmod_eq_of_le (by omega) (by omega)]
  rw [← Int32.ofInt_toInt (m_i x / m_i y), e]
theorem m_i_rem {x y : Int} (h0 : 0 ≤ x) (h1 : x < 2147483648) (hy0 : 0 < y) (hy : y < 2147483648) : m_i x - m_i x / m_i y * m_i y = m_i (x % y) := by
  rw [m_i_div h0 h1 hy0 hy, m_i_mul, m_i_sub, Int.emod_def, Int.mul_comm y]
theorem m_I_up (J : Nat → Nat → Int) (a j : Nat) (v : Int) : m_up (m_I J) a j (m_i v) = m_I (m_up J a j v) := by
  funext b i
  simp only [m_up, m_I]
  split <;> rfl
theorem m_I_nw (J : Nat → Nat → Int) (a : Nat) : m_nw (m_I J) a 0 = m_I (m_nw J a 0) := by
  funext b i
  simp only [m_nw, m_I]
  split <;> rfl
theorem m_I_of (I : Nat → Nat → Int32) : m_I (fun a j => (I a j).toInt) = I := by
  funext a j
  exact Int32.ofInt_toInt _
theorem m_up_same {α : Type} {f : Nat → Nat → α} {a j : Nat} {v : α} : m_up f a j v a j = v := by simp [m_up]
theorem m_up_at {α : Type} {f : Nat → Nat → α} {a j b i : Nat} {v : α} : m_up f a j v b i = if b = a ∧ i = j then v else f b i := rfl
section RI
variable {en : Nat → Nat} {d : Nat} {me : m_Me} {pc tgt : Nat} {ls ls' : m_L} {st : List Value} {s : m_S} {Q : m_Q} {x y : Int} {k n : Nat} {v : Value}
theorem r_con {n : Int} (hd : decode me.2.2.1 pc = .ok (.iconst n, 1)) (kk : m_wp en d me (pc + 1) ls (.int (m_i n) :: st) s Q) : m_wp en d me pc ls st s Q := m_next hd rfl kk
theorem r_bip {n : Int} (hd : decode me.2.2.1 pc = .ok (.bipush n, 2)) (hn : (Int8.ofInt n).toInt32 = m_i n) (kk : m_wp en d me (pc + 2) ls (.int (m_i n) :: st) s Q) : m_wp en d me pc ls st s Q := m_next hd (by rw [← hn]; rfl) kk
theorem r_sip {n : Int} (hd : decode me.2.2.1 pc = .ok (.sipush n, 3)) (hn : (Int16.ofInt n).toInt32 = m_i n) (kk : m_wp en d me (pc + 3) ls (.int (m_i n) :: st) s Q) : m_wp en d me pc ls st s Q := m_next hd (by rw [← hn]; rfl) kk
theorem r_ldc {c : Int32} {q : Nat} (hd : decode me.2.2.1 pc = .ok (.ldc q, 2)) (hk : m_K me.1 q = some c) (hc : c = m_i x) (kk : m_wp en d me (pc + 2) ls (.int (m_i x) :: st) s Q) : m_wp en d me pc ls st s Q := m_next hd (by simp only [m_st, hk, hc]; rfl) kk
theorem r_ldcw {c : Int32} {q : Nat} (hd : decode me.2.2.1 pc = .ok (.ldc_w q, 3)) (hk : m_K me.1 q = some c) (hc : c = m_i x) (kk : m_wp en d me (pc + 3) ls (.int (m_i x) :: st) s Q) : m_wp en d me pc ls st s Q := m_next hd (by simp only [m_st, hk, hc]; rfl) kk
theorem r_il {c : Int32} (hd : decode me.2.2.1 pc = .ok (.iload k, 2)) (hl : ls[k]? = some (some (.int c))) (kk : m_wp en d me (pc + 2) ls (.int c :: st) s Q) : m_wp en d me pc ls st s Q := m_next hd (by simp only [m_st, m_ldi, hl]; rfl) kk
theorem r_iln {c : Int32} {f : Fin 4} (hd : decode me.2.2.1 pc = .ok (.iload_n f, 1)) (hl : ls[f.val]? = some (some (.int c))) (kk : m_wp en d me (pc + 1) ls (.int c :: st) s Q) : m_wp en d me pc ls st s Q := m_next hd (by simp only [m_st, m_ldi, hl]; rfl) kk
theorem r_al {a : Nat} (hd : decode me.2.2.1 pc = .ok (.aload k, 2)) (hl : ls[k]? = some (some (.ref a))) (kk : m_wp en d me (pc + 2) ls (.ref a :: st) s Q) : m_wp en d me pc ls st s Q := m_next hd (by simp only [m_st, m_lda, hl]; rfl) kk
theorem r_aln {a : Nat} {f : Fin 4} (hd : decode me.2.2.1 pc = .ok (.aload_n f, 1)) (hl : ls[f.val]? = some (some (.ref a))) (kk : m_wp en d me (pc + 1) ls (.ref a :: st) s Q) : m_wp en d me pc ls st s Q := m_next hd (by simp only [m_st, m_lda, hl]; rfl) kk
theorem r_is {c : Int32} (hd : decode me.2.2.1 pc = .ok (.istore k, 2)) (hk : k < ls.length) (hs : ls.set k (some (.int c)) = ls') (kk : m_wp en d me (pc + 2) ls' st s Q) : m_wp en d me pc ls (.int c :: st) s Q := m_next hd (by simp only [m_st, m_sti, if_pos hk, hs]; rfl) kk
theorem r_isn {c : Int32} {f : Fin 4} (hd : decode me.2.2.1 pc = .ok (.istore_n f, 1)) (hk : f.val < ls.length) (hs : ls.set f.val (some (.int c)) = ls') (kk : m_wp en d me (pc + 1) ls' st s Q) : m_wp en d me pc ls (.int c :: st) s Q := m_next hd (by simp only [m_st, m_sti, if_pos hk, hs]; rfl) kk
theorem r_as {a : Nat} (hd : decode me.2.2.1 pc = .ok (.astore k, 2)) (hk : k < ls.length) (hs : ls.set k (some (.ref a)) = ls') (kk : m_wp en d me (pc + 2) ls' st s Q) : m_wp en d me pc ls (.ref a :: st) s Q := m_next hd (by simp only [m_st, m_sta, if_pos hk, hs]; rfl) kk
theorem r_asn {a : Nat} {f : Fin 4} (hd : decode me.2.2.1 pc = .ok (.astore_n f, 1)) (hk : f.val < ls.length) (hs : ls.set f.val (some (.ref a)) = ls') (kk : m_wp en d me (pc + 1) ls' st s Q) : m_wp en d me pc ls (.ref a :: st) s Q := m_next hd (by simp only [m_st, m_sta, if_pos hk, hs]; rfl) kk
theorem r_inc {n : Int} (hd : decode me.2.2.1 pc = .ok (.iinc k n, 3)) (hl : ls[k]? = some (some (.int (m_i x)))) (hs : ls.set k (some (.int (m_i (x + n)))) = ls') (kk : m_wp en d me (pc + 3) ls' st s Q) : m_wp en d me pc ls st s Q := m_next hd (by simp only [m_st, hl, m_i_add, hs]; rfl) kk
theorem r_add (hd : decode me.2.2.1 pc = .ok (.iadd, 1)) (kk : m_wp en d me (pc + 1) ls (.int (m_i (x + y)) :: st) s Q) : m_wp en d me pc ls (.int (m_i y) :: .int (m_i x) :: st) s Q := m_next hd (by rw [← m_i_add]; rfl) kk
theorem r_sub (hd : decode me.2.2.1 pc = .ok (.isub, 1)) (kk : m_wp en d me (pc + 1) ls (.int (m_i (x - y)) :: st) s Q) : m_wp en d me pc ls (.int (m_i y) :: .int (m_i x) :: st) s Q := m_next hd (by rw [← m_i_sub]; rfl) kk
theorem r_mul (hd : decode me.2.2.1 pc = .ok (.imul, 1)) (kk : m_wp en d me (pc + 1) ls (.int (m_i (x * y)) :: st) s Q) : m_wp en d me pc ls (.int (m_i y) :: .int (m_i x) :: st) s Q := m_next hd (by rw [← m_i_mul]; rfl) kk
theorem r_neg (hd : decode me.2.2.1 pc = .ok (.ineg, 1)) (kk : m_wp en d me (pc + 1) ls (.int (m_i (-x)) :: st) s Q) : m_wp en d me pc ls (.int (m_i x) :: st) s Q := m_next hd (by rw [← m_i_neg]; rfl) kk
theorem m_i_ne0 {y : Int} (hy0 : 0 < y) (hy : y < 2147483648) : ¬ m_i y = 0 := fun q => by
  have := (m_i_eq (x := y) (y := 0) ⟨by omega, hy⟩ ⟨by omega, by omega⟩).mp q
  omega
theorem r_div (hd : decode me.2.2.1 pc = .ok (.idiv, 1)) (hx : 0 ≤ x ∧ x < 2147483648) (hy : 0 < y ∧ y < 2147483648) (kk : m_wp en d me (pc + 1) ls (.int (m_i (x / y)) :: st) s Q) : m_wp en d me pc ls (.int (m_i y) :: .int (m_i x) :: st) s Q :=
  m_next hd (by rw [← m_i_div hx.1 hx.2 hy.1 hy.2]; simp only [m_st]; rw [if_neg (m_i_ne0 hy.1 hy.2)]; rfl) kk
theorem r_rem (hd : decode me.2.2.1 pc = .ok (.irem, 1)) (hx : 0 ≤ x ∧ x < 2147483648) (hy : 0 < y ∧ y < 2147483648) (kk : m_wp en d me (pc + 1) ls (.int (m_i (x % y)) :: st) s Q) : m_wp en d me pc ls (.int (m_i y) :: .int (m_i x) :: st) s Q :=
  m_next hd (by rw [← m_i_rem hx.1 hx.2 hy.1 hy.2]; simp only [m_st]; rw [if_neg (m_i_ne0 hy.1 hy.2)]; rfl) kk
def m_and (x y : Int) : Int := (m_i x &&& m_i y).toInt
def m_or (x y : Int) : Int := (m_i x ||| m_i y).toInt
def m_shl (x y : Int) : Int := (m_i x <<< (m_i y &&& 31)).toInt
def m_shr (x y : Int) : Int := (m_i x >>> (m_i y &&& 31)).toInt
theorem r_and (hd : decode me.2.2.1 pc = .ok (.iand, 1)) (kk : m_wp en d me (pc + 1) ls (.int (m_i (m_and x y)) :: st) s Q) : m_wp en d me pc ls (.int (m_i y) :: .int (m_i x) :: st) s Q := m_next hd (by rw [m_and, m_i_self]; rfl) kk
theorem r_or (hd : decode me.2.2.1 pc = .ok (.ior, 1)) (kk : m_wp en d me (pc + 1) ls (.int (m_i (m_or x y)) :: st) s Q) : m_wp en d me pc ls (.int (m_i y) :: .int (m_i x) :: st) s Q := m_next hd (by rw [m_or, m_i_self]; rfl) kk
theorem r_shl (hd : decode me.2.2.1 pc = .ok (.ishl, 1)) (kk : m_wp en d me (pc + 1) ls (.int (m_i (m_shl x y)) :: st) s Q) : m_wp en d me pc ls (.int (m_i y) :: .int (m_i x) :: st) s Q := m_next hd (by rw [m_shl, m_i_self]; rfl) kk
theorem r_shr (hd : decode me.2.2.1 pc = .ok (.ishr, 1)) (kk : m_wp en d me (pc + 1) ls (.int (m_i (m_shr x y)) :: st) s Q) : m_wp en d me pc ls (.int (m_i y) :: .int (m_i x) :: st) s Q := m_next hd (by rw [m_shr, m_i_self]; rfl) kk
def m_b8 (x : Int) : Int := (m_i x).toInt8.toInt32.toInt
def m_s16 (x : Int) : Int := (m_i x).toInt16.toInt32.toInt
theorem r_i2b (hd : decode me.2.2.1 pc = .ok (.i2b, 1)) (kk : m_wp en d me (pc + 1) ls (.int (m_i (m_b8 x)) :: st) s Q) : m_wp en d me pc ls (.int (m_i x) :: st) s Q := m_next hd (by rw [m_b8, m_i_self]; rfl) kk
theorem r_i2s (hd : decode me.2.2.1 pc = .ok (.i2s, 1)) (kk : m_wp en d me (pc + 1) ls (.int (m_i (m_s16 x)) :: st) s Q) : m_wp en d me pc ls (.int (m_i x) :: st) s Q := m_next hd (by rw [m_s16, m_i_self]; rfl) kk
theorem r_dupi {c : Int32} (hd : decode me.2.2.1 pc = .ok (.dup, 1)) (kk : m_wp en d me (pc + 1) ls (.int c :: .int c :: st) s Q) : m_wp en d me pc ls (.int c :: st) s Q := m_next hd rfl kk
theorem r_dupr {a : Nat} (hd : decode me.2.2.1 pc = .ok (.dup, 1)) (kk : m_wp en d me (pc + 1) ls (.ref a :: .ref a :: st) s Q) : m_wp en d me pc ls (.ref a :: st) s Q := m_next hd rfl kk
theorem r_dup2 {a : Nat} {c : Int32} (hd : decode me.2.2.1 pc = .ok (.dup2, 1)) (kk : m_wp en d me (pc + 1) ls (.int c :: .ref a :: .int c :: .ref a :: st) s Q) : m_wp en d me pc ls (.int c :: .ref a :: st) s Q := m_next hd rfl kk
theorem r_popi {c : Int32} (hd : decode me.2.2.1 pc = .ok (.pop, 1)) (kk : m_wp en d me (pc + 1) ls st s Q) : m_wp en d me pc ls (.int c :: st) s Q := m_next hd rfl kk
theorem r_go {off : Int} (hd : decode me.2.2.1 pc = .ok (.goto off, 3)) (ht : (pc : Int) + off = (tgt : Int)) (kk : m_wp en d me tgt ls st s Q) : m_wp en d me pc ls st s Q := m_goto hd ht kk
section CMP
variable {off : Int} (ht : (pc : Int) + off = (tgt : Int)) (hx : m_in x) (hy : m_in y)
theorem r_ceq (hd : decode me.2.2.1 pc = .ok (.if_icmp .eq off, 3)) (ht : (pc : Int) + off = (tgt : Int)) (hx : m_in x) (hy : m_in y) (kt : x = y → m_wp en d me tgt ls st s Q) (kf : ¬ x = y → m_wp en d me (pc + 3) ls st s Q) : m_wp en d me pc ls (.int (m_i y) :: .int (m_i x) :: st) s Q :=
  m_ic hd ht (fun h => kt ((m_i_eq hx hy).mp (by simpa [m_cmp] using h))) (fun h => kf (fun q => by simp [m_cmp, q] at h))
theorem r_cne (hd : decode me.2.2.1 pc = .ok (.if_icmp .ne off, 3)) (ht : (pc : Int) + off = (tgt : Int)) (hx : m_in x) (hy : m_in y) (kt : ¬ x = y → m_wp en d me tgt ls st s Q) (kf : x = y → m_wp en d me (pc + 3) ls st s Q) : m_wp en d me pc ls (.int (m_i y) :: .int (m_i x) :: st) s Q :=
  m_ic hd ht (fun h => kt (fun q => by simp [m_cmp, q] at h)) (fun h => kf ((m_i_eq hx hy).mp (by simpa [m_cmp] using h)))
theorem r_clt (hd : decode me.2.2.1 pc = .ok (.if_icmp .lt off, 3)) (ht : (pc : Int) + off = (tgt : Int)) (hx : m_in x) (hy : m_in y) (kt : x < y → m_wp en d me tgt ls st s Q) (kf : ¬ x < y → m_wp en d me (pc + 3) ls st s Q) : m_wp en d me pc ls (.int (m_i y) :: .int (m_i x) :: st) s Q :=
  m_ic hd ht (fun h => kt ((m_i_lt hx hy).mp (of_decide_eq_true h))) (fun h => kf (fun q => of_decide_eq_false h ((m_i_lt hx hy).mpr q)))
theorem r_cge (hd : decode me.2.2.1 pc = .ok (.if_icmp .ge off, 3)) (ht : (pc : Int) + off = (tgt : Int)) (hx : m_in x) (hy : m_in y) (kt : y ≤ x → m_wp en d me tgt ls st s Q) (kf : ¬ y ≤ x → m_wp en d me (pc + 3) ls st s Q) : m_wp en d me pc ls (.int (m_i y) :: .int (m_i x) :: st) s Q :=
  m_ic hd ht (fun h => kt ((m_i_le hy hx).mp (of_decide_eq_true h))) (fun h => kf (fun q => of_decide_eq_false h ((m_i_le hy hx).mpr q)))
theorem r_cgt (hd : decode me.2.2.1 pc = .ok (.if_icmp .gt off, 3)) (ht : (pc : Int) + off = (tgt : Int)) (hx : m_in x) (hy : m_in y) (kt : y < x → m_wp en d me tgt ls st s Q) (kf : ¬ y < x → m_wp en d me (pc + 3) ls st s Q) : m_wp en d me pc ls (.int (m_i y) :: .int (m_i x) :: st) s Q :=
  m_ic hd ht (fun h => kt ((m_i_lt hy hx).mp (of_decide_eq_true h))) (fun h => kf (fun q => of_decide_eq_false h ((m_i_lt hy hx).mpr q)))
theorem r_cle (hd : decode me.2.2.1 pc = .ok (.if_icmp .le off, 3)) (ht : (pc : Int) + off = (tgt : Int)) (hx : m_in x) (hy : m_in y) (kt : x ≤ y → m_wp en d me tgt ls st s Q) (kf : ¬ x ≤ y → m_wp en d me (pc + 3) ls st s Q) : m_wp en d me pc ls (.int (m_i y) :: .int (m_i x) :: st) s Q :=
  m_ic hd ht (fun h => kt ((m_i_le hx hy).mp (of_decide_eq_true h))) (fun h => kf (fun q => of_decide_eq_false h ((m_i_le hx hy).mpr q)))
theorem m_in0 : m_in 0 := ⟨by decide, by decide⟩
theorem r_zeq (hd : decode me.2.2.1 pc = .ok (.ifCond .eq off, 3)) (ht : (pc : Int) + off = (tgt : Int)) (hx : m_in x) (kt : x = 0 → m_wp en d me tgt ls st s Q) (kf : ¬ x = 0 → m_wp en d me (pc + 3) ls st s Q) : m_wp en d me pc ls (.int (m_i x) :: st) s Q :=
  m_if hd ht (fun h => kt ((m_i_eq hx m_in0).mp (of_decide_eq_true h))) (fun h => kf (fun q => of_decide_eq_false h ((m_i_eq hx m_in0).mpr q)))
theorem r_zne (hd : decode me.2.2.1 pc = .ok (.ifCond .ne off, 3)) (ht : (pc : Int) + off = (tgt : Int)) (hx : m_in x) (kt : ¬ x = 0 → m_wp en d me tgt ls st s Q) (kf : x = 0 → m_wp en d me (pc + 3) ls st s Q) : m_wp en d me pc ls (.int (m_i x) :: st) s Q :=
  m_if hd ht (fun h => kt (fun q => of_decide_eq_true h ((m_i_eq hx m_in0).mpr q))) (fun h => kf ((m_i_eq hx m_in0).mp (Classical.not_not.mp (of_decide_eq_false h))))
theorem r_zlt (hd : decode me.2.2.1 pc = .ok (.ifCond .lt off, 3)) (ht : (pc : Int) + off = (tgt : Int)) (hx : m_in x) (kt : x < 0 → m_wp en d me tgt ls st s Q) (kf : ¬ x < 0 → m_wp en d me (pc + 3) ls st s Q) : m_wp en d me pc ls (.int (m_i x) :: st) s Q :=
  m_if hd ht (fun h => kt ((m_i_lt hx m_in0).mp (of_decide_eq_true h))) (fun h => kf (fun q => of_decide_eq_false h ((m_i_lt hx m_in0).mpr q)))
theorem r_zge (hd : decode me.2.2.1 pc = .ok (.ifCond .ge off, 3)) (ht : (pc : Int) + off = (tgt : Int)) (hx : m_in x) (kt : 0 ≤ x → m_wp en d me tgt ls st s Q) (kf : ¬ 0 ≤ x → m_wp en d me (pc + 3) ls st s Q) : m_wp en d me pc ls (.int (m_i x) :: st) s Q :=
  m_if hd ht (fun h => kt ((m_i_le m_in0 hx).mp (of_decide_eq_true h))) (fun h => kf (fun q => of_decide_eq_false h ((m_i_le m_in0 hx).mpr q)))
theorem r_zgt (hd : decode me.2.2.1 pc = .ok (.ifCond .gt off, 3)) (ht : (pc : Int) + off = (tgt : Int)) (hx : m_in x) (kt : 0 < x → m_wp en d me tgt ls st s Q) (kf : ¬ 0 < x → m_wp en d me (pc + 3) ls st s Q) : m_wp en d me pc ls (.int (m_i x) :: st) s Q :=
  m_if hd ht (fun h => kt ((m_i_lt m_in0 hx).mp (of_decide_eq_true h))) (fun h => kf (fun q => of_decide_eq_false h ((m_i_lt m_in0 hx).mpr q)))
theorem r_zle (hd : decode me.2.2.1 pc = .ok (.ifCond .le off, 3)) (ht : (pc : Int) + off = (tgt : Int)) (hx : m_in x) (kt : x ≤ 0 → m_wp en d me tgt ls st s Q) (kf : ¬ x ≤ 0 → m_wp en d me (pc + 3) ls st s Q) : m_wp en d me pc ls (.int (m_i x) :: st) s Q :=
  m_if hd ht (fun h => kt ((m_i_le hx m_in0).mp (of_decide_eq_true h))) (fun h => kf (fun q => of_decide_eq_false h ((m_i_le hx m_in0).mpr q)))
end CMP
theorem r_ret (hd : decode me.2.2.1 pc = .ok (.return_, 1)) (hr : me.2.2.2.2 = none) (kk : Q none s) : m_wp en d me pc ls [] s Q := m_end hd (by simp only [m_st, hr]) kk
theorem r_iret {c : Int32} (hd : decode me.2.2.1 pc = .ok (.ireturn, 1)) (hr : me.2.2.2.2 = some .int) (kk : Q (some (.int c)) s) : m_wp en d me pc ls [.int c] s Q := m_end hd (by simp only [m_st, hr]) kk
theorem r_zret (hd : decode me.2.2.1 pc = .ok (.ireturn, 1)) (hr : me.2.2.2.2 = some .boolean) (hx : x = 0 ∨ x = 1) (kk : Q (some (.int (m_i x))) s) : m_wp en d me pc ls [.int (m_i x)] s Q := m_end hd (by
  simp only [m_st, hr]
  rw [if_pos]
  rcases hx with rfl | rfl
  · exact Or.inl rfl
  · exact Or.inr rfl) kk
theorem r_aret {a : Nat} {nm : String} (hd : decode me.2.2.1 pc = .ok (.areturn, 1)) (hr : me.2.2.2.2 = some (.object nm)) (kk : Q (some (.ref a)) s) : m_wp en d me pc ls [.ref a] s Q := m_end hd (by simp only [m_st, hr]) kk
/-- a call, by the callee's own law -/
theorem r_vir {q m' as st'} {b t n2 : Nat} (hd : decode me.2.2.1 pc = .ok (.invokevirtual q, 3)) (hB : m_B me.1 q = none) (hC : m_C me.1 q = some (0, m', n)) (hb : st[n]? = some (.ref b)) (hT : s.1 b = some (t, n2)) (ht : t = m'.1) (hi : m_inv m' (n + 1) st = some (.inr (.inr (m', as, st')))) (kk : m_call en d m' as s (fun v s' => m_wp en d me (pc + 3) ls (v.toList ++ st') s' Q)) : m_wp en d me pc ls st s Q :=
  m_do hd (by
    simp only [m_st, hB, hC, hb, hT]
    rw [if_pos ⟨trivial, ht⟩]
    exact hi) kk
theorem r_sta {q m' as st'} {kd : Nat} (hd : decode me.2.2.1 pc = .ok (.invokestatic q, 3)) (hB : m_B me.1 q = none) (hC : m_C me.1 q = some (kd, m', n)) (hk : kd = 1 ∨ kd = 3 ∨ kd = 20) (hi : m_inv m' n st = some (.inr (.inr (m', as, st')))) (kk : m_call en d m' as s (fun v s' => m_wp en d me (pc + 3) ls (v.toList ++ st') s' Q)) : m_wp en d me pc ls st s Q :=
  m_do hd (by
    simp only [m_st, hB, hC]
    rw [if_pos hk]
    exact hi) kk
theorem r_spe {q m' as st'} {kd b : Nat} (hd : decode me.2.2.1 pc = .ok (.invokespecial q, 3)) (hB : m_B me.1 q = none) (hC : m_C me.1 q = some (kd, m', n)) (hb : st[n]? = some (.ref b)) (hk : kd = 2 ∨ kd = 4) (hi : m_inv m' (n + 1) st = some (.inr (.inr (m', as, st')))) (kk : m_call en d m' as s (fun v s' => m_wp en d me (pc + 3) ls (v.toList ++ st') s' Q)) : m_wp en d me pc ls st s Q :=
  m_do hd (by
    simp only [m_st, hB, hC, hb]
    rw [if_pos hk]
    exact hi) kk
theorem r_obj {q a : Nat} (hd : decode me.2.2.1 pc = .ok (.invokespecial q, 3)) (hB : m_B me.1 q = some 13) (h8 : (st.map fun v => v.category).sum ≤ 8) (kk : m_wp en d me (pc + 3) ls st s Q) : m_wp en d me pc ls (.ref a :: st) s Q := m_next hd (by simp only [m_st, hB, m_bi]; rw [if_pos trivial, if_pos h8]; rfl) kk
theorem r_max {q : Nat} (hd : decode me.2.2.1 pc = .ok (.invokestatic q, 3)) (hB : m_B me.1 q = some 10) (h8 : (st.map fun v => v.category).sum ≤ 8) (hx : m_in x) (hy : m_in y) (kk : m_wp en d me (pc + 3) ls (.int (m_i (max x y)) :: st) s Q) : m_wp en d me pc ls (.int (m_i y) :: .int (m_i x) :: st) s Q := m_next hd (by
  simp only [m_st, hB, m_bi]
  rw [if_pos (by decide), if_pos h8]
  by_cases h : x < y
  · rw [if_pos ((m_i_lt hx hy).mpr h), show max x y = y by omega]; rfl
  · rw [if_neg (fun q => h ((m_i_lt hx hy).mp q)), show max x y = x by omega]; rfl) kk
theorem r_min {q : Nat} (hd : decode me.2.2.1 pc = .ok (.invokestatic q, 3)) (hB : m_B me.1 q = some 11) (h8 : (st.map fun v => v.category).sum ≤ 8) (hx : m_in x) (hy : m_in y) (kk : m_wp en d me (pc + 3) ls (.int (m_i (min x y)) :: st) s Q) : m_wp en d me pc ls (.int (m_i y) :: .int (m_i x) :: st) s Q := m_next hd (by
  simp only [m_st, hB, m_bi]
  rw [if_pos (by decide), if_pos h8]
  by_cases h : y < x
  · rw [if_pos ((m_i_lt hy hx).mpr h), show min x y = y by omega]; rfl
  · rw [if_neg (fun q => h ((m_i_lt hy hx).mp q)), show min x y = x by omega]; rfl) kk
theorem r_abs {q : Nat} (hd : decode me.2.2.1 pc = .ok (.invokestatic q, 3)) (hB : m_B me.1 q = some 12) (h8 : (st.map fun v => v.category).sum ≤ 8) (hx : m_in x) (kk : m_wp en d me (pc + 3) ls (.int (m_i (if 0 ≤ x then x else -x)) :: st) s Q) : m_wp en d me pc ls (.int (m_i x) :: st) s Q := m_next hd (by
  simp only [m_st, hB, m_bi]
  rw [if_pos (by decide), if_pos h8]
  have e0 : (0 : Int32) ≤ m_i x ↔ 0 ≤ x := m_i_le m_in0 hx
  by_cases h : 0 ≤ x
  · rw [if_pos (e0.mpr h), if_pos h]; rfl
  · rw [if_neg (fun q => h (e0.mp q)), if_neg h, show (0 : Int32) - m_i x = m_i (-x) by rw [show (0 : Int32) = m_i 0 from rfl, m_i_sub, Int.zero_sub]]; rfl) kk
end RI
section RH
variable {en : Nat → Nat} {d : Nat} {me : m_Me} {pc : Nat} {ls : m_L} {st : List Value} {T : Nat → Option (Nat × Nat)} {J : Nat → Nat → Int} {P : Nat → Nat → Option Nat} {L : Nat → Nat → Int64} {z w : Nat} {Q : m_Q} {a c j q n : Nat} {i v : Int}
theorem r_get {f : Nat} (hd : decode me.2.2.1 pc = .ok (.getfield q, 3)) (hf : m_fx me.1 q = some (f, c, j)) (h2 : f ≠ 2) (hT : T a = some (c, n)) (kk : m_wp en d me (pc + 3) ls (.int (m_i (J a j)) :: st) (T, m_I J, P, L, z, w) Q) : m_wp en d me pc ls (.ref a :: st) (T, m_I J, P, L, z, w) Q := m_getI hd hf h2 hT kk
theorem r_put (hd : decode me.2.2.1 pc = .ok (.putfield q, 3)) (hf : m_fx me.1 q = some (0, c, j)) (hT : T a = some (c, n)) (hB : en 0 ≤ a) (hF : (m_T c j).2.2.2 = false ∨ (me.2.1.name = "<init>" ∧ me.1 = c)) (kk : m_wp en d me (pc + 3) ls st (T, m_I (m_up J a j v), P, L, z, w) Q) : m_wp en d me pc ls (.int (m_i v) :: .ref a :: st) (T, m_I J, P, L, z, w) Q := m_putI hd hf hT hB hF (by rw [m_I_up]; exact kk)
theorem r_puz (hd : decode me.2.2.1 pc = .ok (.putfield q, 3)) (hf : m_fx me.1 q = some (1, c, j)) (hT : T a = some (c, n)) (hB : en 0 ≤ a) (hF : (m_T c j).2.2.2 = false ∨ (me.2.1.name = "<init>" ∧ me.1 = c)) (hv : v = 0 ∨ v = 1) (kk : m_wp en d me (pc + 3) ls st (T, m_I (m_up J a j v), P, L, z, w) Q) : m_wp en d me pc ls (.int (m_i v) :: .ref a :: st) (T, m_I J, P, L, z, w) Q := m_putZ hd hf hT hB hF (by rcases hv with rfl | rfl; exact Or.inl rfl; exact Or.inr rfl) (by rw [m_I_up]; exact kk)
theorem r_ix {i : Int} {n : Nat} (h0 : 0 ≤ i) (h1 : i < n) (hn : n < 2147483648) : (0 ≤ (m_i i).toInt ∧ (m_i i).toInt < n) ∧ (m_i i).toNatClampNeg = i.toNat := by
  rw [m_i_toInt ⟨by omega, by omega⟩]
  exact ⟨⟨h0, h1⟩, m_i_clamp h0 (by omega)⟩
theorem r_iald (hd : decode me.2.2.1 pc = .ok (.iaload, 1)) (hT : T a = some (20, n)) (hn : n < 2147483648) (h0 : 0 ≤ i) (h1 : i < n) (kk : m_wp en d me (pc + 1) ls (.int (m_i (J a i.toNat)) :: st) (T, m_I J, P, L, z, w) Q) : m_wp en d me pc ls (.int (m_i i) :: .ref a :: st) (T, m_I J, P, L, z, w) Q := by
  obtain ⟨⟨g0, g1⟩, g2⟩ := r_ix h0 h1 hn
  refine m_iald hd hT g0 g1 ?_
  rw [g2]
  exact kk
theorem r_sald (hd : decode me.2.2.1 pc = .ok (.saload, 1)) (hT : T a = some (23, n)) (hn : n < 2147483648) (h0 : 0 ≤ i) (h1 : i < n) (kk : m_wp en d me (pc + 1) ls (.int (m_i (J a i.toNat)) :: st) (T, m_I J, P, L, z, w) Q) : m_wp en d me pc ls (.int (m_i i) :: .ref a :: st) (T, m_I J, P, L, z, w) Q := by
  obtain ⟨⟨g0, g1⟩, g2⟩ := r_ix h0 h1 hn
  refine m_sald hd hT g0 g1 ?_
  rw [g2]
  exact kk
theorem r_bald {t : Nat} (hd : decode me.2.2.1 pc = .ok (.baload, 1)) (hT : T a = some (t, n)) (ht : t = 21 ∨ t = 22) (hn : n < 2147483648) (h0 : 0 ≤ i) (h1 : i < n) (kk : m_wp en d me (pc + 1) ls (.int (m_i (J a i.toNat)) :: st) (T, m_I J, P, L, z, w) Q) : m_wp en d me pc ls (.int (m_i i) :: .ref a :: st) (T, m_I J, P, L, z, w) Q := by
  obtain ⟨⟨g0, g1⟩, g2⟩ := r_ix h0 h1 hn
  refine m_bald hd hT ht g0 g1 ?_
  rw [g2]
  exact kk
theorem r_iast (hd : decode me.2.2.1 pc = .ok (.iastore, 1)) (hT : T a = some (20, n)) (hn : n < 2147483648) (h0 : 0 ≤ i) (h1 : i < n) (hB : en 0 ≤ a) (kk : m_wp en d me (pc + 1) ls st (T, m_I (m_up J a i.toNat v), P, L, z, w) Q) : m_wp en d me pc ls (.int (m_i v) :: .int (m_i i) :: .ref a :: st) (T, m_I J, P, L, z, w) Q := by
  obtain ⟨⟨g0, g1⟩, g2⟩ := r_ix h0 h1 hn
  refine m_iast hd hT g0 g1 hB ?_
  rw [g2, m_I_up]
  exact kk
theorem r_sast (hd : decode me.2.2.1 pc = .ok (.sastore, 1)) (hT : T a = some (23, n)) (hn : n < 2147483648) (h0 : 0 ≤ i) (h1 : i < n) (hB : en 0 ≤ a) (hv : m_s16 v = v) (kk : m_wp en d me (pc + 1) ls st (T, m_I (m_up J a i.toNat v), P, L, z, w) Q) : m_wp en d me pc ls (.int (m_i v) :: .int (m_i i) :: .ref a :: st) (T, m_I J, P, L, z, w) Q := by
  obtain ⟨⟨g0, g1⟩, g2⟩ := r_ix h0 h1 hn
  refine m_sast hd hT g0 g1 hB ?_
  rw [g2, show (m_i v).toInt16.toInt32 = m_i v by rw [← m_i_self ((m_i v).toInt16.toInt32)]; exact congrArg m_i hv, m_I_up]
  exact kk
theorem r_bast (hd : decode me.2.2.1 pc = .ok (.bastore, 1)) (hT : T a = some (21, n)) (hn : n < 2147483648) (h0 : 0 ≤ i) (h1 : i < n) (hB : en 0 ≤ a) (kk : m_wp en d me (pc + 1) ls st (T, m_I (m_up J a i.toNat (m_b8 v)), P, L, z, w) Q) : m_wp en d me pc ls (.int (m_i v) :: .int (m_i i) :: .ref a :: st) (T, m_I J, P, L, z, w) Q := by
  obtain ⟨⟨g0, g1⟩, g2⟩ := r_ix h0 h1 hn
  refine m_bast hd hT g0 g1 hB ?_
  rw [g2, show (m_i v).toInt8.toInt32 = m_i (m_b8 v) from (m_i_self _).symm, m_I_up]
  exact kk
theorem r_zast (hd : decode me.2.2.1 pc = .ok (.bastore, 1)) (hT : T a = some (22, n)) (hn : n < 2147483648) (h0 : 0 ≤ i) (h1 : i < n) (hB : en 0 ≤ a) (hv : v = 0 ∨ v = 1) (kk : m_wp en d me (pc + 1) ls st (T, m_I (m_up J a i.toNat v), P, L, z, w) Q) : m_wp en d me pc ls (.int (m_i v) :: .int (m_i i) :: .ref a :: st) (T, m_I J, P, L, z, w) Q := by
  obtain ⟨⟨g0, g1⟩, g2⟩ := r_ix h0 h1 hn
  refine m_zast hd hT g0 g1 hB (by rcases hv with rfl | rfl; exact Or.inl rfl; exact Or.inr rfl) ?_
  rw [g2, m_I_up]
  exact kk
theorem r_alen {t : Nat} (hd : decode me.2.2.1 pc = .ok (.arraylength, 1)) (hT : T a = some (t, n)) (ht : 20 ≤ t) (kk : m_wp en d me (pc + 1) ls (.int (m_i (n : Int)) :: st) (T, m_I J, P, L, z, w) Q) : m_wp en d me pc ls (.ref a :: st) (T, m_I J, P, L, z, w) Q := m_alen hd hT ht kk
end RH
