/-! bits of whole numbers -/
theorem m_i_tn (x : Int) : (m_i x).toBitVec.toNat = (x % 4294967296).toNat := by
  show (BitVec.ofInt 32 x).toNat = _
  rw [BitVec.toNat_ofInt]
  rfl
theorem m_tI (v : Int32) (h : v.toBitVec.toNat < 2147483648) : v.toInt = (v.toBitVec.toNat : Int) := by
  show v.toBitVec.toInt = _
  exact BitVec.toInt_eq_toNat_of_lt (by omega)
theorem m_and_v {x y : Int} (hx : 0 ≤ x ∧ x < 2147483648) (hy : 0 ≤ y ∧ y < 2147483648) : m_and x y = ((x.toNat &&& y.toNat : Nat) : Int) := by
  unfold m_and
  have e : (m_i x &&& m_i y).toBitVec.toNat = x.toNat &&& y.toNat := by
    rw [Int32.toBitVec_and, BitVec.toNat_and, m_i_tn, m_i_tn, show (x % 4294967296).toNat = x.toNat by omega, show (y % 4294967296).toNat = y.toNat by omega]
  have h1 : x.toNat &&& y.toNat ≤ x.toNat := Nat.and_le_left
  rw [m_tI _ (by rw [e]; omega), e]
theorem m_and_n (x : Int) (n : Nat) (hn : n ≤ 31) : m_and x ((2 ^ n - 1 : Nat) : Int) = (((x % 4294967296).toNat % 2 ^ n : Nat) : Int) := by
  have h0 : 2 ^ n ≤ 2 ^ 31 := Nat.pow_le_pow_right (by omega) hn
  have h1 : 0 < 2 ^ n := Nat.pow_pos (by omega)
  unfold m_and
  have e : (m_i x &&& m_i ((2 ^ n - 1 : Nat) : Int)).toBitVec.toNat = (x % 4294967296).toNat % 2 ^ n := by
    rw [Int32.toBitVec_and, BitVec.toNat_and, m_i_tn, m_i_tn, show (((2 ^ n - 1 : Nat) : Int) % 4294967296).toNat = 2 ^ n - 1 by omega, Nat.and_two_pow_sub_one_eq_mod]
  have h2 : (x % 4294967296).toNat % 2 ^ n < 2 ^ n := Nat.mod_lt _ h1
  rw [m_tI _ (by rw [e]; omega), e]
theorem m_and_1 (x : Int) : m_and x 1 = x % 2 := by
  have h := m_and_n x 1 (by omega)
  rw [show ((2 ^ 1 - 1 : Nat) : Int) = 1 from rfl] at h
  rw [h]
  omega
theorem m_and_3 (x : Int) : m_and x 3 = x % 4 := by
  have h := m_and_n x 2 (by omega)
  rw [show ((2 ^ 2 - 1 : Nat) : Int) = 3 from rfl] at h
  rw [h]
  omega
theorem m_and_7 (x : Int) : m_and x 7 = x % 8 := by
  have h := m_and_n x 3 (by omega)
  rw [show ((2 ^ 3 - 1 : Nat) : Int) = 7 from rfl] at h
  rw [h]
  omega
theorem m_and_15 (x : Int) : m_and x 15 = x % 16 := by
  have h := m_and_n x 4 (by omega)
  rw [show ((2 ^ 4 - 1 : Nat) : Int) = 15 from rfl] at h
  rw [h]
  omega
theorem m_and_255 (x : Int) : m_and x 255 = x % 256 := by
  have h := m_and_n x 8 (by omega)
  rw [show ((2 ^ 8 - 1 : Nat) : Int) = 255 from rfl] at h
  rw [h]
  omega
theorem m_and_31b (x : Int) : m_and x 2147483647 = x % 2147483648 := by
  have h := m_and_n x 31 (by omega)
  rw [show ((2 ^ 31 - 1 : Nat) : Int) = 2147483647 from rfl] at h
  rw [h]
  omega
theorem m_sl : ∀ n : Nat, n < 32 → ((m_i (n : Int) &&& 31).toBitVec.smod 32).toNat = n := by decide +kernel
theorem m_shr_v {x k : Int} (hx : m_in x) (n : Nat) (hk : k = n) (hn : n < 32) : m_shr x k = x / ((2 ^ n : Nat) : Int) := by
  subst hk
  unfold m_shr
  rw [pk_shr _ _ n (m_sl n hn), m_i_toInt hx, Int.shiftRight_eq_div_pow]
theorem m_shl_v {x k : Int} (hx : 0 ≤ x ∧ x < 2147483648) (n : Nat) (hk : k = n) (hn : n < 32) (h : x * ((2 ^ n : Nat) : Int) < 2147483648) : m_shl x k = x * ((2 ^ n : Nat) : Int) := by
  subst hk
  unfold m_shl
  obtain ⟨a, rfl⟩ : ∃ a : Nat, x = a := ⟨x.toNat, by omega⟩
  have h2 : a * 2 ^ n < 2147483648 := by
    rw [← Int.natCast_mul] at h
    omega
  have e : (m_i (a : Int) <<< (m_i (n : Int) &&& 31)).toBitVec.toNat = a * 2 ^ n := by
    rw [pk_shl _ _ n (m_sl n hn), m_i_tn, show ((a : Int) % 4294967296).toNat = a by omega]
    omega
  rw [m_tI _ (by rw [e]; exact h2), e]
  exact Int.natCast_mul a (2 ^ n)
theorem m_or_v {x y : Int} (hx : 0 ≤ x ∧ x < 2147483648) (hy : 0 ≤ y ∧ y < 2147483648) : m_or x y = ((x.toNat ||| y.toNat : Nat) : Int) := by
  unfold m_or
  have e : (m_i x ||| m_i y).toBitVec.toNat = x.toNat ||| y.toNat := by
    rw [Int32.toBitVec_or, BitVec.toNat_or, m_i_tn, m_i_tn, show (x % 4294967296).toNat = x.toNat by omega, show (y % 4294967296).toNat = y.toNat by omega]
  have h1 : x.toNat ||| y.toNat < 2 ^ 31 := Nat.or_lt_two_pow (by omega) (by omega)
  rw [m_tI _ (by rw [e]; omega), e]
/-- a number's high part and its low part -/
theorem m_or_d {q b : Int} (n : Nat) (hq : 0 ≤ q) (hb : 0 ≤ b ∧ b < ((2 ^ n : Nat) : Int)) (h : q * ((2 ^ n : Nat) : Int) + b < 2147483648) : m_or (q * ((2 ^ n : Nat) : Int)) b = q * ((2 ^ n : Nat) : Int) + b := by
  obtain ⟨a, rfl⟩ : ∃ a : Nat, q = a := ⟨q.toNat, by omega⟩
  obtain ⟨c, rfl⟩ : ∃ c : Nat, b = c := ⟨b.toNat, by omega⟩
  have hc : c < 2 ^ n := by
    have := hb.2
    omega
  have h0 : (a : Int) * ((2 ^ n : Nat) : Int) = ((2 ^ n * a : Nat) : Int) := by rw [Int.natCast_mul, Int.mul_comm]
  rw [h0] at h ⊢
  have e := Nat.two_pow_add_eq_or_of_lt hc a
  rw [m_or_v (by omega) (by omega), Int.toNat_natCast, Int.toNat_natCast, ← e]
  exact Int.natCast_add _ _
theorem m_bit {x k : Int} (hx : m_in x) (n : Nat) (hk : k = n) (hn : n < 32) : m_and (m_shr x k) 1 = x / ((2 ^ n : Nat) : Int) % 2 := by
  rw [m_and_1, m_shr_v hx n hk hn]
