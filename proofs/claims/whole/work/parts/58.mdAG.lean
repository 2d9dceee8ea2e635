/-! pulses of the reference -/
def a_f2 : Nat → Nat → Nat
  | 0, B => B
  | n + 1, B => a_f2 n (2 * B + 1)
theorem a_pl_bd (e : Int) : ∀ (n : Nat) (left : Int) (t : Int × Int × Int) (B : Nat), (-(B : Int) ≤ t.1 ∧ t.1 ≤ B) → (-(B : Int) ≤ t.2.1 ∧ t.2.1 ≤ B) → (-(B : Int) ≤ t.2.2 ∧ t.2.2 ≤ B) → (-(a_f2 n B : Int) ≤ (a_pl e n left t).1 ∧ (a_pl e n left t).1 ≤ a_f2 n B) ∧ (-(a_f2 n B : Int) ≤ (a_pl e n left t).2.1 ∧ (a_pl e n left t).2.1 ≤ a_f2 n B) ∧ (-(a_f2 n B : Int) ≤ (a_pl e n left t).2.2 ∧ (a_pl e n left t).2.2 ≤ a_f2 n B) := by
  intro n
  induction n with
  | zero => intro left t B h1 h2 h3; exact ⟨h1, h2, h3⟩
  | succ n ih =>
    intro left t B h1 h2 h3
    have hg := a_grm (e := e) (v := t.2.1)
    exact ih (left / 3) (t.1 + (left % 3 - 1), a_gr e * t.2.1 - t.2.2 - (left % 3 - 1), t.2.1) (2 * B + 1) (by simp only; omega) (by simp only; omega) (by simp only; omega)
theorem a_f2_8 : ∀ n : Nat, n < 9 → a_f2 n 0 ≤ 255 := by decide
def a_p3 : Nat → Nat
  | 0 => 1
  | n + 1 => a_p3 n * 3
theorem a_p3_8 : ∀ n : Nat, n < 9 → a_p3 n ≤ 6561 := by decide
/-- how many of the first k codes end so -/
def a_cp (e n dd : Int) : Nat → Int
  | 0 => 0
  | k + 1 => a_cp e n dd k + (if (a_pl e n.toNat (k : Int) (0, 0, 0)).1 = dd ∧ (a_pl e n.toNat (k : Int) (0, 0, 0)).2.1 = 0 ∧ (a_pl e n.toNat (k : Int) (0, 0, 0)).2.2 = 0 then 1 else 0)
section MDAG
variable {en : Nat → Nat} {d : Nat} {T : Nat → Option (Nat × Nat)} {J J0 J1 : Nat → Nat → Int} {P : Nat → Nat → Option Nat} {L : Nat → Nat → Int64} {z w M : Nat} {Q : m_Q} {σ : a_S}
theorem l_Md_pulsesB2 {e n dd : Int} {all : Nat} (he : 1 ≤ e ∧ e ≤ 6) (hn : 0 ≤ n ∧ n ≤ 8) (hd : -8 ≤ dd ∧ dd ≤ 8) (ha : all ≤ 6561) (hq : Q (some (.int (m_i (a_cp e n dd all)))) (T, m_I J, P, L, z, w)) :
    ∀ (m k : Nat) (o6 o7 o8 o9 o10 o1 o2 : Option Value), k + m = all → m_wp en (d + 1) mMd_pulsesBy 27 [some (.int (m_i e)), some (.int (m_i n)), some (.int (m_i dd)), some (.int (m_i (all : Int))), some (.int (m_i (a_cp e n dd k))), some (.int (m_i (k : Int))), o6, o7, o8, o9, o10, o1, o2] [] (T, m_I J, P, L, z, w) Q := by
  intro m
  induction m with
  | zero =>
    intro k o6 o7 o8 o9 o10 o1 o2 hk
    obtain rfl : k = all := by omega
    refine r_il eMd_pulsesBy_27 rfl ?_
    refine r_iln eMd_pulsesBy_29 rfl ?_
    refine r_cge (tgt := 137) eMd_pulsesBy_30 rfl ⟨(by omega), (by omega)⟩ ⟨(by omega), (by omega)⟩ (fun c30 => ?_) (fun c30 => ?_)
    · refine r_il eMd_pulsesBy_137 rfl ?_
      refine r_iret eMd_pulsesBy_139 rfl ?_
      exact hq
    · exfalso; omega
  | succ m ih =>
    intro k o6 o7 o8 o9 o10 o1 o2 hk
    have hi := fun o6 o7 o8 o9 o10 o1 o2 => ih (k + 1) o6 o7 o8 o9 o10 o1 o2 (by omega)
    unfold a_cp at hi
    have hb := a_pl_bd e n.toNat (k : Int) (0, 0, 0) 0 (by simp) (by simp) (by simp)
    have hf := a_f2_8 n.toNat (by omega)
    refine r_il eMd_pulsesBy_27 rfl ?_
    refine r_iln eMd_pulsesBy_29 rfl ?_
    refine r_cge (tgt := 137) eMd_pulsesBy_30 rfl ⟨(by omega), (by omega)⟩ ⟨(by omega), (by omega)⟩ (fun c30 => ?_) (fun c30 => ?_)
    · exfalso; omega
    · refine r_il eMd_pulsesBy_33 rfl ?_
      refine r_is (ls' := [some (.int (m_i (e))), some (.int (m_i (n))), some (.int (m_i (dd))), some (.int (m_i ((all : Int)))), some (.int (m_i (a_cp e n dd k))), some (.int (m_i ((k : Int)))), some (.int (m_i ((k : Int)))), o7, o8, o9, o10, o1, o2]) eMd_pulsesBy_35 (Nat.le_of_ble_eq_true rfl) rfl ?_
      refine r_con eMd_pulsesBy_37 ?_
      refine r_is (ls' := [some (.int (m_i (e))), some (.int (m_i (n))), some (.int (m_i (dd))), some (.int (m_i ((all : Int)))), some (.int (m_i (a_cp e n dd k))), some (.int (m_i ((k : Int)))), some (.int (m_i ((k : Int)))), some (.int (m_i (0))), o8, o9, o10, o1, o2]) eMd_pulsesBy_38 (Nat.le_of_ble_eq_true rfl) rfl ?_
      refine r_con eMd_pulsesBy_40 ?_
      refine r_is (ls' := [some (.int (m_i (e))), some (.int (m_i (n))), some (.int (m_i (dd))), some (.int (m_i ((all : Int)))), some (.int (m_i (a_cp e n dd k))), some (.int (m_i ((k : Int)))), some (.int (m_i ((k : Int)))), some (.int (m_i (0))), some (.int (m_i (0))), o9, o10, o1, o2]) eMd_pulsesBy_41 (Nat.le_of_ble_eq_true rfl) rfl ?_
      refine r_con eMd_pulsesBy_43 ?_
      refine r_is (ls' := [some (.int (m_i (e))), some (.int (m_i (n))), some (.int (m_i (dd))), some (.int (m_i ((all : Int)))), some (.int (m_i (a_cp e n dd k))), some (.int (m_i ((k : Int)))), some (.int (m_i ((k : Int)))), some (.int (m_i (0))), some (.int (m_i (0))), some (.int (m_i (0))), o10, o1, o2]) eMd_pulsesBy_44 (Nat.le_of_ble_eq_true rfl) rfl ?_
      refine r_con eMd_pulsesBy_46 ?_
      refine r_is (ls' := [some (.int (m_i (e))), some (.int (m_i (n))), some (.int (m_i (dd))), some (.int (m_i ((all : Int)))), some (.int (m_i (a_cp e n dd k))), some (.int (m_i ((k : Int)))), some (.int (m_i ((k : Int)))), some (.int (m_i (0))), some (.int (m_i (0))), some (.int (m_i (0))), some (.int (m_i (0))), o1, o2]) eMd_pulsesBy_47 (Nat.le_of_ble_eq_true rfl) rfl ?_
      refine l_Md_pulsesBy he hn ?_ n.toNat 0 (k : Int) (0, 0, 0) o1 o2 (by omega) (by omega) (by omega) rfl
      intro t left p1 p2 ht
      rw [ht] at hb hi
      refine r_il eMd_pulsesBy_105 rfl ?_
      refine r_il eMd_pulsesBy_107 rfl ?_
      refine r_iln eMd_pulsesBy_109 rfl ?_
      refine r_cne (tgt := 127) eMd_pulsesBy_110 rfl ⟨(by omega), (by omega)⟩ ⟨(by omega), (by omega)⟩ (fun c110 => ?_) (fun c110 => ?_)
      · refine r_con eMd_pulsesBy_127 ?_
        refine r_add eMd_pulsesBy_128 ?_
        refine r_is (ls' := [some (.int (m_i (e))), some (.int (m_i (n))), some (.int (m_i (dd))), some (.int (m_i ((all : Int)))), some (.int (m_i ((a_cp e n dd k) + (0)))), some (.int (m_i ((k : Int)))), some (.int (m_i (left))), some (.int (m_i (t.1))), some (.int (m_i (t.2.1))), some (.int (m_i (t.2.2))), some (.int (m_i (n))), p1, p2]) eMd_pulsesBy_129 (Nat.le_of_ble_eq_true rfl) rfl ?_
        refine r_inc (ls' := [some (.int (m_i (e))), some (.int (m_i (n))), some (.int (m_i (dd))), some (.int (m_i ((all : Int)))), some (.int (m_i ((a_cp e n dd k) + (0)))), some (.int (m_i ((k : Int) + 1))), some (.int (m_i (left))), some (.int (m_i (t.1))), some (.int (m_i (t.2.1))), some (.int (m_i (t.2.2))), some (.int (m_i (n))), p1, p2]) eMd_pulsesBy_131 rfl rfl ?_
        refine r_go (tgt := 27) eMd_pulsesBy_134 rfl ?_
        (first | rw [if_pos (by omega)] at hi | rw [if_neg (by omega)] at hi)
        exact hi _ _ _ _ _ _ _
      · refine r_il eMd_pulsesBy_113 rfl ?_
        refine r_zne (tgt := 127) eMd_pulsesBy_115 rfl ⟨(by omega), (by omega)⟩ (fun c115 => ?_) (fun c115 => ?_)
        · refine r_con eMd_pulsesBy_127 ?_
          refine r_add eMd_pulsesBy_128 ?_
          refine r_is (ls' := [some (.int (m_i (e))), some (.int (m_i (n))), some (.int (m_i (dd))), some (.int (m_i ((all : Int)))), some (.int (m_i ((a_cp e n dd k) + (0)))), some (.int (m_i ((k : Int)))), some (.int (m_i (left))), some (.int (m_i (t.1))), some (.int (m_i (t.2.1))), some (.int (m_i (t.2.2))), some (.int (m_i (n))), p1, p2]) eMd_pulsesBy_129 (Nat.le_of_ble_eq_true rfl) rfl ?_
          refine r_inc (ls' := [some (.int (m_i (e))), some (.int (m_i (n))), some (.int (m_i (dd))), some (.int (m_i ((all : Int)))), some (.int (m_i ((a_cp e n dd k) + (0)))), some (.int (m_i ((k : Int) + 1))), some (.int (m_i (left))), some (.int (m_i (t.1))), some (.int (m_i (t.2.1))), some (.int (m_i (t.2.2))), some (.int (m_i (n))), p1, p2]) eMd_pulsesBy_131 rfl rfl ?_
          refine r_go (tgt := 27) eMd_pulsesBy_134 rfl ?_
          (first | rw [if_pos (by omega)] at hi | rw [if_neg (by omega)] at hi)
          exact hi _ _ _ _ _ _ _
        · refine r_il eMd_pulsesBy_118 rfl ?_
          refine r_zne (tgt := 127) eMd_pulsesBy_120 rfl ⟨(by omega), (by omega)⟩ (fun c120 => ?_) (fun c120 => ?_)
          · refine r_con eMd_pulsesBy_127 ?_
            refine r_add eMd_pulsesBy_128 ?_
            refine r_is (ls' := [some (.int (m_i (e))), some (.int (m_i (n))), some (.int (m_i (dd))), some (.int (m_i ((all : Int)))), some (.int (m_i ((a_cp e n dd k) + (0)))), some (.int (m_i ((k : Int)))), some (.int (m_i (left))), some (.int (m_i (t.1))), some (.int (m_i (t.2.1))), some (.int (m_i (t.2.2))), some (.int (m_i (n))), p1, p2]) eMd_pulsesBy_129 (Nat.le_of_ble_eq_true rfl) rfl ?_
            refine r_inc (ls' := [some (.int (m_i (e))), some (.int (m_i (n))), some (.int (m_i (dd))), some (.int (m_i ((all : Int)))), some (.int (m_i ((a_cp e n dd k) + (0)))), some (.int (m_i ((k : Int) + 1))), some (.int (m_i (left))), some (.int (m_i (t.1))), some (.int (m_i (t.2.1))), some (.int (m_i (t.2.2))), some (.int (m_i (n))), p1, p2]) eMd_pulsesBy_131 rfl rfl ?_
            refine r_go (tgt := 27) eMd_pulsesBy_134 rfl ?_
            (first | rw [if_pos (by omega)] at hi | rw [if_neg (by omega)] at hi)
            exact hi _ _ _ _ _ _ _
          · refine r_con eMd_pulsesBy_123 ?_
            refine r_go (tgt := 128) eMd_pulsesBy_124 rfl ?_
            refine r_add eMd_pulsesBy_128 ?_
            refine r_is (ls' := [some (.int (m_i (e))), some (.int (m_i (n))), some (.int (m_i (dd))), some (.int (m_i ((all : Int)))), some (.int (m_i ((a_cp e n dd k) + (1)))), some (.int (m_i ((k : Int)))), some (.int (m_i (left))), some (.int (m_i (t.1))), some (.int (m_i (t.2.1))), some (.int (m_i (t.2.2))), some (.int (m_i (n))), p1, p2]) eMd_pulsesBy_129 (Nat.le_of_ble_eq_true rfl) rfl ?_
            refine r_inc (ls' := [some (.int (m_i (e))), some (.int (m_i (n))), some (.int (m_i (dd))), some (.int (m_i ((all : Int)))), some (.int (m_i ((a_cp e n dd k) + (1)))), some (.int (m_i ((k : Int) + 1))), some (.int (m_i (left))), some (.int (m_i (t.1))), some (.int (m_i (t.2.1))), some (.int (m_i (t.2.2))), some (.int (m_i (n))), p1, p2]) eMd_pulsesBy_131 rfl rfl ?_
            refine r_go (tgt := 27) eMd_pulsesBy_134 rfl ?_
            (first | rw [if_pos (by omega)] at hi | rw [if_neg (by omega)] at hi)
            exact hi _ _ _ _ _ _ _
end MDAG
