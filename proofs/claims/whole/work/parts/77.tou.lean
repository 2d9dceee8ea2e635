/-! tour of the reference -/
def a_bit (b t : Int) : Int := m_and (m_shr b t) 1
def a_set (b t : Int) : Int := m_or b (m_shl 1 t)
theorem a_bs_d : ∀ b : Nat, b < 64 → ∀ t : Nat, t < 6 → (a_bit (b : Int) (t : Int) = 0 ∨ a_bit (b : Int) (t : Int) = 1) ∧ 0 ≤ a_set (b : Int) (t : Int) ∧ a_set (b : Int) (t : Int) < 64 ∧ (a_bit (b : Int) (t : Int) ≠ 1 → (b : Int) < a_set (b : Int) (t : Int)) := by decide +kernel
theorem a_bs {b t : Int} (hb : 0 ≤ b ∧ b < 64) (ht : 0 ≤ t ∧ t < 6) : (a_bit b t = 0 ∨ a_bit b t = 1) ∧ 0 ≤ a_set b t ∧ a_set b t < 64 ∧ (a_bit b t ≠ 1 → b < a_set b t) := by
  obtain ⟨n, rfl⟩ : ∃ n : Nat, b = n := ⟨b.toNat, by omega⟩
  obtain ⟨m, rfl⟩ : ∃ m : Nat, t = m := ⟨t.toNat, by omega⟩
  exact a_bs_d n (by omega) m (by omega)
/-- all spots, as bits -/
def a_fu (n : Int) : Int := m_shl 1 n - 1
theorem a_fu_d : ∀ n : Nat, n < 7 → 0 ≤ a_fu (n : Int) ∧ a_fu (n : Int) < 64 ∧ ∀ b : Nat, b < 64 → ∀ t : Nat, t < 6 → (b : Int) ≤ a_fu (n : Int) → t < n → a_set (b : Int) (t : Int) ≤ a_fu (n : Int) := by decide +kernel
theorem a_fu_b {n : Int} (hn : 0 ≤ n ∧ n ≤ 6) : (0 ≤ a_fu n ∧ a_fu n < 64) ∧ ∀ b t : Int, 0 ≤ b → b ≤ a_fu n → 0 ≤ t → t < n → a_set b t ≤ a_fu n := by
  obtain ⟨m, rfl⟩ : ∃ m : Nat, n = m := ⟨n.toNat, by omega⟩
  obtain ⟨h1, h2, h3⟩ := a_fu_d m (by omega)
  refine ⟨⟨h1, h2⟩, fun b t b0 b1 t0 t1 => ?_⟩
  obtain ⟨x, rfl⟩ : ∃ x : Nat, b = x := ⟨b.toNat, by omega⟩
  obtain ⟨y, rfl⟩ : ∃ y : Nat, t = y := ⟨t.toNat, by omega⟩
  exact h3 x (by omega) y (by omega) b1 (by omega)
/-- the least that is left, over the first k spots -/
def a_lm (tb lf : Nat → Int) (b f : Int) : Nat → Int
  | 0 => 30000
  | k + 1 => if a_bit b (k : Int) = 1 then a_lm tb lf b f k else a_mn (tb (6 * f + (k : Int)).toNat + lf (7 * a_set b (k : Int) + (k : Int)).toNat) (a_lm tb lf b f k)
def a_ll (tb lf : Nat → Int) (n b f : Int) : Int := if b = a_fu n then 0 else if f < n ∨ f = 6 then a_lm tb lf b f n.toNat else 30000
theorem a_lm_cg {tb lf lf2 : Nat → Int} {b f : Int} (hb : 0 ≤ b ∧ b < 64) {n : Nat} (hn : n ≤ 6) (h : ∀ b' t : Int, b < b' → b' < 64 → 0 ≤ t → t < 6 → lf2 (7 * b' + t).toNat = lf (7 * b' + t).toNat) : ∀ k : Nat, k ≤ n → a_lm tb lf2 b f k = a_lm tb lf b f k := by
  intro k
  induction k with
  | zero => intro _; rfl
  | succ k ih =>
    intro hk
    have hbs := a_bs hb (t := (k : Int)) (by omega)
    unfold a_lm
    rw [ih (by omega)]
    by_cases q : a_bit b (k : Int) = 1
    · rw [if_pos q, if_pos q]
    · rw [if_neg q, if_neg q, h _ _ (hbs.2.2.2 q) hbs.2.2.1 (by omega) (by omega)]
theorem a_ll_cg {tb lf lf2 : Nat → Int} {n b f : Int} (hn : 0 ≤ n ∧ n ≤ 6) (hb : 0 ≤ b ∧ b < 64) (h : ∀ b' t : Int, b < b' → b' < 64 → 0 ≤ t → t < 6 → lf2 (7 * b' + t).toNat = lf (7 * b' + t).toNat) : a_ll tb lf2 n b f = a_ll tb lf n b f := by
  unfold a_ll
  rw [a_lm_cg hb (n := n.toNat) (by omega) h n.toNat (Nat.le_refl _)]
/-- bounds of a table -/
def a_tbb (tb : Nat → Int) (n : Int) : Prop := ∀ f t : Int, (0 ≤ f ∧ f < n) ∨ f = 6 → 0 ≤ t ∧ t < n → 0 ≤ tb (6 * f + t).toNat ∧ tb (6 * f + t).toNat ≤ 30000
theorem a_mn_bd {x y : Int} (hx : 0 ≤ x) (hy : 0 ≤ y ∧ y ≤ 30000) : 0 ≤ a_mn x y ∧ a_mn x y ≤ 30000 := by
  unfold a_mn
  split <;> omega
theorem a_lm_bd {tb lf : Nat → Int} {n b f : Int} (hn : 0 ≤ n ∧ n ≤ 6) (hb : 0 ≤ b ∧ b < 64) (hf : (0 ≤ f ∧ f < n) ∨ f = 6) (htb : a_tbb tb n) (hl : ∀ b' t : Int, b < b' → b' < 64 → 0 ≤ t → t < n → b' ≤ a_fu n → 0 ≤ lf (7 * b' + t).toNat ∧ lf (7 * b' + t).toNat ≤ 30000) (hbf : b ≤ a_fu n) : ∀ k : Nat, (k : Int) ≤ n → 0 ≤ a_lm tb lf b f k ∧ a_lm tb lf b f k ≤ 30000 := by
  intro k
  induction k with
  | zero => intro _; unfold a_lm; omega
  | succ k ih =>
    intro hk
    have hbs := a_bs hb (t := (k : Int)) (by omega)
    have i := ih (by omega)
    have h1 := htb f (k : Int) hf (by omega)
    unfold a_lm
    by_cases q : a_bit b (k : Int) = 1
    · rw [if_pos q]; exact i
    · rw [if_neg q]
      have h2 := hl _ (k : Int) (hbs.2.2.2 q) hbs.2.2.1 (by omega) (by omega) ((a_fu_b hn).2 b k hb.1 hbf (by omega) (by omega))
      exact a_mn_bd (by omega) i
section MDTO
variable {en : Nat → Nat} {d : Nat} {T : Nat → Option (Nat × Nat)} {J J0 J1 : Nat → Nat → Int} {P : Nat → Nat → Option Nat} {L : Nat → Nat → Int64} {z w M : Nat} {Q : m_Q} {σ : a_S}
theorem l_Md_leastLeft (hM : md_sh en M T P) {b f n : Int} (hn : 0 ≤ n ∧ n ≤ 6) (hb : 0 ≤ b ∧ b < 64) (hbf : b ≤ a_fu n) (hf : (0 ≤ f ∧ f < n) ∨ f = 6) (htb : a_tbb (J (M + 24)) n) (hl : ∀ b' t : Int, b < b' → b' < 64 → 0 ≤ t → t < n → b' ≤ a_fu n → 0 ≤ J (M + 25) (7 * b' + t).toNat ∧ J (M + 25) (7 * b' + t).toNat ≤ 30000)
    (hq : Q (some (.int (m_i (a_lm (J (M + 24)) (J (M + 25)) b f n.toNat)))) (T, m_I J, P, L, z, w)) :
    ∀ (m k : Nat) (o6 : Option Value), (k : Int) + m = n → m_wp en d mMd_leastLeft 26 [some (.ref M), some (.int (m_i b)), some (.int (m_i f)), some (.int (m_i n)), some (.int (m_i (a_lm (J (M + 24)) (J (M + 25)) b f k))), some (.int (m_i (k : Int))), o6] [] (T, m_I J, P, L, z, w) Q := by
  intro m
  induction m with
  | zero =>
    intro k o6 hk
    have e : n.toNat = k := by omega
    rw [e] at hq
    refine r_il eMd_leastLeft_26 rfl ?_
    refine r_iln eMd_leastLeft_28 rfl ?_
    refine r_cge (tgt := 110) eMd_leastLeft_29 rfl ⟨(by omega), (by omega)⟩ ⟨(by omega), (by omega)⟩ (fun c29 => ?_) (fun c29 => ?_)
    · refine r_il eMd_leastLeft_110 rfl ?_
      refine r_iret eMd_leastLeft_112 rfl ?_
      exact hq
    · exfalso; omega
  | succ m ih =>
    intro k o6 hk
    have hbs := a_bs hb (t := (k : Int)) (by omega)
    have hlb := a_lm_bd hn hb hf htb hl hbf k (by omega)
    have h1 := htb f (k : Int) hf (by omega)
    have hset := (a_fu_b hn).2 b k hb.1 hbf (by omega) (by omega)
    have hl2 : a_bit b (k : Int) ≠ 1 → _ := fun q => hl _ (k : Int) (hbs.2.2.2 q) hbs.2.2.1 (by omega) (by omega) hset
    have hbit : m_and (m_shr b (k : Int)) 1 = 0 ∨ m_and (m_shr b (k : Int)) 1 = 1 := hbs.1
    have hs0 : 0 ≤ m_or b (m_shl 1 (k : Int)) ∧ m_or b (m_shl 1 (k : Int)) < 64 := ⟨hbs.2.1, hbs.2.2.1⟩
    have hi := fun o => ih (k + 1) o (by omega)
    unfold a_lm at hi
    refine r_il eMd_leastLeft_26 rfl ?_
    refine r_iln eMd_leastLeft_28 rfl ?_
    refine r_cge (tgt := 110) eMd_leastLeft_29 rfl ⟨(by omega), (by omega)⟩ ⟨(by omega), (by omega)⟩ (fun c29 => ?_) (fun c29 => ?_)
    · exfalso; omega
    · refine r_iln eMd_leastLeft_32 rfl ?_
      refine r_iln eMd_leastLeft_33 rfl ?_
      refine r_clt (tgt := 43) eMd_leastLeft_34 rfl ⟨(by omega), (by omega)⟩ ⟨(by omega), (by omega)⟩ (fun c34 => ?_) (fun c34 => ?_)
      · refine r_iln eMd_leastLeft_43 rfl ?_
        refine r_il eMd_leastLeft_44 rfl ?_
        refine r_shr eMd_leastLeft_46 ?_
        refine r_con eMd_leastLeft_47 ?_
        refine r_and eMd_leastLeft_48 ?_
        refine r_con eMd_leastLeft_49 ?_
        refine r_cne (tgt := 56) eMd_leastLeft_50 rfl ⟨(by omega), (by omega)⟩ ⟨(by omega), (by omega)⟩ (fun c50 => ?_) (fun c50 => ?_)
        · have hl3 : 0 ≤ J (M + 25) (7 * m_or b (m_shl 1 (k : Int)) + (k : Int)).toNat ∧ J (M + 25) (7 * m_or b (m_shl 1 (k : Int)) + (k : Int)).toNat ≤ 30000 := hl2 c50
          refine r_aln eMd_leastLeft_56 rfl ?_
          refine m_getR eMd_leastLeft_57 rfl hM.2.1 (md_steps2_p hM) ?_
          refine r_bip eMd_leastLeft_60 (by decide) ?_
          refine r_iln eMd_leastLeft_62 rfl ?_
          refine r_mul eMd_leastLeft_63 ?_
          refine r_il eMd_leastLeft_64 rfl ?_
          refine r_add eMd_leastLeft_66 ?_
          refine r_ialde (x := J (M + 24) ((((6) * (f)) + ((k : Int))).toNat)) eMd_leastLeft_67 (md_steps2_t hM) (by decide) (by omega) (by omega) rfl ?_
          refine r_aln eMd_leastLeft_68 rfl ?_
          refine m_getR eMd_leastLeft_69 rfl hM.2.1 (md_left_p hM) ?_
          refine r_bip eMd_leastLeft_72 (by decide) ?_
          refine r_iln eMd_leastLeft_74 rfl ?_
          refine r_con eMd_leastLeft_75 ?_
          refine r_il eMd_leastLeft_76 rfl ?_
          refine r_shl eMd_leastLeft_78 ?_
          refine r_or eMd_leastLeft_79 ?_
          refine r_mul eMd_leastLeft_80 ?_
          refine r_il eMd_leastLeft_81 rfl ?_
          refine r_add eMd_leastLeft_83 ?_
          refine r_ialde (x := J (M + 25) ((((7) * (m_or (b) (m_shl (1) ((k : Int))))) + ((k : Int))).toNat)) eMd_leastLeft_84 (md_left_t hM) (by decide) (by omega) (by omega) rfl ?_
          refine r_add eMd_leastLeft_85 ?_
          refine r_is (ls' := [some (.ref M), some (.int (m_i (b))), some (.int (m_i (f))), some (.int (m_i (n))), some (.int (m_i (a_lm (J (M + 24)) (J (M + 25)) b f k))), some (.int (m_i ((k : Int)))), some (.int (m_i ((J (M + 24) ((((6) * (f)) + ((k : Int))).toNat)) + (J (M + 25) ((((7) * (m_or (b) (m_shl (1) ((k : Int))))) + ((k : Int))).toNat)))))]) eMd_leastLeft_86 (Nat.le_of_ble_eq_true rfl) rfl ?_
          refine r_il eMd_leastLeft_88 rfl ?_
          refine r_il eMd_leastLeft_90 rfl ?_
          refine r_cge (tgt := 100) eMd_leastLeft_92 rfl ⟨(by omega), (by omega)⟩ ⟨(by omega), (by omega)⟩ (fun c92 => ?_) (fun c92 => ?_)
          · refine r_il eMd_leastLeft_100 rfl ?_
            refine r_is (ls' := [some (.ref M), some (.int (m_i (b))), some (.int (m_i (f))), some (.int (m_i (n))), some (.int (m_i (a_lm (J (M + 24)) (J (M + 25)) b f k))), some (.int (m_i ((k : Int)))), some (.int (m_i ((J (M + 24) ((((6) * (f)) + ((k : Int))).toNat)) + (J (M + 25) ((((7) * (m_or (b) (m_shl (1) ((k : Int))))) + ((k : Int))).toNat)))))]) eMd_leastLeft_102 (Nat.le_of_ble_eq_true rfl) rfl ?_
            refine r_inc (ls' := [some (.ref M), some (.int (m_i (b))), some (.int (m_i (f))), some (.int (m_i (n))), some (.int (m_i (a_lm (J (M + 24)) (J (M + 25)) b f k))), some (.int (m_i ((k : Int) + 1))), some (.int (m_i ((J (M + 24) ((((6) * (f)) + ((k : Int))).toNat)) + (J (M + 25) ((((7) * (m_or (b) (m_shl (1) ((k : Int))))) + ((k : Int))).toNat)))))]) eMd_leastLeft_104 rfl rfl ?_
            refine r_go (tgt := 26) eMd_leastLeft_107 rfl ?_
            first | (have h9 := hi o6; rw [if_pos (show a_bit b (k : Int) = 1 from c50)] at h9; exact h9) | (have h9 := hi (some (.int (m_i (J (M + 24) (6 * f + (k : Int)).toNat + J (M + 25) (7 * m_or b (m_shl 1 (k : Int)) + (k : Int)).toNat)))); rw [if_neg (show ¬ a_bit b (k : Int) = 1 from c50), a_mn_l (show J (M + 24) (6 * f + (k : Int)).toNat + J (M + 25) (7 * a_set b (k : Int) + (k : Int)).toNat < a_lm (J (M + 24)) (J (M + 25)) b f k from Int.not_le.mp c92)] at h9; exact h9) | (have h9 := hi (some (.int (m_i (J (M + 24) (6 * f + (k : Int)).toNat + J (M + 25) (7 * m_or b (m_shl 1 (k : Int)) + (k : Int)).toNat)))); rw [if_neg (show ¬ a_bit b (k : Int) = 1 from c50), a_mn_r (show ¬ J (M + 24) (6 * f + (k : Int)).toNat + J (M + 25) (7 * a_set b (k : Int) + (k : Int)).toNat < a_lm (J (M + 24)) (J (M + 25)) b f k from Int.not_lt.mpr c92)] at h9; exact h9)
          · refine r_il eMd_leastLeft_95 rfl ?_
            refine r_go (tgt := 102) eMd_leastLeft_97 rfl ?_
            refine r_is (ls' := [some (.ref M), some (.int (m_i (b))), some (.int (m_i (f))), some (.int (m_i (n))), some (.int (m_i ((J (M + 24) ((((6) * (f)) + ((k : Int))).toNat)) + (J (M + 25) ((((7) * (m_or (b) (m_shl (1) ((k : Int))))) + ((k : Int))).toNat))))), some (.int (m_i ((k : Int)))), some (.int (m_i ((J (M + 24) ((((6) * (f)) + ((k : Int))).toNat)) + (J (M + 25) ((((7) * (m_or (b) (m_shl (1) ((k : Int))))) + ((k : Int))).toNat)))))]) eMd_leastLeft_102 (Nat.le_of_ble_eq_true rfl) rfl ?_
            refine r_inc (ls' := [some (.ref M), some (.int (m_i (b))), some (.int (m_i (f))), some (.int (m_i (n))), some (.int (m_i ((J (M + 24) ((((6) * (f)) + ((k : Int))).toNat)) + (J (M + 25) ((((7) * (m_or (b) (m_shl (1) ((k : Int))))) + ((k : Int))).toNat))))), some (.int (m_i ((k : Int) + 1))), some (.int (m_i ((J (M + 24) ((((6) * (f)) + ((k : Int))).toNat)) + (J (M + 25) ((((7) * (m_or (b) (m_shl (1) ((k : Int))))) + ((k : Int))).toNat)))))]) eMd_leastLeft_104 rfl rfl ?_
            refine r_go (tgt := 26) eMd_leastLeft_107 rfl ?_
            first | (have h9 := hi o6; rw [if_pos (show a_bit b (k : Int) = 1 from c50)] at h9; exact h9) | (have h9 := hi (some (.int (m_i (J (M + 24) (6 * f + (k : Int)).toNat + J (M + 25) (7 * m_or b (m_shl 1 (k : Int)) + (k : Int)).toNat)))); rw [if_neg (show ¬ a_bit b (k : Int) = 1 from c50), a_mn_l (show J (M + 24) (6 * f + (k : Int)).toNat + J (M + 25) (7 * a_set b (k : Int) + (k : Int)).toNat < a_lm (J (M + 24)) (J (M + 25)) b f k from Int.not_le.mp c92)] at h9; exact h9) | (have h9 := hi (some (.int (m_i (J (M + 24) (6 * f + (k : Int)).toNat + J (M + 25) (7 * m_or b (m_shl 1 (k : Int)) + (k : Int)).toNat)))); rw [if_neg (show ¬ a_bit b (k : Int) = 1 from c50), a_mn_r (show ¬ J (M + 24) (6 * f + (k : Int)).toNat + J (M + 25) (7 * a_set b (k : Int) + (k : Int)).toNat < a_lm (J (M + 24)) (J (M + 25)) b f k from Int.not_lt.mpr c92)] at h9; exact h9)
        · refine r_go (tgt := 104) eMd_leastLeft_53 rfl ?_
          refine r_inc (ls' := [some (.ref M), some (.int (m_i (b))), some (.int (m_i (f))), some (.int (m_i (n))), some (.int (m_i (a_lm (J (M + 24)) (J (M + 25)) b f k))), some (.int (m_i ((k : Int) + 1))), o6]) eMd_leastLeft_104 rfl rfl ?_
          refine r_go (tgt := 26) eMd_leastLeft_107 rfl ?_
          first | (have h9 := hi o6; rw [if_pos (show a_bit b (k : Int) = 1 from c50)] at h9; exact h9) | (have h9 := hi (some (.int (m_i (J (M + 24) (6 * f + (k : Int)).toNat + J (M + 25) (7 * m_or b (m_shl 1 (k : Int)) + (k : Int)).toNat)))); rw [if_neg (show ¬ a_bit b (k : Int) = 1 from c50), a_mn_l (show J (M + 24) (6 * f + (k : Int)).toNat + J (M + 25) (7 * a_set b (k : Int) + (k : Int)).toNat < a_lm (J (M + 24)) (J (M + 25)) b f k from Int.not_le.mp c92)] at h9; exact h9) | (have h9 := hi (some (.int (m_i (J (M + 24) (6 * f + (k : Int)).toNat + J (M + 25) (7 * m_or b (m_shl 1 (k : Int)) + (k : Int)).toNat)))); rw [if_neg (show ¬ a_bit b (k : Int) = 1 from c50), a_mn_r (show ¬ J (M + 24) (6 * f + (k : Int)).toNat + J (M + 25) (7 * a_set b (k : Int) + (k : Int)).toNat < a_lm (J (M + 24)) (J (M + 25)) b f k from Int.not_lt.mpr c92)] at h9; exact h9)
      · refine r_iln eMd_leastLeft_37 rfl ?_
        refine r_bip eMd_leastLeft_38 (by decide) ?_
        refine r_cne (tgt := 110) eMd_leastLeft_40 rfl ⟨(by omega), (by omega)⟩ ⟨(by omega), (by omega)⟩ (fun c40 => ?_) (fun c40 => ?_)
        · exfalso; omega
        · refine r_iln eMd_leastLeft_43 rfl ?_
          refine r_il eMd_leastLeft_44 rfl ?_
          refine r_shr eMd_leastLeft_46 ?_
          refine r_con eMd_leastLeft_47 ?_
          refine r_and eMd_leastLeft_48 ?_
          refine r_con eMd_leastLeft_49 ?_
          refine r_cne (tgt := 56) eMd_leastLeft_50 rfl ⟨(by omega), (by omega)⟩ ⟨(by omega), (by omega)⟩ (fun c50 => ?_) (fun c50 => ?_)
          · have hl3 : 0 ≤ J (M + 25) (7 * m_or b (m_shl 1 (k : Int)) + (k : Int)).toNat ∧ J (M + 25) (7 * m_or b (m_shl 1 (k : Int)) + (k : Int)).toNat ≤ 30000 := hl2 c50
            refine r_aln eMd_leastLeft_56 rfl ?_
            refine m_getR eMd_leastLeft_57 rfl hM.2.1 (md_steps2_p hM) ?_
            refine r_bip eMd_leastLeft_60 (by decide) ?_
            refine r_iln eMd_leastLeft_62 rfl ?_
            refine r_mul eMd_leastLeft_63 ?_
            refine r_il eMd_leastLeft_64 rfl ?_
            refine r_add eMd_leastLeft_66 ?_
            refine r_ialde (x := J (M + 24) ((((6) * (f)) + ((k : Int))).toNat)) eMd_leastLeft_67 (md_steps2_t hM) (by decide) (by omega) (by omega) rfl ?_
            refine r_aln eMd_leastLeft_68 rfl ?_
            refine m_getR eMd_leastLeft_69 rfl hM.2.1 (md_left_p hM) ?_
            refine r_bip eMd_leastLeft_72 (by decide) ?_
            refine r_iln eMd_leastLeft_74 rfl ?_
            refine r_con eMd_leastLeft_75 ?_
            refine r_il eMd_leastLeft_76 rfl ?_
            refine r_shl eMd_leastLeft_78 ?_
            refine r_or eMd_leastLeft_79 ?_
            refine r_mul eMd_leastLeft_80 ?_
            refine r_il eMd_leastLeft_81 rfl ?_
            refine r_add eMd_leastLeft_83 ?_
            refine r_ialde (x := J (M + 25) ((((7) * (m_or (b) (m_shl (1) ((k : Int))))) + ((k : Int))).toNat)) eMd_leastLeft_84 (md_left_t hM) (by decide) (by omega) (by omega) rfl ?_
            refine r_add eMd_leastLeft_85 ?_
            refine r_is (ls' := [some (.ref M), some (.int (m_i (b))), some (.int (m_i (f))), some (.int (m_i (n))), some (.int (m_i (a_lm (J (M + 24)) (J (M + 25)) b f k))), some (.int (m_i ((k : Int)))), some (.int (m_i ((J (M + 24) ((((6) * (f)) + ((k : Int))).toNat)) + (J (M + 25) ((((7) * (m_or (b) (m_shl (1) ((k : Int))))) + ((k : Int))).toNat)))))]) eMd_leastLeft_86 (Nat.le_of_ble_eq_true rfl) rfl ?_
            refine r_il eMd_leastLeft_88 rfl ?_
            refine r_il eMd_leastLeft_90 rfl ?_
            refine r_cge (tgt := 100) eMd_leastLeft_92 rfl ⟨(by omega), (by omega)⟩ ⟨(by omega), (by omega)⟩ (fun c92 => ?_) (fun c92 => ?_)
            · refine r_il eMd_leastLeft_100 rfl ?_
              refine r_is (ls' := [some (.ref M), some (.int (m_i (b))), some (.int (m_i (f))), some (.int (m_i (n))), some (.int (m_i (a_lm (J (M + 24)) (J (M + 25)) b f k))), some (.int (m_i ((k : Int)))), some (.int (m_i ((J (M + 24) ((((6) * (f)) + ((k : Int))).toNat)) + (J (M + 25) ((((7) * (m_or (b) (m_shl (1) ((k : Int))))) + ((k : Int))).toNat)))))]) eMd_leastLeft_102 (Nat.le_of_ble_eq_true rfl) rfl ?_
              refine r_inc (ls' := [some (.ref M), some (.int (m_i (b))), some (.int (m_i (f))), some (.int (m_i (n))), some (.int (m_i (a_lm (J (M + 24)) (J (M + 25)) b f k))), some (.int (m_i ((k : Int) + 1))), some (.int (m_i ((J (M + 24) ((((6) * (f)) + ((k : Int))).toNat)) + (J (M + 25) ((((7) * (m_or (b) (m_shl (1) ((k : Int))))) + ((k : Int))).toNat)))))]) eMd_leastLeft_104 rfl rfl ?_
              refine r_go (tgt := 26) eMd_leastLeft_107 rfl ?_
              first | (have h9 := hi o6; rw [if_pos (show a_bit b (k : Int) = 1 from c50)] at h9; exact h9) | (have h9 := hi (some (.int (m_i (J (M + 24) (6 * f + (k : Int)).toNat + J (M + 25) (7 * m_or b (m_shl 1 (k : Int)) + (k : Int)).toNat)))); rw [if_neg (show ¬ a_bit b (k : Int) = 1 from c50), a_mn_l (show J (M + 24) (6 * f + (k : Int)).toNat + J (M + 25) (7 * a_set b (k : Int) + (k : Int)).toNat < a_lm (J (M + 24)) (J (M + 25)) b f k from Int.not_le.mp c92)] at h9; exact h9) | (have h9 := hi (some (.int (m_i (J (M + 24) (6 * f + (k : Int)).toNat + J (M + 25) (7 * m_or b (m_shl 1 (k : Int)) + (k : Int)).toNat)))); rw [if_neg (show ¬ a_bit b (k : Int) = 1 from c50), a_mn_r (show ¬ J (M + 24) (6 * f + (k : Int)).toNat + J (M + 25) (7 * a_set b (k : Int) + (k : Int)).toNat < a_lm (J (M + 24)) (J (M + 25)) b f k from Int.not_lt.mpr c92)] at h9; exact h9)
            · refine r_il eMd_leastLeft_95 rfl ?_
              refine r_go (tgt := 102) eMd_leastLeft_97 rfl ?_
              refine r_is (ls' := [some (.ref M), some (.int (m_i (b))), some (.int (m_i (f))), some (.int (m_i (n))), some (.int (m_i ((J (M + 24) ((((6) * (f)) + ((k : Int))).toNat)) + (J (M + 25) ((((7) * (m_or (b) (m_shl (1) ((k : Int))))) + ((k : Int))).toNat))))), some (.int (m_i ((k : Int)))), some (.int (m_i ((J (M + 24) ((((6) * (f)) + ((k : Int))).toNat)) + (J (M + 25) ((((7) * (m_or (b) (m_shl (1) ((k : Int))))) + ((k : Int))).toNat)))))]) eMd_leastLeft_102 (Nat.le_of_ble_eq_true rfl) rfl ?_
              refine r_inc (ls' := [some (.ref M), some (.int (m_i (b))), some (.int (m_i (f))), some (.int (m_i (n))), some (.int (m_i ((J (M + 24) ((((6) * (f)) + ((k : Int))).toNat)) + (J (M + 25) ((((7) * (m_or (b) (m_shl (1) ((k : Int))))) + ((k : Int))).toNat))))), some (.int (m_i ((k : Int) + 1))), some (.int (m_i ((J (M + 24) ((((6) * (f)) + ((k : Int))).toNat)) + (J (M + 25) ((((7) * (m_or (b) (m_shl (1) ((k : Int))))) + ((k : Int))).toNat)))))]) eMd_leastLeft_104 rfl rfl ?_
              refine r_go (tgt := 26) eMd_leastLeft_107 rfl ?_
              first | (have h9 := hi o6; rw [if_pos (show a_bit b (k : Int) = 1 from c50)] at h9; exact h9) | (have h9 := hi (some (.int (m_i (J (M + 24) (6 * f + (k : Int)).toNat + J (M + 25) (7 * m_or b (m_shl 1 (k : Int)) + (k : Int)).toNat)))); rw [if_neg (show ¬ a_bit b (k : Int) = 1 from c50), a_mn_l (show J (M + 24) (6 * f + (k : Int)).toNat + J (M + 25) (7 * a_set b (k : Int) + (k : Int)).toNat < a_lm (J (M + 24)) (J (M + 25)) b f k from Int.not_le.mp c92)] at h9; exact h9) | (have h9 := hi (some (.int (m_i (J (M + 24) (6 * f + (k : Int)).toNat + J (M + 25) (7 * m_or b (m_shl 1 (k : Int)) + (k : Int)).toNat)))); rw [if_neg (show ¬ a_bit b (k : Int) = 1 from c50), a_mn_r (show ¬ J (M + 24) (6 * f + (k : Int)).toNat + J (M + 25) (7 * a_set b (k : Int) + (k : Int)).toNat < a_lm (J (M + 24)) (J (M + 25)) b f k from Int.not_lt.mpr c92)] at h9; exact h9)
          · refine r_go (tgt := 104) eMd_leastLeft_53 rfl ?_
            refine r_inc (ls' := [some (.ref M), some (.int (m_i (b))), some (.int (m_i (f))), some (.int (m_i (n))), some (.int (m_i (a_lm (J (M + 24)) (J (M + 25)) b f k))), some (.int (m_i ((k : Int) + 1))), o6]) eMd_leastLeft_104 rfl rfl ?_
            refine r_go (tgt := 26) eMd_leastLeft_107 rfl ?_
            first | (have h9 := hi o6; rw [if_pos (show a_bit b (k : Int) = 1 from c50)] at h9; exact h9) | (have h9 := hi (some (.int (m_i (J (M + 24) (6 * f + (k : Int)).toNat + J (M + 25) (7 * m_or b (m_shl 1 (k : Int)) + (k : Int)).toNat)))); rw [if_neg (show ¬ a_bit b (k : Int) = 1 from c50), a_mn_l (show J (M + 24) (6 * f + (k : Int)).toNat + J (M + 25) (7 * a_set b (k : Int) + (k : Int)).toNat < a_lm (J (M + 24)) (J (M + 25)) b f k from Int.not_le.mp c92)] at h9; exact h9) | (have h9 := hi (some (.int (m_i (J (M + 24) (6 * f + (k : Int)).toNat + J (M + 25) (7 * m_or b (m_shl 1 (k : Int)) + (k : Int)).toNat)))); rw [if_neg (show ¬ a_bit b (k : Int) = 1 from c50), a_mn_r (show ¬ J (M + 24) (6 * f + (k : Int)).toNat + J (M + 25) (7 * a_set b (k : Int) + (k : Int)).toNat < a_lm (J (M + 24)) (J (M + 25)) b f k from Int.not_lt.mpr c92)] at h9; exact h9)
theorem l_Md_ll0 (hM : md_sh en M T P) {b f n x : Int} (hn : 0 ≤ n ∧ n ≤ 6) (hf : 0 ≤ f ∧ f ≤ 6) (q : ¬ (f < n ∨ f = 6)) {o6 : Option Value} (hq : Q (some (.int (m_i x))) (T, m_I J, P, L, z, w)) : m_wp en d mMd_leastLeft 26 [some (.ref M), some (.int (m_i b)), some (.int (m_i f)), some (.int (m_i n)), some (.int (m_i x)), some (.int (m_i 0)), o6] [] (T, m_I J, P, L, z, w) Q := by
  refine r_il eMd_leastLeft_26 rfl ?_
  refine r_iln eMd_leastLeft_28 rfl ?_
  refine r_cge (tgt := 110) eMd_leastLeft_29 rfl ⟨(by omega), (by omega)⟩ ⟨(by omega), (by omega)⟩ (fun c29 => ?_) (fun c29 => ?_)
  · refine r_il eMd_leastLeft_110 rfl ?_
    refine r_iret eMd_leastLeft_112 rfl ?_
    exact hq
  · refine r_iln eMd_leastLeft_32 rfl ?_
    refine r_iln eMd_leastLeft_33 rfl ?_
    refine r_clt (tgt := 43) eMd_leastLeft_34 rfl ⟨(by omega), (by omega)⟩ ⟨(by omega), (by omega)⟩ (fun c34 => ?_) (fun c34 => ?_)
    · exfalso; omega
    · refine r_iln eMd_leastLeft_37 rfl ?_
      refine r_bip eMd_leastLeft_38 (by decide) ?_
      refine r_cne (tgt := 110) eMd_leastLeft_40 rfl ⟨(by omega), (by omega)⟩ ⟨(by omega), (by omega)⟩ (fun c40 => ?_) (fun c40 => ?_)
      · refine r_il eMd_leastLeft_110 rfl ?_
        refine r_iret eMd_leastLeft_112 rfl ?_
        exact hq
      · exfalso; omega
theorem c_Md_leastLeft (hM : md_sh en M T P) {b f n : Int} (en4 : J (M + 2) 4 = n) (hn : 0 ≤ n ∧ n ≤ 6) (hb : 0 ≤ b ∧ b < 64) (hbf : b ≤ a_fu n) (hf : 0 ≤ f ∧ f ≤ 6) (htb : a_tbb (J (M + 24)) n) (hl : ∀ b' t : Int, b < b' → b' < 64 → 0 ≤ t → t < n → b' ≤ a_fu n → 0 ≤ J (M + 25) (7 * b' + t).toNat ∧ J (M + 25) (7 * b' + t).toNat ≤ 30000)
    (hq : (0 ≤ a_ll (J (M + 24)) (J (M + 25)) n b f ∧ a_ll (J (M + 24)) (J (M + 25)) n b f ≤ 30000) → Q (some (.int (m_i (a_ll (J (M + 24)) (J (M + 25)) n b f)))) (T, m_I J, P, L, z, w)) : m_call en (d + 1) mMd_leastLeft [.ref M, .int (m_i b), .int (m_i f)] (T, m_I J, P, L, z, w) Q := by
  have hfu := (a_fu_b hn).1
  have hfu2 : 0 ≤ m_shl 1 n - 1 ∧ m_shl 1 n - 1 < 64 := hfu
  unfold a_ll at hq
  refine m_into (by decide) (Nat.le_of_ble_eq_true rfl) rfl ?_
  show m_wp en _ mMd_leastLeft 0 [some (.ref M), some (.int (m_i (b))), some (.int (m_i (f))), none, none, none, none] [] (T, m_I J, P, L, z, w) Q
  refine r_aln eMd_leastLeft_0 rfl ?_
  refine m_getR eMd_leastLeft_1 rfl hM.2.1 (md_number_p hM) ?_
  refine r_con eMd_leastLeft_4 ?_
  refine r_ialde (x := J (M + 2) 4) eMd_leastLeft_5 (md_number_t hM) (by decide) (by omega) (by omega) rfl ?_
  rw [en4]
  refine r_isn (ls' := [some (.ref M), some (.int (m_i (b))), some (.int (m_i (f))), some (.int (m_i (n))), none, none, none]) eMd_leastLeft_6 (Nat.le_of_ble_eq_true rfl) rfl ?_
  refine r_iln eMd_leastLeft_7 rfl ?_
  refine r_con eMd_leastLeft_8 ?_
  refine r_iln eMd_leastLeft_9 rfl ?_
  refine r_shl eMd_leastLeft_10 ?_
  refine r_con eMd_leastLeft_11 ?_
  refine r_sub eMd_leastLeft_12 ?_
  refine r_cne (tgt := 18) eMd_leastLeft_13 rfl ⟨(by omega), (by omega)⟩ ⟨(by omega), (by omega)⟩ (fun c13 => ?_) (fun c13 => ?_)
  · refine r_sip eMd_leastLeft_18 (by decide) ?_
    refine r_is (ls' := [some (.ref M), some (.int (m_i (b))), some (.int (m_i (f))), some (.int (m_i (n))), some (.int (m_i (30000))), none, none]) eMd_leastLeft_21 (Nat.le_of_ble_eq_true rfl) rfl ?_
    refine r_con eMd_leastLeft_23 ?_
    refine r_is (ls' := [some (.ref M), some (.int (m_i (b))), some (.int (m_i (f))), some (.int (m_i (n))), some (.int (m_i (30000))), some (.int (m_i (0))), none]) eMd_leastLeft_24 (Nat.le_of_ble_eq_true rfl) rfl ?_
    rw [if_neg (show ¬ b = a_fu n from by unfold a_fu; omega)] at hq
    by_cases q : f < n ∨ f = 6
    · rw [if_pos q] at hq; exact l_Md_leastLeft hM hn hb hbf (by omega) htb hl (hq (a_lm_bd hn hb (by omega) htb hl hbf n.toNat (by omega))) n.toNat 0 none (by omega)
    · rw [if_neg q] at hq; have hq2 := hq (by omega); exact l_Md_ll0 hM hn hf q hq2
  · refine r_con eMd_leastLeft_16 ?_
    refine r_iret eMd_leastLeft_17 rfl ?_
    rw [if_pos (show b = a_fu n from by unfold a_fu; omega)] at hq
    exact hq (by omega)
end MDTO
