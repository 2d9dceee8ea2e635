/-! the reference reads a text: its signs, words, numbers -/
section RZ
variable {en : Nat → Nat} {d : Nat} {me : m_Me} {pc : Nat} {ls : m_L} {st : List Value} {s : m_S} {Q : m_Q}
def a_tx (i : Int) : Int := ((m_txt.getD i.toNat 0 : Nat) : Int)
theorem r_ldz {q : Nat} (hd : decode me.2.2.1 pc = .ok (.ldc q, 2)) (hk : m_K me.1 q = none) (hz : m_Z me.1 q = some 1) (kk : m_wp en d me (pc + 2) ls (.ref (en 1) :: st) s Q) : m_wp en d me pc ls st s Q := m_next hd (by simp only [m_st, hk, hz]; rfl) kk
theorem r_len {q : Nat} (hd : decode me.2.2.1 pc = .ok (.invokevirtual q, 3)) (hB : m_B me.1 q = some 14) (h8 : (st.map fun v => v.category).sum ≤ 8) (kk : m_wp en d me (pc + 3) ls (.int (m_i 92) :: st) s Q) : m_wp en d me pc ls (.ref (en 1) :: st) s Q := m_next hd (by
  simp only [m_st, hB, m_bi]
  rw [if_pos (by decide), if_pos ⟨trivial, h8⟩]
  rfl) kk
theorem r_chr {q : Nat} {i : Int} (hd : decode me.2.2.1 pc = .ok (.invokevirtual q, 3)) (hB : m_B me.1 q = some 15) (h8 : (st.map fun v => v.category).sum ≤ 8) (h0 : 0 ≤ i) (h1 : i < 92) (kk : m_wp en d me (pc + 3) ls (.int (m_i (a_tx i)) :: st) s Q) : m_wp en d me pc ls (.int (m_i i) :: .ref (en 1) :: st) s Q := m_next hd (by
  simp only [m_st, hB, m_bi]
  rw [if_pos (by decide), if_pos ⟨⟨trivial, by rw [m_i_toInt ⟨by omega, by omega⟩]; exact h0, by rw [m_i_toInt ⟨by omega, by omega⟩]; exact h1⟩, h8⟩, m_i_clamp h0 (by omega)]
  rfl) kk
end RZ
/-- the reader's place: at, place, sort, value, fault, faultPlace -/
def md_q (J : Nat → Nat → Int) (M : Nat) (a p s v k g : Int) : Nat → Nat → Int := fun b i => if b = M ∧ i = 21 then a else if b = M ∧ i = 22 then p else if b = M ∧ i = 23 then s else if b = M ∧ i = 24 then v else if b = M ∧ i = 25 then k else if b = M ∧ i = 26 then g else J b i
section MQ
variable {J : Nat → Nat → Int} {M : Nat} {a p s v k g x : Int}
theorem q_21 : m_up (md_q J M a p s v k g) M 21 x = md_q J M x p s v k g := by
  funext b i
  simp only [m_up, md_q]
  by_cases h : b = M <;> by_cases h2 : i = 21 <;> simp [h, h2]
theorem q_22 : m_up (md_q J M a p s v k g) M 22 x = md_q J M a x s v k g := by
  funext b i
  simp only [m_up, md_q]
  by_cases h : b = M <;> by_cases h2 : i = 22 <;> simp [h, h2]
theorem q_23 : m_up (md_q J M a p s v k g) M 23 x = md_q J M a p x v k g := by
  funext b i
  simp only [m_up, md_q]
  by_cases h : b = M <;> by_cases h2 : i = 23 <;> simp [h, h2]
theorem q_24 : m_up (md_q J M a p s v k g) M 24 x = md_q J M a p s x k g := by
  funext b i
  simp only [m_up, md_q]
  by_cases h : b = M <;> by_cases h2 : i = 24 <;> simp [h, h2]
theorem q_25 : m_up (md_q J M a p s v k g) M 25 x = md_q J M a p s v x g := by
  funext b i
  simp only [m_up, md_q]
  by_cases h : b = M <;> by_cases h2 : i = 25 <;> simp [h, h2]
theorem q_26 : m_up (md_q J M a p s v k g) M 26 x = md_q J M a p s v k x := by
  funext b i
  simp only [m_up, md_q]
  by_cases h : b = M <;> by_cases h2 : i = 26 <;> simp [h, h2]
theorem q_id (J : Nat → Nat → Int) (M : Nat) : md_q J M (J M 21) (J M 22) (J M 23) (J M 24) (J M 25) (J M 26) = J := by
  funext b i
  unfold md_q
  split
  · rename_i h; rw [h.1, h.2]
  · split
    · rename_i h; rw [h.1, h.2]
    · split
      · rename_i h; rw [h.1, h.2]
      · split
        · rename_i h; rw [h.1, h.2]
        · split
          · rename_i h; rw [h.1, h.2]
          · split
            · rename_i h; rw [h.1, h.2]
            · rfl
theorem q_o {b i : Nat} (h : b ≠ M) : md_q J M a p s v k g b i = J b i := by
  unfold md_q
  rw [if_neg (fun q => h q.1), if_neg (fun q => h q.1), if_neg (fun q => h q.1), if_neg (fun q => h q.1), if_neg (fun q => h q.1), if_neg (fun q => h q.1)]
theorem q_f {i : Nat} (h : i < 21 ∨ 26 < i) : md_q J M a p s v k g M i = J M i := by
  unfold md_q
  rw [if_neg (by omega), if_neg (by omega), if_neg (by omega), if_neg (by omega), if_neg (by omega), if_neg (by omega)]
end MQ
def a_hr (f : Nat → Int) (n i : Int) : Int := if i < n then f i.toNat else -1
def a_bk (c : Int) : Bool := decide (c = 10 ∨ c = 32)
def a_sl (c : Int) : Bool := decide (97 ≤ c ∧ c ≤ 122)
def a_dg (c : Int) : Bool := decide (48 ≤ c ∧ c ≤ 57)
/-- how far signs of a kind go on -/
def a_run (q : Int → Bool) (f : Nat → Int) (n : Int) : Nat → Int → Int
  | 0, i => i
  | k + 1, i => if q (a_hr f n i) = true then a_run q f n k (i + 1) else i
def a_end (q : Int → Bool) (f : Nat → Int) (n i : Int) : Int := a_run q f n (n - i).toNat i
/-- the bytes of the tape -/
def a_tpb (f : Nat → Int) (n : Int) : Prop := (0 ≤ n ∧ n ≤ 700) ∧ ∀ i : Nat, i < 700 → 0 ≤ f i ∧ f i ≤ 255
theorem a_hr_bd {f : Nat → Int} {n i : Int} (h : a_tpb f n) (h0 : 0 ≤ i) : -1 ≤ a_hr f n i ∧ a_hr f n i ≤ 255 ∧ (n ≤ i → a_hr f n i = -1) ∧ (i < n → 0 ≤ a_hr f n i) := by
  unfold a_hr
  by_cases q : i < n
  · rw [if_pos q]
    have := h.2 i.toNat (by have := h.1; omega)
    omega
  · rw [if_neg q]
    omega
theorem a_run_bd {q : Int → Bool} {f : Nat → Int} {n : Int} (hq : q (-1) = false) : ∀ (k : Nat) (i : Int), i ≤ a_run q f n k i ∧ (i ≤ n → a_run q f n k i ≤ n) := by
  intro k
  induction k with
  | zero => intro i; unfold a_run; omega
  | succ k ih =>
    intro i
    unfold a_run
    split
    · rename_i h
      have h1 : i < n := by
        rcases Int.lt_or_le i n with g | g
        · exact g
        · unfold a_hr at h
          rw [if_neg (by omega), hq] at h
          cases h
      have := ih (i + 1)
      omega
    · omega
theorem a_end_bd {q : Int → Bool} {f : Nat → Int} {n i : Int} (hq : q (-1) = false) (hi : i ≤ n) : i ≤ a_end q f n i ∧ a_end q f n i ≤ n := by
  have := a_run_bd (f := f) (n := n) hq (n - i).toNat i
  exact ⟨this.1, this.2 hi⟩
/-- the digits' number -/
def a_dv (f : Nat → Int) (n : Int) : Nat → Int → Int → Int
  | 0, _, v => v
  | k + 1, i, v => if a_dg (a_hr f n i) = true then a_dv f n k (i + 1) (if 99999 < v then v else 10 * v + a_hr f n i - 48) else v
/-- a name, five bits a letter -/
def a_nm (f : Nat → Int) (p e : Int) : Nat → Int
  | 0 => 0
  | k + 1 => m_or (m_shl (a_nm f p e k) 5) (if p + (k : Int) < e then f (p + (k : Int)).toNat - 97 + 1 else 0)
section MDPA
variable {en : Nat → Nat} {d : Nat} {T : Nat → Option (Nat × Nat)} {J J0 J1 : Nat → Nat → Int} {P : Nat → Nat → Option Nat} {L : Nat → Nat → Int64} {z w M : Nat} {Q : m_Q} {σ : a_S} {a p s v k g : Int}
theorem c_Md_here (hM : md_sh en M T P) (ht : a_tpb (J (M + 1)) (J M 20)) (h0 : 0 ≤ a ∧ a ≤ 1000) (hq : Q (some (.int (m_i (a_hr (J (M + 1)) (J M 20) a)))) (T, m_I (md_q J M a p s v k g), P, L, z, w)) : m_call en (d + 1) mMd_here [.ref M] (T, m_I (md_q J M a p s v k g), P, L, z, w) Q := by
  have hn := ht.1
  unfold a_hr at hq
  refine m_into (by decide) (Nat.le_of_ble_eq_true rfl) rfl ?_
  show m_wp en _ mMd_here 0 [some (.ref M)] [] (T, m_I ((md_q J M a p s v k g)), P, L, z, w) Q
  refine r_aln eMd_here_0 rfl ?_
  refine r_gete (x := a) eMd_here_1 rfl (by decide) hM.2.1 (by simp [m_up, md_q, md_put_at, m_fl]) ?_
  refine r_aln eMd_here_4 rfl ?_
  refine r_gete (x := J M 20) eMd_here_5 rfl (by decide) hM.2.1 (by simp [m_up, md_put_at, m_fl, md_q]) ?_
  refine r_cge (tgt := 23) eMd_here_8 rfl ⟨(by omega), (by omega)⟩ ⟨(by omega), (by omega)⟩ (fun c8 => ?_) (fun c8 => ?_)
  · refine r_con eMd_here_23 ?_
    refine r_iret eMd_here_24 rfl ?_
    first | (rw [if_pos (by omega)] at hq; exact hq) | (rw [if_neg (by omega)] at hq; exact hq)
  · refine r_aln eMd_here_11 rfl ?_
    refine m_getR eMd_here_12 rfl hM.2.1 (md_tape_p hM) ?_
    refine r_aln eMd_here_15 rfl ?_
    refine r_gete (x := a) eMd_here_16 rfl (by decide) hM.2.1 (by simp [m_up, md_q, md_put_at, m_fl]) ?_
    refine r_ialde (x := J (M + 1) ((a).toNat)) eMd_here_19 (md_tape_t hM) (by decide) (by omega) (by omega) (by simp [m_up, md_put_at, m_fl, md_q]) ?_
    refine r_go (tgt := 24) eMd_here_20 rfl ?_
    refine r_iret eMd_here_24 rfl ?_
    first | (rw [if_pos (by omega)] at hq; exact hq) | (rw [if_neg (by omega)] at hq; exact hq)
theorem c_Md_isSmall {c : Int} (hc : m_in c) (hq : Q (some (.int (m_i (a_b (a_sl c))))) (T, m_I J, P, L, z, w)) : m_call en (d + 1) mMd_isSmall [.int (m_i c)] (T, m_I J, P, L, z, w) Q := by
  unfold m_in at hc
  refine m_into (by decide) (Nat.le_of_ble_eq_true rfl) rfl ?_
  show m_wp en _ mMd_isSmall 0 [some (.int (m_i (c)))] [] (T, m_I J, P, L, z, w) Q
  refine r_iln eMd_isSmall_0 rfl ?_
  refine r_bip eMd_isSmall_1 (by decide) ?_
  refine r_clt (tgt := 16) eMd_isSmall_3 rfl ⟨(by omega), (by omega)⟩ ⟨(by omega), (by omega)⟩ (fun c3 => ?_) (fun c3 => ?_)
  · refine r_con eMd_isSmall_16 ?_
    refine r_zret eMd_isSmall_17 rfl (by first | exact Or.inl rfl | exact Or.inr rfl | omega) ?_
    first | (rw [a_b_t (b := a_sl c) (decide_eq_true ⟨by omega, by omega⟩)] at hq; exact hq) | (rw [a_b_f (b := a_sl c) (fun q => by have := of_decide_eq_true q; omega)] at hq; exact hq)
  · refine r_iln eMd_isSmall_6 rfl ?_
    refine r_bip eMd_isSmall_7 (by decide) ?_
    refine r_cgt (tgt := 16) eMd_isSmall_9 rfl ⟨(by omega), (by omega)⟩ ⟨(by omega), (by omega)⟩ (fun c9 => ?_) (fun c9 => ?_)
    · refine r_con eMd_isSmall_16 ?_
      refine r_zret eMd_isSmall_17 rfl (by first | exact Or.inl rfl | exact Or.inr rfl | omega) ?_
      first | (rw [a_b_t (b := a_sl c) (decide_eq_true ⟨by omega, by omega⟩)] at hq; exact hq) | (rw [a_b_f (b := a_sl c) (fun q => by have := of_decide_eq_true q; omega)] at hq; exact hq)
    · refine r_con eMd_isSmall_12 ?_
      refine r_go (tgt := 17) eMd_isSmall_13 rfl ?_
      refine r_zret eMd_isSmall_17 rfl (by first | exact Or.inl rfl | exact Or.inr rfl | omega) ?_
      first | (rw [a_b_t (b := a_sl c) (decide_eq_true ⟨by omega, by omega⟩)] at hq; exact hq) | (rw [a_b_f (b := a_sl c) (fun q => by have := of_decide_eq_true q; omega)] at hq; exact hq)
theorem c_Md_isDigit {c : Int} (hc : m_in c) (hq : Q (some (.int (m_i (a_b (a_dg c))))) (T, m_I J, P, L, z, w)) : m_call en (d + 1) mMd_isDigit [.int (m_i c)] (T, m_I J, P, L, z, w) Q := by
  unfold m_in at hc
  refine m_into (by decide) (Nat.le_of_ble_eq_true rfl) rfl ?_
  show m_wp en _ mMd_isDigit 0 [some (.int (m_i (c)))] [] (T, m_I J, P, L, z, w) Q
  refine r_iln eMd_isDigit_0 rfl ?_
  refine r_bip eMd_isDigit_1 (by decide) ?_
  refine r_clt (tgt := 16) eMd_isDigit_3 rfl ⟨(by omega), (by omega)⟩ ⟨(by omega), (by omega)⟩ (fun c3 => ?_) (fun c3 => ?_)
  · refine r_con eMd_isDigit_16 ?_
    refine r_zret eMd_isDigit_17 rfl (by first | exact Or.inl rfl | exact Or.inr rfl | omega) ?_
    first | (rw [a_b_t (b := a_dg c) (decide_eq_true ⟨by omega, by omega⟩)] at hq; exact hq) | (rw [a_b_f (b := a_dg c) (fun q => by have := of_decide_eq_true q; omega)] at hq; exact hq)
  · refine r_iln eMd_isDigit_6 rfl ?_
    refine r_bip eMd_isDigit_7 (by decide) ?_
    refine r_cgt (tgt := 16) eMd_isDigit_9 rfl ⟨(by omega), (by omega)⟩ ⟨(by omega), (by omega)⟩ (fun c9 => ?_) (fun c9 => ?_)
    · refine r_con eMd_isDigit_16 ?_
      refine r_zret eMd_isDigit_17 rfl (by first | exact Or.inl rfl | exact Or.inr rfl | omega) ?_
      first | (rw [a_b_t (b := a_dg c) (decide_eq_true ⟨by omega, by omega⟩)] at hq; exact hq) | (rw [a_b_f (b := a_dg c) (fun q => by have := of_decide_eq_true q; omega)] at hq; exact hq)
    · refine r_con eMd_isDigit_12 ?_
      refine r_go (tgt := 17) eMd_isDigit_13 rfl ?_
      refine r_zret eMd_isDigit_17 rfl (by first | exact Or.inl rfl | exact Or.inr rfl | omega) ?_
      first | (rw [a_b_t (b := a_dg c) (decide_eq_true ⟨by omega, by omega⟩)] at hq; exact hq) | (rw [a_b_f (b := a_dg c) (fun q => by have := of_decide_eq_true q; omega)] at hq; exact hq)
theorem l_Md_digits (hM : md_sh en M T P) (ht : a_tpb (J (M + 1)) (J M 20)) : ∀ (m : Nat) (a v : Int), a + m = J M 20 → 0 ≤ a → (0 ≤ v ∧ v ≤ 1000000) → Q none (T, m_I (md_q J M (a_run a_dg (J (M + 1)) (J M 20) m a) p s (a_dv (J (M + 1)) (J M 20) m a v) k g), P, L, z, w) → m_wp en (d + 1) mMd_digits 5 [some (.ref M)] [] (T, m_I (md_q J M a p s v k g), P, L, z, w) Q := by
  have hn := ht.1
  intro m
  induction m with
  | zero =>
    intro a v hm h0 hv hq
    have hb := a_hr_bd ht h0
    have e : a_hr (J (M + 1)) (J M 20) a = -1 := hb.2.2.1 (by omega)
    have e2 : a_b (a_dg (a_hr (J (M + 1)) (J M 20) a)) = 0 := by rw [e]; rfl
    refine r_aln eMd_digits_5 rfl ?_
    refine r_vir eMd_digits_6 rfl rfl rfl hM.2.1 rfl rfl ?_
    refine c_Md_here hM ht (by omega) ?_
    show m_wp en _ mMd_digits 9 [some (.ref M)] [(.int (m_i (a_hr (J (M + 1)) (J M 20) a)))] (T, m_I ((md_q J M a p s v k g)), P, L, z, w) Q
    refine r_sta eMd_digits_9 rfl rfl (by decide) rfl ?_
    refine c_Md_isDigit (by unfold m_in; omega) ?_
    show m_wp en _ mMd_digits 12 [some (.ref M)] [(.int (m_i (a_b (a_dg ((a_hr (J (M + 1)) (J M 20) a))))))] (T, m_I ((md_q J M a p s v k g)), P, L, z, w) Q
    refine r_zeq (tgt := 63) eMd_digits_12 rfl ⟨(by omega), (by omega)⟩ (fun c12 => ?_) (fun c12 => ?_)
    · refine r_ret eMd_digits_63 rfl ?_
      exact hq
    · exfalso; omega
  | succ m ih =>
    intro a v hm h0 hv hq
    have hb := a_hr_bd ht h0
    have hb01 := a_b_01 (a_dg (a_hr (J (M + 1)) (J M 20) a))
    unfold a_run a_dv at hq
    refine r_aln eMd_digits_5 rfl ?_
    refine r_vir eMd_digits_6 rfl rfl rfl hM.2.1 rfl rfl ?_
    refine c_Md_here hM ht (by omega) ?_
    show m_wp en _ mMd_digits 9 [some (.ref M)] [(.int (m_i (a_hr (J (M + 1)) (J M 20) a)))] (T, m_I ((md_q J M a p s v k g)), P, L, z, w) Q
    refine r_sta eMd_digits_9 rfl rfl (by decide) rfl ?_
    refine c_Md_isDigit (by unfold m_in; omega) ?_
    show m_wp en _ mMd_digits 12 [some (.ref M)] [(.int (m_i (a_b (a_dg ((a_hr (J (M + 1)) (J M 20) a))))))] (T, m_I ((md_q J M a p s v k g)), P, L, z, w) Q
    refine r_zeq (tgt := 63) eMd_digits_12 rfl ⟨(by omega), (by omega)⟩ (fun c12 => ?_) (fun c12 => ?_)
    · refine r_ret eMd_digits_63 rfl ?_
      rw [if_neg (fun q => by rw [a_b_t q] at c12; omega), if_neg (fun q => by rw [a_b_t q] at c12; omega)] at hq
      exact hq
    · have hd : a_dg (a_hr (J (M + 1)) (J M 20) a) = true := Classical.byContradiction (fun q => c12 (a_b_f q))
      have hd2 := of_decide_eq_true hd
      rw [if_pos hd, if_pos hd] at hq
      refine r_aln eMd_digits_15 rfl ?_
      refine r_aln eMd_digits_16 rfl ?_
      refine r_gete (x := v) eMd_digits_17 rfl (by decide) hM.2.1 (by simp [m_up, md_q, md_put_at, m_fl]) ?_
      refine r_ldc (x := 99999) eMd_digits_20 rfl (by decide) ?_
      refine r_cle (tgt := 32) eMd_digits_22 rfl ⟨(by omega), (by omega)⟩ ⟨(by omega), (by omega)⟩ (fun c22 => ?_) (fun c22 => ?_)
      · refine r_bip eMd_digits_32 (by decide) ?_
        refine r_aln eMd_digits_34 rfl ?_
        refine r_gete (x := v) eMd_digits_35 rfl (by decide) hM.2.1 (by simp [m_up, md_q, md_put_at, m_fl]) ?_
        refine r_mul eMd_digits_38 ?_
        refine r_aln eMd_digits_39 rfl ?_
        refine r_vir eMd_digits_40 rfl rfl rfl hM.2.1 rfl rfl ?_
        refine c_Md_here hM ht (by omega) ?_
        show m_wp en _ mMd_digits 43 [some (.ref M)] [(.int (m_i (a_hr (J (M + 1)) (J M 20) a))), (.int (m_i ((10) * (v)))), (.ref M)] (T, m_I ((md_q J M a p s v k g)), P, L, z, w) Q
        refine r_add eMd_digits_43 ?_
        refine r_bip eMd_digits_44 (by decide) ?_
        refine r_sub eMd_digits_46 ?_
        refine r_put eMd_digits_47 rfl hM.2.1 hM.1 (Or.inl rfl) ?_
        rw [q_24]
        refine r_aln eMd_digits_50 rfl ?_
        refine r_dupr eMd_digits_51 ?_
        refine r_gete (x := a) eMd_digits_52 rfl (by decide) hM.2.1 (by simp [m_up, md_q, md_put_at, m_fl]) ?_
        refine r_con eMd_digits_55 ?_
        refine r_add eMd_digits_56 ?_
        refine r_put eMd_digits_57 rfl hM.2.1 hM.1 (Or.inl rfl) ?_
        rw [q_21]
        refine r_go (tgt := 5) eMd_digits_60 rfl ?_
        first | (rw [if_pos (by omega)] at hq; exact ih (a + 1) _ (by omega) (by omega) (by omega) hq) | (rw [if_neg (by omega)] at hq; exact ih (a + 1) _ (by omega) (by omega) (by omega) hq)
      · refine r_aln eMd_digits_25 rfl ?_
        refine r_gete (x := v) eMd_digits_26 rfl (by decide) hM.2.1 (by simp [m_up, md_q, md_put_at, m_fl]) ?_
        refine r_go (tgt := 47) eMd_digits_29 rfl ?_
        refine r_put eMd_digits_47 rfl hM.2.1 hM.1 (Or.inl rfl) ?_
        rw [q_24]
        refine r_aln eMd_digits_50 rfl ?_
        refine r_dupr eMd_digits_51 ?_
        refine r_gete (x := a) eMd_digits_52 rfl (by decide) hM.2.1 (by simp [m_up, md_q, md_put_at, m_fl]) ?_
        refine r_con eMd_digits_55 ?_
        refine r_add eMd_digits_56 ?_
        refine r_put eMd_digits_57 rfl hM.2.1 hM.1 (Or.inl rfl) ?_
        rw [q_21]
        refine r_go (tgt := 5) eMd_digits_60 rfl ?_
        first | (rw [if_pos (by omega)] at hq; exact ih (a + 1) _ (by omega) (by omega) (by omega) hq) | (rw [if_neg (by omega)] at hq; exact ih (a + 1) _ (by omega) (by omega) (by omega) hq)
theorem c_Md_digits (hM : md_sh en M T P) (ht : a_tpb (J (M + 1)) (J M 20)) (h0 : 0 ≤ a ∧ a ≤ J M 20) (hq : Q none (T, m_I (md_q J M (a_end a_dg (J (M + 1)) (J M 20) a) p s (a_dv (J (M + 1)) (J M 20) (J M 20 - a).toNat a 0) k g), P, L, z, w)) : m_call en (d + 2) mMd_digits [.ref M] (T, m_I (md_q J M a p s v k g), P, L, z, w) Q := by
  refine m_into (by decide) (Nat.le_of_ble_eq_true rfl) rfl ?_
  show m_wp en _ mMd_digits 0 [some (.ref M)] [] (T, m_I ((md_q J M a p s v k g)), P, L, z, w) Q
  refine r_aln eMd_digits_0 rfl ?_
  refine r_con eMd_digits_1 ?_
  refine r_put eMd_digits_2 rfl hM.2.1 hM.1 (Or.inl rfl) ?_
  rw [q_24]
  exact l_Md_digits hM ht (J M 20 - a).toNat a 0 (by omega) h0.1 (by omega) hq
theorem l_Md_nameHere (hM : md_sh en M T P) (hp : 0 ≤ p ∧ p ≤ a ∧ a ≤ 700) (hq : Q none (T, m_I (md_q J M a p s (a_nm (J (M + 1)) p a 6) k g), P, L, z, w)) : ∀ (m i : Nat), i + m = 6 → m_wp en d mMd_nameHere 7 [some (.ref M), some (.int (m_i (i : Int)))] [] (T, m_I (md_q J M a p s (a_nm (J (M + 1)) p a i) k g), P, L, z, w) Q := by
  intro m
  induction m with
  | zero =>
    intro i hm
    obtain rfl : i = 6 := by omega
    refine r_iln eMd_nameHere_7 rfl ?_
    refine r_bip eMd_nameHere_8 (by decide) ?_
    refine r_cge (tgt := 63) eMd_nameHere_10 rfl ⟨(by omega), (by omega)⟩ ⟨(by omega), (by omega)⟩ (fun c10 => ?_) (fun c10 => ?_)
    · refine r_ret eMd_nameHere_63 rfl ?_
      exact hq
    · exfalso; omega
  | succ m ih =>
    intro i hm
    have hi := ih (i + 1) (by omega)
    unfold a_nm at hi
    refine r_iln eMd_nameHere_7 rfl ?_
    refine r_bip eMd_nameHere_8 (by decide) ?_
    refine r_cge (tgt := 63) eMd_nameHere_10 rfl ⟨(by omega), (by omega)⟩ ⟨(by omega), (by omega)⟩ (fun c10 => ?_) (fun c10 => ?_)
    · exfalso; omega
    · refine r_aln eMd_nameHere_13 rfl ?_
      refine r_aln eMd_nameHere_14 rfl ?_
      refine r_gete (x := (a_nm (J (M + 1)) p a i)) eMd_nameHere_15 rfl (by decide) hM.2.1 (by simp [m_up, md_q, md_put_at, m_fl]) ?_
      refine r_con eMd_nameHere_18 ?_
      refine r_shl eMd_nameHere_19 ?_
      refine r_aln eMd_nameHere_20 rfl ?_
      refine r_gete (x := p) eMd_nameHere_21 rfl (by decide) hM.2.1 (by simp [m_up, md_q, md_put_at, m_fl]) ?_
      refine r_iln eMd_nameHere_24 rfl ?_
      refine r_add eMd_nameHere_25 ?_
      refine r_aln eMd_nameHere_26 rfl ?_
      refine r_gete (x := a) eMd_nameHere_27 rfl (by decide) hM.2.1 (by simp [m_up, md_q, md_put_at, m_fl]) ?_
      refine r_cge (tgt := 52) eMd_nameHere_30 rfl ⟨(by omega), (by omega)⟩ ⟨(by omega), (by omega)⟩ (fun c30 => ?_) (fun c30 => ?_)
      · refine r_con eMd_nameHere_52 ?_
        refine r_or eMd_nameHere_53 ?_
        refine r_put eMd_nameHere_54 rfl hM.2.1 hM.1 (Or.inl rfl) ?_
        rw [q_24]
        refine r_inc (ls' := [some (.ref M), some (.int (m_i ((i : Int) + 1)))]) eMd_nameHere_57 rfl rfl ?_
        refine r_go (tgt := 7) eMd_nameHere_60 rfl ?_
        first | (rw [if_pos (by omega)] at hi; exact hi) | (rw [if_neg (by omega)] at hi; exact hi)
      · refine r_aln eMd_nameHere_33 rfl ?_
        refine m_getR eMd_nameHere_34 rfl hM.2.1 (md_tape_p hM) ?_
        refine r_aln eMd_nameHere_37 rfl ?_
        refine r_gete (x := p) eMd_nameHere_38 rfl (by decide) hM.2.1 (by simp [m_up, md_q, md_put_at, m_fl]) ?_
        refine r_iln eMd_nameHere_41 rfl ?_
        refine r_add eMd_nameHere_42 ?_
        refine r_ialde (x := J (M + 1) (((p) + ((i : Int))).toNat)) eMd_nameHere_43 (md_tape_t hM) (by decide) (by omega) (by omega) (by simp [m_up, md_put_at, m_fl, md_q]) ?_
        refine r_bip eMd_nameHere_44 (by decide) ?_
        refine r_sub eMd_nameHere_46 ?_
        refine r_con eMd_nameHere_47 ?_
        refine r_add eMd_nameHere_48 ?_
        refine r_go (tgt := 53) eMd_nameHere_49 rfl ?_
        refine r_or eMd_nameHere_53 ?_
        refine r_put eMd_nameHere_54 rfl hM.2.1 hM.1 (Or.inl rfl) ?_
        rw [q_24]
        refine r_inc (ls' := [some (.ref M), some (.int (m_i ((i : Int) + 1)))]) eMd_nameHere_57 rfl rfl ?_
        refine r_go (tgt := 7) eMd_nameHere_60 rfl ?_
        first | (rw [if_pos (by omega)] at hi; exact hi) | (rw [if_neg (by omega)] at hi; exact hi)
theorem c_Md_nameHere (hM : md_sh en M T P) (hp : 0 ≤ p ∧ p ≤ a ∧ a ≤ 700) (hq : Q none (T, m_I (md_q J M a p s (a_nm (J (M + 1)) p a 6) k g), P, L, z, w)) : m_call en (d + 1) mMd_nameHere [.ref M] (T, m_I (md_q J M a p s v k g), P, L, z, w) Q := by
  refine m_into (by decide) (Nat.le_of_ble_eq_true rfl) rfl ?_
  show m_wp en _ mMd_nameHere 0 [some (.ref M), none] [] (T, m_I ((md_q J M a p s v k g)), P, L, z, w) Q
  refine r_aln eMd_nameHere_0 rfl ?_
  refine r_con eMd_nameHere_1 ?_
  refine r_put eMd_nameHere_2 rfl hM.2.1 hM.1 (Or.inl rfl) ?_
  rw [q_24]
  refine r_con eMd_nameHere_5 ?_
  refine r_isn (ls' := [some (.ref M), some (.int (m_i (0)))]) eMd_nameHere_6 (Nat.le_of_ble_eq_true rfl) rfl ?_
  exact l_Md_nameHere hM hp hq 6 0 (by omega)
theorem c_Md_wrong (hM : md_sh en M T P) {x : Int} (hk : 0 ≤ k ∧ k ≤ 10) (hq : Q none (T, m_I (md_q J M a p s v (if k = 0 then x else k) (if k = 0 then p else g)), P, L, z, w)) : m_call en (d + 1) mMd_wrong [.ref M, .int (m_i x)] (T, m_I (md_q J M a p s v k g), P, L, z, w) Q := by
  refine m_into (by decide) (Nat.le_of_ble_eq_true rfl) rfl ?_
  show m_wp en _ mMd_wrong 0 [some (.ref M), some (.int (m_i (x)))] [] (T, m_I ((md_q J M a p s v k g)), P, L, z, w) Q
  refine r_aln eMd_wrong_0 rfl ?_
  refine r_gete (x := k) eMd_wrong_1 rfl (by decide) hM.2.1 (by simp [m_up, md_q, md_put_at, m_fl]) ?_
  refine r_zeq (tgt := 8) eMd_wrong_4 rfl ⟨(by omega), (by omega)⟩ (fun c4 => ?_) (fun c4 => ?_)
  · refine r_aln eMd_wrong_8 rfl ?_
    refine r_iln eMd_wrong_9 rfl ?_
    refine r_put eMd_wrong_10 rfl hM.2.1 hM.1 (Or.inl rfl) ?_
    rw [q_25]
    refine r_aln eMd_wrong_13 rfl ?_
    refine r_aln eMd_wrong_14 rfl ?_
    refine r_gete (x := p) eMd_wrong_15 rfl (by decide) hM.2.1 (by simp [m_up, md_q, md_put_at, m_fl]) ?_
    refine r_put eMd_wrong_18 rfl hM.2.1 hM.1 (Or.inl rfl) ?_
    rw [q_26]
    refine r_ret eMd_wrong_21 rfl ?_
    rw [if_pos (by omega), if_pos (by omega)] at hq
    exact hq
  · refine r_ret eMd_wrong_7 rfl ?_
    rw [if_neg (by omega), if_neg (by omega)] at hq
    exact hq
end MDPA
