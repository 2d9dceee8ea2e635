/-! feed, again, chance, safe of the reference -/
def a_fv (a b c e f k : Int) : Int := if k < 4 then a else if k < 8 then b else if k < 12 then c else if k < 16 then e else f
/-- the k-th byte of five numbers -/
def a_fb (a b c e f k : Int) : Int := m_and (m_shr (a_fv a b c e f k) (24 - 8 * (k % 4))) 255
section MDFE
variable {en : Nat → Nat} {d : Nat} {T : Nat → Option (Nat × Nat)} {J J0 J1 : Nat → Nat → Int} {P : Nat → Nat → Option Nat} {L : Nat → Nat → Int64} {z w M : Nat} {Q : m_Q} {σ : a_S}
theorem l_Md_feed (hM : md_sh en M T P) {a b c e f : Int} (ht : 0 ≤ J M 2 ∧ J M 2 ≤ 680) (hq : Q (some (.int (m_i (J M 2 + 20)))) (T, m_I (m_up (m_fl J (M + 1) (J M 2).toNat (fun i => a_fb a b c e f (i : Int)) 20) M 2 (J M 2 + 20)), P, L, z, w)) :
    ∀ (n : Nat) (k : Int) (o7 : Option Value), k + n = 20 → 0 ≤ k → m_wp en d mMd_feed 20 [some (.ref M), some (.int (m_i a)), some (.int (m_i b)), some (.int (m_i c)), some (.int (m_i e)), some (.int (m_i f)), some (.int (m_i k)), o7] [] (T, m_I (m_fl J (M + 1) (J M 2).toNat (fun i => a_fb a b c e f (i : Int)) k), P, L, z, w) Q := by
  intro n
  induction n with
  | zero =>
    intro k o7 hk h0
    obtain rfl : k = 20 := by omega
    refine r_il eMd_feed_20 rfl ?_
    refine r_bip eMd_feed_22 (by decide) ?_
    refine r_cge (tgt := 110) eMd_feed_24 rfl ⟨(by omega), (by omega)⟩ ⟨(by omega), (by omega)⟩ (fun c24 => ?_) (fun c24 => ?_)
    · refine r_aln eMd_feed_110 rfl ?_
      refine r_dupr eMd_feed_111 ?_
      refine r_gete (x := J M 2) eMd_feed_112 rfl (by decide) hM.2.1 (by simp [m_up, md_put_at, m_fl]) ?_
      refine r_bip eMd_feed_115 (by decide) ?_
      refine r_add eMd_feed_117 ?_
      refine r_put eMd_feed_118 rfl hM.2.1 hM.1 (Or.inl rfl) ?_
      refine r_aln eMd_feed_121 rfl ?_
      refine r_gete (x := (J M 2) + (20)) eMd_feed_122 rfl (by decide) hM.2.1 (by simp [m_up]) ?_
      refine r_iret eMd_feed_125 rfl ?_
      exact hq
    · exfalso; omega
  | succ n ih =>
    intro k o7 hk h0
    have key : ∀ v, v = a_fv a b c e f k → m_up (m_fl J (M + 1) (J M 2).toNat (fun i => a_fb a b c e f (i : Int)) k) (M + 1) (J M 2 + k).toNat (m_and (m_shr v (24 - 8 * (k % 4))) 255) = m_fl J (M + 1) (J M 2).toNat (fun i => a_fb a b c e f (i : Int)) (k + 1) := fun v hv => by
      refine m_fl_s h0 (by omega) ?_
      show _ = a_fb a b c e f ((k.toNat : Nat) : Int)
      rw [show ((k.toNat : Nat) : Int) = k by omega, hv]
      rfl
    refine r_il eMd_feed_20 rfl ?_
    refine r_bip eMd_feed_22 (by decide) ?_
    refine r_cge (tgt := 110) eMd_feed_24 rfl ⟨(by omega), (by omega)⟩ ⟨(by omega), (by omega)⟩ (fun c24 => ?_) (fun c24 => ?_)
    · exfalso; omega
    · refine r_il eMd_feed_27 rfl ?_
      refine r_con eMd_feed_29 ?_
      refine r_cge (tgt := 37) eMd_feed_30 rfl ⟨(by omega), (by omega)⟩ ⟨(by omega), (by omega)⟩ (fun c30 => ?_) (fun c30 => ?_)
      · refine r_il eMd_feed_37 rfl ?_
        refine r_bip eMd_feed_39 (by decide) ?_
        refine r_cge (tgt := 48) eMd_feed_41 rfl ⟨(by omega), (by omega)⟩ ⟨(by omega), (by omega)⟩ (fun c41 => ?_) (fun c41 => ?_)
        · refine r_il eMd_feed_48 rfl ?_
          refine r_bip eMd_feed_50 (by decide) ?_
          refine r_cge (tgt := 59) eMd_feed_52 rfl ⟨(by omega), (by omega)⟩ ⟨(by omega), (by omega)⟩ (fun c52 => ?_) (fun c52 => ?_)
          · refine r_il eMd_feed_59 rfl ?_
            refine r_bip eMd_feed_61 (by decide) ?_
            refine r_cge (tgt := 71) eMd_feed_63 rfl ⟨(by omega), (by omega)⟩ ⟨(by omega), (by omega)⟩ (fun c63 => ?_) (fun c63 => ?_)
            · refine r_il eMd_feed_71 rfl ?_
              refine r_is (ls' := [some (.ref M), some (.int (m_i (a))), some (.int (m_i (b))), some (.int (m_i (c))), some (.int (m_i (e))), some (.int (m_i (f))), some (.int (m_i (k))), some (.int (m_i (f)))]) eMd_feed_73 (Nat.le_of_ble_eq_true rfl) rfl ?_
              refine r_aln eMd_feed_75 rfl ?_
              refine m_getR eMd_feed_76 rfl hM.2.1 (md_tape_p hM) ?_
              refine r_aln eMd_feed_79 rfl ?_
              refine r_gete (x := J M 2) eMd_feed_80 rfl (by decide) hM.2.1 (by simp [m_up, md_put_at, m_fl]) ?_
              refine r_il eMd_feed_83 rfl ?_
              refine r_add eMd_feed_85 ?_
              refine r_il eMd_feed_86 rfl ?_
              refine r_bip eMd_feed_88 (by decide) ?_
              refine r_bip eMd_feed_90 (by decide) ?_
              refine r_il eMd_feed_92 rfl ?_
              refine r_con eMd_feed_94 ?_
              refine r_rem eMd_feed_95 ⟨(by omega), (by omega)⟩ ⟨(by omega), (by omega)⟩ ?_
              refine r_mul eMd_feed_96 ?_
              refine r_sub eMd_feed_97 ?_
              refine r_shr eMd_feed_98 ?_
              refine r_sip eMd_feed_99 (by decide) ?_
              refine r_and eMd_feed_102 ?_
              refine r_iast eMd_feed_103 (md_tape_t hM) (by decide) (by omega) (by omega) (md_b hM 1) ?_
              refine r_inc (ls' := [some (.ref M), some (.int (m_i (a))), some (.int (m_i (b))), some (.int (m_i (c))), some (.int (m_i (e))), some (.int (m_i (f))), some (.int (m_i (k + 1))), some (.int (m_i (f)))]) eMd_feed_104 rfl rfl ?_
              refine r_go (tgt := 20) eMd_feed_107 rfl ?_
              first | rw [key a (by unfold a_fv; rw [if_pos (by omega)])] | rw [key b (by unfold a_fv; rw [if_neg (by omega), if_pos (by omega)])] | rw [key c (by unfold a_fv; rw [if_neg (by omega), if_neg (by omega), if_pos (by omega)])] | rw [key e (by unfold a_fv; rw [if_neg (by omega), if_neg (by omega), if_neg (by omega), if_pos (by omega)])] | rw [key f (by unfold a_fv; rw [if_neg (by omega), if_neg (by omega), if_neg (by omega), if_neg (by omega)])]
              exact ih (k + 1) _ (by omega) (by omega)
            · refine r_il eMd_feed_66 rfl ?_
              refine r_go (tgt := 73) eMd_feed_68 rfl ?_
              refine r_is (ls' := [some (.ref M), some (.int (m_i (a))), some (.int (m_i (b))), some (.int (m_i (c))), some (.int (m_i (e))), some (.int (m_i (f))), some (.int (m_i (k))), some (.int (m_i (e)))]) eMd_feed_73 (Nat.le_of_ble_eq_true rfl) rfl ?_
              refine r_aln eMd_feed_75 rfl ?_
              refine m_getR eMd_feed_76 rfl hM.2.1 (md_tape_p hM) ?_
              refine r_aln eMd_feed_79 rfl ?_
              refine r_gete (x := J M 2) eMd_feed_80 rfl (by decide) hM.2.1 (by simp [m_up, md_put_at, m_fl]) ?_
              refine r_il eMd_feed_83 rfl ?_
              refine r_add eMd_feed_85 ?_
              refine r_il eMd_feed_86 rfl ?_
              refine r_bip eMd_feed_88 (by decide) ?_
              refine r_bip eMd_feed_90 (by decide) ?_
              refine r_il eMd_feed_92 rfl ?_
              refine r_con eMd_feed_94 ?_
              refine r_rem eMd_feed_95 ⟨(by omega), (by omega)⟩ ⟨(by omega), (by omega)⟩ ?_
              refine r_mul eMd_feed_96 ?_
              refine r_sub eMd_feed_97 ?_
              refine r_shr eMd_feed_98 ?_
              refine r_sip eMd_feed_99 (by decide) ?_
              refine r_and eMd_feed_102 ?_
              refine r_iast eMd_feed_103 (md_tape_t hM) (by decide) (by omega) (by omega) (md_b hM 1) ?_
              refine r_inc (ls' := [some (.ref M), some (.int (m_i (a))), some (.int (m_i (b))), some (.int (m_i (c))), some (.int (m_i (e))), some (.int (m_i (f))), some (.int (m_i (k + 1))), some (.int (m_i (e)))]) eMd_feed_104 rfl rfl ?_
              refine r_go (tgt := 20) eMd_feed_107 rfl ?_
              first | rw [key a (by unfold a_fv; rw [if_pos (by omega)])] | rw [key b (by unfold a_fv; rw [if_neg (by omega), if_pos (by omega)])] | rw [key c (by unfold a_fv; rw [if_neg (by omega), if_neg (by omega), if_pos (by omega)])] | rw [key e (by unfold a_fv; rw [if_neg (by omega), if_neg (by omega), if_neg (by omega), if_pos (by omega)])] | rw [key f (by unfold a_fv; rw [if_neg (by omega), if_neg (by omega), if_neg (by omega), if_neg (by omega)])]
              exact ih (k + 1) _ (by omega) (by omega)
          · refine r_iln eMd_feed_55 rfl ?_
            refine r_go (tgt := 73) eMd_feed_56 rfl ?_
            refine r_is (ls' := [some (.ref M), some (.int (m_i (a))), some (.int (m_i (b))), some (.int (m_i (c))), some (.int (m_i (e))), some (.int (m_i (f))), some (.int (m_i (k))), some (.int (m_i (c)))]) eMd_feed_73 (Nat.le_of_ble_eq_true rfl) rfl ?_
            refine r_aln eMd_feed_75 rfl ?_
            refine m_getR eMd_feed_76 rfl hM.2.1 (md_tape_p hM) ?_
            refine r_aln eMd_feed_79 rfl ?_
            refine r_gete (x := J M 2) eMd_feed_80 rfl (by decide) hM.2.1 (by simp [m_up, md_put_at, m_fl]) ?_
            refine r_il eMd_feed_83 rfl ?_
            refine r_add eMd_feed_85 ?_
            refine r_il eMd_feed_86 rfl ?_
            refine r_bip eMd_feed_88 (by decide) ?_
            refine r_bip eMd_feed_90 (by decide) ?_
            refine r_il eMd_feed_92 rfl ?_
            refine r_con eMd_feed_94 ?_
            refine r_rem eMd_feed_95 ⟨(by omega), (by omega)⟩ ⟨(by omega), (by omega)⟩ ?_
            refine r_mul eMd_feed_96 ?_
            refine r_sub eMd_feed_97 ?_
            refine r_shr eMd_feed_98 ?_
            refine r_sip eMd_feed_99 (by decide) ?_
            refine r_and eMd_feed_102 ?_
            refine r_iast eMd_feed_103 (md_tape_t hM) (by decide) (by omega) (by omega) (md_b hM 1) ?_
            refine r_inc (ls' := [some (.ref M), some (.int (m_i (a))), some (.int (m_i (b))), some (.int (m_i (c))), some (.int (m_i (e))), some (.int (m_i (f))), some (.int (m_i (k + 1))), some (.int (m_i (c)))]) eMd_feed_104 rfl rfl ?_
            refine r_go (tgt := 20) eMd_feed_107 rfl ?_
            first | rw [key a (by unfold a_fv; rw [if_pos (by omega)])] | rw [key b (by unfold a_fv; rw [if_neg (by omega), if_pos (by omega)])] | rw [key c (by unfold a_fv; rw [if_neg (by omega), if_neg (by omega), if_pos (by omega)])] | rw [key e (by unfold a_fv; rw [if_neg (by omega), if_neg (by omega), if_neg (by omega), if_pos (by omega)])] | rw [key f (by unfold a_fv; rw [if_neg (by omega), if_neg (by omega), if_neg (by omega), if_neg (by omega)])]
            exact ih (k + 1) _ (by omega) (by omega)
        · refine r_iln eMd_feed_44 rfl ?_
          refine r_go (tgt := 73) eMd_feed_45 rfl ?_
          refine r_is (ls' := [some (.ref M), some (.int (m_i (a))), some (.int (m_i (b))), some (.int (m_i (c))), some (.int (m_i (e))), some (.int (m_i (f))), some (.int (m_i (k))), some (.int (m_i (b)))]) eMd_feed_73 (Nat.le_of_ble_eq_true rfl) rfl ?_
          refine r_aln eMd_feed_75 rfl ?_
          refine m_getR eMd_feed_76 rfl hM.2.1 (md_tape_p hM) ?_
          refine r_aln eMd_feed_79 rfl ?_
          refine r_gete (x := J M 2) eMd_feed_80 rfl (by decide) hM.2.1 (by simp [m_up, md_put_at, m_fl]) ?_
          refine r_il eMd_feed_83 rfl ?_
          refine r_add eMd_feed_85 ?_
          refine r_il eMd_feed_86 rfl ?_
          refine r_bip eMd_feed_88 (by decide) ?_
          refine r_bip eMd_feed_90 (by decide) ?_
          refine r_il eMd_feed_92 rfl ?_
          refine r_con eMd_feed_94 ?_
          refine r_rem eMd_feed_95 ⟨(by omega), (by omega)⟩ ⟨(by omega), (by omega)⟩ ?_
          refine r_mul eMd_feed_96 ?_
          refine r_sub eMd_feed_97 ?_
          refine r_shr eMd_feed_98 ?_
          refine r_sip eMd_feed_99 (by decide) ?_
          refine r_and eMd_feed_102 ?_
          refine r_iast eMd_feed_103 (md_tape_t hM) (by decide) (by omega) (by omega) (md_b hM 1) ?_
          refine r_inc (ls' := [some (.ref M), some (.int (m_i (a))), some (.int (m_i (b))), some (.int (m_i (c))), some (.int (m_i (e))), some (.int (m_i (f))), some (.int (m_i (k + 1))), some (.int (m_i (b)))]) eMd_feed_104 rfl rfl ?_
          refine r_go (tgt := 20) eMd_feed_107 rfl ?_
          first | rw [key a (by unfold a_fv; rw [if_pos (by omega)])] | rw [key b (by unfold a_fv; rw [if_neg (by omega), if_pos (by omega)])] | rw [key c (by unfold a_fv; rw [if_neg (by omega), if_neg (by omega), if_pos (by omega)])] | rw [key e (by unfold a_fv; rw [if_neg (by omega), if_neg (by omega), if_neg (by omega), if_pos (by omega)])] | rw [key f (by unfold a_fv; rw [if_neg (by omega), if_neg (by omega), if_neg (by omega), if_neg (by omega)])]
          exact ih (k + 1) _ (by omega) (by omega)
      · refine r_iln eMd_feed_33 rfl ?_
        refine r_go (tgt := 73) eMd_feed_34 rfl ?_
        refine r_is (ls' := [some (.ref M), some (.int (m_i (a))), some (.int (m_i (b))), some (.int (m_i (c))), some (.int (m_i (e))), some (.int (m_i (f))), some (.int (m_i (k))), some (.int (m_i (a)))]) eMd_feed_73 (Nat.le_of_ble_eq_true rfl) rfl ?_
        refine r_aln eMd_feed_75 rfl ?_
        refine m_getR eMd_feed_76 rfl hM.2.1 (md_tape_p hM) ?_
        refine r_aln eMd_feed_79 rfl ?_
        refine r_gete (x := J M 2) eMd_feed_80 rfl (by decide) hM.2.1 (by simp [m_up, md_put_at, m_fl]) ?_
        refine r_il eMd_feed_83 rfl ?_
        refine r_add eMd_feed_85 ?_
        refine r_il eMd_feed_86 rfl ?_
        refine r_bip eMd_feed_88 (by decide) ?_
        refine r_bip eMd_feed_90 (by decide) ?_
        refine r_il eMd_feed_92 rfl ?_
        refine r_con eMd_feed_94 ?_
        refine r_rem eMd_feed_95 ⟨(by omega), (by omega)⟩ ⟨(by omega), (by omega)⟩ ?_
        refine r_mul eMd_feed_96 ?_
        refine r_sub eMd_feed_97 ?_
        refine r_shr eMd_feed_98 ?_
        refine r_sip eMd_feed_99 (by decide) ?_
        refine r_and eMd_feed_102 ?_
        refine r_iast eMd_feed_103 (md_tape_t hM) (by decide) (by omega) (by omega) (md_b hM 1) ?_
        refine r_inc (ls' := [some (.ref M), some (.int (m_i (a))), some (.int (m_i (b))), some (.int (m_i (c))), some (.int (m_i (e))), some (.int (m_i (f))), some (.int (m_i (k + 1))), some (.int (m_i (a)))]) eMd_feed_104 rfl rfl ?_
        refine r_go (tgt := 20) eMd_feed_107 rfl ?_
        first | rw [key a (by unfold a_fv; rw [if_pos (by omega)])] | rw [key b (by unfold a_fv; rw [if_neg (by omega), if_pos (by omega)])] | rw [key c (by unfold a_fv; rw [if_neg (by omega), if_neg (by omega), if_pos (by omega)])] | rw [key e (by unfold a_fv; rw [if_neg (by omega), if_neg (by omega), if_neg (by omega), if_pos (by omega)])] | rw [key f (by unfold a_fv; rw [if_neg (by omega), if_neg (by omega), if_neg (by omega), if_neg (by omega)])]
        exact ih (k + 1) _ (by omega) (by omega)
theorem c_Md_feed (hM : md_sh en M T P) (hJ : m_up J0 M 0 0 = J) (ht : 0 ≤ J M 2 ∧ J M 2 ≤ 700) {a b c e f : Int}
    (hq0 : 680 < J M 2 → Q (some (.int (m_i (-1)))) (T, m_I J, P, L, z, w))
    (hq1 : J M 2 ≤ 680 → Q (some (.int (m_i (J M 2 + 20)))) (T, m_I (m_up (m_fl J (M + 1) (J M 2).toNat (fun i => a_fb a b c e f (i : Int)) 20) M 2 (J M 2 + 20)), P, L, z, w)) : m_call en (d + 1) mMd_feed [.ref M, .int (m_i a), .int (m_i b), .int (m_i c), .int (m_i e), .int (m_i f)] (T, m_I J0, P, L, z, w) Q := by
  refine m_into (by decide) (Nat.le_of_ble_eq_true rfl) rfl ?_
  show m_wp en _ mMd_feed 0 [some (.ref M), some (.int (m_i (a))), some (.int (m_i (b))), some (.int (m_i (c))), some (.int (m_i (e))), some (.int (m_i (f))), none, none] [] (T, m_I J0, P, L, z, w) Q
  refine r_aln eMd_feed_0 rfl ?_
  refine r_con eMd_feed_1 ?_
  refine r_put eMd_feed_2 rfl hM.2.1 hM.1 (Or.inl rfl) ?_
  rw [hJ]
  refine r_aln eMd_feed_5 rfl ?_
  refine r_gete (x := J M 2) eMd_feed_6 rfl (by decide) hM.2.1 rfl ?_
  refine r_sip eMd_feed_9 (by decide) ?_
  refine r_cle (tgt := 17) eMd_feed_12 rfl ⟨(by omega), (by omega)⟩ ⟨(by omega), (by omega)⟩ (fun c12 => ?_) (fun c12 => ?_)
  · refine r_con eMd_feed_17 ?_
    refine r_is (ls' := [some (.ref M), some (.int (m_i (a))), some (.int (m_i (b))), some (.int (m_i (c))), some (.int (m_i (e))), some (.int (m_i (f))), some (.int (m_i (0))), none]) eMd_feed_18 (Nat.le_of_ble_eq_true rfl) rfl ?_
    have h := l_Md_feed (d := d) (z := z) (w := w) (L := L) (P := P) (Q := Q) hM (by omega) (hq1 (by omega)) 20 0 none (by omega) (by omega)
    rw [m_fl_0] at h
    exact h
  · refine r_con eMd_feed_15 ?_
    refine r_iret eMd_feed_16 rfl ?_
    exact hq0 (by omega)
/-- whether k letters are those m ahead of them -/
def a_eqk (r : Nat → Int) (m : Int) : Nat → Int
  | 0 => 1
  | k + 1 => if a_eqk r m k = 0 then 0 else if r (23 + (k : Int)).toNat = r (23 + m + (k : Int)).toNat then 1 else 0
theorem a_eqk_01 (r : Nat → Int) (m : Int) (k : Nat) : a_eqk r m k = 0 ∨ a_eqk r m k = 1 := by
  cases k with
  | zero => exact Or.inr rfl
  | succ k =>
    unfold a_eqk
    split
    · exact Or.inl rfl
    · split
      · exact Or.inr rfl
      · exact Or.inl rfl
/-- the most m, from m on downwards -/
def a_agn (r : Nat → Int) : Nat → Int
  | 0 => 0
  | m + 1 => if a_eqk r ((m + 1 : Nat) : Int) (m + 1) = 0 then a_agn r m else ((m + 1 : Nat) : Int)
theorem l_Md_again1 (hM : md_sh en M T P) (hb : ∀ i : Nat, i < 143 → -100000 ≤ J (M + 22) i ∧ J (M + 22) i ≤ 100000) {m : Nat} (hm : m ≤ 20)
    (hq : m_wp en d mMd_again 67 [some (.ref M), some (.int (m_i (m : Int))), some (.int (m_i (a_eqk (J (M + 22)) (m : Int) m))), some (.int (m_i (m : Int)))] [] (T, m_I J, P, L, z, w) Q) :
    ∀ (n k : Nat), k + n = m → m_wp en d mMd_again 23 [some (.ref M), some (.int (m_i (m : Int))), some (.int (m_i (a_eqk (J (M + 22)) (m : Int) k))), some (.int (m_i (k : Int)))] [] (T, m_I J, P, L, z, w) Q := by
  intro n
  induction n with
  | zero =>
    intro k hk
    obtain rfl : k = m := by omega
    refine r_iln eMd_again_23 rfl ?_
    refine r_iln eMd_again_24 rfl ?_
    refine r_cge (tgt := 67) eMd_again_25 rfl ⟨(by omega), (by omega)⟩ ⟨(by omega), (by omega)⟩ (fun c25 => ?_) (fun c25 => ?_)
    · exact hq
    · exfalso; omega
  | succ n ih =>
    intro k hk
    have h01 := a_eqk_01 (J (M + 22)) (m : Int) k
    have hi := ih (k + 1) (by omega)
    unfold a_eqk at hi
    have b1 := hb (23 + (k : Int)).toNat (by omega)
    have b2 := hb (23 + (m : Int) + (k : Int)).toNat (by omega)
    refine r_iln eMd_again_23 rfl ?_
    refine r_iln eMd_again_24 rfl ?_
    refine r_cge (tgt := 67) eMd_again_25 rfl ⟨(by omega), (by omega)⟩ ⟨(by omega), (by omega)⟩ (fun c25 => ?_) (fun c25 => ?_)
    · exfalso; omega
    · refine r_iln eMd_again_28 rfl ?_
      refine r_zeq (tgt := 59) eMd_again_29 rfl ⟨(by omega), (by omega)⟩ (fun c29 => ?_) (fun c29 => ?_)
      · refine r_con eMd_again_59 ?_
        refine r_isn (ls' := [some (.ref M), some (.int (m_i ((m : Int)))), some (.int (m_i (0))), some (.int (m_i ((k : Int))))]) eMd_again_60 (Nat.le_of_ble_eq_true rfl) rfl ?_
        refine r_inc (ls' := [some (.ref M), some (.int (m_i ((m : Int)))), some (.int (m_i (0))), some (.int (m_i ((k : Int) + 1)))]) eMd_again_61 rfl rfl ?_
        refine r_go (tgt := 23) eMd_again_64 rfl ?_
        first | (rw [if_pos (by omega)] at hi; exact hi) | (rw [if_neg (by omega), if_pos (by omega)] at hi; exact hi) | (rw [if_neg (by omega), if_neg (by omega)] at hi; exact hi)
      · refine r_aln eMd_again_32 rfl ?_
        refine m_getR eMd_again_33 rfl hM.2.1 (md_s_p hM) ?_
        refine r_bip eMd_again_36 (by decide) ?_
        refine r_iln eMd_again_38 rfl ?_
        refine r_add eMd_again_39 ?_
        refine r_ialde (x := J (M + 22) (((23) + ((k : Int))).toNat)) eMd_again_40 (md_s_t hM) (by decide) (by omega) (by omega) rfl ?_
        refine r_aln eMd_again_41 rfl ?_
        refine m_getR eMd_again_42 rfl hM.2.1 (md_s_p hM) ?_
        refine r_bip eMd_again_45 (by decide) ?_
        refine r_iln eMd_again_47 rfl ?_
        refine r_add eMd_again_48 ?_
        refine r_iln eMd_again_49 rfl ?_
        refine r_add eMd_again_50 ?_
        refine r_ialde (x := J (M + 22) ((((23) + ((m : Int))) + ((k : Int))).toNat)) eMd_again_51 (md_s_t hM) (by decide) (by omega) (by omega) rfl ?_
        refine r_cne (tgt := 59) eMd_again_52 rfl ⟨(by omega), (by omega)⟩ ⟨(by omega), (by omega)⟩ (fun c52 => ?_) (fun c52 => ?_)
        · refine r_con eMd_again_59 ?_
          refine r_isn (ls' := [some (.ref M), some (.int (m_i ((m : Int)))), some (.int (m_i (0))), some (.int (m_i ((k : Int))))]) eMd_again_60 (Nat.le_of_ble_eq_true rfl) rfl ?_
          refine r_inc (ls' := [some (.ref M), some (.int (m_i ((m : Int)))), some (.int (m_i (0))), some (.int (m_i ((k : Int) + 1)))]) eMd_again_61 rfl rfl ?_
          refine r_go (tgt := 23) eMd_again_64 rfl ?_
          first | (rw [if_pos (by omega)] at hi; exact hi) | (rw [if_neg (by omega), if_pos (by omega)] at hi; exact hi) | (rw [if_neg (by omega), if_neg (by omega)] at hi; exact hi)
        · refine r_con eMd_again_55 ?_
          refine r_go (tgt := 60) eMd_again_56 rfl ?_
          refine r_isn (ls' := [some (.ref M), some (.int (m_i ((m : Int)))), some (.int (m_i (1))), some (.int (m_i ((k : Int))))]) eMd_again_60 (Nat.le_of_ble_eq_true rfl) rfl ?_
          refine r_inc (ls' := [some (.ref M), some (.int (m_i ((m : Int)))), some (.int (m_i (1))), some (.int (m_i ((k : Int) + 1)))]) eMd_again_61 rfl rfl ?_
          refine r_go (tgt := 23) eMd_again_64 rfl ?_
          first | (rw [if_pos (by omega)] at hi; exact hi) | (rw [if_neg (by omega), if_pos (by omega)] at hi; exact hi) | (rw [if_neg (by omega), if_neg (by omega)] at hi; exact hi)
theorem l_Md_again2 (hM : md_sh en M T P) (hb : ∀ i : Nat, i < 143 → -100000 ≤ J (M + 22) i ∧ J (M + 22) i ≤ 100000) :
    ∀ (m : Nat) (o2 o3 : Option Value), m ≤ 20 → Q (some (.int (m_i (a_agn (J (M + 22)) m)))) (T, m_I J, P, L, z, w) → m_wp en d mMd_again 15 [some (.ref M), some (.int (m_i (m : Int))), o2, o3] [] (T, m_I J, P, L, z, w) Q := by
  intro m
  induction m with
  | zero =>
    intro o2 o3 hm hq
    refine r_iln eMd_again_15 rfl ?_
    refine r_zle (tgt := 79) eMd_again_16 rfl ⟨(by omega), (by omega)⟩ (fun c16 => ?_) (fun c16 => ?_)
    · refine r_con eMd_again_79 ?_
      refine r_iret eMd_again_80 rfl ?_
      exact hq
    · exfalso; omega
  | succ m ih =>
    intro o2 o3 hm hq
    have h01 := a_eqk_01 (J (M + 22)) ((m + 1 : Nat) : Int) (m + 1)
    unfold a_agn at hq
    have hin : m_wp en d mMd_again 67 [some (.ref M), some (.int (m_i ((m + 1 : Nat) : Int))), some (.int (m_i (a_eqk (J (M + 22)) ((m + 1 : Nat) : Int) (m + 1)))), some (.int (m_i ((m + 1 : Nat) : Int)))] [] (T, m_I J, P, L, z, w) Q := by
      refine r_iln eMd_again_67 rfl ?_
      refine r_zeq (tgt := 73) eMd_again_68 rfl ⟨(by omega), (by omega)⟩ (fun c68 => ?_) (fun c68 => ?_)
      · refine r_inc (ls' := [some (.ref M), some (.int (m_i (((m + 1 : Nat) : Int) + (-1)))), some (.int (m_i (a_eqk (J (M + 22)) ((m + 1 : Nat) : Int) (m + 1)))), some (.int (m_i (((m + 1 : Nat) : Int))))]) eMd_again_73 rfl rfl ?_
        refine r_go (tgt := 15) eMd_again_76 rfl ?_
        rw [if_pos (by omega)] at hq
        rw [show ((m + 1 : Nat) : Int) + (-1) = (m : Int) by omega]
        exact ih _ _ (by omega) hq
      · refine r_iln eMd_again_71 rfl ?_
        refine r_iret eMd_again_72 rfl ?_
        rw [if_neg (by omega)] at hq
        exact hq
    refine r_iln eMd_again_15 rfl ?_
    refine r_zle (tgt := 79) eMd_again_16 rfl ⟨(by omega), (by omega)⟩ (fun c16 => ?_) (fun c16 => ?_)
    · exfalso; omega
    · refine r_con eMd_again_19 ?_
      refine r_isn (ls' := [some (.ref M), some (.int (m_i (((m + 1 : Nat) : Int)))), some (.int (m_i (1))), o3]) eMd_again_20 (Nat.le_of_ble_eq_true rfl) rfl ?_
      refine r_con eMd_again_21 ?_
      refine r_isn (ls' := [some (.ref M), some (.int (m_i (((m + 1 : Nat) : Int)))), some (.int (m_i (1))), some (.int (m_i (0)))]) eMd_again_22 (Nat.le_of_ble_eq_true rfl) rfl ?_
      exact l_Md_again1 hM hb hm hin (m + 1) 0 (by omega)
theorem c_Md_again (hM : md_sh en M T P) (hJ : m_up J0 M 0 0 = J) (hinv : md_inv J M) (hq : Q (some (.int (m_i (a_agn (J (M + 22)) (J (M + 22) 6 / 2).toNat)))) (T, m_I J, P, L, z, w)) : m_call en (d + 1) mMd_again [.ref M] (T, m_I J0, P, L, z, w) Q := by
  have h6 := hinv.h6
  have e : (((J (M + 22) 6 / 2).toNat : Nat) : Int) = J (M + 22) 6 / 2 := by omega
  have h := l_Md_again2 (d := d) (z := z) (w := w) (L := L) (P := P) (Q := Q) hM hinv.row.2.2.2.2.2.2.2 (J (M + 22) 6 / 2).toNat none none (by omega) hq
  rw [e] at h
  refine m_into (by decide) (Nat.le_of_ble_eq_true rfl) rfl ?_
  show m_wp en _ mMd_again 0 [some (.ref M), none, none, none] [] (T, m_I J0, P, L, z, w) Q
  refine r_aln eMd_again_0 rfl ?_
  refine r_con eMd_again_1 ?_
  refine r_put eMd_again_2 rfl hM.2.1 hM.1 (Or.inl rfl) ?_
  rw [hJ]
  refine r_aln eMd_again_5 rfl ?_
  refine m_getR eMd_again_6 rfl hM.2.1 (md_s_p hM) ?_
  refine r_bip eMd_again_9 (by decide) ?_
  refine r_ialde (x := J (M + 22) 6) eMd_again_11 (md_s_t hM) (by decide) (by omega) (by omega) rfl ?_
  refine r_con eMd_again_12 ?_
  refine r_div eMd_again_13 ⟨(by omega), (by omega)⟩ ⟨(by omega), (by omega)⟩ ?_
  refine r_isn (ls' := [some (.ref M), some (.int (m_i ((J (M + 22) 6) / (2)))), none, none]) eMd_again_14 (Nat.le_of_ble_eq_true rfl) rfl ?_
  exact h
def a_gt (a b : Int) : Int := if b < a then a else b
theorem c_Md_greater (hM : md_sh en M T P) {a b : Int} (ha : m_in a) (hb : m_in b) (hq : Q (some (.int (m_i (a_gt a b)))) (T, m_I J, P, L, z, w)) : m_call en (d + 1) mMd_greater [.ref M, .int (m_i a), .int (m_i b)] (T, m_I J, P, L, z, w) Q := by
  unfold m_in at ha hb
  unfold a_gt at hq
  refine m_into (by decide) (Nat.le_of_ble_eq_true rfl) rfl ?_
  show m_wp en _ mMd_greater 0 [some (.ref M), some (.int (m_i (a))), some (.int (m_i (b)))] [] (T, m_I J, P, L, z, w) Q
  refine r_iln eMd_greater_0 rfl ?_
  refine r_iln eMd_greater_1 rfl ?_
  refine r_cle (tgt := 9) eMd_greater_2 rfl ⟨(by omega), (by omega)⟩ ⟨(by omega), (by omega)⟩ (fun c2 => ?_) (fun c2 => ?_)
  · refine r_iln eMd_greater_9 rfl ?_
    refine r_iret eMd_greater_10 rfl ?_
    first | (rw [if_pos (by omega)] at hq; exact hq) | (rw [if_neg (by omega)] at hq; exact hq)
  · refine r_iln eMd_greater_5 rfl ?_
    refine r_go (tgt := 10) eMd_greater_6 rfl ?_
    refine r_iret eMd_greater_10 rfl ?_
    first | (rw [if_pos (by omega)] at hq; exact hq) | (rw [if_neg (by omega)] at hq; exact hq)
/-- the next number of a row of draws, the wind by it -/
def a_draw (x : Int) : Int := m_and (x * 1103515245 + 12345) 2147483647
def a_dw (x : Int) : Int := m_shr x 16 % 3
theorem a_draw_bd (x : Int) : 0 ≤ a_draw x ∧ a_draw x < 2147483648 := by
  unfold a_draw
  rw [m_and_31b]
  omega
theorem a_dsh (x : Int) : 0 ≤ m_shr (a_draw x) 16 ∧ m_shr (a_draw x) 16 < 2147483648 := by
  have h := a_draw_bd x
  have e := m_shr_v (x := a_draw x) (k := 16) (by unfold m_in; omega) 16 rfl (by omega)
  rw [e]
  omega
theorem a_dw_bd (x : Int) : 0 ≤ a_dw x ∧ a_dw x < 3 := by
  unfold a_dw
  omega
theorem c_Md_draw (hM : md_sh en M T P) (hq : Q (some (.int (m_i (a_dw (a_draw (J M 52)))))) (T, m_I (m_up J M 52 (a_draw (J M 52))), P, L, z, w)) : m_call en (d + 1) mMd_draw [.ref M, .int (m_i 3)] (T, m_I J, P, L, z, w) Q := by
  have hs := a_dsh (J M 52)
  unfold a_draw at hs
  refine m_into (by decide) (Nat.le_of_ble_eq_true rfl) rfl ?_
  show m_wp en _ mMd_draw 0 [some (.ref M), some (.int (m_i (3)))] [] (T, m_I J, P, L, z, w) Q
  refine r_aln eMd_draw_0 rfl ?_
  refine r_aln eMd_draw_1 rfl ?_
  refine r_gete (x := J M 52) eMd_draw_2 rfl (by decide) hM.2.1 rfl ?_
  refine r_ldcw (x := 1103515245) eMd_draw_5 rfl (by decide) ?_
  refine r_mul eMd_draw_8 ?_
  refine r_sip eMd_draw_9 (by decide) ?_
  refine r_add eMd_draw_12 ?_
  refine r_ldcw (x := 2147483647) eMd_draw_13 rfl (by decide) ?_
  refine r_and eMd_draw_16 ?_
  refine r_put eMd_draw_17 rfl hM.2.1 hM.1 (Or.inl rfl) ?_
  refine r_aln eMd_draw_20 rfl ?_
  refine r_gete (x := m_and (((J M 52) * (1103515245)) + (12345)) (2147483647)) eMd_draw_21 rfl (by decide) hM.2.1 (by simp [m_up]) ?_
  refine r_bip eMd_draw_24 (by decide) ?_
  refine r_shr eMd_draw_26 ?_
  refine r_iln eMd_draw_27 rfl ?_
  refine r_rem eMd_draw_28 ⟨(by omega), (by omega)⟩ ⟨(by omega), (by omega)⟩ ?_
  refine r_iret eMd_draw_29 rfl ?_
  exact hq
end MDFE
/-- ticks by chance: how many, the greatest sway, the state then -/
def s_chn (C : a_C) (t0 n : Int) : Nat → Int → Int → Int → Int → Int → Int → Int → Prop
  | 0, _, st, sw, mn, mn', sw', st' => mn' = mn ∧ sw' = sw ∧ st' = st
  | k + 1, dr, st, sw, mn, mn', sw', st' => (¬ (mn < n ∧ t0 + mn < 9999) ∧ mn' = mn ∧ sw' = sw ∧ st' = st) ∨ ((mn < n ∧ t0 + mn < 9999) ∧ ∃ c, s_stl C st c ∧ ((¬ a_why C (a_step (a_of st) c (a_dw (a_draw dr) - 1)) = 0 ∧ mn' = mn ∧ sw' = sw ∧ st' = st) ∨
      (a_why C (a_step (a_of st) c (a_dw (a_draw dr) - 1)) = 0 ∧ s_chn C t0 n k (a_draw dr) (a_no (a_step (a_of st) c (a_dw (a_draw dr) - 1))) (if mn = 0 then a_abs (a_step (a_of st) c (a_dw (a_draw dr) - 1)).2.2.1 else a_gt sw (a_abs (a_step (a_of st) c (a_dw (a_draw dr) - 1)).2.2.1)) (mn + 1) mn' sw' st')))
theorem md_up_fy (J : Nat → Nat → Int) (M : Nat) {i : Nat} (hi : i = 0 ∨ i = 49 ∨ i = 51 ∨ i = 52) (v : Int) : md_fy J (m_up J M i v) M := fun b j _ _ _ _ _ a6 => by
  rw [m_up_at, if_neg (by omega)]
theorem md_inv.up {J : Nat → Nat → Int} {M : Nat} (h : md_inv J M) {i : Nat} (hi : i = 0 ∨ i = 49 ∨ i = 51 ∨ i = 52) (v : Int) : md_inv (m_up J M i v) M := h.fy (md_up_fy J M hi v) (md_kp_eq (funext (fun j => by rw [m_up_at, if_neg (by omega)])) (funext (fun j => by rw [m_up_at, if_neg (by omega)])) (by rw [m_up_at, if_neg (by omega)]) (by rw [m_up_at, if_neg (by omega)]) (by rw [m_up_at, if_neg (by omega)]) (md_up_fy J M hi v).cf h.hkp)
theorem a_abs_sm {σ : a_S} (h : a_bx σ) : 0 ≤ a_abs σ.2.2.1 ∧ a_abs σ.2.2.1 ≤ 4 := by
  have := h.2.2.1
  unfold a_abs
  split <;> omega
section MDCH
variable {en : Nat → Nat} {d : Nat} {T : Nat → Option (Nat × Nat)} {J J0 J1 : Nat → Nat → Int} {P : Nat → Nat → Option Nat} {L : Nat → Nat → Int64} {z w M : Nat} {Q : m_Q} {σ : a_S}
theorem a_gt_bd {a b : Int} (ha : 0 ≤ a ∧ a ≤ 100) (hb : 0 ≤ b ∧ b ≤ 100) : 0 ≤ a_gt a b ∧ a_gt a b ≤ 100 := by
  unfold a_gt
  split <;> omega
theorem l_Md_chance (hM : md_sh en M T P) {sd n what : Int} (hn : 1 ≤ n ∧ n ≤ 60) (ht : 0 ≤ J (M + 22) 1 ∧ J (M + 22) 1 ≤ 9999) :
    ∀ (k : Nat) (dr st sw mn : Int) (J1 : Nat → Nat → Int) (o7 : Option Value), mn + k = n → 0 ≤ mn → md_fy J J1 M → md_inv J1 M → J1 M 52 = dr → 0 ≤ st ∧ st < 38880 → 0 ≤ sw ∧ sw ≤ 100 →
      (∀ (J2 : Nat → Nat → Int) (mn' sw' st' : Int) (o : Option Value), md_fy J J2 M → md_inv J2 M → s_chn (md_cf J M) (J (M + 22) 1) n k dr st sw mn mn' sw' st' → 0 ≤ st' ∧ st' < 38880 → m_wp en (d + 8) mMd_chance 170 [some (.ref M), some (.int (m_i sd)), some (.int (m_i n)), some (.int (m_i what)), some (.int (m_i st')), some (.int (m_i sw')), some (.int (m_i mn')), o] [] (T, m_I J2, P, L, z, w) Q) →
      m_wp en (d + 8) mMd_chance 78 [some (.ref M), some (.int (m_i sd)), some (.int (m_i n)), some (.int (m_i what)), some (.int (m_i st)), some (.int (m_i sw)), some (.int (m_i mn)), o7] [] (T, m_I J1, P, L, z, w) Q := by
  intro k
  induction k with
  | zero =>
    intro dr st sw mn J1 o7 hk h0 hfy hinv h52 hst hsw hq
    refine r_il eMd_chance_78 rfl ?_
    refine r_iln eMd_chance_80 rfl ?_
    refine r_cge (tgt := 170) eMd_chance_81 rfl ⟨(by omega), (by omega)⟩ ⟨(by omega), (by omega)⟩ (fun c81 => ?_) (fun c81 => ?_)
    · exact hq J1 mn sw st _ hfy hinv ⟨rfl, rfl, rfl⟩ hst
    · exfalso; omega
  | succ k ih =>
    intro dr st sw mn J1 o7 hk h0 hfy hinv h52 hst hsw hq
    have e22 : J1 (M + 22) 1 = J (M + 22) 1 := congrFun (hfy.r (k := 22) (by omega)) 1
    have hinv2 := hinv.up (i := 52) (by omega) (a_draw dr)
    have hfd : md_fy J (m_up J1 M 52 (a_draw dr)) M := hfy.trans (md_up_fy J1 M (by omega) _)
    have hdw := a_dw_bd (a_draw dr)
    refine r_il eMd_chance_78 rfl ?_
    refine r_iln eMd_chance_80 rfl ?_
    refine r_cge (tgt := 170) eMd_chance_81 rfl ⟨(by omega), (by omega)⟩ ⟨(by omega), (by omega)⟩ (fun c81 => ?_) (fun c81 => ?_)
    · first | (exfalso; omega) | exact hq J1 mn sw st _ hfy hinv (Or.inl ⟨by omega, rfl, rfl, rfl⟩) hst | exact hq _ mn sw st _ (hfy3.trans ((md_fx.refl J2 M).put _).fy) (hinv3.put _) (Or.inr ⟨by omega, c, hstl, Or.inl ⟨fun q => by rw [a_b_t (decide_eq_true q)] at c122; omega, rfl, rfl, rfl⟩⟩) hst
    · refine r_aln eMd_chance_84 rfl ?_
      refine m_getR eMd_chance_85 rfl hM.2.1 (md_s_p hM) ?_
      refine r_con eMd_chance_88 ?_
      refine r_ialde (x := J1 (M + 22) 1) eMd_chance_89 (md_s_t hM) (by decide) (by omega) (by omega) rfl ?_
      refine r_il eMd_chance_90 rfl ?_
      refine r_add eMd_chance_92 ?_
      refine r_sip eMd_chance_93 (by decide) ?_
      refine r_cge (tgt := 170) eMd_chance_96 rfl ⟨(by omega), (by omega)⟩ ⟨(by omega), (by omega)⟩ (fun c96 => ?_) (fun c96 => ?_)
      · first | (exfalso; omega) | exact hq J1 mn sw st _ hfy hinv (Or.inl ⟨by omega, rfl, rfl, rfl⟩) hst | exact hq _ mn sw st _ (hfy3.trans ((md_fx.refl J2 M).put _).fy) (hinv3.put _) (Or.inr ⟨by omega, c, hstl, Or.inl ⟨fun q => by rw [a_b_t (decide_eq_true q)] at c122; omega, rfl, rfl, rfl⟩⟩) hst
      · refine r_aln eMd_chance_99 rfl ?_
        refine r_con eMd_chance_100 ?_
        refine r_vir eMd_chance_101 rfl rfl rfl hM.2.1 rfl rfl ?_
        refine c_Md_draw hM ?_
        · rw [h52]
          show m_wp en _ mMd_chance 104 [some (.ref M), some (.int (m_i (sd))), some (.int (m_i (n))), some (.int (m_i (what))), some (.int (m_i (st))), some (.int (m_i (sw))), some (.int (m_i (mn))), o7] [(.int (m_i (a_dw (a_draw dr))))] (T, m_I ((m_up J1 M 52 (a_draw dr))), P, L, z, w) Q
          refine r_con eMd_chance_104 ?_
          refine r_sub eMd_chance_105 ?_
          refine r_is (ls' := [some (.ref M), some (.int (m_i (sd))), some (.int (m_i (n))), some (.int (m_i (what))), some (.int (m_i (st))), some (.int (m_i (sw))), some (.int (m_i (mn))), some (.int (m_i ((a_dw (a_draw dr)) - (1))))]) eMd_chance_106 (Nat.le_of_ble_eq_true rfl) rfl ?_
          refine r_aln eMd_chance_108 rfl ?_
          refine r_il eMd_chance_109 rfl ?_
          refine r_aln eMd_chance_111 rfl ?_
          refine r_il eMd_chance_112 rfl ?_
          refine r_vir eMd_chance_114 rfl rfl rfl hM.2.1 rfl rfl ?_
          refine c_Md_stillStep hM hinv2.ok hinv2.hkp hst (fun J2 c hfx2 hkp2 hstl => ?_)
          · have hinv3 := hinv2.fx hfx2 hkp2
            have hc9 := s_stl_bd hstl
            rw [hfd.cf] at hstl
            have hfy3 : md_fy J J2 M := hfd.trans hfx2.fy
            have hb01 := a_b_01 (decide (a_why (md_cf J M) (a_step (a_of st) c (a_dw (a_draw dr) - 1)) = 0))
            show m_wp en _ mMd_chance 117 [some (.ref M), some (.int (m_i (sd))), some (.int (m_i (n))), some (.int (m_i (what))), some (.int (m_i (st))), some (.int (m_i (sw))), some (.int (m_i (mn))), some (.int (m_i ((a_dw (a_draw dr)) - (1))))] [(.int (m_i (c))), (.int (m_i (st))), (.ref M)] (T, m_I J2, P, L, z, w) Q
            refine r_il eMd_chance_117 rfl ?_
            refine r_vir eMd_chance_119 rfl rfl rfl hM.2.1 rfl rfl ?_
            refine z_Md_canStep hM hinv3.ok (by omega) (by omega) hc9 (by omega) ?_
            · rw [hfy3.cf]
              show m_wp en _ mMd_chance 122 [some (.ref M), some (.int (m_i (sd))), some (.int (m_i (n))), some (.int (m_i (what))), some (.int (m_i (st))), some (.int (m_i (sw))), some (.int (m_i (mn))), some (.int (m_i ((a_dw (a_draw dr)) - (1))))] [(.int (m_i (a_b (decide (a_why (md_cf J M) (a_step (a_of st) c (a_dw (a_draw dr) - 1)) = 0)))))] (T, m_I ((md_put J2 M (a_step (a_of st) c (a_dw (a_draw dr) - 1)))), P, L, z, w) Q
              refine r_zne (tgt := 128) eMd_chance_122 rfl ⟨(by omega), (by omega)⟩ (fun c122 => ?_) (fun c122 => ?_)
              · have hy : a_why (md_cf J M) (a_step (a_of st) c (a_dw (a_draw dr) - 1)) = 0 := of_decide_eq_true (Classical.byContradiction (fun q => c122 (a_b_f q)))
                have hbx : a_bx (a_step (a_of st) c (a_dw (a_draw dr) - 1)) := a_why_bx (by rw [← hfy3.cf]; exact hinv3.ok) hst.1 (by omega) hy
                have hNb := a_no_bd hbx
                have hab := a_abs_sm hbx
                have hsb := hbx.2.2.1
                have hgt := a_gt_bd hsw (show 0 ≤ a_abs (a_step (a_of st) c (a_dw (a_draw dr) - 1)).2.2.1 ∧ a_abs (a_step (a_of st) c (a_dw (a_draw dr) - 1)).2.2.1 ≤ 100 by omega)
                refine r_aln eMd_chance_128 rfl ?_
                refine r_vir eMd_chance_129 rfl rfl rfl hM.2.1 rfl rfl ?_
                refine s_Md_laid hM ?_
                show m_wp en _ mMd_chance 132 [some (.ref M), some (.int (m_i (sd))), some (.int (m_i (n))), some (.int (m_i (what))), some (.int (m_i (st))), some (.int (m_i (sw))), some (.int (m_i (mn))), some (.int (m_i ((a_dw (a_draw dr)) - (1))))] [(.int (m_i (a_no ((a_step (a_of st) c (a_dw (a_draw dr) - 1))))))] (T, m_I ((md_put J2 M (a_step (a_of st) c (a_dw (a_draw dr) - 1)))), P, L, z, w) Q
                refine r_is (ls' := [some (.ref M), some (.int (m_i (sd))), some (.int (m_i (n))), some (.int (m_i (what))), some (.int (m_i (a_no ((a_step (a_of st) c (a_dw (a_draw dr) - 1)))))), some (.int (m_i (sw))), some (.int (m_i (mn))), some (.int (m_i ((a_dw (a_draw dr)) - (1))))]) eMd_chance_132 (Nat.le_of_ble_eq_true rfl) rfl ?_
                refine r_il eMd_chance_134 rfl ?_
                refine r_zne (tgt := 149) eMd_chance_136 rfl ⟨(by omega), (by omega)⟩ (fun c136 => ?_) (fun c136 => ?_)
                · refine r_aln eMd_chance_149 rfl ?_
                  refine r_il eMd_chance_150 rfl ?_
                  refine r_aln eMd_chance_152 rfl ?_
                  refine r_gete (x := ((a_step (a_of st) c (a_dw (a_draw dr) - 1))).2.2.1) eMd_chance_153 rfl (by decide) hM.2.1 (by simp [m_up, md_put_at, m_fl]) ?_
                  refine r_sta eMd_chance_156 rfl rfl (by decide) rfl ?_
                  refine c_Md_without ⟨by omega, by omega⟩ ?_
                  show m_wp en _ mMd_chance 159 [some (.ref M), some (.int (m_i (sd))), some (.int (m_i (n))), some (.int (m_i (what))), some (.int (m_i (a_no ((a_step (a_of st) c (a_dw (a_draw dr) - 1)))))), some (.int (m_i (sw))), some (.int (m_i (mn))), some (.int (m_i ((a_dw (a_draw dr)) - (1))))] [(.int (m_i (a_abs (((a_step (a_of st) c (a_dw (a_draw dr) - 1))).2.2.1)))), (.int (m_i (sw))), (.ref M)] (T, m_I ((md_put J2 M (a_step (a_of st) c (a_dw (a_draw dr) - 1)))), P, L, z, w) Q
                  refine r_vir eMd_chance_159 rfl rfl rfl hM.2.1 rfl rfl ?_
                  refine c_Md_greater hM (by unfold m_in; omega) (by unfold m_in; omega) ?_
                  show m_wp en _ mMd_chance 162 [some (.ref M), some (.int (m_i (sd))), some (.int (m_i (n))), some (.int (m_i (what))), some (.int (m_i (a_no ((a_step (a_of st) c (a_dw (a_draw dr) - 1)))))), some (.int (m_i (sw))), some (.int (m_i (mn))), some (.int (m_i ((a_dw (a_draw dr)) - (1))))] [(.int (m_i (a_gt (sw) ((a_abs (((a_step (a_of st) c (a_dw (a_draw dr) - 1))).2.2.1))))))] (T, m_I ((md_put J2 M (a_step (a_of st) c (a_dw (a_draw dr) - 1)))), P, L, z, w) Q
                  refine r_is (ls' := [some (.ref M), some (.int (m_i (sd))), some (.int (m_i (n))), some (.int (m_i (what))), some (.int (m_i (a_no ((a_step (a_of st) c (a_dw (a_draw dr) - 1)))))), some (.int (m_i (a_gt (sw) ((a_abs (((a_step (a_of st) c (a_dw (a_draw dr) - 1))).2.2.1)))))), some (.int (m_i (mn))), some (.int (m_i ((a_dw (a_draw dr)) - (1))))]) eMd_chance_162 (Nat.le_of_ble_eq_true rfl) rfl ?_
                  refine r_inc (ls' := [some (.ref M), some (.int (m_i (sd))), some (.int (m_i (n))), some (.int (m_i (what))), some (.int (m_i (a_no ((a_step (a_of st) c (a_dw (a_draw dr) - 1)))))), some (.int (m_i (a_gt (sw) ((a_abs (((a_step (a_of st) c (a_dw (a_draw dr) - 1))).2.2.1)))))), some (.int (m_i (mn + 1))), some (.int (m_i ((a_dw (a_draw dr)) - (1))))]) eMd_chance_164 rfl rfl ?_
                  refine r_go (tgt := 78) eMd_chance_167 rfl ?_
                  refine ih (a_draw dr) _ _ (mn + 1) _ _ (by omega) (by omega) (hfy3.trans ((md_fx.refl J2 M).put _).fy) (hinv3.put _) ?_ hNb (by omega) (fun J3 mn' sw' st' o b1 b2 b3 b4 => hq J3 mn' sw' st' o b1 b2 (Or.inr ⟨by omega, c, hstl, Or.inr ⟨hy, ?_⟩⟩) b4)
                  · rw [md_put_f _ _ _ (by omega), hfx2 M 52 (by omega) (by omega) (by omega)]; exact m_up_same
                  · (first | rw [if_pos (by omega)] | rw [if_neg (by omega)]); exact b3
                · refine r_aln eMd_chance_139 rfl ?_
                  refine r_gete (x := ((a_step (a_of st) c (a_dw (a_draw dr) - 1))).2.2.1) eMd_chance_140 rfl (by decide) hM.2.1 (by simp [m_up, md_put_at, m_fl]) ?_
                  refine r_sta eMd_chance_143 rfl rfl (by decide) rfl ?_
                  refine c_Md_without ⟨by omega, by omega⟩ ?_
                  show m_wp en _ mMd_chance 146 [some (.ref M), some (.int (m_i (sd))), some (.int (m_i (n))), some (.int (m_i (what))), some (.int (m_i (a_no ((a_step (a_of st) c (a_dw (a_draw dr) - 1)))))), some (.int (m_i (sw))), some (.int (m_i (mn))), some (.int (m_i ((a_dw (a_draw dr)) - (1))))] [(.int (m_i (a_abs (((a_step (a_of st) c (a_dw (a_draw dr) - 1))).2.2.1))))] (T, m_I ((md_put J2 M (a_step (a_of st) c (a_dw (a_draw dr) - 1)))), P, L, z, w) Q
                  refine r_go (tgt := 162) eMd_chance_146 rfl ?_
                  refine r_is (ls' := [some (.ref M), some (.int (m_i (sd))), some (.int (m_i (n))), some (.int (m_i (what))), some (.int (m_i (a_no ((a_step (a_of st) c (a_dw (a_draw dr) - 1)))))), some (.int (m_i (a_abs (((a_step (a_of st) c (a_dw (a_draw dr) - 1))).2.2.1)))), some (.int (m_i (mn))), some (.int (m_i ((a_dw (a_draw dr)) - (1))))]) eMd_chance_162 (Nat.le_of_ble_eq_true rfl) rfl ?_
                  refine r_inc (ls' := [some (.ref M), some (.int (m_i (sd))), some (.int (m_i (n))), some (.int (m_i (what))), some (.int (m_i (a_no ((a_step (a_of st) c (a_dw (a_draw dr) - 1)))))), some (.int (m_i (a_abs (((a_step (a_of st) c (a_dw (a_draw dr) - 1))).2.2.1)))), some (.int (m_i (mn + 1))), some (.int (m_i ((a_dw (a_draw dr)) - (1))))]) eMd_chance_164 rfl rfl ?_
                  refine r_go (tgt := 78) eMd_chance_167 rfl ?_
                  refine ih (a_draw dr) _ _ (mn + 1) _ _ (by omega) (by omega) (hfy3.trans ((md_fx.refl J2 M).put _).fy) (hinv3.put _) ?_ hNb (by omega) (fun J3 mn' sw' st' o b1 b2 b3 b4 => hq J3 mn' sw' st' o b1 b2 (Or.inr ⟨by omega, c, hstl, Or.inr ⟨hy, ?_⟩⟩) b4)
                  · rw [md_put_f _ _ _ (by omega), hfx2 M 52 (by omega) (by omega) (by omega)]; exact m_up_same
                  · (first | rw [if_pos (by omega)] | rw [if_neg (by omega)]); exact b3
              · refine r_go (tgt := 170) eMd_chance_125 rfl ?_
                first | (exfalso; omega) | exact hq J1 mn sw st _ hfy hinv (Or.inl ⟨by omega, rfl, rfl, rfl⟩) hst | exact hq _ mn sw st _ (hfy3.trans ((md_fx.refl J2 M).put _).fy) (hinv3.put _) (Or.inr ⟨by omega, c, hstl, Or.inl ⟨fun q => by rw [a_b_t (decide_eq_true q)] at c122; omega, rfl, rfl, rfl⟩⟩) hst
theorem c_Md_chance (hM : md_sh en M T P) (hJ : m_up J0 M 0 0 = J) (hinv : md_inv J M) {sd n what : Int} (hsd : m_in sd) (hn : m_in n) (hw : m_in what)
    (hq0 : ¬ (-1 ≤ sd ∧ (1 ≤ n ∧ n ≤ 60) ∧ 0 ≤ what ∧ what ≤ 2) → Q (some (.int (m_i (-1)))) (T, m_I J, P, L, z, w))
    (hq1 : (-1 ≤ sd ∧ (1 ≤ n ∧ n ≤ 60) ∧ 0 ≤ what ∧ what ≤ 2) → ∀ (J2 : Nat → Nat → Int) (mn sw st : Int), md_fy J J2 M → md_inv J2 M → s_chn (md_cf J M) (J (M + 22) 1) n n.toNat (if sd = -1 then J (M + 2) 8 else sd) (J (M + 22) 0) (a_abs (a_of (J (M + 22) 0)).2.2.1) 0 mn sw st → Q (some (.int (m_i (if what = 0 then mn else if what = 2 then sw else a_b (a_hs (a_of st)))))) (T, m_I J2, P, L, z, w)) : m_call en (d + 9) mMd_chance [.ref M, .int (m_i sd), .int (m_i n), .int (m_i what)] (T, m_I J0, P, L, z, w) Q := by
  unfold m_in at hsd hn hw
  have hs := hinv.hs
  have hbx0 := a_of_bx hs.1 hs.2
  have hab := a_abs_sm hbx0
  have hsb := hbx0.2.2.1
  have fin : (-1 ≤ sd ∧ (1 ≤ n ∧ n ≤ 60) ∧ 0 ≤ what ∧ what ≤ 2) → ∀ (J2 : Nat → Nat → Int) (mn sw st : Int) (o : Option Value), md_fy J J2 M → md_inv J2 M → s_chn (md_cf J M) (J (M + 22) 1) n n.toNat (if sd = -1 then J (M + 2) 8 else sd) (J (M + 22) 0) (a_abs (a_of (J (M + 22) 0)).2.2.1) 0 mn sw st → 0 ≤ st ∧ st < 38880 → m_wp en (d + 8) mMd_chance 170 [some (.ref M), some (.int (m_i sd)), some (.int (m_i n)), some (.int (m_i what)), some (.int (m_i st)), some (.int (m_i sw)), some (.int (m_i mn)), o] [] (T, m_I J2, P, L, z, w) Q := fun hc J2 mn sw st o b1 b2 b3 b4 => by
    have hq2 := hq1 hc _ mn sw st (b1.trans ((md_fx.refl J2 M).put (a_of st)).fy) (b2.put _) b3
    have hbx := a_of_bx b4.1 b4.2
    have k1 := hbx.2.1
    have k2 := hbx.2.2.1
    have k3 := hbx.2.2.2.1
    refine r_aln eMd_chance_170 rfl ?_
    refine r_il eMd_chance_171 rfl ?_
    refine r_vir eMd_chance_173 rfl rfl rfl hM.2.1 rfl rfl ?_
    refine c_Md_lays hM (by omega) (by omega) ?_
    show m_wp en _ mMd_chance 176 [some (.ref M), some (.int (m_i (sd))), some (.int (m_i (n))), some (.int (m_i (what))), some (.int (m_i (st))), some (.int (m_i (sw))), some (.int (m_i (mn))), o] [] (T, m_I ((md_put J2 M (a_of st))), P, L, z, w) Q
    refine r_iln eMd_chance_176 rfl ?_
    refine r_zne (tgt := 185) eMd_chance_177 rfl ⟨(by omega), (by omega)⟩ (fun c177 => ?_) (fun c177 => ?_)
    · refine r_iln eMd_chance_185 rfl ?_
      refine r_con eMd_chance_186 ?_
      refine r_cne (tgt := 195) eMd_chance_187 rfl ⟨(by omega), (by omega)⟩ ⟨(by omega), (by omega)⟩ (fun c187 => ?_) (fun c187 => ?_)
      · refine r_aln eMd_chance_195 rfl ?_
        refine r_gete (x := ((a_of st)).2.1) eMd_chance_196 rfl (by decide) hM.2.1 (by simp [m_up, md_put_at, m_fl]) ?_
        refine r_zne (tgt := 220) eMd_chance_199 rfl ⟨(by omega), (by omega)⟩ (fun c199 => ?_) (fun c199 => ?_)
        · refine r_con eMd_chance_220 ?_
          refine r_iret eMd_chance_221 rfl ?_
          first | (rw [if_pos (by omega)] at hq2; exact hq2) | (rw [if_neg (by omega), if_pos (by omega)] at hq2; exact hq2) | (rw [if_neg (by omega), if_neg (by omega), a_b_t (b := a_hs (a_of st)) (decide_eq_true ⟨by omega, by omega, by omega⟩)] at hq2; exact hq2) | (rw [if_neg (by omega), if_neg (by omega), a_b_f (b := a_hs (a_of st)) (fun q => by have q2 := of_decide_eq_true q; omega)] at hq2; exact hq2)
        · refine r_aln eMd_chance_202 rfl ?_
          refine r_gete (x := ((a_of st)).2.2.1) eMd_chance_203 rfl (by decide) hM.2.1 (by simp [m_up, md_put_at, m_fl]) ?_
          refine r_zne (tgt := 220) eMd_chance_206 rfl ⟨(by omega), (by omega)⟩ (fun c206 => ?_) (fun c206 => ?_)
          · refine r_con eMd_chance_220 ?_
            refine r_iret eMd_chance_221 rfl ?_
            first | (rw [if_pos (by omega)] at hq2; exact hq2) | (rw [if_neg (by omega), if_pos (by omega)] at hq2; exact hq2) | (rw [if_neg (by omega), if_neg (by omega), a_b_t (b := a_hs (a_of st)) (decide_eq_true ⟨by omega, by omega, by omega⟩)] at hq2; exact hq2) | (rw [if_neg (by omega), if_neg (by omega), a_b_f (b := a_hs (a_of st)) (fun q => by have q2 := of_decide_eq_true q; omega)] at hq2; exact hq2)
          · refine r_aln eMd_chance_209 rfl ?_
            refine r_gete (x := ((a_of st)).2.2.2.1) eMd_chance_210 rfl (by decide) hM.2.1 (by simp [m_up, md_put_at, m_fl]) ?_
            refine r_zne (tgt := 220) eMd_chance_213 rfl ⟨(by omega), (by omega)⟩ (fun c213 => ?_) (fun c213 => ?_)
            · refine r_con eMd_chance_220 ?_
              refine r_iret eMd_chance_221 rfl ?_
              first | (rw [if_pos (by omega)] at hq2; exact hq2) | (rw [if_neg (by omega), if_pos (by omega)] at hq2; exact hq2) | (rw [if_neg (by omega), if_neg (by omega), a_b_t (b := a_hs (a_of st)) (decide_eq_true ⟨by omega, by omega, by omega⟩)] at hq2; exact hq2) | (rw [if_neg (by omega), if_neg (by omega), a_b_f (b := a_hs (a_of st)) (fun q => by have q2 := of_decide_eq_true q; omega)] at hq2; exact hq2)
            · refine r_con eMd_chance_216 ?_
              refine r_go (tgt := 221) eMd_chance_217 rfl ?_
              refine r_iret eMd_chance_221 rfl ?_
              first | (rw [if_pos (by omega)] at hq2; exact hq2) | (rw [if_neg (by omega), if_pos (by omega)] at hq2; exact hq2) | (rw [if_neg (by omega), if_neg (by omega), a_b_t (b := a_hs (a_of st)) (decide_eq_true ⟨by omega, by omega, by omega⟩)] at hq2; exact hq2) | (rw [if_neg (by omega), if_neg (by omega), a_b_f (b := a_hs (a_of st)) (fun q => by have q2 := of_decide_eq_true q; omega)] at hq2; exact hq2)
      · refine r_il eMd_chance_190 rfl ?_
        refine r_go (tgt := 221) eMd_chance_192 rfl ?_
        refine r_iret eMd_chance_221 rfl ?_
        first | (rw [if_pos (by omega)] at hq2; exact hq2) | (rw [if_neg (by omega), if_pos (by omega)] at hq2; exact hq2) | (rw [if_neg (by omega), if_neg (by omega), a_b_t (b := a_hs (a_of st)) (decide_eq_true ⟨by omega, by omega, by omega⟩)] at hq2; exact hq2) | (rw [if_neg (by omega), if_neg (by omega), a_b_f (b := a_hs (a_of st)) (fun q => by have q2 := of_decide_eq_true q; omega)] at hq2; exact hq2)
    · refine r_il eMd_chance_180 rfl ?_
      refine r_go (tgt := 221) eMd_chance_182 rfl ?_
      refine r_iret eMd_chance_221 rfl ?_
      first | (rw [if_pos (by omega)] at hq2; exact hq2) | (rw [if_neg (by omega), if_pos (by omega)] at hq2; exact hq2) | (rw [if_neg (by omega), if_neg (by omega), a_b_t (b := a_hs (a_of st)) (decide_eq_true ⟨by omega, by omega, by omega⟩)] at hq2; exact hq2) | (rw [if_neg (by omega), if_neg (by omega), a_b_f (b := a_hs (a_of st)) (fun q => by have q2 := of_decide_eq_true q; omega)] at hq2; exact hq2)
  refine m_into (by decide) (Nat.le_of_ble_eq_true rfl) rfl ?_
  show m_wp en _ mMd_chance 0 [some (.ref M), some (.int (m_i (sd))), some (.int (m_i (n))), some (.int (m_i (what))), none, none, none, none] [] (T, m_I J0, P, L, z, w) Q
  refine r_aln eMd_chance_0 rfl ?_
  refine r_con eMd_chance_1 ?_
  refine r_put eMd_chance_2 rfl hM.2.1 hM.1 (Or.inl rfl) ?_
  rw [hJ]
  refine r_iln eMd_chance_5 rfl ?_
  refine r_con eMd_chance_6 ?_
  refine r_clt (tgt := 30) eMd_chance_7 rfl ⟨(by omega), (by omega)⟩ ⟨(by omega), (by omega)⟩ (fun c7 => ?_) (fun c7 => ?_)
  · refine r_con eMd_chance_30 ?_
    refine r_iret eMd_chance_31 rfl ?_
    exact hq0 (by omega)
  · refine r_iln eMd_chance_10 rfl ?_
    refine r_con eMd_chance_11 ?_
    refine r_clt (tgt := 30) eMd_chance_12 rfl ⟨(by omega), (by omega)⟩ ⟨(by omega), (by omega)⟩ (fun c12 => ?_) (fun c12 => ?_)
    · refine r_con eMd_chance_30 ?_
      refine r_iret eMd_chance_31 rfl ?_
      exact hq0 (by omega)
    · refine r_iln eMd_chance_15 rfl ?_
      refine r_bip eMd_chance_16 (by decide) ?_
      refine r_cgt (tgt := 30) eMd_chance_18 rfl ⟨(by omega), (by omega)⟩ ⟨(by omega), (by omega)⟩ (fun c18 => ?_) (fun c18 => ?_)
      · refine r_con eMd_chance_30 ?_
        refine r_iret eMd_chance_31 rfl ?_
        exact hq0 (by omega)
      · refine r_iln eMd_chance_21 rfl ?_
        refine r_zlt (tgt := 30) eMd_chance_22 rfl ⟨(by omega), (by omega)⟩ (fun c22 => ?_) (fun c22 => ?_)
        · refine r_con eMd_chance_30 ?_
          refine r_iret eMd_chance_31 rfl ?_
          exact hq0 (by omega)
        · refine r_iln eMd_chance_25 rfl ?_
          refine r_con eMd_chance_26 ?_
          refine r_cle (tgt := 32) eMd_chance_27 rfl ⟨(by omega), (by omega)⟩ ⟨(by omega), (by omega)⟩ (fun c27 => ?_) (fun c27 => ?_)
          · refine r_aln eMd_chance_32 rfl ?_
            refine r_iln eMd_chance_33 rfl ?_
            refine r_con eMd_chance_34 ?_
            refine r_cne (tgt := 48) eMd_chance_35 rfl ⟨(by omega), (by omega)⟩ ⟨(by omega), (by omega)⟩ (fun c35 => ?_) (fun c35 => ?_)
            · refine r_iln eMd_chance_48 rfl ?_
              refine r_put eMd_chance_49 rfl hM.2.1 hM.1 (Or.inl rfl) ?_
              refine r_aln eMd_chance_52 rfl ?_
              refine m_getR eMd_chance_53 rfl hM.2.1 (md_s_p hM) ?_
              refine r_con eMd_chance_56 ?_
              refine r_ialde (x := J (M + 22) 0) eMd_chance_57 (md_s_t hM) (by decide) (by omega) (by omega) (by simp [m_up, md_put_at, m_fl]) ?_
              refine r_is (ls' := [some (.ref M), some (.int (m_i (sd))), some (.int (m_i (n))), some (.int (m_i (what))), some (.int (m_i (J (M + 22) 0))), none, none, none]) eMd_chance_58 (Nat.le_of_ble_eq_true rfl) rfl ?_
              refine r_aln eMd_chance_60 rfl ?_
              refine r_il eMd_chance_61 rfl ?_
              refine r_vir eMd_chance_63 rfl rfl rfl hM.2.1 rfl rfl ?_
              refine c_Md_lays hM (by omega) (by omega) ?_
              show m_wp en _ mMd_chance 66 [some (.ref M), some (.int (m_i (sd))), some (.int (m_i (n))), some (.int (m_i (what))), some (.int (m_i (J (M + 22) 0))), none, none, none] [] (T, m_I ((md_put ((m_up J M 52 (sd))) M (a_of (J (M + 22) 0)))), P, L, z, w) Q
              refine r_aln eMd_chance_66 rfl ?_
              refine r_gete (x := ((a_of (J (M + 22) 0))).2.2.1) eMd_chance_67 rfl (by decide) hM.2.1 (by simp [m_up, md_put_at, m_fl]) ?_
              refine r_sta eMd_chance_70 rfl rfl (by decide) rfl ?_
              refine c_Md_without ⟨by omega, by omega⟩ ?_
              show m_wp en _ mMd_chance 73 [some (.ref M), some (.int (m_i (sd))), some (.int (m_i (n))), some (.int (m_i (what))), some (.int (m_i (J (M + 22) 0))), none, none, none] [(.int (m_i (a_abs (((a_of (J (M + 22) 0))).2.2.1))))] (T, m_I ((md_put ((m_up J M 52 (sd))) M (a_of (J (M + 22) 0)))), P, L, z, w) Q
              refine r_is (ls' := [some (.ref M), some (.int (m_i (sd))), some (.int (m_i (n))), some (.int (m_i (what))), some (.int (m_i (J (M + 22) 0))), some (.int (m_i (a_abs (((a_of (J (M + 22) 0))).2.2.1)))), none, none]) eMd_chance_73 (Nat.le_of_ble_eq_true rfl) rfl ?_
              refine r_con eMd_chance_75 ?_
              refine r_is (ls' := [some (.ref M), some (.int (m_i (sd))), some (.int (m_i (n))), some (.int (m_i (what))), some (.int (m_i (J (M + 22) 0))), some (.int (m_i (a_abs (((a_of (J (M + 22) 0))).2.2.1)))), some (.int (m_i (0))), none]) eMd_chance_76 (Nat.le_of_ble_eq_true rfl) rfl ?_
              first | (refine l_Md_chance (J := J) hM (by omega) hinv.ht n.toNat (J (M + 2) 8) (J (M + 22) 0) _ 0 _ _ (by omega) (by omega) ((md_up_fy J M (i := 52) (by omega) (J (M + 2) 8)).trans ((md_fx.refl _ M).put _).fy) ((hinv.up (by omega) _).put _) (by rw [md_put_f _ _ _ (by omega)]; exact m_up_same) hs (by omega) (fun J2 mn sw st o b1 b2 b3 b4 => fin (by omega) J2 mn sw st o b1 b2 (by rw [if_pos (by omega)]; exact b3) b4)) | (refine l_Md_chance (J := J) hM (by omega) hinv.ht n.toNat sd (J (M + 22) 0) _ 0 _ _ (by omega) (by omega) ((md_up_fy J M (i := 52) (by omega) sd).trans ((md_fx.refl _ M).put _).fy) ((hinv.up (by omega) _).put _) (by rw [md_put_f _ _ _ (by omega)]; exact m_up_same) hs (by omega) (fun J2 mn sw st o b1 b2 b3 b4 => fin (by omega) J2 mn sw st o b1 b2 (by rw [if_neg (by omega)]; exact b3) b4))
            · refine r_aln eMd_chance_38 rfl ?_
              refine m_getR eMd_chance_39 rfl hM.2.1 (md_number_p hM) ?_
              refine r_bip eMd_chance_42 (by decide) ?_
              refine r_ialde (x := J (M + 2) 8) eMd_chance_44 (md_number_t hM) (by decide) (by omega) (by omega) rfl ?_
              refine r_go (tgt := 49) eMd_chance_45 rfl ?_
              refine r_put eMd_chance_49 rfl hM.2.1 hM.1 (Or.inl rfl) ?_
              refine r_aln eMd_chance_52 rfl ?_
              refine m_getR eMd_chance_53 rfl hM.2.1 (md_s_p hM) ?_
              refine r_con eMd_chance_56 ?_
              refine r_ialde (x := J (M + 22) 0) eMd_chance_57 (md_s_t hM) (by decide) (by omega) (by omega) (by simp [m_up, md_put_at, m_fl]) ?_
              refine r_is (ls' := [some (.ref M), some (.int (m_i (sd))), some (.int (m_i (n))), some (.int (m_i (what))), some (.int (m_i (J (M + 22) 0))), none, none, none]) eMd_chance_58 (Nat.le_of_ble_eq_true rfl) rfl ?_
              refine r_aln eMd_chance_60 rfl ?_
              refine r_il eMd_chance_61 rfl ?_
              refine r_vir eMd_chance_63 rfl rfl rfl hM.2.1 rfl rfl ?_
              refine c_Md_lays hM (by omega) (by omega) ?_
              show m_wp en _ mMd_chance 66 [some (.ref M), some (.int (m_i (sd))), some (.int (m_i (n))), some (.int (m_i (what))), some (.int (m_i (J (M + 22) 0))), none, none, none] [] (T, m_I ((md_put ((m_up J M 52 (J (M + 2) 8))) M (a_of (J (M + 22) 0)))), P, L, z, w) Q
              refine r_aln eMd_chance_66 rfl ?_
              refine r_gete (x := ((a_of (J (M + 22) 0))).2.2.1) eMd_chance_67 rfl (by decide) hM.2.1 (by simp [m_up, md_put_at, m_fl]) ?_
              refine r_sta eMd_chance_70 rfl rfl (by decide) rfl ?_
              refine c_Md_without ⟨by omega, by omega⟩ ?_
              show m_wp en _ mMd_chance 73 [some (.ref M), some (.int (m_i (sd))), some (.int (m_i (n))), some (.int (m_i (what))), some (.int (m_i (J (M + 22) 0))), none, none, none] [(.int (m_i (a_abs (((a_of (J (M + 22) 0))).2.2.1))))] (T, m_I ((md_put ((m_up J M 52 (J (M + 2) 8))) M (a_of (J (M + 22) 0)))), P, L, z, w) Q
              refine r_is (ls' := [some (.ref M), some (.int (m_i (sd))), some (.int (m_i (n))), some (.int (m_i (what))), some (.int (m_i (J (M + 22) 0))), some (.int (m_i (a_abs (((a_of (J (M + 22) 0))).2.2.1)))), none, none]) eMd_chance_73 (Nat.le_of_ble_eq_true rfl) rfl ?_
              refine r_con eMd_chance_75 ?_
              refine r_is (ls' := [some (.ref M), some (.int (m_i (sd))), some (.int (m_i (n))), some (.int (m_i (what))), some (.int (m_i (J (M + 22) 0))), some (.int (m_i (a_abs (((a_of (J (M + 22) 0))).2.2.1)))), some (.int (m_i (0))), none]) eMd_chance_76 (Nat.le_of_ble_eq_true rfl) rfl ?_
              first | (refine l_Md_chance (J := J) hM (by omega) hinv.ht n.toNat (J (M + 2) 8) (J (M + 22) 0) _ 0 _ _ (by omega) (by omega) ((md_up_fy J M (i := 52) (by omega) (J (M + 2) 8)).trans ((md_fx.refl _ M).put _).fy) ((hinv.up (by omega) _).put _) (by rw [md_put_f _ _ _ (by omega)]; exact m_up_same) hs (by omega) (fun J2 mn sw st o b1 b2 b3 b4 => fin (by omega) J2 mn sw st o b1 b2 (by rw [if_pos (by omega)]; exact b3) b4)) | (refine l_Md_chance (J := J) hM (by omega) hinv.ht n.toNat sd (J (M + 22) 0) _ 0 _ _ (by omega) (by omega) ((md_up_fy J M (i := 52) (by omega) sd).trans ((md_fx.refl _ M).put _).fy) ((hinv.up (by omega) _).put _) (by rw [md_put_f _ _ _ (by omega)]; exact m_up_same) hs (by omega) (fun J2 mn sw st o b1 b2 b3 b4 => fin (by omega) J2 mn sw st o b1 b2 (by rw [if_neg (by omega)]; exact b3) b4))
          · refine r_con eMd_chance_30 ?_
            refine r_iret eMd_chance_31 rfl ?_
            exact hq0 (by omega)
end MDCH
