/-! stop of the reference -/
def a_pc (b : Int) : Int := a_bit b 0 + a_bit b 1 + a_bit b 2 + a_bit b 3 + a_bit b 4 + a_bit b 5
theorem a_pc_d : ∀ b : Nat, b < 64 → ∀ t : Nat, t < 6 → a_bit (b : Int) (t : Int) ≠ 1 → a_pc (a_set (b : Int) (t : Int)) = a_pc (b : Int) + 1 := by decide +kernel
theorem a_pc_s {b t : Int} (hb : 0 ≤ b ∧ b < 64) (ht : 0 ≤ t ∧ t < 6) (h : a_bit b t ≠ 1) : a_pc (a_set b t) = a_pc b + 1 := by
  obtain ⟨n, rfl⟩ : ∃ n : Nat, b = n := ⟨b.toNat, by omega⟩
  obtain ⟨m, rfl⟩ : ∃ m : Nat, t = m := ⟨t.toNat, by omega⟩
  exact a_pc_d n (by omega) m (by omega) h
theorem a_pc_f : ∀ n : Nat, n < 7 → a_pc (a_fu (n : Int)) = (n : Int) := by decide +kernel
theorem a_pc_fu {n : Int} (hn : 0 ≤ n ∧ n ≤ 6) : a_pc (a_fu n) = n := by
  obtain ⟨m, rfl⟩ : ∃ m : Nat, n = m := ⟨n.toNat, by omega⟩
  exact a_pc_f m (by omega)
def s_sP (tb lf : Nat → Int) (b f t : Int) : Prop := a_bit b t ≠ 1 ∧ tb (6 * f + t).toNat + lf (7 * a_set b t + t).toNat = lf (7 * b + f).toNat
theorem a_lm_at {tb lf : Nat → Int} {b f : Int} : ∀ k : Nat, a_lm tb lf b f k < 30000 → ∃ t : Int, (0 ≤ t ∧ t < (k : Int)) ∧ a_bit b t ≠ 1 ∧ tb (6 * f + t).toNat + lf (7 * a_set b t + t).toNat = a_lm tb lf b f k := by
  intro k
  induction k with
  | zero => intro h; unfold a_lm at h; omega
  | succ k ih =>
    intro h
    unfold a_lm at h ⊢
    by_cases q : a_bit b (k : Int) = 1
    · rw [if_pos q] at h ⊢
      obtain ⟨t, a1, a2, a3⟩ := ih h
      exact ⟨t, by omega, a2, a3⟩
    · rw [if_neg q] at h ⊢
      by_cases q2 : tb (6 * f + (k : Int)).toNat + lf (7 * a_set b (k : Int) + (k : Int)).toNat < a_lm tb lf b f k
      · rw [a_mn_l q2] at h ⊢
        exact ⟨(k : Int), by omega, q, rfl⟩
      · rw [a_mn_r q2] at h ⊢
        obtain ⟨t, a1, a2, a3⟩ := ih h
        exact ⟨t, by omega, a2, a3⟩
/-- the spots of the best order, one after the other -/
def s_sp (tb lf : Nat → Int) (n : Int) : Nat → Int → Int → Int → Prop
  | 0, _, f, r => r = f
  | k + 1, b, f, r => ∃ t : Int, (0 ≤ t ∧ t < n) ∧ s_sP tb lf b f t ∧ (∀ t', 0 ≤ t' → t' < t → ¬ s_sP tb lf b f t') ∧ s_sp tb lf n k (a_set b t) t r
theorem s_sP_ex {tb lf : Nat → Int} {n b f : Int} (hn : 0 ≤ n ∧ n ≤ 6) (hl : s_lf n tb lf (-1) 0) (hb : 0 ≤ b ∧ b ≤ a_fu n) (hne : b ≠ a_fu n) (hf : (0 ≤ f ∧ f < n) ∨ f = 6) (hlt : lf (7 * b + f).toNat < 30000) : ∃ t : Int, (0 ≤ t ∧ t < n) ∧ s_sP tb lf b f t ∧ ∀ t', 0 ≤ t' → t' < t → ¬ s_sP tb lf b f t' := by
  have h1 := (hl b f (Or.inl ⟨by omega, hb.2, by omega, by omega⟩)).1
  unfold a_ll at h1
  rw [if_neg hne, if_pos (by omega)] at h1
  obtain ⟨t, a1, a2, a3⟩ := a_lm_at n.toNat (by rw [← h1]; exact hlt)
  obtain ⟨c0, b1, b2, b3⟩ := a_least (p := fun t => s_sP tb lf b f t) n.toNat t a1.1 a1.2 ⟨a2, by rw [a3, h1]⟩
  exact ⟨c0, by omega, b2, b3⟩
section MDSP
variable {en : Nat → Nat} {d : Nat} {T : Nat → Option (Nat × Nat)} {J J0 J1 : Nat → Nat → Int} {P : Nat → Nat → Option Nat} {L : Nat → Nat → Int64} {z w M : Nat} {Q : m_Q} {σ : a_S}
theorem l_Md_stop1 (hM : md_sh en M T P) {n i b f nn ts : Int} (hn : 0 ≤ n ∧ n ≤ 6) (htb : a_tbb (J (M + 24)) n) (hl : s_lf n (J (M + 24)) (J (M + 25)) (-1) 0) (hb : 0 ≤ b ∧ b ≤ a_fu n) (hf : (0 ≤ f ∧ f < n) ∨ f = 6) (hts : 0 ≤ ts ∧ ts < n) (hP : s_sP (J (M + 24)) (J (M + 25)) b f ts) (hno : ∀ t', 0 ≤ t' → t' < ts → ¬ s_sP (J (M + 24)) (J (M + 25)) b f t')
    (hq : m_wp en d mMd_stop 43 [some (.ref M), some (.int (m_i i)), some (.int (m_i (a_set b ts))), some (.int (m_i ts)), some (.int (m_i (nn + 1))), some (.int (m_i ts))] [] (T, m_I J, P, L, z, w) Q) :
    ∀ (m : Nat) (t : Int), t + m = ts → 0 ≤ t → m_wp en d mMd_stop 52 [some (.ref M), some (.int (m_i i)), some (.int (m_i b)), some (.int (m_i f)), some (.int (m_i nn)), some (.int (m_i t))] [] (T, m_I J, P, L, z, w) Q := by
  have hfu := (a_fu_b hn).1
  have hlbf := (hl b f (Or.inl ⟨by omega, hb.2, by omega, by omega⟩)).2
  intro m
  induction m with
  | zero =>
    intro t htm h0
    obtain rfl : t = ts := by omega
    have hbs := a_bs (b := b) (by omega) (t := t) (by omega)
    have h1 := htb f t hf (by omega)
    have hset := (a_fu_b hn).2 b t hb.1 hb.2 (by omega) (by omega)
    have hl2 := (hl (a_set b t) t (Or.inl ⟨by omega, hset, by omega, by omega⟩)).2
    have hs0 : 0 ≤ m_or b (m_shl 1 t) ∧ m_or b (m_shl 1 t) < 64 := ⟨hbs.2.1, hbs.2.2.1⟩
    have hbit : m_and (m_shr b t) 1 = 0 ∨ m_and (m_shr b t) 1 = 1 := hbs.1
    have hnb : ¬ m_and (m_shr b t) 1 = 1 := hP.1
    have hPe : J (M + 24) (6 * f + t).toNat + J (M + 25) (7 * m_or b (m_shl 1 t) + t).toNat = J (M + 25) (7 * b + f).toNat := hP.2
    have hl3 : 0 ≤ J (M + 25) (7 * m_or b (m_shl 1 t) + t).toNat ∧ J (M + 25) (7 * m_or b (m_shl 1 t) + t).toNat ≤ 30000 := hl2
    refine r_iln eMd_stop_52 rfl ?_
    refine r_il eMd_stop_53 rfl ?_
    refine r_shr eMd_stop_55 ?_
    refine r_con eMd_stop_56 ?_
    refine r_and eMd_stop_57 ?_
    refine r_con eMd_stop_58 ?_
    refine r_ceq (tgt := 106) eMd_stop_59 rfl ⟨(by omega), (by omega)⟩ ⟨(by omega), (by omega)⟩ (fun c59 => ?_) (fun c59 => ?_)
    · exfalso; omega
    · refine r_aln eMd_stop_62 rfl ?_
      refine m_getR eMd_stop_63 rfl hM.2.1 (md_steps2_p hM) ?_
      refine r_bip eMd_stop_66 (by decide) ?_
      refine r_iln eMd_stop_68 rfl ?_
      refine r_mul eMd_stop_69 ?_
      refine r_il eMd_stop_70 rfl ?_
      refine r_add eMd_stop_72 ?_
      refine r_ialde (x := J (M + 24) ((((6) * (f)) + (t)).toNat)) eMd_stop_73 (md_steps2_t hM) (by decide) (by omega) (by omega) rfl ?_
      refine r_aln eMd_stop_74 rfl ?_
      refine m_getR eMd_stop_75 rfl hM.2.1 (md_left_p hM) ?_
      refine r_bip eMd_stop_78 (by decide) ?_
      refine r_iln eMd_stop_80 rfl ?_
      refine r_con eMd_stop_81 ?_
      refine r_il eMd_stop_82 rfl ?_
      refine r_shl eMd_stop_84 ?_
      refine r_or eMd_stop_85 ?_
      refine r_mul eMd_stop_86 ?_
      refine r_il eMd_stop_87 rfl ?_
      refine r_add eMd_stop_89 ?_
      refine r_ialde (x := J (M + 25) ((((7) * (m_or (b) (m_shl (1) (t)))) + (t)).toNat)) eMd_stop_90 (md_left_t hM) (by decide) (by omega) (by omega) rfl ?_
      refine r_add eMd_stop_91 ?_
      refine r_aln eMd_stop_92 rfl ?_
      refine m_getR eMd_stop_93 rfl hM.2.1 (md_left_p hM) ?_
      refine r_bip eMd_stop_96 (by decide) ?_
      refine r_iln eMd_stop_98 rfl ?_
      refine r_mul eMd_stop_99 ?_
      refine r_iln eMd_stop_100 rfl ?_
      refine r_add eMd_stop_101 ?_
      refine r_ialde (x := J (M + 25) ((((7) * (b)) + (f)).toNat)) eMd_stop_102 (md_left_t hM) (by decide) (by omega) (by omega) rfl ?_
      refine r_ceq (tgt := 112) eMd_stop_103 rfl ⟨(by omega), (by omega)⟩ ⟨(by omega), (by omega)⟩ (fun c103 => ?_) (fun c103 => ?_)
      · refine r_iln eMd_stop_112 rfl ?_
        refine r_con eMd_stop_113 ?_
        refine r_il eMd_stop_114 rfl ?_
        refine r_shl eMd_stop_116 ?_
        refine r_or eMd_stop_117 ?_
        refine r_isn (ls' := [some (.ref M), some (.int (m_i (i))), some (.int (m_i (m_or (b) (m_shl (1) (t))))), some (.int (m_i (f))), some (.int (m_i (nn))), some (.int (m_i (t)))]) eMd_stop_118 (Nat.le_of_ble_eq_true rfl) rfl ?_
        refine r_il eMd_stop_119 rfl ?_
        refine r_isn (ls' := [some (.ref M), some (.int (m_i (i))), some (.int (m_i (m_or (b) (m_shl (1) (t))))), some (.int (m_i (t))), some (.int (m_i (nn))), some (.int (m_i (t)))]) eMd_stop_121 (Nat.le_of_ble_eq_true rfl) rfl ?_
        refine r_inc (ls' := [some (.ref M), some (.int (m_i (i))), some (.int (m_i (m_or (b) (m_shl (1) (t))))), some (.int (m_i (t))), some (.int (m_i (nn + 1))), some (.int (m_i (t)))]) eMd_stop_122 rfl rfl ?_
        refine r_go (tgt := 43) eMd_stop_125 rfl ?_
        exact hq
      · exfalso; omega
  | succ m ih =>
    intro t htm h0
    have hbs := a_bs (b := b) (by omega) (t := t) (by omega)
    have h1 := htb f t hf (by omega)
    have hset := (a_fu_b hn).2 b t hb.1 hb.2 (by omega) (by omega)
    have hl2 := (hl (a_set b t) t (Or.inl ⟨by omega, hset, by omega, by omega⟩)).2
    have hs0 : 0 ≤ m_or b (m_shl 1 t) ∧ m_or b (m_shl 1 t) < 64 := ⟨hbs.2.1, hbs.2.2.1⟩
    have hbit : m_and (m_shr b t) 1 = 0 ∨ m_and (m_shr b t) 1 = 1 := hbs.1
    have hnp : ¬ (¬ m_and (m_shr b t) 1 = 1 ∧ J (M + 24) (6 * f + t).toNat + J (M + 25) (7 * m_or b (m_shl 1 t) + t).toNat = J (M + 25) (7 * b + f).toNat) := hno t h0 (by omega)
    have hl3 : 0 ≤ J (M + 25) (7 * m_or b (m_shl 1 t) + t).toNat ∧ J (M + 25) (7 * m_or b (m_shl 1 t) + t).toNat ≤ 30000 := hl2
    refine r_iln eMd_stop_52 rfl ?_
    refine r_il eMd_stop_53 rfl ?_
    refine r_shr eMd_stop_55 ?_
    refine r_con eMd_stop_56 ?_
    refine r_and eMd_stop_57 ?_
    refine r_con eMd_stop_58 ?_
    refine r_ceq (tgt := 106) eMd_stop_59 rfl ⟨(by omega), (by omega)⟩ ⟨(by omega), (by omega)⟩ (fun c59 => ?_) (fun c59 => ?_)
    · refine r_inc (ls' := [some (.ref M), some (.int (m_i (i))), some (.int (m_i (b))), some (.int (m_i (f))), some (.int (m_i (nn))), some (.int (m_i (t + 1)))]) eMd_stop_106 rfl rfl ?_
      refine r_go (tgt := 52) eMd_stop_109 rfl ?_
      exact ih (t + 1) (by omega) (by omega)
    · refine r_aln eMd_stop_62 rfl ?_
      refine m_getR eMd_stop_63 rfl hM.2.1 (md_steps2_p hM) ?_
      refine r_bip eMd_stop_66 (by decide) ?_
      refine r_iln eMd_stop_68 rfl ?_
      refine r_mul eMd_stop_69 ?_
      refine r_il eMd_stop_70 rfl ?_
      refine r_add eMd_stop_72 ?_
      refine r_ialde (x := J (M + 24) ((((6) * (f)) + (t)).toNat)) eMd_stop_73 (md_steps2_t hM) (by decide) (by omega) (by omega) rfl ?_
      refine r_aln eMd_stop_74 rfl ?_
      refine m_getR eMd_stop_75 rfl hM.2.1 (md_left_p hM) ?_
      refine r_bip eMd_stop_78 (by decide) ?_
      refine r_iln eMd_stop_80 rfl ?_
      refine r_con eMd_stop_81 ?_
      refine r_il eMd_stop_82 rfl ?_
      refine r_shl eMd_stop_84 ?_
      refine r_or eMd_stop_85 ?_
      refine r_mul eMd_stop_86 ?_
      refine r_il eMd_stop_87 rfl ?_
      refine r_add eMd_stop_89 ?_
      refine r_ialde (x := J (M + 25) ((((7) * (m_or (b) (m_shl (1) (t)))) + (t)).toNat)) eMd_stop_90 (md_left_t hM) (by decide) (by omega) (by omega) rfl ?_
      refine r_add eMd_stop_91 ?_
      refine r_aln eMd_stop_92 rfl ?_
      refine m_getR eMd_stop_93 rfl hM.2.1 (md_left_p hM) ?_
      refine r_bip eMd_stop_96 (by decide) ?_
      refine r_iln eMd_stop_98 rfl ?_
      refine r_mul eMd_stop_99 ?_
      refine r_iln eMd_stop_100 rfl ?_
      refine r_add eMd_stop_101 ?_
      refine r_ialde (x := J (M + 25) ((((7) * (b)) + (f)).toNat)) eMd_stop_102 (md_left_t hM) (by decide) (by omega) (by omega) rfl ?_
      refine r_ceq (tgt := 112) eMd_stop_103 rfl ⟨(by omega), (by omega)⟩ ⟨(by omega), (by omega)⟩ (fun c103 => ?_) (fun c103 => ?_)
      · exfalso; omega
      · refine r_inc (ls' := [some (.ref M), some (.int (m_i (i))), some (.int (m_i (b))), some (.int (m_i (f))), some (.int (m_i (nn))), some (.int (m_i (t + 1)))]) eMd_stop_106 rfl rfl ?_
        refine r_go (tgt := 52) eMd_stop_109 rfl ?_
        exact ih (t + 1) (by omega) (by omega)
theorem l_Md_stop2 (hM : md_sh en M T P) {n i : Int} (hn : 0 ≤ n ∧ n ≤ 6) (hi : 0 ≤ i ∧ i < n) (htb : a_tbb (J (M + 24)) n) (hl : s_lf n (J (M + 24)) (J (M + 25)) (-1) 0) :
    ∀ (m : Nat) (nn b f : Int) (o5 : Option Value), nn + m = i + 1 → 0 ≤ nn → (0 ≤ b ∧ b ≤ a_fu n) → a_pc b = nn → ((0 ≤ f ∧ f < n) ∨ f = 6) → J (M + 25) (7 * b + f).toNat < 30000 → (∀ r, s_sp (J (M + 24)) (J (M + 25)) n m b f r → Q (some (.int (m_i r))) (T, m_I J, P, L, z, w)) →
      m_wp en d mMd_stop 43 [some (.ref M), some (.int (m_i i)), some (.int (m_i b)), some (.int (m_i f)), some (.int (m_i nn)), o5] [] (T, m_I J, P, L, z, w) Q := by
  have hfu := (a_fu_b hn).1
  have hpf := a_pc_fu hn
  intro m
  induction m with
  | zero =>
    intro nn b f o5 hm h0 hb hpc hf hlt hq
    refine r_il eMd_stop_43 rfl ?_
    refine r_iln eMd_stop_45 rfl ?_
    refine r_cgt (tgt := 128) eMd_stop_46 rfl ⟨(by omega), (by omega)⟩ ⟨(by omega), (by omega)⟩ (fun c46 => ?_) (fun c46 => ?_)
    · refine r_iln eMd_stop_128 rfl ?_
      refine r_iret eMd_stop_129 rfl ?_
      exact hq f rfl
    · exfalso; omega
  | succ m ih =>
    intro nn b f o5 hm h0 hb hpc hf hlt hq
    obtain ⟨ts, hts, hP, hno⟩ := s_sP_ex hn hl hb (fun q => by rw [q] at hpc; omega) hf hlt
    have hset := (a_fu_b hn).2 b ts hb.1 hb.2 hts.1 hts.2
    have hbs := a_bs (b := b) (by omega) (t := ts) (by omega)
    have h1 := htb f ts hf hts
    have hP2 := hP.2
    have hrest : m_wp en d mMd_stop 43 [some (.ref M), some (.int (m_i i)), some (.int (m_i (a_set b ts))), some (.int (m_i ts)), some (.int (m_i (nn + 1))), some (.int (m_i ts))] [] (T, m_I J, P, L, z, w) Q := ih (nn + 1) (a_set b ts) ts _ (by omega) (by omega) ⟨hbs.2.1, hset⟩ (by rw [a_pc_s (by omega) (by omega) hP.1]; omega) (Or.inl hts) (by omega) (fun r hr => hq r ⟨ts, hts, hP, hno, hr⟩)
    refine r_il eMd_stop_43 rfl ?_
    refine r_iln eMd_stop_45 rfl ?_
    refine r_cgt (tgt := 128) eMd_stop_46 rfl ⟨(by omega), (by omega)⟩ ⟨(by omega), (by omega)⟩ (fun c46 => ?_) (fun c46 => ?_)
    · exfalso; omega
    · refine r_con eMd_stop_49 ?_
      refine r_is (ls' := [some (.ref M), some (.int (m_i (i))), some (.int (m_i (b))), some (.int (m_i (f))), some (.int (m_i (nn))), some (.int (m_i (0)))]) eMd_stop_50 (Nat.le_of_ble_eq_true rfl) rfl ?_
      exact l_Md_stop1 hM hn htb hl hb hf hts hP hno hrest ts.toNat 0 (by omega) (by omega)
theorem c_Md_stop (hM : md_sh en M T P) (hJ : m_up J0 M 0 0 = J) (hinv : md_inv J M) {x : Int} (hx : m_in x)
    (hq0 : ¬ (0 ≤ x ∧ x < J (M + 2) 4) → Q (some (.int (m_i (-1)))) (T, m_I J, P, L, z, w))
    (hq1 : (0 ≤ x ∧ x < J (M + 2) 4) → ∀ (J1 : Nat → Nat → Int) (tb lf : Nat → Int), md_fy J J1 M → md_inv J1 M → s_tb J M tb (J (M + 2) 4) → s_lf (J (M + 2) 4) tb lf (-1) 0 → 30000 ≤ lf 6 → Q (some (.int (m_i (-2)))) (T, m_I J1, P, L, z, w))
    (hq2 : (0 ≤ x ∧ x < J (M + 2) 4) → ∀ (J1 : Nat → Nat → Int) (tb lf : Nat → Int) (r : Int), md_fy J J1 M → md_inv J1 M → s_tb J M tb (J (M + 2) 4) → s_lf (J (M + 2) 4) tb lf (-1) 0 → lf 6 < 30000 → s_sp tb lf (J (M + 2) 4) (x.toNat + 1) 0 6 r → Q (some (.int (m_i r))) (T, m_I J1, P, L, z, w)) : m_call en (d + 10) mMd_stop [.ref M, .int (m_i x)] (T, m_I J0, P, L, z, w) Q := by
  unfold m_in at hx
  have hn6 := hinv.hsb.1
  have hfu := (a_fu_b hn6).1
  refine m_into (by decide) (Nat.le_of_ble_eq_true rfl) rfl ?_
  show m_wp en _ mMd_stop 0 [some (.ref M), some (.int (m_i (x))), none, none, none, none] [] (T, m_I J0, P, L, z, w) Q
  refine r_aln eMd_stop_0 rfl ?_
  refine r_con eMd_stop_1 ?_
  refine r_put eMd_stop_2 rfl hM.2.1 hM.1 (Or.inl rfl) ?_
  rw [hJ]
  refine r_aln eMd_stop_5 rfl ?_
  refine r_iln eMd_stop_6 rfl ?_
  refine r_vir eMd_stop_7 rfl rfl rfl hM.2.1 rfl rfl ?_
  refine c_Md_isSpot hM ⟨by omega, by omega⟩ ⟨by omega, by omega⟩ ?_
  show m_wp en _ mMd_stop 10 [some (.ref M), some (.int (m_i (x))), none, none, none, none] [(.int (m_i (if 0 ≤ x ∧ x < J (M + 2) 4 then 1 else 0)))] (T, m_I J, P, L, z, w) Q
  refine r_zne (tgt := 15) eMd_stop_10 rfl ⟨(by omega), (by omega)⟩ (fun c10 => ?_) (fun c10 => ?_)
  · refine r_aln eMd_stop_15 rfl ?_
    refine r_vir eMd_stop_16 rfl rfl rfl hM.2.1 rfl rfl ?_
    refine c_Md_laysTour hM hinv (fun J1 f1 f2 f3 f4 => ?_)
    · have h6 := f4 0 6 (Or.inl ⟨by omega, (a_fu_b hinv.hsb.1).1.1, by omega, by omega⟩)
      rw [show ((7 : Int) * 0 + 6).toNat = 6 from rfl] at h6
      show m_wp en _ mMd_stop 19 [some (.ref M), some (.int (m_i (x))), none, none, none, none] [] (T, m_I J1, P, L, z, w) Q
      refine r_aln eMd_stop_19 rfl ?_
      refine m_getR eMd_stop_20 rfl hM.2.1 (md_left_p hM) ?_
      refine r_bip eMd_stop_23 (by decide) ?_
      refine r_ialde (x := J1 (M + 25) 6) eMd_stop_25 (md_left_t hM) (by decide) (by omega) (by omega) rfl ?_
      refine r_sip eMd_stop_26 (by decide) ?_
      refine r_clt (tgt := 35) eMd_stop_29 rfl ⟨(by omega), (by omega)⟩ ⟨(by omega), (by omega)⟩ (fun c29 => ?_) (fun c29 => ?_)
      · refine r_con eMd_stop_35 ?_
        refine r_isn (ls' := [some (.ref M), some (.int (m_i (x))), some (.int (m_i (0))), none, none, none]) eMd_stop_36 (Nat.le_of_ble_eq_true rfl) rfl ?_
        refine r_bip eMd_stop_37 (by decide) ?_
        refine r_isn (ls' := [some (.ref M), some (.int (m_i (x))), some (.int (m_i (0))), some (.int (m_i (6))), none, none]) eMd_stop_39 (Nat.le_of_ble_eq_true rfl) rfl ?_
        refine r_con eMd_stop_40 ?_
        refine r_is (ls' := [some (.ref M), some (.int (m_i (x))), some (.int (m_i (0))), some (.int (m_i (6))), some (.int (m_i (0))), none]) eMd_stop_41 (Nat.le_of_ble_eq_true rfl) rfl ?_
        exact l_Md_stop2 hM hn6 (by omega) (s_tb_b rfl hn6 f3) f4 (x.toNat + 1) 0 0 6 none (by omega) (by omega) (by omega) rfl (Or.inr rfl) (by rw [show ((7 : Int) * 0 + 6).toNat = 6 from rfl]; omega) (fun r hr => hq2 (by omega) J1 _ _ r f1 f2 f3 f4 (by omega) hr)
      · refine r_bip eMd_stop_32 (by decide) ?_
        refine r_iret eMd_stop_34 rfl ?_
        exact hq1 (by omega) J1 _ _ f1 f2 f3 f4 (by omega)
  · refine r_con eMd_stop_13 ?_
    refine r_iret eMd_stop_14 rfl ?_
    exact hq0 (by omega)
end MDSP
