/-! gap, undo, back of the reference -/
section MDR
variable {en : Nat → Nat} {d : Nat} {T : Nat → Option (Nat × Nat)} {J J0 : Nat → Nat → Int} {P : Nat → Nat → Option Nat} {L : Nat → Nat → Int64} {z w M : Nat} {Q : m_Q} {σ : a_S}
/-- the lesser -/
def a_mn (x y : Int) : Int := if x < y then x else y
theorem a_mn_l {x y : Int} (h : x < y) : a_mn x y = x := if_pos h
theorem a_mn_r {x y : Int} (h : ¬ x < y) : a_mn x y = y := if_neg h
/-- the least of n numbers from x on, in steps of e, and of l -/
def a_gp (f : Nat → Int) (e : Int) : Nat → Int → Int → Int
  | 0, _, l => l
  | n + 1, x, l => a_gp f e n (x + e) (a_mn (f x.toNat) l)
theorem l_Md_gap (hM : md_sh en M T P) (hf : ∀ i : Nat, i < 16 → m_in (J (M + 19) i)) {a b e : Int} (ha : 0 ≤ a ∧ a < 16) (hb : 0 ≤ b ∧ b < 16) (he : (a < b ∧ e = 1) ∨ (¬ a < b ∧ e = -1)) :
    ∀ (n : Nat) (x l : Int), (a < b ∧ b - x = n ∨ ¬ a < b ∧ x - b = n) → 0 ≤ x ∧ x < 16 → m_in l → Q (some (.int (m_i (a_mn (J (M + 19) b.toNat) (a_gp (J (M + 19)) e n x l))))) (T, m_I J, P, L, z, w) → m_wp en d mMd_gap 33 [some (.ref M), some (.int (m_i a)), some (.int (m_i b)), some (.int (m_i l)), some (.int (m_i x))] [] (T, m_I J, P, L, z, w) Q := by
  have hfb := hf b.toNat (by omega)
  unfold m_in at hfb
  intro n
  induction n with
  | zero =>
    intro x l hn hx hl hq
    unfold m_in at hl
    unfold a_gp at hq
    refine r_il eMd_gap_33 rfl ?_
    refine r_iln eMd_gap_35 rfl ?_
    refine r_ceq (tgt := 80) eMd_gap_36 rfl ⟨(by omega), (by omega)⟩ ⟨(by omega), (by omega)⟩ (fun c36 => ?_) (fun c36 => ?_)
    · refine r_aln eMd_gap_80 rfl ?_
      refine m_getR eMd_gap_81 rfl hM.2.1 (md_freeIn_p hM) ?_
      refine r_iln eMd_gap_84 rfl ?_
      refine r_ialde (x := J (M + 19) ((b).toNat)) eMd_gap_85 (md_freeIn_t hM) (by decide) (by omega) (by omega) rfl ?_
      refine r_iln eMd_gap_86 rfl ?_
      refine r_cge (tgt := 99) eMd_gap_87 rfl ⟨(by omega), (by omega)⟩ ⟨(by omega), (by omega)⟩ (fun c87 => ?_) (fun c87 => ?_)
      · refine r_iln eMd_gap_99 rfl ?_
        refine r_iret eMd_gap_100 rfl ?_
        (first | rw [a_mn_l (show J (M + 19) b.toNat < l by omega)] at hq | rw [a_mn_r (show ¬ J (M + 19) b.toNat < l by omega)] at hq)
        exact hq
      · refine r_aln eMd_gap_90 rfl ?_
        refine m_getR eMd_gap_91 rfl hM.2.1 (md_freeIn_p hM) ?_
        refine r_iln eMd_gap_94 rfl ?_
        refine r_ialde (x := J (M + 19) ((b).toNat)) eMd_gap_95 (md_freeIn_t hM) (by decide) (by omega) (by omega) rfl ?_
        refine r_go (tgt := 100) eMd_gap_96 rfl ?_
        refine r_iret eMd_gap_100 rfl ?_
        (first | rw [a_mn_l (show J (M + 19) b.toNat < l by omega)] at hq | rw [a_mn_r (show ¬ J (M + 19) b.toNat < l by omega)] at hq)
        exact hq
    · exfalso; omega
  | succ n ih =>
    intro x l hn hx hl hq
    unfold m_in at hl
    unfold a_gp at hq
    have hfx := hf x.toNat (by omega)
    unfold m_in at hfx
    refine r_il eMd_gap_33 rfl ?_
    refine r_iln eMd_gap_35 rfl ?_
    refine r_ceq (tgt := 80) eMd_gap_36 rfl ⟨(by omega), (by omega)⟩ ⟨(by omega), (by omega)⟩ (fun c36 => ?_) (fun c36 => ?_)
    · exfalso; omega
    · refine r_aln eMd_gap_39 rfl ?_
      refine m_getR eMd_gap_40 rfl hM.2.1 (md_freeIn_p hM) ?_
      refine r_il eMd_gap_43 rfl ?_
      refine r_ialde (x := J (M + 19) ((x).toNat)) eMd_gap_45 (md_freeIn_t hM) (by decide) (by omega) (by omega) rfl ?_
      refine r_iln eMd_gap_46 rfl ?_
      refine r_cge (tgt := 60) eMd_gap_47 rfl ⟨(by omega), (by omega)⟩ ⟨(by omega), (by omega)⟩ (fun c47 => ?_) (fun c47 => ?_)
      · refine r_iln eMd_gap_60 rfl ?_
        refine r_isn (ls' := [some (.ref M), some (.int (m_i (a))), some (.int (m_i (b))), some (.int (m_i (l))), some (.int (m_i (x)))]) eMd_gap_61 (Nat.le_of_ble_eq_true rfl) rfl ?_
        refine r_il eMd_gap_62 rfl ?_
        refine r_iln eMd_gap_64 rfl ?_
        refine r_iln eMd_gap_65 rfl ?_
        refine r_cge (tgt := 73) eMd_gap_66 rfl ⟨(by omega), (by omega)⟩ ⟨(by omega), (by omega)⟩ (fun c66 => ?_) (fun c66 => ?_)
        · refine r_con eMd_gap_73 ?_
          refine r_add eMd_gap_74 ?_
          refine r_is (ls' := [some (.ref M), some (.int (m_i (a))), some (.int (m_i (b))), some (.int (m_i (l))), some (.int (m_i ((x) + ((-1)))))]) eMd_gap_75 (Nat.le_of_ble_eq_true rfl) rfl ?_
          refine r_go (tgt := 33) eMd_gap_77 rfl ?_
          (first | rw [a_mn_l (show J (M + 19) x.toNat < l by omega)] at hq | rw [a_mn_r (show ¬ J (M + 19) x.toNat < l by omega)] at hq)
          (rcases he with ⟨he1, he2⟩ | ⟨he1, he2⟩ <;> first | (exfalso; omega) | (rw [he2] at hq ih; exact ih _ _ (by omega) (by omega) (by unfold m_in; omega) hq))
        · refine r_con eMd_gap_69 ?_
          refine r_go (tgt := 74) eMd_gap_70 rfl ?_
          refine r_add eMd_gap_74 ?_
          refine r_is (ls' := [some (.ref M), some (.int (m_i (a))), some (.int (m_i (b))), some (.int (m_i (l))), some (.int (m_i ((x) + (1))))]) eMd_gap_75 (Nat.le_of_ble_eq_true rfl) rfl ?_
          refine r_go (tgt := 33) eMd_gap_77 rfl ?_
          (first | rw [a_mn_l (show J (M + 19) x.toNat < l by omega)] at hq | rw [a_mn_r (show ¬ J (M + 19) x.toNat < l by omega)] at hq)
          (rcases he with ⟨he1, he2⟩ | ⟨he1, he2⟩ <;> first | (exfalso; omega) | (rw [he2] at hq ih; exact ih _ _ (by omega) (by omega) (by unfold m_in; omega) hq))
      · refine r_aln eMd_gap_50 rfl ?_
        refine m_getR eMd_gap_51 rfl hM.2.1 (md_freeIn_p hM) ?_
        refine r_il eMd_gap_54 rfl ?_
        refine r_ialde (x := J (M + 19) ((x).toNat)) eMd_gap_56 (md_freeIn_t hM) (by decide) (by omega) (by omega) rfl ?_
        refine r_go (tgt := 61) eMd_gap_57 rfl ?_
        refine r_isn (ls' := [some (.ref M), some (.int (m_i (a))), some (.int (m_i (b))), some (.int (m_i (J (M + 19) ((x).toNat)))), some (.int (m_i (x)))]) eMd_gap_61 (Nat.le_of_ble_eq_true rfl) rfl ?_
        refine r_il eMd_gap_62 rfl ?_
        refine r_iln eMd_gap_64 rfl ?_
        refine r_iln eMd_gap_65 rfl ?_
        refine r_cge (tgt := 73) eMd_gap_66 rfl ⟨(by omega), (by omega)⟩ ⟨(by omega), (by omega)⟩ (fun c66 => ?_) (fun c66 => ?_)
        · refine r_con eMd_gap_73 ?_
          refine r_add eMd_gap_74 ?_
          refine r_is (ls' := [some (.ref M), some (.int (m_i (a))), some (.int (m_i (b))), some (.int (m_i (J (M + 19) ((x).toNat)))), some (.int (m_i ((x) + ((-1)))))]) eMd_gap_75 (Nat.le_of_ble_eq_true rfl) rfl ?_
          refine r_go (tgt := 33) eMd_gap_77 rfl ?_
          (first | rw [a_mn_l (show J (M + 19) x.toNat < l by omega)] at hq | rw [a_mn_r (show ¬ J (M + 19) x.toNat < l by omega)] at hq)
          (rcases he with ⟨he1, he2⟩ | ⟨he1, he2⟩ <;> first | (exfalso; omega) | (rw [he2] at hq ih; exact ih _ _ (by omega) (by omega) (by unfold m_in; omega) hq))
        · refine r_con eMd_gap_69 ?_
          refine r_go (tgt := 74) eMd_gap_70 rfl ?_
          refine r_add eMd_gap_74 ?_
          refine r_is (ls' := [some (.ref M), some (.int (m_i (a))), some (.int (m_i (b))), some (.int (m_i (J (M + 19) ((x).toNat)))), some (.int (m_i ((x) + (1))))]) eMd_gap_75 (Nat.le_of_ble_eq_true rfl) rfl ?_
          refine r_go (tgt := 33) eMd_gap_77 rfl ?_
          (first | rw [a_mn_l (show J (M + 19) x.toNat < l by omega)] at hq | rw [a_mn_r (show ¬ J (M + 19) x.toNat < l by omega)] at hq)
          (rcases he with ⟨he1, he2⟩ | ⟨he1, he2⟩ <;> first | (exfalso; omega) | (rw [he2] at hq ih; exact ih _ _ (by omega) (by omega) (by unfold m_in; omega) hq))
theorem c_Md_gap (hM : md_sh en M T P) (hJ : m_up J0 M 0 0 = J) (hn : 0 ≤ J (M + 2) 0 ∧ J (M + 2) 0 ≤ 16) (hf : ∀ i : Nat, i < 16 → m_in (J (M + 19) i)) {a b : Int} (ha : m_in a) (hb : m_in b)
    (hq1 : ¬ ((0 ≤ a ∧ a < J (M + 2) 0) ∧ (0 ≤ b ∧ b < J (M + 2) 0)) → Q (some (.int (m_i (-1)))) (T, m_I J, P, L, z, w))
    (hq2 : (0 ≤ a ∧ a < J (M + 2) 0) → (0 ≤ b ∧ b < J (M + 2) 0) → Q (some (.int (m_i (a_mn (J (M + 19) b.toNat) (a_gp (J (M + 19)) (if a < b then 1 else -1) (b - a).natAbs a (J (M + 19) a.toNat)))))) (T, m_I J, P, L, z, w)) : m_call en (d + 2) mMd_gap [.ref M, .int (m_i a), .int (m_i b)] (T, m_I J0, P, L, z, w) Q := by
  unfold m_in at ha hb
  refine m_into (by decide) (Nat.le_of_ble_eq_true rfl) rfl ?_
  show m_wp en _ mMd_gap 0 [some (.ref M), some (.int (m_i (a))), some (.int (m_i (b))), none, none] [] (T, m_I J0, P, L, z, w) Q
  refine r_aln eMd_gap_0 rfl ?_
  refine r_con eMd_gap_1 ?_
  refine r_put eMd_gap_2 rfl hM.2.1 hM.1 (Or.inl rfl) ?_
  rw [hJ]
  refine r_aln eMd_gap_5 rfl ?_
  refine r_iln eMd_gap_6 rfl ?_
  refine r_vir eMd_gap_7 rfl rfl rfl hM.2.1 rfl rfl ?_
  refine c_Md_isThere hM ⟨by omega, by omega⟩ ⟨by omega, by omega⟩ ?_
  show m_wp en _ mMd_gap 10 [some (.ref M), some (.int (m_i (a))), some (.int (m_i (b))), none, none] [(.int (m_i (if 0 ≤ a ∧ a < J (M + 2) 0 then 1 else 0)))] (T, m_I J, P, L, z, w) Q
  refine r_zeq (tgt := 21) eMd_gap_10 rfl ⟨(by omega), (by omega)⟩ (fun c10 => ?_) (fun c10 => ?_)
  · refine r_con eMd_gap_21 ?_
    refine r_iret eMd_gap_22 rfl ?_
    exact hq1 (by omega)
  · refine r_aln eMd_gap_13 rfl ?_
    refine r_iln eMd_gap_14 rfl ?_
    refine r_vir eMd_gap_15 rfl rfl rfl hM.2.1 rfl rfl ?_
    refine c_Md_isThere hM ⟨by omega, by omega⟩ ⟨by omega, by omega⟩ ?_
    show m_wp en _ mMd_gap 18 [some (.ref M), some (.int (m_i (a))), some (.int (m_i (b))), none, none] [(.int (m_i (if 0 ≤ b ∧ b < J (M + 2) 0 then 1 else 0)))] (T, m_I J, P, L, z, w) Q
    refine r_zne (tgt := 23) eMd_gap_18 rfl ⟨(by omega), (by omega)⟩ (fun c18 => ?_) (fun c18 => ?_)
    · refine r_aln eMd_gap_23 rfl ?_
      refine m_getR eMd_gap_24 rfl hM.2.1 (md_freeIn_p hM) ?_
      refine r_iln eMd_gap_27 rfl ?_
      refine r_ialde (x := J (M + 19) ((a).toNat)) eMd_gap_28 (md_freeIn_t hM) (by decide) (by omega) (by omega) rfl ?_
      refine r_isn (ls' := [some (.ref M), some (.int (m_i (a))), some (.int (m_i (b))), some (.int (m_i (J (M + 19) ((a).toNat)))), none]) eMd_gap_29 (Nat.le_of_ble_eq_true rfl) rfl ?_
      refine r_iln eMd_gap_30 rfl ?_
      refine r_is (ls' := [some (.ref M), some (.int (m_i (a))), some (.int (m_i (b))), some (.int (m_i (J (M + 19) ((a).toNat)))), some (.int (m_i (a)))]) eMd_gap_31 (Nat.le_of_ble_eq_true rfl) rfl ?_
      exact l_Md_gap hM hf (by omega) (by omega) (by by_cases h : a < b <;> simp [h]) _ _ _ (by omega) (by omega) (hf _ (by omega)) (hq2 (by omega) (by omega))
    · refine r_con eMd_gap_21 ?_
      refine r_iret eMd_gap_22 rfl ?_
      exact hq1 (by omega)
/-- the state that is kept at k, laid back -/
def md_bk (J : Nat → Nat → Int) (M : Nat) (k : Int) : Nat → Nat → Int := m_fl J (M + 22) 0 (fun i => J (M + 23) ((143 * k).toNat + i)) 143
theorem c_Md_undo (hM : md_sh en M T P) (hJ : m_up J0 M 0 0 = J) (hu : 0 ≤ J M 45 ∧ J M 45 ≤ 30) (hpb : J M 45 ≠ 0 → md_pb (md_bk (m_up J M 45 (J M 45 - 1)) M (J M 45 - 1)) M)
    (hq0 : J M 45 = 0 → Q (some (.int (m_i (-1)))) (T, m_I J, P, L, z, w))
    (hq1 : J M 45 ≠ 0 → Q (some (.int (m_i ((md_as (md_bk (m_up J M 45 (J M 45 - 1)) M (J M 45 - 1)) M) M 45)))) (T, m_I (md_as (md_bk (m_up J M 45 (J M 45 - 1)) M (J M 45 - 1)) M), P, L, z, w)) : m_call en (d + 4) mMd_undo [.ref M] (T, m_I J0, P, L, z, w) Q := by
  refine m_into (by decide) (Nat.le_of_ble_eq_true rfl) rfl ?_
  show m_wp en _ mMd_undo 0 [some (.ref M)] [] (T, m_I J0, P, L, z, w) Q
  refine r_aln eMd_undo_0 rfl ?_
  refine r_con eMd_undo_1 ?_
  refine r_put eMd_undo_2 rfl hM.2.1 hM.1 (Or.inl rfl) ?_
  rw [hJ]
  refine r_aln eMd_undo_5 rfl ?_
  refine r_gete (x := J M 45) eMd_undo_6 rfl (by decide) hM.2.1 rfl ?_
  refine r_zne (tgt := 14) eMd_undo_9 rfl ⟨(by omega), (by omega)⟩ (fun c9 => ?_) (fun c9 => ?_)
  · refine r_aln eMd_undo_14 rfl ?_
    refine r_dupr eMd_undo_15 ?_
    refine r_gete (x := J M 45) eMd_undo_16 rfl (by decide) hM.2.1 rfl ?_
    refine r_con eMd_undo_19 ?_
    refine r_sub eMd_undo_20 ?_
    refine r_put eMd_undo_21 rfl hM.2.1 hM.1 (Or.inl rfl) ?_
    refine r_aln eMd_undo_24 rfl ?_
    refine r_aln eMd_undo_25 rfl ?_
    refine r_gete (x := (J M 45) - (1)) eMd_undo_26 rfl (by decide) hM.2.1 (by simp [m_up]) ?_
    refine r_vir eMd_undo_29 rfl rfl rfl hM.2.1 rfl rfl ?_
    refine c_Md_laysBack hM (by omega) (hpb (by omega)) ?_
    show m_wp en _ mMd_undo 32 [some (.ref M)] [] (T, m_I ((md_as (md_bk ((m_up J M 45 ((J M 45) - (1)))) M (((J M 45) - (1)))) M)), P, L, z, w) Q
    refine r_aln eMd_undo_32 rfl ?_
    refine r_gete (x := (md_as (md_bk ((m_up J M 45 ((J M 45) - (1)))) M (((J M 45) - (1)))) M) M 45) eMd_undo_33 rfl (by decide) hM.2.1 rfl ?_
    refine r_iret eMd_undo_36 rfl ?_
    exact hq1 (by omega)
  · refine r_con eMd_undo_12 ?_
    refine r_iret eMd_undo_13 rfl ?_
    exact hq0 (by omega)
theorem c_Md_back (hM : md_sh en M T P) (hJ : m_up J0 M 0 0 = J) (hi : J M 46 = 0 ∨ J M 46 = 1) (hpb : J M 46 ≠ 0 → md_pb (md_bk J M 30) M)
    (hq0 : J M 46 = 0 → Q (some (.int (m_i (-1)))) (T, m_I J, P, L, z, w))
    (hq1 : J M 46 ≠ 0 → Q (some (.int (m_i ((md_as (md_bk J M 30) M) (M + 22) 1)))) (T, m_I (m_up (md_as (md_bk J M 30) M) M 45 0), P, L, z, w)) : m_call en (d + 4) mMd_back [.ref M] (T, m_I J0, P, L, z, w) Q := by
  refine m_into (by decide) (Nat.le_of_ble_eq_true rfl) rfl ?_
  show m_wp en _ mMd_back 0 [some (.ref M)] [] (T, m_I J0, P, L, z, w) Q
  refine r_aln eMd_back_0 rfl ?_
  refine r_con eMd_back_1 ?_
  refine r_put eMd_back_2 rfl hM.2.1 hM.1 (Or.inl rfl) ?_
  rw [hJ]
  refine r_aln eMd_back_5 rfl ?_
  refine r_gete (x := J M 46) eMd_back_6 rfl (by decide) hM.2.1 rfl ?_
  refine r_zne (tgt := 14) eMd_back_9 rfl ⟨(by omega), (by omega)⟩ (fun c9 => ?_) (fun c9 => ?_)
  · refine r_aln eMd_back_14 rfl ?_
    refine r_bip eMd_back_15 (by decide) ?_
    refine r_vir eMd_back_17 rfl rfl rfl hM.2.1 rfl rfl ?_
    refine c_Md_laysBack hM (by omega) (hpb (by omega)) ?_
    show m_wp en _ mMd_back 20 [some (.ref M)] [] (T, m_I ((md_as (md_bk J M (30)) M)), P, L, z, w) Q
    refine r_aln eMd_back_20 rfl ?_
    refine r_con eMd_back_21 ?_
    refine r_put eMd_back_22 rfl hM.2.1 hM.1 (Or.inl rfl) ?_
    refine r_aln eMd_back_25 rfl ?_
    refine m_getR eMd_back_26 rfl hM.2.1 (md_s_p hM) ?_
    refine r_con eMd_back_29 ?_
    refine r_ialde (x := (md_as (md_bk J M (30)) M) (M + 22) 1) eMd_back_30 (md_s_t hM) (by decide) (by omega) (by omega) (by simp [m_up, md_put_at, m_fl]) ?_
    refine r_iret eMd_back_31 rfl ?_
    exact hq1 (by omega)
  · refine r_con eMd_back_12 ?_
    refine r_iret eMd_back_13 rfl ?_
    exact hq0 (by omega)
end MDR
