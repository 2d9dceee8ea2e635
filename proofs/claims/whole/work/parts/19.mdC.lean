/-! what stands: the columns' width, how deep, top speed, most swing, whether it holds, how deep a column is free -/
abbrev a_C : Type := Int × Int × Int × Int × Int × (Int → Int)
def a_cl (C : a_C) (σ : a_S) : Bool := (List.range (a_abs σ.2.2.1).toNat).all (fun k => decide ((σ.2.2.2.2 * (k : Int) + a_abs σ.2.2.1 - 1) / a_abs σ.2.2.1 ≤ C.2.2.2.2.2 (if 0 < σ.2.2.1 then σ.1 + k else σ.1 - k))) && decide (σ.2.2.2.2 + C.2.2.2.2.1 ≤ C.2.2.2.2.2 (σ.1 + σ.2.2.1))
theorem a_abs_nn (v : Int) : 0 ≤ a_abs v := by unfold a_abs; split <;> omega
theorem a_cl_iff (C : a_C) (σ : a_S) : a_cl C σ = true ↔ (∀ k : Int, 0 ≤ k → k < a_abs σ.2.2.1 → (σ.2.2.2.2 * k + a_abs σ.2.2.1 - 1) / a_abs σ.2.2.1 ≤ C.2.2.2.2.2 (if 0 < σ.2.2.1 then σ.1 + k else σ.1 - k)) ∧ σ.2.2.2.2 + C.2.2.2.2.1 ≤ C.2.2.2.2.2 (σ.1 + σ.2.2.1) := by
  unfold a_cl
  rw [Bool.and_eq_true, List.all_eq_true, decide_eq_true_eq]
  have hn := a_abs_nn σ.2.2.1
  constructor
  · rintro ⟨h1, h2⟩
    refine ⟨fun k h0 h3 => ?_, h2⟩
    have := of_decide_eq_true (h1 k.toNat (List.mem_range.mpr (by omega)))
    rw [Int.toNat_of_nonneg h0] at this
    exact this
  · rintro ⟨h1, h2⟩
    refine ⟨fun k hk => decide_eq_true (h1 k (by omega) ?_), h2⟩
    have := List.mem_range.mp hk
    omega
def a_b (b : Bool) : Int := if b = true then 1 else 0
theorem a_b_t {b : Bool} (h : b = true) : a_b b = 1 := if_pos h
theorem a_b_f {b : Bool} (h : ¬ b = true) : a_b b = 0 := if_neg h
theorem a_b_01 (b : Bool) : a_b b = 0 ∨ a_b b = 1 := by cases b <;> simp [a_b]
def a_why (C : a_C) (σ : a_S) : Int := if ¬ (0 ≤ σ.1 ∧ σ.1 < C.1) then 1 else if C.2.2.1 < a_abs σ.2.1 then 2 else if σ.2.2.2.2 < 1 ∨ C.2.1 < σ.2.2.2.2 then 3 else if C.2.2.2.1 < a_abs σ.2.2.1 then 4 else if ¬ (0 ≤ σ.1 + σ.2.2.1 ∧ σ.1 + σ.2.2.1 < C.1) then 5 else if a_cl C σ = true then 0 else 6
/-- a state that stands, its last sway within bounds -/
def a_is (C : a_C) (σ : a_S) : Bool := decide (a_why C σ = 0) && decide (a_abs σ.2.2.2.1 ≤ C.2.2.2.1)
def md_cf (J : Nat → Nat → Int) (M : Nat) : a_C := (J (M + 2) 0, J (M + 2) 1, J (M + 2) 2, J (M + 2) 3, J M 32, fun x => J (M + 19) x.toNat)
/-- bounds of what a text can tell -/
def a_ok (C : a_C) : Prop := (4 ≤ C.1 ∧ C.1 ≤ 16) ∧ (2 ≤ C.2.1 ∧ C.2.1 ≤ 6) ∧ (1 ≤ C.2.2.1 ∧ C.2.2.1 ≤ 2) ∧ (1 ≤ C.2.2.2.1 ∧ C.2.2.2.1 ≤ 4) ∧ (C.2.2.2.2.1 = 0 ∨ C.2.2.2.2.1 = 1) ∧ ∀ x : Int, 0 ≤ x → x < 16 → 0 ≤ C.2.2.2.2.2 x ∧ C.2.2.2.2.2 x ≤ 6
/-- numbers that no sum here carries out of an int -/
def a_sm (σ : a_S) : Prop := (-100000 ≤ σ.1 ∧ σ.1 ≤ 100000) ∧ (-100000 ≤ σ.2.1 ∧ σ.2.1 ≤ 100000) ∧ (-100000 ≤ σ.2.2.1 ∧ σ.2.2.1 ≤ 100000) ∧ (-100000 ≤ σ.2.2.2.1 ∧ σ.2.2.2.1 ≤ 100000) ∧ (-100000 ≤ σ.2.2.2.2 ∧ σ.2.2.2.2 ≤ 100000)
section MDC
variable {en : Nat → Nat} {d : Nat} {T : Nat → Option (Nat × Nat)} {J : Nat → Nat → Int} {P : Nat → Nat → Option Nat} {L : Nat → Nat → Int64} {z w M : Nat} {Q : m_Q}
theorem l_Md_isClear (hM : md_sh en M T P) (ok : a_ok (md_cf J M)) (h1 : 0 ≤ J M 33 ∧ J M 33 < 16) (h2 : 0 ≤ J M 33 + J M 35 ∧ J M 33 + J M 35 < 16) (h3 : 1 ≤ J M 37 ∧ J M 37 ≤ 6) (hq : Q (some (.int (m_i (a_b (a_cl (md_cf J M) (md_get J M)))))) (T, m_I J, P, L, z, w)) :
    ∀ (n : Nat) (k : Int) (o : Option Value), k + n = a_abs (J M 35) → 0 ≤ k → (∀ i : Int, 0 ≤ i → i < k → (J M 37 * i + a_abs (J M 35) - 1) / a_abs (J M 35) ≤ J (M + 19) (if 0 < J M 35 then J M 33 + i else J M 33 - i).toNat) → m_wp en d mMd_isClear 51 [some (.ref M), some (.int (m_i (a_abs (J M 35)))), some (.int (m_i (J M 32))), some (.int (m_i k)), o] [] (T, m_I J, P, L, z, w) Q := by
  have ha : (0 ≤ J M 35 ∧ a_abs (J M 35) = J M 35) ∨ (J M 35 < 0 ∧ a_abs (J M 35) = -J M 35) := by unfold a_abs; split <;> omega
  have hf : ∀ x : Int, 0 ≤ x → x < 16 → 0 ≤ J (M + 19) x.toNat ∧ J (M + 19) x.toNat ≤ 6 := ok.2.2.2.2.2
  have hh : J M 32 = 0 ∨ J M 32 = 1 := ok.2.2.2.2.1
  have hiff : a_cl (md_cf J M) (md_get J M) = true ↔ (∀ k : Int, 0 ≤ k → k < a_abs (J M 35) → (J M 37 * k + a_abs (J M 35) - 1) / a_abs (J M 35) ≤ J (M + 19) (if 0 < J M 35 then J M 33 + k else J M 33 - k).toNat) ∧ J M 37 + J M 32 ≤ J (M + 19) (J M 33 + J M 35).toNat := a_cl_iff (md_cf J M) (md_get J M)
  intro n
  induction n with
  | zero =>
    intro k o hk h0 hall
    refine r_iln eMd_isClear_51 rfl ?_
    refine r_iln eMd_isClear_52 rfl ?_
    refine r_cge (tgt := 110) eMd_isClear_53 rfl ⟨(by omega), (by omega)⟩ ⟨(by omega), (by omega)⟩ (fun c53 => ?_) (fun c53 => ?_)
    · refine r_aln eMd_isClear_110 rfl ?_
      refine r_gete (x := J M 37) eMd_isClear_111 rfl (by decide) hM.2.1 rfl ?_
      refine r_iln eMd_isClear_114 rfl ?_
      refine r_add eMd_isClear_115 ?_
      refine r_aln eMd_isClear_116 rfl ?_
      refine m_getR eMd_isClear_117 rfl hM.2.1 (md_freeIn_p hM) ?_
      refine r_aln eMd_isClear_120 rfl ?_
      refine r_gete (x := J M 33) eMd_isClear_121 rfl (by decide) hM.2.1 rfl ?_
      refine r_aln eMd_isClear_124 rfl ?_
      refine r_gete (x := J M 35) eMd_isClear_125 rfl (by decide) hM.2.1 rfl ?_
      refine r_add eMd_isClear_128 ?_
      have hfx := hf (J M 33 + J M 35) h2.1 h2.2
      refine r_ialde (x := J (M + 19) (((J M 33) + (J M 35)).toNat)) eMd_isClear_129 (md_freeIn_t hM) (by decide) (by omega) (by omega) rfl ?_
      refine r_cgt (tgt := 137) eMd_isClear_130 rfl ⟨(by omega), (by omega)⟩ ⟨(by omega), (by omega)⟩ (fun c130 => ?_) (fun c130 => ?_)
      · refine r_con eMd_isClear_137 ?_
        refine r_zret eMd_isClear_138 rfl (by first | exact Or.inl rfl | exact Or.inr rfl | omega) ?_
        first | (rw [a_b_t (hiff.mpr ⟨fun i a b => hall i a (by omega), by omega⟩)] at hq; exact hq) | (rw [a_b_f (fun q => by have := (hiff.mp q).2; omega)] at hq; exact hq)
      · refine r_con eMd_isClear_133 ?_
        refine r_go (tgt := 138) eMd_isClear_134 rfl ?_
        refine r_zret eMd_isClear_138 rfl (by first | exact Or.inl rfl | exact Or.inr rfl | omega) ?_
        first | (rw [a_b_t (hiff.mpr ⟨fun i a b => hall i a (by omega), by omega⟩)] at hq; exact hq) | (rw [a_b_f (fun q => by have := (hiff.mp q).2; omega)] at hq; exact hq)
    · exfalso; omega
  | succ n ih =>
    intro k o hk h0 hall
    refine r_iln eMd_isClear_51 rfl ?_
    refine r_iln eMd_isClear_52 rfl ?_
    refine r_cge (tgt := 110) eMd_isClear_53 rfl ⟨(by omega), (by omega)⟩ ⟨(by omega), (by omega)⟩ (fun c53 => ?_) (fun c53 => ?_)
    · exfalso; omega
    · refine r_aln eMd_isClear_56 rfl ?_
      refine r_gete (x := J M 35) eMd_isClear_57 rfl (by decide) hM.2.1 rfl ?_
      refine r_zle (tgt := 72) eMd_isClear_60 rfl ⟨(by omega), (by omega)⟩ (fun c60 => ?_) (fun c60 => ?_)
      · have hx : (if 0 < J M 35 then J M 33 + k else J M 33 - k) = J M 33 - k := if_neg (by omega)
        have hfx := hf (J M 33 - k) (by omega) (by omega)
        refine r_aln eMd_isClear_72 rfl ?_
        refine r_gete (x := J M 33) eMd_isClear_73 rfl (by decide) hM.2.1 rfl ?_
        refine r_iln eMd_isClear_76 rfl ?_
        refine r_sub eMd_isClear_77 ?_
        refine r_is (ls' := [some (.ref M), some (.int (m_i (a_abs (J M 35)))), some (.int (m_i (J M 32))), some (.int (m_i (k))), some (.int (m_i ((J M 33) - (k))))]) eMd_isClear_78 (Nat.le_of_ble_eq_true rfl) rfl ?_
        have hk9 : 0 ≤ J M 37 * k ∧ J M 37 * k ≤ 6 * 16 := ⟨Int.mul_nonneg (by omega) h0, Int.mul_le_mul (by omega) (by omega) h0 (by omega)⟩
        refine r_aln eMd_isClear_80 rfl ?_
        refine r_gete (x := J M 37) eMd_isClear_81 rfl (by decide) hM.2.1 rfl ?_
        refine r_iln eMd_isClear_84 rfl ?_
        refine r_mul eMd_isClear_85 ?_
        refine r_iln eMd_isClear_86 rfl ?_
        refine r_add eMd_isClear_87 ?_
        refine r_con eMd_isClear_88 ?_
        refine r_sub eMd_isClear_89 ?_
        refine r_iln eMd_isClear_90 rfl ?_
        refine r_div eMd_isClear_91 ⟨(by omega), (by omega)⟩ ⟨(by omega), (by omega)⟩ ?_
        refine r_aln eMd_isClear_92 rfl ?_
        refine m_getR eMd_isClear_93 rfl hM.2.1 (md_freeIn_p hM) ?_
        refine r_il eMd_isClear_96 rfl ?_
        refine r_ialde (x := J (M + 19) (((J M 33) - (k)).toNat)) eMd_isClear_98 (md_freeIn_t hM) (by decide) (by omega) (by omega) rfl ?_
        have hdv : 0 ≤ (J M 37 * k + a_abs (J M 35) - 1) / a_abs (J M 35) ∧ (J M 37 * k + a_abs (J M 35) - 1) / a_abs (J M 35) ≤ J M 37 * k + a_abs (J M 35) - 1 := ⟨Int.ediv_nonneg (by omega) (by omega), Int.ediv_le_self _ (by omega)⟩
        refine r_cle (tgt := 104) eMd_isClear_99 rfl ⟨(by omega), (by omega)⟩ ⟨(by omega), (by omega)⟩ (fun c99 => ?_) (fun c99 => ?_)
        · refine r_inc (ls' := [some (.ref M), some (.int (m_i (a_abs (J M 35)))), some (.int (m_i (J M 32))), some (.int (m_i (k + 1))), some (.int (m_i ((J M 33) - (k))))]) eMd_isClear_104 rfl rfl ?_
          refine r_go (tgt := 51) eMd_isClear_107 rfl ?_
          refine ih (k + 1) _ (by omega) (by omega) (fun i a b => ?_)
          rcases Int.lt_or_eq_of_le (Int.lt_add_one_iff.mp b) with q | q
          · exact hall i a q
          · subst q; rw [hx]; exact c99
        · refine r_con eMd_isClear_102 ?_
          refine r_zret eMd_isClear_103 rfl (by first | exact Or.inl rfl | exact Or.inr rfl | omega) ?_
          rw [a_b_f (fun q => by have := (hiff.mp q).1 k h0 (by omega); rw [hx] at this; omega)] at hq
          exact hq
      · have hx : (if 0 < J M 35 then J M 33 + k else J M 33 - k) = J M 33 + k := if_pos (by omega)
        have hfx := hf (J M 33 + k) (by omega) (by omega)
        refine r_aln eMd_isClear_63 rfl ?_
        refine r_gete (x := J M 33) eMd_isClear_64 rfl (by decide) hM.2.1 rfl ?_
        refine r_iln eMd_isClear_67 rfl ?_
        refine r_add eMd_isClear_68 ?_
        refine r_go (tgt := 78) eMd_isClear_69 rfl ?_
        refine r_is (ls' := [some (.ref M), some (.int (m_i (a_abs (J M 35)))), some (.int (m_i (J M 32))), some (.int (m_i (k))), some (.int (m_i ((J M 33) + (k))))]) eMd_isClear_78 (Nat.le_of_ble_eq_true rfl) rfl ?_
        have hk9 : 0 ≤ J M 37 * k ∧ J M 37 * k ≤ 6 * 16 := ⟨Int.mul_nonneg (by omega) h0, Int.mul_le_mul (by omega) (by omega) h0 (by omega)⟩
        refine r_aln eMd_isClear_80 rfl ?_
        refine r_gete (x := J M 37) eMd_isClear_81 rfl (by decide) hM.2.1 rfl ?_
        refine r_iln eMd_isClear_84 rfl ?_
        refine r_mul eMd_isClear_85 ?_
        refine r_iln eMd_isClear_86 rfl ?_
        refine r_add eMd_isClear_87 ?_
        refine r_con eMd_isClear_88 ?_
        refine r_sub eMd_isClear_89 ?_
        refine r_iln eMd_isClear_90 rfl ?_
        refine r_div eMd_isClear_91 ⟨(by omega), (by omega)⟩ ⟨(by omega), (by omega)⟩ ?_
        refine r_aln eMd_isClear_92 rfl ?_
        refine m_getR eMd_isClear_93 rfl hM.2.1 (md_freeIn_p hM) ?_
        refine r_il eMd_isClear_96 rfl ?_
        refine r_ialde (x := J (M + 19) (((J M 33) + (k)).toNat)) eMd_isClear_98 (md_freeIn_t hM) (by decide) (by omega) (by omega) rfl ?_
        have hdv : 0 ≤ (J M 37 * k + a_abs (J M 35) - 1) / a_abs (J M 35) ∧ (J M 37 * k + a_abs (J M 35) - 1) / a_abs (J M 35) ≤ J M 37 * k + a_abs (J M 35) - 1 := ⟨Int.ediv_nonneg (by omega) (by omega), Int.ediv_le_self _ (by omega)⟩
        refine r_cle (tgt := 104) eMd_isClear_99 rfl ⟨(by omega), (by omega)⟩ ⟨(by omega), (by omega)⟩ (fun c99 => ?_) (fun c99 => ?_)
        · refine r_inc (ls' := [some (.ref M), some (.int (m_i (a_abs (J M 35)))), some (.int (m_i (J M 32))), some (.int (m_i (k + 1))), some (.int (m_i ((J M 33) + (k))))]) eMd_isClear_104 rfl rfl ?_
          refine r_go (tgt := 51) eMd_isClear_107 rfl ?_
          refine ih (k + 1) _ (by omega) (by omega) (fun i a b => ?_)
          rcases Int.lt_or_eq_of_le (Int.lt_add_one_iff.mp b) with q | q
          · exact hall i a q
          · subst q; rw [hx]; exact c99
        · refine r_con eMd_isClear_102 ?_
          refine r_zret eMd_isClear_103 rfl (by first | exact Or.inl rfl | exact Or.inr rfl | omega) ?_
          rw [a_b_f (fun q => by have := (hiff.mp q).1 k h0 (by omega); rw [hx] at this; omega)] at hq
          exact hq
theorem c_Md_isClear (hM : md_sh en M T P) (ok : a_ok (md_cf J M)) (h1 : 0 ≤ J M 33 ∧ J M 33 < 16) (h2 : 0 ≤ J M 33 + J M 35 ∧ J M 33 + J M 35 < 16) (h3 : 1 ≤ J M 37 ∧ J M 37 ≤ 6) (hq : Q (some (.int (m_i (a_b (a_cl (md_cf J M) (md_get J M)))))) (T, m_I J, P, L, z, w)) : m_call en (d + 2) mMd_isClear [.ref M] (T, m_I J, P, L, z, w) Q := by
  have ha : (0 ≤ J M 35 ∧ a_abs (J M 35) = J M 35) ∨ (J M 35 < 0 ∧ a_abs (J M 35) = -J M 35) := by unfold a_abs; split <;> omega
  have hf : ∀ x : Int, 0 ≤ x → x < 16 → 0 ≤ J (M + 19) x.toNat ∧ J (M + 19) x.toNat ≤ 6 := ok.2.2.2.2.2
  have hh : J M 32 = 0 ∨ J M 32 = 1 := ok.2.2.2.2.1
  have hiff : a_cl (md_cf J M) (md_get J M) = true ↔ (∀ k : Int, 0 ≤ k → k < a_abs (J M 35) → (J M 37 * k + a_abs (J M 35) - 1) / a_abs (J M 35) ≤ J (M + 19) (if 0 < J M 35 then J M 33 + k else J M 33 - k).toNat) ∧ J M 37 + J M 32 ≤ J (M + 19) (J M 33 + J M 35).toNat := a_cl_iff (md_cf J M) (md_get J M)
  have hl := fun k o => l_Md_isClear (d := d + 1) (z := z) (w := w) (L := L) hM ok h1 h2 h3 hq k 0 o
  have hfx := hf (J M 33) h1.1 h1.2
  refine m_into (by decide) (Nat.le_of_ble_eq_true rfl) rfl ?_
  show m_wp en _ mMd_isClear 0 [some (.ref M), none, none, none, none] [] (T, m_I J, P, L, z, w) Q
  refine r_aln eMd_isClear_0 rfl ?_
  refine r_gete (x := J M 35) eMd_isClear_1 rfl (by decide) hM.2.1 rfl ?_
  refine r_sta eMd_isClear_4 rfl rfl (by decide) rfl ?_
  refine c_Md_without ⟨by omega, by omega⟩ ?_
  show m_wp en _ mMd_isClear 7 [some (.ref M), none, none, none, none] [(.int (m_i (a_abs (J M 35))))] (T, m_I J, P, L, z, w) Q
  refine r_isn (ls' := [some (.ref M), some (.int (m_i (a_abs (J M 35)))), none, none, none]) eMd_isClear_7 (Nat.le_of_ble_eq_true rfl) rfl ?_
  refine r_aln eMd_isClear_8 rfl ?_
  refine r_gete (x := J M 32) eMd_isClear_9 rfl (by decide) hM.2.1 rfl ?_
  refine r_zeq (tgt := 19) eMd_isClear_12 rfl ⟨(by omega), (by omega)⟩ (fun c12 => ?_) (fun c12 => ?_)
  · refine r_con eMd_isClear_19 ?_
    refine r_isn (ls' := [some (.ref M), some (.int (m_i (a_abs (J M 35)))), some (.int (m_i (0))), none, none]) eMd_isClear_20 (Nat.le_of_ble_eq_true rfl) rfl ?_
    refine r_iln eMd_isClear_21 rfl ?_
    refine r_zne (tgt := 49) eMd_isClear_22 rfl ⟨(by omega), (by omega)⟩ (fun c22 => ?_) (fun c22 => ?_)
    · refine r_con eMd_isClear_49 ?_
      refine r_isn (ls' := [some (.ref M), some (.int (m_i (a_abs (J M 35)))), some (.int (m_i (0))), some (.int (m_i (0))), none]) eMd_isClear_50 (Nat.le_of_ble_eq_true rfl) rfl ?_
      refine Eq.mp ?_ (hl (a_abs (J M 35)).toNat none (by omega) (by omega) (fun i a b => by omega))
      first | rw [show J M 32 = 1 by omega] | rw [show J M 32 = 0 by omega]
    · refine r_aln eMd_isClear_25 rfl ?_
      refine r_gete (x := J M 37) eMd_isClear_26 rfl (by decide) hM.2.1 rfl ?_
      refine r_iln eMd_isClear_29 rfl ?_
      refine r_add eMd_isClear_30 ?_
      refine r_aln eMd_isClear_31 rfl ?_
      refine m_getR eMd_isClear_32 rfl hM.2.1 (md_freeIn_p hM) ?_
      refine r_aln eMd_isClear_35 rfl ?_
      refine r_gete (x := J M 33) eMd_isClear_36 rfl (by decide) hM.2.1 rfl ?_
      refine r_ialde (x := J (M + 19) ((J M 33).toNat)) eMd_isClear_39 (md_freeIn_t hM) (by decide) (by omega) (by omega) rfl ?_
      refine r_cgt (tgt := 47) eMd_isClear_40 rfl ⟨(by omega), (by omega)⟩ ⟨(by omega), (by omega)⟩ (fun c40 => ?_) (fun c40 => ?_)
      · refine r_con eMd_isClear_47 ?_
        refine r_zret eMd_isClear_48 rfl (by first | exact Or.inl rfl | exact Or.inr rfl | omega) ?_
        first | (rw [a_b_t (hiff.mpr ⟨fun i a b => by omega, by rw [show J M 33 + J M 35 = J M 33 by omega]; omega⟩)] at hq; exact hq) | (rw [a_b_f (fun q => by have := (hiff.mp q).2; rw [show J M 33 + J M 35 = J M 33 by omega] at this; omega)] at hq; exact hq)
      · refine r_con eMd_isClear_43 ?_
        refine r_go (tgt := 48) eMd_isClear_44 rfl ?_
        refine r_zret eMd_isClear_48 rfl (by first | exact Or.inl rfl | exact Or.inr rfl | omega) ?_
        first | (rw [a_b_t (hiff.mpr ⟨fun i a b => by omega, by rw [show J M 33 + J M 35 = J M 33 by omega]; omega⟩)] at hq; exact hq) | (rw [a_b_f (fun q => by have := (hiff.mp q).2; rw [show J M 33 + J M 35 = J M 33 by omega] at this; omega)] at hq; exact hq)
  · refine r_con eMd_isClear_15 ?_
    refine r_go (tgt := 20) eMd_isClear_16 rfl ?_
    refine r_isn (ls' := [some (.ref M), some (.int (m_i (a_abs (J M 35)))), some (.int (m_i (1))), none, none]) eMd_isClear_20 (Nat.le_of_ble_eq_true rfl) rfl ?_
    refine r_iln eMd_isClear_21 rfl ?_
    refine r_zne (tgt := 49) eMd_isClear_22 rfl ⟨(by omega), (by omega)⟩ (fun c22 => ?_) (fun c22 => ?_)
    · refine r_con eMd_isClear_49 ?_
      refine r_isn (ls' := [some (.ref M), some (.int (m_i (a_abs (J M 35)))), some (.int (m_i (1))), some (.int (m_i (0))), none]) eMd_isClear_50 (Nat.le_of_ble_eq_true rfl) rfl ?_
      refine Eq.mp ?_ (hl (a_abs (J M 35)).toNat none (by omega) (by omega) (fun i a b => by omega))
      first | rw [show J M 32 = 1 by omega] | rw [show J M 32 = 0 by omega]
    · refine r_aln eMd_isClear_25 rfl ?_
      refine r_gete (x := J M 37) eMd_isClear_26 rfl (by decide) hM.2.1 rfl ?_
      refine r_iln eMd_isClear_29 rfl ?_
      refine r_add eMd_isClear_30 ?_
      refine r_aln eMd_isClear_31 rfl ?_
      refine m_getR eMd_isClear_32 rfl hM.2.1 (md_freeIn_p hM) ?_
      refine r_aln eMd_isClear_35 rfl ?_
      refine r_gete (x := J M 33) eMd_isClear_36 rfl (by decide) hM.2.1 rfl ?_
      refine r_ialde (x := J (M + 19) ((J M 33).toNat)) eMd_isClear_39 (md_freeIn_t hM) (by decide) (by omega) (by omega) rfl ?_
      refine r_cgt (tgt := 47) eMd_isClear_40 rfl ⟨(by omega), (by omega)⟩ ⟨(by omega), (by omega)⟩ (fun c40 => ?_) (fun c40 => ?_)
      · refine r_con eMd_isClear_47 ?_
        refine r_zret eMd_isClear_48 rfl (by first | exact Or.inl rfl | exact Or.inr rfl | omega) ?_
        first | (rw [a_b_t (hiff.mpr ⟨fun i a b => by omega, by rw [show J M 33 + J M 35 = J M 33 by omega]; omega⟩)] at hq; exact hq) | (rw [a_b_f (fun q => by have := (hiff.mp q).2; rw [show J M 33 + J M 35 = J M 33 by omega] at this; omega)] at hq; exact hq)
      · refine r_con eMd_isClear_43 ?_
        refine r_go (tgt := 48) eMd_isClear_44 rfl ?_
        refine r_zret eMd_isClear_48 rfl (by first | exact Or.inl rfl | exact Or.inr rfl | omega) ?_
        first | (rw [a_b_t (hiff.mpr ⟨fun i a b => by omega, by rw [show J M 33 + J M 35 = J M 33 by omega]; omega⟩)] at hq; exact hq) | (rw [a_b_f (fun q => by have := (hiff.mp q).2; rw [show J M 33 + J M 35 = J M 33 by omega] at this; omega)] at hq; exact hq)
end MDC
