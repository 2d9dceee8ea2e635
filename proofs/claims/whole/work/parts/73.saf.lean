/-! safe, steadiest of the reference -/
theorem a_abs_b {v B : Int} (h : -B ≤ v ∧ v ≤ B) : 0 ≤ a_abs v ∧ a_abs v ≤ B := by
  unfold a_abs
  split <;> omega
def a_wi (C : a_C) (σ : a_S) : Prop := a_abs σ.2.1 ≤ C.2.2.1 ∧ a_abs σ.2.2.1 ≤ C.2.2.2.1 ∧ a_abs σ.2.2.2.1 ≤ C.2.2.2.1 ∧ σ.2.2.2.2 ≤ C.2.1 ∧ 0 ≤ σ.1 ∧ σ.1 < C.1
theorem a_wi_is {C : a_C} {σ : a_S} : a_is C σ = true ↔ a_wi C σ ∧ a_why C σ = 0 := by
  constructor
  · intro h
    obtain ⟨h1, h2⟩ := a_is_spec h
    obtain ⟨g1, g2, g3, g4, g5, g6⟩ := a_why_0 h1
    exact ⟨⟨g2, g4, h2, g3.2, g1⟩, h1⟩
  · intro ⟨h1, h2⟩
    unfold a_is
    rw [Bool.and_eq_true, decide_eq_true_eq, decide_eq_true_eq]
    exact ⟨h2, h1.2.2.1⟩
/-- how many states stand from which there is a way to rest, and how many not -/
def s_sfc (C : a_C) : Nat → Int → Int → Prop
  | 0, g, b => g = 0 ∧ b = 0
  | k + 1, g, b => ∃ g0 b0, s_sfc C k g0 b0 ∧ ((¬ a_is C (a_of (k : Int)) = true ∧ g = g0 ∧ b = b0) ∨ (a_is C (a_of (k : Int)) = true ∧ (∃ t, 0 ≤ t ∧ s_ans C (-1) 0 (k : Int) t) ∧ g = g0 + 1 ∧ b = b0) ∨ (a_is C (a_of (k : Int)) = true ∧ s_ans C (-1) 0 (k : Int) (-2) ∧ g = g0 ∧ b = b0 + 1))
section MDSF
variable {en : Nat → Nat} {d : Nat} {T : Nat → Option (Nat × Nat)} {J J0 J1 : Nat → Nat → Int} {P : Nat → Nat → Option Nat} {L : Nat → Nat → Int64} {z w M : Nat} {Q : m_Q} {σ : a_S}
theorem c_Md_isWithin (hM : md_sh en M T P) (ok : a_ok (md_cf J M)) (sm : a_sm (md_get J M)) (hq0 : ¬ a_wi (md_cf J M) (md_get J M) → Q (some (.int (m_i 0))) (T, m_I J, P, L, z, w)) (hq1 : a_wi (md_cf J M) (md_get J M) → Q (some (.int (m_i 1))) (T, m_I J, P, L, z, w)) : m_call en (d + 2) mMd_isWithin [.ref M] (T, m_I J, P, L, z, w) Q := by
  have s1 : -100000 ≤ J M 33 ∧ J M 33 ≤ 100000 := sm.1
  have s2 : -100000 ≤ J M 34 ∧ J M 34 ≤ 100000 := sm.2.1
  have s3 : -100000 ≤ J M 35 ∧ J M 35 ≤ 100000 := sm.2.2.1
  have s4 : -100000 ≤ J M 36 ∧ J M 36 ≤ 100000 := sm.2.2.2.1
  have s5 : -100000 ≤ J M 37 ∧ J M 37 ≤ 100000 := sm.2.2.2.2
  have a2 := a_abs_b s2
  have a3 := a_abs_b s3
  have a4 := a_abs_b s4
  have k1 : 4 ≤ J (M + 2) 0 ∧ J (M + 2) 0 ≤ 16 := ok.1
  have k2 : 2 ≤ J (M + 2) 1 ∧ J (M + 2) 1 ≤ 6 := ok.2.1
  have k3 : 1 ≤ J (M + 2) 2 ∧ J (M + 2) 2 ≤ 2 := ok.2.2.1
  have k4 : 1 ≤ J (M + 2) 3 ∧ J (M + 2) 3 ≤ 4 := ok.2.2.2.1
  have hq0' : ¬ (a_abs (J M 34) ≤ J (M + 2) 2 ∧ a_abs (J M 35) ≤ J (M + 2) 3 ∧ a_abs (J M 36) ≤ J (M + 2) 3 ∧ J M 37 ≤ J (M + 2) 1 ∧ 0 ≤ J M 33 ∧ J M 33 < J (M + 2) 0) → Q (some (.int (m_i 0))) (T, m_I J, P, L, z, w) := hq0
  have hq1' : (a_abs (J M 34) ≤ J (M + 2) 2 ∧ a_abs (J M 35) ≤ J (M + 2) 3 ∧ a_abs (J M 36) ≤ J (M + 2) 3 ∧ J M 37 ≤ J (M + 2) 1 ∧ 0 ≤ J M 33 ∧ J M 33 < J (M + 2) 0) → Q (some (.int (m_i 1))) (T, m_I J, P, L, z, w) := hq1
  refine m_into (by decide) (Nat.le_of_ble_eq_true rfl) rfl ?_
  show m_wp en _ mMd_isWithin 0 [some (.ref M)] [] (T, m_I J, P, L, z, w) Q
  refine r_aln eMd_isWithin_0 rfl ?_
  refine r_gete (x := J M 34) eMd_isWithin_1 rfl (by decide) hM.2.1 rfl ?_
  refine r_sta eMd_isWithin_4 rfl rfl (by decide) rfl ?_
  refine c_Md_without ⟨by omega, by omega⟩ ?_
  show m_wp en _ mMd_isWithin 7 [some (.ref M)] [(.int (m_i (a_abs (J M 34))))] (T, m_I J, P, L, z, w) Q
  refine r_aln eMd_isWithin_7 rfl ?_
  refine m_getR eMd_isWithin_8 rfl hM.2.1 (md_number_p hM) ?_
  refine r_con eMd_isWithin_11 ?_
  refine r_ialde (x := J (M + 2) 2) eMd_isWithin_12 (md_number_t hM) (by decide) (by omega) (by omega) rfl ?_
  refine r_cgt (tgt := 76) eMd_isWithin_13 rfl ⟨(by omega), (by omega)⟩ ⟨(by omega), (by omega)⟩ (fun c13 => ?_) (fun c13 => ?_)
  · refine r_con eMd_isWithin_76 ?_
    refine r_zret eMd_isWithin_77 rfl (by first | exact Or.inl rfl | exact Or.inr rfl | omega) ?_
    first | exact hq0' (by omega) | exact hq1' (by omega)
  · refine r_aln eMd_isWithin_16 rfl ?_
    refine r_gete (x := J M 35) eMd_isWithin_17 rfl (by decide) hM.2.1 rfl ?_
    refine r_sta eMd_isWithin_20 rfl rfl (by decide) rfl ?_
    refine c_Md_without ⟨by omega, by omega⟩ ?_
    show m_wp en _ mMd_isWithin 23 [some (.ref M)] [(.int (m_i (a_abs (J M 35))))] (T, m_I J, P, L, z, w) Q
    refine r_aln eMd_isWithin_23 rfl ?_
    refine m_getR eMd_isWithin_24 rfl hM.2.1 (md_number_p hM) ?_
    refine r_con eMd_isWithin_27 ?_
    refine r_ialde (x := J (M + 2) 3) eMd_isWithin_28 (md_number_t hM) (by decide) (by omega) (by omega) rfl ?_
    refine r_cgt (tgt := 76) eMd_isWithin_29 rfl ⟨(by omega), (by omega)⟩ ⟨(by omega), (by omega)⟩ (fun c29 => ?_) (fun c29 => ?_)
    · refine r_con eMd_isWithin_76 ?_
      refine r_zret eMd_isWithin_77 rfl (by first | exact Or.inl rfl | exact Or.inr rfl | omega) ?_
      first | exact hq0' (by omega) | exact hq1' (by omega)
    · refine r_aln eMd_isWithin_32 rfl ?_
      refine r_gete (x := J M 36) eMd_isWithin_33 rfl (by decide) hM.2.1 rfl ?_
      refine r_sta eMd_isWithin_36 rfl rfl (by decide) rfl ?_
      refine c_Md_without ⟨by omega, by omega⟩ ?_
      show m_wp en _ mMd_isWithin 39 [some (.ref M)] [(.int (m_i (a_abs (J M 36))))] (T, m_I J, P, L, z, w) Q
      refine r_aln eMd_isWithin_39 rfl ?_
      refine m_getR eMd_isWithin_40 rfl hM.2.1 (md_number_p hM) ?_
      refine r_con eMd_isWithin_43 ?_
      refine r_ialde (x := J (M + 2) 3) eMd_isWithin_44 (md_number_t hM) (by decide) (by omega) (by omega) rfl ?_
      refine r_cgt (tgt := 76) eMd_isWithin_45 rfl ⟨(by omega), (by omega)⟩ ⟨(by omega), (by omega)⟩ (fun c45 => ?_) (fun c45 => ?_)
      · refine r_con eMd_isWithin_76 ?_
        refine r_zret eMd_isWithin_77 rfl (by first | exact Or.inl rfl | exact Or.inr rfl | omega) ?_
        first | exact hq0' (by omega) | exact hq1' (by omega)
      · refine r_aln eMd_isWithin_48 rfl ?_
        refine r_gete (x := J M 37) eMd_isWithin_49 rfl (by decide) hM.2.1 rfl ?_
        refine r_aln eMd_isWithin_52 rfl ?_
        refine m_getR eMd_isWithin_53 rfl hM.2.1 (md_number_p hM) ?_
        refine r_con eMd_isWithin_56 ?_
        refine r_ialde (x := J (M + 2) 1) eMd_isWithin_57 (md_number_t hM) (by decide) (by omega) (by omega) rfl ?_
        refine r_cgt (tgt := 76) eMd_isWithin_58 rfl ⟨(by omega), (by omega)⟩ ⟨(by omega), (by omega)⟩ (fun c58 => ?_) (fun c58 => ?_)
        · refine r_con eMd_isWithin_76 ?_
          refine r_zret eMd_isWithin_77 rfl (by first | exact Or.inl rfl | exact Or.inr rfl | omega) ?_
          first | exact hq0' (by omega) | exact hq1' (by omega)
        · refine r_aln eMd_isWithin_61 rfl ?_
          refine r_aln eMd_isWithin_62 rfl ?_
          refine r_gete (x := J M 33) eMd_isWithin_63 rfl (by decide) hM.2.1 rfl ?_
          refine r_vir eMd_isWithin_66 rfl rfl rfl hM.2.1 rfl rfl ?_
          refine c_Md_isThere hM ⟨by omega, by omega⟩ ⟨by omega, by omega⟩ ?_
          show m_wp en _ mMd_isWithin 69 [some (.ref M)] [(.int (m_i (if 0 ≤ (J M 33) ∧ (J M 33) < J (M + 2) 0 then 1 else 0)))] (T, m_I J, P, L, z, w) Q
          refine r_zeq (tgt := 76) eMd_isWithin_69 rfl ⟨(by omega), (by omega)⟩ (fun c69 => ?_) (fun c69 => ?_)
          · refine r_con eMd_isWithin_76 ?_
            refine r_zret eMd_isWithin_77 rfl (by first | exact Or.inl rfl | exact Or.inr rfl | omega) ?_
            first | exact hq0' (by omega) | exact hq1' (by omega)
          · refine r_con eMd_isWithin_72 ?_
            refine r_go (tgt := 77) eMd_isWithin_73 rfl ?_
            refine r_zret eMd_isWithin_77 rfl (by first | exact Or.inl rfl | exact Or.inr rfl | omega) ?_
            first | exact hq0' (by omega) | exact hq1' (by omega)
theorem s_Md_isWithin (hM : md_sh en M T P) (ok : a_ok (md_cf J M)) (sm : a_sm σ) (hq0 : ¬ a_wi (md_cf J M) σ → Q (some (.int (m_i 0))) (T, m_I (md_put J M σ), P, L, z, w)) (hq1 : a_wi (md_cf J M) σ → Q (some (.int (m_i 1))) (T, m_I (md_put J M σ), P, L, z, w)) : m_call en (d + 2) mMd_isWithin [.ref M] (T, m_I (md_put J M σ), P, L, z, w) Q := by
  refine c_Md_isWithin hM (by rw [md_cf_put]; exact ok) (by rw [md_get_put]; exact sm) (fun h => hq0 ?_) (fun h => hq1 ?_)
  · rw [md_cf_put, md_get_put] at h
    exact h
  · rw [md_cf_put, md_get_put] at h
    exact h
theorem l_Md_safe (hM : md_sh en M T P) (ok : a_ok (md_cf J1 M)) {what : Int} (hwh : what = 0 ∨ what = 1) (hK : s_Kn J1 J1 M (-1) 0) (hq : ∀ g b σ', s_sfc (md_cf J1 M) 38880 g b → Q (some (.int (m_i (if what = 0 then g else b)))) (T, m_I (md_put J1 M σ'), P, L, z, w)) :
    ∀ (n k : Nat) (g b : Int) (σ : a_S), k + n = 38880 → s_sfc (md_cf J1 M) k g b → m_wp en (d + 3) mMd_safe 29 [some (.ref M), some (.int (m_i what)), some (.int (m_i g)), some (.int (m_i b)), some (.int (m_i (k : Int)))] [] (T, m_I (md_put J1 M σ), P, L, z, w) Q := by
  intro n
  induction n with
  | zero =>
    intro k g b σ hk hr
    obtain rfl : k = 38880 := by omega
    have hq2 := hq g b σ hr
    refine r_il eMd_safe_29 rfl ?_
    refine r_ldc (x := 38880) eMd_safe_31 rfl (by decide) ?_
    refine r_cge (tgt := 87) eMd_safe_33 rfl ⟨(by omega), (by omega)⟩ ⟨(by omega), (by omega)⟩ (fun c33 => ?_) (fun c33 => ?_)
    · refine r_iln eMd_safe_87 rfl ?_
      refine r_zne (tgt := 95) eMd_safe_88 rfl ⟨(by omega), (by omega)⟩ (fun c88 => ?_) (fun c88 => ?_)
      · refine r_iln eMd_safe_95 rfl ?_
        refine r_iret eMd_safe_96 rfl ?_
        (first | rw [if_pos (by omega)] at hq2 | rw [if_neg (by omega)] at hq2)
        exact hq2
      · refine r_iln eMd_safe_91 rfl ?_
        refine r_go (tgt := 96) eMd_safe_92 rfl ?_
        refine r_iret eMd_safe_96 rfl ?_
        (first | rw [if_pos (by omega)] at hq2 | rw [if_neg (by omega)] at hq2)
        exact hq2
    · exfalso; omega
  | succ n ih =>
    intro k g b σ hk hr
    have sm := a_of_sm (n := (k : Int)) (by omega) (by omega)
    have hwb := a_why_bd (md_cf J1 M) (a_of (k : Int))
    have hrok := hK.2.1.1 (k : Int).toNat (by omega)
    have ha := s_Kn_ans hK (n := (k : Int)) (by omega)
    refine r_il eMd_safe_29 rfl ?_
    refine r_ldc (x := 38880) eMd_safe_31 rfl (by decide) ?_
    refine r_cge (tgt := 87) eMd_safe_33 rfl ⟨(by omega), (by omega)⟩ ⟨(by omega), (by omega)⟩ (fun c33 => ?_) (fun c33 => ?_)
    · exfalso; omega
    · refine r_aln eMd_safe_36 rfl ?_
      refine r_il eMd_safe_37 rfl ?_
      refine r_vir eMd_safe_39 rfl rfl rfl hM.2.1 rfl rfl ?_
      refine s_Md_lays hM (by omega) (by omega) ?_
      show m_wp en _ mMd_safe 42 [some (.ref M), some (.int (m_i (what))), some (.int (m_i (g))), some (.int (m_i (b))), some (.int (m_i ((k : Int))))] [] (T, m_I ((md_put J1 M (a_of ((k : Int))))), P, L, z, w) Q
      refine r_aln eMd_safe_42 rfl ?_
      refine r_vir eMd_safe_43 rfl rfl rfl hM.2.1 rfl rfl ?_
      refine s_Md_isWithin hM ok sm (fun hA => ?_) (fun hA => ?_)
      · show m_wp en _ mMd_safe 46 [some (.ref M), some (.int (m_i (what))), some (.int (m_i (g))), some (.int (m_i (b))), some (.int (m_i ((k : Int))))] [(.int (m_i (0)))] (T, m_I ((md_put J1 M (a_of ((k : Int))))), P, L, z, w) Q
        refine r_zeq (tgt := 81) eMd_safe_46 rfl ⟨(by omega), (by omega)⟩ (fun c46 => ?_) (fun c46 => ?_)
        · refine r_inc (ls' := [some (.ref M), some (.int (m_i (what))), some (.int (m_i (g))), some (.int (m_i (b))), some (.int (m_i ((k : Int) + 1)))]) eMd_safe_81 rfl rfl ?_
          refine r_go (tgt := 29) eMd_safe_84 rfl ?_
          first | exact ih (k + 1) g b _ (by omega) ⟨g, b, hr, Or.inl ⟨fun q => hA (a_wi_is.1 q).1, rfl, rfl⟩⟩ | exact ih (k + 1) g b _ (by omega) ⟨g, b, hr, Or.inl ⟨fun q => by have := (a_wi_is.1 q).2; omega, rfl, rfl⟩⟩ | (rw [if_pos (by omega)] at ha; exact ih (k + 1) g (b + 1) _ (by omega) ⟨g, b, hr, Or.inr (Or.inr ⟨a_wi_is.2 ⟨hA, by omega⟩, ha, rfl, rfl⟩)⟩) | (rw [if_neg (by omega)] at ha; exact ih (k + 1) (g + 1) b _ (by omega) ⟨g, b, hr, Or.inr (Or.inl ⟨a_wi_is.2 ⟨hA, by omega⟩, ⟨_, hrok.1, ha⟩, rfl, rfl⟩)⟩)
        · exfalso; omega
      · show m_wp en _ mMd_safe 46 [some (.ref M), some (.int (m_i (what))), some (.int (m_i (g))), some (.int (m_i (b))), some (.int (m_i ((k : Int))))] [(.int (m_i (1)))] (T, m_I ((md_put J1 M (a_of ((k : Int))))), P, L, z, w) Q
        refine r_zeq (tgt := 81) eMd_safe_46 rfl ⟨(by omega), (by omega)⟩ (fun c46 => ?_) (fun c46 => ?_)
        · exfalso; omega
        · refine r_aln eMd_safe_49 rfl ?_
          refine r_vir eMd_safe_50 rfl rfl rfl hM.2.1 rfl rfl ?_
          refine s_Md_whyNot hM ok sm ?_
          show m_wp en _ mMd_safe 53 [some (.ref M), some (.int (m_i (what))), some (.int (m_i (g))), some (.int (m_i (b))), some (.int (m_i ((k : Int))))] [(.int (m_i (a_why (md_cf J1 M) ((a_of ((k : Int)))))))] (T, m_I ((md_put J1 M (a_of ((k : Int))))), P, L, z, w) Q
          refine r_zeq (tgt := 59) eMd_safe_53 rfl ⟨(by omega), (by omega)⟩ (fun c53 => ?_) (fun c53 => ?_)
          · refine r_aln eMd_safe_59 rfl ?_
            refine m_getR eMd_safe_60 rfl hM.2.1 (md_far_p hM) ?_
            refine r_il eMd_safe_63 rfl ?_
            refine r_salde (x := J1 (M + 20) (((k : Int)).toNat)) eMd_safe_65 (md_far_t hM) (by decide) (by omega) (by omega) (by simp [m_up, md_put_at, m_fl]) ?_
            refine r_sip eMd_safe_66 (by decide) ?_
            refine r_cne (tgt := 78) eMd_safe_69 rfl ⟨(by omega), (by omega)⟩ ⟨(by omega), (by omega)⟩ (fun c69 => ?_) (fun c69 => ?_)
            · refine r_inc (ls' := [some (.ref M), some (.int (m_i (what))), some (.int (m_i (g + 1))), some (.int (m_i (b))), some (.int (m_i ((k : Int))))]) eMd_safe_78 rfl rfl ?_
              refine r_inc (ls' := [some (.ref M), some (.int (m_i (what))), some (.int (m_i (g + 1))), some (.int (m_i (b))), some (.int (m_i ((k : Int) + 1)))]) eMd_safe_81 rfl rfl ?_
              refine r_go (tgt := 29) eMd_safe_84 rfl ?_
              first | exact ih (k + 1) g b _ (by omega) ⟨g, b, hr, Or.inl ⟨fun q => hA (a_wi_is.1 q).1, rfl, rfl⟩⟩ | exact ih (k + 1) g b _ (by omega) ⟨g, b, hr, Or.inl ⟨fun q => by have := (a_wi_is.1 q).2; omega, rfl, rfl⟩⟩ | (rw [if_pos (by omega)] at ha; exact ih (k + 1) g (b + 1) _ (by omega) ⟨g, b, hr, Or.inr (Or.inr ⟨a_wi_is.2 ⟨hA, by omega⟩, ha, rfl, rfl⟩)⟩) | (rw [if_neg (by omega)] at ha; exact ih (k + 1) (g + 1) b _ (by omega) ⟨g, b, hr, Or.inr (Or.inl ⟨a_wi_is.2 ⟨hA, by omega⟩, ⟨_, hrok.1, ha⟩, rfl, rfl⟩)⟩)
            · refine r_inc (ls' := [some (.ref M), some (.int (m_i (what))), some (.int (m_i (g))), some (.int (m_i (b + 1))), some (.int (m_i ((k : Int))))]) eMd_safe_72 rfl rfl ?_
              refine r_go (tgt := 81) eMd_safe_75 rfl ?_
              refine r_inc (ls' := [some (.ref M), some (.int (m_i (what))), some (.int (m_i (g))), some (.int (m_i (b + 1))), some (.int (m_i ((k : Int) + 1)))]) eMd_safe_81 rfl rfl ?_
              refine r_go (tgt := 29) eMd_safe_84 rfl ?_
              first | exact ih (k + 1) g b _ (by omega) ⟨g, b, hr, Or.inl ⟨fun q => hA (a_wi_is.1 q).1, rfl, rfl⟩⟩ | exact ih (k + 1) g b _ (by omega) ⟨g, b, hr, Or.inl ⟨fun q => by have := (a_wi_is.1 q).2; omega, rfl, rfl⟩⟩ | (rw [if_pos (by omega)] at ha; exact ih (k + 1) g (b + 1) _ (by omega) ⟨g, b, hr, Or.inr (Or.inr ⟨a_wi_is.2 ⟨hA, by omega⟩, ha, rfl, rfl⟩)⟩) | (rw [if_neg (by omega)] at ha; exact ih (k + 1) (g + 1) b _ (by omega) ⟨g, b, hr, Or.inr (Or.inl ⟨a_wi_is.2 ⟨hA, by omega⟩, ⟨_, hrok.1, ha⟩, rfl, rfl⟩)⟩)
          · refine r_go (tgt := 81) eMd_safe_56 rfl ?_
            refine r_inc (ls' := [some (.ref M), some (.int (m_i (what))), some (.int (m_i (g))), some (.int (m_i (b))), some (.int (m_i ((k : Int) + 1)))]) eMd_safe_81 rfl rfl ?_
            refine r_go (tgt := 29) eMd_safe_84 rfl ?_
            first | exact ih (k + 1) g b _ (by omega) ⟨g, b, hr, Or.inl ⟨fun q => hA (a_wi_is.1 q).1, rfl, rfl⟩⟩ | exact ih (k + 1) g b _ (by omega) ⟨g, b, hr, Or.inl ⟨fun q => by have := (a_wi_is.1 q).2; omega, rfl, rfl⟩⟩ | (rw [if_pos (by omega)] at ha; exact ih (k + 1) g (b + 1) _ (by omega) ⟨g, b, hr, Or.inr (Or.inr ⟨a_wi_is.2 ⟨hA, by omega⟩, ha, rfl, rfl⟩)⟩) | (rw [if_neg (by omega)] at ha; exact ih (k + 1) (g + 1) b _ (by omega) ⟨g, b, hr, Or.inr (Or.inl ⟨a_wi_is.2 ⟨hA, by omega⟩, ⟨_, hrok.1, ha⟩, rfl, rfl⟩)⟩)
theorem c_Md_safe (hM : md_sh en M T P) (hJ : m_up J0 M 0 0 = J) (hinv : md_inv J M) {what : Int} (hw : m_in what)
    (hq0 : ¬ (what = 0 ∨ what = 1) → Q (some (.int (m_i (-1)))) (T, m_I J, P, L, z, w))
    (hq1 : (what = 0 ∨ what = 1) → ∀ (J1 : Nat → Nat → Int) (g b : Int), md_fx J J1 M → md_inv J1 M → s_sfc (md_cf J M) 38880 g b → Q (some (.int (m_i (if what = 0 then g else b)))) (T, m_I J1, P, L, z, w)) : m_call en (d + 8) mMd_safe [.ref M, .int (m_i what)] (T, m_I J0, P, L, z, w) Q := by
  unfold m_in at hw
  refine m_into (by decide) (Nat.le_of_ble_eq_true rfl) rfl ?_
  show m_wp en _ mMd_safe 0 [some (.ref M), some (.int (m_i (what))), none, none, none] [] (T, m_I J0, P, L, z, w) Q
  refine r_aln eMd_safe_0 rfl ?_
  refine r_con eMd_safe_1 ?_
  refine r_put eMd_safe_2 rfl hM.2.1 hM.1 (Or.inl rfl) ?_
  rw [hJ]
  refine r_iln eMd_safe_5 rfl ?_
  refine r_zlt (tgt := 14) eMd_safe_6 rfl ⟨(by omega), (by omega)⟩ (fun c6 => ?_) (fun c6 => ?_)
  · refine r_con eMd_safe_14 ?_
    refine r_iret eMd_safe_15 rfl ?_
    exact hq0 (by omega)
  · refine r_iln eMd_safe_9 rfl ?_
    refine r_con eMd_safe_10 ?_
    refine r_cle (tgt := 16) eMd_safe_11 rfl ⟨(by omega), (by omega)⟩ ⟨(by omega), (by omega)⟩ (fun c11 => ?_) (fun c11 => ?_)
    · refine r_aln eMd_safe_16 rfl ?_
      refine r_con eMd_safe_17 ?_
      refine r_con eMd_safe_18 ?_
      refine r_vir eMd_safe_19 rfl rfl rfl hM.2.1 rfl rfl ?_
      refine k_Md_seeks hM hinv.ok (by omega) (by omega) hinv.hkp (fun J1 hfx hkp1 hK => ?_)
      · show m_wp en _ mMd_safe 22 [some (.ref M), some (.int (m_i (what))), none, none, none] [] (T, m_I J1, P, L, z, w) Q
        refine r_con eMd_safe_22 ?_
        refine r_isn (ls' := [some (.ref M), some (.int (m_i (what))), some (.int (m_i (0))), none, none]) eMd_safe_23 (Nat.le_of_ble_eq_true rfl) rfl ?_
        refine r_con eMd_safe_24 ?_
        refine r_isn (ls' := [some (.ref M), some (.int (m_i (what))), some (.int (m_i (0))), some (.int (m_i (0))), none]) eMd_safe_25 (Nat.le_of_ble_eq_true rfl) rfl ?_
        refine r_con eMd_safe_26 ?_
        refine r_is (ls' := [some (.ref M), some (.int (m_i (what))), some (.int (m_i (0))), some (.int (m_i (0))), some (.int (m_i (0)))]) eMd_safe_27 (Nat.le_of_ble_eq_true rfl) rfl ?_
        have h := l_Md_safe (d := d + 4) (z := z) (w := w) (L := L) (P := P) (Q := Q) (J1 := J1) (what := what) hM (by rw [hfx.cf]; exact hinv.ok) (by omega) (s_Kn_self hK) (fun g b σ' hr => hq1 (by omega) _ g b (hfx.put σ') (hinv.fx (hfx.put _) (md_kp_put _ hkp1)) (by rw [← hfx.cf]; exact hr)) 38880 0 0 0 (md_get J1 M) (by omega) ⟨rfl, rfl⟩
        rw [md_put_get] at h
        exact h
    · refine r_con eMd_safe_14 ?_
      refine r_iret eMd_safe_15 rfl ?_
      exact hq0 (by omega)
theorem l_Md_empties (hM : md_sh en M T P)
    (hq : Q none (T, m_I (m_fl J1 (M + 20) 0 (fun _ => 30000) 38880), P, L, z, w)) :
    ∀ (n : Nat) (k : Int), k + n = 38880 → 0 ≤ k → m_wp en d mMd_empties 13 [some (.ref M), some (.int (m_i k))] [] (T, m_I (m_fl J1 (M + 20) 0 (fun _ => 30000) k), P, L, z, w) Q := by
  intro n
  induction n with
  | zero =>
    intro k hk h0
    obtain rfl : k = 38880 := by omega
    refine r_iln eMd_empties_13 rfl ?_
    refine r_ldc (x := 38880) eMd_empties_14 rfl (by decide) ?_
    refine r_cge (tgt := 34) eMd_empties_16 rfl ⟨(by omega), (by omega)⟩ ⟨(by omega), (by omega)⟩ (fun c16 => ?_) (fun c16 => ?_)
    · refine r_ret eMd_empties_34 rfl ?_
      exact hq
    · exfalso; omega
  | succ n ih =>
    intro k hk h0
    refine r_iln eMd_empties_13 rfl ?_
    refine r_ldc (x := 38880) eMd_empties_14 rfl (by decide) ?_
    refine r_cge (tgt := 34) eMd_empties_16 rfl ⟨(by omega), (by omega)⟩ ⟨(by omega), (by omega)⟩ (fun c16 => ?_) (fun c16 => ?_)
    · exfalso; omega
    · refine r_aln eMd_empties_19 rfl ?_
      refine m_getR eMd_empties_20 rfl hM.2.1 (md_far_p hM) ?_
      refine r_iln eMd_empties_23 rfl ?_
      refine r_sip eMd_empties_24 (by decide) ?_
      refine r_sast eMd_empties_27 (md_far_t hM) (by decide) (by omega) (by omega) (md_b hM 20) (m_s16_id ⟨(by omega), (by omega)⟩) ?_
      refine r_inc (ls' := [some (.ref M), some (.int (m_i (k + 1)))]) eMd_empties_28 rfl rfl ?_
      refine r_go (tgt := 13) eMd_empties_31 rfl ?_
      refine Eq.mp ?_ (ih (k + 1) (by omega) (by omega))
      rw [m_fl_s h0 (by omega) rfl]
theorem c_Md_empties (hM : md_sh en M T P) (hq : Q none (T, m_I (md_e0 J M), P, L, z, w)) : m_call en (d + 1) mMd_empties [.ref M] (T, m_I J, P, L, z, w) Q := by
  refine m_into (by decide) (Nat.le_of_ble_eq_true rfl) rfl ?_
  show m_wp en _ mMd_empties 0 [some (.ref M), none] [] (T, m_I J, P, L, z, w) Q
  refine r_aln eMd_empties_0 rfl ?_
  refine r_bip eMd_empties_1 (by decide) ?_
  refine r_put eMd_empties_3 rfl hM.2.1 hM.1 (Or.inl rfl) ?_
  refine r_aln eMd_empties_6 rfl ?_
  refine r_con eMd_empties_7 ?_
  refine r_put eMd_empties_8 rfl hM.2.1 hM.1 (Or.inl rfl) ?_
  refine r_con eMd_empties_11 ?_
  refine r_isn (ls' := [some (.ref M), some (.int (m_i (0)))]) eMd_empties_12 (Nat.le_of_ble_eq_true rfl) rfl ?_
  have h := l_Md_empties (d := d) (z := z) (w := w) (L := L) (P := P) (Q := Q) (J1 := ((m_up (m_up J M 40 ((-2))) M 42 (0)))) hM hq 38880 0 (by omega) (by omega)
  rw [m_fl_0] at h
  exact h
end MDSF
/-- the bound, of any search backward -/
theorem s_bound_g {C : a_C} (ok : a_ok C) {S : Int → Prop} {E : Int → Int → Prop} (hS : ∀ n, S n → a_is C (a_of n) = true ∧ (0 ≤ n ∧ n < 38880)) (hE : ∀ n m, E n m → ∃ c : Int, (0 ≤ c ∧ c < 9) ∧ a_is C (a_back (a_of n) c) = true ∧ m = a_no (a_back (a_of n) c)) : ∀ t n, b_D S E t n → (∀ t', b_D S E t' n → t ≤ t') → t < 29999 := by
  intro t n h hmin
  obtain ⟨f, f1, f2, f3, f4⟩ := b_short h hmin
  have k1 := ok.1
  have st : ∀ i, i ≤ t → a_is C (a_of (f i)) = true ∧ (0 ≤ f i ∧ f i < 38880) := fun i hi => by
    cases i with
    | zero => exact hS _ f2
    | succ i =>
      obtain ⟨c, c1, c3, c4⟩ := hE _ _ (f3 i (by omega))
      have hb := a_is_bx ok c3
      rw [c4]
      exact ⟨by rw [a_of_no hb]; exact c3, a_no_bd hb⟩
  have hpig := b_pig t p_l6 (fun i => (f i).toNat) (fun i j hi hj q => f4 i j hi hj (by
    have s1 := (st i (by omega)).2
    have s2 := (st j (by omega)).2
    have q : (f i).toNat = (f j).toNat := q
    omega)) (fun i hi => by
    obtain ⟨s1, s2⟩ := st i (by omega)
    obtain ⟨c, c1, c3, c4⟩ := hE _ _ (f3 i hi)
    have g1 := (a_why_0 (a_is_spec s1).1).2.2.2.2.1
    have g2 := a_why_0 (a_is_spec c3).1
    have g3 := g2.1
    have g4 := g2.2.2.2.2.1
    unfold a_back at g3 g4
    simp only at g3 g4
    exact p_of s2.1 s2.2 (by omega) (by omega) (by omega))
  rw [p_len6] at hpig
  omega
