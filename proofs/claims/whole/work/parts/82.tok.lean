/-! the reference's tokens -/
abbrev a_Q : Type := Int × Int × Int × Int × Int × Int
section MQU
variable {J : Nat → Nat → Int} {M : Nat} {a p s v k g x : Int}
theorem q_up {b i : Nat} (h : b ≠ M) : m_up (md_q J M a p s v k g) b i x = md_q (m_up J b i x) M a p s v k g := by
  funext c j
  simp only [m_up, md_q]
  by_cases h1 : c = b ∧ j = i
  · obtain ⟨rfl, rfl⟩ := h1
    simp [h]
  · simp [h1]
theorem q_upM {i : Nat} (h : i < 21 ∨ 26 < i) : m_up (md_q J M a p s v k g) M i x = md_q (m_up J M i x) M a p s v k g := by
  funext c j
  simp only [m_up, md_q]
  by_cases h1 : c = M ∧ j = i
  · obtain ⟨rfl, rfl⟩ := h1
    have h2 : j ≠ 21 ∧ j ≠ 22 ∧ j ≠ 23 ∧ j ≠ 24 ∧ j ≠ 25 ∧ j ≠ 26 := by omega
    simp [h2]
  · simp [h1]
end MQU
/-- a token: where it ends, its place, sort, value -/
def s_tok (f : Nat → Int) (n a v a' p' s' v' : Int) : Prop := p' = a_end a_bk f n a ∧
  ((a_hr f n p' = -1 ∧ s' = 5 ∧ a' = p' ∧ v' = v) ∨
   (a_sl (a_hr f n p') = true ∧ a' = a_end a_sl f n p' ∧ ∃ r, s_wh f p' a' r ∧ ((r ≠ -1 ∧ s' = 0 ∧ v' = r) ∨ (r = -1 ∧ 6 < a' - p' ∧ s' = 6 ∧ v' = -1) ∨ (r = -1 ∧ ¬ 6 < a' - p' ∧ s' = 1 ∧ v' = a_nm f p' a' 6))) ∨
   (a_dg (a_hr f n p') = true ∧ a' = a_end a_dg f n p' ∧ s' = 2 ∧ v' = a_dv f n (n - p').toNat p' 0) ∨
   ((a_hr f n p' ≠ -1 ∧ ¬ a_sl (a_hr f n p') = true ∧ ¬ a_dg (a_hr f n p') = true) ∧ ((a_hr f n p' = 59 ∧ s' = 4 ∧ a' = p' + 1 ∧ v' = v) ∨ ((a_hr f n p' = 45 ∧ a_dg (a_hr f n (p' + 1)) = true) ∧ s' = 3 ∧ a' = a_end a_dg f n (p' + 1) ∧ v' = -(a_dv f n (n - (p' + 1)).toNat (p' + 1) 0)) ∨
     ((a_hr f n p' ≠ 59 ∧ ¬ (a_hr f n p' = 45 ∧ a_dg (a_hr f n (p' + 1)) = true)) ∧ s' = 6 ∧ a' = p' + 1 ∧ v' = v))))
theorem a_dv_bd {f : Nat → Int} {n : Int} (ht : a_tpb f n) : ∀ (k : Nat) (i v : Int), 0 ≤ i → (0 ≤ v ∧ v ≤ 1000000) → 0 ≤ a_dv f n k i v ∧ a_dv f n k i v ≤ 1000000 := by
  intro k
  induction k with
  | zero => intro i v _ h; exact h
  | succ k ih =>
    intro i v h0 h
    unfold a_dv
    split
    · rename_i q
      have := of_decide_eq_true q
      refine ih (i + 1) _ (by omega) ?_
      split <;> omega
    · exact h
theorem m_or_in (x y : Int) : m_in (m_or x y) := by
  have h1 := Int32.le_toInt (m_i x ||| m_i y)
  have h2 := Int32.toInt_lt (m_i x ||| m_i y)
  unfold m_or m_in
  exact ⟨by simpa using h1, by simpa using h2⟩
/-- bounds of the reader's place -/
def a_qb (n : Int) (x : a_Q) : Prop := (0 ≤ x.1 ∧ x.1 ≤ n) ∧ (0 ≤ x.2.1 ∧ x.2.1 ≤ n) ∧ (0 ≤ x.2.2.1 ∧ x.2.2.1 ≤ 6) ∧ m_in x.2.2.2.1 ∧ (0 ≤ x.2.2.2.2.1 ∧ x.2.2.2.2.1 ≤ 3) ∧ (x.2.2.2.2.1 ≠ 0 → 0 ≤ x.2.2.2.2.2 ∧ x.2.2.2.2.2 ≤ n)
section MDTK
variable {en : Nat → Nat} {d : Nat} {T : Nat → Option (Nat × Nat)} {J J0 J1 : Nat → Nat → Int} {P : Nat → Nat → Option Nat} {L : Nat → Nat → Int64} {z w M : Nat} {Q : m_Q} {σ : a_S} {a p s v k g : Int}
theorem l_Md_tk1 (hM : md_sh en M T P) (ht : a_tpb (J (M + 1)) (J M 20)) {o1 : Option Value} : ∀ (m : Nat) (a : Int), a + m = J M 20 → 0 ≤ a → m_wp en (d + 1) mMd_token 31 [some (.ref M), o1] [] (T, m_I (md_q J M (a_run a_bk (J (M + 1)) (J M 20) m a) p s v k g), P, L, z, w) Q → m_wp en (d + 1) mMd_token 0 [some (.ref M), o1] [] (T, m_I (md_q J M a p s v k g), P, L, z, w) Q := by
  have hn := ht.1
  intro m
  induction m with
  | zero =>
    intro a hm h0 hq
    have hb := a_hr_bd ht h0
    have e : a_hr (J (M + 1)) (J M 20) a = -1 := hb.2.2.1 (by omega)
    refine r_aln eMd_token_0 rfl ?_
    refine r_vir eMd_token_1 rfl rfl rfl hM.2.1 rfl rfl ?_
    refine c_Md_here hM ht (by omega) ?_
    show m_wp en _ mMd_token 4 [some (.ref M), o1] [(.int (m_i (a_hr (J (M + 1)) (J M 20) a)))] (T, m_I ((md_q J M a p s v k g)), P, L, z, w) Q
    refine r_bip eMd_token_4 (by decide) ?_
    refine r_ceq (tgt := 18) eMd_token_6 rfl ⟨(by omega), (by omega)⟩ ⟨(by omega), (by omega)⟩ (fun c6 => ?_) (fun c6 => ?_)
    · exfalso; omega
    · refine r_aln eMd_token_9 rfl ?_
      refine r_vir eMd_token_10 rfl rfl rfl hM.2.1 rfl rfl ?_
      refine c_Md_here hM ht (by omega) ?_
      show m_wp en _ mMd_token 13 [some (.ref M), o1] [(.int (m_i (a_hr (J (M + 1)) (J M 20) a)))] (T, m_I ((md_q J M a p s v k g)), P, L, z, w) Q
      refine r_bip eMd_token_13 (by decide) ?_
      refine r_cne (tgt := 31) eMd_token_15 rfl ⟨(by omega), (by omega)⟩ ⟨(by omega), (by omega)⟩ (fun c15 => ?_) (fun c15 => ?_)
      · exact hq
      · exfalso; omega
  | succ m ih =>
    intro a hm h0 hq
    have hb := a_hr_bd ht h0
    unfold a_run at hq
    refine r_aln eMd_token_0 rfl ?_
    refine r_vir eMd_token_1 rfl rfl rfl hM.2.1 rfl rfl ?_
    refine c_Md_here hM ht (by omega) ?_
    show m_wp en _ mMd_token 4 [some (.ref M), o1] [(.int (m_i (a_hr (J (M + 1)) (J M 20) a)))] (T, m_I ((md_q J M a p s v k g)), P, L, z, w) Q
    refine r_bip eMd_token_4 (by decide) ?_
    refine r_ceq (tgt := 18) eMd_token_6 rfl ⟨(by omega), (by omega)⟩ ⟨(by omega), (by omega)⟩ (fun c6 => ?_) (fun c6 => ?_)
    · refine r_aln eMd_token_18 rfl ?_
      refine r_dupr eMd_token_19 ?_
      refine r_gete (x := a) eMd_token_20 rfl (by decide) hM.2.1 (by simp [m_up, md_q, md_put_at, m_fl]) ?_
      refine r_con eMd_token_23 ?_
      refine r_add eMd_token_24 ?_
      refine r_put eMd_token_25 rfl hM.2.1 hM.1 (Or.inl rfl) ?_
      rw [q_21]
      refine r_go (tgt := 0) eMd_token_28 rfl ?_
      rw [if_pos (show a_bk (a_hr (J (M + 1)) (J M 20) a) = true from decide_eq_true (by omega))] at hq
      exact ih (a + 1) (by omega) (by omega) hq
    · refine r_aln eMd_token_9 rfl ?_
      refine r_vir eMd_token_10 rfl rfl rfl hM.2.1 rfl rfl ?_
      refine c_Md_here hM ht (by omega) ?_
      show m_wp en _ mMd_token 13 [some (.ref M), o1] [(.int (m_i (a_hr (J (M + 1)) (J M 20) a)))] (T, m_I ((md_q J M a p s v k g)), P, L, z, w) Q
      refine r_bip eMd_token_13 (by decide) ?_
      refine r_cne (tgt := 31) eMd_token_15 rfl ⟨(by omega), (by omega)⟩ ⟨(by omega), (by omega)⟩ (fun c15 => ?_) (fun c15 => ?_)
      · rw [if_neg (fun q => by have := of_decide_eq_true q; omega)] at hq
        exact hq
      · refine r_aln eMd_token_18 rfl ?_
        refine r_dupr eMd_token_19 ?_
        refine r_gete (x := a) eMd_token_20 rfl (by decide) hM.2.1 (by simp [m_up, md_q, md_put_at, m_fl]) ?_
        refine r_con eMd_token_23 ?_
        refine r_add eMd_token_24 ?_
        refine r_put eMd_token_25 rfl hM.2.1 hM.1 (Or.inl rfl) ?_
        rw [q_21]
        refine r_go (tgt := 0) eMd_token_28 rfl ?_
        rw [if_pos (show a_bk (a_hr (J (M + 1)) (J M 20) a) = true from decide_eq_true (by omega))] at hq
        exact ih (a + 1) (by omega) (by omega) hq
theorem l_Md_tk2 (hM : md_sh en M T P) (ht : a_tpb (J (M + 1)) (J M 20)) {o1 : Option Value} : ∀ (m : Nat) (a : Int), a + m = J M 20 → 0 ≤ a → m_wp en (d + 1) mMd_token 87 [some (.ref M), o1] [] (T, m_I (md_q J M (a_run a_sl (J (M + 1)) (J M 20) m a) p s v k g), P, L, z, w) Q → m_wp en (d + 1) mMd_token 64 [some (.ref M), o1] [] (T, m_I (md_q J M a p s v k g), P, L, z, w) Q := by
  have hn := ht.1
  intro m
  induction m with
  | zero =>
    intro a hm h0 hq
    have hb := a_hr_bd ht h0
    have e : a_hr (J (M + 1)) (J M 20) a = -1 := hb.2.2.1 (by omega)
    have e2 : a_b (a_sl (a_hr (J (M + 1)) (J M 20) a)) = 0 := by rw [e]; rfl
    refine r_aln eMd_token_64 rfl ?_
    refine r_vir eMd_token_65 rfl rfl rfl hM.2.1 rfl rfl ?_
    refine c_Md_here hM ht (by omega) ?_
    show m_wp en _ mMd_token 68 [some (.ref M), o1] [(.int (m_i (a_hr (J (M + 1)) (J M 20) a)))] (T, m_I ((md_q J M a p s v k g)), P, L, z, w) Q
    refine r_sta eMd_token_68 rfl rfl (by decide) rfl ?_
    refine c_Md_isSmall (by unfold m_in; omega) ?_
    show m_wp en _ mMd_token 71 [some (.ref M), o1] [(.int (m_i (a_b (a_sl ((a_hr (J (M + 1)) (J M 20) a))))))] (T, m_I ((md_q J M a p s v k g)), P, L, z, w) Q
    refine r_zeq (tgt := 87) eMd_token_71 rfl ⟨(by omega), (by omega)⟩ (fun c71 => ?_) (fun c71 => ?_)
    · exact hq
    · exfalso; omega
  | succ m ih =>
    intro a hm h0 hq
    have hb := a_hr_bd ht h0
    have hb01 := a_b_01 (a_sl (a_hr (J (M + 1)) (J M 20) a))
    unfold a_run at hq
    refine r_aln eMd_token_64 rfl ?_
    refine r_vir eMd_token_65 rfl rfl rfl hM.2.1 rfl rfl ?_
    refine c_Md_here hM ht (by omega) ?_
    show m_wp en _ mMd_token 68 [some (.ref M), o1] [(.int (m_i (a_hr (J (M + 1)) (J M 20) a)))] (T, m_I ((md_q J M a p s v k g)), P, L, z, w) Q
    refine r_sta eMd_token_68 rfl rfl (by decide) rfl ?_
    refine c_Md_isSmall (by unfold m_in; omega) ?_
    show m_wp en _ mMd_token 71 [some (.ref M), o1] [(.int (m_i (a_b (a_sl ((a_hr (J (M + 1)) (J M 20) a))))))] (T, m_I ((md_q J M a p s v k g)), P, L, z, w) Q
    refine r_zeq (tgt := 87) eMd_token_71 rfl ⟨(by omega), (by omega)⟩ (fun c71 => ?_) (fun c71 => ?_)
    · rw [if_neg (fun q => by rw [a_b_t q] at c71; omega)] at hq
      exact hq
    · refine r_aln eMd_token_74 rfl ?_
      refine r_dupr eMd_token_75 ?_
      refine r_gete (x := a) eMd_token_76 rfl (by decide) hM.2.1 (by simp [m_up, md_q, md_put_at, m_fl]) ?_
      refine r_con eMd_token_79 ?_
      refine r_add eMd_token_80 ?_
      refine r_put eMd_token_81 rfl hM.2.1 hM.1 (Or.inl rfl) ?_
      rw [q_21]
      refine r_go (tgt := 64) eMd_token_84 rfl ?_
      rw [if_pos (Classical.byContradiction (fun q => c71 (a_b_f q)))] at hq
      exact ih (a + 1) (by omega) (by omega) hq
/-- a sign that is no letter, no digit -/
theorem l_Md_tk3 (hM : md_sh en M T P) (ht : a_tpb (J (M + 1)) (J M 20)) (hp : 0 ≤ p ∧ p < J M 20) {c : Int} (hc : a_hr (J (M + 1)) (J M 20) p = c) (hcb : -1 ≤ c ∧ c ≤ 255)
    (hq1 : c = 59 → Q none (T, m_I (md_q J M (p + 1) p 4 v k g), P, L, z, w)) (hq2 : c = 45 ∧ a_dg (a_hr (J (M + 1)) (J M 20) (p + 1)) = true → Q none (T, m_I (md_q J M (a_end a_dg (J (M + 1)) (J M 20) (p + 1)) p 3 (-(a_dv (J (M + 1)) (J M 20) (J M 20 - (p + 1)).toNat (p + 1) 0)) k g), P, L, z, w))
    (hq3 : c ≠ 59 ∧ ¬ (c = 45 ∧ a_dg (a_hr (J (M + 1)) (J M 20) (p + 1)) = true) → Q none (T, m_I (md_q J M (p + 1) p 6 v k g), P, L, z, w)) : m_wp en (d + 2) mMd_token 165 [some (.ref M), some (.int (m_i c))] [] (T, m_I (md_q J M p p s v k g), P, L, z, w) Q := by
  have hn := ht.1
  have hb := a_hr_bd ht (show 0 ≤ p + 1 by omega)
  have hb01 := a_b_01 (a_dg (a_hr (J (M + 1)) (J M 20) (p + 1)))
  refine r_aln eMd_token_165 rfl ?_
  refine r_dupr eMd_token_166 ?_
  refine r_gete (x := p) eMd_token_167 rfl (by decide) hM.2.1 (by simp [m_up, md_q, md_put_at, m_fl]) ?_
  refine r_con eMd_token_170 ?_
  refine r_add eMd_token_171 ?_
  refine r_put eMd_token_172 rfl hM.2.1 hM.1 (Or.inl rfl) ?_
  rw [q_21]
  refine r_aln eMd_token_175 rfl ?_
  refine r_iln eMd_token_176 rfl ?_
  refine r_bip eMd_token_177 (by decide) ?_
  refine r_cne (tgt := 186) eMd_token_179 rfl ⟨(by omega), (by omega)⟩ ⟨(by omega), (by omega)⟩ (fun c179 => ?_) (fun c179 => ?_)
  · refine r_iln eMd_token_186 rfl ?_
    refine r_bip eMd_token_187 (by decide) ?_
    refine r_cne (tgt := 206) eMd_token_189 rfl ⟨(by omega), (by omega)⟩ ⟨(by omega), (by omega)⟩ (fun c189 => ?_) (fun c189 => ?_)
    · refine r_bip eMd_token_206 (by decide) ?_
      refine r_put eMd_token_208 rfl hM.2.1 hM.1 (Or.inl rfl) ?_
      rw [q_23]
      refine r_aln eMd_token_211 rfl ?_
      refine r_gete (x := 6) eMd_token_212 rfl (by decide) hM.2.1 (by simp [m_up, md_q, md_put_at, m_fl]) ?_
      refine r_con eMd_token_215 ?_
      refine r_cne (tgt := 223) eMd_token_216 rfl ⟨(by omega), (by omega)⟩ ⟨(by omega), (by omega)⟩ (fun c216 => ?_) (fun c216 => ?_)
      · refine r_aln eMd_token_223 rfl ?_
        refine r_gete (x := 6) eMd_token_224 rfl (by decide) hM.2.1 (by simp [m_up, md_q, md_put_at, m_fl]) ?_
        refine r_con eMd_token_227 ?_
        refine r_cne (tgt := 240) eMd_token_228 rfl ⟨(by omega), (by omega)⟩ ⟨(by omega), (by omega)⟩ (fun c228 => ?_) (fun c228 => ?_)
        · refine r_ret eMd_token_240 rfl ?_
          first | exact hq1 (by omega) | exact hq2 ⟨by omega, Classical.byContradiction (fun q => c199 (a_b_f q))⟩ | exact hq3 ⟨by omega, fun q => by omega⟩ | exact hq3 ⟨by omega, fun q => by rw [a_b_t q.2] at c199; omega⟩
        · exfalso; omega
      · exfalso; omega
    · refine r_aln eMd_token_192 rfl ?_
      refine r_vir eMd_token_193 rfl rfl rfl hM.2.1 rfl rfl ?_
      refine c_Md_here hM ht (by omega) ?_
      show m_wp en _ mMd_token 196 [some (.ref M), some (.int (m_i (c)))] [(.int (m_i (a_hr (J (M + 1)) (J M 20) (p + 1)))), (.ref M)] (T, m_I ((md_q J M ((p) + (1)) p s v k g)), P, L, z, w) Q
      refine r_sta eMd_token_196 rfl rfl (by decide) rfl ?_
      refine c_Md_isDigit (by unfold m_in; omega) ?_
      show m_wp en _ mMd_token 199 [some (.ref M), some (.int (m_i (c)))] [(.int (m_i (a_b (a_dg ((a_hr (J (M + 1)) (J M 20) (p + 1))))))), (.ref M)] (T, m_I ((md_q J M ((p) + (1)) p s v k g)), P, L, z, w) Q
      refine r_zeq (tgt := 206) eMd_token_199 rfl ⟨(by omega), (by omega)⟩ (fun c199 => ?_) (fun c199 => ?_)
      · refine r_bip eMd_token_206 (by decide) ?_
        refine r_put eMd_token_208 rfl hM.2.1 hM.1 (Or.inl rfl) ?_
        rw [q_23]
        refine r_aln eMd_token_211 rfl ?_
        refine r_gete (x := 6) eMd_token_212 rfl (by decide) hM.2.1 (by simp [m_up, md_q, md_put_at, m_fl]) ?_
        refine r_con eMd_token_215 ?_
        refine r_cne (tgt := 223) eMd_token_216 rfl ⟨(by omega), (by omega)⟩ ⟨(by omega), (by omega)⟩ (fun c216 => ?_) (fun c216 => ?_)
        · refine r_aln eMd_token_223 rfl ?_
          refine r_gete (x := 6) eMd_token_224 rfl (by decide) hM.2.1 (by simp [m_up, md_q, md_put_at, m_fl]) ?_
          refine r_con eMd_token_227 ?_
          refine r_cne (tgt := 240) eMd_token_228 rfl ⟨(by omega), (by omega)⟩ ⟨(by omega), (by omega)⟩ (fun c228 => ?_) (fun c228 => ?_)
          · refine r_ret eMd_token_240 rfl ?_
            first | exact hq1 (by omega) | exact hq2 ⟨by omega, Classical.byContradiction (fun q => c199 (a_b_f q))⟩ | exact hq3 ⟨by omega, fun q => by omega⟩ | exact hq3 ⟨by omega, fun q => by rw [a_b_t q.2] at c199; omega⟩
          · exfalso; omega
        · exfalso; omega
      · refine r_con eMd_token_202 ?_
        refine r_go (tgt := 208) eMd_token_203 rfl ?_
        refine r_put eMd_token_208 rfl hM.2.1 hM.1 (Or.inl rfl) ?_
        rw [q_23]
        refine r_aln eMd_token_211 rfl ?_
        refine r_gete (x := 3) eMd_token_212 rfl (by decide) hM.2.1 (by simp [m_up, md_q, md_put_at, m_fl]) ?_
        refine r_con eMd_token_215 ?_
        refine r_cne (tgt := 223) eMd_token_216 rfl ⟨(by omega), (by omega)⟩ ⟨(by omega), (by omega)⟩ (fun c216 => ?_) (fun c216 => ?_)
        · exfalso; omega
        · refine r_aln eMd_token_219 rfl ?_
          refine r_vir eMd_token_220 rfl rfl rfl hM.2.1 rfl rfl ?_
          refine c_Md_digits hM ht (by omega) ?_
          · show m_wp en _ mMd_token 223 [some (.ref M), some (.int (m_i (c)))] [] (T, m_I (((md_q J M (a_end a_dg (J (M + 1)) (J M 20) (p + 1)) p 3 (a_dv (J (M + 1)) (J M 20) (J M 20 - (p + 1)).toNat (p + 1) 0) k g))), P, L, z, w) Q
            refine r_aln eMd_token_223 rfl ?_
            refine r_gete (x := 3) eMd_token_224 rfl (by decide) hM.2.1 (by simp [m_up, md_q, md_put_at, m_fl]) ?_
            refine r_con eMd_token_227 ?_
            refine r_cne (tgt := 240) eMd_token_228 rfl ⟨(by omega), (by omega)⟩ ⟨(by omega), (by omega)⟩ (fun c228 => ?_) (fun c228 => ?_)
            · exfalso; omega
            · refine r_aln eMd_token_231 rfl ?_
              refine r_aln eMd_token_232 rfl ?_
              refine r_gete (x := (a_dv (J (M + 1)) (J M 20) (J M 20 - (p + 1)).toNat (p + 1) 0)) eMd_token_233 rfl (by decide) hM.2.1 (by simp [m_up, md_q, md_put_at, m_fl]) ?_
              refine r_neg eMd_token_236 ?_
              refine r_put eMd_token_237 rfl hM.2.1 hM.1 (Or.inl rfl) ?_
              rw [q_24]
              refine r_ret eMd_token_240 rfl ?_
              first | exact hq1 (by omega) | exact hq2 ⟨by omega, Classical.byContradiction (fun q => c199 (a_b_f q))⟩ | exact hq3 ⟨by omega, fun q => by omega⟩ | exact hq3 ⟨by omega, fun q => by rw [a_b_t q.2] at c199; omega⟩
  · refine r_con eMd_token_182 ?_
    refine r_go (tgt := 208) eMd_token_183 rfl ?_
    refine r_put eMd_token_208 rfl hM.2.1 hM.1 (Or.inl rfl) ?_
    rw [q_23]
    refine r_aln eMd_token_211 rfl ?_
    refine r_gete (x := 4) eMd_token_212 rfl (by decide) hM.2.1 (by simp [m_up, md_q, md_put_at, m_fl]) ?_
    refine r_con eMd_token_215 ?_
    refine r_cne (tgt := 223) eMd_token_216 rfl ⟨(by omega), (by omega)⟩ ⟨(by omega), (by omega)⟩ (fun c216 => ?_) (fun c216 => ?_)
    · refine r_aln eMd_token_223 rfl ?_
      refine r_gete (x := 4) eMd_token_224 rfl (by decide) hM.2.1 (by simp [m_up, md_q, md_put_at, m_fl]) ?_
      refine r_con eMd_token_227 ?_
      refine r_cne (tgt := 240) eMd_token_228 rfl ⟨(by omega), (by omega)⟩ ⟨(by omega), (by omega)⟩ (fun c228 => ?_) (fun c228 => ?_)
      · refine r_ret eMd_token_240 rfl ?_
        first | exact hq1 (by omega) | exact hq2 ⟨by omega, Classical.byContradiction (fun q => c199 (a_b_f q))⟩ | exact hq3 ⟨by omega, fun q => by omega⟩ | exact hq3 ⟨by omega, fun q => by rw [a_b_t q.2] at c199; omega⟩
      · exfalso; omega
    · exfalso; omega
/-- behind the letters -/
theorem l_Md_tk4 (hM : md_sh en M T P) (ht : a_tpb (J (M + 1)) (J M 20)) (hp : 0 ≤ p ∧ p ≤ a ∧ a ≤ 700) {o1 : Option Value}
    (hq : ∀ r s' v', s_wh (J (M + 1)) p a r → ((r ≠ -1 ∧ s' = 0 ∧ v' = r) ∨ (r = -1 ∧ 6 < a - p ∧ s' = 6 ∧ v' = -1) ∨ (r = -1 ∧ ¬ 6 < a - p ∧ s' = 1 ∧ v' = a_nm (J (M + 1)) p a 6)) → Q none (T, m_I (md_q J M a p s' v' k g), P, L, z, w)) : m_wp en (d + 1) mMd_token 87 [some (.ref M), o1] [] (T, m_I (md_q J M a p s v k g), P, L, z, w) Q := by
  refine r_aln eMd_token_87 rfl ?_
  refine r_aln eMd_token_88 rfl ?_
  refine r_vir eMd_token_89 rfl rfl rfl hM.2.1 rfl rfl ?_
  refine c_Md_wordHere hM hp ht.2 (fun r hr => ?_)
  · have hrb := s_wh_bd hr
    show m_wp en _ mMd_token 92 [some (.ref M), o1] [(.int (m_i (r))), (.ref M)] (T, m_I ((md_q J M a p s v k g)), P, L, z, w) Q
    refine r_put eMd_token_92 rfl hM.2.1 hM.1 (Or.inl rfl) ?_
    rw [q_24]
    refine r_aln eMd_token_95 rfl ?_
    refine r_aln eMd_token_96 rfl ?_
    refine r_gete (x := r) eMd_token_97 rfl (by decide) hM.2.1 (by simp [m_up, md_q, md_put_at, m_fl]) ?_
    refine r_con eMd_token_100 ?_
    refine r_ceq (tgt := 108) eMd_token_101 rfl ⟨(by omega), (by omega)⟩ ⟨(by omega), (by omega)⟩ (fun c101 => ?_) (fun c101 => ?_)
    · refine r_aln eMd_token_108 rfl ?_
      refine r_gete (x := a) eMd_token_109 rfl (by decide) hM.2.1 (by simp [m_up, md_q, md_put_at, m_fl]) ?_
      refine r_aln eMd_token_112 rfl ?_
      refine r_gete (x := p) eMd_token_113 rfl (by decide) hM.2.1 (by simp [m_up, md_q, md_put_at, m_fl]) ?_
      refine r_sub eMd_token_116 ?_
      refine r_bip eMd_token_117 (by decide) ?_
      refine r_cle (tgt := 127) eMd_token_119 rfl ⟨(by omega), (by omega)⟩ ⟨(by omega), (by omega)⟩ (fun c119 => ?_) (fun c119 => ?_)
      · refine r_con eMd_token_127 ?_
        refine r_put eMd_token_128 rfl hM.2.1 hM.1 (Or.inl rfl) ?_
        rw [q_23]
        refine r_aln eMd_token_131 rfl ?_
        refine r_gete (x := 1) eMd_token_132 rfl (by decide) hM.2.1 (by simp [m_up, md_q, md_put_at, m_fl]) ?_
        refine r_con eMd_token_135 ?_
        refine r_cne (tgt := 240) eMd_token_136 rfl ⟨(by omega), (by omega)⟩ ⟨(by omega), (by omega)⟩ (fun c136 => ?_) (fun c136 => ?_)
        · exfalso; omega
        · refine r_aln eMd_token_139 rfl ?_
          refine r_vir eMd_token_140 rfl rfl rfl hM.2.1 rfl rfl ?_
          refine c_Md_nameHere hM hp ?_
          show m_wp en _ mMd_token 143 [some (.ref M), o1] [] (T, m_I (((md_q J M a p 1 (a_nm (J (M + 1)) p a 6) k g))), P, L, z, w) Q
          refine r_go (tgt := 240) eMd_token_143 rfl ?_
          refine r_ret eMd_token_240 rfl ?_
          first | (exfalso; omega) | exact hq r _ _ hr (Or.inl ⟨by omega, rfl, rfl⟩) | exact hq r _ _ hr (Or.inr (Or.inl ⟨by omega, by omega, rfl, by omega⟩)) | exact hq r _ _ hr (Or.inr (Or.inr ⟨by omega, by omega, rfl, rfl⟩))
      · refine r_bip eMd_token_122 (by decide) ?_
        refine r_go (tgt := 128) eMd_token_124 rfl ?_
        refine r_put eMd_token_128 rfl hM.2.1 hM.1 (Or.inl rfl) ?_
        rw [q_23]
        refine r_aln eMd_token_131 rfl ?_
        refine r_gete (x := 6) eMd_token_132 rfl (by decide) hM.2.1 (by simp [m_up, md_q, md_put_at, m_fl]) ?_
        refine r_con eMd_token_135 ?_
        refine r_cne (tgt := 240) eMd_token_136 rfl ⟨(by omega), (by omega)⟩ ⟨(by omega), (by omega)⟩ (fun c136 => ?_) (fun c136 => ?_)
        · refine r_ret eMd_token_240 rfl ?_
          first | (exfalso; omega) | exact hq r _ _ hr (Or.inl ⟨by omega, rfl, rfl⟩) | exact hq r _ _ hr (Or.inr (Or.inl ⟨by omega, by omega, rfl, by omega⟩)) | exact hq r _ _ hr (Or.inr (Or.inr ⟨by omega, by omega, rfl, rfl⟩))
        · exfalso; omega
    · refine r_con eMd_token_104 ?_
      refine r_go (tgt := 128) eMd_token_105 rfl ?_
      refine r_put eMd_token_128 rfl hM.2.1 hM.1 (Or.inl rfl) ?_
      rw [q_23]
      refine r_aln eMd_token_131 rfl ?_
      refine r_gete (x := 0) eMd_token_132 rfl (by decide) hM.2.1 (by simp [m_up, md_q, md_put_at, m_fl]) ?_
      refine r_con eMd_token_135 ?_
      refine r_cne (tgt := 240) eMd_token_136 rfl ⟨(by omega), (by omega)⟩ ⟨(by omega), (by omega)⟩ (fun c136 => ?_) (fun c136 => ?_)
      · refine r_ret eMd_token_240 rfl ?_
        first | (exfalso; omega) | exact hq r _ _ hr (Or.inl ⟨by omega, rfl, rfl⟩) | exact hq r _ _ hr (Or.inr (Or.inl ⟨by omega, by omega, rfl, by omega⟩)) | exact hq r _ _ hr (Or.inr (Or.inr ⟨by omega, by omega, rfl, rfl⟩))
      · exfalso; omega
end MDTK
