/-! tokens, numerals of the reference -/
section MDNU
variable {en : Nat → Nat} {d : Nat} {T : Nat → Option (Nat × Nat)} {J J0 J1 : Nat → Nat → Int} {P : Nat → Nat → Option Nat} {L : Nat → Nat → Int64} {z w M : Nat} {Q : m_Q} {σ : a_S} {a p s v k g : Int}
theorem c_Md_token (hM : md_sh en M T P) (ht : a_tpb (J (M + 1)) (J M 20)) (h0 : 0 ≤ a ∧ a ≤ J M 20) (hv : m_in v)
    (hq : ∀ a' p' s' v', s_tok (J (M + 1)) (J M 20) a v a' p' s' v' → (0 ≤ a' ∧ a' ≤ J M 20) → (0 ≤ p' ∧ p' ≤ J M 20) → (0 ≤ s' ∧ s' ≤ 6) → m_in v' → Q none (T, m_I (md_q J M a' p' s' v' k g), P, L, z, w)) : m_call en (d + 3) mMd_token [.ref M] (T, m_I (md_q J M a p s v k g), P, L, z, w) Q := by
  have hn := ht.1
  have he := a_end_bd (q := a_bk) (f := J (M + 1)) (n := J M 20) (i := a) rfl h0.2
  generalize hpp : a_end a_bk (J (M + 1)) (J M 20) a = pp at he
  have hb := a_hr_bd ht (show 0 ≤ pp by omega)
  have hb01 := a_b_01 (a_sl (a_hr (J (M + 1)) (J M 20) pp))
  have hb02 := a_b_01 (a_dg (a_hr (J (M + 1)) (J M 20) pp))
  have hes := a_end_bd (q := a_sl) (f := J (M + 1)) (n := J M 20) (i := pp) rfl (by omega)
  have hed := a_end_bd (q := a_dg) (f := J (M + 1)) (n := J M 20) (i := pp) rfl (by omega)
  have hdv := a_dv_bd ht (J M 20 - pp).toNat pp 0 (by omega) (by omega)
  have h31 : m_wp en (d + 2) mMd_token 31 [some (.ref M), none] [] (T, m_I (md_q J M pp p s v k g), P, L, z, w) Q := by
    refine r_aln eMd_token_31 rfl ?_
    refine r_aln eMd_token_32 rfl ?_
    refine r_gete (x := pp) eMd_token_33 rfl (by decide) hM.2.1 (by simp [m_up, md_q, md_put_at, m_fl]) ?_
    refine r_put eMd_token_36 rfl hM.2.1 hM.1 (Or.inl rfl) ?_
    rw [q_22]
    refine r_aln eMd_token_39 rfl ?_
    refine r_vir eMd_token_40 rfl rfl rfl hM.2.1 rfl rfl ?_
    refine c_Md_here hM ht (by omega) ?_
    show m_wp en _ mMd_token 43 [some (.ref M), none] [(.int (m_i (a_hr (J (M + 1)) (J M 20) pp)))] (T, m_I ((md_q J M pp pp s v k g)), P, L, z, w) Q
    refine r_isn (ls' := [some (.ref M), some (.int (m_i (a_hr (J (M + 1)) (J M 20) pp)))]) eMd_token_43 (Nat.le_of_ble_eq_true rfl) rfl ?_
    refine r_iln eMd_token_44 rfl ?_
    refine r_con eMd_token_45 ?_
    refine r_cne (tgt := 57) eMd_token_46 rfl ⟨(by omega), (by omega)⟩ ⟨(by omega), (by omega)⟩ (fun c46 => ?_) (fun c46 => ?_)
    · refine r_iln eMd_token_57 rfl ?_
      refine r_sta eMd_token_58 rfl rfl (by decide) rfl ?_
      refine c_Md_isSmall (by unfold m_in; omega) ?_
      show m_wp en _ mMd_token 61 [some (.ref M), some (.int (m_i (a_hr (J (M + 1)) (J M 20) pp)))] [(.int (m_i (a_b (a_sl ((a_hr (J (M + 1)) (J M 20) pp))))))] (T, m_I ((md_q J M pp pp s v k g)), P, L, z, w) Q
      refine r_zeq (tgt := 146) eMd_token_61 rfl ⟨(by omega), (by omega)⟩ (fun c61 => ?_) (fun c61 => ?_)
      · refine r_iln eMd_token_146 rfl ?_
        refine r_sta eMd_token_147 rfl rfl (by decide) rfl ?_
        refine c_Md_isDigit (by unfold m_in; omega) ?_
        show m_wp en _ mMd_token 150 [some (.ref M), some (.int (m_i (a_hr (J (M + 1)) (J M 20) pp)))] [(.int (m_i (a_b (a_dg ((a_hr (J (M + 1)) (J M 20) pp))))))] (T, m_I ((md_q J M pp pp s v k g)), P, L, z, w) Q
        refine r_zeq (tgt := 165) eMd_token_150 rfl ⟨(by omega), (by omega)⟩ (fun c150 => ?_) (fun c150 => ?_)
        · have hb3 : a_hr (J (M + 1)) (J M 20) pp ≠ -1 ∧ ¬ a_sl (a_hr (J (M + 1)) (J M 20) pp) = true ∧ ¬ a_dg (a_hr (J (M + 1)) (J M 20) pp) = true := ⟨by omega, fun q => by rw [a_b_t q] at c61; omega, fun q => by rw [a_b_t q] at c150; omega⟩
          have hlt : pp < J M 20 := by omega
          have hed1 := a_end_bd (q := a_dg) (f := J (M + 1)) (n := J M 20) (i := pp + 1) rfl (by omega)
          have hdv1 := a_dv_bd ht (J M 20 - (pp + 1)).toNat (pp + 1) 0 (by omega) (by omega)
          exact l_Md_tk3 (d := d) hM ht (by omega) rfl (by omega) (fun h => hq _ pp 4 v ⟨hpp.symm, Or.inr (Or.inr (Or.inr ⟨hb3, Or.inl ⟨h, rfl, rfl, rfl⟩⟩))⟩ (by omega) (by omega) (by omega) hv) (fun h => hq _ pp 3 _ ⟨hpp.symm, Or.inr (Or.inr (Or.inr ⟨hb3, Or.inr (Or.inl ⟨h, rfl, rfl, rfl⟩)⟩))⟩ (by omega) (by omega) (by omega) (by unfold m_in; omega)) (fun h => hq _ pp 6 v ⟨hpp.symm, Or.inr (Or.inr (Or.inr ⟨hb3, Or.inr (Or.inr ⟨h, rfl, rfl, rfl⟩)⟩))⟩ (by omega) (by omega) (by omega) hv)
        · refine r_aln eMd_token_153 rfl ?_
          refine r_con eMd_token_154 ?_
          refine r_put eMd_token_155 rfl hM.2.1 hM.1 (Or.inl rfl) ?_
          rw [q_23]
          refine r_aln eMd_token_158 rfl ?_
          refine r_vir eMd_token_159 rfl rfl rfl hM.2.1 rfl rfl ?_
          refine c_Md_digits hM ht (by omega) ?_
          · show m_wp en _ mMd_token 162 [some (.ref M), some (.int (m_i (a_hr (J (M + 1)) (J M 20) pp)))] [] (T, m_I (((md_q J M (a_end a_dg (J (M + 1)) (J M 20) pp) pp 2 (a_dv (J (M + 1)) (J M 20) (J M 20 - pp).toNat pp 0) k g))), P, L, z, w) Q
            refine r_go (tgt := 240) eMd_token_162 rfl ?_
            refine r_ret eMd_token_240 rfl ?_
            first | exact hq pp pp 5 v ⟨hpp.symm, Or.inl ⟨by omega, rfl, rfl, rfl⟩⟩ (by omega) (by omega) (by omega) hv | exact hq _ pp 2 _ ⟨hpp.symm, Or.inr (Or.inr (Or.inl ⟨Classical.byContradiction (fun q => c150 (a_b_f q)), rfl, rfl, rfl⟩))⟩ (by omega) (by omega) (by omega) (by unfold m_in; omega)
      · refine l_Md_tk2 (d := d + 1) hM ht (J M 20 - pp).toNat pp (by omega) (by omega) ?_
        have hsl : a_sl (a_hr (J (M + 1)) (J M 20) pp) = true := Classical.byContradiction (fun q => c61 (a_b_f q))
        refine l_Md_tk4 (d := d + 1) (a := a_end a_sl (J (M + 1)) (J M 20) pp) hM ht (by omega) (fun r s' v' hr h => hq _ pp s' v' ⟨hpp.symm, Or.inr (Or.inl ⟨hsl, rfl, r, hr, h⟩)⟩ (by omega) (by omega) (by omega) ?_)
        have hrb := s_wh_bd hr
        rcases h with h | h | h
        · rw [h.2.2]; unfold m_in; omega
        · rw [h.2.2.2]; unfold m_in; omega
        · rw [h.2.2.2]; exact m_or_in _ _
    · refine r_aln eMd_token_49 rfl ?_
      refine r_con eMd_token_50 ?_
      refine r_put eMd_token_51 rfl hM.2.1 hM.1 (Or.inl rfl) ?_
      rw [q_23]
      refine r_go (tgt := 240) eMd_token_54 rfl ?_
      refine r_ret eMd_token_240 rfl ?_
      first | exact hq pp pp 5 v ⟨hpp.symm, Or.inl ⟨by omega, rfl, rfl, rfl⟩⟩ (by omega) (by omega) (by omega) hv | exact hq _ pp 2 _ ⟨hpp.symm, Or.inr (Or.inr (Or.inl ⟨Classical.byContradiction (fun q => c150 (a_b_f q)), rfl, rfl, rfl⟩))⟩ (by omega) (by omega) (by omega) (by unfold m_in; omega)
  refine m_into (by decide) (Nat.le_of_ble_eq_true rfl) rfl ?_
  rw [← hpp] at h31
  exact l_Md_tk1 (d := d + 1) hM ht (J M 20 - a).toNat a (by omega) h0.1 h31
/-- the next token, if there is no fault -/
def s_go (f : Nat → Int) (n : Int) (x x' : a_Q) : Prop := (x.2.2.2.2.1 = 0 ∧ s_tok f n x.1 x.2.2.2.1 x'.1 x'.2.1 x'.2.2.1 x'.2.2.2.1 ∧ x'.2.2.2.2.1 = x.2.2.2.2.1 ∧ x'.2.2.2.2.2 = x.2.2.2.2.2) ∨ (x.2.2.2.2.1 ≠ 0 ∧ x' = x)
theorem s_go_f {f : Nat → Int} {n : Int} {x x' : a_Q} (h : s_go f n x x') (hk : x.2.2.2.2.1 ≠ 0) : x' = x := by
  rcases h with ⟨h1, -⟩ | ⟨-, h⟩
  · exact absurd h1 hk
  · exact h
theorem c_Md_goOn (hM : md_sh en M T P) (ht : a_tpb (J (M + 1)) (J M 20)) (hb : a_qb (J M 20) (a, p, s, v, k, g))
    (hq : ∀ x' : a_Q, s_go (J (M + 1)) (J M 20) (a, p, s, v, k, g) x' → a_qb (J M 20) x' → Q none (T, m_I (md_q J M x'.1 x'.2.1 x'.2.2.1 x'.2.2.2.1 x'.2.2.2.2.1 x'.2.2.2.2.2), P, L, z, w)) : m_call en (d + 4) mMd_goOn [.ref M] (T, m_I (md_q J M a p s v k g), P, L, z, w) Q := by
  have hk : 0 ≤ k ∧ k ≤ 3 := hb.2.2.2.2.1
  refine m_into (by decide) (Nat.le_of_ble_eq_true rfl) rfl ?_
  show m_wp en _ mMd_goOn 0 [some (.ref M)] [] (T, m_I ((md_q J M a p s v k g)), P, L, z, w) Q
  refine r_aln eMd_goOn_0 rfl ?_
  refine r_gete (x := k) eMd_goOn_1 rfl (by decide) hM.2.1 (by simp [m_up, md_q, md_put_at, m_fl]) ?_
  refine r_zne (tgt := 11) eMd_goOn_4 rfl ⟨(by omega), (by omega)⟩ (fun c4 => ?_) (fun c4 => ?_)
  · refine r_ret eMd_goOn_11 rfl ?_
    first | exact hq (a', p', s', v', k, g) (Or.inl ⟨c4, h1, rfl, rfl⟩) ⟨h2, h3, h4, h5, hb.2.2.2.2⟩ | exact hq (a, p, s, v, k, g) (Or.inr ⟨c4, rfl⟩) hb
  · refine r_aln eMd_goOn_7 rfl ?_
    refine r_vir eMd_goOn_8 rfl rfl rfl hM.2.1 rfl rfl ?_
    refine c_Md_token hM ht hb.1 hb.2.2.2.1 (fun a' p' s' v' h1 h2 h3 h4 h5 => ?_)
    · show m_wp en _ mMd_goOn 11 [some (.ref M)] [] (T, m_I (((md_q J M a' p' s' v' k g))), P, L, z, w) Q
      refine r_ret eMd_goOn_11 rfl ?_
      first | exact hq (a', p', s', v', k, g) (Or.inl ⟨c4, h1, rfl, rfl⟩) ⟨h2, h3, h4, h5, hb.2.2.2.2⟩ | exact hq (a, p, s, v, k, g) (Or.inr ⟨c4, rfl⟩) hb
/-- a numeral is read -/
def s_nu (f : Nat → Int) (n less lo hi : Int) (x : a_Q) (r : Int) (x' : a_Q) : Prop := (x.2.2.2.2.1 ≠ 0 ∧ r = lo ∧ x' = x) ∨ (x.2.2.2.2.1 = 0 ∧
  ((¬ (x.2.2.1 = 2 ∨ (less ≠ 0 ∧ x.2.2.1 = 3)) ∧ r = lo ∧ x' = (x.1, x.2.1, x.2.2.1, x.2.2.2.1, 1, x.2.1)) ∨ ((x.2.2.1 = 2 ∨ (less ≠ 0 ∧ x.2.2.1 = 3)) ∧ (((x.2.2.2.1 < lo ∨ hi < x.2.2.2.1) ∧ r = lo ∧ x' = (x.1, x.2.1, x.2.2.1, x.2.2.2.1, 2, x.2.1)) ∨ (¬ (x.2.2.2.1 < lo ∨ hi < x.2.2.2.1) ∧ r = x.2.2.2.1 ∧ s_go f n x x')))))
theorem a_qb_w {n : Int} {x : a_Q} (h : a_qb n x) {y : Int} (hy : 0 ≤ y ∧ y ≤ 3) : a_qb n (x.1, x.2.1, x.2.2.1, x.2.2.2.1, y, x.2.1) := ⟨h.1, h.2.1, h.2.2.1, h.2.2.2.1, hy, fun _ => h.2.1⟩
theorem c_Md_numeralOf (hM : md_sh en M T P) {x : a_Q} (ht : a_tpb (J (M + 1)) (J M 20)) (hb : a_qb (J M 20) x) {less lo hi : Int} (hl : less = 0 ∨ less = 1) (hlo : m_in lo) (hhi : m_in hi)
    (hq : ∀ (r : Int) (x' : a_Q), s_nu (J (M + 1)) (J M 20) less lo hi x r x' → a_qb (J M 20) x' → Q (some (.int (m_i r))) (T, m_I (md_q J M x'.1 x'.2.1 x'.2.2.1 x'.2.2.2.1 x'.2.2.2.2.1 x'.2.2.2.2.2), P, L, z, w)) : m_call en (d + 5) mMd_numeralOf [.ref M, .int (m_i less), .int (m_i lo), .int (m_i hi)] (T, m_I (md_q J M x.1 x.2.1 x.2.2.1 x.2.2.2.1 x.2.2.2.2.1 x.2.2.2.2.2), P, L, z, w) Q := by
  unfold m_in at hlo hhi
  have hk : 0 ≤ x.2.2.2.2.1 ∧ x.2.2.2.2.1 ≤ 3 := hb.2.2.2.2.1
  have hs := hb.2.2.1
  have hv : -2147483648 ≤ x.2.2.2.1 ∧ x.2.2.2.1 < 2147483648 := hb.2.2.2.1
  have hb0 : a_qb (J M 20) (x.1, x.2.1, x.2.2.1, x.2.2.2.1, x.2.2.2.2.1, x.2.2.2.2.2) := hb
  refine m_into (by decide) (Nat.le_of_ble_eq_true rfl) rfl ?_
  show m_wp en _ mMd_numeralOf 0 [some (.ref M), some (.int (m_i (less))), some (.int (m_i (lo))), some (.int (m_i (hi))), none] [] (T, m_I ((md_q J M x.1 x.2.1 x.2.2.1 x.2.2.2.1 x.2.2.2.2.1 x.2.2.2.2.2)), P, L, z, w) Q
  refine r_aln eMd_numeralOf_0 rfl ?_
  refine r_gete (x := x.2.2.2.2.1) eMd_numeralOf_1 rfl (by decide) hM.2.1 (by simp [m_up, md_q, md_put_at, m_fl]) ?_
  refine r_zeq (tgt := 9) eMd_numeralOf_4 rfl ⟨(by omega), (by omega)⟩ (fun c4 => ?_) (fun c4 => ?_)
  · have hk0 : x.2.2.2.2.1 = 0 := by omega
    refine r_aln eMd_numeralOf_9 rfl ?_
    refine r_gete (x := x.2.2.1) eMd_numeralOf_10 rfl (by decide) hM.2.1 (by simp [m_up, md_q, md_put_at, m_fl]) ?_
    refine r_con eMd_numeralOf_13 ?_
    refine r_ceq (tgt := 37) eMd_numeralOf_14 rfl ⟨(by omega), (by omega)⟩ ⟨(by omega), (by omega)⟩ (fun c14 => ?_) (fun c14 => ?_)
    · refine r_aln eMd_numeralOf_37 rfl ?_
      refine r_gete (x := x.2.2.2.1) eMd_numeralOf_38 rfl (by decide) hM.2.1 (by simp [m_up, md_q, md_put_at, m_fl]) ?_
      refine r_iln eMd_numeralOf_41 rfl ?_
      refine r_clt (tgt := 53) eMd_numeralOf_42 rfl ⟨(by omega), (by omega)⟩ ⟨(by omega), (by omega)⟩ (fun c42 => ?_) (fun c42 => ?_)
      · refine r_aln eMd_numeralOf_53 rfl ?_
        refine r_con eMd_numeralOf_54 ?_
        refine r_vir eMd_numeralOf_55 rfl rfl rfl hM.2.1 rfl rfl ?_
        refine c_Md_wrong hM (by omega) ?_
        · rw [if_pos hk0, if_pos hk0]
          have hqw := a_qb_w hb (y := 2) (by omega)
          show m_wp en _ mMd_numeralOf 58 [some (.ref M), some (.int (m_i (less))), some (.int (m_i (lo))), some (.int (m_i (hi))), none] [] (T, m_I (((md_q J M x.1 x.2.1 x.2.2.1 x.2.2.2.1 2 x.2.1))), P, L, z, w) Q
          refine r_aln eMd_numeralOf_58 rfl ?_
          refine r_gete (x := 2) eMd_numeralOf_59 rfl (by decide) hM.2.1 (by simp [m_up, md_q, md_put_at, m_fl]) ?_
          refine r_zne (tgt := 72) eMd_numeralOf_62 rfl ⟨(by omega), (by omega)⟩ (fun c62 => ?_) (fun c62 => ?_)
          · refine r_iln eMd_numeralOf_72 rfl ?_
            refine r_is (ls' := [some (.ref M), some (.int (m_i (less))), some (.int (m_i (lo))), some (.int (m_i (hi))), some (.int (m_i (lo)))]) eMd_numeralOf_73 (Nat.le_of_ble_eq_true rfl) rfl ?_
            refine r_aln eMd_numeralOf_75 rfl ?_
            refine r_vir eMd_numeralOf_76 rfl rfl rfl hM.2.1 rfl rfl ?_
            refine c_Md_goOn hM ht (by assumption) (fun x' hg hb' => ?_)
            · show m_wp en _ mMd_numeralOf 79 [some (.ref M), some (.int (m_i (less))), some (.int (m_i (lo))), some (.int (m_i (hi))), some (.int (m_i (lo)))] [] (T, m_I (((md_q J M x'.1 x'.2.1 x'.2.2.1 x'.2.2.2.1 x'.2.2.2.2.1 x'.2.2.2.2.2))), P, L, z, w) Q
              refine r_il eMd_numeralOf_79 rfl ?_
              refine r_iret eMd_numeralOf_81 rfl ?_
              first | (exfalso; omega) | (have e := s_go_f hg (show (1 : Int) ≠ 0 by omega); exact hq lo x' (Or.inr ⟨hk0, Or.inl ⟨by omega, rfl, e⟩⟩) hb') | (have e := s_go_f hg (show (2 : Int) ≠ 0 by omega); exact hq lo x' (Or.inr ⟨hk0, Or.inr ⟨by omega, Or.inl ⟨by omega, rfl, e⟩⟩⟩) hb') | exact hq _ x' (Or.inr ⟨hk0, Or.inr ⟨by omega, Or.inr ⟨by omega, rfl, hg⟩⟩⟩) hb'
          · exfalso; omega
      · refine r_aln eMd_numeralOf_45 rfl ?_
        refine r_gete (x := x.2.2.2.1) eMd_numeralOf_46 rfl (by decide) hM.2.1 (by simp [m_up, md_q, md_put_at, m_fl]) ?_
        refine r_iln eMd_numeralOf_49 rfl ?_
        refine r_cle (tgt := 58) eMd_numeralOf_50 rfl ⟨(by omega), (by omega)⟩ ⟨(by omega), (by omega)⟩ (fun c50 => ?_) (fun c50 => ?_)
        · refine r_aln eMd_numeralOf_58 rfl ?_
          refine r_gete (x := x.2.2.2.2.1) eMd_numeralOf_59 rfl (by decide) hM.2.1 (by simp [m_up, md_q, md_put_at, m_fl]) ?_
          refine r_zne (tgt := 72) eMd_numeralOf_62 rfl ⟨(by omega), (by omega)⟩ (fun c62 => ?_) (fun c62 => ?_)
          · refine r_iln eMd_numeralOf_72 rfl ?_
            refine r_is (ls' := [some (.ref M), some (.int (m_i (less))), some (.int (m_i (lo))), some (.int (m_i (hi))), some (.int (m_i (lo)))]) eMd_numeralOf_73 (Nat.le_of_ble_eq_true rfl) rfl ?_
            refine r_aln eMd_numeralOf_75 rfl ?_
            refine r_vir eMd_numeralOf_76 rfl rfl rfl hM.2.1 rfl rfl ?_
            refine c_Md_goOn hM ht (by assumption) (fun x' hg hb' => ?_)
            · show m_wp en _ mMd_numeralOf 79 [some (.ref M), some (.int (m_i (less))), some (.int (m_i (lo))), some (.int (m_i (hi))), some (.int (m_i (lo)))] [] (T, m_I (((md_q J M x'.1 x'.2.1 x'.2.2.1 x'.2.2.2.1 x'.2.2.2.2.1 x'.2.2.2.2.2))), P, L, z, w) Q
              refine r_il eMd_numeralOf_79 rfl ?_
              refine r_iret eMd_numeralOf_81 rfl ?_
              first | (exfalso; omega) | (have e := s_go_f hg (show (1 : Int) ≠ 0 by omega); exact hq lo x' (Or.inr ⟨hk0, Or.inl ⟨by omega, rfl, e⟩⟩) hb') | (have e := s_go_f hg (show (2 : Int) ≠ 0 by omega); exact hq lo x' (Or.inr ⟨hk0, Or.inr ⟨by omega, Or.inl ⟨by omega, rfl, e⟩⟩⟩) hb') | exact hq _ x' (Or.inr ⟨hk0, Or.inr ⟨by omega, Or.inr ⟨by omega, rfl, hg⟩⟩⟩) hb'
          · refine r_aln eMd_numeralOf_65 rfl ?_
            refine r_gete (x := x.2.2.2.1) eMd_numeralOf_66 rfl (by decide) hM.2.1 (by simp [m_up, md_q, md_put_at, m_fl]) ?_
            refine r_go (tgt := 73) eMd_numeralOf_69 rfl ?_
            refine r_is (ls' := [some (.ref M), some (.int (m_i (less))), some (.int (m_i (lo))), some (.int (m_i (hi))), some (.int (m_i (x.2.2.2.1)))]) eMd_numeralOf_73 (Nat.le_of_ble_eq_true rfl) rfl ?_
            refine r_aln eMd_numeralOf_75 rfl ?_
            refine r_vir eMd_numeralOf_76 rfl rfl rfl hM.2.1 rfl rfl ?_
            refine c_Md_goOn hM ht (by assumption) (fun x' hg hb' => ?_)
            · show m_wp en _ mMd_numeralOf 79 [some (.ref M), some (.int (m_i (less))), some (.int (m_i (lo))), some (.int (m_i (hi))), some (.int (m_i (x.2.2.2.1)))] [] (T, m_I (((md_q J M x'.1 x'.2.1 x'.2.2.1 x'.2.2.2.1 x'.2.2.2.2.1 x'.2.2.2.2.2))), P, L, z, w) Q
              refine r_il eMd_numeralOf_79 rfl ?_
              refine r_iret eMd_numeralOf_81 rfl ?_
              first | (exfalso; omega) | (have e := s_go_f hg (show (1 : Int) ≠ 0 by omega); exact hq lo x' (Or.inr ⟨hk0, Or.inl ⟨by omega, rfl, e⟩⟩) hb') | (have e := s_go_f hg (show (2 : Int) ≠ 0 by omega); exact hq lo x' (Or.inr ⟨hk0, Or.inr ⟨by omega, Or.inl ⟨by omega, rfl, e⟩⟩⟩) hb') | exact hq _ x' (Or.inr ⟨hk0, Or.inr ⟨by omega, Or.inr ⟨by omega, rfl, hg⟩⟩⟩) hb'
        · refine r_aln eMd_numeralOf_53 rfl ?_
          refine r_con eMd_numeralOf_54 ?_
          refine r_vir eMd_numeralOf_55 rfl rfl rfl hM.2.1 rfl rfl ?_
          refine c_Md_wrong hM (by omega) ?_
          · rw [if_pos hk0, if_pos hk0]
            have hqw := a_qb_w hb (y := 2) (by omega)
            show m_wp en _ mMd_numeralOf 58 [some (.ref M), some (.int (m_i (less))), some (.int (m_i (lo))), some (.int (m_i (hi))), none] [] (T, m_I (((md_q J M x.1 x.2.1 x.2.2.1 x.2.2.2.1 2 x.2.1))), P, L, z, w) Q
            refine r_aln eMd_numeralOf_58 rfl ?_
            refine r_gete (x := 2) eMd_numeralOf_59 rfl (by decide) hM.2.1 (by simp [m_up, md_q, md_put_at, m_fl]) ?_
            refine r_zne (tgt := 72) eMd_numeralOf_62 rfl ⟨(by omega), (by omega)⟩ (fun c62 => ?_) (fun c62 => ?_)
            · refine r_iln eMd_numeralOf_72 rfl ?_
              refine r_is (ls' := [some (.ref M), some (.int (m_i (less))), some (.int (m_i (lo))), some (.int (m_i (hi))), some (.int (m_i (lo)))]) eMd_numeralOf_73 (Nat.le_of_ble_eq_true rfl) rfl ?_
              refine r_aln eMd_numeralOf_75 rfl ?_
              refine r_vir eMd_numeralOf_76 rfl rfl rfl hM.2.1 rfl rfl ?_
              refine c_Md_goOn hM ht (by assumption) (fun x' hg hb' => ?_)
              · show m_wp en _ mMd_numeralOf 79 [some (.ref M), some (.int (m_i (less))), some (.int (m_i (lo))), some (.int (m_i (hi))), some (.int (m_i (lo)))] [] (T, m_I (((md_q J M x'.1 x'.2.1 x'.2.2.1 x'.2.2.2.1 x'.2.2.2.2.1 x'.2.2.2.2.2))), P, L, z, w) Q
                refine r_il eMd_numeralOf_79 rfl ?_
                refine r_iret eMd_numeralOf_81 rfl ?_
                first | (exfalso; omega) | (have e := s_go_f hg (show (1 : Int) ≠ 0 by omega); exact hq lo x' (Or.inr ⟨hk0, Or.inl ⟨by omega, rfl, e⟩⟩) hb') | (have e := s_go_f hg (show (2 : Int) ≠ 0 by omega); exact hq lo x' (Or.inr ⟨hk0, Or.inr ⟨by omega, Or.inl ⟨by omega, rfl, e⟩⟩⟩) hb') | exact hq _ x' (Or.inr ⟨hk0, Or.inr ⟨by omega, Or.inr ⟨by omega, rfl, hg⟩⟩⟩) hb'
            · exfalso; omega
    · refine r_iln eMd_numeralOf_17 rfl ?_
      refine r_zeq (tgt := 29) eMd_numeralOf_18 rfl ⟨(by omega), (by omega)⟩ (fun c18 => ?_) (fun c18 => ?_)
      · refine r_aln eMd_numeralOf_29 rfl ?_
        refine r_con eMd_numeralOf_30 ?_
        refine r_vir eMd_numeralOf_31 rfl rfl rfl hM.2.1 rfl rfl ?_
        refine c_Md_wrong hM (by omega) ?_
        · rw [if_pos hk0, if_pos hk0]
          have hqw := a_qb_w hb (y := 1) (by omega)
          show m_wp en _ mMd_numeralOf 34 [some (.ref M), some (.int (m_i (less))), some (.int (m_i (lo))), some (.int (m_i (hi))), none] [] (T, m_I (((md_q J M x.1 x.2.1 x.2.2.1 x.2.2.2.1 1 x.2.1))), P, L, z, w) Q
          refine r_go (tgt := 58) eMd_numeralOf_34 rfl ?_
          refine r_aln eMd_numeralOf_58 rfl ?_
          refine r_gete (x := 1) eMd_numeralOf_59 rfl (by decide) hM.2.1 (by simp [m_up, md_q, md_put_at, m_fl]) ?_
          refine r_zne (tgt := 72) eMd_numeralOf_62 rfl ⟨(by omega), (by omega)⟩ (fun c62 => ?_) (fun c62 => ?_)
          · refine r_iln eMd_numeralOf_72 rfl ?_
            refine r_is (ls' := [some (.ref M), some (.int (m_i (less))), some (.int (m_i (lo))), some (.int (m_i (hi))), some (.int (m_i (lo)))]) eMd_numeralOf_73 (Nat.le_of_ble_eq_true rfl) rfl ?_
            refine r_aln eMd_numeralOf_75 rfl ?_
            refine r_vir eMd_numeralOf_76 rfl rfl rfl hM.2.1 rfl rfl ?_
            refine c_Md_goOn hM ht (by assumption) (fun x' hg hb' => ?_)
            · show m_wp en _ mMd_numeralOf 79 [some (.ref M), some (.int (m_i (less))), some (.int (m_i (lo))), some (.int (m_i (hi))), some (.int (m_i (lo)))] [] (T, m_I (((md_q J M x'.1 x'.2.1 x'.2.2.1 x'.2.2.2.1 x'.2.2.2.2.1 x'.2.2.2.2.2))), P, L, z, w) Q
              refine r_il eMd_numeralOf_79 rfl ?_
              refine r_iret eMd_numeralOf_81 rfl ?_
              first | (exfalso; omega) | (have e := s_go_f hg (show (1 : Int) ≠ 0 by omega); exact hq lo x' (Or.inr ⟨hk0, Or.inl ⟨by omega, rfl, e⟩⟩) hb') | (have e := s_go_f hg (show (2 : Int) ≠ 0 by omega); exact hq lo x' (Or.inr ⟨hk0, Or.inr ⟨by omega, Or.inl ⟨by omega, rfl, e⟩⟩⟩) hb') | exact hq _ x' (Or.inr ⟨hk0, Or.inr ⟨by omega, Or.inr ⟨by omega, rfl, hg⟩⟩⟩) hb'
          · exfalso; omega
      · refine r_aln eMd_numeralOf_21 rfl ?_
        refine r_gete (x := x.2.2.1) eMd_numeralOf_22 rfl (by decide) hM.2.1 (by simp [m_up, md_q, md_put_at, m_fl]) ?_
        refine r_con eMd_numeralOf_25 ?_
        refine r_ceq (tgt := 37) eMd_numeralOf_26 rfl ⟨(by omega), (by omega)⟩ ⟨(by omega), (by omega)⟩ (fun c26 => ?_) (fun c26 => ?_)
        · refine r_aln eMd_numeralOf_37 rfl ?_
          refine r_gete (x := x.2.2.2.1) eMd_numeralOf_38 rfl (by decide) hM.2.1 (by simp [m_up, md_q, md_put_at, m_fl]) ?_
          refine r_iln eMd_numeralOf_41 rfl ?_
          refine r_clt (tgt := 53) eMd_numeralOf_42 rfl ⟨(by omega), (by omega)⟩ ⟨(by omega), (by omega)⟩ (fun c42 => ?_) (fun c42 => ?_)
          · refine r_aln eMd_numeralOf_53 rfl ?_
            refine r_con eMd_numeralOf_54 ?_
            refine r_vir eMd_numeralOf_55 rfl rfl rfl hM.2.1 rfl rfl ?_
            refine c_Md_wrong hM (by omega) ?_
            · rw [if_pos hk0, if_pos hk0]
              have hqw := a_qb_w hb (y := 2) (by omega)
              show m_wp en _ mMd_numeralOf 58 [some (.ref M), some (.int (m_i (less))), some (.int (m_i (lo))), some (.int (m_i (hi))), none] [] (T, m_I (((md_q J M x.1 x.2.1 x.2.2.1 x.2.2.2.1 2 x.2.1))), P, L, z, w) Q
              refine r_aln eMd_numeralOf_58 rfl ?_
              refine r_gete (x := 2) eMd_numeralOf_59 rfl (by decide) hM.2.1 (by simp [m_up, md_q, md_put_at, m_fl]) ?_
              refine r_zne (tgt := 72) eMd_numeralOf_62 rfl ⟨(by omega), (by omega)⟩ (fun c62 => ?_) (fun c62 => ?_)
              · refine r_iln eMd_numeralOf_72 rfl ?_
                refine r_is (ls' := [some (.ref M), some (.int (m_i (less))), some (.int (m_i (lo))), some (.int (m_i (hi))), some (.int (m_i (lo)))]) eMd_numeralOf_73 (Nat.le_of_ble_eq_true rfl) rfl ?_
                refine r_aln eMd_numeralOf_75 rfl ?_
                refine r_vir eMd_numeralOf_76 rfl rfl rfl hM.2.1 rfl rfl ?_
                refine c_Md_goOn hM ht (by assumption) (fun x' hg hb' => ?_)
                · show m_wp en _ mMd_numeralOf 79 [some (.ref M), some (.int (m_i (less))), some (.int (m_i (lo))), some (.int (m_i (hi))), some (.int (m_i (lo)))] [] (T, m_I (((md_q J M x'.1 x'.2.1 x'.2.2.1 x'.2.2.2.1 x'.2.2.2.2.1 x'.2.2.2.2.2))), P, L, z, w) Q
                  refine r_il eMd_numeralOf_79 rfl ?_
                  refine r_iret eMd_numeralOf_81 rfl ?_
                  first | (exfalso; omega) | (have e := s_go_f hg (show (1 : Int) ≠ 0 by omega); exact hq lo x' (Or.inr ⟨hk0, Or.inl ⟨by omega, rfl, e⟩⟩) hb') | (have e := s_go_f hg (show (2 : Int) ≠ 0 by omega); exact hq lo x' (Or.inr ⟨hk0, Or.inr ⟨by omega, Or.inl ⟨by omega, rfl, e⟩⟩⟩) hb') | exact hq _ x' (Or.inr ⟨hk0, Or.inr ⟨by omega, Or.inr ⟨by omega, rfl, hg⟩⟩⟩) hb'
              · exfalso; omega
          · refine r_aln eMd_numeralOf_45 rfl ?_
            refine r_gete (x := x.2.2.2.1) eMd_numeralOf_46 rfl (by decide) hM.2.1 (by simp [m_up, md_q, md_put_at, m_fl]) ?_
            refine r_iln eMd_numeralOf_49 rfl ?_
            refine r_cle (tgt := 58) eMd_numeralOf_50 rfl ⟨(by omega), (by omega)⟩ ⟨(by omega), (by omega)⟩ (fun c50 => ?_) (fun c50 => ?_)
            · refine r_aln eMd_numeralOf_58 rfl ?_
              refine r_gete (x := x.2.2.2.2.1) eMd_numeralOf_59 rfl (by decide) hM.2.1 (by simp [m_up, md_q, md_put_at, m_fl]) ?_
              refine r_zne (tgt := 72) eMd_numeralOf_62 rfl ⟨(by omega), (by omega)⟩ (fun c62 => ?_) (fun c62 => ?_)
              · refine r_iln eMd_numeralOf_72 rfl ?_
                refine r_is (ls' := [some (.ref M), some (.int (m_i (less))), some (.int (m_i (lo))), some (.int (m_i (hi))), some (.int (m_i (lo)))]) eMd_numeralOf_73 (Nat.le_of_ble_eq_true rfl) rfl ?_
                refine r_aln eMd_numeralOf_75 rfl ?_
                refine r_vir eMd_numeralOf_76 rfl rfl rfl hM.2.1 rfl rfl ?_
                refine c_Md_goOn hM ht (by assumption) (fun x' hg hb' => ?_)
                · show m_wp en _ mMd_numeralOf 79 [some (.ref M), some (.int (m_i (less))), some (.int (m_i (lo))), some (.int (m_i (hi))), some (.int (m_i (lo)))] [] (T, m_I (((md_q J M x'.1 x'.2.1 x'.2.2.1 x'.2.2.2.1 x'.2.2.2.2.1 x'.2.2.2.2.2))), P, L, z, w) Q
                  refine r_il eMd_numeralOf_79 rfl ?_
                  refine r_iret eMd_numeralOf_81 rfl ?_
                  first | (exfalso; omega) | (have e := s_go_f hg (show (1 : Int) ≠ 0 by omega); exact hq lo x' (Or.inr ⟨hk0, Or.inl ⟨by omega, rfl, e⟩⟩) hb') | (have e := s_go_f hg (show (2 : Int) ≠ 0 by omega); exact hq lo x' (Or.inr ⟨hk0, Or.inr ⟨by omega, Or.inl ⟨by omega, rfl, e⟩⟩⟩) hb') | exact hq _ x' (Or.inr ⟨hk0, Or.inr ⟨by omega, Or.inr ⟨by omega, rfl, hg⟩⟩⟩) hb'
              · refine r_aln eMd_numeralOf_65 rfl ?_
                refine r_gete (x := x.2.2.2.1) eMd_numeralOf_66 rfl (by decide) hM.2.1 (by simp [m_up, md_q, md_put_at, m_fl]) ?_
                refine r_go (tgt := 73) eMd_numeralOf_69 rfl ?_
                refine r_is (ls' := [some (.ref M), some (.int (m_i (less))), some (.int (m_i (lo))), some (.int (m_i (hi))), some (.int (m_i (x.2.2.2.1)))]) eMd_numeralOf_73 (Nat.le_of_ble_eq_true rfl) rfl ?_
                refine r_aln eMd_numeralOf_75 rfl ?_
                refine r_vir eMd_numeralOf_76 rfl rfl rfl hM.2.1 rfl rfl ?_
                refine c_Md_goOn hM ht (by assumption) (fun x' hg hb' => ?_)
                · show m_wp en _ mMd_numeralOf 79 [some (.ref M), some (.int (m_i (less))), some (.int (m_i (lo))), some (.int (m_i (hi))), some (.int (m_i (x.2.2.2.1)))] [] (T, m_I (((md_q J M x'.1 x'.2.1 x'.2.2.1 x'.2.2.2.1 x'.2.2.2.2.1 x'.2.2.2.2.2))), P, L, z, w) Q
                  refine r_il eMd_numeralOf_79 rfl ?_
                  refine r_iret eMd_numeralOf_81 rfl ?_
                  first | (exfalso; omega) | (have e := s_go_f hg (show (1 : Int) ≠ 0 by omega); exact hq lo x' (Or.inr ⟨hk0, Or.inl ⟨by omega, rfl, e⟩⟩) hb') | (have e := s_go_f hg (show (2 : Int) ≠ 0 by omega); exact hq lo x' (Or.inr ⟨hk0, Or.inr ⟨by omega, Or.inl ⟨by omega, rfl, e⟩⟩⟩) hb') | exact hq _ x' (Or.inr ⟨hk0, Or.inr ⟨by omega, Or.inr ⟨by omega, rfl, hg⟩⟩⟩) hb'
            · refine r_aln eMd_numeralOf_53 rfl ?_
              refine r_con eMd_numeralOf_54 ?_
              refine r_vir eMd_numeralOf_55 rfl rfl rfl hM.2.1 rfl rfl ?_
              refine c_Md_wrong hM (by omega) ?_
              · rw [if_pos hk0, if_pos hk0]
                have hqw := a_qb_w hb (y := 2) (by omega)
                show m_wp en _ mMd_numeralOf 58 [some (.ref M), some (.int (m_i (less))), some (.int (m_i (lo))), some (.int (m_i (hi))), none] [] (T, m_I (((md_q J M x.1 x.2.1 x.2.2.1 x.2.2.2.1 2 x.2.1))), P, L, z, w) Q
                refine r_aln eMd_numeralOf_58 rfl ?_
                refine r_gete (x := 2) eMd_numeralOf_59 rfl (by decide) hM.2.1 (by simp [m_up, md_q, md_put_at, m_fl]) ?_
                refine r_zne (tgt := 72) eMd_numeralOf_62 rfl ⟨(by omega), (by omega)⟩ (fun c62 => ?_) (fun c62 => ?_)
                · refine r_iln eMd_numeralOf_72 rfl ?_
                  refine r_is (ls' := [some (.ref M), some (.int (m_i (less))), some (.int (m_i (lo))), some (.int (m_i (hi))), some (.int (m_i (lo)))]) eMd_numeralOf_73 (Nat.le_of_ble_eq_true rfl) rfl ?_
                  refine r_aln eMd_numeralOf_75 rfl ?_
                  refine r_vir eMd_numeralOf_76 rfl rfl rfl hM.2.1 rfl rfl ?_
                  refine c_Md_goOn hM ht (by assumption) (fun x' hg hb' => ?_)
                  · show m_wp en _ mMd_numeralOf 79 [some (.ref M), some (.int (m_i (less))), some (.int (m_i (lo))), some (.int (m_i (hi))), some (.int (m_i (lo)))] [] (T, m_I (((md_q J M x'.1 x'.2.1 x'.2.2.1 x'.2.2.2.1 x'.2.2.2.2.1 x'.2.2.2.2.2))), P, L, z, w) Q
                    refine r_il eMd_numeralOf_79 rfl ?_
                    refine r_iret eMd_numeralOf_81 rfl ?_
                    first | (exfalso; omega) | (have e := s_go_f hg (show (1 : Int) ≠ 0 by omega); exact hq lo x' (Or.inr ⟨hk0, Or.inl ⟨by omega, rfl, e⟩⟩) hb') | (have e := s_go_f hg (show (2 : Int) ≠ 0 by omega); exact hq lo x' (Or.inr ⟨hk0, Or.inr ⟨by omega, Or.inl ⟨by omega, rfl, e⟩⟩⟩) hb') | exact hq _ x' (Or.inr ⟨hk0, Or.inr ⟨by omega, Or.inr ⟨by omega, rfl, hg⟩⟩⟩) hb'
                · exfalso; omega
        · refine r_aln eMd_numeralOf_29 rfl ?_
          refine r_con eMd_numeralOf_30 ?_
          refine r_vir eMd_numeralOf_31 rfl rfl rfl hM.2.1 rfl rfl ?_
          refine c_Md_wrong hM (by omega) ?_
          · rw [if_pos hk0, if_pos hk0]
            have hqw := a_qb_w hb (y := 1) (by omega)
            show m_wp en _ mMd_numeralOf 34 [some (.ref M), some (.int (m_i (less))), some (.int (m_i (lo))), some (.int (m_i (hi))), none] [] (T, m_I (((md_q J M x.1 x.2.1 x.2.2.1 x.2.2.2.1 1 x.2.1))), P, L, z, w) Q
            refine r_go (tgt := 58) eMd_numeralOf_34 rfl ?_
            refine r_aln eMd_numeralOf_58 rfl ?_
            refine r_gete (x := 1) eMd_numeralOf_59 rfl (by decide) hM.2.1 (by simp [m_up, md_q, md_put_at, m_fl]) ?_
            refine r_zne (tgt := 72) eMd_numeralOf_62 rfl ⟨(by omega), (by omega)⟩ (fun c62 => ?_) (fun c62 => ?_)
            · refine r_iln eMd_numeralOf_72 rfl ?_
              refine r_is (ls' := [some (.ref M), some (.int (m_i (less))), some (.int (m_i (lo))), some (.int (m_i (hi))), some (.int (m_i (lo)))]) eMd_numeralOf_73 (Nat.le_of_ble_eq_true rfl) rfl ?_
              refine r_aln eMd_numeralOf_75 rfl ?_
              refine r_vir eMd_numeralOf_76 rfl rfl rfl hM.2.1 rfl rfl ?_
              refine c_Md_goOn hM ht (by assumption) (fun x' hg hb' => ?_)
              · show m_wp en _ mMd_numeralOf 79 [some (.ref M), some (.int (m_i (less))), some (.int (m_i (lo))), some (.int (m_i (hi))), some (.int (m_i (lo)))] [] (T, m_I (((md_q J M x'.1 x'.2.1 x'.2.2.1 x'.2.2.2.1 x'.2.2.2.2.1 x'.2.2.2.2.2))), P, L, z, w) Q
                refine r_il eMd_numeralOf_79 rfl ?_
                refine r_iret eMd_numeralOf_81 rfl ?_
                first | (exfalso; omega) | (have e := s_go_f hg (show (1 : Int) ≠ 0 by omega); exact hq lo x' (Or.inr ⟨hk0, Or.inl ⟨by omega, rfl, e⟩⟩) hb') | (have e := s_go_f hg (show (2 : Int) ≠ 0 by omega); exact hq lo x' (Or.inr ⟨hk0, Or.inr ⟨by omega, Or.inl ⟨by omega, rfl, e⟩⟩⟩) hb') | exact hq _ x' (Or.inr ⟨hk0, Or.inr ⟨by omega, Or.inr ⟨by omega, rfl, hg⟩⟩⟩) hb'
            · exfalso; omega
  · refine r_iln eMd_numeralOf_7 rfl ?_
    refine r_iret eMd_numeralOf_8 rfl ?_
    exact hq lo x (Or.inl ⟨by omega, rfl, rfl⟩) hb
theorem c_Md_numeral (hM : md_sh en M T P) {x : a_Q} (ht : a_tpb (J (M + 1)) (J M 20)) (hb : a_qb (J M 20) x) {lo hi : Int} (hlo : m_in lo) (hhi : m_in hi)
    (hq : ∀ (r : Int) (x' : a_Q), s_nu (J (M + 1)) (J M 20) 0 lo hi x r x' → a_qb (J M 20) x' → Q (some (.int (m_i r))) (T, m_I (md_q J M x'.1 x'.2.1 x'.2.2.1 x'.2.2.2.1 x'.2.2.2.2.1 x'.2.2.2.2.2), P, L, z, w)) : m_call en (d + 6) mMd_numeral [.ref M, .int (m_i lo), .int (m_i hi)] (T, m_I (md_q J M x.1 x.2.1 x.2.2.1 x.2.2.2.1 x.2.2.2.2.1 x.2.2.2.2.2), P, L, z, w) Q := by
  refine m_into (by decide) (Nat.le_of_ble_eq_true rfl) rfl ?_
  show m_wp en _ mMd_numeral 0 [some (.ref M), some (.int (m_i (lo))), some (.int (m_i (hi)))] [] (T, m_I ((md_q J M x.1 x.2.1 x.2.2.1 x.2.2.2.1 x.2.2.2.2.1 x.2.2.2.2.2)), P, L, z, w) Q
  refine r_aln eMd_numeral_0 rfl ?_
  refine r_con eMd_numeral_1 ?_
  refine r_iln eMd_numeral_2 rfl ?_
  refine r_iln eMd_numeral_3 rfl ?_
  refine r_vir eMd_numeral_4 rfl rfl rfl hM.2.1 rfl rfl ?_
  refine c_Md_numeralOf hM ht hb (by omega) hlo hhi (fun r x' hn hb' => ?_)
  · show m_wp en _ mMd_numeral 7 [some (.ref M), some (.int (m_i (lo))), some (.int (m_i (hi)))] [(.int (m_i (r)))] (T, m_I (((md_q J M x'.1 x'.2.1 x'.2.2.1 x'.2.2.2.1 x'.2.2.2.2.1 x'.2.2.2.2.2))), P, L, z, w) Q
    refine r_iret eMd_numeral_7 rfl ?_
    exact hq r x' hn hb'
/-- a number is at hand; it stays -/
def s_ah (lo hi : Int) (x : a_Q) (r : Int) (x' : a_Q) : Prop := (x.2.2.2.2.1 ≠ 0 ∧ r = lo ∧ x' = x) ∨ (x.2.2.2.2.1 = 0 ∧
  ((x.2.2.1 ≠ 2 ∧ r = lo ∧ x' = (x.1, x.2.1, x.2.2.1, x.2.2.2.1, 1, x.2.1)) ∨ (x.2.2.1 = 2 ∧ (((x.2.2.2.1 < lo ∨ hi < x.2.2.2.1) ∧ r = lo ∧ x' = (x.1, x.2.1, x.2.2.1, x.2.2.2.1, 2, x.2.1)) ∨ (¬ (x.2.2.2.1 < lo ∨ hi < x.2.2.2.1) ∧ r = x.2.2.2.1 ∧ x' = x)))))
theorem c_Md_atHand (hM : md_sh en M T P) {x : a_Q} (hb : a_qb (J M 20) x) {lo hi : Int} (hlo : m_in lo) (hhi : m_in hi)
    (hq : ∀ (r : Int) (x' : a_Q), s_ah lo hi x r x' → a_qb (J M 20) x' → Q (some (.int (m_i r))) (T, m_I (md_q J M x'.1 x'.2.1 x'.2.2.1 x'.2.2.2.1 x'.2.2.2.2.1 x'.2.2.2.2.2), P, L, z, w)) : m_call en (d + 2) mMd_atHand [.ref M, .int (m_i lo), .int (m_i hi)] (T, m_I (md_q J M x.1 x.2.1 x.2.2.1 x.2.2.2.1 x.2.2.2.2.1 x.2.2.2.2.2), P, L, z, w) Q := by
  unfold m_in at hlo hhi
  have hk : 0 ≤ x.2.2.2.2.1 ∧ x.2.2.2.2.1 ≤ 3 := hb.2.2.2.2.1
  have hs := hb.2.2.1
  have hv : -2147483648 ≤ x.2.2.2.1 ∧ x.2.2.2.1 < 2147483648 := hb.2.2.2.1
  refine m_into (by decide) (Nat.le_of_ble_eq_true rfl) rfl ?_
  show m_wp en _ mMd_atHand 0 [some (.ref M), some (.int (m_i (lo))), some (.int (m_i (hi)))] [] (T, m_I ((md_q J M x.1 x.2.1 x.2.2.1 x.2.2.2.1 x.2.2.2.2.1 x.2.2.2.2.2)), P, L, z, w) Q
  refine r_aln eMd_atHand_0 rfl ?_
  refine r_gete (x := x.2.2.2.2.1) eMd_atHand_1 rfl (by decide) hM.2.1 (by simp [m_up, md_q, md_put_at, m_fl]) ?_
  refine r_zeq (tgt := 9) eMd_atHand_4 rfl ⟨(by omega), (by omega)⟩ (fun c4 => ?_) (fun c4 => ?_)
  · have hk0 : x.2.2.2.2.1 = 0 := by omega
    refine r_aln eMd_atHand_9 rfl ?_
    refine r_gete (x := x.2.2.1) eMd_atHand_10 rfl (by decide) hM.2.1 (by simp [m_up, md_q, md_put_at, m_fl]) ?_
    refine r_con eMd_atHand_13 ?_
    refine r_ceq (tgt := 25) eMd_atHand_14 rfl ⟨(by omega), (by omega)⟩ ⟨(by omega), (by omega)⟩ (fun c14 => ?_) (fun c14 => ?_)
    · refine r_aln eMd_atHand_25 rfl ?_
      refine r_gete (x := x.2.2.2.1) eMd_atHand_26 rfl (by decide) hM.2.1 (by simp [m_up, md_q, md_put_at, m_fl]) ?_
      refine r_iln eMd_atHand_29 rfl ?_
      refine r_clt (tgt := 41) eMd_atHand_30 rfl ⟨(by omega), (by omega)⟩ ⟨(by omega), (by omega)⟩ (fun c30 => ?_) (fun c30 => ?_)
      · refine r_aln eMd_atHand_41 rfl ?_
        refine r_con eMd_atHand_42 ?_
        refine r_vir eMd_atHand_43 rfl rfl rfl hM.2.1 rfl rfl ?_
        refine c_Md_wrong hM (by omega) ?_
        · rw [if_pos hk0, if_pos hk0]
          have hqw := a_qb_w hb (y := 2) (by omega)
          show m_wp en _ mMd_atHand 46 [some (.ref M), some (.int (m_i (lo))), some (.int (m_i (hi)))] [] (T, m_I (((md_q J M x.1 x.2.1 x.2.2.1 x.2.2.2.1 2 x.2.1))), P, L, z, w) Q
          refine r_aln eMd_atHand_46 rfl ?_
          refine r_gete (x := 2) eMd_atHand_47 rfl (by decide) hM.2.1 (by simp [m_up, md_q, md_put_at, m_fl]) ?_
          refine r_zne (tgt := 60) eMd_atHand_50 rfl ⟨(by omega), (by omega)⟩ (fun c50 => ?_) (fun c50 => ?_)
          · refine r_iln eMd_atHand_60 rfl ?_
            refine r_iret eMd_atHand_61 rfl ?_
            first | (exfalso; omega) | exact hq lo (x.1, x.2.1, x.2.2.1, x.2.2.2.1, 1, x.2.1) (Or.inr ⟨hk0, Or.inl ⟨by omega, rfl, rfl⟩⟩) hqw | exact hq lo (x.1, x.2.1, x.2.2.1, x.2.2.2.1, 2, x.2.1) (Or.inr ⟨hk0, Or.inr ⟨by omega, Or.inl ⟨by omega, rfl, rfl⟩⟩⟩) hqw | exact hq _ x (Or.inr ⟨hk0, Or.inr ⟨by omega, Or.inr ⟨by omega, rfl, rfl⟩⟩⟩) hb
          · exfalso; omega
      · refine r_aln eMd_atHand_33 rfl ?_
        refine r_gete (x := x.2.2.2.1) eMd_atHand_34 rfl (by decide) hM.2.1 (by simp [m_up, md_q, md_put_at, m_fl]) ?_
        refine r_iln eMd_atHand_37 rfl ?_
        refine r_cle (tgt := 46) eMd_atHand_38 rfl ⟨(by omega), (by omega)⟩ ⟨(by omega), (by omega)⟩ (fun c38 => ?_) (fun c38 => ?_)
        · refine r_aln eMd_atHand_46 rfl ?_
          refine r_gete (x := x.2.2.2.2.1) eMd_atHand_47 rfl (by decide) hM.2.1 (by simp [m_up, md_q, md_put_at, m_fl]) ?_
          refine r_zne (tgt := 60) eMd_atHand_50 rfl ⟨(by omega), (by omega)⟩ (fun c50 => ?_) (fun c50 => ?_)
          · refine r_iln eMd_atHand_60 rfl ?_
            refine r_iret eMd_atHand_61 rfl ?_
            first | (exfalso; omega) | exact hq lo (x.1, x.2.1, x.2.2.1, x.2.2.2.1, 1, x.2.1) (Or.inr ⟨hk0, Or.inl ⟨by omega, rfl, rfl⟩⟩) hqw | exact hq lo (x.1, x.2.1, x.2.2.1, x.2.2.2.1, 2, x.2.1) (Or.inr ⟨hk0, Or.inr ⟨by omega, Or.inl ⟨by omega, rfl, rfl⟩⟩⟩) hqw | exact hq _ x (Or.inr ⟨hk0, Or.inr ⟨by omega, Or.inr ⟨by omega, rfl, rfl⟩⟩⟩) hb
          · refine r_aln eMd_atHand_53 rfl ?_
            refine r_gete (x := x.2.2.2.1) eMd_atHand_54 rfl (by decide) hM.2.1 (by simp [m_up, md_q, md_put_at, m_fl]) ?_
            refine r_go (tgt := 61) eMd_atHand_57 rfl ?_
            refine r_iret eMd_atHand_61 rfl ?_
            first | (exfalso; omega) | exact hq lo (x.1, x.2.1, x.2.2.1, x.2.2.2.1, 1, x.2.1) (Or.inr ⟨hk0, Or.inl ⟨by omega, rfl, rfl⟩⟩) hqw | exact hq lo (x.1, x.2.1, x.2.2.1, x.2.2.2.1, 2, x.2.1) (Or.inr ⟨hk0, Or.inr ⟨by omega, Or.inl ⟨by omega, rfl, rfl⟩⟩⟩) hqw | exact hq _ x (Or.inr ⟨hk0, Or.inr ⟨by omega, Or.inr ⟨by omega, rfl, rfl⟩⟩⟩) hb
        · refine r_aln eMd_atHand_41 rfl ?_
          refine r_con eMd_atHand_42 ?_
          refine r_vir eMd_atHand_43 rfl rfl rfl hM.2.1 rfl rfl ?_
          refine c_Md_wrong hM (by omega) ?_
          · rw [if_pos hk0, if_pos hk0]
            have hqw := a_qb_w hb (y := 2) (by omega)
            show m_wp en _ mMd_atHand 46 [some (.ref M), some (.int (m_i (lo))), some (.int (m_i (hi)))] [] (T, m_I (((md_q J M x.1 x.2.1 x.2.2.1 x.2.2.2.1 2 x.2.1))), P, L, z, w) Q
            refine r_aln eMd_atHand_46 rfl ?_
            refine r_gete (x := 2) eMd_atHand_47 rfl (by decide) hM.2.1 (by simp [m_up, md_q, md_put_at, m_fl]) ?_
            refine r_zne (tgt := 60) eMd_atHand_50 rfl ⟨(by omega), (by omega)⟩ (fun c50 => ?_) (fun c50 => ?_)
            · refine r_iln eMd_atHand_60 rfl ?_
              refine r_iret eMd_atHand_61 rfl ?_
              first | (exfalso; omega) | exact hq lo (x.1, x.2.1, x.2.2.1, x.2.2.2.1, 1, x.2.1) (Or.inr ⟨hk0, Or.inl ⟨by omega, rfl, rfl⟩⟩) hqw | exact hq lo (x.1, x.2.1, x.2.2.1, x.2.2.2.1, 2, x.2.1) (Or.inr ⟨hk0, Or.inr ⟨by omega, Or.inl ⟨by omega, rfl, rfl⟩⟩⟩) hqw | exact hq _ x (Or.inr ⟨hk0, Or.inr ⟨by omega, Or.inr ⟨by omega, rfl, rfl⟩⟩⟩) hb
            · exfalso; omega
    · refine r_aln eMd_atHand_17 rfl ?_
      refine r_con eMd_atHand_18 ?_
      refine r_vir eMd_atHand_19 rfl rfl rfl hM.2.1 rfl rfl ?_
      refine c_Md_wrong hM (by omega) ?_
      · rw [if_pos hk0, if_pos hk0]
        have hqw := a_qb_w hb (y := 1) (by omega)
        show m_wp en _ mMd_atHand 22 [some (.ref M), some (.int (m_i (lo))), some (.int (m_i (hi)))] [] (T, m_I (((md_q J M x.1 x.2.1 x.2.2.1 x.2.2.2.1 1 x.2.1))), P, L, z, w) Q
        refine r_go (tgt := 46) eMd_atHand_22 rfl ?_
        refine r_aln eMd_atHand_46 rfl ?_
        refine r_gete (x := 1) eMd_atHand_47 rfl (by decide) hM.2.1 (by simp [m_up, md_q, md_put_at, m_fl]) ?_
        refine r_zne (tgt := 60) eMd_atHand_50 rfl ⟨(by omega), (by omega)⟩ (fun c50 => ?_) (fun c50 => ?_)
        · refine r_iln eMd_atHand_60 rfl ?_
          refine r_iret eMd_atHand_61 rfl ?_
          first | (exfalso; omega) | exact hq lo (x.1, x.2.1, x.2.2.1, x.2.2.2.1, 1, x.2.1) (Or.inr ⟨hk0, Or.inl ⟨by omega, rfl, rfl⟩⟩) hqw | exact hq lo (x.1, x.2.1, x.2.2.1, x.2.2.2.1, 2, x.2.1) (Or.inr ⟨hk0, Or.inr ⟨by omega, Or.inl ⟨by omega, rfl, rfl⟩⟩⟩) hqw | exact hq _ x (Or.inr ⟨hk0, Or.inr ⟨by omega, Or.inr ⟨by omega, rfl, rfl⟩⟩⟩) hb
        · exfalso; omega
  · refine r_iln eMd_atHand_7 rfl ?_
    refine r_iret eMd_atHand_8 rfl ?_
    exact hq lo x (Or.inl ⟨by omega, rfl, rfl⟩) hb
theorem c_Md_reading (hM : md_sh en M T P) {y : Int} (hy : 0 ≤ y ∧ y < 13) (hq : Q (some (.int (m_i (J (M + 2) (13 + y).toNat)))) (T, m_I (md_q J M a p s v k g), P, L, z, w)) : m_call en (d + 1) mMd_reading [.ref M, .int (m_i y)] (T, m_I (md_q J M a p s v k g), P, L, z, w) Q := by
  refine m_into (by decide) (Nat.le_of_ble_eq_true rfl) rfl ?_
  show m_wp en _ mMd_reading 0 [some (.ref M), some (.int (m_i (y)))] [] (T, m_I ((md_q J M a p s v k g)), P, L, z, w) Q
  refine r_aln eMd_reading_0 rfl ?_
  refine m_getR eMd_reading_1 rfl hM.2.1 (md_number_p hM) ?_
  refine r_bip eMd_reading_4 (by decide) ?_
  refine r_iln eMd_reading_6 rfl ?_
  refine r_add eMd_reading_7 ?_
  refine r_ialde (x := J (M + 2) (((13) + (y)).toNat)) eMd_reading_8 (md_number_t hM) (by decide) (by omega) (by omega) (by simp [m_up, md_put_at, m_fl, md_q]) ?_
  refine r_iret eMd_reading_9 rfl ?_
  exact hq
theorem c_Md_reads (hM : md_sh en M T P) {y u : Int} (hy : 0 ≤ y ∧ y < 13) (hq : Q none (T, m_I (md_q (m_up J (M + 2) (13 + y).toNat u) M a p s v k g), P, L, z, w)) : m_call en (d + 1) mMd_reads [.ref M, .int (m_i y), .int (m_i u)] (T, m_I (md_q J M a p s v k g), P, L, z, w) Q := by
  refine m_into (by decide) (Nat.le_of_ble_eq_true rfl) rfl ?_
  show m_wp en _ mMd_reads 0 [some (.ref M), some (.int (m_i (y))), some (.int (m_i (u)))] [] (T, m_I ((md_q J M a p s v k g)), P, L, z, w) Q
  refine r_aln eMd_reads_0 rfl ?_
  refine m_getR eMd_reads_1 rfl hM.2.1 (md_number_p hM) ?_
  refine r_bip eMd_reads_4 (by decide) ?_
  refine r_iln eMd_reads_6 rfl ?_
  refine r_add eMd_reads_7 ?_
  refine r_iln eMd_reads_8 rfl ?_
  refine r_iast eMd_reads_9 (md_number_t hM) (by decide) (by omega) (by omega) (md_b hM 2) ?_
  rw [q_up (by omega)]
  refine r_ret eMd_reads_10 rfl ?_
  exact hq
/-- a line that is told once -/
def s_on (J : Nat → Nat → Int) (M : Nat) (y : Int) (x x' : a_Q) : Prop := s_go (J (M + 1)) (J M 20) (if J (M + 3) y.toNat ≠ 0 ∧ x.2.2.2.2.1 = 0 then (x.1, x.2.1, x.2.2.1, x.2.2.2.1, 3, x.2.1) else x) x'
theorem c_Md_once (hM : md_sh en M T P) {x : a_Q} (ht : a_tpb (J (M + 1)) (J M 20)) (hb : a_qb (J M 20) x) {y : Int} (hy : 0 ≤ y ∧ y < 18) (hz : J (M + 3) y.toNat = 0 ∨ J (M + 3) y.toNat = 1)
    (hq : ∀ (x' : a_Q), s_on J M y x x' → a_qb (J M 20) x' → Q none (T, m_I (md_q (m_up J (M + 3) y.toNat 1) M x'.1 x'.2.1 x'.2.2.1 x'.2.2.2.1 x'.2.2.2.2.1 x'.2.2.2.2.2), P, L, z, w)) : m_call en (d + 5) mMd_once [.ref M, .int (m_i y)] (T, m_I (md_q J M x.1 x.2.1 x.2.2.1 x.2.2.2.1 x.2.2.2.2.1 x.2.2.2.2.2), P, L, z, w) Q := by
  have hk : 0 ≤ x.2.2.2.2.1 ∧ x.2.2.2.2.1 ≤ 3 := hb.2.2.2.2.1
  have e1 : m_up J (M + 3) y.toNat 1 (M + 1) = J (M + 1) := funext (fun i => by rw [m_up_at, if_neg (by omega)])
  have e20 : m_up J (M + 3) y.toNat 1 M 20 = J M 20 := by rw [m_up_at, if_neg (by omega)]
  have ht2 : a_tpb (m_up J (M + 3) y.toNat 1 (M + 1)) (m_up J (M + 3) y.toNat 1 M 20) := by rw [e1, e20]; exact ht
  have hb0 : a_qb (m_up J (M + 3) y.toNat 1 M 20) (x.1, x.2.1, x.2.2.1, x.2.2.2.1, x.2.2.2.2.1, x.2.2.2.2.2) := by rw [e20]; exact hb
  have hbw : a_qb (m_up J (M + 3) y.toNat 1 M 20) (x.1, x.2.1, x.2.2.1, x.2.2.2.1, (if x.2.2.2.2.1 = 0 then 3 else x.2.2.2.2.1), (if x.2.2.2.2.1 = 0 then x.2.1 else x.2.2.2.2.2)) := by
    rw [e20]
    by_cases q : x.2.2.2.2.1 = 0
    · rw [if_pos q, if_pos q]; exact a_qb_w hb (by omega)
    · rw [if_neg q, if_neg q]; exact hb
  refine m_into (by decide) (Nat.le_of_ble_eq_true rfl) rfl ?_
  show m_wp en _ mMd_once 0 [some (.ref M), some (.int (m_i (y)))] [] (T, m_I ((md_q J M x.1 x.2.1 x.2.2.1 x.2.2.2.1 x.2.2.2.2.1 x.2.2.2.2.2)), P, L, z, w) Q
  refine r_aln eMd_once_0 rfl ?_
  refine m_getR eMd_once_1 rfl hM.2.1 (md_isTold_p hM) ?_
  refine r_iln eMd_once_4 rfl ?_
  refine r_balde (x := J (M + 3) ((y).toNat)) eMd_once_5 (md_isTold_t hM) (by decide) (by decide) (by omega) (by omega) (by simp [m_up, md_put_at, m_fl, md_q]) ?_
  refine r_zeq (tgt := 14) eMd_once_6 rfl ⟨(by omega), (by omega)⟩ (fun c6 => ?_) (fun c6 => ?_)
  · refine r_aln eMd_once_14 rfl ?_
    refine m_getR eMd_once_15 rfl hM.2.1 (md_isTold_p hM) ?_
    refine r_iln eMd_once_18 rfl ?_
    refine r_con eMd_once_19 ?_
    refine r_zast eMd_once_20 (md_isTold_t hM) (by decide) (by omega) (by omega) (md_b hM 3) (by first | exact Or.inl rfl | exact Or.inr rfl | omega) ?_
    rw [q_up (by omega)]
    refine r_aln eMd_once_21 rfl ?_
    refine r_vir eMd_once_22 rfl rfl rfl hM.2.1 rfl rfl ?_
    refine c_Md_goOn hM ht2 (by assumption) (fun x' hg hb' => ?_)
    · show m_wp en _ mMd_once 25 [some (.ref M), some (.int (m_i (y)))] [] (T, m_I (((md_q (m_up J (M + 3) y.toNat 1) M x'.1 x'.2.1 x'.2.2.1 x'.2.2.2.1 x'.2.2.2.2.1 x'.2.2.2.2.2))), P, L, z, w) Q
      refine r_ret eMd_once_25 rfl ?_
      rw [e1, e20] at hg
      rw [e20] at hb'
      refine hq x' ?_ hb'
      unfold s_on
      first | (rw [if_neg (fun q => q.1 (by omega))]; exact hg) | (by_cases q : x.2.2.2.2.1 = 0; (rw [if_pos ⟨by omega, q⟩]; rw [if_pos q, if_pos q] at hg; exact hg); (rw [if_neg (fun z => q z.2)]; rw [if_neg q, if_neg q] at hg; exact hg))
  · refine r_aln eMd_once_9 rfl ?_
    refine r_con eMd_once_10 ?_
    refine r_vir eMd_once_11 rfl rfl rfl hM.2.1 rfl rfl ?_
    refine c_Md_wrong hM (by omega) ?_
    · show m_wp en _ mMd_once 14 [some (.ref M), some (.int (m_i (y)))] [] (T, m_I (((md_q J M x.1 x.2.1 x.2.2.1 x.2.2.2.1 (if x.2.2.2.2.1 = 0 then 3 else x.2.2.2.2.1) (if x.2.2.2.2.1 = 0 then x.2.1 else x.2.2.2.2.2)))), P, L, z, w) Q
      refine r_aln eMd_once_14 rfl ?_
      refine m_getR eMd_once_15 rfl hM.2.1 (md_isTold_p hM) ?_
      refine r_iln eMd_once_18 rfl ?_
      refine r_con eMd_once_19 ?_
      refine r_zast eMd_once_20 (md_isTold_t hM) (by decide) (by omega) (by omega) (md_b hM 3) (by first | exact Or.inl rfl | exact Or.inr rfl | omega) ?_
      rw [q_up (by omega)]
      refine r_aln eMd_once_21 rfl ?_
      refine r_vir eMd_once_22 rfl rfl rfl hM.2.1 rfl rfl ?_
      refine c_Md_goOn hM ht2 (by assumption) (fun x' hg hb' => ?_)
      · show m_wp en _ mMd_once 25 [some (.ref M), some (.int (m_i (y)))] [] (T, m_I (((md_q (m_up J (M + 3) y.toNat 1) M x'.1 x'.2.1 x'.2.2.1 x'.2.2.2.1 x'.2.2.2.2.1 x'.2.2.2.2.2))), P, L, z, w) Q
        refine r_ret eMd_once_25 rfl ?_
        rw [e1, e20] at hg
        rw [e20] at hb'
        refine hq x' ?_ hb'
        unfold s_on
        first | (rw [if_neg (fun q => q.1 (by omega))]; exact hg) | (by_cases q : x.2.2.2.2.1 = 0; (rw [if_pos ⟨by omega, q⟩]; rw [if_pos q, if_pos q] at hg; exact hg); (rw [if_neg (fun z => q z.2)]; rw [if_neg q, if_neg q] at hg; exact hg))
end MDNU
