/-! a whole text is read -/
/-- what a line's word bids -/
def s_bd (J : Nat → Nat → Int) (M : Nat) (its : Int) (x : a_Q) (J1 : Nat → Nat → Int) (x1 : a_Q) : Prop := if its = 0 then s_ra J M 0 4 16 x J1 x1 else if its = 1 then s_ra J M 1 2 6 x J1 x1 else if its = 2 then s_ra J M 2 1 2 x J1 x1 else if its = 3 then s_ra J M 3 1 4 x J1 x1 else if its = 4 then s_bl J M x J1 x1 else if its = 5 then s_sq J M x J1 x1 else if its = 6 then s_sr J M x J1 x1 else if its = 7 then s_wi J M x J1 x1 else if its = 8 then s_do J M x J1 x1 else if its = 9 then s_pi J M x J1 x1 else if its = 10 then s_jb J M x J1 x1 else if its = 11 then s_se J M x J1 x1 else (J1 = J ∧ x1 = a_wr true 1 x)
def a_its (x : a_Q) : Int := if x.2.2.1 = 0 then x.2.2.2.1 else 12
/-- a line is read -/
def s_ln (J : Nat → Nat → Int) (M : Nat) (x : a_Q) (J' : Nat → Nat → Int) (x' : a_Q) : Prop := ∃ J1 x1, s_bd J M (a_its x) x J1 x1 ∧ s_go (J (M + 1)) (J M 20) (a_wr (decide (x1.2.2.1 ≠ 4)) 1 x1) x' ∧ J' = m_up (if 4 ≤ a_its x ∧ a_its x ≤ 10 then m_up J1 M 18 1 else J1) M 19 (J1 M 19 + 1)
section MDRT
variable {en : Nat → Nat} {d : Nat} {T : Nat → Option (Nat × Nat)} {J J0 J1 B : Nat → Nat → Int} {P : Nat → Nat → Option Nat} {L : Nat → Nat → Int64} {z w M : Nat} {Q : m_Q} {σ : a_S} {a p s v k g : Int}
theorem u_Md_goOn (hM : md_sh en M T P) {f : Nat → Int} {n : Int} (e1 : B (M + 1) = f) (e2 : B M 20 = n) {x : a_Q} (ht : a_tpb f n) (hb : a_qb n x)
    (hq : ∀ x' : a_Q, s_go f n x x' → a_qb n x' → Q none (T, m_I (md_q B M x'.1 x'.2.1 x'.2.2.1 x'.2.2.2.1 x'.2.2.2.2.1 x'.2.2.2.2.2), P, L, z, w)) : m_call en (d + 4) mMd_goOn [.ref M] (T, m_I (md_q B M x.1 x.2.1 x.2.2.1 x.2.2.2.1 x.2.2.2.2.1 x.2.2.2.2.2), P, L, z, w) Q := by
  subst e1 e2
  exact c_Md_goOn hM ht hb hq
theorem l_Md_readLine2 (hM : md_sh en M T P) {f : Nat → Int} {n : Int} (e1 : B (M + 1) = f) (e2 : B M 20 = n) (ht : a_tpb f n) {y : a_Q} {its : Int} (hb : a_qb n y)
    (hq : ∀ x', s_go f n y x' → a_qb n x' → Q none (T, m_I (md_q (m_up B M 19 (B M 19 + 1)) M x'.1 x'.2.1 x'.2.2.1 x'.2.2.2.1 x'.2.2.2.2.1 x'.2.2.2.2.2), P, L, z, w)) : m_wp en (d + 6) mMd_readLine 225 [some (.ref M), some (.int (m_i its))] [] (T, m_I (md_q B M y.1 y.2.1 y.2.2.1 y.2.2.2.1 y.2.2.2.2.1 y.2.2.2.2.2), P, L, z, w) Q := by
  have eb1 : ∀ (A : Nat → Nat → Int), A = B → A (M + 1) = f := fun A h => by rw [h]; exact e1
  have eb2 : ∀ (A : Nat → Nat → Int), A = B → A M 20 = n := fun A h => by rw [h]; exact e2
  have eB : B = B := rfl
  refine r_aln eMd_readLine_225 rfl ?_
  refine r_vir eMd_readLine_226 rfl rfl rfl hM.2.1 rfl rfl ?_
  refine u_Md_goOn (B := B) (x := y) hM (eb1 _ (by assumption)) (eb2 _ (by assumption)) ht (by assumption) (fun xg hg hbg => ?_)
  · show m_wp en _ mMd_readLine 229 [some (.ref M), some (.int (m_i (its)))] [] (T, m_I (((md_q B M xg.1 xg.2.1 xg.2.2.1 xg.2.2.2.1 xg.2.2.2.2.1 xg.2.2.2.2.2))), P, L, z, w) Q
    refine r_aln eMd_readLine_229 rfl ?_
    refine r_dupr eMd_readLine_230 ?_
    refine r_gete (x := B M 19) eMd_readLine_231 rfl (by decide) hM.2.1 (by simp [m_up, md_put_at, m_fl, md_q]) ?_
    refine r_con eMd_readLine_234 ?_
    refine r_add eMd_readLine_235 ?_
    refine r_put eMd_readLine_236 rfl hM.2.1 hM.1 (Or.inl rfl) ?_
    rw [q_upM (by omega)]
    refine r_ret eMd_readLine_239 rfl ?_
    exact hq xg hg hbg
theorem l_Md_readLine1 (hM : md_sh en M T P) (ht : a_tpb (J (M + 1)) (J M 20)) {x1 : a_Q} {its : Int} (hi : m_in its) (hf : dr_f J J1 M) (hd : dr_b J1 M) (hb : a_qb (J M 20) x1)
    (hq : ∀ (J' : Nat → Nat → Int) (x' : a_Q), s_go (J (M + 1)) (J M 20) (a_wr (decide (x1.2.2.1 ≠ 4)) 1 x1) x' → J' = m_up (if 4 ≤ its ∧ its ≤ 10 then m_up J1 M 18 1 else J1) M 19 (J1 M 19 + 1) → dr_b J' M → dr_f J J' M → a_qb (J M 20) x' → Q none (T, m_I (md_q J' M x'.1 x'.2.1 x'.2.2.1 x'.2.2.2.1 x'.2.2.2.2.1 x'.2.2.2.2.2), P, L, z, w)) : m_wp en (d + 6) mMd_readLine 189 [some (.ref M), some (.int (m_i its))] [] (T, m_I (md_q J1 M x1.1 x1.2.1 x1.2.2.1 x1.2.2.2.1 x1.2.2.2.2.1 x1.2.2.2.2.2), P, L, z, w) Q := by
  unfold m_in at hi
  have hk := hb.2.2.2.2.1
  have hs := hb.2.2.1
  have fin : ∀ (B : Nat → Nat → Int) (y : a_Q), B = (if 4 ≤ its ∧ its ≤ 10 then m_up J1 M 18 1 else J1) → y = a_wr (decide (x1.2.2.1 ≠ 4)) 1 x1 → a_qb (J M 20) y → m_wp en (d + 6) mMd_readLine 225 [some (.ref M), some (.int (m_i its))] [] (T, m_I (md_q B M y.1 y.2.1 y.2.2.1 y.2.2.2.1 y.2.2.2.2.1 y.2.2.2.2.2), P, L, z, w) Q := fun B y hB hy hby => by
    have hfB : dr_f J B M := by
      rw [hB]
      split
      · exact hf.up (by unfold dr_c; omega) _
      · exact hf
    have hdB : dr_b B M := by
      rw [hB]
      split
      · exact hd.f (Or.inr (Or.inr rfl))
      · exact hd
    have e19 : B M 19 = J1 M 19 := by
      rw [hB]
      split
      · rw [m_up_at, if_neg (by omega)]
      · rfl
    exact l_Md_readLine2 hM hfB.t hfB.z ht hby (fun x' g1 g2 => hq _ x' (by rw [← hy]; exact g1) (by rw [← hB, ← e19]) (hdB.f (Or.inl (by omega))) (hfB.up (by unfold dr_c; omega) _) g2)
  refine r_iln eMd_readLine_189 rfl ?_
  refine r_con eMd_readLine_190 ?_
  refine r_clt (tgt := 205) eMd_readLine_191 rfl ⟨(by omega), (by omega)⟩ ⟨(by omega), (by omega)⟩ (fun c191 => ?_) (fun c191 => ?_)
  · refine r_aln eMd_readLine_205 rfl ?_
    refine r_gete (x := x1.2.2.2.2.1) eMd_readLine_206 rfl (by decide) hM.2.1 (by simp [m_up, md_q, md_put_at, m_fl]) ?_
    refine r_zne (tgt := 225) eMd_readLine_209 rfl ⟨(by omega), (by omega)⟩ (fun c209 => ?_) (fun c209 => ?_)
    · first | exact fin _ xw (if_pos (by omega)).symm (by rw [ew, decide_eq_true (show x1.2.2.1 ≠ 4 by omega)]) (by rw [ew]; exact a_wr_b hb (by omega)) | exact fin _ xw (if_neg (by omega)).symm (by rw [ew, decide_eq_true (show x1.2.2.1 ≠ 4 by omega)]) (by rw [ew]; exact a_wr_b hb (by omega)) | exact fin _ x1 (if_pos (by omega)).symm (a_wr_n (fun q => by have := of_decide_eq_true q; omega)).symm hb | exact fin _ x1 (if_neg (by omega)).symm (a_wr_n (fun q => by have := of_decide_eq_true q; omega)).symm hb | exact fin _ x1 (if_pos (by omega)).symm (show x1 = a_wr _ 1 x1 from (if_neg (fun q => by have := q.2; omega)).symm) hb | exact fin _ x1 (if_neg (by omega)).symm (show x1 = a_wr _ 1 x1 from (if_neg (fun q => by have := q.2; omega)).symm) hb
    · refine r_aln eMd_readLine_212 rfl ?_
      refine r_gete (x := x1.2.2.1) eMd_readLine_213 rfl (by decide) hM.2.1 (by simp [m_up, md_q, md_put_at, m_fl]) ?_
      refine r_con eMd_readLine_216 ?_
      refine r_ceq (tgt := 225) eMd_readLine_217 rfl ⟨(by omega), (by omega)⟩ ⟨(by omega), (by omega)⟩ (fun c217 => ?_) (fun c217 => ?_)
      · first | exact fin _ xw (if_pos (by omega)).symm (by rw [ew, decide_eq_true (show x1.2.2.1 ≠ 4 by omega)]) (by rw [ew]; exact a_wr_b hb (by omega)) | exact fin _ xw (if_neg (by omega)).symm (by rw [ew, decide_eq_true (show x1.2.2.1 ≠ 4 by omega)]) (by rw [ew]; exact a_wr_b hb (by omega)) | exact fin _ x1 (if_pos (by omega)).symm (a_wr_n (fun q => by have := of_decide_eq_true q; omega)).symm hb | exact fin _ x1 (if_neg (by omega)).symm (a_wr_n (fun q => by have := of_decide_eq_true q; omega)).symm hb | exact fin _ x1 (if_pos (by omega)).symm (show x1 = a_wr _ 1 x1 from (if_neg (fun q => by have := q.2; omega)).symm) hb | exact fin _ x1 (if_neg (by omega)).symm (show x1 = a_wr _ 1 x1 from (if_neg (fun q => by have := q.2; omega)).symm) hb
      · refine r_aln eMd_readLine_220 rfl ?_
        refine r_con eMd_readLine_221 ?_
        refine r_vir eMd_readLine_222 rfl rfl rfl hM.2.1 rfl rfl ?_
        refine t_Md_wrong (J := J1) (x := x1) hM (by omega) (fun xw ew => ?_)
        · show m_wp en _ mMd_readLine 225 [some (.ref M), some (.int (m_i (its)))] [] (T, m_I (((md_q J1 M xw.1 xw.2.1 xw.2.2.1 xw.2.2.2.1 xw.2.2.2.2.1 xw.2.2.2.2.2))), P, L, z, w) Q
          first | exact fin _ xw (if_pos (by omega)).symm (by rw [ew, decide_eq_true (show x1.2.2.1 ≠ 4 by omega)]) (by rw [ew]; exact a_wr_b hb (by omega)) | exact fin _ xw (if_neg (by omega)).symm (by rw [ew, decide_eq_true (show x1.2.2.1 ≠ 4 by omega)]) (by rw [ew]; exact a_wr_b hb (by omega)) | exact fin _ x1 (if_pos (by omega)).symm (a_wr_n (fun q => by have := of_decide_eq_true q; omega)).symm hb | exact fin _ x1 (if_neg (by omega)).symm (a_wr_n (fun q => by have := of_decide_eq_true q; omega)).symm hb | exact fin _ x1 (if_pos (by omega)).symm (show x1 = a_wr _ 1 x1 from (if_neg (fun q => by have := q.2; omega)).symm) hb | exact fin _ x1 (if_neg (by omega)).symm (show x1 = a_wr _ 1 x1 from (if_neg (fun q => by have := q.2; omega)).symm) hb
  · refine r_iln eMd_readLine_194 rfl ?_
    refine r_bip eMd_readLine_195 (by decide) ?_
    refine r_cgt (tgt := 205) eMd_readLine_197 rfl ⟨(by omega), (by omega)⟩ ⟨(by omega), (by omega)⟩ (fun c197 => ?_) (fun c197 => ?_)
    · refine r_aln eMd_readLine_205 rfl ?_
      refine r_gete (x := x1.2.2.2.2.1) eMd_readLine_206 rfl (by decide) hM.2.1 (by simp [m_up, md_q, md_put_at, m_fl]) ?_
      refine r_zne (tgt := 225) eMd_readLine_209 rfl ⟨(by omega), (by omega)⟩ (fun c209 => ?_) (fun c209 => ?_)
      · first | exact fin _ xw (if_pos (by omega)).symm (by rw [ew, decide_eq_true (show x1.2.2.1 ≠ 4 by omega)]) (by rw [ew]; exact a_wr_b hb (by omega)) | exact fin _ xw (if_neg (by omega)).symm (by rw [ew, decide_eq_true (show x1.2.2.1 ≠ 4 by omega)]) (by rw [ew]; exact a_wr_b hb (by omega)) | exact fin _ x1 (if_pos (by omega)).symm (a_wr_n (fun q => by have := of_decide_eq_true q; omega)).symm hb | exact fin _ x1 (if_neg (by omega)).symm (a_wr_n (fun q => by have := of_decide_eq_true q; omega)).symm hb | exact fin _ x1 (if_pos (by omega)).symm (show x1 = a_wr _ 1 x1 from (if_neg (fun q => by have := q.2; omega)).symm) hb | exact fin _ x1 (if_neg (by omega)).symm (show x1 = a_wr _ 1 x1 from (if_neg (fun q => by have := q.2; omega)).symm) hb
      · refine r_aln eMd_readLine_212 rfl ?_
        refine r_gete (x := x1.2.2.1) eMd_readLine_213 rfl (by decide) hM.2.1 (by simp [m_up, md_q, md_put_at, m_fl]) ?_
        refine r_con eMd_readLine_216 ?_
        refine r_ceq (tgt := 225) eMd_readLine_217 rfl ⟨(by omega), (by omega)⟩ ⟨(by omega), (by omega)⟩ (fun c217 => ?_) (fun c217 => ?_)
        · first | exact fin _ xw (if_pos (by omega)).symm (by rw [ew, decide_eq_true (show x1.2.2.1 ≠ 4 by omega)]) (by rw [ew]; exact a_wr_b hb (by omega)) | exact fin _ xw (if_neg (by omega)).symm (by rw [ew, decide_eq_true (show x1.2.2.1 ≠ 4 by omega)]) (by rw [ew]; exact a_wr_b hb (by omega)) | exact fin _ x1 (if_pos (by omega)).symm (a_wr_n (fun q => by have := of_decide_eq_true q; omega)).symm hb | exact fin _ x1 (if_neg (by omega)).symm (a_wr_n (fun q => by have := of_decide_eq_true q; omega)).symm hb | exact fin _ x1 (if_pos (by omega)).symm (show x1 = a_wr _ 1 x1 from (if_neg (fun q => by have := q.2; omega)).symm) hb | exact fin _ x1 (if_neg (by omega)).symm (show x1 = a_wr _ 1 x1 from (if_neg (fun q => by have := q.2; omega)).symm) hb
        · refine r_aln eMd_readLine_220 rfl ?_
          refine r_con eMd_readLine_221 ?_
          refine r_vir eMd_readLine_222 rfl rfl rfl hM.2.1 rfl rfl ?_
          refine t_Md_wrong (J := J1) (x := x1) hM (by omega) (fun xw ew => ?_)
          · show m_wp en _ mMd_readLine 225 [some (.ref M), some (.int (m_i (its)))] [] (T, m_I (((md_q J1 M xw.1 xw.2.1 xw.2.2.1 xw.2.2.2.1 xw.2.2.2.2.1 xw.2.2.2.2.2))), P, L, z, w) Q
            first | exact fin _ xw (if_pos (by omega)).symm (by rw [ew, decide_eq_true (show x1.2.2.1 ≠ 4 by omega)]) (by rw [ew]; exact a_wr_b hb (by omega)) | exact fin _ xw (if_neg (by omega)).symm (by rw [ew, decide_eq_true (show x1.2.2.1 ≠ 4 by omega)]) (by rw [ew]; exact a_wr_b hb (by omega)) | exact fin _ x1 (if_pos (by omega)).symm (a_wr_n (fun q => by have := of_decide_eq_true q; omega)).symm hb | exact fin _ x1 (if_neg (by omega)).symm (a_wr_n (fun q => by have := of_decide_eq_true q; omega)).symm hb | exact fin _ x1 (if_pos (by omega)).symm (show x1 = a_wr _ 1 x1 from (if_neg (fun q => by have := q.2; omega)).symm) hb | exact fin _ x1 (if_neg (by omega)).symm (show x1 = a_wr _ 1 x1 from (if_neg (fun q => by have := q.2; omega)).symm) hb
    · refine r_aln eMd_readLine_200 rfl ?_
      refine r_con eMd_readLine_201 ?_
      refine r_puz eMd_readLine_202 rfl hM.2.1 hM.1 (Or.inl rfl) (by first | exact Or.inl rfl | exact Or.inr rfl | omega) ?_
      rw [q_upM (by omega)]
      refine r_aln eMd_readLine_205 rfl ?_
      refine r_gete (x := x1.2.2.2.2.1) eMd_readLine_206 rfl (by decide) hM.2.1 (by simp [m_up, md_q, md_put_at, m_fl]) ?_
      refine r_zne (tgt := 225) eMd_readLine_209 rfl ⟨(by omega), (by omega)⟩ (fun c209 => ?_) (fun c209 => ?_)
      · first | exact fin _ xw (if_pos (by omega)).symm (by rw [ew, decide_eq_true (show x1.2.2.1 ≠ 4 by omega)]) (by rw [ew]; exact a_wr_b hb (by omega)) | exact fin _ xw (if_neg (by omega)).symm (by rw [ew, decide_eq_true (show x1.2.2.1 ≠ 4 by omega)]) (by rw [ew]; exact a_wr_b hb (by omega)) | exact fin _ x1 (if_pos (by omega)).symm (a_wr_n (fun q => by have := of_decide_eq_true q; omega)).symm hb | exact fin _ x1 (if_neg (by omega)).symm (a_wr_n (fun q => by have := of_decide_eq_true q; omega)).symm hb | exact fin _ x1 (if_pos (by omega)).symm (show x1 = a_wr _ 1 x1 from (if_neg (fun q => by have := q.2; omega)).symm) hb | exact fin _ x1 (if_neg (by omega)).symm (show x1 = a_wr _ 1 x1 from (if_neg (fun q => by have := q.2; omega)).symm) hb
      · refine r_aln eMd_readLine_212 rfl ?_
        refine r_gete (x := x1.2.2.1) eMd_readLine_213 rfl (by decide) hM.2.1 (by simp [m_up, md_q, md_put_at, m_fl]) ?_
        refine r_con eMd_readLine_216 ?_
        refine r_ceq (tgt := 225) eMd_readLine_217 rfl ⟨(by omega), (by omega)⟩ ⟨(by omega), (by omega)⟩ (fun c217 => ?_) (fun c217 => ?_)
        · first | exact fin _ xw (if_pos (by omega)).symm (by rw [ew, decide_eq_true (show x1.2.2.1 ≠ 4 by omega)]) (by rw [ew]; exact a_wr_b hb (by omega)) | exact fin _ xw (if_neg (by omega)).symm (by rw [ew, decide_eq_true (show x1.2.2.1 ≠ 4 by omega)]) (by rw [ew]; exact a_wr_b hb (by omega)) | exact fin _ x1 (if_pos (by omega)).symm (a_wr_n (fun q => by have := of_decide_eq_true q; omega)).symm hb | exact fin _ x1 (if_neg (by omega)).symm (a_wr_n (fun q => by have := of_decide_eq_true q; omega)).symm hb | exact fin _ x1 (if_pos (by omega)).symm (show x1 = a_wr _ 1 x1 from (if_neg (fun q => by have := q.2; omega)).symm) hb | exact fin _ x1 (if_neg (by omega)).symm (show x1 = a_wr _ 1 x1 from (if_neg (fun q => by have := q.2; omega)).symm) hb
        · refine r_aln eMd_readLine_220 rfl ?_
          refine r_con eMd_readLine_221 ?_
          refine r_vir eMd_readLine_222 rfl rfl rfl hM.2.1 rfl rfl ?_
          refine t_Md_wrong (J := (m_up J1 M 18 1)) (x := x1) hM (by omega) (fun xw ew => ?_)
          · show m_wp en _ mMd_readLine 225 [some (.ref M), some (.int (m_i (its)))] [] (T, m_I (((md_q (m_up J1 M 18 1) M xw.1 xw.2.1 xw.2.2.1 xw.2.2.2.1 xw.2.2.2.2.1 xw.2.2.2.2.2))), P, L, z, w) Q
            first | exact fin _ xw (if_pos (by omega)).symm (by rw [ew, decide_eq_true (show x1.2.2.1 ≠ 4 by omega)]) (by rw [ew]; exact a_wr_b hb (by omega)) | exact fin _ xw (if_neg (by omega)).symm (by rw [ew, decide_eq_true (show x1.2.2.1 ≠ 4 by omega)]) (by rw [ew]; exact a_wr_b hb (by omega)) | exact fin _ x1 (if_pos (by omega)).symm (a_wr_n (fun q => by have := of_decide_eq_true q; omega)).symm hb | exact fin _ x1 (if_neg (by omega)).symm (a_wr_n (fun q => by have := of_decide_eq_true q; omega)).symm hb | exact fin _ x1 (if_pos (by omega)).symm (show x1 = a_wr _ 1 x1 from (if_neg (fun q => by have := q.2; omega)).symm) hb | exact fin _ x1 (if_neg (by omega)).symm (show x1 = a_wr _ 1 x1 from (if_neg (fun q => by have := q.2; omega)).symm) hb
theorem c_Md_readLine (hM : md_sh en M T P) {x : a_Q} (ht : a_tpb (J (M + 1)) (J M 20)) (hb : a_qb (J M 20) x) (hd : dr_b J M)
    (hq : ∀ (J' : Nat → Nat → Int) (x' : a_Q), s_ln J M x J' x' → dr_b J' M → dr_f J J' M → a_qb (J M 20) x' → Q none (T, m_I (md_q J' M x'.1 x'.2.1 x'.2.2.1 x'.2.2.2.1 x'.2.2.2.2.1 x'.2.2.2.2.2), P, L, z, w)) : m_call en (d + 8) mMd_readLine [.ref M] (T, m_I (md_q J M x.1 x.2.1 x.2.2.1 x.2.2.2.1 x.2.2.2.2.1 x.2.2.2.2.2), P, L, z, w) Q := by
  have hk := hb.2.2.2.2.1
  have hs := hb.2.2.1
  have hv : -2147483648 ≤ x.2.2.2.1 ∧ x.2.2.2.1 < 2147483648 := hb.2.2.2.1
  have fin : ∀ (its : Int) (J1 : Nat → Nat → Int) (x1 : a_Q), its = a_its x → m_in its → s_bd J M its x J1 x1 → dr_b J1 M → dr_f J J1 M → a_qb (J M 20) x1 → m_wp en (d + 7) mMd_readLine 189 [some (.ref M), some (.int (m_i its))] [] (T, m_I (md_q J1 M x1.1 x1.2.1 x1.2.2.1 x1.2.2.2.1 x1.2.2.2.2.1 x1.2.2.2.2.2), P, L, z, w) Q := fun its J1 x1 ei hi h1 h2 h3 h4 =>
    l_Md_readLine1 (d := d + 1) hM ht hi h3 h2 h4 (fun J' x' g1 g2 g3 g4 g5 => hq J' x' ⟨J1, x1, by rw [← ei]; exact h1, g1, by rw [← ei]; exact g2⟩ g3 g4 g5)
  have go : ∀ its : Int, its = a_its x → (-2147483648 ≤ its ∧ its < 2147483648) → m_wp en (d + 7) mMd_readLine 17 [some (.ref M), some (.int (m_i its))] [] (T, m_I (md_q J M x.1 x.2.1 x.2.2.1 x.2.2.2.1 x.2.2.2.2.1 x.2.2.2.2.2), P, L, z, w) Q := fun its ei hi => by
    have fin2 := fin its
    unfold s_bd at fin2
    refine r_iln eMd_readLine_17 rfl ?_
    refine r_zne (tgt := 33) eMd_readLine_18 rfl ⟨(by omega), (by omega)⟩ (fun c18 => ?_) (fun c18 => ?_)
    · refine r_iln eMd_readLine_33 rfl ?_
      refine r_con eMd_readLine_34 ?_
      refine r_cne (tgt := 50) eMd_readLine_35 rfl ⟨(by omega), (by omega)⟩ ⟨(by omega), (by omega)⟩ (fun c35 => ?_) (fun c35 => ?_)
      · refine r_iln eMd_readLine_50 rfl ?_
        refine r_con eMd_readLine_51 ?_
        refine r_cne (tgt := 66) eMd_readLine_52 rfl ⟨(by omega), (by omega)⟩ ⟨(by omega), (by omega)⟩ (fun c52 => ?_) (fun c52 => ?_)
        · refine r_iln eMd_readLine_66 rfl ?_
          refine r_con eMd_readLine_67 ?_
          refine r_cne (tgt := 82) eMd_readLine_68 rfl ⟨(by omega), (by omega)⟩ ⟨(by omega), (by omega)⟩ (fun c68 => ?_) (fun c68 => ?_)
          · refine r_iln eMd_readLine_82 rfl ?_
            refine r_con eMd_readLine_83 ?_
            refine r_cne (tgt := 94) eMd_readLine_84 rfl ⟨(by omega), (by omega)⟩ ⟨(by omega), (by omega)⟩ (fun c84 => ?_) (fun c84 => ?_)
            · refine r_iln eMd_readLine_94 rfl ?_
              refine r_con eMd_readLine_95 ?_
              refine r_cne (tgt := 106) eMd_readLine_96 rfl ⟨(by omega), (by omega)⟩ ⟨(by omega), (by omega)⟩ (fun c96 => ?_) (fun c96 => ?_)
              · refine r_iln eMd_readLine_106 rfl ?_
                refine r_bip eMd_readLine_107 (by decide) ?_
                refine r_cne (tgt := 119) eMd_readLine_109 rfl ⟨(by omega), (by omega)⟩ ⟨(by omega), (by omega)⟩ (fun c109 => ?_) (fun c109 => ?_)
                · refine r_iln eMd_readLine_119 rfl ?_
                  refine r_bip eMd_readLine_120 (by decide) ?_
                  refine r_cne (tgt := 132) eMd_readLine_122 rfl ⟨(by omega), (by omega)⟩ ⟨(by omega), (by omega)⟩ (fun c122 => ?_) (fun c122 => ?_)
                  · refine r_iln eMd_readLine_132 rfl ?_
                    refine r_bip eMd_readLine_133 (by decide) ?_
                    refine r_cne (tgt := 145) eMd_readLine_135 rfl ⟨(by omega), (by omega)⟩ ⟨(by omega), (by omega)⟩ (fun c135 => ?_) (fun c135 => ?_)
                    · refine r_iln eMd_readLine_145 rfl ?_
                      refine r_bip eMd_readLine_146 (by decide) ?_
                      refine r_cne (tgt := 158) eMd_readLine_148 rfl ⟨(by omega), (by omega)⟩ ⟨(by omega), (by omega)⟩ (fun c148 => ?_) (fun c148 => ?_)
                      · refine r_iln eMd_readLine_158 rfl ?_
                        refine r_bip eMd_readLine_159 (by decide) ?_
                        refine r_cne (tgt := 171) eMd_readLine_161 rfl ⟨(by omega), (by omega)⟩ ⟨(by omega), (by omega)⟩ (fun c161 => ?_) (fun c161 => ?_)
                        · refine r_iln eMd_readLine_171 rfl ?_
                          refine r_bip eMd_readLine_172 (by decide) ?_
                          refine r_cne (tgt := 184) eMd_readLine_174 rfl ⟨(by omega), (by omega)⟩ ⟨(by omega), (by omega)⟩ (fun c174 => ?_) (fun c174 => ?_)
                          · refine r_aln eMd_readLine_184 rfl ?_
                            refine r_con eMd_readLine_185 ?_
                            refine r_vir eMd_readLine_186 rfl rfl rfl hM.2.1 rfl rfl ?_
                            refine t_Md_wrong (J := J) (x := x) hM (by omega) (fun xw ew => ?_)
                            · show m_wp en _ mMd_readLine 189 [some (.ref M), some (.int (m_i (its)))] [] (T, m_I (((md_q J M xw.1 xw.2.1 xw.2.2.1 xw.2.2.2.1 xw.2.2.2.2.1 xw.2.2.2.2.2))), P, L, z, w) Q
                              first | (refine fin2 Jn xn ei hi ?_ h2 h3 h4; (repeat (first | rw [if_pos (by omega)] | rw [if_neg (by omega)])); exact h1) | (refine fin2 J xw ei hi ?_ hd (dr_f.refl J M) (by rw [ew]; exact a_wr_b hb (by omega)); (repeat rw [if_neg (by omega)]); exact ⟨rfl, ew⟩)
                          · refine r_aln eMd_readLine_177 rfl ?_
                            refine r_vir eMd_readLine_178 rfl rfl rfl hM.2.1 rfl rfl ?_
                            refine c_Md_readSeed hM ht hb hd (fun Jn xn h1 h2 h3 h4 => ?_)
                            · show m_wp en _ mMd_readLine 181 [some (.ref M), some (.int (m_i (its)))] [] (T, m_I (((md_q Jn M xn.1 xn.2.1 xn.2.2.1 xn.2.2.2.1 xn.2.2.2.2.1 xn.2.2.2.2.2))), P, L, z, w) Q
                              refine r_go (tgt := 189) eMd_readLine_181 rfl ?_
                              first | (refine fin2 Jn xn ei hi ?_ h2 h3 h4; (repeat (first | rw [if_pos (by omega)] | rw [if_neg (by omega)])); exact h1) | (refine fin2 J xw ei hi ?_ hd (dr_f.refl J M) (by rw [ew]; exact a_wr_b hb (by omega)); (repeat rw [if_neg (by omega)]); exact ⟨rfl, ew⟩)
                        · refine r_aln eMd_readLine_164 rfl ?_
                          refine r_vir eMd_readLine_165 rfl rfl rfl hM.2.1 rfl rfl ?_
                          refine c_Md_readJob hM ht hb hd (fun Jn xn h1 h2 h3 h4 => ?_)
                          · show m_wp en _ mMd_readLine 168 [some (.ref M), some (.int (m_i (its)))] [] (T, m_I (((md_q Jn M xn.1 xn.2.1 xn.2.2.1 xn.2.2.2.1 xn.2.2.2.2.1 xn.2.2.2.2.2))), P, L, z, w) Q
                            refine r_go (tgt := 189) eMd_readLine_168 rfl ?_
                            first | (refine fin2 Jn xn ei hi ?_ h2 h3 h4; (repeat (first | rw [if_pos (by omega)] | rw [if_neg (by omega)])); exact h1) | (refine fin2 J xw ei hi ?_ hd (dr_f.refl J M) (by rw [ew]; exact a_wr_b hb (by omega)); (repeat rw [if_neg (by omega)]); exact ⟨rfl, ew⟩)
                      · refine r_aln eMd_readLine_151 rfl ?_
                        refine r_vir eMd_readLine_152 rfl rfl rfl hM.2.1 rfl rfl ?_
                        refine c_Md_readPile hM ht hb hd (fun Jn xn h1 h2 h3 h4 => ?_)
                        · show m_wp en _ mMd_readLine 155 [some (.ref M), some (.int (m_i (its)))] [] (T, m_I (((md_q Jn M xn.1 xn.2.1 xn.2.2.1 xn.2.2.2.1 xn.2.2.2.2.1 xn.2.2.2.2.2))), P, L, z, w) Q
                          refine r_go (tgt := 189) eMd_readLine_155 rfl ?_
                          first | (refine fin2 Jn xn ei hi ?_ h2 h3 h4; (repeat (first | rw [if_pos (by omega)] | rw [if_neg (by omega)])); exact h1) | (refine fin2 J xw ei hi ?_ hd (dr_f.refl J M) (by rw [ew]; exact a_wr_b hb (by omega)); (repeat rw [if_neg (by omega)]); exact ⟨rfl, ew⟩)
                    · refine r_aln eMd_readLine_138 rfl ?_
                      refine r_vir eMd_readLine_139 rfl rfl rfl hM.2.1 rfl rfl ?_
                      refine c_Md_readDo hM ht hb hd (fun Jn xn h1 h2 h3 h4 => ?_)
                      · show m_wp en _ mMd_readLine 142 [some (.ref M), some (.int (m_i (its)))] [] (T, m_I (((md_q Jn M xn.1 xn.2.1 xn.2.2.1 xn.2.2.2.1 xn.2.2.2.2.1 xn.2.2.2.2.2))), P, L, z, w) Q
                        refine r_go (tgt := 189) eMd_readLine_142 rfl ?_
                        first | (refine fin2 Jn xn ei hi ?_ h2 h3 h4; (repeat (first | rw [if_pos (by omega)] | rw [if_neg (by omega)])); exact h1) | (refine fin2 J xw ei hi ?_ hd (dr_f.refl J M) (by rw [ew]; exact a_wr_b hb (by omega)); (repeat rw [if_neg (by omega)]); exact ⟨rfl, ew⟩)
                  · refine r_aln eMd_readLine_125 rfl ?_
                    refine r_vir eMd_readLine_126 rfl rfl rfl hM.2.1 rfl rfl ?_
                    refine c_Md_readWind hM ht hb hd (fun Jn xn h1 h2 h3 h4 => ?_)
                    · show m_wp en _ mMd_readLine 129 [some (.ref M), some (.int (m_i (its)))] [] (T, m_I (((md_q Jn M xn.1 xn.2.1 xn.2.2.1 xn.2.2.2.1 xn.2.2.2.2.1 xn.2.2.2.2.2))), P, L, z, w) Q
                      refine r_go (tgt := 189) eMd_readLine_129 rfl ?_
                      first | (refine fin2 Jn xn ei hi ?_ h2 h3 h4; (repeat (first | rw [if_pos (by omega)] | rw [if_neg (by omega)])); exact h1) | (refine fin2 J xw ei hi ?_ hd (dr_f.refl J M) (by rw [ew]; exact a_wr_b hb (by omega)); (repeat rw [if_neg (by omega)]); exact ⟨rfl, ew⟩)
                · refine r_aln eMd_readLine_112 rfl ?_
                  refine r_vir eMd_readLine_113 rfl rfl rfl hM.2.1 rfl rfl ?_
                  refine c_Md_readStart hM ht hb hd (fun Jn xn h1 h2 h3 h4 => ?_)
                  · show m_wp en _ mMd_readLine 116 [some (.ref M), some (.int (m_i (its)))] [] (T, m_I (((md_q Jn M xn.1 xn.2.1 xn.2.2.1 xn.2.2.2.1 xn.2.2.2.2.1 xn.2.2.2.2.2))), P, L, z, w) Q
                    refine r_go (tgt := 189) eMd_readLine_116 rfl ?_
                    first | (refine fin2 Jn xn ei hi ?_ h2 h3 h4; (repeat (first | rw [if_pos (by omega)] | rw [if_neg (by omega)])); exact h1) | (refine fin2 J xw ei hi ?_ hd (dr_f.refl J M) (by rw [ew]; exact a_wr_b hb (by omega)); (repeat rw [if_neg (by omega)]); exact ⟨rfl, ew⟩)
              · refine r_aln eMd_readLine_99 rfl ?_
                refine r_vir eMd_readLine_100 rfl rfl rfl hM.2.1 rfl rfl ?_
                refine c_Md_readSpot hM ht hb hd (fun Jn xn h1 h2 h3 h4 => ?_)
                · show m_wp en _ mMd_readLine 103 [some (.ref M), some (.int (m_i (its)))] [] (T, m_I (((md_q Jn M xn.1 xn.2.1 xn.2.2.1 xn.2.2.2.1 xn.2.2.2.2.1 xn.2.2.2.2.2))), P, L, z, w) Q
                  refine r_go (tgt := 189) eMd_readLine_103 rfl ?_
                  first | (refine fin2 Jn xn ei hi ?_ h2 h3 h4; (repeat (first | rw [if_pos (by omega)] | rw [if_neg (by omega)])); exact h1) | (refine fin2 J xw ei hi ?_ hd (dr_f.refl J M) (by rw [ew]; exact a_wr_b hb (by omega)); (repeat rw [if_neg (by omega)]); exact ⟨rfl, ew⟩)
            · refine r_aln eMd_readLine_87 rfl ?_
              refine r_vir eMd_readLine_88 rfl rfl rfl hM.2.1 rfl rfl ?_
              refine c_Md_readBlock hM ht hb hd (fun Jn xn h1 h2 h3 h4 => ?_)
              · show m_wp en _ mMd_readLine 91 [some (.ref M), some (.int (m_i (its)))] [] (T, m_I (((md_q Jn M xn.1 xn.2.1 xn.2.2.1 xn.2.2.2.1 xn.2.2.2.2.1 xn.2.2.2.2.2))), P, L, z, w) Q
                refine r_go (tgt := 189) eMd_readLine_91 rfl ?_
                first | (refine fin2 Jn xn ei hi ?_ h2 h3 h4; (repeat (first | rw [if_pos (by omega)] | rw [if_neg (by omega)])); exact h1) | (refine fin2 J xw ei hi ?_ hd (dr_f.refl J M) (by rw [ew]; exact a_wr_b hb (by omega)); (repeat rw [if_neg (by omega)]); exact ⟨rfl, ew⟩)
          · refine r_aln eMd_readLine_71 rfl ?_
            refine r_con eMd_readLine_72 ?_
            refine r_con eMd_readLine_73 ?_
            refine r_con eMd_readLine_74 ?_
            refine r_con eMd_readLine_75 ?_
            refine r_vir eMd_readLine_76 rfl rfl rfl hM.2.1 rfl rfl ?_
            refine c_Md_readAhead (wd := 3) hM ht hb hd (by omega) rfl rfl (by omega) (fun Jn xn h1 h2 h3 h4 => ?_)
            · show m_wp en _ mMd_readLine 79 [some (.ref M), some (.int (m_i (its)))] [] (T, m_I (((md_q Jn M xn.1 xn.2.1 xn.2.2.1 xn.2.2.2.1 xn.2.2.2.2.1 xn.2.2.2.2.2))), P, L, z, w) Q
              refine r_go (tgt := 189) eMd_readLine_79 rfl ?_
              first | (refine fin2 Jn xn ei hi ?_ h2 h3 h4; (repeat (first | rw [if_pos (by omega)] | rw [if_neg (by omega)])); exact h1) | (refine fin2 J xw ei hi ?_ hd (dr_f.refl J M) (by rw [ew]; exact a_wr_b hb (by omega)); (repeat rw [if_neg (by omega)]); exact ⟨rfl, ew⟩)
        · refine r_aln eMd_readLine_55 rfl ?_
          refine r_con eMd_readLine_56 ?_
          refine r_con eMd_readLine_57 ?_
          refine r_con eMd_readLine_58 ?_
          refine r_con eMd_readLine_59 ?_
          refine r_vir eMd_readLine_60 rfl rfl rfl hM.2.1 rfl rfl ?_
          refine c_Md_readAhead (wd := 2) hM ht hb hd (by omega) rfl rfl (by omega) (fun Jn xn h1 h2 h3 h4 => ?_)
          · show m_wp en _ mMd_readLine 63 [some (.ref M), some (.int (m_i (its)))] [] (T, m_I (((md_q Jn M xn.1 xn.2.1 xn.2.2.1 xn.2.2.2.1 xn.2.2.2.2.1 xn.2.2.2.2.2))), P, L, z, w) Q
            refine r_go (tgt := 189) eMd_readLine_63 rfl ?_
            first | (refine fin2 Jn xn ei hi ?_ h2 h3 h4; (repeat (first | rw [if_pos (by omega)] | rw [if_neg (by omega)])); exact h1) | (refine fin2 J xw ei hi ?_ hd (dr_f.refl J M) (by rw [ew]; exact a_wr_b hb (by omega)); (repeat rw [if_neg (by omega)]); exact ⟨rfl, ew⟩)
      · refine r_aln eMd_readLine_38 rfl ?_
        refine r_con eMd_readLine_39 ?_
        refine r_con eMd_readLine_40 ?_
        refine r_con eMd_readLine_41 ?_
        refine r_bip eMd_readLine_42 (by decide) ?_
        refine r_vir eMd_readLine_44 rfl rfl rfl hM.2.1 rfl rfl ?_
        refine c_Md_readAhead (wd := 1) hM ht hb hd (by omega) rfl rfl (by omega) (fun Jn xn h1 h2 h3 h4 => ?_)
        · show m_wp en _ mMd_readLine 47 [some (.ref M), some (.int (m_i (its)))] [] (T, m_I (((md_q Jn M xn.1 xn.2.1 xn.2.2.1 xn.2.2.2.1 xn.2.2.2.2.1 xn.2.2.2.2.2))), P, L, z, w) Q
          refine r_go (tgt := 189) eMd_readLine_47 rfl ?_
          first | (refine fin2 Jn xn ei hi ?_ h2 h3 h4; (repeat (first | rw [if_pos (by omega)] | rw [if_neg (by omega)])); exact h1) | (refine fin2 J xw ei hi ?_ hd (dr_f.refl J M) (by rw [ew]; exact a_wr_b hb (by omega)); (repeat rw [if_neg (by omega)]); exact ⟨rfl, ew⟩)
    · refine r_aln eMd_readLine_21 rfl ?_
      refine r_con eMd_readLine_22 ?_
      refine r_con eMd_readLine_23 ?_
      refine r_con eMd_readLine_24 ?_
      refine r_bip eMd_readLine_25 (by decide) ?_
      refine r_vir eMd_readLine_27 rfl rfl rfl hM.2.1 rfl rfl ?_
      refine c_Md_readAhead (wd := 0) hM ht hb hd (by omega) rfl rfl (by omega) (fun Jn xn h1 h2 h3 h4 => ?_)
      · show m_wp en _ mMd_readLine 30 [some (.ref M), some (.int (m_i (its)))] [] (T, m_I (((md_q Jn M xn.1 xn.2.1 xn.2.2.1 xn.2.2.2.1 xn.2.2.2.2.1 xn.2.2.2.2.2))), P, L, z, w) Q
        refine r_go (tgt := 189) eMd_readLine_30 rfl ?_
        first | (refine fin2 Jn xn ei hi ?_ h2 h3 h4; (repeat (first | rw [if_pos (by omega)] | rw [if_neg (by omega)])); exact h1) | (refine fin2 J xw ei hi ?_ hd (dr_f.refl J M) (by rw [ew]; exact a_wr_b hb (by omega)); (repeat rw [if_neg (by omega)]); exact ⟨rfl, ew⟩)
  refine m_into (by decide) (Nat.le_of_ble_eq_true rfl) rfl ?_
  show m_wp en _ mMd_readLine 0 [some (.ref M), none] [] (T, m_I ((md_q J M x.1 x.2.1 x.2.2.1 x.2.2.2.1 x.2.2.2.2.1 x.2.2.2.2.2)), P, L, z, w) Q
  refine r_aln eMd_readLine_0 rfl ?_
  refine r_gete (x := x.2.2.1) eMd_readLine_1 rfl (by decide) hM.2.1 (by simp [m_up, md_q, md_put_at, m_fl]) ?_
  refine r_zne (tgt := 14) eMd_readLine_4 rfl ⟨(by omega), (by omega)⟩ (fun c4 => ?_) (fun c4 => ?_)
  · refine r_bip eMd_readLine_14 (by decide) ?_
    refine r_isn (ls' := [some (.ref M), some (.int (m_i (12)))]) eMd_readLine_16 (Nat.le_of_ble_eq_true rfl) rfl ?_
    first | exact go _ (if_pos (by omega)).symm (by omega) | exact go _ (if_neg (by omega)).symm (by omega)
  · refine r_aln eMd_readLine_7 rfl ?_
    refine r_gete (x := x.2.2.2.1) eMd_readLine_8 rfl (by decide) hM.2.1 (by simp [m_up, md_q, md_put_at, m_fl]) ?_
    refine r_go (tgt := 16) eMd_readLine_11 rfl ?_
    refine r_isn (ls' := [some (.ref M), some (.int (m_i (x.2.2.2.1)))]) eMd_readLine_16 (Nat.le_of_ble_eq_true rfl) rfl ?_
    first | exact go _ (if_pos (by omega)).symm (by omega) | exact go _ (if_neg (by omega)).symm (by omega)
end MDRT
