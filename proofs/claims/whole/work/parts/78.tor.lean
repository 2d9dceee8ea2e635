/-! tour, stop of the reference -/
theorem md_upr_fy (J : Nat → Nat → Int) (M : Nat) {b i : Nat} (hb : b = M + 24 ∨ b = M + 25 ∨ b = M + 26) (v : Int) : md_fy J (m_up J b i v) M := fun c j _ _ a3 a4 a5 _ => by
  rw [m_up_at, if_neg (by omega)]
theorem md_inv.upr {J : Nat → Nat → Int} {M : Nat} (h : md_inv J M) {b i : Nat} (hb : b = M + 24 ∨ b = M + 25 ∨ b = M + 26) (v : Int) : md_inv (m_up J b i v) M := h.fy (md_upr_fy J M hb v) (md_kp_eq (funext (fun j => by rw [m_up_at, if_neg (by omega)])) (funext (fun j => by rw [m_up_at, if_neg (by omega)])) (by rw [m_up_at, if_neg (by omega)]) (by rw [m_up_at, if_neg (by omega)]) (by rw [m_up_at, if_neg (by omega)]) (md_upr_fy J M hb v).cf h.hkp)
/-- the table of steps: from now to a spot, from spot to spot -/
def s_t6 (J : Nat → Nat → Int) (M : Nat) (t v : Int) : Prop := ∃ r, s_few (md_cf J M) (md_sp J M t) 0 (J (M + 22) 0) r ∧ (0 ≤ v ∧ v ≤ 30000) ∧ v = if r = -2 then 30000 else r
def s_tf (J : Nat → Nat → Int) (M : Nat) (f t v : Int) : Prop := (0 ≤ v ∧ v ≤ 30000) ∧ (a_why (md_cf J M) (a_of (J (M + 22) 0)) = 0 → (md_sp J M f = md_sp J M t ∧ v = 0) ∨ (md_sp J M f ≠ md_sp J M t ∧ ¬ a_is (md_cf J M) (a_of (md_sp J M f)) = true ∧ v = 30000) ∨ (md_sp J M f ≠ md_sp J M t ∧ a_is (md_cf J M) (a_of (md_sp J M f)) = true ∧ ∃ r, s_ans (md_cf J M) (md_sp J M t) 0 (md_sp J M f) r ∧ v = if r = -2 then 30000 else r))
def s_tb (J : Nat → Nat → Int) (M : Nat) (tb : Nat → Int) (k : Int) : Prop := ∀ t : Int, 0 ≤ t → t < k → s_t6 J M t (tb (36 + t).toNat) ∧ ∀ f : Int, 0 ≤ f → f < J (M + 2) 4 → s_tf J M f t (tb (6 * f + t).toNat)
section MDTR
variable {en : Nat → Nat} {d : Nat} {T : Nat → Option (Nat × Nat)} {J J0 J1 : Nat → Nat → Int} {P : Nat → Nat → Option Nat} {L : Nat → Nat → Int64} {z w M : Nat} {Q : m_Q} {σ : a_S}
theorem g_Md_spotState {H : Nat → Nat → Int} (hM : md_sh en M T P) {x : Int} (e : md_sp H M x = md_sp J M x) (hx : 0 ≤ x ∧ x < 12) (hq : Q (some (.int (m_i (md_sp J M x)))) (T, m_I H, P, L, z, w)) : m_call en (d + 3) mMd_spotState [.ref M, .int (m_i x)] (T, m_I H, P, L, z, w) Q := by
  rw [← e] at hq
  exact c_Md_spotState hM hx hq
theorem md_sp_put (J : Nat → Nat → Int) (M : Nat) (σ : a_S) (x : Int) : md_sp (md_put J M σ) M x = md_sp J M x := by
  unfold md_sp
  rw [md_put_o J M σ (by omega), md_put_o J M σ (by omega)]
theorem l_Md_lt1 (hM : md_sh en M T P) (hsb : md_sb J M) {n its : Int} {to : Int} {F0 : Nat → Int} (hn : J (M + 2) 4 = n) (hto : 0 ≤ to ∧ to < n) (hFb : ∀ i : Nat, i < 38880 → 0 ≤ F0 i ∧ F0 i ≤ 30000) (hFa : a_why (md_cf J M) (a_of (J (M + 22) 0)) = 0 → ∀ x : Int, 0 ≤ x ∧ x < 38880 → s_ans (md_cf J M) (md_sp J M to) 0 x (if F0 x.toNat = 30000 then -2 else F0 x.toNat))
    (hk : ∀ (J3 : Nat → Nat → Int) (o4 o5 : Option Value), md_fy J J3 M → md_inv J3 M → s_tb J M (J3 (M + 24)) (to + 1) → m_wp en (d + 8) mMd_laysTour 9 [some (.ref M), some (.int (m_i n)), some (.int (m_i (to + 1))), some (.int (m_i its)), o4, o5] [] (T, m_I J3, P, L, z, w) Q) :
    ∀ (m : Nat) (k : Int) (J3 : Nat → Nat → Int) (o5 : Option Value), k + m = n → 0 ≤ k → md_fy J J3 M → md_inv J3 M → J3 (M + 20) = F0 → s_tb J M (J3 (M + 24)) to → s_t6 J M to (J3 (M + 24) (36 + to).toNat) → (∀ f : Int, 0 ≤ f → f < k → s_tf J M f to (J3 (M + 24) (6 * f + to).toNat)) →
      m_wp en (d + 8) mMd_laysTour 50 [some (.ref M), some (.int (m_i n)), some (.int (m_i to)), some (.int (m_i its)), some (.int (m_i k)), o5] [] (T, m_I J3, P, L, z, w) Q := by
  have hn6 : 0 ≤ n ∧ n ≤ 6 := by rw [← hn]; exact hsb.1
  intro m
  induction m with
  | zero =>
    intro k J3 o5 hkm h0 hfy hinv hF htb h6 hf
    refine r_il eMd_laysTour_50 rfl ?_
    refine r_iln eMd_laysTour_52 rfl ?_
    refine r_cge (tgt := 148) eMd_laysTour_53 rfl ⟨(by omega), (by omega)⟩ ⟨(by omega), (by omega)⟩ (fun c53 => ?_) (fun c53 => ?_)
    · refine r_inc (ls' := [some (.ref M), some (.int (m_i (n))), some (.int (m_i (to + 1))), some (.int (m_i (its))), some (.int (m_i (k))), o5]) eMd_laysTour_148 rfl rfl ?_
      refine r_go (tgt := 9) eMd_laysTour_151 rfl ?_
      refine hk J3 _ _ hfy hinv (fun t t0 t1 => ?_)
      by_cases q : t = to
      · rw [q]; exact ⟨h6, fun f f0 f1 => hf f f0 (by omega)⟩
      · exact htb t t0 (by omega)
    · exfalso; omega
  | succ m ih =>
    intro k J3 o5 hkm h0 hfy hinv hF htb h6 hf
    have esp3 := hfy.sp
    have espp : ∀ (σ : a_S) (x : Int), md_sp (md_put J3 M σ) M x = md_sp J M x := fun σ x => (md_sp_put J3 M σ x).trans (hfy.sp x)
    have bf := md_sp_bd2 hsb (x := k) (by omega)
    have bt := md_sp_bd2 hsb (x := to) (by omega)
    have hFk : J3 (M + 20) (md_sp J M k).toNat = F0 (md_sp J M k).toNat := by rw [hF]
    have hFbk := hFb (md_sp J M k).toNat (by omega)
    have hb01 := a_b_01 (a_is (md_cf J3 M) (a_of (md_sp J M k)))
    have next : ∀ (H : Nat → Nat → Int) (v : Int) (o : Option Value), md_fy J H M → md_inv H M → H (M + 20) = F0 → H (M + 24) = J3 (M + 24) → s_tf J M k to v → m_wp en (d + 8) mMd_laysTour 50 [some (.ref M), some (.int (m_i n)), some (.int (m_i to)), some (.int (m_i its)), some (.int (m_i (k + 1))), o] [] (T, m_I (m_up H (M + 24) (6 * k + to).toNat v), P, L, z, w) Q := fun H v o g1 g2 g3 g4 g5 => by
      have e24 : ∀ i, m_up H (M + 24) (6 * k + to).toNat v (M + 24) i = if i = (6 * k + to).toNat then v else J3 (M + 24) i := fun i => by
        rw [m_up_at, g4]
        by_cases q : i = (6 * k + to).toNat
        · rw [if_pos ⟨rfl, q⟩, if_pos q]
        · rw [if_neg (fun z => q z.2), if_neg q]
      refine ih (k + 1) _ o (by omega) (by omega) (g1.trans (md_upr_fy H M (Or.inl rfl) v)) (g2.upr (Or.inl rfl) v) ?_ (fun t t0 t1 => ⟨?_, fun f f0 f1 => ?_⟩) ?_ (fun f f0 f1 => ?_)
      · rw [← g3]
        exact funext (fun i => by rw [m_up_at, if_neg (by omega)])
      · rw [e24, if_neg (by omega)]; exact (htb t t0 t1).1
      · rw [e24, if_neg (by omega)]; exact (htb t t0 t1).2 f f0 f1
      · rw [e24, if_neg (by omega)]; exact h6
      · rw [e24]
        by_cases q : f = k
        · rw [if_pos (by rw [q]), q]; exact g5
        · rw [if_neg (by omega)]; exact hf f f0 (by omega)
    have pf : ∀ σ : a_S, md_fy J (md_put J3 M σ) M := fun σ => hfy.trans ((md_fx.refl J3 M).put σ).fy
    have pF : ∀ σ : a_S, md_put J3 M σ (M + 20) = F0 := fun σ => (md_put_r J3 M σ (by omega)).trans hF
    have p24 : ∀ σ : a_S, md_put J3 M σ (M + 24) = J3 (M + 24) := fun σ => md_put_r J3 M σ (by omega)
    have nos : a_b (a_is (md_cf J3 M) (a_of (md_sp J M k))) = 0 → ¬ a_is (md_cf J M) (a_of (md_sp J M k)) = true := fun q q2 => by rw [hfy.cf, a_b_t q2] at q; omega
    have yes : ¬ a_b (a_is (md_cf J3 M) (a_of (md_sp J M k))) = 0 → a_is (md_cf J M) (a_of (md_sp J M k)) = true := fun q => by rw [hfy.cf] at q; exact Classical.byContradiction (fun q2 => q (a_b_f q2))
    refine r_il eMd_laysTour_50 rfl ?_
    refine r_iln eMd_laysTour_52 rfl ?_
    refine r_cge (tgt := 148) eMd_laysTour_53 rfl ⟨(by omega), (by omega)⟩ ⟨(by omega), (by omega)⟩ (fun c53 => ?_) (fun c53 => ?_)
    · exfalso; omega
    · refine r_aln eMd_laysTour_56 rfl ?_
      refine r_il eMd_laysTour_57 rfl ?_
      refine r_vir eMd_laysTour_59 rfl rfl rfl hM.2.1 rfl rfl ?_
      refine g_Md_spotState (J := J) hM (by simp only [esp3, espp]) (by omega) ?_
      show m_wp en _ mMd_laysTour 62 [some (.ref M), some (.int (m_i (n))), some (.int (m_i (to))), some (.int (m_i (its))), some (.int (m_i (k))), o5] [(.int (m_i (md_sp J M (k))))] (T, m_I J3, P, L, z, w) Q
      refine r_aln eMd_laysTour_62 rfl ?_
      refine r_iln eMd_laysTour_63 rfl ?_
      refine r_vir eMd_laysTour_64 rfl rfl rfl hM.2.1 rfl rfl ?_
      refine g_Md_spotState (J := J) hM (by simp only [esp3, espp]) (by omega) ?_
      show m_wp en _ mMd_laysTour 67 [some (.ref M), some (.int (m_i (n))), some (.int (m_i (to))), some (.int (m_i (its))), some (.int (m_i (k))), o5] [(.int (m_i (md_sp J M (to)))), (.int (m_i (md_sp J M (k))))] (T, m_I J3, P, L, z, w) Q
      refine r_ceq (tgt := 83) eMd_laysTour_67 rfl ⟨(by omega), (by omega)⟩ ⟨(by omega), (by omega)⟩ (fun c67 => ?_) (fun c67 => ?_)
      · refine r_con eMd_laysTour_83 ?_
        refine r_go (tgt := 88) eMd_laysTour_84 rfl ?_
        refine r_is (ls' := [some (.ref M), some (.int (m_i (n))), some (.int (m_i (to))), some (.int (m_i (its))), some (.int (m_i (k))), some (.int (m_i (1)))]) eMd_laysTour_88 (Nat.le_of_ble_eq_true rfl) rfl ?_
        refine r_aln eMd_laysTour_90 rfl ?_
        refine m_getR eMd_laysTour_91 rfl hM.2.1 (md_steps2_p hM) ?_
        refine r_bip eMd_laysTour_94 (by decide) ?_
        refine r_il eMd_laysTour_96 rfl ?_
        refine r_mul eMd_laysTour_98 ?_
        refine r_iln eMd_laysTour_99 rfl ?_
        refine r_add eMd_laysTour_100 ?_
        refine r_aln eMd_laysTour_101 rfl ?_
        refine r_il eMd_laysTour_102 rfl ?_
        refine r_vir eMd_laysTour_104 rfl rfl rfl hM.2.1 rfl rfl ?_
        refine g_Md_spotState (J := J) hM (by simp only [esp3, espp]) (by omega) ?_
        show m_wp en _ mMd_laysTour 107 [some (.ref M), some (.int (m_i (n))), some (.int (m_i (to))), some (.int (m_i (its))), some (.int (m_i (k))), some (.int (m_i (1)))] [(.int (m_i (md_sp J M (k)))), (.int (m_i (((6) * (k)) + (to)))), (.ref (M + 24))] (T, m_I J3, P, L, z, w) Q
        refine r_aln eMd_laysTour_107 rfl ?_
        refine r_iln eMd_laysTour_108 rfl ?_
        refine r_vir eMd_laysTour_109 rfl rfl rfl hM.2.1 rfl rfl ?_
        refine g_Md_spotState (J := J) hM (by simp only [esp3, espp]) (by omega) ?_
        show m_wp en _ mMd_laysTour 112 [some (.ref M), some (.int (m_i (n))), some (.int (m_i (to))), some (.int (m_i (its))), some (.int (m_i (k))), some (.int (m_i (1)))] [(.int (m_i (md_sp J M (to)))), (.int (m_i (md_sp J M (k)))), (.int (m_i (((6) * (k)) + (to)))), (.ref (M + 24))] (T, m_I J3, P, L, z, w) Q
        refine r_cne (tgt := 119) eMd_laysTour_112 rfl ⟨(by omega), (by omega)⟩ ⟨(by omega), (by omega)⟩ (fun c112 => ?_) (fun c112 => ?_)
        · refine r_il eMd_laysTour_119 rfl ?_
          refine r_zeq (tgt := 138) eMd_laysTour_121 rfl ⟨(by omega), (by omega)⟩ (fun c121 => ?_) (fun c121 => ?_)
          · exfalso; omega
          · refine r_aln eMd_laysTour_124 rfl ?_
            refine m_getR eMd_laysTour_125 rfl hM.2.1 (md_far_p hM) ?_
            refine r_aln eMd_laysTour_128 rfl ?_
            refine r_il eMd_laysTour_129 rfl ?_
            refine r_vir eMd_laysTour_131 rfl rfl rfl hM.2.1 rfl rfl ?_
            refine g_Md_spotState (J := J) hM (by simp only [esp3, espp]) (by omega) ?_
            show m_wp en _ mMd_laysTour 134 [some (.ref M), some (.int (m_i (n))), some (.int (m_i (to))), some (.int (m_i (its))), some (.int (m_i (k))), some (.int (m_i (1)))] [(.int (m_i (md_sp J M (k)))), (.ref (M + 20)), (.int (m_i (((6) * (k)) + (to)))), (.ref (M + 24))] (T, m_I J3, P, L, z, w) Q
            refine r_salde (x := J3 (M + 20) ((md_sp J M (k)).toNat)) eMd_laysTour_134 (md_far_t hM) (by decide) (by omega) (by omega) rfl ?_
            refine r_go (tgt := 141) eMd_laysTour_135 rfl ?_
            refine r_iast eMd_laysTour_141 (md_steps2_t hM) (by decide) (by omega) (by omega) (md_b hM 24) ?_
            refine r_inc (ls' := [some (.ref M), some (.int (m_i (n))), some (.int (m_i (to))), some (.int (m_i (its))), some (.int (m_i (k + 1))), some (.int (m_i (1)))]) eMd_laysTour_142 rfl rfl ?_
            refine r_go (tgt := 50) eMd_laysTour_145 rfl ?_
            first | (exfalso; omega) | exact next _ _ _ hfy hinv hF rfl ⟨by omega, fun _ => Or.inl ⟨by omega, rfl⟩⟩ | exact next _ _ _ (pf _) (hinv.put _) (pF _) (p24 _) ⟨by omega, fun _ => Or.inr (Or.inl ⟨by omega, nos (by omega), rfl⟩)⟩ | exact next _ _ _ (pf _) (hinv.put _) (pF _) (p24 _) ⟨by omega, fun hy => Or.inr (Or.inr ⟨by omega, yes (by omega), _, hFa hy _ bf, by rw [hFk]; split <;> omega⟩)⟩
        · refine r_con eMd_laysTour_115 ?_
          refine r_go (tgt := 141) eMd_laysTour_116 rfl ?_
          refine r_iast eMd_laysTour_141 (md_steps2_t hM) (by decide) (by omega) (by omega) (md_b hM 24) ?_
          refine r_inc (ls' := [some (.ref M), some (.int (m_i (n))), some (.int (m_i (to))), some (.int (m_i (its))), some (.int (m_i (k + 1))), some (.int (m_i (1)))]) eMd_laysTour_142 rfl rfl ?_
          refine r_go (tgt := 50) eMd_laysTour_145 rfl ?_
          first | (exfalso; omega) | exact next _ _ _ hfy hinv hF rfl ⟨by omega, fun _ => Or.inl ⟨by omega, rfl⟩⟩ | exact next _ _ _ (pf _) (hinv.put _) (pF _) (p24 _) ⟨by omega, fun _ => Or.inr (Or.inl ⟨by omega, nos (by omega), rfl⟩)⟩ | exact next _ _ _ (pf _) (hinv.put _) (pF _) (p24 _) ⟨by omega, fun hy => Or.inr (Or.inr ⟨by omega, yes (by omega), _, hFa hy _ bf, by rw [hFk]; split <;> omega⟩)⟩
      · refine r_aln eMd_laysTour_70 rfl ?_
        refine r_aln eMd_laysTour_71 rfl ?_
        refine r_il eMd_laysTour_72 rfl ?_
        refine r_vir eMd_laysTour_74 rfl rfl rfl hM.2.1 rfl rfl ?_
        refine g_Md_spotState (J := J) hM (by simp only [esp3, espp]) (by omega) ?_
        show m_wp en _ mMd_laysTour 77 [some (.ref M), some (.int (m_i (n))), some (.int (m_i (to))), some (.int (m_i (its))), some (.int (m_i (k))), o5] [(.int (m_i (md_sp J M (k)))), (.ref M)] (T, m_I J3, P, L, z, w) Q
        refine r_vir eMd_laysTour_77 rfl rfl rfl hM.2.1 rfl rfl ?_
        refine c_Md_doesStand hM hinv.ok (by omega) (by omega) ?_
        show m_wp en _ mMd_laysTour 80 [some (.ref M), some (.int (m_i (n))), some (.int (m_i (to))), some (.int (m_i (its))), some (.int (m_i (k))), o5] [(.int (m_i (a_b (a_is (md_cf J3 M) (a_of ((md_sp J M (k))))))))] (T, m_I ((md_put J3 M (a_of ((md_sp J M (k)))))), P, L, z, w) Q
        refine r_zeq (tgt := 87) eMd_laysTour_80 rfl ⟨(by omega), (by omega)⟩ (fun c80 => ?_) (fun c80 => ?_)
        · refine r_con eMd_laysTour_87 ?_
          refine r_is (ls' := [some (.ref M), some (.int (m_i (n))), some (.int (m_i (to))), some (.int (m_i (its))), some (.int (m_i (k))), some (.int (m_i (0)))]) eMd_laysTour_88 (Nat.le_of_ble_eq_true rfl) rfl ?_
          refine r_aln eMd_laysTour_90 rfl ?_
          refine m_getR eMd_laysTour_91 rfl hM.2.1 (md_steps2_p hM) ?_
          refine r_bip eMd_laysTour_94 (by decide) ?_
          refine r_il eMd_laysTour_96 rfl ?_
          refine r_mul eMd_laysTour_98 ?_
          refine r_iln eMd_laysTour_99 rfl ?_
          refine r_add eMd_laysTour_100 ?_
          refine r_aln eMd_laysTour_101 rfl ?_
          refine r_il eMd_laysTour_102 rfl ?_
          refine r_vir eMd_laysTour_104 rfl rfl rfl hM.2.1 rfl rfl ?_
          refine g_Md_spotState (J := J) hM (by simp only [esp3, espp]) (by omega) ?_
          show m_wp en _ mMd_laysTour 107 [some (.ref M), some (.int (m_i (n))), some (.int (m_i (to))), some (.int (m_i (its))), some (.int (m_i (k))), some (.int (m_i (0)))] [(.int (m_i (md_sp J M (k)))), (.int (m_i (((6) * (k)) + (to)))), (.ref (M + 24))] (T, m_I ((md_put J3 M (a_of ((md_sp J M (k)))))), P, L, z, w) Q
          refine r_aln eMd_laysTour_107 rfl ?_
          refine r_iln eMd_laysTour_108 rfl ?_
          refine r_vir eMd_laysTour_109 rfl rfl rfl hM.2.1 rfl rfl ?_
          refine g_Md_spotState (J := J) hM (by simp only [esp3, espp]) (by omega) ?_
          show m_wp en _ mMd_laysTour 112 [some (.ref M), some (.int (m_i (n))), some (.int (m_i (to))), some (.int (m_i (its))), some (.int (m_i (k))), some (.int (m_i (0)))] [(.int (m_i (md_sp J M (to)))), (.int (m_i (md_sp J M (k)))), (.int (m_i (((6) * (k)) + (to)))), (.ref (M + 24))] (T, m_I ((md_put J3 M (a_of ((md_sp J M (k)))))), P, L, z, w) Q
          refine r_cne (tgt := 119) eMd_laysTour_112 rfl ⟨(by omega), (by omega)⟩ ⟨(by omega), (by omega)⟩ (fun c112 => ?_) (fun c112 => ?_)
          · refine r_il eMd_laysTour_119 rfl ?_
            refine r_zeq (tgt := 138) eMd_laysTour_121 rfl ⟨(by omega), (by omega)⟩ (fun c121 => ?_) (fun c121 => ?_)
            · refine r_sip eMd_laysTour_138 (by decide) ?_
              refine r_iast eMd_laysTour_141 (md_steps2_t hM) (by decide) (by omega) (by omega) (md_b hM 24) ?_
              refine r_inc (ls' := [some (.ref M), some (.int (m_i (n))), some (.int (m_i (to))), some (.int (m_i (its))), some (.int (m_i (k + 1))), some (.int (m_i (0)))]) eMd_laysTour_142 rfl rfl ?_
              refine r_go (tgt := 50) eMd_laysTour_145 rfl ?_
              first | (exfalso; omega) | exact next _ _ _ hfy hinv hF rfl ⟨by omega, fun _ => Or.inl ⟨by omega, rfl⟩⟩ | exact next _ _ _ (pf _) (hinv.put _) (pF _) (p24 _) ⟨by omega, fun _ => Or.inr (Or.inl ⟨by omega, nos (by omega), rfl⟩)⟩ | exact next _ _ _ (pf _) (hinv.put _) (pF _) (p24 _) ⟨by omega, fun hy => Or.inr (Or.inr ⟨by omega, yes (by omega), _, hFa hy _ bf, by rw [hFk]; split <;> omega⟩)⟩
            · exfalso; omega
          · refine r_con eMd_laysTour_115 ?_
            refine r_go (tgt := 141) eMd_laysTour_116 rfl ?_
            refine r_iast eMd_laysTour_141 (md_steps2_t hM) (by decide) (by omega) (by omega) (md_b hM 24) ?_
            refine r_inc (ls' := [some (.ref M), some (.int (m_i (n))), some (.int (m_i (to))), some (.int (m_i (its))), some (.int (m_i (k + 1))), some (.int (m_i (0)))]) eMd_laysTour_142 rfl rfl ?_
            refine r_go (tgt := 50) eMd_laysTour_145 rfl ?_
            first | (exfalso; omega) | exact next _ _ _ hfy hinv hF rfl ⟨by omega, fun _ => Or.inl ⟨by omega, rfl⟩⟩ | exact next _ _ _ (pf _) (hinv.put _) (pF _) (p24 _) ⟨by omega, fun _ => Or.inr (Or.inl ⟨by omega, nos (by omega), rfl⟩)⟩ | exact next _ _ _ (pf _) (hinv.put _) (pF _) (p24 _) ⟨by omega, fun hy => Or.inr (Or.inr ⟨by omega, yes (by omega), _, hFa hy _ bf, by rw [hFk]; split <;> omega⟩)⟩
        · refine r_con eMd_laysTour_83 ?_
          refine r_go (tgt := 88) eMd_laysTour_84 rfl ?_
          refine r_is (ls' := [some (.ref M), some (.int (m_i (n))), some (.int (m_i (to))), some (.int (m_i (its))), some (.int (m_i (k))), some (.int (m_i (1)))]) eMd_laysTour_88 (Nat.le_of_ble_eq_true rfl) rfl ?_
          refine r_aln eMd_laysTour_90 rfl ?_
          refine m_getR eMd_laysTour_91 rfl hM.2.1 (md_steps2_p hM) ?_
          refine r_bip eMd_laysTour_94 (by decide) ?_
          refine r_il eMd_laysTour_96 rfl ?_
          refine r_mul eMd_laysTour_98 ?_
          refine r_iln eMd_laysTour_99 rfl ?_
          refine r_add eMd_laysTour_100 ?_
          refine r_aln eMd_laysTour_101 rfl ?_
          refine r_il eMd_laysTour_102 rfl ?_
          refine r_vir eMd_laysTour_104 rfl rfl rfl hM.2.1 rfl rfl ?_
          refine g_Md_spotState (J := J) hM (by simp only [esp3, espp]) (by omega) ?_
          show m_wp en _ mMd_laysTour 107 [some (.ref M), some (.int (m_i (n))), some (.int (m_i (to))), some (.int (m_i (its))), some (.int (m_i (k))), some (.int (m_i (1)))] [(.int (m_i (md_sp J M (k)))), (.int (m_i (((6) * (k)) + (to)))), (.ref (M + 24))] (T, m_I ((md_put J3 M (a_of ((md_sp J M (k)))))), P, L, z, w) Q
          refine r_aln eMd_laysTour_107 rfl ?_
          refine r_iln eMd_laysTour_108 rfl ?_
          refine r_vir eMd_laysTour_109 rfl rfl rfl hM.2.1 rfl rfl ?_
          refine g_Md_spotState (J := J) hM (by simp only [esp3, espp]) (by omega) ?_
          show m_wp en _ mMd_laysTour 112 [some (.ref M), some (.int (m_i (n))), some (.int (m_i (to))), some (.int (m_i (its))), some (.int (m_i (k))), some (.int (m_i (1)))] [(.int (m_i (md_sp J M (to)))), (.int (m_i (md_sp J M (k)))), (.int (m_i (((6) * (k)) + (to)))), (.ref (M + 24))] (T, m_I ((md_put J3 M (a_of ((md_sp J M (k)))))), P, L, z, w) Q
          refine r_cne (tgt := 119) eMd_laysTour_112 rfl ⟨(by omega), (by omega)⟩ ⟨(by omega), (by omega)⟩ (fun c112 => ?_) (fun c112 => ?_)
          · refine r_il eMd_laysTour_119 rfl ?_
            refine r_zeq (tgt := 138) eMd_laysTour_121 rfl ⟨(by omega), (by omega)⟩ (fun c121 => ?_) (fun c121 => ?_)
            · exfalso; omega
            · refine r_aln eMd_laysTour_124 rfl ?_
              refine m_getR eMd_laysTour_125 rfl hM.2.1 (md_far_p hM) ?_
              refine r_aln eMd_laysTour_128 rfl ?_
              refine r_il eMd_laysTour_129 rfl ?_
              refine r_vir eMd_laysTour_131 rfl rfl rfl hM.2.1 rfl rfl ?_
              refine g_Md_spotState (J := J) hM (by simp only [esp3, espp]) (by omega) ?_
              show m_wp en _ mMd_laysTour 134 [some (.ref M), some (.int (m_i (n))), some (.int (m_i (to))), some (.int (m_i (its))), some (.int (m_i (k))), some (.int (m_i (1)))] [(.int (m_i (md_sp J M (k)))), (.ref (M + 20)), (.int (m_i (((6) * (k)) + (to)))), (.ref (M + 24))] (T, m_I ((md_put J3 M (a_of ((md_sp J M (k)))))), P, L, z, w) Q
              refine r_salde (x := J3 (M + 20) ((md_sp J M (k)).toNat)) eMd_laysTour_134 (md_far_t hM) (by decide) (by omega) (by omega) (by simp [m_up, md_put_at, m_fl]) ?_
              refine r_go (tgt := 141) eMd_laysTour_135 rfl ?_
              refine r_iast eMd_laysTour_141 (md_steps2_t hM) (by decide) (by omega) (by omega) (md_b hM 24) ?_
              refine r_inc (ls' := [some (.ref M), some (.int (m_i (n))), some (.int (m_i (to))), some (.int (m_i (its))), some (.int (m_i (k + 1))), some (.int (m_i (1)))]) eMd_laysTour_142 rfl rfl ?_
              refine r_go (tgt := 50) eMd_laysTour_145 rfl ?_
              first | (exfalso; omega) | exact next _ _ _ hfy hinv hF rfl ⟨by omega, fun _ => Or.inl ⟨by omega, rfl⟩⟩ | exact next _ _ _ (pf _) (hinv.put _) (pF _) (p24 _) ⟨by omega, fun _ => Or.inr (Or.inl ⟨by omega, nos (by omega), rfl⟩)⟩ | exact next _ _ _ (pf _) (hinv.put _) (pF _) (p24 _) ⟨by omega, fun hy => Or.inr (Or.inr ⟨by omega, yes (by omega), _, hFa hy _ bf, by rw [hFk]; split <;> omega⟩)⟩
          · refine r_con eMd_laysTour_115 ?_
            refine r_go (tgt := 141) eMd_laysTour_116 rfl ?_
            refine r_iast eMd_laysTour_141 (md_steps2_t hM) (by decide) (by omega) (by omega) (md_b hM 24) ?_
            refine r_inc (ls' := [some (.ref M), some (.int (m_i (n))), some (.int (m_i (to))), some (.int (m_i (its))), some (.int (m_i (k + 1))), some (.int (m_i (1)))]) eMd_laysTour_142 rfl rfl ?_
            refine r_go (tgt := 50) eMd_laysTour_145 rfl ?_
            first | (exfalso; omega) | exact next _ _ _ hfy hinv hF rfl ⟨by omega, fun _ => Or.inl ⟨by omega, rfl⟩⟩ | exact next _ _ _ (pf _) (hinv.put _) (pF _) (p24 _) ⟨by omega, fun _ => Or.inr (Or.inl ⟨by omega, nos (by omega), rfl⟩)⟩ | exact next _ _ _ (pf _) (hinv.put _) (pF _) (p24 _) ⟨by omega, fun hy => Or.inr (Or.inr ⟨by omega, yes (by omega), _, hFa hy _ bf, by rw [hFk]; split <;> omega⟩)⟩
theorem l_Md_lt2 (hM : md_sh en M T P) (hsb : md_sb J M) {n : Int} (hn : J (M + 2) 4 = n)
    (hk : ∀ (J1 : Nat → Nat → Int) (o3 o4 o5 : Option Value), md_fy J J1 M → md_inv J1 M → s_tb J M (J1 (M + 24)) n → m_wp en (d + 8) mMd_laysTour 154 [some (.ref M), some (.int (m_i n)), some (.int (m_i n)), o3, o4, o5] [] (T, m_I J1, P, L, z, w) Q) :
    ∀ (m : Nat) (k : Int) (J1 : Nat → Nat → Int) (o3 o4 o5 : Option Value), k + m = n → 0 ≤ k → md_fy J J1 M → md_inv J1 M → s_tb J M (J1 (M + 24)) k →
      m_wp en (d + 8) mMd_laysTour 9 [some (.ref M), some (.int (m_i n)), some (.int (m_i k)), o3, o4, o5] [] (T, m_I J1, P, L, z, w) Q := by
  have hn6 : 0 ≤ n ∧ n ≤ 6 := by rw [← hn]; exact hsb.1
  intro m
  induction m with
  | zero =>
    intro k J1 o3 o4 o5 hkm h0 hfy hinv htb
    obtain rfl : k = n := by omega
    refine r_iln eMd_laysTour_9 rfl ?_
    refine r_iln eMd_laysTour_10 rfl ?_
    refine r_cge (tgt := 154) eMd_laysTour_11 rfl ⟨(by omega), (by omega)⟩ ⟨(by omega), (by omega)⟩ (fun c11 => ?_) (fun c11 => ?_)
    · exact hk J1 _ _ _ hfy hinv htb
    · exfalso; omega
  | succ m ih =>
    intro k J1 o3 o4 o5 hkm h0 hfy hinv htb
    have e22 : J1 (M + 22) 0 = J (M + 22) 0 := congrFun (hfy.r (k := 22) (by omega)) 0
    have next : ∀ (H : Nat → Nat → Int) (v r : Int) (o5 : Option Value), md_fy J H M → md_inv H M → H (M + 24) = J1 (M + 24) → (a_why (md_cf J M) (a_of (J (M + 22) 0)) = 0 → ∀ x : Int, 0 ≤ x ∧ x < 38880 → s_ans (md_cf J M) (md_sp J M k) 0 x (if H (M + 20) x.toNat = 30000 then -2 else H (M + 20) x.toNat)) → s_t6 J M k v → m_wp en (d + 8) mMd_laysTour 50 [some (.ref M), some (.int (m_i n)), some (.int (m_i k)), some (.int (m_i r)), some (.int (m_i 0)), o5] [] (T, m_I (m_up H (M + 24) (36 + k).toNat v), P, L, z, w) Q := fun H v r o5 g1 g2 g3 g4 g5 => by
      have e24 : ∀ i, m_up H (M + 24) (36 + k).toNat v (M + 24) i = if i = (36 + k).toNat then v else J1 (M + 24) i := fun i => by
        rw [m_up_at, g3]
        by_cases q : i = (36 + k).toNat
        · rw [if_pos ⟨rfl, q⟩, if_pos q]
        · rw [if_neg (fun z => q z.2), if_neg q]
      have e20 : m_up H (M + 24) (36 + k).toNat v (M + 20) = H (M + 20) := funext (fun i => by rw [m_up_at, if_neg (by omega)])
      refine l_Md_lt1 hM hsb hn (by omega) g2.hkp.1.2.2 g4 (fun J3 a b c1 c2 c3 => ih (k + 1) J3 _ a b (by omega) (by omega) c1 c2 c3) n.toNat 0 _ o5 (by omega) (by omega) (g1.trans (md_upr_fy H M (Or.inl rfl) v)) (g2.upr (Or.inl rfl) v) e20 (fun t t0 t1 => ⟨?_, fun f f0 f1 => ?_⟩) ?_ (fun f f0 f1 => by omega)
      · rw [e24, if_neg (by omega)]; exact (htb t t0 t1).1
      · rw [e24, if_neg (by omega)]; exact (htb t t0 t1).2 f f0 f1
      · rw [e24, if_pos rfl]; exact g5
    refine r_iln eMd_laysTour_9 rfl ?_
    refine r_iln eMd_laysTour_10 rfl ?_
    refine r_cge (tgt := 154) eMd_laysTour_11 rfl ⟨(by omega), (by omega)⟩ ⟨(by omega), (by omega)⟩ (fun c11 => ?_) (fun c11 => ?_)
    · exfalso; omega
    · refine r_aln eMd_laysTour_14 rfl ?_
      refine r_aln eMd_laysTour_15 rfl ?_
      refine r_iln eMd_laysTour_16 rfl ?_
      refine r_vir eMd_laysTour_17 rfl rfl rfl hM.2.1 rfl rfl ?_
      refine g_Md_spotState (J := J) hM (hfy.sp _) (by omega) ?_
      show m_wp en _ mMd_laysTour 20 [some (.ref M), some (.int (m_i (n))), some (.int (m_i (k))), o3, o4, o5] [(.int (m_i (md_sp J M (k)))), (.ref M)] (T, m_I J1, P, L, z, w) Q
      refine r_con eMd_laysTour_20 ?_
      refine r_vir eMd_laysTour_21 rfl rfl rfl hM.2.1 rfl rfl ?_
      refine k_Md_fewestTo hM hinv.ok hinv.hs (md_sp_bd hsb (by omega)) (by omega) hinv.hkp (fun hA => ?_) (fun hA J2 r hkp2 hK hans hrb => ?_)
      · rw [hfy.cf, e22] at hA
        show m_wp en _ mMd_laysTour 24 [some (.ref M), some (.int (m_i (n))), some (.int (m_i (k))), o3, o4, o5] [(.int (m_i (-2)))] (T, m_I ((md_put J1 M (a_of (J1 (M + 22) 0)))), P, L, z, w) Q
        refine r_isn (ls' := [some (.ref M), some (.int (m_i (n))), some (.int (m_i (k))), some (.int (m_i (-2))), o4, o5]) eMd_laysTour_24 (Nat.le_of_ble_eq_true rfl) rfl ?_
        refine r_aln eMd_laysTour_25 rfl ?_
        refine m_getR eMd_laysTour_26 rfl hM.2.1 (md_steps2_p hM) ?_
        refine r_bip eMd_laysTour_29 (by decide) ?_
        refine r_iln eMd_laysTour_31 rfl ?_
        refine r_add eMd_laysTour_32 ?_
        refine r_iln eMd_laysTour_33 rfl ?_
        refine r_bip eMd_laysTour_34 (by decide) ?_
        refine r_cne (tgt := 45) eMd_laysTour_36 rfl ⟨(by omega), (by omega)⟩ ⟨(by omega), (by omega)⟩ (fun c36 => ?_) (fun c36 => ?_)
        · exfalso; omega
        · refine r_sip eMd_laysTour_39 (by decide) ?_
          refine r_go (tgt := 46) eMd_laysTour_42 rfl ?_
          refine r_iast eMd_laysTour_46 (md_steps2_t hM) (by decide) (by omega) (by omega) (md_b hM 24) ?_
          refine r_con eMd_laysTour_47 ?_
          refine r_is (ls' := [some (.ref M), some (.int (m_i (n))), some (.int (m_i (k))), some (.int (m_i (-2))), some (.int (m_i (0))), o5]) eMd_laysTour_48 (Nat.le_of_ble_eq_true rfl) rfl ?_
          first | exact next _ _ _ _ (hfy.trans ((md_fx.refl J1 M).put _).fy) (hinv.put _) (md_put_r J1 M _ (by omega)) (fun hy => absurd hy hA) ⟨-2, Or.inl ⟨hA, rfl⟩, by omega, rfl⟩ | exact next J2 _ _ _ (hfy.trans hK.1.fy) (hinv.fx hK.1 hkp2) (funext (fun i => hK.1 _ _ (by omega) (by omega) (by omega))) (fun _ x hx => by have h9 := s_Kn_ans hK hx; rw [hfy.cf] at h9; exact h9) ⟨r, Or.inr ⟨hA, hans⟩, by omega, by split <;> omega⟩
      · rw [hfy.cf, e22] at hA
        rw [hfy.cf, e22] at hans
        have hv := s_ans_v hans
        show m_wp en _ mMd_laysTour 24 [some (.ref M), some (.int (m_i (n))), some (.int (m_i (k))), o3, o4, o5] [(.int (m_i (r)))] (T, m_I J2, P, L, z, w) Q
        refine r_isn (ls' := [some (.ref M), some (.int (m_i (n))), some (.int (m_i (k))), some (.int (m_i (r))), o4, o5]) eMd_laysTour_24 (Nat.le_of_ble_eq_true rfl) rfl ?_
        refine r_aln eMd_laysTour_25 rfl ?_
        refine m_getR eMd_laysTour_26 rfl hM.2.1 (md_steps2_p hM) ?_
        refine r_bip eMd_laysTour_29 (by decide) ?_
        refine r_iln eMd_laysTour_31 rfl ?_
        refine r_add eMd_laysTour_32 ?_
        refine r_iln eMd_laysTour_33 rfl ?_
        refine r_bip eMd_laysTour_34 (by decide) ?_
        refine r_cne (tgt := 45) eMd_laysTour_36 rfl ⟨(by omega), (by omega)⟩ ⟨(by omega), (by omega)⟩ (fun c36 => ?_) (fun c36 => ?_)
        · refine r_iln eMd_laysTour_45 rfl ?_
          refine r_iast eMd_laysTour_46 (md_steps2_t hM) (by decide) (by omega) (by omega) (md_b hM 24) ?_
          refine r_con eMd_laysTour_47 ?_
          refine r_is (ls' := [some (.ref M), some (.int (m_i (n))), some (.int (m_i (k))), some (.int (m_i (r))), some (.int (m_i (0))), o5]) eMd_laysTour_48 (Nat.le_of_ble_eq_true rfl) rfl ?_
          first | exact next _ _ _ _ (hfy.trans ((md_fx.refl J1 M).put _).fy) (hinv.put _) (md_put_r J1 M _ (by omega)) (fun hy => absurd hy hA) ⟨-2, Or.inl ⟨hA, rfl⟩, by omega, rfl⟩ | exact next J2 _ _ _ (hfy.trans hK.1.fy) (hinv.fx hK.1 hkp2) (funext (fun i => hK.1 _ _ (by omega) (by omega) (by omega))) (fun _ x hx => by have h9 := s_Kn_ans hK hx; rw [hfy.cf] at h9; exact h9) ⟨r, Or.inr ⟨hA, hans⟩, by omega, by split <;> omega⟩
        · refine r_sip eMd_laysTour_39 (by decide) ?_
          refine r_go (tgt := 46) eMd_laysTour_42 rfl ?_
          refine r_iast eMd_laysTour_46 (md_steps2_t hM) (by decide) (by omega) (by omega) (md_b hM 24) ?_
          refine r_con eMd_laysTour_47 ?_
          refine r_is (ls' := [some (.ref M), some (.int (m_i (n))), some (.int (m_i (k))), some (.int (m_i (r))), some (.int (m_i (0))), o5]) eMd_laysTour_48 (Nat.le_of_ble_eq_true rfl) rfl ?_
          first | exact next _ _ _ _ (hfy.trans ((md_fx.refl J1 M).put _).fy) (hinv.put _) (md_put_r J1 M _ (by omega)) (fun hy => absurd hy hA) ⟨-2, Or.inl ⟨hA, rfl⟩, by omega, rfl⟩ | exact next J2 _ _ _ (hfy.trans hK.1.fy) (hinv.fx hK.1 hkp2) (funext (fun i => hK.1 _ _ (by omega) (by omega) (by omega))) (fun _ x hx => by have h9 := s_Kn_ans hK hx; rw [hfy.cf] at h9; exact h9) ⟨r, Or.inr ⟨hA, hans⟩, by omega, by split <;> omega⟩
/-- the table of what is left -/
def s_lf (n : Int) (tb lf : Nat → Int) (b k : Int) : Prop := ∀ b' f : Int, (b < b' ∧ b' ≤ a_fu n ∧ 0 ≤ f ∧ f ≤ 6) ∨ (b' = b ∧ 0 ≤ f ∧ f < k) → lf (7 * b' + f).toNat = a_ll tb lf n b' f ∧ 0 ≤ lf (7 * b' + f).toNat ∧ lf (7 * b' + f).toNat ≤ 30000
theorem s_tb_b {tb : Nat → Int} {n : Int} (hn : J (M + 2) 4 = n) (hn6 : 0 ≤ n ∧ n ≤ 6) (h : s_tb J M tb n) : a_tbb tb n := fun f t hf ht => by
  rcases hf with hf | hf
  · exact ((h t ht.1 ht.2).2 f hf.1 (by omega)).1
  · obtain ⟨r, -, hb, -⟩ := (h t ht.1 ht.2).1
    rw [hf]
    exact hb
theorem l_Md_lt3 (hM : md_sh en M T P) {n b : Int} {tb : Nat → Int} {o4 o5 : Option Value} (hn6 : 0 ≤ n ∧ n ≤ 6) (hb : 0 ≤ b ∧ b < 64) (hbf : b ≤ a_fu n) (htb0 : a_tbb tb n)
    (hk : ∀ (J1 : Nat → Nat → Int) (o3 : Option Value), md_fy J J1 M → md_inv J1 M → J1 (M + 24) = tb → s_lf n tb (J1 (M + 25)) (b - 1) 0 → m_wp en (d + 2) mMd_laysTour 160 [some (.ref M), some (.int (m_i n)), some (.int (m_i (b - 1))), o3, o4, o5] [] (T, m_I J1, P, L, z, w) Q) (hn : J (M + 2) 4 = n) :
    ∀ (m : Nat) (k : Int) (J1 : Nat → Nat → Int), k + m = 7 → 0 ≤ k → md_fy J J1 M → md_inv J1 M → J1 (M + 24) = tb → s_lf n tb (J1 (M + 25)) b k →
      m_wp en (d + 2) mMd_laysTour 166 [some (.ref M), some (.int (m_i n)), some (.int (m_i b)), some (.int (m_i k)), o4, o5] [] (T, m_I J1, P, L, z, w) Q := by
  intro m
  induction m with
  | zero =>
    intro k J1 hkm h0 hfy hinv e24 hlf
    obtain rfl : k = 7 := by omega
    refine r_iln eMd_laysTour_166 rfl ?_
    refine r_bip eMd_laysTour_167 (by decide) ?_
    refine r_cgt (tgt := 195) eMd_laysTour_169 rfl ⟨(by omega), (by omega)⟩ ⟨(by omega), (by omega)⟩ (fun c169 => ?_) (fun c169 => ?_)
    · refine r_inc (ls' := [some (.ref M), some (.int (m_i (n))), some (.int (m_i (b + (-1)))), some (.int (m_i (7))), o4, o5]) eMd_laysTour_195 rfl rfl ?_
      refine r_go (tgt := 160) eMd_laysTour_198 rfl ?_
      rw [show b + (-1) = b - 1 by omega]
      refine hk J1 _ hfy hinv e24 (fun b' f h => ?_)
      rcases h with h | h
      · (by_cases q : b' = b; exact hlf b' f (Or.inr ⟨q, h.2.2.1, by omega⟩); exact hlf b' f (Or.inl ⟨by omega, h.2⟩))
      · omega
    · exfalso; omega
  | succ m ih =>
    intro k J1 hkm h0 hfy hinv e24 hlf
    have htb : a_tbb (J1 (M + 24)) n := by rw [e24]; exact htb0
    have en4 : J1 (M + 2) 4 = n := (congrFun (hfy.r (k := 2) (by omega)) 4).trans hn
    have hfu := (a_fu_b hn6).1
    have next : ∀ v, a_ll (J1 (M + 24)) (J1 (M + 25)) n b k = v → (0 ≤ v ∧ v ≤ 30000) → m_wp en (d + 2) mMd_laysTour 166 [some (.ref M), some (.int (m_i n)), some (.int (m_i b)), some (.int (m_i (k + 1))), o4, o5] [] (T, m_I (m_up J1 (M + 25) (7 * b + k).toNat v), P, L, z, w) Q := fun v hv hvb => by
      have e25 : ∀ i, m_up J1 (M + 25) (7 * b + k).toNat v (M + 25) i = if i = (7 * b + k).toNat then v else J1 (M + 25) i := fun i => by
        rw [m_up_at]
        by_cases q : i = (7 * b + k).toNat
        · rw [if_pos ⟨rfl, q⟩, if_pos q]
        · rw [if_neg (fun z => q z.2), if_neg q]
      refine ih (k + 1) _ (by omega) (by omega) (hfy.trans (md_upr_fy J1 M (Or.inr (Or.inl rfl)) v)) (hinv.upr (Or.inr (Or.inl rfl)) v) (by rw [← e24]; exact funext (fun i => by rw [m_up_at, if_neg (by omega)])) (fun b' f h => ?_)
      have hcg : ∀ b1 : Int, b ≤ b1 → b1 < 64 → a_ll tb (m_up J1 (M + 25) (7 * b + k).toNat v (M + 25)) n b1 f = a_ll tb (J1 (M + 25)) n b1 f := fun b1 h1 h2 => a_ll_cg hn6 (by omega) (fun b2 t g1 g2 g3 g4 => by rw [e25, if_neg (by omega)])
      by_cases q : b' = b ∧ f = k
      · rw [q.1]
        have hc := hcg b (by omega) (by omega)
        rw [q.2] at hc ⊢
        rw [hc, e25, if_pos rfl, ← e24]
        exact ⟨hv.symm, hvb⟩
      · have h9 := hlf b' f (by omega)
        rw [e25, if_neg (by omega), hcg b' (by omega) (by omega)]
        exact h9
    refine r_iln eMd_laysTour_166 rfl ?_
    refine r_bip eMd_laysTour_167 (by decide) ?_
    refine r_cgt (tgt := 195) eMd_laysTour_169 rfl ⟨(by omega), (by omega)⟩ ⟨(by omega), (by omega)⟩ (fun c169 => ?_) (fun c169 => ?_)
    · exfalso; omega
    · refine r_aln eMd_laysTour_172 rfl ?_
      refine m_getR eMd_laysTour_173 rfl hM.2.1 (md_left_p hM) ?_
      refine r_bip eMd_laysTour_176 (by decide) ?_
      refine r_iln eMd_laysTour_178 rfl ?_
      refine r_mul eMd_laysTour_179 ?_
      refine r_iln eMd_laysTour_180 rfl ?_
      refine r_add eMd_laysTour_181 ?_
      refine r_aln eMd_laysTour_182 rfl ?_
      refine r_iln eMd_laysTour_183 rfl ?_
      refine r_iln eMd_laysTour_184 rfl ?_
      refine r_vir eMd_laysTour_185 rfl rfl rfl hM.2.1 rfl rfl ?_
      refine c_Md_leastLeft hM en4 hn6 (by omega) hbf (by omega) htb (fun b' t h1 h2 h3 h4 h5 => (hlf b' t (Or.inl ⟨h1, h5, h3, by omega⟩)).2) (fun hbd => ?_)
      · show m_wp en _ mMd_laysTour 188 [some (.ref M), some (.int (m_i (n))), some (.int (m_i (b))), some (.int (m_i (k))), o4, o5] [(.int (m_i (a_ll (J1 (M + 24)) (J1 (M + 25)) n b k))), (.int (m_i (((7) * (b)) + (k)))), (.ref (M + 25))] (T, m_I J1, P, L, z, w) Q
        refine r_iast eMd_laysTour_188 (md_left_t hM) (by decide) (by omega) (by omega) (md_b hM 25) ?_
        refine r_inc (ls' := [some (.ref M), some (.int (m_i (n))), some (.int (m_i (b))), some (.int (m_i (k + 1))), o4, o5]) eMd_laysTour_189 rfl rfl ?_
        refine r_go (tgt := 166) eMd_laysTour_192 rfl ?_
        exact next _ rfl hbd
theorem l_Md_lt4 (hM : md_sh en M T P) {n : Int} {tb : Nat → Int} (hn6 : 0 ≤ n ∧ n ≤ 6) (htb0 : a_tbb tb n) (hn : J (M + 2) 4 = n)
    (hq : ∀ (J1 : Nat → Nat → Int), md_fy J J1 M → md_inv J1 M → J1 (M + 24) = tb → s_lf n tb (J1 (M + 25)) (-1) 0 → Q none (T, m_I J1, P, L, z, w)) :
    ∀ (m : Nat) (b : Int) (J1 : Nat → Nat → Int) (o3 o4 o5 : Option Value), b + 1 = m → b ≤ a_fu n → md_fy J J1 M → md_inv J1 M → J1 (M + 24) = tb → s_lf n tb (J1 (M + 25)) b 0 →
      m_wp en (d + 2) mMd_laysTour 160 [some (.ref M), some (.int (m_i n)), some (.int (m_i b)), o3, o4, o5] [] (T, m_I J1, P, L, z, w) Q := by
  have hfu := (a_fu_b hn6).1
  intro m
  induction m with
  | zero =>
    intro b J1 o3 o4 o5 hbm hbf hfy hinv e24 hlf
    obtain rfl : b = -1 := by omega
    refine r_iln eMd_laysTour_160 rfl ?_
    refine r_zlt (tgt := 201) eMd_laysTour_161 rfl ⟨(by omega), (by omega)⟩ (fun c161 => ?_) (fun c161 => ?_)
    · refine r_ret eMd_laysTour_201 rfl ?_
      exact hq J1 hfy hinv e24 hlf
    · exfalso; omega
  | succ m ih =>
    intro b J1 o3 o4 o5 hbm hbf hfy hinv e24 hlf
    refine r_iln eMd_laysTour_160 rfl ?_
    refine r_zlt (tgt := 201) eMd_laysTour_161 rfl ⟨(by omega), (by omega)⟩ (fun c161 => ?_) (fun c161 => ?_)
    · exfalso; omega
    · refine r_con eMd_laysTour_164 ?_
      refine r_isn (ls' := [some (.ref M), some (.int (m_i (n))), some (.int (m_i (b))), some (.int (m_i (0))), o4, o5]) eMd_laysTour_165 (Nat.le_of_ble_eq_true rfl) rfl ?_
      exact l_Md_lt3 hM hn6 (by omega) hbf htb0 (fun J2 o a1 a2 a3 a4 => ih (b - 1) J2 o _ _ (by omega) (by omega) a1 a2 a3 a4) hn 7 0 J1 (by omega) (by omega) hfy hinv e24 hlf
theorem c_Md_laysTour (hM : md_sh en M T P) (hinv : md_inv J M)
    (hq : ∀ (J1 : Nat → Nat → Int), md_fy J J1 M → md_inv J1 M → s_tb J M (J1 (M + 24)) (J (M + 2) 4) → s_lf (J (M + 2) 4) (J1 (M + 24)) (J1 (M + 25)) (-1) 0 → Q none (T, m_I J1, P, L, z, w)) : m_call en (d + 9) mMd_laysTour [.ref M] (T, m_I J, P, L, z, w) Q := by
  have hn6 := hinv.hsb.1
  have hfu := (a_fu_b hn6).1
  have h154 : ∀ (J1 : Nat → Nat → Int) (o3 o4 o5 : Option Value), md_fy J J1 M → md_inv J1 M → s_tb J M (J1 (M + 24)) (J (M + 2) 4) → m_wp en (d + 8) mMd_laysTour 154 [some (.ref M), some (.int (m_i (J (M + 2) 4))), some (.int (m_i (J (M + 2) 4))), o3, o4, o5] [] (T, m_I J1, P, L, z, w) Q := fun J1 o3 o4 o5 a1 a2 a3 => by
    refine r_con eMd_laysTour_154 ?_
    refine r_iln eMd_laysTour_155 rfl ?_
    refine r_shl eMd_laysTour_156 ?_
    refine r_con eMd_laysTour_157 ?_
    refine r_sub eMd_laysTour_158 ?_
    refine r_isn (ls' := [some (.ref M), some (.int (m_i (J (M + 2) 4))), some (.int (m_i ((m_shl (1) (J (M + 2) 4)) - (1)))), o3, o4, o5]) eMd_laysTour_159 (Nat.le_of_ble_eq_true rfl) rfl ?_
    exact l_Md_lt4 (d := d + 6) (tb := J1 (M + 24)) hM hn6 (s_tb_b rfl hn6 a3) rfl (fun J2 b1 b2 b3 b4 => hq J2 b1 b2 (by rw [b3]; exact a3) (by rw [b3]; exact b4)) (a_fu (J (M + 2) 4) + 1).toNat (a_fu (J (M + 2) 4)) J1 _ _ _ (by omega) (by omega) a1 a2 rfl (fun b' f h => by omega)
  refine m_into (by decide) (Nat.le_of_ble_eq_true rfl) rfl ?_
  show m_wp en _ mMd_laysTour 0 [some (.ref M), none, none, none, none, none] [] (T, m_I J, P, L, z, w) Q
  refine r_aln eMd_laysTour_0 rfl ?_
  refine m_getR eMd_laysTour_1 rfl hM.2.1 (md_number_p hM) ?_
  refine r_con eMd_laysTour_4 ?_
  refine r_ialde (x := J (M + 2) 4) eMd_laysTour_5 (md_number_t hM) (by decide) (by omega) (by omega) rfl ?_
  refine r_isn (ls' := [some (.ref M), some (.int (m_i (J (M + 2) 4))), none, none, none, none]) eMd_laysTour_6 (Nat.le_of_ble_eq_true rfl) rfl ?_
  refine r_con eMd_laysTour_7 ?_
  refine r_isn (ls' := [some (.ref M), some (.int (m_i (J (M + 2) 4))), some (.int (m_i (0))), none, none, none]) eMd_laysTour_8 (Nat.le_of_ble_eq_true rfl) rfl ?_
  exact l_Md_lt2 (J := J) hM hinv.hsb rfl h154 (J (M + 2) 4).toNat 0 J none none none (by omega) (by omega) (md_fy.refl J M) hinv (fun t t0 t1 => by omega)
theorem c_Md_tour (hM : md_sh en M T P) (hJ : m_up J0 M 0 0 = J) (hinv : md_inv J M)
    (hq : ∀ (J1 : Nat → Nat → Int) (tb lf : Nat → Int), md_fy J J1 M → md_inv J1 M → s_tb J M tb (J (M + 2) 4) → s_lf (J (M + 2) 4) tb lf (-1) 0 → Q (some (.int (m_i (if 30000 ≤ lf 6 then -2 else lf 6)))) (T, m_I J1, P, L, z, w)) : m_call en (d + 10) mMd_tour [.ref M] (T, m_I J0, P, L, z, w) Q := by
  refine m_into (by decide) (Nat.le_of_ble_eq_true rfl) rfl ?_
  show m_wp en _ mMd_tour 0 [some (.ref M)] [] (T, m_I J0, P, L, z, w) Q
  refine r_aln eMd_tour_0 rfl ?_
  refine r_con eMd_tour_1 ?_
  refine r_put eMd_tour_2 rfl hM.2.1 hM.1 (Or.inl rfl) ?_
  rw [hJ]
  refine r_aln eMd_tour_5 rfl ?_
  refine r_vir eMd_tour_6 rfl rfl rfl hM.2.1 rfl rfl ?_
  refine c_Md_laysTour hM hinv (fun J1 f1 f2 f3 f4 => ?_)
  · have h6 := f4 0 6 (Or.inl ⟨by omega, (a_fu_b hinv.hsb.1).1.1, by omega, by omega⟩)
    rw [show ((7 : Int) * 0 + 6).toNat = 6 from rfl] at h6
    show m_wp en _ mMd_tour 9 [some (.ref M)] [] (T, m_I J1, P, L, z, w) Q
    refine r_aln eMd_tour_9 rfl ?_
    refine m_getR eMd_tour_10 rfl hM.2.1 (md_left_p hM) ?_
    refine r_bip eMd_tour_13 (by decide) ?_
    refine r_ialde (x := J1 (M + 25) 6) eMd_tour_15 (md_left_t hM) (by decide) (by omega) (by omega) rfl ?_
    refine r_sip eMd_tour_16 (by decide) ?_
    refine r_clt (tgt := 27) eMd_tour_19 rfl ⟨(by omega), (by omega)⟩ ⟨(by omega), (by omega)⟩ (fun c19 => ?_) (fun c19 => ?_)
    · refine r_aln eMd_tour_27 rfl ?_
      refine m_getR eMd_tour_28 rfl hM.2.1 (md_left_p hM) ?_
      refine r_bip eMd_tour_31 (by decide) ?_
      refine r_ialde (x := J1 (M + 25) 6) eMd_tour_33 (md_left_t hM) (by decide) (by omega) (by omega) rfl ?_
      refine r_iret eMd_tour_34 rfl ?_
      have hq2 := hq J1 _ _ f1 f2 f3 f4
      (first | rw [if_pos (by omega)] at hq2 | rw [if_neg (by omega)] at hq2)
      exact hq2
    · refine r_bip eMd_tour_22 (by decide) ?_
      refine r_go (tgt := 34) eMd_tour_24 rfl ?_
      refine r_iret eMd_tour_34 rfl ?_
      have hq2 := hq J1 _ _ f1 f2 f3 f4
      (first | rw [if_pos (by omega)] at hq2 | rw [if_neg (by omega)] at hq2)
      exact hq2
end MDTR
