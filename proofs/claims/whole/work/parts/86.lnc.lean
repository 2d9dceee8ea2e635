/-! spot, start, seed, width .. of a text -/
def s_sq (J : Nat → Nat → Int) (M : Nat) (x : a_Q) (J' : Nat → Nat → Int) (x' : a_Q) : Prop := ∃ x2, s_go (J (M + 1)) (J M 20) (a_wr (decide (J (M + 2) 17 = 6)) 2 x) x2 ∧ ((x2.2.2.2.2.1 ≠ 0 ∧ J' = J ∧ x' = x2) ∨ (x2.2.2.2.2.1 = 0 ∧ ∃ x3, x3 = (if x2.2.2.1 ≠ 1 then a_wr true 1 x2 else a_wr (decide (a_find (J (M + 4)) x2.2.2.2.1 6 (J (M + 2) 17).toNat 0 ≠ -1)) 3 x2) ∧ ((x3.2.2.2.2.1 ≠ 0 ∧ J' = J ∧ x' = x3) ∨ (x3.2.2.2.2.1 = 0 ∧ ∃ x4 x5 r1 r2, s_go (J (M + 1)) (J M 20) x3 x4 ∧ s_nu (J (M + 1)) (J M 20) 0 0 (J (M + 2) 13 - 1) x4 r1 x5 ∧ s_nu (J (M + 1)) (J M 20) 0 1 (J (M + 2) 14) x5 r2 x' ∧
  J' = m_up (m_up (m_up (m_up J (M + 4) (6 + J (M + 2) 17).toNat x3.2.2.2.1) (M + 5) (6 + J (M + 2) 17).toNat r1) (M + 6) (6 + J (M + 2) 17).toNat r2) (M + 2) 17 (J (M + 2) 17 + 1)))))
def s_sr (J : Nat → Nat → Int) (M : Nat) (x : a_Q) (J' : Nat → Nat → Int) (x' : a_Q) : Prop := ∃ x1 x2 r1 r2, s_on J M 6 x x1 ∧ s_nu (J (M + 1)) (J M 20) 0 0 (J (M + 2) 13 - 1) x1 r1 x2 ∧ s_nu (J (M + 1)) (J M 20) 0 1 (J (M + 2) 14) x2 r2 x' ∧ J' = m_up (m_up (m_up J (M + 3) 6 1) (M + 2) 22 r1) (M + 2) 23 r2
def s_se (J : Nat → Nat → Int) (M : Nat) (x : a_Q) (J' : Nat → Nat → Int) (x' : a_Q) : Prop := ∃ x1 r1, s_on J M 11 x x1 ∧ s_nu (J (M + 1)) (J M 20) 0 0 99999 x1 r1 x' ∧ J' = m_up (m_up J (M + 3) 11 1) (M + 2) 21 r1
def s_ra (J : Nat → Nat → Int) (M : Nat) (wd : Nat) (lo hi : Int) (x : a_Q) (J' : Nat → Nat → Int) (x' : a_Q) : Prop := ∃ x1 r1, s_on J M (wd : Int) (a_wr (decide (J M 18 ≠ 0)) 1 x) x1 ∧ s_nu (J (M + 1)) (J M 20) 0 lo hi x1 r1 x' ∧ J' = m_up (m_up J (M + 3) wd 1) (M + 2) (13 + wd) r1
section MDLC
variable {en : Nat → Nat} {d : Nat} {T : Nat → Option (Nat × Nat)} {J J0 J1 B : Nat → Nat → Int} {P : Nat → Nat → Option Nat} {L : Nat → Nat → Int64} {z w M : Nat} {Q : m_Q} {σ : a_S} {a p s v k g : Int}
theorem t_Md_numeral (hM : md_sh en M T P) {f : Nat → Int} {n : Int} (e1 : B (M + 1) = f) (e2 : B M 20 = n) {x : a_Q} (ht : a_tpb f n) (hb : a_qb n x) {lo hi : Int} (hlo : m_in lo) (hhi : m_in hi)
    (hq : ∀ (r : Int) (x' : a_Q), s_nu f n 0 lo hi x r x' → a_qb n x' → Q (some (.int (m_i r))) (T, m_I (md_q B M x'.1 x'.2.1 x'.2.2.1 x'.2.2.2.1 x'.2.2.2.2.1 x'.2.2.2.2.2), P, L, z, w)) : m_call en (d + 6) mMd_numeral [.ref M, .int (m_i lo), .int (m_i hi)] (T, m_I (md_q B M x.1 x.2.1 x.2.2.1 x.2.2.2.1 x.2.2.2.2.1 x.2.2.2.2.2), P, L, z, w) Q := by
  subst e1 e2
  exact c_Md_numeral hM ht hb hlo hhi hq
theorem t_Md_token (hM : md_sh en M T P) {f : Nat → Int} {n : Int} (e1 : B (M + 1) = f) (e2 : B M 20 = n) {x : a_Q} (ht : a_tpb f n) (hb : a_qb n x) (hk : x.2.2.2.2.1 = 0)
    (hq : ∀ (x' : a_Q), s_go f n x x' → a_qb n x' → Q none (T, m_I (md_q B M x'.1 x'.2.1 x'.2.2.1 x'.2.2.2.1 x'.2.2.2.2.1 x'.2.2.2.2.2), P, L, z, w)) : m_call en (d + 3) mMd_token [.ref M] (T, m_I (md_q B M x.1 x.2.1 x.2.2.1 x.2.2.2.1 x.2.2.2.2.1 x.2.2.2.2.2), P, L, z, w) Q := by
  subst e1 e2
  exact c_Md_token hM ht hb.1 hb.2.2.2.1 (fun a' p' s' v' h1 h2 h3 h4 h5 => hq (a', p', s', v', x.2.2.2.2.1, x.2.2.2.2.2) (Or.inl ⟨hk, h1, rfl, rfl⟩) ⟨h2, h3, h4, h5, hb.2.2.2.2⟩)
theorem u_Md_token (hM : md_sh en M T P) {f : Nat → Int} {n : Int} (e1 : B (M + 1) = f) (e2 : B M 20 = n) (ht : a_tpb f n) (h0 : 0 ≤ a ∧ a ≤ n) (hv : m_in v)
    (hq : ∀ (x' : a_Q), s_go f n (a, p, s, v, 0, g) x' → a_qb n x' → Q none (T, m_I (md_q B M x'.1 x'.2.1 x'.2.2.1 x'.2.2.2.1 x'.2.2.2.2.1 x'.2.2.2.2.2), P, L, z, w)) : m_call en (d + 3) mMd_token [.ref M] (T, m_I (md_q B M a p s v 0 g), P, L, z, w) Q := by
  subst e1 e2
  exact c_Md_token hM ht h0 hv (fun a' p' s' v' h1 h2 h3 h4 h5 => hq (a', p', s', v', 0, g) (Or.inl ⟨rfl, h1, rfl, rfl⟩) ⟨h2, h3, h4, h5, (by show (0 : Int) ≤ 0 ∧ (0 : Int) ≤ 3; omega), fun q => absurd rfl q⟩)
theorem t_Md_spotAt (hM : md_sh en M T P) {m u : Int} (hu : m_in u) (hm : 0 ≤ m ∧ m ≤ 6) (hbb : ∀ i : Nat, i < 12 → m_in (J (M + 4) i)) (hq : Q (some (.int (m_i (a_find (J (M + 4)) u 6 m.toNat 0)))) (T, m_I (md_q J M a p s v k g), P, L, z, w)) : m_call en (d + 1) mMd_spotAt [.ref M, .int (m_i 6), .int (m_i m), .int (m_i u)] (T, m_I (md_q J M a p s v k g), P, L, z, w) Q := by
  have e : md_q J M a p s v k g (M + 4) = J (M + 4) := funext (fun i => q_o (by omega))
  exact c_Md_spotAt (o := 6) hM hu hm (by omega) (by rw [e]; exact hbb) (by rw [e]; exact hq)
theorem a_find_bd (f : Nat → Int) (u : Int) (o : Nat) : ∀ m k : Nat, -1 ≤ a_find f u o m k ∧ a_find f u o m k ≤ m + k := by
  intro m
  induction m with
  | zero => intro k; unfold a_find; omega
  | succ m ih =>
    intro k
    have := ih (k + 1)
    unfold a_find
    split <;> omega
theorem c_Md_readSpot (hM : md_sh en M T P) {x : a_Q} (ht : a_tpb (J (M + 1)) (J M 20)) (hb : a_qb (J M 20) x) (hd : dr_b J M)
    (hq : ∀ (J' : Nat → Nat → Int) (x' : a_Q), s_sq J M x J' x' → dr_b J' M → dr_f J J' M → a_qb (J M 20) x' → Q none (T, m_I (md_q J' M x'.1 x'.2.1 x'.2.2.1 x'.2.2.2.1 x'.2.2.2.2.1 x'.2.2.2.2.2), P, L, z, w)) : m_call en (d + 7) mMd_readSpot [.ref M] (T, m_I (md_q J M x.1 x.2.1 x.2.2.1 x.2.2.2.1 x.2.2.2.2.1 x.2.2.2.2.2), P, L, z, w) Q := by
  obtain ⟨n0, n1, n4, n5, n6, n7, n11, n12⟩ := dr_nb hd
  have hk : 0 ≤ x.2.2.2.2.1 ∧ x.2.2.2.2.1 ≤ 3 := hb.2.2.2.2.1
  have hnm : ∀ i : Nat, i < 12 → m_in (J (M + 4) i) := fun i hi => by
    have h9 : -2147483648 ≤ J (M + 4) i ∧ J (M + 4) i ≤ 2147483647 := hd.2.1 4 (by omega) (by omega) i hi
    unfold m_in
    omega
  have rest2 : ∀ (x2 y : a_Q), s_go (J (M + 1)) (J M 20) (a_wr (decide (J (M + 2) 17 = 6)) 2 x) x2 → x2.2.2.2.2.1 = 0 → y = (if x2.2.2.1 ≠ 1 then a_wr true 1 x2 else a_wr (decide (a_find (J (M + 4)) x2.2.2.2.1 6 (J (M + 2) 17).toNat 0 ≠ -1)) 3 x2) → a_qb (J M 20) y → m_wp en (d + 6) mMd_readSpot 72 [some (.ref M), some (.int (m_i (6 + J (M + 2) 17)))] [] (T, m_I (md_q J M y.1 y.2.1 y.2.2.1 y.2.2.2.1 y.2.2.2.2.1 y.2.2.2.2.2), P, L, z, w) Q := fun x2 y g1 g2 hy hby => by
    have hky := hby.2.2.2.2.1
    have hvy : -2147483648 ≤ y.2.2.2.1 ∧ y.2.2.2.1 < 2147483648 := hby.2.2.2.1
    have g3 := g2
    rw [s_go_k g1] at g3
    have hne : J (M + 2) 17 ≠ 6 := fun q => (a_wr_k (by omega) g3).1 (decide_eq_true q)
    refine r_aln eMd_readSpot_72 rfl ?_
    refine r_gete (x := y.2.2.2.2.1) eMd_readSpot_73 rfl (by decide) hM.2.1 (by simp [m_up, md_q, md_put_at, m_fl]) ?_
    refine r_zeq (tgt := 80) eMd_readSpot_76 rfl ⟨(by omega), (by omega)⟩ (fun c76 => ?_) (fun c76 => ?_)
    · have hk0 : y.2.2.2.2.1 = 0 := by omega
      refine r_aln eMd_readSpot_80 rfl ?_
      refine m_getR eMd_readSpot_81 rfl hM.2.1 (md_spotName_p hM) ?_
      refine r_iln eMd_readSpot_84 rfl ?_
      refine r_aln eMd_readSpot_85 rfl ?_
      refine r_gete (x := y.2.2.2.1) eMd_readSpot_86 rfl (by decide) hM.2.1 (by simp [m_up, md_q, md_put_at, m_fl]) ?_
      refine r_iast eMd_readSpot_89 (md_spotName_t hM) (by decide) (by omega) (by omega) (md_b hM 4) ?_
      rw [q_up (by omega)]
      refine r_aln eMd_readSpot_90 rfl ?_
      refine r_vir eMd_readSpot_91 rfl rfl rfl hM.2.1 rfl rfl ?_
      refine t_Md_token (B := (m_up J (M + 4) ((6 + J (M + 2) 17).toNat) (y.2.2.2.1))) (x := y) hM (funext (fun i => by simp [m_up])) (by simp [m_up]) ht (by assumption) hk0 (fun xt ht9 hbt => ?_)
      · show m_wp en _ mMd_readSpot 94 [some (.ref M), some (.int (m_i (6 + J (M + 2) 17)))] [] (T, m_I (((md_q (m_up J (M + 4) ((6 + J (M + 2) 17).toNat) (y.2.2.2.1)) M xt.1 xt.2.1 xt.2.2.1 xt.2.2.2.1 xt.2.2.2.2.1 xt.2.2.2.2.2))), P, L, z, w) Q
        refine r_aln eMd_readSpot_94 rfl ?_
        refine m_getR eMd_readSpot_95 rfl hM.2.1 (md_spotColumn_p hM) ?_
        refine r_iln eMd_readSpot_98 rfl ?_
        refine r_aln eMd_readSpot_99 rfl ?_
        refine r_con eMd_readSpot_100 ?_
        refine r_aln eMd_readSpot_101 rfl ?_
        refine r_con eMd_readSpot_102 ?_
        refine r_vir eMd_readSpot_103 rfl rfl rfl hM.2.1 rfl rfl ?_
        refine t_Md_reading (i := 13) (u := J (M + 2) 13) hM (by omega) rfl (by simp [m_up]) ?_
        show m_wp en _ mMd_readSpot 106 [some (.ref M), some (.int (m_i (6 + J (M + 2) 17)))] [(.int (m_i (J (M + 2) 13))), (.int (m_i (0))), (.ref M), (.int (m_i (6 + J (M + 2) 17))), (.ref (M + 5))] (T, m_I (((md_q (m_up J (M + 4) ((6 + J (M + 2) 17).toNat) (y.2.2.2.1)) M xt.1 xt.2.1 xt.2.2.1 xt.2.2.2.1 xt.2.2.2.2.1 xt.2.2.2.2.2))), P, L, z, w) Q
        refine r_con eMd_readSpot_106 ?_
        refine r_sub eMd_readSpot_107 ?_
        refine r_vir eMd_readSpot_108 rfl rfl rfl hM.2.1 rfl rfl ?_
        refine t_Md_numeral (B := (m_up J (M + 4) ((6 + J (M + 2) 17).toNat) (y.2.2.2.1))) (x := xt) hM (funext (fun i => by simp [m_up])) (by simp [m_up]) ht (by assumption) (by unfold m_in; omega) (by unfold m_in; omega) (fun r108 x108 hn108 hb108 => ?_)
        · have bd108 := s_nu_bd hn108
          show m_wp en _ mMd_readSpot 111 [some (.ref M), some (.int (m_i (6 + J (M + 2) 17)))] [(.int (m_i (r108))), (.int (m_i (6 + J (M + 2) 17))), (.ref (M + 5))] (T, m_I (((md_q (m_up J (M + 4) ((6 + J (M + 2) 17).toNat) (y.2.2.2.1)) M x108.1 x108.2.1 x108.2.2.1 x108.2.2.2.1 x108.2.2.2.2.1 x108.2.2.2.2.2))), P, L, z, w) Q
          refine r_iast eMd_readSpot_111 (md_spotColumn_t hM) (by decide) (by omega) (by omega) (md_b hM 5) ?_
          rw [q_up (by omega)]
          refine r_aln eMd_readSpot_112 rfl ?_
          refine m_getR eMd_readSpot_113 rfl hM.2.1 (md_spotDepth_p hM) ?_
          refine r_iln eMd_readSpot_116 rfl ?_
          refine r_aln eMd_readSpot_117 rfl ?_
          refine r_con eMd_readSpot_118 ?_
          refine r_aln eMd_readSpot_119 rfl ?_
          refine r_con eMd_readSpot_120 ?_
          refine r_vir eMd_readSpot_121 rfl rfl rfl hM.2.1 rfl rfl ?_
          refine t_Md_reading (i := 14) (u := J (M + 2) 14) hM (by omega) rfl (by simp [m_up]) ?_
          show m_wp en _ mMd_readSpot 124 [some (.ref M), some (.int (m_i (6 + J (M + 2) 17)))] [(.int (m_i (J (M + 2) 14))), (.int (m_i (1))), (.ref M), (.int (m_i (6 + J (M + 2) 17))), (.ref (M + 6))] (T, m_I ((md_q (m_up (m_up J (M + 4) ((6 + J (M + 2) 17).toNat) (y.2.2.2.1)) (M + 5) ((6 + J (M + 2) 17).toNat) r108) M x108.1 x108.2.1 x108.2.2.1 x108.2.2.2.1 x108.2.2.2.2.1 x108.2.2.2.2.2)), P, L, z, w) Q
          refine r_vir eMd_readSpot_124 rfl rfl rfl hM.2.1 rfl rfl ?_
          refine t_Md_numeral (B := (m_up (m_up J (M + 4) ((6 + J (M + 2) 17).toNat) (y.2.2.2.1)) (M + 5) ((6 + J (M + 2) 17).toNat) r108)) (x := x108) hM (funext (fun i => by simp [m_up])) (by simp [m_up]) ht (by assumption) (by unfold m_in; omega) (by unfold m_in; omega) (fun r124 x124 hn124 hb124 => ?_)
          · have bd124 := s_nu_bd hn124
            show m_wp en _ mMd_readSpot 127 [some (.ref M), some (.int (m_i (6 + J (M + 2) 17)))] [(.int (m_i (r124))), (.int (m_i (6 + J (M + 2) 17))), (.ref (M + 6))] (T, m_I (((md_q (m_up (m_up J (M + 4) ((6 + J (M + 2) 17).toNat) (y.2.2.2.1)) (M + 5) ((6 + J (M + 2) 17).toNat) r108) M x124.1 x124.2.1 x124.2.2.1 x124.2.2.2.1 x124.2.2.2.2.1 x124.2.2.2.2.2))), P, L, z, w) Q
            refine r_iast eMd_readSpot_127 (md_spotDepth_t hM) (by decide) (by omega) (by omega) (md_b hM 6) ?_
            rw [q_up (by omega)]
            refine r_aln eMd_readSpot_128 rfl ?_
            refine r_con eMd_readSpot_129 ?_
            refine r_aln eMd_readSpot_130 rfl ?_
            refine r_con eMd_readSpot_131 ?_
            refine r_vir eMd_readSpot_132 rfl rfl rfl hM.2.1 rfl rfl ?_
            refine t_Md_reading (i := 17) (u := J (M + 2) 17) hM (by omega) rfl (by simp [m_up]) ?_
            show m_wp en _ mMd_readSpot 135 [some (.ref M), some (.int (m_i (6 + J (M + 2) 17)))] [(.int (m_i (J (M + 2) 17))), (.int (m_i (4))), (.ref M)] (T, m_I ((md_q (m_up (m_up (m_up J (M + 4) ((6 + J (M + 2) 17).toNat) (y.2.2.2.1)) (M + 5) ((6 + J (M + 2) 17).toNat) r108) (M + 6) ((6 + J (M + 2) 17).toNat) r124) M x124.1 x124.2.1 x124.2.2.1 x124.2.2.2.1 x124.2.2.2.2.1 x124.2.2.2.2.2)), P, L, z, w) Q
            refine r_con eMd_readSpot_135 ?_
            refine r_add eMd_readSpot_136 ?_
            refine r_vir eMd_readSpot_137 rfl rfl rfl hM.2.1 rfl rfl ?_
            refine t_Md_reads (i := 17) hM (by omega) rfl ?_
            show m_wp en _ mMd_readSpot 140 [some (.ref M), some (.int (m_i (6 + J (M + 2) 17)))] [] (T, m_I (((md_q (m_up (m_up (m_up (m_up J (M + 4) ((6 + J (M + 2) 17).toNat) (y.2.2.2.1)) (M + 5) ((6 + J (M + 2) 17).toNat) r108) (M + 6) ((6 + J (M + 2) 17).toNat) r124) (M + 2) 17 (((J (M + 2) 17) + (1)))) M x124.1 x124.2.1 x124.2.2.1 x124.2.2.2.1 x124.2.2.2.2.1 x124.2.2.2.2.2))), P, L, z, w) Q
            refine r_ret eMd_readSpot_140 rfl ?_
            refine hq _ x124 ⟨x2, g1, Or.inr ⟨g2, y, hy, Or.inr ⟨hk0, xt, x108, r108, r124, ht9, hn108, hn124, rfl⟩⟩⟩ ((((hd.r (k := 4) (by omega) (by omega) (by show -2147483648 ≤ y.2.2.2.1 ∧ y.2.2.2.1 ≤ 2147483647; omega)).r (k := 5) (by omega) (by omega) (by show 0 ≤ r108 ∧ r108 ≤ 15; omega)).r (k := 6) (by omega) (by omega) (by show 0 ≤ r124 ∧ r124 ≤ 6; omega)).n (y := 4) (by omega) (by show 0 ≤ J (M + 2) 17 + 1 ∧ J (M + 2) 17 + 1 ≤ 6; omega)) (((((dr_f.refl J M).up (by unfold dr_c; omega) _).up (by unfold dr_c; omega) _).up (by unfold dr_c; omega) _).up (by unfold dr_c; omega) _) hb124
    · refine r_ret eMd_readSpot_79 rfl ?_
      exact hq J y ⟨x2, g1, Or.inr ⟨g2, y, hy, Or.inl ⟨by omega, rfl, rfl⟩⟩⟩ hd (dr_f.refl J M) hby
  have rest : ∀ y : a_Q, y = a_wr (decide (J (M + 2) 17 = 6)) 2 x → a_qb (J M 20) y → m_wp en (d + 6) mMd_readSpot 20 [some (.ref M), some (.int (m_i (6 + J (M + 2) 17)))] [] (T, m_I (md_q J M y.1 y.2.1 y.2.2.1 y.2.2.2.1 y.2.2.2.2.1 y.2.2.2.2.2), P, L, z, w) Q := fun y hy hby => by
    refine r_aln eMd_readSpot_20 rfl ?_
    refine r_vir eMd_readSpot_21 rfl rfl rfl hM.2.1 rfl rfl ?_
    refine t_Md_goOn (x := y) hM ht (by assumption) (fun xg21 hg21 hbg21 => ?_)
    · have hkg21 := hbg21.2.2.2.2.1
      show m_wp en _ mMd_readSpot 24 [some (.ref M), some (.int (m_i (6 + J (M + 2) 17)))] [] (T, m_I (((md_q J M xg21.1 xg21.2.1 xg21.2.2.1 xg21.2.2.2.1 xg21.2.2.2.2.1 xg21.2.2.2.2.2))), P, L, z, w) Q
      have hg21' : s_go (J (M + 1)) (J M 20) (a_wr (decide (J (M + 2) 17 = 6)) 2 x) xg21 := by rw [← hy]; exact hg21
      have hs2 := hbg21.2.2.1
      have hv2 : -2147483648 ≤ xg21.2.2.2.1 ∧ xg21.2.2.2.1 < 2147483648 := hbg21.2.2.2.1
      have hfb := a_find_bd (J (M + 4)) xg21.2.2.2.1 6 (J (M + 2) 17).toNat 0
      refine r_aln eMd_readSpot_24 rfl ?_
      refine r_gete (x := xg21.2.2.2.2.1) eMd_readSpot_25 rfl (by decide) hM.2.1 (by simp [m_up, md_q, md_put_at, m_fl]) ?_
      refine r_zeq (tgt := 32) eMd_readSpot_28 rfl ⟨(by omega), (by omega)⟩ (fun c28 => ?_) (fun c28 => ?_)
      · refine r_aln eMd_readSpot_32 rfl ?_
        refine r_gete (x := xg21.2.2.1) eMd_readSpot_33 rfl (by decide) hM.2.1 (by simp [m_up, md_q, md_put_at, m_fl]) ?_
        refine r_con eMd_readSpot_36 ?_
        refine r_ceq (tgt := 48) eMd_readSpot_37 rfl ⟨(by omega), (by omega)⟩ ⟨(by omega), (by omega)⟩ (fun c37 => ?_) (fun c37 => ?_)
        · refine r_aln eMd_readSpot_48 rfl ?_
          refine r_bip eMd_readSpot_49 (by decide) ?_
          refine r_aln eMd_readSpot_51 rfl ?_
          refine r_con eMd_readSpot_52 ?_
          refine r_vir eMd_readSpot_53 rfl rfl rfl hM.2.1 rfl rfl ?_
          refine t_Md_reading (i := 17) (u := J (M + 2) 17) hM (by omega) rfl (by simp [m_up]) ?_
          show m_wp en _ mMd_readSpot 56 [some (.ref M), some (.int (m_i (6 + J (M + 2) 17)))] [(.int (m_i (J (M + 2) 17))), (.int (m_i (6))), (.ref M)] (T, m_I (((md_q J M xg21.1 xg21.2.1 xg21.2.2.1 xg21.2.2.2.1 xg21.2.2.2.2.1 xg21.2.2.2.2.2))), P, L, z, w) Q
          refine r_aln eMd_readSpot_56 rfl ?_
          refine r_gete (x := xg21.2.2.2.1) eMd_readSpot_57 rfl (by decide) hM.2.1 (by simp [m_up, md_q, md_put_at, m_fl]) ?_
          refine r_vir eMd_readSpot_60 rfl rfl rfl hM.2.1 rfl rfl ?_
          refine t_Md_spotAt hM (by unfold m_in; omega) (by omega) hnm ?_
          show m_wp en _ mMd_readSpot 63 [some (.ref M), some (.int (m_i (6 + J (M + 2) 17)))] [(.int (m_i (a_find (J (M + 4)) ((xg21.2.2.2.1)) 6 (J (M + 2) 17).toNat 0)))] (T, m_I (((md_q J M xg21.1 xg21.2.1 xg21.2.2.1 xg21.2.2.2.1 xg21.2.2.2.2.1 xg21.2.2.2.2.2))), P, L, z, w) Q
          refine r_con eMd_readSpot_63 ?_
          refine r_ceq (tgt := 72) eMd_readSpot_64 rfl ⟨(by omega), (by omega)⟩ ⟨(by omega), (by omega)⟩ (fun c64 => ?_) (fun c64 => ?_)
          · first | exact rest2 xg21 x1 hg21' (by omega) (by rw [e1, if_pos (by omega)]) (by rw [e1]; exact a_wr_b hbg21 (by omega)) | exact rest2 xg21 x1 hg21' (by omega) (by rw [e1, if_neg (by omega), decide_eq_true (show a_find (J (M + 4)) xg21.2.2.2.1 6 (J (M + 2) 17).toNat 0 ≠ -1 by omega)]) (by rw [e1]; exact a_wr_b hbg21 (by omega)) | exact rest2 xg21 xg21 hg21' (by omega) (by rw [if_neg (by omega)]; exact (a_wr_n (fun q => by have := of_decide_eq_true q; omega)).symm) hbg21
          · refine r_aln eMd_readSpot_67 rfl ?_
            refine r_con eMd_readSpot_68 ?_
            refine r_vir eMd_readSpot_69 rfl rfl rfl hM.2.1 rfl rfl ?_
            refine t_Md_wrong hM (by omega) (fun x1 e1 => ?_)
            · show m_wp en _ mMd_readSpot 72 [some (.ref M), some (.int (m_i (6 + J (M + 2) 17)))] [] (T, m_I (((md_q J M x1.1 x1.2.1 x1.2.2.1 x1.2.2.2.1 x1.2.2.2.2.1 x1.2.2.2.2.2))), P, L, z, w) Q
              first | exact rest2 xg21 x1 hg21' (by omega) (by rw [e1, if_pos (by omega)]) (by rw [e1]; exact a_wr_b hbg21 (by omega)) | exact rest2 xg21 x1 hg21' (by omega) (by rw [e1, if_neg (by omega), decide_eq_true (show a_find (J (M + 4)) xg21.2.2.2.1 6 (J (M + 2) 17).toNat 0 ≠ -1 by omega)]) (by rw [e1]; exact a_wr_b hbg21 (by omega)) | exact rest2 xg21 xg21 hg21' (by omega) (by rw [if_neg (by omega)]; exact (a_wr_n (fun q => by have := of_decide_eq_true q; omega)).symm) hbg21
        · refine r_aln eMd_readSpot_40 rfl ?_
          refine r_con eMd_readSpot_41 ?_
          refine r_vir eMd_readSpot_42 rfl rfl rfl hM.2.1 rfl rfl ?_
          refine t_Md_wrong hM (by omega) (fun x1 e1 => ?_)
          · show m_wp en _ mMd_readSpot 45 [some (.ref M), some (.int (m_i (6 + J (M + 2) 17)))] [] (T, m_I (((md_q J M x1.1 x1.2.1 x1.2.2.1 x1.2.2.2.1 x1.2.2.2.2.1 x1.2.2.2.2.2))), P, L, z, w) Q
            refine r_go (tgt := 72) eMd_readSpot_45 rfl ?_
            first | exact rest2 xg21 x1 hg21' (by omega) (by rw [e1, if_pos (by omega)]) (by rw [e1]; exact a_wr_b hbg21 (by omega)) | exact rest2 xg21 x1 hg21' (by omega) (by rw [e1, if_neg (by omega), decide_eq_true (show a_find (J (M + 4)) xg21.2.2.2.1 6 (J (M + 2) 17).toNat 0 ≠ -1 by omega)]) (by rw [e1]; exact a_wr_b hbg21 (by omega)) | exact rest2 xg21 xg21 hg21' (by omega) (by rw [if_neg (by omega)]; exact (a_wr_n (fun q => by have := of_decide_eq_true q; omega)).symm) hbg21
      · refine r_ret eMd_readSpot_31 rfl ?_
        exact hq J xg21 ⟨xg21, hg21', Or.inl ⟨by omega, rfl, rfl⟩⟩ hd (dr_f.refl J M) hbg21
  refine m_into (by decide) (Nat.le_of_ble_eq_true rfl) rfl ?_
  show m_wp en _ mMd_readSpot 0 [some (.ref M), none] [] (T, m_I ((md_q J M x.1 x.2.1 x.2.2.1 x.2.2.2.1 x.2.2.2.2.1 x.2.2.2.2.2)), P, L, z, w) Q
  refine r_bip eMd_readSpot_0 (by decide) ?_
  refine r_aln eMd_readSpot_2 rfl ?_
  refine r_con eMd_readSpot_3 ?_
  refine r_vir eMd_readSpot_4 rfl rfl rfl hM.2.1 rfl rfl ?_
  refine t_Md_reading (i := 17) (u := J (M + 2) 17) hM (by omega) rfl (by simp [m_up]) ?_
  show m_wp en _ mMd_readSpot 7 [some (.ref M), none] [(.int (m_i (J (M + 2) 17))), (.int (m_i (6)))] (T, m_I ((md_q J M x.1 x.2.1 x.2.2.1 x.2.2.2.1 x.2.2.2.2.1 x.2.2.2.2.2)), P, L, z, w) Q
  refine r_add eMd_readSpot_7 ?_
  refine r_isn (ls' := [some (.ref M), some (.int (m_i ((6) + (J (M + 2) 17))))]) eMd_readSpot_8 (Nat.le_of_ble_eq_true rfl) rfl ?_
  refine r_iln eMd_readSpot_9 rfl ?_
  refine r_bip eMd_readSpot_10 (by decide) ?_
  refine r_cne (tgt := 20) eMd_readSpot_12 rfl ⟨(by omega), (by omega)⟩ ⟨(by omega), (by omega)⟩ (fun c12 => ?_) (fun c12 => ?_)
  · first | (have ee : x1 = a_wr (decide (J (M + 2) 17 = 6)) 2 x := by rw [e1, decide_eq_true (show J (M + 2) 17 = 6 by omega)]) <;> exact rest x1 ee (by rw [e1]; exact a_wr_b hb (by omega)) | exact rest x (a_wr_n (fun q => by have := of_decide_eq_true q; omega)).symm hb
  · refine r_aln eMd_readSpot_15 rfl ?_
    refine r_con eMd_readSpot_16 ?_
    refine r_vir eMd_readSpot_17 rfl rfl rfl hM.2.1 rfl rfl ?_
    refine t_Md_wrong hM (by omega) (fun x1 e1 => ?_)
    · show m_wp en _ mMd_readSpot 20 [some (.ref M), some (.int (m_i ((6) + (J (M + 2) 17))))] [] (T, m_I (((md_q J M x1.1 x1.2.1 x1.2.2.1 x1.2.2.2.1 x1.2.2.2.2.1 x1.2.2.2.2.2))), P, L, z, w) Q
      first | (have ee : x1 = a_wr (decide (J (M + 2) 17 = 6)) 2 x := by rw [e1, decide_eq_true (show J (M + 2) 17 = 6 by omega)]) <;> exact rest x1 ee (by rw [e1]; exact a_wr_b hb (by omega)) | exact rest x (a_wr_n (fun q => by have := of_decide_eq_true q; omega)).symm hb
theorem c_Md_readStart (hM : md_sh en M T P) {x : a_Q} (ht : a_tpb (J (M + 1)) (J M 20)) (hb : a_qb (J M 20) x) (hd : dr_b J M)
    (hq : ∀ (J' : Nat → Nat → Int) (x' : a_Q), s_sr J M x J' x' → dr_b J' M → dr_f J J' M → a_qb (J M 20) x' → Q none (T, m_I (md_q J' M x'.1 x'.2.1 x'.2.2.1 x'.2.2.2.1 x'.2.2.2.2.1 x'.2.2.2.2.2), P, L, z, w)) : m_call en (d + 7) mMd_readStart [.ref M] (T, m_I (md_q J M x.1 x.2.1 x.2.2.1 x.2.2.2.1 x.2.2.2.2.1 x.2.2.2.2.2), P, L, z, w) Q := by
  obtain ⟨n0, n1, n4, n5, n6, n7, n11, n12⟩ := dr_nb hd
  refine m_into (by decide) (Nat.le_of_ble_eq_true rfl) rfl ?_
  show m_wp en _ mMd_readStart 0 [some (.ref M)] [] (T, m_I ((md_q J M x.1 x.2.1 x.2.2.1 x.2.2.2.1 x.2.2.2.2.1 x.2.2.2.2.2)), P, L, z, w) Q
  refine r_aln eMd_readStart_0 rfl ?_
  refine r_bip eMd_readStart_1 (by decide) ?_
  refine r_vir eMd_readStart_3 rfl rfl rfl hM.2.1 rfl rfl ?_
  refine c_Md_once (x := x) hM ht (by assumption) (by omega) (by have h9 := hd.2.1 3 (by omega) (by omega) 6 (by decide); have h8 : 0 ≤ J (M + 3) 6 ∧ J (M + 3) 6 ≤ 1 := h9; show J (M + 3) 6 = 0 ∨ J (M + 3) 6 = 1; omega) (fun xo ho hbo => ?_)
  · show m_wp en _ mMd_readStart 6 [some (.ref M)] [] (T, m_I (((md_q (m_up J (M + 3) 6 1) M xo.1 xo.2.1 xo.2.2.1 xo.2.2.2.1 xo.2.2.2.2.1 xo.2.2.2.2.2))), P, L, z, w) Q
    refine r_aln eMd_readStart_6 rfl ?_
    refine r_bip eMd_readStart_7 (by decide) ?_
    refine r_aln eMd_readStart_9 rfl ?_
    refine r_con eMd_readStart_10 ?_
    refine r_aln eMd_readStart_11 rfl ?_
    refine r_con eMd_readStart_12 ?_
    refine r_vir eMd_readStart_13 rfl rfl rfl hM.2.1 rfl rfl ?_
    refine t_Md_reading (i := 13) (u := J (M + 2) 13) hM (by omega) rfl (by simp [m_up]) ?_
    show m_wp en _ mMd_readStart 16 [some (.ref M)] [(.int (m_i (J (M + 2) 13))), (.int (m_i (0))), (.ref M), (.int (m_i (9))), (.ref M)] (T, m_I (((md_q (m_up J (M + 3) 6 1) M xo.1 xo.2.1 xo.2.2.1 xo.2.2.2.1 xo.2.2.2.2.1 xo.2.2.2.2.2))), P, L, z, w) Q
    refine r_con eMd_readStart_16 ?_
    refine r_sub eMd_readStart_17 ?_
    refine r_vir eMd_readStart_18 rfl rfl rfl hM.2.1 rfl rfl ?_
    refine t_Md_numeral (B := (m_up J (M + 3) 6 1)) (x := xo) hM (funext (fun i => by simp [m_up])) (by simp [m_up]) ht (by assumption) (by unfold m_in; omega) (by unfold m_in; omega) (fun r18 x18 hn18 hb18 => ?_)
    · have bd18 := s_nu_bd hn18
      show m_wp en _ mMd_readStart 21 [some (.ref M)] [(.int (m_i (r18))), (.int (m_i (9))), (.ref M)] (T, m_I (((md_q (m_up J (M + 3) 6 1) M x18.1 x18.2.1 x18.2.2.1 x18.2.2.2.1 x18.2.2.2.2.1 x18.2.2.2.2.2))), P, L, z, w) Q
      refine r_vir eMd_readStart_21 rfl rfl rfl hM.2.1 rfl rfl ?_
      refine t_Md_reads (i := 22) hM (by omega) rfl ?_
      show m_wp en _ mMd_readStart 24 [some (.ref M)] [] (T, m_I (((md_q (m_up (m_up J (M + 3) 6 1) (M + 2) 22 (r18)) M x18.1 x18.2.1 x18.2.2.1 x18.2.2.2.1 x18.2.2.2.2.1 x18.2.2.2.2.2))), P, L, z, w) Q
      refine r_aln eMd_readStart_24 rfl ?_
      refine r_bip eMd_readStart_25 (by decide) ?_
      refine r_aln eMd_readStart_27 rfl ?_
      refine r_con eMd_readStart_28 ?_
      refine r_aln eMd_readStart_29 rfl ?_
      refine r_con eMd_readStart_30 ?_
      refine r_vir eMd_readStart_31 rfl rfl rfl hM.2.1 rfl rfl ?_
      refine t_Md_reading (i := 14) (u := J (M + 2) 14) hM (by omega) rfl (by simp [m_up]) ?_
      show m_wp en _ mMd_readStart 34 [some (.ref M)] [(.int (m_i (J (M + 2) 14))), (.int (m_i (1))), (.ref M), (.int (m_i (10))), (.ref M)] (T, m_I (((md_q (m_up (m_up J (M + 3) 6 1) (M + 2) 22 (r18)) M x18.1 x18.2.1 x18.2.2.1 x18.2.2.2.1 x18.2.2.2.2.1 x18.2.2.2.2.2))), P, L, z, w) Q
      refine r_vir eMd_readStart_34 rfl rfl rfl hM.2.1 rfl rfl ?_
      refine t_Md_numeral (B := (m_up (m_up J (M + 3) 6 1) (M + 2) 22 (r18))) (x := x18) hM (funext (fun i => by simp [m_up])) (by simp [m_up]) ht (by assumption) (by unfold m_in; omega) (by unfold m_in; omega) (fun r34 x34 hn34 hb34 => ?_)
      · have bd34 := s_nu_bd hn34
        show m_wp en _ mMd_readStart 37 [some (.ref M)] [(.int (m_i (r34))), (.int (m_i (10))), (.ref M)] (T, m_I (((md_q (m_up (m_up J (M + 3) 6 1) (M + 2) 22 (r18)) M x34.1 x34.2.1 x34.2.2.1 x34.2.2.2.1 x34.2.2.2.2.1 x34.2.2.2.2.2))), P, L, z, w) Q
        refine r_vir eMd_readStart_37 rfl rfl rfl hM.2.1 rfl rfl ?_
        refine t_Md_reads (i := 23) hM (by omega) rfl ?_
        show m_wp en _ mMd_readStart 40 [some (.ref M)] [] (T, m_I (((md_q (m_up (m_up (m_up J (M + 3) 6 1) (M + 2) 22 (r18)) (M + 2) 23 (r34)) M x34.1 x34.2.1 x34.2.2.1 x34.2.2.2.1 x34.2.2.2.2.1 x34.2.2.2.2.2))), P, L, z, w) Q
        refine r_ret eMd_readStart_40 rfl ?_
        refine hq _ x34 ⟨xo, x18, r18, r34, ho, hn18, hn34, rfl⟩ (((hd.r (k := 3) (by omega) (by omega) (by show (0 : Int) ≤ 1 ∧ (1 : Int) ≤ 1; omega)).n (y := 9) (by omega) (by show 0 ≤ r18 ∧ r18 ≤ 15; omega)).n (y := 10) (by omega) (by show 0 ≤ r34 ∧ r34 ≤ 6; omega)) ((((dr_f.refl J M).up (by unfold dr_c; omega) _).up (by unfold dr_c; omega) _).up (by unfold dr_c; omega) _) hb34
theorem c_Md_readSeed (hM : md_sh en M T P) {x : a_Q} (ht : a_tpb (J (M + 1)) (J M 20)) (hb : a_qb (J M 20) x) (hd : dr_b J M)
    (hq : ∀ (J' : Nat → Nat → Int) (x' : a_Q), s_se J M x J' x' → dr_b J' M → dr_f J J' M → a_qb (J M 20) x' → Q none (T, m_I (md_q J' M x'.1 x'.2.1 x'.2.2.1 x'.2.2.2.1 x'.2.2.2.2.1 x'.2.2.2.2.2), P, L, z, w)) : m_call en (d + 7) mMd_readSeed [.ref M] (T, m_I (md_q J M x.1 x.2.1 x.2.2.1 x.2.2.2.1 x.2.2.2.2.1 x.2.2.2.2.2), P, L, z, w) Q := by
  refine m_into (by decide) (Nat.le_of_ble_eq_true rfl) rfl ?_
  show m_wp en _ mMd_readSeed 0 [some (.ref M)] [] (T, m_I ((md_q J M x.1 x.2.1 x.2.2.1 x.2.2.2.1 x.2.2.2.2.1 x.2.2.2.2.2)), P, L, z, w) Q
  refine r_aln eMd_readSeed_0 rfl ?_
  refine r_bip eMd_readSeed_1 (by decide) ?_
  refine r_vir eMd_readSeed_3 rfl rfl rfl hM.2.1 rfl rfl ?_
  refine c_Md_once (x := x) hM ht (by assumption) (by omega) (by have h9 := hd.2.1 3 (by omega) (by omega) 11 (by decide); have h8 : 0 ≤ J (M + 3) 11 ∧ J (M + 3) 11 ≤ 1 := h9; show J (M + 3) 11 = 0 ∨ J (M + 3) 11 = 1; omega) (fun xo ho hbo => ?_)
  · show m_wp en _ mMd_readSeed 6 [some (.ref M)] [] (T, m_I (((md_q (m_up J (M + 3) 11 1) M xo.1 xo.2.1 xo.2.2.1 xo.2.2.2.1 xo.2.2.2.2.1 xo.2.2.2.2.2))), P, L, z, w) Q
    refine r_aln eMd_readSeed_6 rfl ?_
    refine r_bip eMd_readSeed_7 (by decide) ?_
    refine r_aln eMd_readSeed_9 rfl ?_
    refine r_con eMd_readSeed_10 ?_
    refine r_ldc (x := 99999) eMd_readSeed_11 rfl (by decide) ?_
    refine r_vir eMd_readSeed_13 rfl rfl rfl hM.2.1 rfl rfl ?_
    refine t_Md_numeral (B := (m_up J (M + 3) 11 1)) (x := xo) hM (funext (fun i => by simp [m_up])) (by simp [m_up]) ht (by assumption) (by unfold m_in; omega) (by unfold m_in; omega) (fun r13 x13 hn13 hb13 => ?_)
    · have bd13 := s_nu_bd hn13
      show m_wp en _ mMd_readSeed 16 [some (.ref M)] [(.int (m_i (r13))), (.int (m_i (8))), (.ref M)] (T, m_I (((md_q (m_up J (M + 3) 11 1) M x13.1 x13.2.1 x13.2.2.1 x13.2.2.2.1 x13.2.2.2.2.1 x13.2.2.2.2.2))), P, L, z, w) Q
      refine r_vir eMd_readSeed_16 rfl rfl rfl hM.2.1 rfl rfl ?_
      refine t_Md_reads (i := 21) hM (by omega) rfl ?_
      show m_wp en _ mMd_readSeed 19 [some (.ref M)] [] (T, m_I (((md_q (m_up (m_up J (M + 3) 11 1) (M + 2) 21 (r13)) M x13.1 x13.2.1 x13.2.2.1 x13.2.2.2.1 x13.2.2.2.2.1 x13.2.2.2.2.2))), P, L, z, w) Q
      refine r_ret eMd_readSeed_19 rfl ?_
      refine hq _ x13 ⟨xo, r13, ho, hn13, rfl⟩ ((hd.r (k := 3) (by omega) (by omega) (by show (0 : Int) ≤ 1 ∧ (1 : Int) ≤ 1; omega)).n (y := 8) (by omega) (by show 0 ≤ r13 ∧ r13 ≤ 99999; omega)) (((dr_f.refl J M).up (by unfold dr_c; omega) _).up (by unfold dr_c; omega) _) hb13
theorem c_Md_readAhead (hM : md_sh en M T P) {x : a_Q} (ht : a_tpb (J (M + 1)) (J M 20)) (hb : a_qb (J M 20) x) (hd : dr_b J M) {wd : Nat} {lo hi : Int} (hw : wd < 4) (hlo : lo = dn_lo wd) (hhi : hi = dn_hi wd) (hlb : 0 ≤ lo ∧ lo ≤ hi ∧ hi ≤ 16)
    (hq : ∀ (J' : Nat → Nat → Int) (x' : a_Q), s_ra J M wd lo hi x J' x' → dr_b J' M → dr_f J J' M → a_qb (J M 20) x' → Q none (T, m_I (md_q J' M x'.1 x'.2.1 x'.2.2.1 x'.2.2.2.1 x'.2.2.2.2.1 x'.2.2.2.2.2), P, L, z, w)) : m_call en (d + 7) mMd_readAhead [.ref M, .int (m_i (wd : Int)), .int (m_i (wd : Int)), .int (m_i lo), .int (m_i hi)] (T, m_I (md_q J M x.1 x.2.1 x.2.2.1 x.2.2.2.1 x.2.2.2.2.1 x.2.2.2.2.2), P, L, z, w) Q := by
  have hk : 0 ≤ x.2.2.2.2.1 ∧ x.2.2.2.2.1 ≤ 3 := hb.2.2.2.2.1
  have h18 := hd.2.2
  have e0 : (wd : Int).toNat = wd := Int.toNat_natCast wd
  have hto : J (M + 3) (wd : Int).toNat = 0 ∨ J (M + 3) (wd : Int).toNat = 1 := by
    have h9 : 0 ≤ J (M + 3) wd ∧ J (M + 3) wd ≤ 1 := hd.2.1 3 (by omega) (by omega) wd (by show wd < 18; omega)
    rw [e0]
    omega
  have rest : ∀ y : a_Q, y = a_wr (decide (J M 18 ≠ 0)) 1 x → a_qb (J M 20) y → m_wp en (d + 6) mMd_readAhead 12 [some (.ref M), some (.int (m_i (wd : Int))), some (.int (m_i (wd : Int))), some (.int (m_i lo)), some (.int (m_i hi))] [] (T, m_I (md_q J M y.1 y.2.1 y.2.2.1 y.2.2.2.1 y.2.2.2.2.1 y.2.2.2.2.2), P, L, z, w) Q := fun y hy hby => by
    refine r_aln eMd_readAhead_12 rfl ?_
    refine r_iln eMd_readAhead_13 rfl ?_
    refine r_vir eMd_readAhead_14 rfl rfl rfl hM.2.1 rfl rfl ?_
    refine c_Md_once (x := y) hM ht (by assumption) (by omega) hto (fun xo ho hbo => ?_)
    · show m_wp en _ mMd_readAhead 17 [some (.ref M), some (.int (m_i ((wd : Int)))), some (.int (m_i ((wd : Int)))), some (.int (m_i (lo))), some (.int (m_i (hi)))] [] (T, m_I (((md_q (m_up J (M + 3) (wd : Int).toNat 1) M xo.1 xo.2.1 xo.2.2.1 xo.2.2.2.1 xo.2.2.2.2.1 xo.2.2.2.2.2))), P, L, z, w) Q
      refine r_aln eMd_readAhead_17 rfl ?_
      refine r_iln eMd_readAhead_18 rfl ?_
      refine r_aln eMd_readAhead_19 rfl ?_
      refine r_iln eMd_readAhead_20 rfl ?_
      refine r_il eMd_readAhead_21 rfl ?_
      refine r_vir eMd_readAhead_23 rfl rfl rfl hM.2.1 rfl rfl ?_
      refine t_Md_numeral (B := (m_up J (M + 3) (wd : Int).toNat 1)) (x := xo) hM (funext (fun i => by simp [m_up])) (by simp [m_up]) ht (by assumption) (by unfold m_in; omega) (by unfold m_in; omega) (fun r23 x23 hn23 hb23 => ?_)
      · have bd23 := s_nu_bd hn23
        show m_wp en _ mMd_readAhead 26 [some (.ref M), some (.int (m_i ((wd : Int)))), some (.int (m_i ((wd : Int)))), some (.int (m_i (lo))), some (.int (m_i (hi)))] [(.int (m_i (r23))), (.int (m_i ((wd : Int)))), (.ref M)] (T, m_I (((md_q (m_up J (M + 3) (wd : Int).toNat 1) M x23.1 x23.2.1 x23.2.2.1 x23.2.2.2.1 x23.2.2.2.2.1 x23.2.2.2.2.2))), P, L, z, w) Q
        refine r_vir eMd_readAhead_26 rfl rfl rfl hM.2.1 rfl rfl ?_
        refine t_Md_reads (i := 13 + wd) hM (by omega) (by omega) ?_
        show m_wp en _ mMd_readAhead 29 [some (.ref M), some (.int (m_i ((wd : Int)))), some (.int (m_i ((wd : Int)))), some (.int (m_i (lo))), some (.int (m_i (hi)))] [] (T, m_I (((md_q (m_up (m_up J (M + 3) (wd : Int).toNat 1) (M + 2) (13 + wd) (r23)) M x23.1 x23.2.1 x23.2.2.1 x23.2.2.2.1 x23.2.2.2.2.1 x23.2.2.2.2.2))), P, L, z, w) Q
        refine r_ret eMd_readAhead_29 rfl ?_
        refine hq _ x23 ⟨xo, r23, by rw [← hy]; exact ho, hn23, by rw [e0]⟩ ((hd.r (k := 3) (by omega) (by omega) (by show (0 : Int) ≤ 1 ∧ (1 : Int) ≤ 1; omega)).n (by omega) (by rw [← hlo, ← hhi]; omega)) (((dr_f.refl J M).up (by unfold dr_c; omega) _).up (by unfold dr_c; omega) _) hb23
  refine m_into (by decide) (Nat.le_of_ble_eq_true rfl) rfl ?_
  show m_wp en _ mMd_readAhead 0 [some (.ref M), some (.int (m_i ((wd : Int)))), some (.int (m_i ((wd : Int)))), some (.int (m_i (lo))), some (.int (m_i (hi)))] [] (T, m_I ((md_q J M x.1 x.2.1 x.2.2.1 x.2.2.2.1 x.2.2.2.2.1 x.2.2.2.2.2)), P, L, z, w) Q
  refine r_aln eMd_readAhead_0 rfl ?_
  refine r_gete (x := J M 18) eMd_readAhead_1 rfl (by decide) hM.2.1 (by simp [m_up, md_put_at, m_fl, md_q]) ?_
  refine r_zeq (tgt := 12) eMd_readAhead_4 rfl ⟨(by omega), (by omega)⟩ (fun c4 => ?_) (fun c4 => ?_)
  · first | (have ee : x1 = a_wr (decide (J M 18 ≠ 0)) 1 x := by rw [e1, decide_eq_true (show J M 18 ≠ 0 by omega)]) <;> exact rest x1 ee (by rw [e1]; exact a_wr_b hb (by omega)) | exact rest x (a_wr_n (fun q => by have := of_decide_eq_true q; omega)).symm hb
  · refine r_aln eMd_readAhead_7 rfl ?_
    refine r_con eMd_readAhead_8 ?_
    refine r_vir eMd_readAhead_9 rfl rfl rfl hM.2.1 rfl rfl ?_
    refine t_Md_wrong hM (by omega) (fun x1 e1 => ?_)
    · show m_wp en _ mMd_readAhead 12 [some (.ref M), some (.int (m_i ((wd : Int)))), some (.int (m_i ((wd : Int)))), some (.int (m_i (lo))), some (.int (m_i (hi)))] [] (T, m_I (((md_q J M x1.1 x1.2.1 x1.2.2.1 x1.2.2.2.1 x1.2.2.2.2.1 x1.2.2.2.2.2))), P, L, z, w) Q
      first | (have ee : x1 = a_wr (decide (J M 18 ≠ 0)) 1 x := by rw [e1, decide_eq_true (show J M 18 ≠ 0 by omega)]) <;> exact rest x1 ee (by rw [e1]; exact a_wr_b hb (by omega)) | exact rest x (a_wr_n (fun q => by have := of_decide_eq_true q; omega)).symm hb
end MDLC
