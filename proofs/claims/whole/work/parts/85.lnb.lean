/-! more lines of a text -/
theorem s_nu_ok {f : Nat → Int} {n less lo hi : Int} {x x' : a_Q} {r : Int} (h : s_nu f n less lo hi x r x') (hk : x'.2.2.2.2.1 = 0) : lo ≤ r ∧ r ≤ hi := by
  rcases h with ⟨h1, -, h⟩ | ⟨-, h⟩
  · rw [h] at hk; exact absurd hk h1
  · rcases h with ⟨-, -, h⟩ | ⟨-, h⟩
    · rw [h] at hk
      exact absurd hk (by show (1 : Int) ≠ 0; omega)
    · rcases h with ⟨-, -, h⟩ | ⟨h1, h2, -⟩
      · rw [h] at hk
        exact absurd hk (by show (2 : Int) ≠ 0; omega)
      · omega
theorem s_ah_ok {lo hi : Int} {x x' : a_Q} {r : Int} (h : s_ah lo hi x r x') (hk : x'.2.2.2.2.1 = 0) : x.2.2.2.2.1 = 0 ∧ lo ≤ r ∧ r ≤ hi := by
  rcases h with ⟨h1, -, h⟩ | ⟨h0, h⟩
  · rw [h] at hk; exact absurd hk h1
  · rcases h with ⟨-, -, h⟩ | ⟨-, h⟩
    · rw [h] at hk
      exact absurd hk (by show (1 : Int) ≠ 0; omega)
    · rcases h with ⟨-, -, h⟩ | ⟨h1, h2, -⟩
      · rw [h] at hk
        exact absurd hk (by show (2 : Int) ≠ 0; omega)
      · exact ⟨h0, by omega⟩
theorem a_wr_v (b : Bool) (y : Int) (x : a_Q) : (a_wr b y x).2.2.2.1 = x.2.2.2.1 := by
  unfold a_wr
  split <;> rfl
def s_jb (J : Nat → Nat → Int) (M : Nat) (x : a_Q) (J' : Nat → Nat → Int) (x' : a_Q) : Prop := ∃ x2 x3 x4 r1 r2, s_go (J (M + 1)) (J M 20) (a_wr (decide (J (M + 2) 24 = 3)) 2 x) x2 ∧ s_nu (J (M + 1)) (J M 20) 0 0 (J (M + 2) 13 - 1) x2 r1 x3 ∧ s_ah 0 (J (M + 2) 13 - 1) x3 r2 x4 ∧ s_go (J (M + 1)) (J M 20) (a_wr (decide (r1 = r2)) 2 x4) x' ∧
  J' = if x'.2.2.2.2.1 = 0 then m_up (m_up (m_up J (M + 14) (3 + J (M + 2) 24).toNat r1) (M + 15) (3 + J (M + 2) 24).toNat r2) (M + 2) 24 (J (M + 2) 24 + 1) else J
def s_do (J : Nat → Nat → Int) (M : Nat) (x : a_Q) (J' : Nat → Nat → Int) (x' : a_Q) : Prop := ∃ x2 x3 r, s_go (J (M + 1)) (J M 20) (a_wr (decide (J (M + 2) 18 = 16)) 2 x) x2 ∧ s_go (J (M + 1)) (J M 20) (a_wr (decide (x2.2.2.1 ≠ 0 ∨ x2.2.2.2.1 < 12)) 1 x2) x3 ∧ s_nu (J (M + 1)) (J M 20) 0 1 30 x3 r x' ∧
  J' = if x'.2.2.2.2.1 = 0 then m_up (m_up (m_up J (M + 12) (16 + J (M + 2) 18).toNat x2.2.2.2.1) (M + 13) (16 + J (M + 2) 18).toNat r) (M + 2) 18 (J (M + 2) 18 + 1) else J
def s_wi (J : Nat → Nat → Int) (M : Nat) (x : a_Q) (J' : Nat → Nat → Int) (x' : a_Q) : Prop := ∃ x2 x3 r1 r2, s_go (J (M + 1)) (J M 20) (a_wr (decide (J (M + 2) 19 = 8)) 2 x) x2 ∧ s_nu (J (M + 1)) (J M 20) 0 (if x2.2.2.2.2.1 ≠ 0 ∨ J (M + 2) 19 = 0 then 0 else J (M + 10) (8 + J (M + 2) 19 - 1).toNat + 1) 999 x2 r1 x3 ∧ s_nu (J (M + 1)) (J M 20) 1 (-4) 4 x3 r2 x' ∧
  J' = if x'.2.2.2.2.1 = 0 then m_up (m_up (m_up J (M + 10) (8 + J (M + 2) 19).toNat r1) (M + 11) (8 + J (M + 2) 19).toNat r2) (M + 2) 19 (J (M + 2) 19 + 1) else J
def s_pi (J : Nat → Nat → Int) (M : Nat) (x : a_Q) (J' : Nat → Nat → Int) (x' : a_Q) : Prop := ∃ x2 x3 x4 r1 r2, s_go (J (M + 1)) (J M 20) (a_wr (decide (J (M + 2) 25 = 8)) 2 x) x2 ∧ s_ah 0 (J (M + 2) 13 - 1) x2 r1 x3 ∧ s_go (J (M + 1)) (J M 20) (a_wr (decide (0 < J (M + 16) (16 + r1).toNat)) 3 x3) x4 ∧ s_nu (J (M + 1)) (J M 20) 0 1 (J (M + 2) 14) x4 r2 x' ∧
  J' = if x'.2.2.2.2.1 = 0 then m_up (m_up J (M + 16) (16 + r1).toNat r2) (M + 2) 25 (J (M + 2) 25 + 1) else J
section MDLB
variable {en : Nat → Nat} {d : Nat} {T : Nat → Option (Nat × Nat)} {J J0 J1 : Nat → Nat → Int} {P : Nat → Nat → Option Nat} {L : Nat → Nat → Int64} {z w M : Nat} {Q : m_Q} {σ : a_S} {a p s v k g : Int}
theorem c_Md_readJob (hM : md_sh en M T P) {x : a_Q} (ht : a_tpb (J (M + 1)) (J M 20)) (hb : a_qb (J M 20) x) (hd : dr_b J M)
    (hq : ∀ (J' : Nat → Nat → Int) (x' : a_Q), s_jb J M x J' x' → dr_b J' M → dr_f J J' M → a_qb (J M 20) x' → Q none (T, m_I (md_q J' M x'.1 x'.2.1 x'.2.2.1 x'.2.2.2.1 x'.2.2.2.2.1 x'.2.2.2.2.2), P, L, z, w)) : m_call en (d + 7) mMd_readJob [.ref M] (T, m_I (md_q J M x.1 x.2.1 x.2.2.1 x.2.2.2.1 x.2.2.2.2.1 x.2.2.2.2.2), P, L, z, w) Q := by
  obtain ⟨n0, n1, n4, n5, n6, n7, n11, n12⟩ := dr_nb hd
  have hk : 0 ≤ x.2.2.2.2.1 ∧ x.2.2.2.2.1 ≤ 3 := hb.2.2.2.2.1
  have rest2 : ∀ (x2 x3 x4 y : a_Q) (r1 r2 : Int), s_go (J (M + 1)) (J M 20) (a_wr (decide (J (M + 2) 24 = 3)) 2 x) x2 → s_nu (J (M + 1)) (J M 20) 0 0 (J (M + 2) 13 - 1) x2 r1 x3 → s_ah 0 (J (M + 2) 13 - 1) x3 r2 x4 → y = a_wr (decide (r1 = r2)) 2 x4 → a_qb (J M 20) y → m_wp en (d + 6) mMd_readJob 67 [some (.ref M), some (.int (m_i (3 + J (M + 2) 24))), some (.int (m_i r1)), some (.int (m_i r2))] [] (T, m_I (md_q J M y.1 y.2.1 y.2.2.1 y.2.2.2.1 y.2.2.2.2.1 y.2.2.2.2.2), P, L, z, w) Q := fun x2 x3 x4 y r1 r2 g1 g2 g3 hy hby => by
    refine r_aln eMd_readJob_67 rfl ?_
    refine r_vir eMd_readJob_68 rfl rfl rfl hM.2.1 rfl rfl ?_
    refine t_Md_goOn (x := y) hM ht (by assumption) (fun xg68 hg68 hbg68 => ?_)
    · have hkg68 := hbg68.2.2.2.2.1
      show m_wp en _ mMd_readJob 71 [some (.ref M), some (.int (m_i (3 + J (M + 2) 24))), some (.int (m_i (r1))), some (.int (m_i (r2)))] [] (T, m_I (((md_q J M xg68.1 xg68.2.1 xg68.2.2.1 xg68.2.2.2.1 xg68.2.2.2.2.1 xg68.2.2.2.2.2))), P, L, z, w) Q
      refine r_aln eMd_readJob_71 rfl ?_
      refine r_gete (x := xg68.2.2.2.2.1) eMd_readJob_72 rfl (by decide) hM.2.1 (by simp [m_up, md_q, md_put_at, m_fl]) ?_
      refine r_zeq (tgt := 79) eMd_readJob_75 rfl ⟨(by omega), (by omega)⟩ (fun c75 => ?_) (fun c75 => ?_)
      · have hk0 : xg68.2.2.2.2.1 = 0 := by omega
        have hk1 := hk0
        rw [s_go_k hg68, hy] at hk1
        have hk2 := s_ah_ok g3 (a_wr_k (by omega) hk1).2
        have hk3 := s_nu_ok g2 hk2.1
        have hk4 := s_nu_f g2 hk2.1
        rw [s_go_k g1] at hk4
        have hne : J (M + 2) 24 ≠ 3 := fun q => (a_wr_k (by omega) hk4).1 (decide_eq_true q)
        refine r_aln eMd_readJob_79 rfl ?_
        refine m_getR eMd_readJob_80 rfl hM.2.1 (md_jobFrom_p hM) ?_
        refine r_iln eMd_readJob_83 rfl ?_
        refine r_iln eMd_readJob_84 rfl ?_
        refine r_iast eMd_readJob_85 (md_jobFrom_t hM) (by decide) (by omega) (by omega) (md_b hM 14) ?_
        rw [q_up (by omega)]
        refine r_aln eMd_readJob_86 rfl ?_
        refine m_getR eMd_readJob_87 rfl hM.2.1 (md_jobTo_p hM) ?_
        refine r_iln eMd_readJob_90 rfl ?_
        refine r_iln eMd_readJob_91 rfl ?_
        refine r_iast eMd_readJob_92 (md_jobTo_t hM) (by decide) (by omega) (by omega) (md_b hM 15) ?_
        rw [q_up (by omega)]
        refine r_aln eMd_readJob_93 rfl ?_
        refine r_bip eMd_readJob_94 (by decide) ?_
        refine r_aln eMd_readJob_96 rfl ?_
        refine r_bip eMd_readJob_97 (by decide) ?_
        refine r_vir eMd_readJob_99 rfl rfl rfl hM.2.1 rfl rfl ?_
        refine t_Md_reading (i := 24) (u := J (M + 2) 24) hM (by omega) rfl (by simp [m_up]) ?_
        show m_wp en _ mMd_readJob 102 [some (.ref M), some (.int (m_i (3 + J (M + 2) 24))), some (.int (m_i (r1))), some (.int (m_i (r2)))] [(.int (m_i (J (M + 2) 24))), (.int (m_i (11))), (.ref M)] (T, m_I ((md_q (m_up (m_up J (M + 14) ((3 + J (M + 2) 24).toNat) r1) (M + 15) ((3 + J (M + 2) 24).toNat) r2) M xg68.1 xg68.2.1 xg68.2.2.1 xg68.2.2.2.1 xg68.2.2.2.2.1 xg68.2.2.2.2.2)), P, L, z, w) Q
        refine r_con eMd_readJob_102 ?_
        refine r_add eMd_readJob_103 ?_
        refine r_vir eMd_readJob_104 rfl rfl rfl hM.2.1 rfl rfl ?_
        refine t_Md_reads (i := 24) hM (by omega) rfl ?_
        show m_wp en _ mMd_readJob 107 [some (.ref M), some (.int (m_i (3 + J (M + 2) 24))), some (.int (m_i (r1))), some (.int (m_i (r2)))] [] (T, m_I (((md_q (m_up (m_up (m_up J (M + 14) ((3 + J (M + 2) 24).toNat) r1) (M + 15) ((3 + J (M + 2) 24).toNat) r2) (M + 2) 24 (((J (M + 2) 24) + (1)))) M xg68.1 xg68.2.1 xg68.2.2.1 xg68.2.2.2.1 xg68.2.2.2.2.1 xg68.2.2.2.2.2))), P, L, z, w) Q
        refine r_ret eMd_readJob_107 rfl ?_
        refine hq _ xg68 ⟨x2, x3, x4, r1, r2, g1, g2, g3, by rw [← hy]; exact hg68, (if_pos hk0).symm⟩ (((hd.r (k := 14) (by omega) (by omega) (by show 0 ≤ r1 ∧ r1 ≤ 15; omega)).r (k := 15) (by omega) (by omega) (by show 0 ≤ r2 ∧ r2 ≤ 15; omega)).n (y := 11) (by omega) (by show 0 ≤ J (M + 2) 24 + 1 ∧ J (M + 2) 24 + 1 ≤ 3; omega)) ((((dr_f.refl J M).up (by unfold dr_c; omega) _).up (by unfold dr_c; omega) _).up (by unfold dr_c; omega) _) hbg68
      · refine r_ret eMd_readJob_78 rfl ?_
        exact hq J xg68 ⟨x2, x3, x4, r1, r2, g1, g2, g3, by rw [← hy]; exact hg68, (if_neg (by omega)).symm⟩ hd (dr_f.refl J M) hbg68
  have rest : ∀ y : a_Q, y = a_wr (decide (J (M + 2) 24 = 3)) 2 x → a_qb (J M 20) y → m_wp en (d + 6) mMd_readJob 20 [some (.ref M), some (.int (m_i (3 + J (M + 2) 24))), none, none] [] (T, m_I (md_q J M y.1 y.2.1 y.2.2.1 y.2.2.2.1 y.2.2.2.2.1 y.2.2.2.2.2), P, L, z, w) Q := fun y hy hby => by
    refine r_aln eMd_readJob_20 rfl ?_
    refine r_vir eMd_readJob_21 rfl rfl rfl hM.2.1 rfl rfl ?_
    refine t_Md_goOn (x := y) hM ht (by assumption) (fun xg21 hg21 hbg21 => ?_)
    · have hkg21 := hbg21.2.2.2.2.1
      show m_wp en _ mMd_readJob 24 [some (.ref M), some (.int (m_i (3 + J (M + 2) 24))), none, none] [] (T, m_I (((md_q J M xg21.1 xg21.2.1 xg21.2.2.1 xg21.2.2.2.1 xg21.2.2.2.2.1 xg21.2.2.2.2.2))), P, L, z, w) Q
      refine r_aln eMd_readJob_24 rfl ?_
      refine r_con eMd_readJob_25 ?_
      refine r_aln eMd_readJob_26 rfl ?_
      refine r_con eMd_readJob_27 ?_
      refine r_vir eMd_readJob_28 rfl rfl rfl hM.2.1 rfl rfl ?_
      refine t_Md_reading (i := 13) (u := J (M + 2) 13) hM (by omega) rfl (by simp [m_up]) ?_
      show m_wp en _ mMd_readJob 31 [some (.ref M), some (.int (m_i (3 + J (M + 2) 24))), none, none] [(.int (m_i (J (M + 2) 13))), (.int (m_i (0))), (.ref M)] (T, m_I (((md_q J M xg21.1 xg21.2.1 xg21.2.2.1 xg21.2.2.2.1 xg21.2.2.2.2.1 xg21.2.2.2.2.2))), P, L, z, w) Q
      refine r_con eMd_readJob_31 ?_
      refine r_sub eMd_readJob_32 ?_
      refine r_vir eMd_readJob_33 rfl rfl rfl hM.2.1 rfl rfl ?_
      refine c_Md_numeral (x := xg21) hM ht (by assumption) (by unfold m_in; omega) (by unfold m_in; omega) (fun r33 x33 hn33 hb33 => ?_)
      · have bd33 := s_nu_bd hn33
        show m_wp en _ mMd_readJob 36 [some (.ref M), some (.int (m_i (3 + J (M + 2) 24))), none, none] [(.int (m_i (r33)))] (T, m_I (((md_q J M x33.1 x33.2.1 x33.2.2.1 x33.2.2.2.1 x33.2.2.2.2.1 x33.2.2.2.2.2))), P, L, z, w) Q
        refine r_isn (ls' := [some (.ref M), some (.int (m_i (3 + J (M + 2) 24))), some (.int (m_i (r33))), none]) eMd_readJob_36 (Nat.le_of_ble_eq_true rfl) rfl ?_
        refine r_aln eMd_readJob_37 rfl ?_
        refine r_con eMd_readJob_38 ?_
        refine r_aln eMd_readJob_39 rfl ?_
        refine r_con eMd_readJob_40 ?_
        refine r_vir eMd_readJob_41 rfl rfl rfl hM.2.1 rfl rfl ?_
        refine t_Md_reading (i := 13) (u := J (M + 2) 13) hM (by omega) rfl (by simp [m_up]) ?_
        show m_wp en _ mMd_readJob 44 [some (.ref M), some (.int (m_i (3 + J (M + 2) 24))), some (.int (m_i (r33))), none] [(.int (m_i (J (M + 2) 13))), (.int (m_i (0))), (.ref M)] (T, m_I (((md_q J M x33.1 x33.2.1 x33.2.2.1 x33.2.2.2.1 x33.2.2.2.2.1 x33.2.2.2.2.2))), P, L, z, w) Q
        refine r_con eMd_readJob_44 ?_
        refine r_sub eMd_readJob_45 ?_
        refine r_vir eMd_readJob_46 rfl rfl rfl hM.2.1 rfl rfl ?_
        refine c_Md_atHand (x := x33) hM (by assumption) (by unfold m_in; omega) (by unfold m_in; omega) (fun r46 x46 hn46 hb46 => ?_)
        · have bd46 := s_ah_bd hn46
          have hkg46 := hb46.2.2.2.2.1
          show m_wp en _ mMd_readJob 49 [some (.ref M), some (.int (m_i (3 + J (M + 2) 24))), some (.int (m_i (r33))), none] [(.int (m_i (r46)))] (T, m_I (((md_q J M x46.1 x46.2.1 x46.2.2.1 x46.2.2.2.1 x46.2.2.2.2.1 x46.2.2.2.2.2))), P, L, z, w) Q
          refine r_isn (ls' := [some (.ref M), some (.int (m_i (3 + J (M + 2) 24))), some (.int (m_i (r33))), some (.int (m_i (r46)))]) eMd_readJob_49 (Nat.le_of_ble_eq_true rfl) rfl ?_
          have hg21' : s_go (J (M + 1)) (J M 20) (a_wr (decide (J (M + 2) 24 = 3)) 2 x) xg21 := by rw [← hy]; exact hg21
          refine r_aln eMd_readJob_50 rfl ?_
          refine r_gete (x := x46.2.2.2.2.1) eMd_readJob_51 rfl (by decide) hM.2.1 (by simp [m_up, md_q, md_put_at, m_fl]) ?_
          refine r_zne (tgt := 67) eMd_readJob_54 rfl ⟨(by omega), (by omega)⟩ (fun c54 => ?_) (fun c54 => ?_)
          · first | exact rest2 xg21 x33 x46 x1 r33 r46 hg21' hn33 hn46 (by rw [e1, decide_eq_true (show r33 = r46 by omega)]) (by rw [e1]; exact a_wr_b hb46 (by omega)) | exact rest2 xg21 x33 x46 x46 r33 r46 hg21' hn33 hn46 (a_wr_n (fun q => by have := of_decide_eq_true q; omega)).symm hb46 | exact rest2 xg21 x33 x46 x46 r33 r46 hg21' hn33 hn46 (show x46 = a_wr _ 2 x46 from (if_neg (fun q => by have := q.2; omega)).symm) hb46
          · refine r_iln eMd_readJob_57 rfl ?_
            refine r_iln eMd_readJob_58 rfl ?_
            refine r_cne (tgt := 67) eMd_readJob_59 rfl ⟨(by omega), (by omega)⟩ ⟨(by omega), (by omega)⟩ (fun c59 => ?_) (fun c59 => ?_)
            · first | exact rest2 xg21 x33 x46 x1 r33 r46 hg21' hn33 hn46 (by rw [e1, decide_eq_true (show r33 = r46 by omega)]) (by rw [e1]; exact a_wr_b hb46 (by omega)) | exact rest2 xg21 x33 x46 x46 r33 r46 hg21' hn33 hn46 (a_wr_n (fun q => by have := of_decide_eq_true q; omega)).symm hb46 | exact rest2 xg21 x33 x46 x46 r33 r46 hg21' hn33 hn46 (show x46 = a_wr _ 2 x46 from (if_neg (fun q => by have := q.2; omega)).symm) hb46
            · refine r_aln eMd_readJob_62 rfl ?_
              refine r_con eMd_readJob_63 ?_
              refine r_vir eMd_readJob_64 rfl rfl rfl hM.2.1 rfl rfl ?_
              refine t_Md_wrong hM (by omega) (fun x1 e1 => ?_)
              · show m_wp en _ mMd_readJob 67 [some (.ref M), some (.int (m_i (3 + J (M + 2) 24))), some (.int (m_i (r33))), some (.int (m_i (r46)))] [] (T, m_I (((md_q J M x1.1 x1.2.1 x1.2.2.1 x1.2.2.2.1 x1.2.2.2.2.1 x1.2.2.2.2.2))), P, L, z, w) Q
                first | exact rest2 xg21 x33 x46 x1 r33 r46 hg21' hn33 hn46 (by rw [e1, decide_eq_true (show r33 = r46 by omega)]) (by rw [e1]; exact a_wr_b hb46 (by omega)) | exact rest2 xg21 x33 x46 x46 r33 r46 hg21' hn33 hn46 (a_wr_n (fun q => by have := of_decide_eq_true q; omega)).symm hb46 | exact rest2 xg21 x33 x46 x46 r33 r46 hg21' hn33 hn46 (show x46 = a_wr _ 2 x46 from (if_neg (fun q => by have := q.2; omega)).symm) hb46
  refine m_into (by decide) (Nat.le_of_ble_eq_true rfl) rfl ?_
  show m_wp en _ mMd_readJob 0 [some (.ref M), none, none, none] [] (T, m_I ((md_q J M x.1 x.2.1 x.2.2.1 x.2.2.2.1 x.2.2.2.2.1 x.2.2.2.2.2)), P, L, z, w) Q
  refine r_con eMd_readJob_0 ?_
  refine r_aln eMd_readJob_1 rfl ?_
  refine r_bip eMd_readJob_2 (by decide) ?_
  refine r_vir eMd_readJob_4 rfl rfl rfl hM.2.1 rfl rfl ?_
  refine t_Md_reading (i := 24) (u := J (M + 2) 24) hM (by omega) rfl (by simp [m_up]) ?_
  show m_wp en _ mMd_readJob 7 [some (.ref M), none, none, none] [(.int (m_i (J (M + 2) 24))), (.int (m_i (3)))] (T, m_I ((md_q J M x.1 x.2.1 x.2.2.1 x.2.2.2.1 x.2.2.2.2.1 x.2.2.2.2.2)), P, L, z, w) Q
  refine r_add eMd_readJob_7 ?_
  refine r_isn (ls' := [some (.ref M), some (.int (m_i ((3) + (J (M + 2) 24)))), none, none]) eMd_readJob_8 (Nat.le_of_ble_eq_true rfl) rfl ?_
  refine r_iln eMd_readJob_9 rfl ?_
  refine r_bip eMd_readJob_10 (by decide) ?_
  refine r_cne (tgt := 20) eMd_readJob_12 rfl ⟨(by omega), (by omega)⟩ ⟨(by omega), (by omega)⟩ (fun c12 => ?_) (fun c12 => ?_)
  · first | (have ee : x1 = a_wr (decide (J (M + 2) 24 = 3)) 2 x := by rw [e1, decide_eq_true (show J (M + 2) 24 = 3 by omega)]) <;> exact rest x1 ee (by rw [e1]; exact a_wr_b hb (by omega)) | exact rest x (a_wr_n (fun q => by have := of_decide_eq_true q; omega)).symm hb
  · refine r_aln eMd_readJob_15 rfl ?_
    refine r_con eMd_readJob_16 ?_
    refine r_vir eMd_readJob_17 rfl rfl rfl hM.2.1 rfl rfl ?_
    refine t_Md_wrong hM (by omega) (fun x1 e1 => ?_)
    · show m_wp en _ mMd_readJob 20 [some (.ref M), some (.int (m_i ((3) + (J (M + 2) 24)))), none, none] [] (T, m_I (((md_q J M x1.1 x1.2.1 x1.2.2.1 x1.2.2.2.1 x1.2.2.2.2.1 x1.2.2.2.2.2))), P, L, z, w) Q
      first | (have ee : x1 = a_wr (decide (J (M + 2) 24 = 3)) 2 x := by rw [e1, decide_eq_true (show J (M + 2) 24 = 3 by omega)]) <;> exact rest x1 ee (by rw [e1]; exact a_wr_b hb (by omega)) | exact rest x (a_wr_n (fun q => by have := of_decide_eq_true q; omega)).symm hb
theorem c_Md_readDo (hM : md_sh en M T P) {x : a_Q} (ht : a_tpb (J (M + 1)) (J M 20)) (hb : a_qb (J M 20) x) (hd : dr_b J M)
    (hq : ∀ (J' : Nat → Nat → Int) (x' : a_Q), s_do J M x J' x' → dr_b J' M → dr_f J J' M → a_qb (J M 20) x' → Q none (T, m_I (md_q J' M x'.1 x'.2.1 x'.2.2.1 x'.2.2.2.1 x'.2.2.2.2.1 x'.2.2.2.2.2), P, L, z, w)) : m_call en (d + 7) mMd_readDo [.ref M] (T, m_I (md_q J M x.1 x.2.1 x.2.2.1 x.2.2.2.1 x.2.2.2.2.1 x.2.2.2.2.2), P, L, z, w) Q := by
  obtain ⟨n0, n1, n4, n5, n6, n7, n11, n12⟩ := dr_nb hd
  have hk : 0 ≤ x.2.2.2.2.1 ∧ x.2.2.2.2.1 ≤ 3 := hb.2.2.2.2.1
  have rest2 : ∀ (x2 y : a_Q), s_go (J (M + 1)) (J M 20) (a_wr (decide (J (M + 2) 18 = 16)) 2 x) x2 → a_qb (J M 20) x2 → y = a_wr (decide (x2.2.2.1 ≠ 0 ∨ x2.2.2.2.1 < 12)) 1 x2 → a_qb (J M 20) y → m_wp en (d + 6) mMd_readDo 52 [some (.ref M), some (.int (m_i (16 + J (M + 2) 18))), none, none] [] (T, m_I (md_q J M y.1 y.2.1 y.2.2.1 y.2.2.2.1 y.2.2.2.2.1 y.2.2.2.2.2), P, L, z, w) Q := fun x2 y g1 gb hy hby => by
    have hv : -2147483648 ≤ x2.2.2.2.1 ∧ x2.2.2.2.1 < 2147483648 := gb.2.2.2.1
    have ev : y.2.2.2.1 = x2.2.2.2.1 := by rw [hy]; exact a_wr_v _ _ _
    refine r_aln eMd_readDo_52 rfl ?_
    refine r_gete (x := y.2.2.2.1) eMd_readDo_53 rfl (by decide) hM.2.1 (by simp [m_up, md_q, md_put_at, m_fl]) ?_
    refine r_isn (ls' := [some (.ref M), some (.int (m_i (16 + J (M + 2) 18))), some (.int (m_i (y.2.2.2.1))), none]) eMd_readDo_56 (Nat.le_of_ble_eq_true rfl) rfl ?_
    refine r_aln eMd_readDo_57 rfl ?_
    refine r_vir eMd_readDo_58 rfl rfl rfl hM.2.1 rfl rfl ?_
    refine t_Md_goOn (x := y) hM ht (by assumption) (fun xg58 hg58 hbg58 => ?_)
    · have hkg58 := hbg58.2.2.2.2.1
      show m_wp en _ mMd_readDo 61 [some (.ref M), some (.int (m_i (16 + J (M + 2) 18))), some (.int (m_i (y.2.2.2.1))), none] [] (T, m_I (((md_q J M xg58.1 xg58.2.1 xg58.2.2.1 xg58.2.2.2.1 xg58.2.2.2.2.1 xg58.2.2.2.2.2))), P, L, z, w) Q
      refine r_aln eMd_readDo_61 rfl ?_
      refine r_con eMd_readDo_62 ?_
      refine r_bip eMd_readDo_63 (by decide) ?_
      refine r_vir eMd_readDo_65 rfl rfl rfl hM.2.1 rfl rfl ?_
      refine c_Md_numeral (x := xg58) hM ht (by assumption) (by unfold m_in; omega) (by unfold m_in; omega) (fun r65 x65 hn65 hb65 => ?_)
      · have bd65 := s_nu_bd hn65
        show m_wp en _ mMd_readDo 68 [some (.ref M), some (.int (m_i (16 + J (M + 2) 18))), some (.int (m_i (y.2.2.2.1))), none] [(.int (m_i (r65)))] (T, m_I (((md_q J M x65.1 x65.2.1 x65.2.2.1 x65.2.2.2.1 x65.2.2.2.2.1 x65.2.2.2.2.2))), P, L, z, w) Q
        refine r_isn (ls' := [some (.ref M), some (.int (m_i (16 + J (M + 2) 18))), some (.int (m_i (y.2.2.2.1))), some (.int (m_i (r65)))]) eMd_readDo_68 (Nat.le_of_ble_eq_true rfl) rfl ?_
        have hkk := hb65.2.2.2.2.1
        refine r_aln eMd_readDo_69 rfl ?_
        refine r_gete (x := x65.2.2.2.2.1) eMd_readDo_70 rfl (by decide) hM.2.1 (by simp [m_up, md_q, md_put_at, m_fl]) ?_
        refine r_zeq (tgt := 77) eMd_readDo_73 rfl ⟨(by omega), (by omega)⟩ (fun c73 => ?_) (fun c73 => ?_)
        · have hk0 : x65.2.2.2.2.1 = 0 := by omega
          have hk1 := s_nu_f hn65 hk0
          rw [s_go_k hg58, hy] at hk1
          have hk2 := (a_wr_k (by omega) hk1).2
          rw [s_go_k g1] at hk2
          have hne : J (M + 2) 18 ≠ 16 := fun q => (a_wr_k (by omega) hk2).1 (decide_eq_true q)
          refine r_aln eMd_readDo_77 rfl ?_
          refine m_getR eMd_readDo_78 rfl hM.2.1 (md_order_p hM) ?_
          refine r_iln eMd_readDo_81 rfl ?_
          refine r_iln eMd_readDo_82 rfl ?_
          refine r_iast eMd_readDo_83 (md_order_t hM) (by decide) (by omega) (by omega) (md_b hM 12) ?_
          rw [q_up (by omega)]
          refine r_aln eMd_readDo_84 rfl ?_
          refine m_getR eMd_readDo_85 rfl hM.2.1 (md_orderTimes_p hM) ?_
          refine r_iln eMd_readDo_88 rfl ?_
          refine r_iln eMd_readDo_89 rfl ?_
          refine r_iast eMd_readDo_90 (md_orderTimes_t hM) (by decide) (by omega) (by omega) (md_b hM 13) ?_
          rw [q_up (by omega)]
          refine r_aln eMd_readDo_91 rfl ?_
          refine r_con eMd_readDo_92 ?_
          refine r_aln eMd_readDo_93 rfl ?_
          refine r_con eMd_readDo_94 ?_
          refine r_vir eMd_readDo_95 rfl rfl rfl hM.2.1 rfl rfl ?_
          refine t_Md_reading (i := 18) (u := J (M + 2) 18) hM (by omega) rfl (by simp [m_up]) ?_
          show m_wp en _ mMd_readDo 98 [some (.ref M), some (.int (m_i (16 + J (M + 2) 18))), some (.int (m_i (y.2.2.2.1))), some (.int (m_i (r65)))] [(.int (m_i (J (M + 2) 18))), (.int (m_i (5))), (.ref M)] (T, m_I ((md_q (m_up (m_up J (M + 12) ((16 + J (M + 2) 18).toNat) (y.2.2.2.1)) (M + 13) ((16 + J (M + 2) 18).toNat) r65) M x65.1 x65.2.1 x65.2.2.1 x65.2.2.2.1 x65.2.2.2.2.1 x65.2.2.2.2.2)), P, L, z, w) Q
          refine r_con eMd_readDo_98 ?_
          refine r_add eMd_readDo_99 ?_
          refine r_vir eMd_readDo_100 rfl rfl rfl hM.2.1 rfl rfl ?_
          refine t_Md_reads (i := 18) hM (by omega) rfl ?_
          show m_wp en _ mMd_readDo 103 [some (.ref M), some (.int (m_i (16 + J (M + 2) 18))), some (.int (m_i (y.2.2.2.1))), some (.int (m_i (r65)))] [] (T, m_I (((md_q (m_up (m_up (m_up J (M + 12) ((16 + J (M + 2) 18).toNat) (y.2.2.2.1)) (M + 13) ((16 + J (M + 2) 18).toNat) r65) (M + 2) 18 (((J (M + 2) 18) + (1)))) M x65.1 x65.2.1 x65.2.2.1 x65.2.2.2.1 x65.2.2.2.2.1 x65.2.2.2.2.2))), P, L, z, w) Q
          refine r_ret eMd_readDo_103 rfl ?_
          refine hq _ x65 ⟨x2, xg58, r65, g1, by rw [← hy]; exact hg58, hn65, by rw [← ev]; exact (if_pos hk0).symm⟩ (((hd.r (k := 12) (by omega) (by omega) (by show -2147483648 ≤ y.2.2.2.1 ∧ y.2.2.2.1 ≤ 2147483647; omega)).r (k := 13) (by omega) (by omega) (by show 0 ≤ r65 ∧ r65 ≤ 30; omega)).n (y := 5) (by omega) (by show 0 ≤ J (M + 2) 18 + 1 ∧ J (M + 2) 18 + 1 ≤ 16; omega)) ((((dr_f.refl J M).up (by unfold dr_c; omega) _).up (by unfold dr_c; omega) _).up (by unfold dr_c; omega) _) hb65
        · refine r_ret eMd_readDo_76 rfl ?_
          exact hq J x65 ⟨x2, xg58, r65, g1, by rw [← hy]; exact hg58, hn65, (if_neg (by omega)).symm⟩ hd (dr_f.refl J M) hb65
  have rest : ∀ y : a_Q, y = a_wr (decide (J (M + 2) 18 = 16)) 2 x → a_qb (J M 20) y → m_wp en (d + 6) mMd_readDo 20 [some (.ref M), some (.int (m_i (16 + J (M + 2) 18))), none, none] [] (T, m_I (md_q J M y.1 y.2.1 y.2.2.1 y.2.2.2.1 y.2.2.2.2.1 y.2.2.2.2.2), P, L, z, w) Q := fun y hy hby => by
    refine r_aln eMd_readDo_20 rfl ?_
    refine r_vir eMd_readDo_21 rfl rfl rfl hM.2.1 rfl rfl ?_
    refine t_Md_goOn (x := y) hM ht (by assumption) (fun xg21 hg21 hbg21 => ?_)
    · have hkg21 := hbg21.2.2.2.2.1
      show m_wp en _ mMd_readDo 24 [some (.ref M), some (.int (m_i (16 + J (M + 2) 18))), none, none] [] (T, m_I (((md_q J M xg21.1 xg21.2.1 xg21.2.2.1 xg21.2.2.2.1 xg21.2.2.2.2.1 xg21.2.2.2.2.2))), P, L, z, w) Q
      have hg21' : s_go (J (M + 1)) (J M 20) (a_wr (decide (J (M + 2) 18 = 16)) 2 x) xg21 := by rw [← hy]; exact hg21
      have hs2 := hbg21.2.2.1
      have hv2 : -2147483648 ≤ xg21.2.2.2.1 ∧ xg21.2.2.2.1 < 2147483648 := hbg21.2.2.2.1
      refine r_aln eMd_readDo_24 rfl ?_
      refine r_gete (x := xg21.2.2.2.2.1) eMd_readDo_25 rfl (by decide) hM.2.1 (by simp [m_up, md_q, md_put_at, m_fl]) ?_
      refine r_zne (tgt := 52) eMd_readDo_28 rfl ⟨(by omega), (by omega)⟩ (fun c28 => ?_) (fun c28 => ?_)
      · first | exact rest2 xg21 x1 hg21' hbg21 (by rw [e1, decide_eq_true (show xg21.2.2.1 ≠ 0 ∨ xg21.2.2.2.1 < 12 by omega)]) (by rw [e1]; exact a_wr_b hbg21 (by omega)) | exact rest2 xg21 xg21 hg21' hbg21 (a_wr_n (fun q => by have := of_decide_eq_true q; omega)).symm hbg21 | exact rest2 xg21 xg21 hg21' hbg21 (show xg21 = a_wr _ 1 xg21 from (if_neg (fun q => by have := q.2; omega)).symm) hbg21
      · refine r_aln eMd_readDo_31 rfl ?_
        refine r_gete (x := xg21.2.2.1) eMd_readDo_32 rfl (by decide) hM.2.1 (by simp [m_up, md_q, md_put_at, m_fl]) ?_
        refine r_zne (tgt := 47) eMd_readDo_35 rfl ⟨(by omega), (by omega)⟩ (fun c35 => ?_) (fun c35 => ?_)
        · refine r_aln eMd_readDo_47 rfl ?_
          refine r_con eMd_readDo_48 ?_
          refine r_vir eMd_readDo_49 rfl rfl rfl hM.2.1 rfl rfl ?_
          refine t_Md_wrong hM (by omega) (fun x1 e1 => ?_)
          · show m_wp en _ mMd_readDo 52 [some (.ref M), some (.int (m_i (16 + J (M + 2) 18))), none, none] [] (T, m_I (((md_q J M x1.1 x1.2.1 x1.2.2.1 x1.2.2.2.1 x1.2.2.2.2.1 x1.2.2.2.2.2))), P, L, z, w) Q
            first | exact rest2 xg21 x1 hg21' hbg21 (by rw [e1, decide_eq_true (show xg21.2.2.1 ≠ 0 ∨ xg21.2.2.2.1 < 12 by omega)]) (by rw [e1]; exact a_wr_b hbg21 (by omega)) | exact rest2 xg21 xg21 hg21' hbg21 (a_wr_n (fun q => by have := of_decide_eq_true q; omega)).symm hbg21 | exact rest2 xg21 xg21 hg21' hbg21 (show xg21 = a_wr _ 1 xg21 from (if_neg (fun q => by have := q.2; omega)).symm) hbg21
        · refine r_aln eMd_readDo_38 rfl ?_
          refine r_gete (x := xg21.2.2.2.1) eMd_readDo_39 rfl (by decide) hM.2.1 (by simp [m_up, md_q, md_put_at, m_fl]) ?_
          refine r_bip eMd_readDo_42 (by decide) ?_
          refine r_cge (tgt := 52) eMd_readDo_44 rfl ⟨(by omega), (by omega)⟩ ⟨(by omega), (by omega)⟩ (fun c44 => ?_) (fun c44 => ?_)
          · first | exact rest2 xg21 x1 hg21' hbg21 (by rw [e1, decide_eq_true (show xg21.2.2.1 ≠ 0 ∨ xg21.2.2.2.1 < 12 by omega)]) (by rw [e1]; exact a_wr_b hbg21 (by omega)) | exact rest2 xg21 xg21 hg21' hbg21 (a_wr_n (fun q => by have := of_decide_eq_true q; omega)).symm hbg21 | exact rest2 xg21 xg21 hg21' hbg21 (show xg21 = a_wr _ 1 xg21 from (if_neg (fun q => by have := q.2; omega)).symm) hbg21
          · refine r_aln eMd_readDo_47 rfl ?_
            refine r_con eMd_readDo_48 ?_
            refine r_vir eMd_readDo_49 rfl rfl rfl hM.2.1 rfl rfl ?_
            refine t_Md_wrong hM (by omega) (fun x1 e1 => ?_)
            · show m_wp en _ mMd_readDo 52 [some (.ref M), some (.int (m_i (16 + J (M + 2) 18))), none, none] [] (T, m_I (((md_q J M x1.1 x1.2.1 x1.2.2.1 x1.2.2.2.1 x1.2.2.2.2.1 x1.2.2.2.2.2))), P, L, z, w) Q
              first | exact rest2 xg21 x1 hg21' hbg21 (by rw [e1, decide_eq_true (show xg21.2.2.1 ≠ 0 ∨ xg21.2.2.2.1 < 12 by omega)]) (by rw [e1]; exact a_wr_b hbg21 (by omega)) | exact rest2 xg21 xg21 hg21' hbg21 (a_wr_n (fun q => by have := of_decide_eq_true q; omega)).symm hbg21 | exact rest2 xg21 xg21 hg21' hbg21 (show xg21 = a_wr _ 1 xg21 from (if_neg (fun q => by have := q.2; omega)).symm) hbg21
  refine m_into (by decide) (Nat.le_of_ble_eq_true rfl) rfl ?_
  show m_wp en _ mMd_readDo 0 [some (.ref M), none, none, none] [] (T, m_I ((md_q J M x.1 x.2.1 x.2.2.1 x.2.2.2.1 x.2.2.2.2.1 x.2.2.2.2.2)), P, L, z, w) Q
  refine r_bip eMd_readDo_0 (by decide) ?_
  refine r_aln eMd_readDo_2 rfl ?_
  refine r_con eMd_readDo_3 ?_
  refine r_vir eMd_readDo_4 rfl rfl rfl hM.2.1 rfl rfl ?_
  refine t_Md_reading (i := 18) (u := J (M + 2) 18) hM (by omega) rfl (by simp [m_up]) ?_
  show m_wp en _ mMd_readDo 7 [some (.ref M), none, none, none] [(.int (m_i (J (M + 2) 18))), (.int (m_i (16)))] (T, m_I ((md_q J M x.1 x.2.1 x.2.2.1 x.2.2.2.1 x.2.2.2.2.1 x.2.2.2.2.2)), P, L, z, w) Q
  refine r_add eMd_readDo_7 ?_
  refine r_isn (ls' := [some (.ref M), some (.int (m_i ((16) + (J (M + 2) 18)))), none, none]) eMd_readDo_8 (Nat.le_of_ble_eq_true rfl) rfl ?_
  refine r_iln eMd_readDo_9 rfl ?_
  refine r_bip eMd_readDo_10 (by decide) ?_
  refine r_cne (tgt := 20) eMd_readDo_12 rfl ⟨(by omega), (by omega)⟩ ⟨(by omega), (by omega)⟩ (fun c12 => ?_) (fun c12 => ?_)
  · first | (have ee : x1 = a_wr (decide (J (M + 2) 18 = 16)) 2 x := by rw [e1, decide_eq_true (show J (M + 2) 18 = 16 by omega)]) <;> exact rest x1 ee (by rw [e1]; exact a_wr_b hb (by omega)) | exact rest x (a_wr_n (fun q => by have := of_decide_eq_true q; omega)).symm hb
  · refine r_aln eMd_readDo_15 rfl ?_
    refine r_con eMd_readDo_16 ?_
    refine r_vir eMd_readDo_17 rfl rfl rfl hM.2.1 rfl rfl ?_
    refine t_Md_wrong hM (by omega) (fun x1 e1 => ?_)
    · show m_wp en _ mMd_readDo 20 [some (.ref M), some (.int (m_i ((16) + (J (M + 2) 18)))), none, none] [] (T, m_I (((md_q J M x1.1 x1.2.1 x1.2.2.1 x1.2.2.2.1 x1.2.2.2.2.1 x1.2.2.2.2.2))), P, L, z, w) Q
      first | (have ee : x1 = a_wr (decide (J (M + 2) 18 = 16)) 2 x := by rw [e1, decide_eq_true (show J (M + 2) 18 = 16 by omega)]) <;> exact rest x1 ee (by rw [e1]; exact a_wr_b hb (by omega)) | exact rest x (a_wr_n (fun q => by have := of_decide_eq_true q; omega)).symm hb
theorem c_Md_readWind (hM : md_sh en M T P) {x : a_Q} (ht : a_tpb (J (M + 1)) (J M 20)) (hb : a_qb (J M 20) x) (hd : dr_b J M)
    (hq : ∀ (J' : Nat → Nat → Int) (x' : a_Q), s_wi J M x J' x' → dr_b J' M → dr_f J J' M → a_qb (J M 20) x' → Q none (T, m_I (md_q J' M x'.1 x'.2.1 x'.2.2.1 x'.2.2.2.1 x'.2.2.2.2.1 x'.2.2.2.2.2), P, L, z, w)) : m_call en (d + 7) mMd_readWind [.ref M] (T, m_I (md_q J M x.1 x.2.1 x.2.2.1 x.2.2.2.1 x.2.2.2.2.1 x.2.2.2.2.2), P, L, z, w) Q := by
  obtain ⟨n0, n1, n4, n5, n6, n7, n11, n12⟩ := dr_nb hd
  have hk : 0 ≤ x.2.2.2.2.1 ∧ x.2.2.2.2.1 ≤ 3 := hb.2.2.2.2.1
  have hwa : J (M + 2) 19 ≠ 0 → 0 ≤ J (M + 10) (8 + J (M + 2) 19 - 1).toNat ∧ J (M + 10) (8 + J (M + 2) 19 - 1).toNat ≤ 999 := fun q => hd.2.1 10 (by omega) (by omega) _ (by show (8 + J (M + 2) 19 - 1).toNat < 16; omega)
  have rest2 : ∀ (x2 : a_Q) (lo : Int), s_go (J (M + 1)) (J M 20) (a_wr (decide (J (M + 2) 19 = 8)) 2 x) x2 → a_qb (J M 20) x2 → lo = (if x2.2.2.2.2.1 ≠ 0 ∨ J (M + 2) 19 = 0 then 0 else J (M + 10) (8 + J (M + 2) 19 - 1).toNat + 1) → (0 ≤ lo ∧ lo ≤ 1000) → m_wp en (d + 6) mMd_readWind 56 [some (.ref M), some (.int (m_i (8 + J (M + 2) 19))), some (.int (m_i lo)), none, none] [] (T, m_I (md_q J M x2.1 x2.2.1 x2.2.2.1 x2.2.2.2.1 x2.2.2.2.2.1 x2.2.2.2.2.2), P, L, z, w) Q := fun x2 lo g1 gb hlo hlb => by
    refine r_aln eMd_readWind_56 rfl ?_
    refine r_iln eMd_readWind_57 rfl ?_
    refine r_sip eMd_readWind_58 (by decide) ?_
    refine r_vir eMd_readWind_61 rfl rfl rfl hM.2.1 rfl rfl ?_
    refine c_Md_numeral (x := x2) hM ht (by assumption) (by unfold m_in; omega) (by unfold m_in; omega) (fun r61 x61 hn61 hb61 => ?_)
    · have bd61 := s_nu_bd hn61
      show m_wp en _ mMd_readWind 64 [some (.ref M), some (.int (m_i (8 + J (M + 2) 19))), some (.int (m_i (lo))), none, none] [(.int (m_i (r61)))] (T, m_I (((md_q J M x61.1 x61.2.1 x61.2.2.1 x61.2.2.2.1 x61.2.2.2.2.1 x61.2.2.2.2.2))), P, L, z, w) Q
      refine r_isn (ls' := [some (.ref M), some (.int (m_i (8 + J (M + 2) 19))), some (.int (m_i (lo))), some (.int (m_i (r61))), none]) eMd_readWind_64 (Nat.le_of_ble_eq_true rfl) rfl ?_
      refine r_aln eMd_readWind_65 rfl ?_
      refine r_con eMd_readWind_66 ?_
      refine r_bip eMd_readWind_67 (by decide) ?_
      refine r_con eMd_readWind_69 ?_
      refine r_vir eMd_readWind_70 rfl rfl rfl hM.2.1 rfl rfl ?_
      refine c_Md_numeralOf (x := x61) hM ht (by assumption) (by omega) (by unfold m_in; omega) (by unfold m_in; omega) (fun r70 x70 hn70 hb70 => ?_)
      · have bd70 := s_nu_bd hn70
        show m_wp en _ mMd_readWind 73 [some (.ref M), some (.int (m_i (8 + J (M + 2) 19))), some (.int (m_i (lo))), some (.int (m_i (r61))), none] [(.int (m_i (r70)))] (T, m_I (((md_q J M x70.1 x70.2.1 x70.2.2.1 x70.2.2.2.1 x70.2.2.2.2.1 x70.2.2.2.2.2))), P, L, z, w) Q
        refine r_is (ls' := [some (.ref M), some (.int (m_i (8 + J (M + 2) 19))), some (.int (m_i (lo))), some (.int (m_i (r61))), some (.int (m_i (r70)))]) eMd_readWind_73 (Nat.le_of_ble_eq_true rfl) rfl ?_
        have hkk := hb70.2.2.2.2.1
        refine r_aln eMd_readWind_75 rfl ?_
        refine r_gete (x := x70.2.2.2.2.1) eMd_readWind_76 rfl (by decide) hM.2.1 (by simp [m_up, md_q, md_put_at, m_fl]) ?_
        refine r_zeq (tgt := 83) eMd_readWind_79 rfl ⟨(by omega), (by omega)⟩ (fun c79 => ?_) (fun c79 => ?_)
        · have hk0 : x70.2.2.2.2.1 = 0 := by omega
          have hk1 := s_nu_f hn70 hk0
          have hr1 := s_nu_ok hn61 hk1
          have hr2 := s_nu_ok hn70 hk0
          have hk2 := s_nu_f hn61 hk1
          rw [s_go_k g1] at hk2
          have hne : J (M + 2) 19 ≠ 8 := fun q => (a_wr_k (by omega) hk2).1 (decide_eq_true q)
          refine r_aln eMd_readWind_83 rfl ?_
          refine m_getR eMd_readWind_84 rfl hM.2.1 (md_windAt_p hM) ?_
          refine r_iln eMd_readWind_87 rfl ?_
          refine r_iln eMd_readWind_88 rfl ?_
          refine r_iast eMd_readWind_89 (md_windAt_t hM) (by decide) (by omega) (by omega) (md_b hM 10) ?_
          rw [q_up (by omega)]
          refine r_aln eMd_readWind_90 rfl ?_
          refine m_getR eMd_readWind_91 rfl hM.2.1 (md_windBy_p hM) ?_
          refine r_iln eMd_readWind_94 rfl ?_
          refine r_il eMd_readWind_95 rfl ?_
          refine r_iast eMd_readWind_97 (md_windBy_t hM) (by decide) (by omega) (by omega) (md_b hM 11) ?_
          rw [q_up (by omega)]
          refine r_aln eMd_readWind_98 rfl ?_
          refine r_bip eMd_readWind_99 (by decide) ?_
          refine r_aln eMd_readWind_101 rfl ?_
          refine r_bip eMd_readWind_102 (by decide) ?_
          refine r_vir eMd_readWind_104 rfl rfl rfl hM.2.1 rfl rfl ?_
          refine t_Md_reading (i := 19) (u := J (M + 2) 19) hM (by omega) rfl (by simp [m_up]) ?_
          show m_wp en _ mMd_readWind 107 [some (.ref M), some (.int (m_i (8 + J (M + 2) 19))), some (.int (m_i (lo))), some (.int (m_i (r61))), some (.int (m_i (r70)))] [(.int (m_i (J (M + 2) 19))), (.int (m_i (6))), (.ref M)] (T, m_I ((md_q (m_up (m_up J (M + 10) ((8 + J (M + 2) 19).toNat) r61) (M + 11) ((8 + J (M + 2) 19).toNat) r70) M x70.1 x70.2.1 x70.2.2.1 x70.2.2.2.1 x70.2.2.2.2.1 x70.2.2.2.2.2)), P, L, z, w) Q
          refine r_con eMd_readWind_107 ?_
          refine r_add eMd_readWind_108 ?_
          refine r_vir eMd_readWind_109 rfl rfl rfl hM.2.1 rfl rfl ?_
          refine t_Md_reads (i := 19) hM (by omega) rfl ?_
          show m_wp en _ mMd_readWind 112 [some (.ref M), some (.int (m_i (8 + J (M + 2) 19))), some (.int (m_i (lo))), some (.int (m_i (r61))), some (.int (m_i (r70)))] [] (T, m_I (((md_q (m_up (m_up (m_up J (M + 10) ((8 + J (M + 2) 19).toNat) r61) (M + 11) ((8 + J (M + 2) 19).toNat) r70) (M + 2) 19 (((J (M + 2) 19) + (1)))) M x70.1 x70.2.1 x70.2.2.1 x70.2.2.2.1 x70.2.2.2.2.1 x70.2.2.2.2.2))), P, L, z, w) Q
          refine r_ret eMd_readWind_112 rfl ?_
          refine hq _ x70 ⟨x2, x61, r61, r70, g1, by rw [← hlo]; exact hn61, hn70, (if_pos hk0).symm⟩ (((hd.r (k := 10) (by omega) (by omega) (by show 0 ≤ r61 ∧ r61 ≤ 999; omega)).r (k := 11) (by omega) (by omega) (by show -4 ≤ r70 ∧ r70 ≤ 4; omega)).n (y := 6) (by omega) (by show 0 ≤ J (M + 2) 19 + 1 ∧ J (M + 2) 19 + 1 ≤ 8; omega)) ((((dr_f.refl J M).up (by unfold dr_c; omega) _).up (by unfold dr_c; omega) _).up (by unfold dr_c; omega) _) hb70
        · refine r_ret eMd_readWind_82 rfl ?_
          exact hq J x70 ⟨x2, x61, r61, r70, g1, by rw [← hlo]; exact hn61, hn70, (if_neg (by omega)).symm⟩ hd (dr_f.refl J M) hb70
  have rest : ∀ y : a_Q, y = a_wr (decide (J (M + 2) 19 = 8)) 2 x → a_qb (J M 20) y → m_wp en (d + 6) mMd_readWind 21 [some (.ref M), some (.int (m_i (8 + J (M + 2) 19))), none, none, none] [] (T, m_I (md_q J M y.1 y.2.1 y.2.2.1 y.2.2.2.1 y.2.2.2.2.1 y.2.2.2.2.2), P, L, z, w) Q := fun y hy hby => by
    refine r_aln eMd_readWind_21 rfl ?_
    refine r_vir eMd_readWind_22 rfl rfl rfl hM.2.1 rfl rfl ?_
    refine t_Md_goOn (x := y) hM ht (by assumption) (fun xg22 hg22 hbg22 => ?_)
    · have hkg22 := hbg22.2.2.2.2.1
      show m_wp en _ mMd_readWind 25 [some (.ref M), some (.int (m_i (8 + J (M + 2) 19))), none, none, none] [] (T, m_I (((md_q J M xg22.1 xg22.2.1 xg22.2.2.1 xg22.2.2.2.1 xg22.2.2.2.2.1 xg22.2.2.2.2.2))), P, L, z, w) Q
      have hg22' : s_go (J (M + 1)) (J M 20) (a_wr (decide (J (M + 2) 19 = 8)) 2 x) xg22 := by rw [← hy]; exact hg22
      refine r_aln eMd_readWind_25 rfl ?_
      refine r_gete (x := xg22.2.2.2.2.1) eMd_readWind_26 rfl (by decide) hM.2.1 (by simp [m_up, md_q, md_put_at, m_fl]) ?_
      refine r_zne (tgt := 41) eMd_readWind_29 rfl ⟨(by omega), (by omega)⟩ (fun c29 => ?_) (fun c29 => ?_)
      · refine r_con eMd_readWind_41 ?_
        refine r_go (tgt := 55) eMd_readWind_42 rfl ?_
        refine r_isn (ls' := [some (.ref M), some (.int (m_i (8 + J (M + 2) 19))), some (.int (m_i (0))), none, none]) eMd_readWind_55 (Nat.le_of_ble_eq_true rfl) rfl ?_
        first | exact rest2 xg22 _ hg22' hbg22 (if_pos (by omega)).symm (by omega) | exact rest2 xg22 _ hg22' hbg22 (if_neg (by omega)).symm (by omega)
      · refine r_aln eMd_readWind_32 rfl ?_
        refine r_bip eMd_readWind_33 (by decide) ?_
        refine r_vir eMd_readWind_35 rfl rfl rfl hM.2.1 rfl rfl ?_
        refine t_Md_reading (i := 19) (u := J (M + 2) 19) hM (by omega) rfl (by simp [m_up]) ?_
        show m_wp en _ mMd_readWind 38 [some (.ref M), some (.int (m_i (8 + J (M + 2) 19))), none, none, none] [(.int (m_i (J (M + 2) 19)))] (T, m_I (((md_q J M xg22.1 xg22.2.1 xg22.2.2.1 xg22.2.2.2.1 xg22.2.2.2.2.1 xg22.2.2.2.2.2))), P, L, z, w) Q
        refine r_zne (tgt := 45) eMd_readWind_38 rfl ⟨(by omega), (by omega)⟩ (fun c38 => ?_) (fun c38 => ?_)
        · have hwa2 := hwa (by omega)
          refine r_aln eMd_readWind_45 rfl ?_
          refine m_getR eMd_readWind_46 rfl hM.2.1 (md_windAt_p hM) ?_
          refine r_iln eMd_readWind_49 rfl ?_
          refine r_con eMd_readWind_50 ?_
          refine r_sub eMd_readWind_51 ?_
          refine r_ialde (x := J (M + 10) (((8 + J (M + 2) 19) - (1)).toNat)) eMd_readWind_52 (md_windAt_t hM) (by decide) (by omega) (by omega) (by simp [m_up, md_put_at, m_fl, md_q]) ?_
          refine r_con eMd_readWind_53 ?_
          refine r_add eMd_readWind_54 ?_
          refine r_isn (ls' := [some (.ref M), some (.int (m_i (8 + J (M + 2) 19))), some (.int (m_i ((J (M + 10) (((8 + J (M + 2) 19) - (1)).toNat)) + (1)))), none, none]) eMd_readWind_55 (Nat.le_of_ble_eq_true rfl) rfl ?_
          first | exact rest2 xg22 _ hg22' hbg22 (if_pos (by omega)).symm (by omega) | exact rest2 xg22 _ hg22' hbg22 (if_neg (by omega)).symm (by omega)
        · refine r_con eMd_readWind_41 ?_
          refine r_go (tgt := 55) eMd_readWind_42 rfl ?_
          refine r_isn (ls' := [some (.ref M), some (.int (m_i (8 + J (M + 2) 19))), some (.int (m_i (0))), none, none]) eMd_readWind_55 (Nat.le_of_ble_eq_true rfl) rfl ?_
          first | exact rest2 xg22 _ hg22' hbg22 (if_pos (by omega)).symm (by omega) | exact rest2 xg22 _ hg22' hbg22 (if_neg (by omega)).symm (by omega)
  refine m_into (by decide) (Nat.le_of_ble_eq_true rfl) rfl ?_
  show m_wp en _ mMd_readWind 0 [some (.ref M), none, none, none, none] [] (T, m_I ((md_q J M x.1 x.2.1 x.2.2.1 x.2.2.2.1 x.2.2.2.2.1 x.2.2.2.2.2)), P, L, z, w) Q
  refine r_bip eMd_readWind_0 (by decide) ?_
  refine r_aln eMd_readWind_2 rfl ?_
  refine r_bip eMd_readWind_3 (by decide) ?_
  refine r_vir eMd_readWind_5 rfl rfl rfl hM.2.1 rfl rfl ?_
  refine t_Md_reading (i := 19) (u := J (M + 2) 19) hM (by omega) rfl (by simp [m_up]) ?_
  show m_wp en _ mMd_readWind 8 [some (.ref M), none, none, none, none] [(.int (m_i (J (M + 2) 19))), (.int (m_i (8)))] (T, m_I ((md_q J M x.1 x.2.1 x.2.2.1 x.2.2.2.1 x.2.2.2.2.1 x.2.2.2.2.2)), P, L, z, w) Q
  refine r_add eMd_readWind_8 ?_
  refine r_isn (ls' := [some (.ref M), some (.int (m_i ((8) + (J (M + 2) 19)))), none, none, none]) eMd_readWind_9 (Nat.le_of_ble_eq_true rfl) rfl ?_
  refine r_iln eMd_readWind_10 rfl ?_
  refine r_bip eMd_readWind_11 (by decide) ?_
  refine r_cne (tgt := 21) eMd_readWind_13 rfl ⟨(by omega), (by omega)⟩ ⟨(by omega), (by omega)⟩ (fun c13 => ?_) (fun c13 => ?_)
  · first | (have ee : x1 = a_wr (decide (J (M + 2) 19 = 8)) 2 x := by rw [e1, decide_eq_true (show J (M + 2) 19 = 8 by omega)]) <;> exact rest x1 ee (by rw [e1]; exact a_wr_b hb (by omega)) | exact rest x (a_wr_n (fun q => by have := of_decide_eq_true q; omega)).symm hb
  · refine r_aln eMd_readWind_16 rfl ?_
    refine r_con eMd_readWind_17 ?_
    refine r_vir eMd_readWind_18 rfl rfl rfl hM.2.1 rfl rfl ?_
    refine t_Md_wrong hM (by omega) (fun x1 e1 => ?_)
    · show m_wp en _ mMd_readWind 21 [some (.ref M), some (.int (m_i ((8) + (J (M + 2) 19)))), none, none, none] [] (T, m_I (((md_q J M x1.1 x1.2.1 x1.2.2.1 x1.2.2.2.1 x1.2.2.2.2.1 x1.2.2.2.2.2))), P, L, z, w) Q
      first | (have ee : x1 = a_wr (decide (J (M + 2) 19 = 8)) 2 x := by rw [e1, decide_eq_true (show J (M + 2) 19 = 8 by omega)]) <;> exact rest x1 ee (by rw [e1]; exact a_wr_b hb (by omega)) | exact rest x (a_wr_n (fun q => by have := of_decide_eq_true q; omega)).symm hb
theorem c_Md_readPile (hM : md_sh en M T P) {x : a_Q} (ht : a_tpb (J (M + 1)) (J M 20)) (hb : a_qb (J M 20) x) (hd : dr_b J M)
    (hq : ∀ (J' : Nat → Nat → Int) (x' : a_Q), s_pi J M x J' x' → dr_b J' M → dr_f J J' M → a_qb (J M 20) x' → Q none (T, m_I (md_q J' M x'.1 x'.2.1 x'.2.2.1 x'.2.2.2.1 x'.2.2.2.2.1 x'.2.2.2.2.2), P, L, z, w)) : m_call en (d + 7) mMd_readPile [.ref M] (T, m_I (md_q J M x.1 x.2.1 x.2.2.1 x.2.2.2.1 x.2.2.2.2.1 x.2.2.2.2.2), P, L, z, w) Q := by
  obtain ⟨n0, n1, n4, n5, n6, n7, n11, n12⟩ := dr_nb hd
  have hk : 0 ≤ x.2.2.2.2.1 ∧ x.2.2.2.2.1 ≤ 3 := hb.2.2.2.2.1
  have hpt : ∀ r : Int, 0 ≤ r ∧ r < 16 → 0 ≤ J (M + 16) (16 + r).toNat ∧ J (M + 16) (16 + r).toNat ≤ 6 := fun r hr => hd.2.1 16 (by omega) (by omega) _ (by show (16 + r).toNat < 32; omega)
  have rest2 : ∀ (x2 x3 y : a_Q) (r1 : Int), s_go (J (M + 1)) (J M 20) (a_wr (decide (J (M + 2) 25 = 8)) 2 x) x2 → s_ah 0 (J (M + 2) 13 - 1) x2 r1 x3 → (0 ≤ r1 ∧ r1 < 16) → y = a_wr (decide (0 < J (M + 16) (16 + r1).toNat)) 3 x3 → a_qb (J M 20) y → m_wp en (d + 6) mMd_readPile 57 [some (.ref M), some (.int (m_i r1)), none] [] (T, m_I (md_q J M y.1 y.2.1 y.2.2.1 y.2.2.2.1 y.2.2.2.2.1 y.2.2.2.2.2), P, L, z, w) Q := fun x2 x3 y r1 g1 g2 hr1 hy hby => by
    refine r_aln eMd_readPile_57 rfl ?_
    refine r_vir eMd_readPile_58 rfl rfl rfl hM.2.1 rfl rfl ?_
    refine t_Md_goOn (x := y) hM ht (by assumption) (fun xg58 hg58 hbg58 => ?_)
    · have hkg58 := hbg58.2.2.2.2.1
      show m_wp en _ mMd_readPile 61 [some (.ref M), some (.int (m_i (r1))), none] [] (T, m_I (((md_q J M xg58.1 xg58.2.1 xg58.2.2.1 xg58.2.2.2.1 xg58.2.2.2.2.1 xg58.2.2.2.2.2))), P, L, z, w) Q
      refine r_aln eMd_readPile_61 rfl ?_
      refine r_con eMd_readPile_62 ?_
      refine r_aln eMd_readPile_63 rfl ?_
      refine r_con eMd_readPile_64 ?_
      refine r_vir eMd_readPile_65 rfl rfl rfl hM.2.1 rfl rfl ?_
      refine t_Md_reading (i := 14) (u := J (M + 2) 14) hM (by omega) rfl (by simp [m_up]) ?_
      show m_wp en _ mMd_readPile 68 [some (.ref M), some (.int (m_i (r1))), none] [(.int (m_i (J (M + 2) 14))), (.int (m_i (1))), (.ref M)] (T, m_I (((md_q J M xg58.1 xg58.2.1 xg58.2.2.1 xg58.2.2.2.1 xg58.2.2.2.2.1 xg58.2.2.2.2.2))), P, L, z, w) Q
      refine r_vir eMd_readPile_68 rfl rfl rfl hM.2.1 rfl rfl ?_
      refine c_Md_numeral (x := xg58) hM ht (by assumption) (by unfold m_in; omega) (by unfold m_in; omega) (fun r68 x68 hn68 hb68 => ?_)
      · have bd68 := s_nu_bd hn68
        show m_wp en _ mMd_readPile 71 [some (.ref M), some (.int (m_i (r1))), none] [(.int (m_i (r68)))] (T, m_I (((md_q J M x68.1 x68.2.1 x68.2.2.1 x68.2.2.2.1 x68.2.2.2.2.1 x68.2.2.2.2.2))), P, L, z, w) Q
        refine r_isn (ls' := [some (.ref M), some (.int (m_i (r1))), some (.int (m_i (r68)))]) eMd_readPile_71 (Nat.le_of_ble_eq_true rfl) rfl ?_
        have hkk := hb68.2.2.2.2.1
        refine r_aln eMd_readPile_72 rfl ?_
        refine r_gete (x := x68.2.2.2.2.1) eMd_readPile_73 rfl (by decide) hM.2.1 (by simp [m_up, md_q, md_put_at, m_fl]) ?_
        refine r_zeq (tgt := 80) eMd_readPile_76 rfl ⟨(by omega), (by omega)⟩ (fun c76 => ?_) (fun c76 => ?_)
        · have hk0 : x68.2.2.2.2.1 = 0 := by omega
          have hr2 := s_nu_ok hn68 hk0
          have hk1 := s_nu_f hn68 hk0
          rw [s_go_k hg58, hy] at hk1
          have hk2 := s_ah_ok g2 (a_wr_k (by omega) hk1).2
          have hk3 := hk2.1
          rw [s_go_k g1] at hk3
          have hne : J (M + 2) 25 ≠ 8 := fun q => (a_wr_k (by omega) hk3).1 (decide_eq_true q)
          refine r_aln eMd_readPile_80 rfl ?_
          refine m_getR eMd_readPile_81 rfl hM.2.1 (md_pileTold_p hM) ?_
          refine r_bip eMd_readPile_84 (by decide) ?_
          refine r_iln eMd_readPile_86 rfl ?_
          refine r_add eMd_readPile_87 ?_
          refine r_iln eMd_readPile_88 rfl ?_
          refine r_iast eMd_readPile_89 (md_pileTold_t hM) (by decide) (by omega) (by omega) (md_b hM 16) ?_
          rw [q_up (by omega)]
          refine r_aln eMd_readPile_90 rfl ?_
          refine r_bip eMd_readPile_91 (by decide) ?_
          refine r_aln eMd_readPile_93 rfl ?_
          refine r_bip eMd_readPile_94 (by decide) ?_
          refine r_vir eMd_readPile_96 rfl rfl rfl hM.2.1 rfl rfl ?_
          refine t_Md_reading (i := 25) (u := J (M + 2) 25) hM (by omega) rfl (by simp [m_up]) ?_
          show m_wp en _ mMd_readPile 99 [some (.ref M), some (.int (m_i (r1))), some (.int (m_i (r68)))] [(.int (m_i (J (M + 2) 25))), (.int (m_i (12))), (.ref M)] (T, m_I ((md_q (m_up J (M + 16) (((16) + (r1)).toNat) r68) M x68.1 x68.2.1 x68.2.2.1 x68.2.2.2.1 x68.2.2.2.2.1 x68.2.2.2.2.2)), P, L, z, w) Q
          refine r_con eMd_readPile_99 ?_
          refine r_add eMd_readPile_100 ?_
          refine r_vir eMd_readPile_101 rfl rfl rfl hM.2.1 rfl rfl ?_
          refine t_Md_reads (i := 25) hM (by omega) rfl ?_
          show m_wp en _ mMd_readPile 104 [some (.ref M), some (.int (m_i (r1))), some (.int (m_i (r68)))] [] (T, m_I (((md_q (m_up (m_up J (M + 16) (((16) + (r1)).toNat) r68) (M + 2) 25 (((J (M + 2) 25) + (1)))) M x68.1 x68.2.1 x68.2.2.1 x68.2.2.2.1 x68.2.2.2.2.1 x68.2.2.2.2.2))), P, L, z, w) Q
          refine r_ret eMd_readPile_104 rfl ?_
          refine hq _ x68 ⟨x2, x3, xg58, r1, r68, g1, g2, by rw [← hy]; exact hg58, hn68, (if_pos hk0).symm⟩ ((hd.r (k := 16) (by omega) (by omega) (by show 0 ≤ r68 ∧ r68 ≤ 6; omega)).n (y := 12) (by omega) (by show 0 ≤ J (M + 2) 25 + 1 ∧ J (M + 2) 25 + 1 ≤ 8; omega)) (((dr_f.refl J M).up (by unfold dr_c; omega) _).up (by unfold dr_c; omega) _) hb68
        · refine r_ret eMd_readPile_79 rfl ?_
          exact hq J x68 ⟨x2, x3, xg58, r1, r68, g1, g2, by rw [← hy]; exact hg58, hn68, (if_neg (by omega)).symm⟩ hd (dr_f.refl J M) hb68
  have rest : ∀ y : a_Q, y = a_wr (decide (J (M + 2) 25 = 8)) 2 x → a_qb (J M 20) y → m_wp en (d + 6) mMd_readPile 16 [some (.ref M), none, none] [] (T, m_I (md_q J M y.1 y.2.1 y.2.2.1 y.2.2.2.1 y.2.2.2.2.1 y.2.2.2.2.2), P, L, z, w) Q := fun y hy hby => by
    refine r_aln eMd_readPile_16 rfl ?_
    refine r_vir eMd_readPile_17 rfl rfl rfl hM.2.1 rfl rfl ?_
    refine t_Md_goOn (x := y) hM ht (by assumption) (fun xg17 hg17 hbg17 => ?_)
    · have hkg17 := hbg17.2.2.2.2.1
      show m_wp en _ mMd_readPile 20 [some (.ref M), none, none] [] (T, m_I (((md_q J M xg17.1 xg17.2.1 xg17.2.2.1 xg17.2.2.2.1 xg17.2.2.2.2.1 xg17.2.2.2.2.2))), P, L, z, w) Q
      refine r_aln eMd_readPile_20 rfl ?_
      refine r_con eMd_readPile_21 ?_
      refine r_aln eMd_readPile_22 rfl ?_
      refine r_con eMd_readPile_23 ?_
      refine r_vir eMd_readPile_24 rfl rfl rfl hM.2.1 rfl rfl ?_
      refine t_Md_reading (i := 13) (u := J (M + 2) 13) hM (by omega) rfl (by simp [m_up]) ?_
      show m_wp en _ mMd_readPile 27 [some (.ref M), none, none] [(.int (m_i (J (M + 2) 13))), (.int (m_i (0))), (.ref M)] (T, m_I (((md_q J M xg17.1 xg17.2.1 xg17.2.2.1 xg17.2.2.2.1 xg17.2.2.2.2.1 xg17.2.2.2.2.2))), P, L, z, w) Q
      refine r_con eMd_readPile_27 ?_
      refine r_sub eMd_readPile_28 ?_
      refine r_vir eMd_readPile_29 rfl rfl rfl hM.2.1 rfl rfl ?_
      refine c_Md_atHand (x := xg17) hM (by assumption) (by unfold m_in; omega) (by unfold m_in; omega) (fun r29 x29 hn29 hb29 => ?_)
      · have bd29 := s_ah_bd hn29
        have hkg29 := hb29.2.2.2.2.1
        show m_wp en _ mMd_readPile 32 [some (.ref M), none, none] [(.int (m_i (r29)))] (T, m_I (((md_q J M x29.1 x29.2.1 x29.2.2.1 x29.2.2.2.1 x29.2.2.2.2.1 x29.2.2.2.2.2))), P, L, z, w) Q
        refine r_isn (ls' := [some (.ref M), some (.int (m_i (r29))), none]) eMd_readPile_32 (Nat.le_of_ble_eq_true rfl) rfl ?_
        have hg17' : s_go (J (M + 1)) (J M 20) (a_wr (decide (J (M + 2) 25 = 8)) 2 x) xg17 := by rw [← hy]; exact hg17
        have hpt2 := hpt r29 (by omega)
        refine r_aln eMd_readPile_33 rfl ?_
        refine r_gete (x := x29.2.2.2.2.1) eMd_readPile_34 rfl (by decide) hM.2.1 (by simp [m_up, md_q, md_put_at, m_fl]) ?_
        refine r_zne (tgt := 57) eMd_readPile_37 rfl ⟨(by omega), (by omega)⟩ (fun c37 => ?_) (fun c37 => ?_)
        · first | exact rest2 xg17 x29 x1 r29 hg17' hn29 (by omega) (by rw [e1, decide_eq_true (show 0 < J (M + 16) (16 + r29).toNat by omega)]) (by rw [e1]; exact a_wr_b hb29 (by omega)) | exact rest2 xg17 x29 x29 r29 hg17' hn29 (by omega) (a_wr_n (fun q => by have := of_decide_eq_true q; omega)).symm hb29 | exact rest2 xg17 x29 x29 r29 hg17' hn29 (by omega) (show x29 = a_wr _ 3 x29 from (if_neg (fun q => by have := q.2; omega)).symm) hb29
        · refine r_aln eMd_readPile_40 rfl ?_
          refine m_getR eMd_readPile_41 rfl hM.2.1 (md_pileTold_p hM) ?_
          refine r_bip eMd_readPile_44 (by decide) ?_
          refine r_iln eMd_readPile_46 rfl ?_
          refine r_add eMd_readPile_47 ?_
          refine r_ialde (x := J (M + 16) (((16) + (r29)).toNat)) eMd_readPile_48 (md_pileTold_t hM) (by decide) (by omega) (by omega) (by simp [m_up, md_put_at, m_fl, md_q]) ?_
          refine r_zle (tgt := 57) eMd_readPile_49 rfl ⟨(by omega), (by omega)⟩ (fun c49 => ?_) (fun c49 => ?_)
          · first | exact rest2 xg17 x29 x1 r29 hg17' hn29 (by omega) (by rw [e1, decide_eq_true (show 0 < J (M + 16) (16 + r29).toNat by omega)]) (by rw [e1]; exact a_wr_b hb29 (by omega)) | exact rest2 xg17 x29 x29 r29 hg17' hn29 (by omega) (a_wr_n (fun q => by have := of_decide_eq_true q; omega)).symm hb29 | exact rest2 xg17 x29 x29 r29 hg17' hn29 (by omega) (show x29 = a_wr _ 3 x29 from (if_neg (fun q => by have := q.2; omega)).symm) hb29
          · refine r_aln eMd_readPile_52 rfl ?_
            refine r_con eMd_readPile_53 ?_
            refine r_vir eMd_readPile_54 rfl rfl rfl hM.2.1 rfl rfl ?_
            refine t_Md_wrong hM (by omega) (fun x1 e1 => ?_)
            · show m_wp en _ mMd_readPile 57 [some (.ref M), some (.int (m_i (r29))), none] [] (T, m_I (((md_q J M x1.1 x1.2.1 x1.2.2.1 x1.2.2.2.1 x1.2.2.2.2.1 x1.2.2.2.2.2))), P, L, z, w) Q
              first | exact rest2 xg17 x29 x1 r29 hg17' hn29 (by omega) (by rw [e1, decide_eq_true (show 0 < J (M + 16) (16 + r29).toNat by omega)]) (by rw [e1]; exact a_wr_b hb29 (by omega)) | exact rest2 xg17 x29 x29 r29 hg17' hn29 (by omega) (a_wr_n (fun q => by have := of_decide_eq_true q; omega)).symm hb29 | exact rest2 xg17 x29 x29 r29 hg17' hn29 (by omega) (show x29 = a_wr _ 3 x29 from (if_neg (fun q => by have := q.2; omega)).symm) hb29
  refine m_into (by decide) (Nat.le_of_ble_eq_true rfl) rfl ?_
  show m_wp en _ mMd_readPile 0 [some (.ref M), none, none] [] (T, m_I ((md_q J M x.1 x.2.1 x.2.2.1 x.2.2.2.1 x.2.2.2.2.1 x.2.2.2.2.2)), P, L, z, w) Q
  refine r_aln eMd_readPile_0 rfl ?_
  refine r_bip eMd_readPile_1 (by decide) ?_
  refine r_vir eMd_readPile_3 rfl rfl rfl hM.2.1 rfl rfl ?_
  refine t_Md_reading (i := 25) (u := J (M + 2) 25) hM (by omega) rfl (by simp [m_up]) ?_
  show m_wp en _ mMd_readPile 6 [some (.ref M), none, none] [(.int (m_i (J (M + 2) 25)))] (T, m_I ((md_q J M x.1 x.2.1 x.2.2.1 x.2.2.2.1 x.2.2.2.2.1 x.2.2.2.2.2)), P, L, z, w) Q
  refine r_bip eMd_readPile_6 (by decide) ?_
  refine r_cne (tgt := 16) eMd_readPile_8 rfl ⟨(by omega), (by omega)⟩ ⟨(by omega), (by omega)⟩ (fun c8 => ?_) (fun c8 => ?_)
  · first | (have ee : x1 = a_wr (decide (J (M + 2) 25 = 8)) 2 x := by rw [e1, decide_eq_true (show J (M + 2) 25 = 8 by omega)]) <;> exact rest x1 ee (by rw [e1]; exact a_wr_b hb (by omega)) | exact rest x (a_wr_n (fun q => by have := of_decide_eq_true q; omega)).symm hb
  · refine r_aln eMd_readPile_11 rfl ?_
    refine r_con eMd_readPile_12 ?_
    refine r_vir eMd_readPile_13 rfl rfl rfl hM.2.1 rfl rfl ?_
    refine t_Md_wrong hM (by omega) (fun x1 e1 => ?_)
    · show m_wp en _ mMd_readPile 16 [some (.ref M), none, none] [] (T, m_I (((md_q J M x1.1 x1.2.1 x1.2.2.1 x1.2.2.2.1 x1.2.2.2.2.1 x1.2.2.2.2.2))), P, L, z, w) Q
      first | (have ee : x1 = a_wr (decide (J (M + 2) 25 = 8)) 2 x := by rw [e1, decide_eq_true (show J (M + 2) 25 = 8 by omega)]) <;> exact rest x1 ee (by rw [e1]; exact a_wr_b hb (by omega)) | exact rest x (a_wr_n (fun q => by have := of_decide_eq_true q; omega)).symm hb
end MDLB
