/-! the class: the code on a way, what is along it -/
section AL
variable {en : Nat → Nat} {d : Nat} {T T' T2 T0 : Nat → Option (Nat × Nat)} {J J' J0 J1 J2 J3 K H : Nat → Nat → Int} {P P' P2 P0 : Nat → Nat → Option Nat} {L L' L2 L0 : Nat → Nat → Int64} {z w z' w' z0 w0 A B R U S n X N zb wb o o' A0 R' U' n' : Nat} {Q : m_Q} {σ τ γ π ρ : a_S} {C : a_C} {bw most by_ gl : Int} {Sd : a_S → Prop} {f : Nat → a_S} {c : Nat → Int} {t : Nat}
theorem c_Wa_codeOnWay (h : cl_W en X N zb wb C T J P z w) (h9 : J (X + 132) 9 = 1) {s r : Int} (hs : 0 ≤ s ∧ s < J (X + 29) 5) (his : a_is C (cl_spt J X s.toNat) = true) (hr : r = a_met (J (sR P (X + 139))) (sN T P (X + 139)) (a_nb C (cl_spt J X s.toNat))) {sb : Nat} (hsb : (sb : Int) < r)
    (hq : ∀ J' f c, cl_W en X N zb wb C T J' P z w → cl_q X N T J P L T J' P L → cl_wy C (po_get J (X + 31)) (cl_spt J X s.toNat) f c r.toNat → Q (some (.int (m_i (c sb)))) (T, m_I J', P, L, z, w)) :
    m_call en (d + 4) mWa_codeOnWay [.ref (X + 132), .int (m_i s), .int (m_i (sb : Int))] (T, m_I J, P, L, z, w) Q := by
  obtain ⟨f, c, hwy, hrb, hcm, hin⟩ := cl_way h h9 his ⟨rfl, rfl, rfl⟩ hr (by omega)
  have h0 := h
  obtain ⟨hV, ⟨h1, h2, ok, h4, hC⟩, h6, h7, h8⟩ := h0
  have hX := hV.1
  have hN := hV.2.1
  have k5 : 0 ≤ J (X + 29) 5 ∧ J (X + 29) 5 ≤ 6 := h1.2.2.2.2.1
  obtain ⟨cc, uu, hss, -, -⟩ := hV.2.2.2
  have hs9 := hss 139 (Or.inl rfl)
  have hz := cl_z hV (o := 139) (Or.inl rfl)
  have hszb := a_sz_b ok
  have hnb := a_nb_b ok his
  have hc0 : a_cm (J (sR P (X + 139))) (sN T P (X + 139)) (a_nb C (cl_spt J X s.toNat)) = c 0 := by
    have := hcm 0 (by omega)
    rw [hwy.1] at this
    exact this
  have eR : po_put J (X + 155) (cl_spt J X s.toNat) (sR P (X + 139)) = J (sR P (X + 139)) := funext (fun i => po_put_o (by omega))
  have h23 := l_Wa_codeOnWay (d := d + 2) (L := L) (o1 := some (.int (m_i s))) (o3 := some (.int (m_i (a_nb C (cl_spt J X s.toNat))))) hV ok hC hwy hcm hin (sb := sb) (by omega) (by omega) (hq _ f c (cl_W_po h (by omega)) (cl_q_po (by omega)) hwy) sb 0 (by omega)
  rw [hwy.1] at h23
  refine m_into (by decide) (Nat.le_of_ble_eq_true rfl) rfl ?_
  show m_wp en _ mWa_codeOnWay 0 [some (.ref (X + 132)), some (.int (m_i (s))), some (.int (m_i ((sb : Int)))), none, none, none] [] (T, m_I J, P, L, z, w) Q
  refine r_aln eWa_codeOnWay_0 rfl ?_
  refine r_aln eWa_codeOnWay_1 rfl ?_
  refine m_getR eWa_codeOnWay_2 rfl (cl_t hX (i := 132) rfl) (cl_p hX (i := 107) rfl) ?_
  refine r_iln eWa_codeOnWay_5 rfl ?_
  refine r_vir eWa_codeOnWay_6 rfl rfl rfl (cl_t hX (i := 132) rfl) rfl rfl ?_
  refine c_Wa_spotNumber hX (Or.inl rfl) ok hC h1 ⟨by omega, by omega⟩ (fun q9 => absurd hs q9) (fun q9 => ?_)
  show m_wp en _ mWa_codeOnWay 9 [some (.ref (X + 132)), some (.int (m_i (s))), some (.int (m_i ((sb : Int)))), none, none, none] [(.int (m_i ((a_nb C (cl_spt J X s.toNat)))))] (T, m_I (((po_put J (X + 155) (cl_spt J X s.toNat)))), P, L, z, w) Q
  refine r_isn (ls' := [some (.ref (X + 132)), some (.int (m_i (s))), some (.int (m_i ((sb : Int)))), some (.int (m_i ((a_nb C (cl_spt J X s.toNat))))), none, none]) eWa_codeOnWay_9 (Nat.le_of_ble_eq_true rfl) rfl ?_
  refine r_aln eWa_codeOnWay_10 rfl ?_
  refine m_getR eWa_codeOnWay_11 rfl (cl_t hX (i := 132) rfl) (cl_p hX (i := 109) rfl) ?_
  refine r_iln eWa_codeOnWay_14 rfl ?_
  refine r_vir eWa_codeOnWay_15 rfl rfl rfl (cl_t hX (i := 139) rfl) rfl rfl ?_
  refine c_Se_codeMet (cl_t hX (i := 139) rfl) hs9.1.1 hs9.1.2 hs9.2.2.2.1 ⟨by omega, by omega⟩ (fun i hi => by rw [po_put_o (by omega), show i = (a_nb C (cl_spt J X s.toNat)).toNat by omega]; exact hin _ his) ?_
  rw [eR, hc0]
  show m_wp en _ mWa_codeOnWay 18 [some (.ref (X + 132)), some (.int (m_i (s))), some (.int (m_i ((sb : Int)))), some (.int (m_i ((a_nb C (cl_spt J X s.toNat))))), none, none] [(.int (m_i ((c 0))))] (T, m_I (((((po_put J (X + 155) (cl_spt J X s.toNat)))))), P, L, z, w) Q
  refine r_is (ls' := [some (.ref (X + 132)), some (.int (m_i (s))), some (.int (m_i ((sb : Int)))), some (.int (m_i ((a_nb C (cl_spt J X s.toNat))))), some (.int (m_i ((c 0)))), none]) eWa_codeOnWay_18 (Nat.le_of_ble_eq_true rfl) rfl ?_
  refine r_con eWa_codeOnWay_20 ?_
  refine r_is (ls' := [some (.ref (X + 132)), some (.int (m_i (s))), some (.int (m_i ((sb : Int)))), some (.int (m_i ((a_nb C (cl_spt J X s.toNat))))), some (.int (m_i ((c 0)))), some (.int (m_i (0)))]) eWa_codeOnWay_21 (Nat.le_of_ble_eq_true rfl) rfl ?_
  exact h23
theorem cl_al_b (ok : a_ok C) (hwy : cl_wy C π γ f c t) {what : Int} : ∀ j, j ≤ t → -10 ≤ cl_al C what f c j ∧ cl_al C what f c j ≤ 10 + j := by
  intro j
  induction j with
  | zero => intro _; have := cl_nt_b ok (hwy.2.2.1 0 (by omega)) what; unfold cl_al; omega
  | succ j ih =>
    intro hj
    have h1 := ih (by omega)
    have h2 := cl_nt_b ok (hwy.2.2.1 j (by omega)) what
    unfold cl_al
    split
    · split <;> omega
    · split
      · split <;> omega
      · split <;> omega
theorem l_Wa_onWay (hV : cl_V en X N zb wb T P z w) (ok : a_ok C) (hC : sp_is J (X + 133) C) (hwy : cl_wy C π γ f c t) (hcm : ∀ j, j < t → a_cm (J (sR P (X + 139))) (sN T P (X + 139)) (a_nb C (f j)) = c j) (hin : ∀ σ, a_is C σ = true → m_in (J (sR P (X + 139)) (a_nb C σ).toNat)) (htt : t < 100000) {what : Int} (hw : 0 ≤ what ∧ what ≤ 4) {o1 : Option Value}
    (hq : Q (some (.int (m_i (cl_al C what f c t)))) (T, m_I (po_put J (X + 155) (f t)), P, L, z, w)) :
    ∀ (r j : Nat) (o6 : Option Value), j + r = t → m_wp en (d + 2) mWa_onWay 27 [some (.ref (X + 132)), o1, some (.int (m_i what)), some (.int (m_i (t : Int))), some (.int (m_i (cl_al C what f c j))), some (.int (m_i (j : Int))), o6] [] (T, m_I (po_put J (X + 155) (f j)), P, L, z, w) Q := by
  have hX := hV.1
  have hN := hV.2.1
  obtain ⟨cc, uu, hss, -, -⟩ := hV.2.2.2
  have hs := hss 139 (Or.inl rfl)
  have hz := cl_z hV (o := 139) (Or.inl rfl)
  have hszb := a_sz_b ok
  have hab := cl_al_b (what := what) ok hwy
  obtain ⟨y1, y2, y3, y4⟩ := hwy
  intro r
  induction r with
  | zero =>
    intro j o6 hj
    obtain rfl : j = t := by omega
    refine r_il eWa_onWay_27 rfl ?_
    refine r_iln eWa_onWay_29 rfl ?_
    refine r_cge (tgt := 160) eWa_onWay_30 rfl ⟨(by omega), (by omega)⟩ ⟨(by omega), (by omega)⟩ (fun c30 => ?_) (fun c30 => ?_)
    · refine r_il eWa_onWay_160 rfl ?_
      refine r_iret eWa_onWay_162 rfl ?_
      exact hq
    · exfalso; omega
  | succ r ih =>
    intro j o6 hj
    have hi := ih (j + 1)
    rw [show ((j + 1 : Nat) : Int) = (j : Int) + 1 by omega] at hi
    have hcj : 0 ≤ c j ∧ c j < 9 := (y4 j (by omega)).2.1
    have hisj := y3 j (by omega)
    have hbj := a_is_bx ok hisj
    have hnbj := a_nb_b ok hisj
    have hntj := cl_nt_b ok hisj what
    have habj := hab j (by omega)
    have hbk : a_back (f j) (c j) = f (j + 1) := by
      have := (y4 j (by omega)).1
      rw [this, a_back_step]
    have eR : po_put J (X + 155) (f j) (sR P (X + 139)) = J (sR P (X + 139)) := funext (fun i => po_put_o (by omega))
    have hC1 : sp_is (po_put J (X + 155) (f j)) (X + 133) C := sp_is_e hC (fun i => po_put_o (by omega)) (fun i => po_put_o (by omega)) (fun i => po_put_o (by omega))
    unfold cl_al at hi
    refine r_il eWa_onWay_27 rfl ?_
    refine r_iln eWa_onWay_29 rfl ?_
    refine r_cge (tgt := 160) eWa_onWay_30 rfl ⟨(by omega), (by omega)⟩ ⟨(by omega), (by omega)⟩ (fun c30 => ?_) (fun c30 => ?_)
    · exfalso; omega
    · refine r_aln eWa_onWay_33 rfl ?_
      refine m_getR eWa_onWay_34 rfl (cl_t hX (i := 132) rfl) (cl_p hX (i := 109) rfl) ?_
      refine r_aln eWa_onWay_37 rfl ?_
      refine m_getR eWa_onWay_38 rfl (cl_t hX (i := 132) rfl) (cl_p hX (i := 107) rfl) ?_
      refine r_aln eWa_onWay_41 rfl ?_
      refine m_getR eWa_onWay_42 rfl (cl_t hX (i := 132) rfl) (cl_p hX (i := 113) rfl) ?_
      refine r_vir eWa_onWay_45 rfl rfl rfl (cl_t hX (i := 133) rfl) rfl rfl ?_
      refine c_Sp_numberOf (cl_sp hX (Or.inl rfl)) (cl_po hX (k := 155) (by decide)) hC1 ok (by rw [po_get_put]; exact a_bx_sm hbj) ?_
      rw [po_get_put]
      show m_wp en _ mWa_onWay 48 [some (.ref (X + 132)), o1, some (.int (m_i (what))), some (.int (m_i ((t : Int)))), some (.int (m_i (cl_al C what f c j))), some (.int (m_i ((j : Int)))), o6] [(.int (m_i ((a_nb C (f j))))), (.ref (X + 139))] (T, m_I ((((po_put J (X + 155) (f j))))), P, L, z, w) Q
      refine r_vir eWa_onWay_48 rfl rfl rfl (cl_t hX (i := 139) rfl) rfl rfl ?_
      refine c_Se_codeMet (cl_t hX (i := 139) rfl) hs.1.1 hs.1.2 hs.2.2.2.1 ⟨by omega, by omega⟩ (fun i hi => by rw [po_put_o (by omega), show i = (a_nb C (f j)).toNat by omega]; exact hin _ hisj) ?_
      rw [eR]
      rw [hcm j (by omega)]
      show m_wp en _ mWa_onWay 51 [some (.ref (X + 132)), o1, some (.int (m_i (what))), some (.int (m_i ((t : Int)))), some (.int (m_i (cl_al C what f c j))), some (.int (m_i ((j : Int)))), o6] [(.int (m_i ((c j))))] (T, m_I ((((((po_put J (X + 155) (f j))))))), P, L, z, w) Q
      refine r_is (ls' := [some (.ref (X + 132)), o1, some (.int (m_i (what))), some (.int (m_i ((t : Int)))), some (.int (m_i (cl_al C what f c j))), some (.int (m_i ((j : Int)))), some (.int (m_i ((c j))))]) eWa_onWay_51 (Nat.le_of_ble_eq_true rfl) rfl ?_
      refine r_il eWa_onWay_53 rfl ?_
      refine r_zge (tgt := 61) eWa_onWay_55 rfl ⟨(by omega), (by omega)⟩ (fun c55 => ?_) (fun c55 => ?_)
      · refine r_iln eWa_onWay_61 rfl ?_
        refine r_con eWa_onWay_62 ?_
        refine r_cne (tgt := 87) eWa_onWay_63 rfl ⟨(by omega), (by omega)⟩ ⟨(by omega), (by omega)⟩ (fun c63 => ?_) (fun c63 => ?_)
        · refine r_iln eWa_onWay_87 rfl ?_
          refine r_con eWa_onWay_88 ?_
          refine r_cne (tgt := 113) eWa_onWay_89 rfl ⟨(by omega), (by omega)⟩ ⟨(by omega), (by omega)⟩ (fun c89 => ?_) (fun c89 => ?_)
          · refine r_iln eWa_onWay_113 rfl ?_
            refine r_con eWa_onWay_114 ?_
            refine r_cne (tgt := 133) eWa_onWay_115 rfl ⟨(by omega), (by omega)⟩ ⟨(by omega), (by omega)⟩ (fun c115 => ?_) (fun c115 => ?_)
            · refine r_il eWa_onWay_133 rfl ?_
              refine r_aln eWa_onWay_135 rfl ?_
              refine r_iln eWa_onWay_136 rfl ?_
              refine r_vir eWa_onWay_137 rfl rfl rfl (cl_t hX (i := 132) rfl) rfl rfl ?_
              refine c_Wa_noted hX ok hC1 po_get_put hisj hw ?_
              show m_wp en _ mWa_onWay 140 [some (.ref (X + 132)), o1, some (.int (m_i (what))), some (.int (m_i ((t : Int)))), some (.int (m_i (cl_al C what f c j))), some (.int (m_i ((j : Int)))), some (.int (m_i ((c j))))] [(.int (m_i ((cl_nt C what (f j))))), (.int (m_i (cl_al C what f c j)))] (T, m_I ((((((((po_put J (X + 155) (f j))))))))), P, L, z, w) Q
              refine r_max eWa_onWay_140 rfl (Nat.le_of_ble_eq_true rfl) ⟨(by omega), (by omega)⟩ ⟨(by omega), (by omega)⟩ ?_
              refine r_is (ls' := [some (.ref (X + 132)), o1, some (.int (m_i (what))), some (.int (m_i ((t : Int)))), some (.int (m_i (max (cl_al C what f c j) ((cl_nt C what (f j)))))), some (.int (m_i ((j : Int)))), some (.int (m_i ((c j))))]) eWa_onWay_143 (Nat.le_of_ble_eq_true rfl) rfl ?_
              refine r_aln eWa_onWay_145 rfl ?_
              refine m_getR eWa_onWay_146 rfl (cl_t hX (i := 132) rfl) (cl_p hX (i := 113) rfl) ?_
              refine r_il eWa_onWay_149 rfl ?_
              refine r_vir eWa_onWay_151 rfl rfl rfl (cl_t hX (i := 149) rfl) rfl rfl ?_
              refine c_Po_moveBack (cl_po hX (k := 155) (by decide)) (by rw [po_get_put]; exact a_bx_sm hbj) hcj ?_
              rw [po_get_put, po_put_put, hbk]
              show m_wp en _ mWa_onWay 154 [some (.ref (X + 132)), o1, some (.int (m_i (what))), some (.int (m_i ((t : Int)))), some (.int (m_i (max (cl_al C what f c j) ((cl_nt C what (f j)))))), some (.int (m_i ((j : Int)))), some (.int (m_i ((c j))))] [] (T, m_I (((po_put J (X + 155) (f (j + 1))))), P, L, z, w) Q
              refine r_inc (ls' := [some (.ref (X + 132)), o1, some (.int (m_i (what))), some (.int (m_i ((t : Int)))), some (.int (m_i (max (cl_al C what f c j) ((cl_nt C what (f j)))))), some (.int (m_i ((j : Int) + 1))), some (.int (m_i ((c j))))]) eWa_onWay_154 rfl rfl ?_
              refine r_go (tgt := 27) eWa_onWay_157 rfl ?_
              have hi := hi (some (.int (m_i (c j)))) (by omega)
              first | (rw [if_pos (show what = 2 by omega), if_pos (show c j / 3 = 1 by omega)] at hi; exact hi) | (rw [if_pos (show what = 2 by omega), if_neg (show ¬ c j / 3 = 1 by omega)] at hi; exact hi) | (rw [if_neg (show ¬ what = 2 by omega), if_pos (show what = 3 by omega), if_pos (show c j % 3 = 1 by omega)] at hi; exact hi) | (rw [if_neg (show ¬ what = 2 by omega), if_pos (show what = 3 by omega), if_neg (show ¬ c j % 3 = 1 by omega)] at hi; exact hi) | (rw [if_neg (show ¬ what = 2 by omega), if_neg (show ¬ what = 3 by omega), if_pos (show what = 4 by omega)] at hi; exact hi) | (rw [if_neg (show ¬ what = 2 by omega), if_neg (show ¬ what = 3 by omega), if_neg (show ¬ what = 4 by omega)] at hi; exact hi)
            · refine r_il eWa_onWay_118 rfl ?_
              refine r_aln eWa_onWay_120 rfl ?_
              refine r_iln eWa_onWay_121 rfl ?_
              refine r_vir eWa_onWay_122 rfl rfl rfl (cl_t hX (i := 132) rfl) rfl rfl ?_
              refine c_Wa_noted hX ok hC1 po_get_put hisj hw ?_
              show m_wp en _ mWa_onWay 125 [some (.ref (X + 132)), o1, some (.int (m_i (what))), some (.int (m_i ((t : Int)))), some (.int (m_i (cl_al C what f c j))), some (.int (m_i ((j : Int)))), some (.int (m_i ((c j))))] [(.int (m_i ((cl_nt C what (f j))))), (.int (m_i (cl_al C what f c j)))] (T, m_I ((((((((po_put J (X + 155) (f j))))))))), P, L, z, w) Q
              refine r_min eWa_onWay_125 rfl (Nat.le_of_ble_eq_true rfl) ⟨(by omega), (by omega)⟩ ⟨(by omega), (by omega)⟩ ?_
              refine r_is (ls' := [some (.ref (X + 132)), o1, some (.int (m_i (what))), some (.int (m_i ((t : Int)))), some (.int (m_i (min (cl_al C what f c j) ((cl_nt C what (f j)))))), some (.int (m_i ((j : Int)))), some (.int (m_i ((c j))))]) eWa_onWay_128 (Nat.le_of_ble_eq_true rfl) rfl ?_
              refine r_go (tgt := 145) eWa_onWay_130 rfl ?_
              refine r_aln eWa_onWay_145 rfl ?_
              refine m_getR eWa_onWay_146 rfl (cl_t hX (i := 132) rfl) (cl_p hX (i := 113) rfl) ?_
              refine r_il eWa_onWay_149 rfl ?_
              refine r_vir eWa_onWay_151 rfl rfl rfl (cl_t hX (i := 149) rfl) rfl rfl ?_
              refine c_Po_moveBack (cl_po hX (k := 155) (by decide)) (by rw [po_get_put]; exact a_bx_sm hbj) hcj ?_
              rw [po_get_put, po_put_put, hbk]
              show m_wp en _ mWa_onWay 154 [some (.ref (X + 132)), o1, some (.int (m_i (what))), some (.int (m_i ((t : Int)))), some (.int (m_i (min (cl_al C what f c j) ((cl_nt C what (f j)))))), some (.int (m_i ((j : Int)))), some (.int (m_i ((c j))))] [] (T, m_I (((po_put J (X + 155) (f (j + 1))))), P, L, z, w) Q
              refine r_inc (ls' := [some (.ref (X + 132)), o1, some (.int (m_i (what))), some (.int (m_i ((t : Int)))), some (.int (m_i (min (cl_al C what f c j) ((cl_nt C what (f j)))))), some (.int (m_i ((j : Int) + 1))), some (.int (m_i ((c j))))]) eWa_onWay_154 rfl rfl ?_
              refine r_go (tgt := 27) eWa_onWay_157 rfl ?_
              have hi := hi (some (.int (m_i (c j)))) (by omega)
              first | (rw [if_pos (show what = 2 by omega), if_pos (show c j / 3 = 1 by omega)] at hi; exact hi) | (rw [if_pos (show what = 2 by omega), if_neg (show ¬ c j / 3 = 1 by omega)] at hi; exact hi) | (rw [if_neg (show ¬ what = 2 by omega), if_pos (show what = 3 by omega), if_pos (show c j % 3 = 1 by omega)] at hi; exact hi) | (rw [if_neg (show ¬ what = 2 by omega), if_pos (show what = 3 by omega), if_neg (show ¬ c j % 3 = 1 by omega)] at hi; exact hi) | (rw [if_neg (show ¬ what = 2 by omega), if_neg (show ¬ what = 3 by omega), if_pos (show what = 4 by omega)] at hi; exact hi) | (rw [if_neg (show ¬ what = 2 by omega), if_neg (show ¬ what = 3 by omega), if_neg (show ¬ what = 4 by omega)] at hi; exact hi)
          · refine r_il eWa_onWay_92 rfl ?_
            refine r_il eWa_onWay_94 rfl ?_
            refine r_con eWa_onWay_96 ?_
            refine r_rem eWa_onWay_97 ⟨(by omega), (by omega)⟩ ⟨(by omega), (by omega)⟩ ?_
            refine r_con eWa_onWay_98 ?_
            refine r_cne (tgt := 106) eWa_onWay_99 rfl ⟨(by omega), (by omega)⟩ ⟨(by omega), (by omega)⟩ (fun c99 => ?_) (fun c99 => ?_)
            · refine r_con eWa_onWay_106 ?_
              refine r_add eWa_onWay_107 ?_
              refine r_is (ls' := [some (.ref (X + 132)), o1, some (.int (m_i (what))), some (.int (m_i ((t : Int)))), some (.int (m_i ((cl_al C what f c j) + (1)))), some (.int (m_i ((j : Int)))), some (.int (m_i ((c j))))]) eWa_onWay_108 (Nat.le_of_ble_eq_true rfl) rfl ?_
              refine r_go (tgt := 145) eWa_onWay_110 rfl ?_
              refine r_aln eWa_onWay_145 rfl ?_
              refine m_getR eWa_onWay_146 rfl (cl_t hX (i := 132) rfl) (cl_p hX (i := 113) rfl) ?_
              refine r_il eWa_onWay_149 rfl ?_
              refine r_vir eWa_onWay_151 rfl rfl rfl (cl_t hX (i := 149) rfl) rfl rfl ?_
              refine c_Po_moveBack (cl_po hX (k := 155) (by decide)) (by rw [po_get_put]; exact a_bx_sm hbj) hcj ?_
              rw [po_get_put, po_put_put, hbk]
              show m_wp en _ mWa_onWay 154 [some (.ref (X + 132)), o1, some (.int (m_i (what))), some (.int (m_i ((t : Int)))), some (.int (m_i ((cl_al C what f c j) + (1)))), some (.int (m_i ((j : Int)))), some (.int (m_i ((c j))))] [] (T, m_I (((po_put J (X + 155) (f (j + 1))))), P, L, z, w) Q
              refine r_inc (ls' := [some (.ref (X + 132)), o1, some (.int (m_i (what))), some (.int (m_i ((t : Int)))), some (.int (m_i ((cl_al C what f c j) + (1)))), some (.int (m_i ((j : Int) + 1))), some (.int (m_i ((c j))))]) eWa_onWay_154 rfl rfl ?_
              refine r_go (tgt := 27) eWa_onWay_157 rfl ?_
              have hi := hi (some (.int (m_i (c j)))) (by omega)
              first | (rw [if_pos (show what = 2 by omega), if_pos (show c j / 3 = 1 by omega)] at hi; exact hi) | (rw [if_pos (show what = 2 by omega), if_neg (show ¬ c j / 3 = 1 by omega)] at hi; exact hi) | (rw [if_neg (show ¬ what = 2 by omega), if_pos (show what = 3 by omega), if_pos (show c j % 3 = 1 by omega)] at hi; exact hi) | (rw [if_neg (show ¬ what = 2 by omega), if_pos (show what = 3 by omega), if_neg (show ¬ c j % 3 = 1 by omega)] at hi; exact hi) | (rw [if_neg (show ¬ what = 2 by omega), if_neg (show ¬ what = 3 by omega), if_pos (show what = 4 by omega)] at hi; exact hi) | (rw [if_neg (show ¬ what = 2 by omega), if_neg (show ¬ what = 3 by omega), if_neg (show ¬ what = 4 by omega)] at hi; exact hi)
            · refine r_con eWa_onWay_102 ?_
              refine r_go (tgt := 107) eWa_onWay_103 rfl ?_
              refine r_add eWa_onWay_107 ?_
              refine r_is (ls' := [some (.ref (X + 132)), o1, some (.int (m_i (what))), some (.int (m_i ((t : Int)))), some (.int (m_i ((cl_al C what f c j) + (0)))), some (.int (m_i ((j : Int)))), some (.int (m_i ((c j))))]) eWa_onWay_108 (Nat.le_of_ble_eq_true rfl) rfl ?_
              refine r_go (tgt := 145) eWa_onWay_110 rfl ?_
              refine r_aln eWa_onWay_145 rfl ?_
              refine m_getR eWa_onWay_146 rfl (cl_t hX (i := 132) rfl) (cl_p hX (i := 113) rfl) ?_
              refine r_il eWa_onWay_149 rfl ?_
              refine r_vir eWa_onWay_151 rfl rfl rfl (cl_t hX (i := 149) rfl) rfl rfl ?_
              refine c_Po_moveBack (cl_po hX (k := 155) (by decide)) (by rw [po_get_put]; exact a_bx_sm hbj) hcj ?_
              rw [po_get_put, po_put_put, hbk]
              show m_wp en _ mWa_onWay 154 [some (.ref (X + 132)), o1, some (.int (m_i (what))), some (.int (m_i ((t : Int)))), some (.int (m_i ((cl_al C what f c j) + (0)))), some (.int (m_i ((j : Int)))), some (.int (m_i ((c j))))] [] (T, m_I (((po_put J (X + 155) (f (j + 1))))), P, L, z, w) Q
              refine r_inc (ls' := [some (.ref (X + 132)), o1, some (.int (m_i (what))), some (.int (m_i ((t : Int)))), some (.int (m_i ((cl_al C what f c j) + (0)))), some (.int (m_i ((j : Int) + 1))), some (.int (m_i ((c j))))]) eWa_onWay_154 rfl rfl ?_
              refine r_go (tgt := 27) eWa_onWay_157 rfl ?_
              have hi := hi (some (.int (m_i (c j)))) (by omega)
              first | (rw [if_pos (show what = 2 by omega), if_pos (show c j / 3 = 1 by omega)] at hi; exact hi) | (rw [if_pos (show what = 2 by omega), if_neg (show ¬ c j / 3 = 1 by omega)] at hi; exact hi) | (rw [if_neg (show ¬ what = 2 by omega), if_pos (show what = 3 by omega), if_pos (show c j % 3 = 1 by omega)] at hi; exact hi) | (rw [if_neg (show ¬ what = 2 by omega), if_pos (show what = 3 by omega), if_neg (show ¬ c j % 3 = 1 by omega)] at hi; exact hi) | (rw [if_neg (show ¬ what = 2 by omega), if_neg (show ¬ what = 3 by omega), if_pos (show what = 4 by omega)] at hi; exact hi) | (rw [if_neg (show ¬ what = 2 by omega), if_neg (show ¬ what = 3 by omega), if_neg (show ¬ what = 4 by omega)] at hi; exact hi)
        · refine r_il eWa_onWay_66 rfl ?_
          refine r_il eWa_onWay_68 rfl ?_
          refine r_con eWa_onWay_70 ?_
          refine r_div eWa_onWay_71 ⟨(by omega), (by omega)⟩ ⟨(by omega), (by omega)⟩ ?_
          refine r_con eWa_onWay_72 ?_
          refine r_cne (tgt := 80) eWa_onWay_73 rfl ⟨(by omega), (by omega)⟩ ⟨(by omega), (by omega)⟩ (fun c73 => ?_) (fun c73 => ?_)
          · refine r_con eWa_onWay_80 ?_
            refine r_add eWa_onWay_81 ?_
            refine r_is (ls' := [some (.ref (X + 132)), o1, some (.int (m_i (what))), some (.int (m_i ((t : Int)))), some (.int (m_i ((cl_al C what f c j) + (1)))), some (.int (m_i ((j : Int)))), some (.int (m_i ((c j))))]) eWa_onWay_82 (Nat.le_of_ble_eq_true rfl) rfl ?_
            refine r_go (tgt := 145) eWa_onWay_84 rfl ?_
            refine r_aln eWa_onWay_145 rfl ?_
            refine m_getR eWa_onWay_146 rfl (cl_t hX (i := 132) rfl) (cl_p hX (i := 113) rfl) ?_
            refine r_il eWa_onWay_149 rfl ?_
            refine r_vir eWa_onWay_151 rfl rfl rfl (cl_t hX (i := 149) rfl) rfl rfl ?_
            refine c_Po_moveBack (cl_po hX (k := 155) (by decide)) (by rw [po_get_put]; exact a_bx_sm hbj) hcj ?_
            rw [po_get_put, po_put_put, hbk]
            show m_wp en _ mWa_onWay 154 [some (.ref (X + 132)), o1, some (.int (m_i (what))), some (.int (m_i ((t : Int)))), some (.int (m_i ((cl_al C what f c j) + (1)))), some (.int (m_i ((j : Int)))), some (.int (m_i ((c j))))] [] (T, m_I (((po_put J (X + 155) (f (j + 1))))), P, L, z, w) Q
            refine r_inc (ls' := [some (.ref (X + 132)), o1, some (.int (m_i (what))), some (.int (m_i ((t : Int)))), some (.int (m_i ((cl_al C what f c j) + (1)))), some (.int (m_i ((j : Int) + 1))), some (.int (m_i ((c j))))]) eWa_onWay_154 rfl rfl ?_
            refine r_go (tgt := 27) eWa_onWay_157 rfl ?_
            have hi := hi (some (.int (m_i (c j)))) (by omega)
            first | (rw [if_pos (show what = 2 by omega), if_pos (show c j / 3 = 1 by omega)] at hi; exact hi) | (rw [if_pos (show what = 2 by omega), if_neg (show ¬ c j / 3 = 1 by omega)] at hi; exact hi) | (rw [if_neg (show ¬ what = 2 by omega), if_pos (show what = 3 by omega), if_pos (show c j % 3 = 1 by omega)] at hi; exact hi) | (rw [if_neg (show ¬ what = 2 by omega), if_pos (show what = 3 by omega), if_neg (show ¬ c j % 3 = 1 by omega)] at hi; exact hi) | (rw [if_neg (show ¬ what = 2 by omega), if_neg (show ¬ what = 3 by omega), if_pos (show what = 4 by omega)] at hi; exact hi) | (rw [if_neg (show ¬ what = 2 by omega), if_neg (show ¬ what = 3 by omega), if_neg (show ¬ what = 4 by omega)] at hi; exact hi)
          · refine r_con eWa_onWay_76 ?_
            refine r_go (tgt := 81) eWa_onWay_77 rfl ?_
            refine r_add eWa_onWay_81 ?_
            refine r_is (ls' := [some (.ref (X + 132)), o1, some (.int (m_i (what))), some (.int (m_i ((t : Int)))), some (.int (m_i ((cl_al C what f c j) + (0)))), some (.int (m_i ((j : Int)))), some (.int (m_i ((c j))))]) eWa_onWay_82 (Nat.le_of_ble_eq_true rfl) rfl ?_
            refine r_go (tgt := 145) eWa_onWay_84 rfl ?_
            refine r_aln eWa_onWay_145 rfl ?_
            refine m_getR eWa_onWay_146 rfl (cl_t hX (i := 132) rfl) (cl_p hX (i := 113) rfl) ?_
            refine r_il eWa_onWay_149 rfl ?_
            refine r_vir eWa_onWay_151 rfl rfl rfl (cl_t hX (i := 149) rfl) rfl rfl ?_
            refine c_Po_moveBack (cl_po hX (k := 155) (by decide)) (by rw [po_get_put]; exact a_bx_sm hbj) hcj ?_
            rw [po_get_put, po_put_put, hbk]
            show m_wp en _ mWa_onWay 154 [some (.ref (X + 132)), o1, some (.int (m_i (what))), some (.int (m_i ((t : Int)))), some (.int (m_i ((cl_al C what f c j) + (0)))), some (.int (m_i ((j : Int)))), some (.int (m_i ((c j))))] [] (T, m_I (((po_put J (X + 155) (f (j + 1))))), P, L, z, w) Q
            refine r_inc (ls' := [some (.ref (X + 132)), o1, some (.int (m_i (what))), some (.int (m_i ((t : Int)))), some (.int (m_i ((cl_al C what f c j) + (0)))), some (.int (m_i ((j : Int) + 1))), some (.int (m_i ((c j))))]) eWa_onWay_154 rfl rfl ?_
            refine r_go (tgt := 27) eWa_onWay_157 rfl ?_
            have hi := hi (some (.int (m_i (c j)))) (by omega)
            first | (rw [if_pos (show what = 2 by omega), if_pos (show c j / 3 = 1 by omega)] at hi; exact hi) | (rw [if_pos (show what = 2 by omega), if_neg (show ¬ c j / 3 = 1 by omega)] at hi; exact hi) | (rw [if_neg (show ¬ what = 2 by omega), if_pos (show what = 3 by omega), if_pos (show c j % 3 = 1 by omega)] at hi; exact hi) | (rw [if_neg (show ¬ what = 2 by omega), if_pos (show what = 3 by omega), if_neg (show ¬ c j % 3 = 1 by omega)] at hi; exact hi) | (rw [if_neg (show ¬ what = 2 by omega), if_neg (show ¬ what = 3 by omega), if_pos (show what = 4 by omega)] at hi; exact hi) | (rw [if_neg (show ¬ what = 2 by omega), if_neg (show ¬ what = 3 by omega), if_neg (show ¬ what = 4 by omega)] at hi; exact hi)
      · refine r_il eWa_onWay_58 rfl ?_
        refine r_iret eWa_onWay_60 rfl ?_
        exfalso; omega
theorem c_Wa_onWay (h : cl_W en X N zb wb C T J P z w) (h9 : J (X + 132) 9 = 1) {s r : Int} (hs : 0 ≤ s ∧ s < J (X + 29) 5) (his : a_is C (cl_spt J X s.toNat) = true) (hr : r = a_met (J (sR P (X + 139))) (sN T P (X + 139)) (a_nb C (cl_spt J X s.toNat))) (hr0 : 0 ≤ r) {what : Int} (hw : 0 ≤ what ∧ what ≤ 4)
    (hq : ∀ J' f c, cl_W en X N zb wb C T J' P z w → cl_q X N T J P L T J' P L → cl_wy C (po_get J (X + 31)) (cl_spt J X s.toNat) f c r.toNat → Q (some (.int (m_i (cl_al C what f c r.toNat)))) (T, m_I J', P, L, z, w)) :
    m_call en (d + 4) mWa_onWay [.ref (X + 132), .int (m_i s), .int (m_i what)] (T, m_I J, P, L, z, w) Q := by
  obtain ⟨f, c, hwy, hrb, hcm, hin⟩ := cl_way h h9 his ⟨rfl, rfl, rfl⟩ hr (by omega)
  have h0 := h
  obtain ⟨hV, ⟨h1, h2, ok, h4, hC⟩, h6, h7, h8⟩ := h0
  have hX := hV.1
  have hN := hV.2.1
  have k5 : 0 ≤ J (X + 29) 5 ∧ J (X + 29) 5 ≤ 6 := h1.2.2.2.2.1
  obtain ⟨cc, uu, hss, -, -⟩ := hV.2.2.2
  have hs9 := hss 139 (Or.inl rfl)
  have hz := cl_z hV (o := 139) (Or.inl rfl)
  have hszb := a_sz_b ok
  have hnb := a_nb_b ok his
  have ert : r = (r.toNat : Int) := by omega
  have eR : po_put J (X + 155) (cl_spt J X s.toNat) (sR P (X + 139)) = J (sR P (X + 139)) := funext (fun i => po_put_o (by omega))
  have hC1 : sp_is (po_put J (X + 155) (cl_spt J X s.toNat)) (X + 133) C := sp_is_e hC (fun i => po_put_o (by omega)) (fun i => po_put_o (by omega)) (fun i => po_put_o (by omega))
  have h27 := l_Wa_onWay (d := d + 1) (L := L) (o1 := some (.int (m_i s))) hV ok hC hwy hcm hin (by omega) hw (hq _ f c (cl_W_po h (by omega)) (cl_q_po (by omega)) hwy) r.toNat 0 none (by omega)
  unfold cl_al at h27
  rw [hwy.1] at h27
  refine m_into (by decide) (Nat.le_of_ble_eq_true rfl) rfl ?_
  show m_wp en _ mWa_onWay 0 [some (.ref (X + 132)), some (.int (m_i (s))), some (.int (m_i (what))), none, none, none, none] [] (T, m_I J, P, L, z, w) Q
  refine r_aln eWa_onWay_0 rfl ?_
  refine m_getR eWa_onWay_1 rfl (cl_t hX (i := 132) rfl) (cl_p hX (i := 109) rfl) ?_
  refine r_aln eWa_onWay_4 rfl ?_
  refine r_aln eWa_onWay_5 rfl ?_
  refine m_getR eWa_onWay_6 rfl (cl_t hX (i := 132) rfl) (cl_p hX (i := 107) rfl) ?_
  refine r_iln eWa_onWay_9 rfl ?_
  refine r_vir eWa_onWay_10 rfl rfl rfl (cl_t hX (i := 132) rfl) rfl rfl ?_
  refine c_Wa_spotNumber hX (Or.inl rfl) ok hC h1 ⟨by omega, by omega⟩ (fun q9 => absurd hs q9) (fun q9 => ?_)
  show m_wp en _ mWa_onWay 13 [some (.ref (X + 132)), some (.int (m_i (s))), some (.int (m_i (what))), none, none, none, none] [(.int (m_i ((a_nb C (cl_spt J X s.toNat))))), (.ref (X + 139))] (T, m_I (((po_put J (X + 155) (cl_spt J X s.toNat)))), P, L, z, w) Q
  refine r_vir eWa_onWay_13 rfl rfl rfl (cl_t hX (i := 139) rfl) rfl rfl ?_
  refine c_Se_stepsMet (cl_t hX (i := 139) rfl) hs9.1.1 hs9.1.2 hs9.2.2.2.1 ⟨by omega, by omega⟩ (fun i hi => by rw [po_put_o (by omega), show i = (a_nb C (cl_spt J X s.toNat)).toNat by omega]; exact hin _ his) ?_
  rw [eR, ← hr, ert]
  show m_wp en _ mWa_onWay 16 [some (.ref (X + 132)), some (.int (m_i (s))), some (.int (m_i (what))), none, none, none, none] [(.int (m_i ((r.toNat : Int))))] (T, m_I (((((po_put J (X + 155) (cl_spt J X s.toNat)))))), P, L, z, w) Q
  refine r_isn (ls' := [some (.ref (X + 132)), some (.int (m_i (s))), some (.int (m_i (what))), some (.int (m_i ((r.toNat : Int)))), none, none, none]) eWa_onWay_16 (Nat.le_of_ble_eq_true rfl) rfl ?_
  refine r_aln eWa_onWay_17 rfl ?_
  refine r_iln eWa_onWay_18 rfl ?_
  refine r_vir eWa_onWay_19 rfl rfl rfl (cl_t hX (i := 132) rfl) rfl rfl ?_
  refine c_Wa_noted hX ok hC1 po_get_put his hw ?_
  show m_wp en _ mWa_onWay 22 [some (.ref (X + 132)), some (.int (m_i (s))), some (.int (m_i (what))), some (.int (m_i ((r.toNat : Int)))), none, none, none] [(.int (m_i ((cl_nt C what (cl_spt J X s.toNat)))))] (T, m_I (((((((po_put J (X + 155) (cl_spt J X s.toNat)))))))), P, L, z, w) Q
  refine r_is (ls' := [some (.ref (X + 132)), some (.int (m_i (s))), some (.int (m_i (what))), some (.int (m_i ((r.toNat : Int)))), some (.int (m_i ((cl_nt C what (cl_spt J X s.toNat))))), none, none]) eWa_onWay_22 (Nat.le_of_ble_eq_true rfl) rfl ?_
  refine r_con eWa_onWay_24 ?_
  refine r_is (ls' := [some (.ref (X + 132)), some (.int (m_i (s))), some (.int (m_i (what))), some (.int (m_i ((r.toNat : Int)))), some (.int (m_i ((cl_nt C what (cl_spt J X s.toNat))))), some (.int (m_i (0))), none]) eWa_onWay_25 (Nat.le_of_ble_eq_true rfl) rfl ?_
  exact h27
end AL
