/-! the class: a way walked back -/
/-- what is noted of a state -/
def cl_nt (C : a_C) (what : Int) (σ : a_S) : Int := if what = 0 then a_abs σ.2.2.1 else if what = 1 then a_abs σ.2.1 else if what = 4 then C.2.2.2.2.2 (σ.1 + σ.2.2.1) - σ.2.2.2.2 else 0
/-- what is told along a way, walked from its end -/
def cl_al (C : a_C) (what : Int) (f : Nat → a_S) (c : Nat → Int) : Nat → Int
  | 0 => cl_nt C what (f 0)
  | j + 1 => if what = 2 then cl_al C what f c j + (if c j / 3 = 1 then 0 else 1) else if what = 3 then cl_al C what f c j + (if c j % 3 = 1 then 0 else 1) else if what = 4 then min (cl_al C what f c j) (cl_nt C what (f j)) else max (cl_al C what f c j) (cl_nt C what (f j))
section NT
variable {en : Nat → Nat} {d : Nat} {T T' T2 T0 : Nat → Option (Nat × Nat)} {J J' J0 J1 J2 J3 K H : Nat → Nat → Int} {P P' P2 P0 : Nat → Nat → Option Nat} {L L' L2 L0 : Nat → Nat → Int64} {z w z' w' z0 w0 A B R U S n X N zb wb o o' A0 R' U' n' : Nat} {Q : m_Q} {σ τ γ π ρ : a_S} {C : a_C} {bw most by_ gl : Int} {Sd : a_S → Prop} {f : Nat → a_S} {c : Nat → Int} {t : Nat}
theorem a_abs_i (x : Int) : (if 0 ≤ x then x else -x) = a_abs x := by
  unfold a_abs
  split <;> split <;> omega
theorem cl_nt_b (ok : a_ok C) (h : a_is C σ = true) (what : Int) : -10 ≤ cl_nt C what σ ∧ cl_nt C what σ ≤ 10 := by
  have hb := a_is_bx ok h
  have h2 := a_why_fb ok (a_is_spec h).1
  obtain ⟨k0, k1, k2, k3, k4⟩ := hb
  unfold cl_nt a_abs
  split
  · split <;> omega
  · split
    · split <;> omega
    · split <;> omega
theorem c_Wa_noted (hX : cl_sh en X T P) (ok : a_ok C) (hC : sp_is J (X + 133) C) (hσ : po_get J (X + 155) = σ) (his : a_is C σ = true) {what : Int} (hw : 0 ≤ what ∧ what ≤ 4) (hq : Q (some (.int (m_i (cl_nt C what σ)))) (T, m_I J, P, L, z, w)) : m_call en (d + 2) mWa_noted [.ref (X + 132), .int (m_i what)] (T, m_I J, P, L, z, w) Q := by
  have hb := a_is_bx ok his
  have h2 := a_why_fb ok (a_is_spec his).1
  rw [← hσ] at hb h2 hq
  have b0 : 0 ≤ J (X + 155) 0 ∧ J (X + 155) 0 < 16 := hb.1
  have b1 : -2 ≤ J (X + 155) 1 ∧ J (X + 155) 1 ≤ 2 := hb.2.1
  have b2 : -4 ≤ J (X + 155) 2 ∧ J (X + 155) 2 ≤ 4 := hb.2.2.1
  have b4 : 1 ≤ J (X + 155) 4 ∧ J (X + 155) 4 ≤ 6 := hb.2.2.2.2
  have hld : 0 ≤ J (X + 155) 0 + J (X + 155) 2 ∧ J (X + 155) 0 + J (X + 155) 2 < 16 := h2.1
  have hq0 : what = 0 → Q (some (.int (m_i (if 0 ≤ J (X + 155) 2 then J (X + 155) 2 else -J (X + 155) 2)))) (T, m_I J, P, L, z, w) := fun e => by
    rw [a_abs_i]; unfold cl_nt at hq; rw [if_pos e] at hq; exact hq
  have hq1 : what = 1 → Q (some (.int (m_i (if 0 ≤ J (X + 155) 1 then J (X + 155) 1 else -J (X + 155) 1)))) (T, m_I J, P, L, z, w) := fun e => by
    rw [a_abs_i]; unfold cl_nt at hq; rw [if_neg (by omega), if_pos e] at hq; exact hq
  have hq4 : what = 4 → Q (some (.int (m_i (C.2.2.2.2.2 (J (X + 155) 0 + J (X + 155) 2) - J (X + 155) 4)))) (T, m_I J, P, L, z, w) := fun e => by
    unfold cl_nt at hq; rw [if_neg (by omega), if_neg (by omega), if_pos e] at hq; exact hq
  have hq2 : what = 2 ∨ what = 3 → Q (some (.int (m_i 0))) (T, m_I J, P, L, z, w) := fun e => by
    unfold cl_nt at hq; rw [if_neg (by omega), if_neg (by omega), if_neg (by omega)] at hq; exact hq
  refine m_into (by decide) (Nat.le_of_ble_eq_true rfl) rfl ?_
  show m_wp en _ mWa_noted 0 [some (.ref (X + 132)), some (.int (m_i (what)))] [] (T, m_I J, P, L, z, w) Q
  refine r_iln eWa_noted_0 rfl ?_
  rcases (show (what) = 0 ∨ (what) = 1 ∨ (what) = 2 ∨ (what) = 3 ∨ (what) = 4 ∨ ((what) < 0 ∨ 4 < (what)) by omega) with c1 | c1 | c1 | c1 | c1 | c1
  · refine r_tcase (v := 0) (tgt := 36) eWa_noted_1 c1 ⟨by decide, by decide⟩ ⟨by decide, by decide⟩ rfl rfl ?_
    refine r_aln eWa_noted_36 rfl ?_
    refine m_getR eWa_noted_37 rfl (cl_t hX (i := 132) rfl) (cl_p hX (i := 113) rfl) ?_
    refine r_gete (x := J (X + 155) 2) eWa_noted_40 rfl (by decide) (cl_t hX (i := 149) rfl) rfl ?_
    refine r_abs eWa_noted_43 rfl (Nat.le_of_ble_eq_true rfl) ⟨(by omega), (by omega)⟩ ?_
    refine r_iret eWa_noted_46 rfl ?_
    exact hq0 (by omega)
  · refine r_tcase (v := 1) (tgt := 47) eWa_noted_1 c1 ⟨by decide, by decide⟩ ⟨by decide, by decide⟩ rfl rfl ?_
    refine r_aln eWa_noted_47 rfl ?_
    refine m_getR eWa_noted_48 rfl (cl_t hX (i := 132) rfl) (cl_p hX (i := 113) rfl) ?_
    refine r_gete (x := J (X + 155) 1) eWa_noted_51 rfl (by decide) (cl_t hX (i := 149) rfl) rfl ?_
    refine r_abs eWa_noted_54 rfl (Nat.le_of_ble_eq_true rfl) ⟨(by omega), (by omega)⟩ ?_
    refine r_iret eWa_noted_57 rfl ?_
    exact hq1 (by omega)
  · refine r_tcase (v := 2) (tgt := 81) eWa_noted_1 c1 ⟨by decide, by decide⟩ ⟨by decide, by decide⟩ rfl rfl ?_
    refine r_con eWa_noted_81 ?_
    refine r_iret eWa_noted_82 rfl ?_
    first | exact hq2 (by omega) | (exfalso; omega)
  · refine r_tcase (v := 3) (tgt := 81) eWa_noted_1 c1 ⟨by decide, by decide⟩ ⟨by decide, by decide⟩ rfl rfl ?_
    refine r_con eWa_noted_81 ?_
    refine r_iret eWa_noted_82 rfl ?_
    first | exact hq2 (by omega) | (exfalso; omega)
  · refine r_tcase (v := 4) (tgt := 58) eWa_noted_1 c1 ⟨by decide, by decide⟩ ⟨by decide, by decide⟩ rfl rfl ?_
    refine r_aln eWa_noted_58 rfl ?_
    refine m_getR eWa_noted_59 rfl (cl_t hX (i := 132) rfl) (cl_p hX (i := 107) rfl) ?_
    refine r_aln eWa_noted_62 rfl ?_
    refine m_getR eWa_noted_63 rfl (cl_t hX (i := 132) rfl) (cl_p hX (i := 113) rfl) ?_
    refine r_vir eWa_noted_66 rfl rfl rfl (cl_t hX (i := 149) rfl) rfl rfl ?_
    refine c_Po_load (cl_po hX (k := 155) (by decide)) ?_
    show m_wp en _ mWa_noted 69 [some (.ref (X + 132)), some (.int (m_i (what)))] [(.int (m_i ((J (X + 155) 0 + J (X + 155) 2)))), (.ref (X + 133))] (T, m_I J, P, L, z, w) Q
    refine r_vir eWa_noted_69 rfl rfl rfl (cl_t hX (i := 133) rfl) rfl rfl ?_
    refine c_Sp_freeAt (cl_sp hX (Or.inl rfl)) hC.1 hld ?_
    show m_wp en _ mWa_noted 72 [some (.ref (X + 132)), some (.int (m_i (what)))] [(.int (m_i ((C.2.2.2.2.2 (J (X + 155) 0 + J (X + 155) 2)))))] (T, m_I J, P, L, z, w) Q
    refine r_aln eWa_noted_72 rfl ?_
    refine m_getR eWa_noted_73 rfl (cl_t hX (i := 132) rfl) (cl_p hX (i := 113) rfl) ?_
    refine r_gete (x := J (X + 155) 4) eWa_noted_76 rfl (by decide) (cl_t hX (i := 149) rfl) rfl ?_
    refine r_sub eWa_noted_79 ?_
    refine r_iret eWa_noted_80 rfl ?_
    exact hq4 (by omega)
  · refine r_tdef (tgt := 81) eWa_noted_1 c1 ⟨by omega, by omega⟩ rfl ?_
    refine r_con eWa_noted_81 ?_
    refine r_iret eWa_noted_82 rfl ?_
    first | exact hq2 (by omega) | (exfalso; omega)
theorem l_Wa_codeOnWay (hV : cl_V en X N zb wb T P z w) (ok : a_ok C) (hC : sp_is J (X + 133) C) (hwy : cl_wy C π γ f c t) (hcm : ∀ j, j < t → a_cm (J (sR P (X + 139))) (sN T P (X + 139)) (a_nb C (f j)) = c j) (hin : ∀ σ, a_is C σ = true → m_in (J (sR P (X + 139)) (a_nb C σ).toNat)) {sb : Nat} (hsb : sb < t) (htt : t < 100000) {o1 o3 : Option Value}
    (hq : Q (some (.int (m_i (c sb)))) (T, m_I (po_put J (X + 155) (f sb)), P, L, z, w)) :
    ∀ (r j : Nat), j + r = sb → m_wp en (d + 1) mWa_codeOnWay 23 [some (.ref (X + 132)), o1, some (.int (m_i (sb : Int))), o3, some (.int (m_i (c j))), some (.int (m_i (j : Int)))] [] (T, m_I (po_put J (X + 155) (f j)), P, L, z, w) Q := by
  have hX := hV.1
  have hN := hV.2.1
  obtain ⟨cc, uu, hss, -, -⟩ := hV.2.2.2
  have hs := hss 139 (Or.inl rfl)
  have hz := cl_z hV (o := 139) (Or.inl rfl)
  have hszb := a_sz_b ok
  obtain ⟨y1, y2, y3, y4⟩ := hwy
  intro r
  induction r with
  | zero =>
    intro j hj
    obtain rfl : j = sb := by omega
    have hcj : 0 ≤ c j ∧ c j < 9 := (y4 j hsb).2.1
    refine r_il eWa_codeOnWay_23 rfl ?_
    refine r_iln eWa_codeOnWay_25 rfl ?_
    refine r_cge (tgt := 69) eWa_codeOnWay_26 rfl ⟨(by omega), (by omega)⟩ ⟨(by omega), (by omega)⟩ (fun c26 => ?_) (fun c26 => ?_)
    · refine r_il eWa_codeOnWay_69 rfl ?_
      refine r_zge (tgt := 79) eWa_codeOnWay_71 rfl ⟨(by omega), (by omega)⟩ (fun c71 => ?_) (fun c71 => ?_)
      · refine r_il eWa_codeOnWay_79 rfl ?_
        refine r_iret eWa_codeOnWay_81 rfl ?_
        first | (exfalso; omega) | exact hq
      · refine r_bip eWa_codeOnWay_74 (by decide) ?_
        refine r_go (tgt := 81) eWa_codeOnWay_76 rfl ?_
        refine r_iret eWa_codeOnWay_81 rfl ?_
        first | (exfalso; omega) | exact hq
    · exfalso; omega
  | succ r ih =>
    intro j hj
    have hi := ih (j + 1) (by omega)
    rw [show ((j + 1 : Nat) : Int) = (j : Int) + 1 by omega] at hi
    have hcj : 0 ≤ c j ∧ c j < 9 := (y4 j (by omega)).2.1
    have hc1 : 0 ≤ c (j + 1) ∧ c (j + 1) < 9 := (y4 (j + 1) (by omega)).2.1
    have hbj := a_is_bx ok (y3 j (by omega))
    have his1 := y3 (j + 1) (by omega)
    have hnb1 := a_nb_b ok his1
    have hbk : a_back (f j) (c j) = f (j + 1) := by
      have := (y4 j (by omega)).1
      rw [this, a_back_step]
    have eR : po_put J (X + 155) (f (j + 1)) (sR P (X + 139)) = J (sR P (X + 139)) := funext (fun i => po_put_o (by omega))
    refine r_il eWa_codeOnWay_23 rfl ?_
    refine r_iln eWa_codeOnWay_25 rfl ?_
    refine r_cge (tgt := 69) eWa_codeOnWay_26 rfl ⟨(by omega), (by omega)⟩ ⟨(by omega), (by omega)⟩ (fun c26 => ?_) (fun c26 => ?_)
    · exfalso; omega
    · refine r_il eWa_codeOnWay_29 rfl ?_
      refine r_zlt (tgt := 69) eWa_codeOnWay_31 rfl ⟨(by omega), (by omega)⟩ (fun c31 => ?_) (fun c31 => ?_)
      · exfalso; omega
      · refine r_aln eWa_codeOnWay_34 rfl ?_
        refine m_getR eWa_codeOnWay_35 rfl (cl_t hX (i := 132) rfl) (cl_p hX (i := 113) rfl) ?_
        refine r_il eWa_codeOnWay_38 rfl ?_
        refine r_vir eWa_codeOnWay_40 rfl rfl rfl (cl_t hX (i := 149) rfl) rfl rfl ?_
        refine c_Po_moveBack (cl_po hX (k := 155) (by decide)) (by rw [po_get_put]; exact a_bx_sm hbj) hcj ?_
        rw [po_get_put, po_put_put, hbk]
        show m_wp en _ mWa_codeOnWay 43 [some (.ref (X + 132)), o1, some (.int (m_i ((sb : Int)))), o3, some (.int (m_i (c j))), some (.int (m_i ((j : Int))))] [] (T, m_I (((po_put J (X + 155) (f (j + 1))))), P, L, z, w) Q
        refine r_aln eWa_codeOnWay_43 rfl ?_
        refine m_getR eWa_codeOnWay_44 rfl (cl_t hX (i := 132) rfl) (cl_p hX (i := 109) rfl) ?_
        refine r_aln eWa_codeOnWay_47 rfl ?_
        refine m_getR eWa_codeOnWay_48 rfl (cl_t hX (i := 132) rfl) (cl_p hX (i := 107) rfl) ?_
        refine r_aln eWa_codeOnWay_51 rfl ?_
        refine m_getR eWa_codeOnWay_52 rfl (cl_t hX (i := 132) rfl) (cl_p hX (i := 113) rfl) ?_
        refine r_vir eWa_codeOnWay_55 rfl rfl rfl (cl_t hX (i := 133) rfl) rfl rfl ?_
        refine c_Sp_numberOf (cl_sp hX (Or.inl rfl)) (cl_po hX (k := 155) (by decide)) (sp_is_e hC (fun i => po_put_o (by omega)) (fun i => po_put_o (by omega)) (fun i => po_put_o (by omega))) ok (by rw [po_get_put]; exact a_bx_sm (a_is_bx ok his1)) ?_
        rw [po_get_put]
        show m_wp en _ mWa_codeOnWay 58 [some (.ref (X + 132)), o1, some (.int (m_i ((sb : Int)))), o3, some (.int (m_i (c j))), some (.int (m_i ((j : Int))))] [(.int (m_i ((a_nb C (f (j + 1)))))), (.ref (X + 139))] (T, m_I (((((po_put J (X + 155) (f (j + 1))))))), P, L, z, w) Q
        refine r_vir eWa_codeOnWay_58 rfl rfl rfl (cl_t hX (i := 139) rfl) rfl rfl ?_
        refine c_Se_codeMet (cl_t hX (i := 139) rfl) hs.1.1 hs.1.2 hs.2.2.2.1 ⟨by omega, by omega⟩ (fun i hi => by rw [po_put_o (by omega), show i = (a_nb C (f (j + 1))).toNat by omega]; exact hin _ his1) ?_
        rw [eR]
        rw [hcm (j + 1) (by omega)]
        show m_wp en _ mWa_codeOnWay 61 [some (.ref (X + 132)), o1, some (.int (m_i ((sb : Int)))), o3, some (.int (m_i (c j))), some (.int (m_i ((j : Int))))] [(.int (m_i ((c (j + 1)))))] (T, m_I (((((((po_put J (X + 155) (f (j + 1))))))))), P, L, z, w) Q
        refine r_is (ls' := [some (.ref (X + 132)), o1, some (.int (m_i ((sb : Int)))), o3, some (.int (m_i ((c (j + 1))))), some (.int (m_i ((j : Int))))]) eWa_codeOnWay_61 (Nat.le_of_ble_eq_true rfl) rfl ?_
        refine r_inc (ls' := [some (.ref (X + 132)), o1, some (.int (m_i ((sb : Int)))), o3, some (.int (m_i ((c (j + 1))))), some (.int (m_i ((j : Int) + 1)))]) eWa_codeOnWay_63 rfl rfl ?_
        refine r_go (tgt := 23) eWa_codeOnWay_66 rfl ?_
        exact hi
end NT
