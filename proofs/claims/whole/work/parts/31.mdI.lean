/-! the reference's search -/
theorem r_i2sx {en : Nat → Nat} {d : Nat} {me : m_Me} {pc : Nat} {ls : m_L} {st : List Value} {s : m_S} {Q : m_Q} {x : Int} (hd : decode me.2.2.1 pc = .ok (.i2s, 1)) (hx : -32768 ≤ x ∧ x < 32768) (kk : m_wp en d me (pc + 1) ls (.int (m_i x) :: st) s Q) : m_wp en d me pc ls (.int (m_i x) :: st) s Q := r_i2s hd (by rw [m_s16_id hx]; exact kk)
/-- numbers that an injection counts -/
theorem b_pig : ∀ (n : Nat) (l : List Nat) (f : Nat → Nat), (∀ i j, i < n → j < n → f i = f j → i = j) → (∀ i, i < n → f i ∈ l) → n ≤ l.length
  | 0, _, _, _, _ => Nat.zero_le _
  | n + 1, l, f, hi, hm => by
    have h1 := b_pig n (l.erase (f n)) f (fun i j a b e => hi i j (by omega) (by omega) e) (fun i hin => (List.mem_erase_of_ne (fun e => by have := hi i n (by omega) (by omega) e; omega)).mpr (hm i (by omega)))
    have h2 := List.length_erase_of_mem (hm n (Nat.lt_succ_self n))
    have h3 : 0 < l.length := List.length_pos_of_mem (hm n (Nat.lt_succ_self n))
    omega
theorem b_pig2 {n N : Nat} {f : Nat → Nat} (hi : ∀ i j, i < n → j < n → f i = f j → i = j) (hm : ∀ i, i < n → f i < N) : n ≤ N := by
  have := b_pig n (List.range N) f hi (fun i h => List.mem_range.mpr (hm i h))
  rwa [List.length_range] at this
/-- states within the bounds of numbers -/
def a_bx (σ : a_S) : Prop := (0 ≤ σ.1 ∧ σ.1 < 16) ∧ (-2 ≤ σ.2.1 ∧ σ.2.1 ≤ 2) ∧ (-4 ≤ σ.2.2.1 ∧ σ.2.2.1 ≤ 4) ∧ (-4 ≤ σ.2.2.2.1 ∧ σ.2.2.2.1 ≤ 4) ∧ (1 ≤ σ.2.2.2.2 ∧ σ.2.2.2.2 ≤ 6)
theorem a_abs_le {v b : Int} (h : a_abs v ≤ b) : -b ≤ v ∧ v ≤ b := by
  unfold a_abs at h
  split at h <;> omega
theorem a_is_spec {C : a_C} {σ : a_S} (h : a_is C σ = true) : a_why C σ = 0 ∧ a_abs σ.2.2.2.1 ≤ C.2.2.2.1 := by
  unfold a_is at h
  rw [Bool.and_eq_true, decide_eq_true_eq, decide_eq_true_eq] at h
  exact h
theorem a_why_0 {C : a_C} {σ : a_S} (h : a_why C σ = 0) : (0 ≤ σ.1 ∧ σ.1 < C.1) ∧ a_abs σ.2.1 ≤ C.2.2.1 ∧ (1 ≤ σ.2.2.2.2 ∧ σ.2.2.2.2 ≤ C.2.1) ∧ a_abs σ.2.2.1 ≤ C.2.2.2.1 ∧ (0 ≤ σ.1 + σ.2.2.1 ∧ σ.1 + σ.2.2.1 < C.1) ∧ a_cl C σ = true := by
  unfold a_why at h
  split at h
  · omega
  · rename_i h1
    split at h
    · omega
    · rename_i h2
      split at h
      · omega
      · rename_i h3
        split at h
        · omega
        · rename_i h4
          split at h
          · omega
          · rename_i h5
            split at h
            · rename_i h6
              exact ⟨Classical.not_not.mp h1, by omega, by omega, by omega, Classical.not_not.mp h5, h6⟩
            · omega
theorem a_is_bx {C : a_C} (ok : a_ok C) {σ : a_S} (h : a_is C σ = true) : a_bx σ := by
  obtain ⟨h1, h2⟩ := a_is_spec h
  obtain ⟨g1, g2, g3, g4, g5, g6⟩ := a_why_0 h1
  obtain ⟨k1, k2, k3, k4, -⟩ := ok
  have e1 := a_abs_le g2
  have e2 := a_abs_le g4
  have e3 := a_abs_le h2
  exact ⟨by omega, by omega, by omega, by omega, by omega⟩
theorem a_no_bd {σ : a_S} (h : a_bx σ) : 0 ≤ a_no σ ∧ a_no σ < 38880 := by
  obtain ⟨h1, h2, h3, h4, h5⟩ := h
  unfold a_no
  omega
theorem a_of_no {σ : a_S} (h : a_bx σ) : a_of (a_no σ) = σ := by
  obtain ⟨h1, h2, h3, h4, h5⟩ := h
  obtain ⟨c, v, s, l, e⟩ := σ
  simp only at h1 h2 h3 h4 h5
  unfold a_of a_no
  simp only [Prod.mk.injEq]
  refine ⟨?_, ?_, ?_, ?_, ?_⟩ <;> omega
theorem a_no_of {n : Int} (h0 : 0 ≤ n) : a_no (a_of n) = n := by
  unfold a_of a_no
  simp only
  omega
theorem a_of_bx {n : Int} (h0 : 0 ≤ n) (h1 : n < 38880) : a_bx (a_of n) := by
  unfold a_of a_bx
  simp only
  omega
/-- how far the reference says that a number is -/
def rf (J : Nat → Nat → Int) (M : Nat) (n : Int) : Option Nat := if (0 ≤ n ∧ n < 38880) ∧ J (M + 20) n.toNat ≠ 30000 then some (J (M + 20) n.toNat).toNat else none
def rq (J : Nat → Nat → Int) (M : Nat) (i : Nat) : Int := J (M + 21) i
def rw_ok (J : Nat → Nat → Int) (M : Nat) : Prop := (∀ i : Nat, i < 38880 → 0 ≤ J (M + 20) i ∧ J (M + 20) i ≤ 30000) ∧ (0 ≤ J M 42 ∧ J M 42 ≤ 38880) ∧ ∀ i : Nat, i < (J M 42).toNat → 0 ≤ J (M + 21) i ∧ J (M + 21) i < 38880
/-- the heap is the same but for what a search writes -/
def md_fx (J J' : Nat → Nat → Int) (M : Nat) : Prop := ∀ b i, b ≠ M + 20 → b ≠ M + 21 → ¬ (b = M ∧ ((33 ≤ i ∧ i ≤ 37) ∨ (40 ≤ i ∧ i ≤ 42))) → J' b i = J b i
theorem md_fx.refl (J : Nat → Nat → Int) (M : Nat) : md_fx J J M := fun _ _ _ _ _ => rfl
theorem md_fx.trans {J J' J2 : Nat → Nat → Int} {M : Nat} (h : md_fx J J' M) (h2 : md_fx J' J2 M) : md_fx J J2 M := fun b i a1 a2 a3 => (h2 b i a1 a2 a3).trans (h b i a1 a2 a3)
theorem md_fx.cf {J J' : Nat → Nat → Int} {M : Nat} (h : md_fx J J' M) : md_cf J' M = md_cf J M := by
  unfold md_cf
  rw [h (M + 2) 0 (by omega) (by omega) (by omega), h (M + 2) 1 (by omega) (by omega) (by omega), h (M + 2) 2 (by omega) (by omega) (by omega), h (M + 2) 3 (by omega) (by omega) (by omega), h M 32 (by omega) (by omega) (by omega)]
  congr 6
  funext x
  exact h (M + 19) _ (by omega) (by omega) (by omega)
theorem md_fx.put {J J' : Nat → Nat → Int} {M : Nat} (h : md_fx J J' M) (σ : a_S) : md_fx J (md_put J' M σ) M := fun b i a1 a2 a3 => by
  rw [md_put_at, if_neg (by omega), if_neg (by omega), if_neg (by omega), if_neg (by omega), if_neg (by omega)]
  exact h b i a1 a2 a3
def md_add (J : Nat → Nat → Int) (M : Nat) (n its : Int) : Nat → Nat → Int := m_up (m_up (m_up J (M + 20) n.toNat its) (M + 21) (J M 42).toNat n) M 42 (J M 42 + 1)
theorem md_fx.add {J J' : Nat → Nat → Int} {M : Nat} (h : md_fx J J' M) (n its : Int) : md_fx J (md_add J' M n its) M := fun b i a1 a2 a3 => by
  unfold md_add
  rw [m_up_at, if_neg (by omega), m_up_at, if_neg (fun q => a2 q.1), m_up_at, if_neg (fun q => a1 q.1)]
  exact h b i a1 a2 a3
/-- the same, but that what is kept of a search is not written -/
def md_fs (J J' : Nat → Nat → Int) (M : Nat) : Prop := ∀ b i, b ≠ M + 20 → b ≠ M + 21 → ¬ (b = M ∧ ((33 ≤ i ∧ i ≤ 37) ∨ i = 42)) → J' b i = J b i
theorem md_fs.fx {J J' : Nat → Nat → Int} {M : Nat} (h : md_fs J J' M) : md_fx J J' M := fun b i a1 a2 a3 => h b i a1 a2 (by omega)
theorem md_fs.refl (J : Nat → Nat → Int) (M : Nat) : md_fs J J M := fun _ _ _ _ _ => rfl
theorem md_fs.trans {J J' J2 : Nat → Nat → Int} {M : Nat} (h : md_fs J J' M) (h2 : md_fs J' J2 M) : md_fs J J2 M := fun b i a1 a2 a3 => (h2 b i a1 a2 a3).trans (h b i a1 a2 a3)
theorem md_fs.cf {J J' : Nat → Nat → Int} {M : Nat} (h : md_fs J J' M) : md_cf J' M = md_cf J M := h.fx.cf
theorem md_fs.put {J J' : Nat → Nat → Int} {M : Nat} (h : md_fs J J' M) (σ : a_S) : md_fs J (md_put J' M σ) M := fun b i a1 a2 a3 => by
  rw [md_put_at, if_neg (by omega), if_neg (by omega), if_neg (by omega), if_neg (by omega), if_neg (by omega)]
  exact h b i a1 a2 a3
theorem md_fs.add {J J' : Nat → Nat → Int} {M : Nat} (h : md_fs J J' M) (n its : Int) : md_fs J (md_add J' M n its) M := fun b i a1 a2 a3 => by
  unfold md_add
  rw [m_up_at, if_neg (by omega), m_up_at, if_neg (fun q => a2 q.1), m_up_at, if_neg (fun q => a1 q.1)]
  exact h b i a1 a2 a3
section MDI
variable {en : Nat → Nat} {d : Nat} {T : Nat → Option (Nat × Nat)} {J J0 : Nat → Nat → Int} {P : Nat → Nat → Option Nat} {L : Nat → Nat → Int64} {z w M : Nat} {Q : m_Q} {σ : a_S}
theorem c_Md_adds (hM : md_sh en M T P) {n its : Int} (hn : 0 ≤ n ∧ n < 38880) (hi : 0 ≤ its ∧ its < 30000) (hf : 0 ≤ J (M + 20) n.toNat ∧ J (M + 20) n.toNat ≤ 30000) (hl : its < J (M + 20) n.toNat → 0 ≤ J M 42 ∧ J M 42 < 38880) (hq1 : J (M + 20) n.toNat ≤ its → Q none (T, m_I J, P, L, z, w)) (hq2 : its < J (M + 20) n.toNat → Q none (T, m_I (md_add J M n its), P, L, z, w)) : m_call en (d + 1) mMd_adds [.ref M, .int (m_i n), .int (m_i its)] (T, m_I J, P, L, z, w) Q := by
  refine m_into (by decide) (Nat.le_of_ble_eq_true rfl) rfl ?_
  show m_wp en _ mMd_adds 0 [some (.ref M), some (.int (m_i (n))), some (.int (m_i (its)))] [] (T, m_I J, P, L, z, w) Q
  refine r_aln eMd_adds_0 rfl ?_
  refine m_getR eMd_adds_1 rfl hM.2.1 (md_far_p hM) ?_
  refine r_iln eMd_adds_4 rfl ?_
  refine r_salde (x := J (M + 20) ((n).toNat)) eMd_adds_5 (md_far_t hM) (by decide) (by omega) (by omega) rfl ?_
  refine r_iln eMd_adds_6 rfl ?_
  refine r_cgt (tgt := 11) eMd_adds_7 rfl ⟨(by omega), (by omega)⟩ ⟨(by omega), (by omega)⟩ (fun c7 => ?_) (fun c7 => ?_)
  · have hl2 := hl (by omega)
    refine r_aln eMd_adds_11 rfl ?_
    refine m_getR eMd_adds_12 rfl hM.2.1 (md_far_p hM) ?_
    refine r_iln eMd_adds_15 rfl ?_
    refine r_iln eMd_adds_16 rfl ?_
    refine r_i2sx eMd_adds_17 ⟨(by omega), (by omega)⟩ ?_
    refine r_sast eMd_adds_18 (md_far_t hM) (by decide) (by omega) (by omega) (md_b hM 20) (m_s16_id ⟨(by omega), (by omega)⟩) ?_
    refine r_aln eMd_adds_19 rfl ?_
    refine m_getR eMd_adds_20 rfl hM.2.1 (md_line_p hM) ?_
    refine r_aln eMd_adds_23 rfl ?_
    refine r_gete (x := J M 42) eMd_adds_24 rfl (by decide) hM.2.1 (by simp [m_up, md_put_at, m_fl]) ?_
    refine r_iln eMd_adds_27 rfl ?_
    refine r_iast eMd_adds_28 (md_line_t hM) (by decide) (by omega) (by omega) (md_b hM 21) ?_
    refine r_aln eMd_adds_29 rfl ?_
    refine r_dupr eMd_adds_30 ?_
    refine r_gete (x := J M 42) eMd_adds_31 rfl (by decide) hM.2.1 (by simp [m_up, md_put_at, m_fl]) ?_
    refine r_con eMd_adds_34 ?_
    refine r_add eMd_adds_35 ?_
    refine r_put eMd_adds_36 rfl hM.2.1 hM.1 (Or.inl rfl) ?_
    refine r_ret eMd_adds_39 rfl ?_
    exact hq2 (by omega)
  · refine r_ret eMd_adds_10 rfl ?_
    exact hq1 (by omega)
end MDI
