/-! the lines of a text, read by the reference -/
def dn_lo (y : Nat) : Int := [4, 2, 1, 1, 0, 0, 0, 0, 0, 0, 0, 0, 0].getD y 0
def dn_hi (y : Nat) : Int := [16, 6, 2, 4, 6, 16, 8, 6, 99999, 15, 6, 3, 8].getD y 0
def dr_n (r : Nat → Int) : Prop := ∀ y : Nat, y < 13 → dn_lo y ≤ r (13 + y) ∧ r (13 + y) ≤ dn_hi y
def dr_lo (k : Nat) : Int := [0, 0, 0, 0, -2147483648, 0, 0, 0, 0, 0, 0, -4, -2147483648, 0, 0, 0, 0].getD k 0
def dr_hi (k : Nat) : Int := [0, 0, 0, 1, 2147483647, 15, 6, 15, 15, 6, 999, 4, 2147483647, 30, 15, 15, 6].getD k 0
def dr_sz (k : Nat) : Nat := [0, 0, 0, 18, 12, 12, 12, 12, 12, 12, 16, 16, 32, 32, 8, 8, 32].getD k 0
/-- bounds of what is being read -/
def dr_b (J : Nat → Nat → Int) (M : Nat) : Prop := dr_n (J (M + 2)) ∧ (∀ k : Nat, 3 ≤ k → k ≤ 16 → ∀ i : Nat, i < dr_sz k → dr_lo k ≤ J (M + k) i ∧ J (M + k) i ≤ dr_hi k) ∧ (J M 18 = 0 ∨ J M 18 = 1)
/-- the cells of what is being read -/
def dr_c (M b i : Nat) : Prop := b = M + 3 ∨ (b = M + 2 ∧ 13 ≤ i) ∨ ((M + 4 ≤ b ∧ b ≤ M + 9) ∧ 6 ≤ i) ∨ ((b = M + 10 ∨ b = M + 11) ∧ 8 ≤ i) ∨ ((b = M + 12 ∨ b = M + 13) ∧ 16 ≤ i) ∨ ((b = M + 14 ∨ b = M + 15) ∧ 3 ≤ i) ∨ (b = M + 16 ∧ 16 ≤ i) ∨ (b = M ∧ (i = 18 ∨ i = 19 ∨ (21 ≤ i ∧ i ≤ 26)))
def dr_f (J J' : Nat → Nat → Int) (M : Nat) : Prop := ∀ b i, ¬ dr_c M b i → J' b i = J b i
section DR
variable {J J1 J2 : Nat → Nat → Int} {M : Nat}
theorem dr_f.refl (J : Nat → Nat → Int) (M : Nat) : dr_f J J M := fun _ _ _ => rfl
theorem dr_f.trans (h : dr_f J J1 M) (h2 : dr_f J1 J2 M) : dr_f J J2 M := fun b i a => (h2 b i a).trans (h b i a)
theorem dr_f.up (h : dr_f J J1 M) {b i : Nat} (hc : dr_c M b i) (v : Int) : dr_f J (m_up J1 b i v) M := fun c j a => by
  rw [m_up_at, if_neg (fun q => a (by rw [q.1, q.2]; exact hc))]
  exact h c j a
theorem dr_f.t (h : dr_f J J1 M) : J1 (M + 1) = J (M + 1) := funext (fun i => h _ _ (by unfold dr_c; omega))
theorem dr_f.z (h : dr_f J J1 M) : J1 M 20 = J M 20 := h _ _ (by unfold dr_c; omega)
theorem dr_f.q (h : dr_f J J1 M) {a p s v k g : Int} : dr_f J (md_q J1 M a p s v k g) M := fun b i c => by
  by_cases hb : b = M
  · subst hb
    rw [q_f (by unfold dr_c at c; omega)]
    exact h _ _ c
  · rw [q_o hb]
    exact h _ _ c
theorem dr_b.n (h : dr_b J M) {y : Nat} (hy : y < 13) {u : Int} (hu : dn_lo y ≤ u ∧ u ≤ dn_hi y) : dr_b (m_up J (M + 2) (13 + y) u) M := by
  obtain ⟨h1, h2, h3⟩ := h
  refine ⟨fun z hz => ?_, fun k k0 k1 i hi => ?_, ?_⟩
  · rw [m_up_at]
    by_cases q : z = y
    · rw [q, if_pos ⟨rfl, rfl⟩]; exact hu
    · rw [if_neg (by omega)]; exact h1 z hz
  · rw [m_up_at, if_neg (by omega)]; exact h2 k k0 k1 i hi
  · rw [m_up_at, if_neg (by omega)]; exact h3
theorem dr_b.r (h : dr_b J M) {k i : Nat} (k0 : 3 ≤ k) (k1 : k ≤ 16) {u : Int} (hu : dr_lo k ≤ u ∧ u ≤ dr_hi k) : dr_b (m_up J (M + k) i u) M := by
  obtain ⟨h1, h2, h3⟩ := h
  refine ⟨fun z hz => ?_, fun l l0 l1 j hj => ?_, ?_⟩
  · rw [m_up_at, if_neg (by omega)]; exact h1 z hz
  · rw [m_up_at]
    by_cases q : M + l = M + k ∧ j = i
    · rw [if_pos q]
      obtain rfl : l = k := by omega
      exact hu
    · rw [if_neg q]; exact h2 l l0 l1 j hj
  · rw [m_up_at, if_neg (by omega)]; exact h3
theorem dr_b.f (h : dr_b J M) {i : Nat} {v : Int} (hi : i ≠ 18 ∨ v = 0 ∨ v = 1) : dr_b (m_up J M i v) M := by
  obtain ⟨h1, h2, h3⟩ := h
  refine ⟨fun z hz => ?_, fun k k0 k1 j hj => ?_, ?_⟩
  · rw [m_up_at, if_neg (by omega)]; exact h1 z hz
  · rw [m_up_at, if_neg (by omega)]; exact h2 k k0 k1 j hj
  · rw [m_up_at]
    by_cases q : M = M ∧ 18 = i
    · rw [if_pos q]; omega
    · rw [if_neg q]; exact h3
end DR
/-- a fault, if there is none yet -/
def a_wr (b : Bool) (y : Int) (x : a_Q) : a_Q := if b = true ∧ x.2.2.2.2.1 = 0 then (x.1, x.2.1, x.2.2.1, x.2.2.2.1, y, x.2.1) else x
theorem a_wr_b {n : Int} {x : a_Q} (h : a_qb n x) {b : Bool} {y : Int} (hy : 0 ≤ y ∧ y ≤ 3) : a_qb n (a_wr b y x) := by
  unfold a_wr
  split
  · exact a_qb_w h hy
  · exact h
theorem a_wr_n {b : Bool} {y : Int} {x : a_Q} (h : ¬ b = true) : a_wr b y x = x := if_neg (fun q => h q.1)
section MDLN
variable {en : Nat → Nat} {d : Nat} {T : Nat → Option (Nat × Nat)} {J J0 J1 : Nat → Nat → Int} {P : Nat → Nat → Option Nat} {L : Nat → Nat → Int64} {z w M : Nat} {Q : m_Q} {σ : a_S} {a p s v k g : Int}
theorem t_Md_reading (hM : md_sh en M T P) {y : Int} {i : Nat} (hy : 0 ≤ y ∧ y < 13) (ei : (13 + y).toNat = i) {u : Int} (eu : J (M + 2) i = u) (hq : Q (some (.int (m_i u))) (T, m_I (md_q J M a p s v k g), P, L, z, w)) : m_call en (d + 1) mMd_reading [.ref M, .int (m_i y)] (T, m_I (md_q J M a p s v k g), P, L, z, w) Q := by
  subst ei eu
  exact c_Md_reading hM hy hq
theorem t_Md_reads (hM : md_sh en M T P) {y u : Int} {i : Nat} (hy : 0 ≤ y ∧ y < 13) (ei : (13 + y).toNat = i) (hq : Q none (T, m_I (md_q (m_up J (M + 2) i u) M a p s v k g), P, L, z, w)) : m_call en (d + 1) mMd_reads [.ref M, .int (m_i y), .int (m_i u)] (T, m_I (md_q J M a p s v k g), P, L, z, w) Q := by
  subst ei
  exact c_Md_reads hM hy hq
/-- wrong, of a place told by a tuple -/
theorem t_Md_wrong (hM : md_sh en M T P) {x : a_Q} {y : Int} (hk : 0 ≤ x.2.2.2.2.1 ∧ x.2.2.2.2.1 ≤ 10) (hq : ∀ x', x' = a_wr true y x → Q none (T, m_I (md_q J M x'.1 x'.2.1 x'.2.2.1 x'.2.2.2.1 x'.2.2.2.2.1 x'.2.2.2.2.2), P, L, z, w)) : m_call en (d + 1) mMd_wrong [.ref M, .int (m_i y)] (T, m_I (md_q J M x.1 x.2.1 x.2.2.1 x.2.2.2.1 x.2.2.2.2.1 x.2.2.2.2.2), P, L, z, w) Q := by
  have h := hq _ rfl
  refine c_Md_wrong hM hk ?_
  unfold a_wr at h
  by_cases q : x.2.2.2.2.1 = 0
  · rw [if_pos ⟨rfl, q⟩] at h
    rw [if_pos q, if_pos q]
    exact h
  · rw [if_neg (fun z => q z.2)] at h
    rw [if_neg q, if_neg q]
    exact h
theorem t_Md_goOn (hM : md_sh en M T P) {x : a_Q} (ht : a_tpb (J (M + 1)) (J M 20)) (hb : a_qb (J M 20) x)
    (hq : ∀ x' : a_Q, s_go (J (M + 1)) (J M 20) x x' → a_qb (J M 20) x' → Q none (T, m_I (md_q J M x'.1 x'.2.1 x'.2.2.1 x'.2.2.2.1 x'.2.2.2.2.1 x'.2.2.2.2.2), P, L, z, w)) : m_call en (d + 4) mMd_goOn [.ref M] (T, m_I (md_q J M x.1 x.2.1 x.2.2.1 x.2.2.2.1 x.2.2.2.2.1 x.2.2.2.2.2), P, L, z, w) Q := c_Md_goOn hM ht hb hq
/-- the number that a numeral gives is within its bounds -/
theorem s_nu_bd {f : Nat → Int} {n less lo hi : Int} {x x' : a_Q} {r : Int} (h : s_nu f n less lo hi x r x') : r = lo ∨ (lo ≤ r ∧ r ≤ hi) := by
  rcases h with ⟨-, h, -⟩ | ⟨-, h⟩
  · exact Or.inl h
  · rcases h with ⟨-, h, -⟩ | ⟨-, h⟩
    · exact Or.inl h
    · rcases h with ⟨-, h, -⟩ | ⟨h1, h2, -⟩
      · exact Or.inl h
      · exact Or.inr (by omega)
theorem s_ah_bd {lo hi : Int} {x x' : a_Q} {r : Int} (h : s_ah lo hi x r x') : r = lo ∨ (lo ≤ r ∧ r ≤ hi) := by
  rcases h with ⟨-, h, -⟩ | ⟨-, h⟩
  · exact Or.inl h
  · rcases h with ⟨-, h, -⟩ | ⟨-, h⟩
    · exact Or.inl h
    · rcases h with ⟨-, h, -⟩ | ⟨h1, h2, -⟩
      · exact Or.inl h
      · exact Or.inr (by omega)
/-- a block -/
def s_bl (J : Nat → Nat → Int) (M : Nat) (x : a_Q) (J' : Nat → Nat → Int) (x' : a_Q) : Prop := ∃ x2 x3 x4 r1 r2 r3, s_go (J (M + 1)) (J M 20) (a_wr (decide (J (M + 2) 20 = 6)) 2 x) x2 ∧ s_nu (J (M + 1)) (J M 20) 0 0 (J (M + 2) 13 - 1) x2 r1 x3 ∧ s_nu (J (M + 1)) (J M 20) 0 r1 (J (M + 2) 13 - 1) x3 r2 x4 ∧ s_nu (J (M + 1)) (J M 20) 0 0 (J (M + 2) 14) x4 r3 x' ∧
  J' = if x'.2.2.2.2.1 = 0 then m_up (m_up (m_up (m_up J (M + 7) (6 + J (M + 2) 20).toNat r1) (M + 8) (6 + J (M + 2) 20).toNat r2) (M + 9) (6 + J (M + 2) 20).toNat r3) (M + 2) 20 (J (M + 2) 20 + 1) else J
/-- a fault stays -/
theorem s_nu_f {f : Nat → Int} {n less lo hi : Int} {x x' : a_Q} {r : Int} (h : s_nu f n less lo hi x r x') (hk : x'.2.2.2.2.1 = 0) : x.2.2.2.2.1 = 0 := by
  rcases h with ⟨h1, -, h⟩ | ⟨h, -⟩
  · rw [h] at hk
    exact absurd hk h1
  · exact h
theorem s_go_k {f : Nat → Int} {n : Int} {x x' : a_Q} (h : s_go f n x x') : x'.2.2.2.2.1 = x.2.2.2.2.1 := by
  rcases h with ⟨-, -, h, -⟩ | ⟨-, h⟩
  · exact h
  · rw [h]
theorem a_wr_k {b : Bool} {y : Int} {x : a_Q} (hy : y ≠ 0) (h : (a_wr b y x).2.2.2.2.1 = 0) : ¬ b = true ∧ x.2.2.2.2.1 = 0 := by
  unfold a_wr at h
  split at h
  · exact absurd h hy
  · rename_i q
    exact ⟨fun q2 => q ⟨q2, h⟩, h⟩
theorem dr_nb (h : dr_b J M) : (4 ≤ J (M + 2) 13 ∧ J (M + 2) 13 ≤ 16) ∧ (2 ≤ J (M + 2) 14 ∧ J (M + 2) 14 ≤ 6) ∧ (0 ≤ J (M + 2) 17 ∧ J (M + 2) 17 ≤ 6) ∧ (0 ≤ J (M + 2) 18 ∧ J (M + 2) 18 ≤ 16) ∧ (0 ≤ J (M + 2) 19 ∧ J (M + 2) 19 ≤ 8) ∧ (0 ≤ J (M + 2) 20 ∧ J (M + 2) 20 ≤ 6) ∧ (0 ≤ J (M + 2) 24 ∧ J (M + 2) 24 ≤ 3) ∧ (0 ≤ J (M + 2) 25 ∧ J (M + 2) 25 ≤ 8) := ⟨h.1 0 (by omega), h.1 1 (by omega), h.1 4 (by omega), h.1 5 (by omega), h.1 6 (by omega), h.1 7 (by omega), h.1 11 (by omega), h.1 12 (by omega)⟩
theorem c_Md_readBlock (hM : md_sh en M T P) {x : a_Q} (ht : a_tpb (J (M + 1)) (J M 20)) (hb : a_qb (J M 20) x) (hd : dr_b J M)
    (hq : ∀ (J' : Nat → Nat → Int) (x' : a_Q), s_bl J M x J' x' → dr_b J' M → dr_f J J' M → a_qb (J M 20) x' → Q none (T, m_I (md_q J' M x'.1 x'.2.1 x'.2.2.1 x'.2.2.2.1 x'.2.2.2.2.1 x'.2.2.2.2.2), P, L, z, w)) : m_call en (d + 7) mMd_readBlock [.ref M] (T, m_I (md_q J M x.1 x.2.1 x.2.2.1 x.2.2.2.1 x.2.2.2.2.1 x.2.2.2.2.2), P, L, z, w) Q := by
  obtain ⟨n0, n1, n4, n5, n6, n7, n11, n12⟩ := dr_nb hd
  have hk : 0 ≤ x.2.2.2.2.1 ∧ x.2.2.2.2.1 ≤ 3 := hb.2.2.2.2.1
  have rest : ∀ y : a_Q, y = a_wr (decide (J (M + 2) 20 = 6)) 2 x → a_qb (J M 20) y → m_wp en (d + 6) mMd_readBlock 21 [some (.ref M), some (.int (m_i (6 + J (M + 2) 20))), none, none, none] [] (T, m_I (md_q J M y.1 y.2.1 y.2.2.1 y.2.2.2.1 y.2.2.2.2.1 y.2.2.2.2.2), P, L, z, w) Q := fun y hy hby => by
    refine r_aln eMd_readBlock_21 rfl ?_
    refine r_vir eMd_readBlock_22 rfl rfl rfl hM.2.1 rfl rfl ?_
    refine t_Md_goOn (x := y) hM ht (by assumption) (fun x2 hg hb2 => ?_)
    · show m_wp en _ mMd_readBlock 25 [some (.ref M), some (.int (m_i (6 + J (M + 2) 20))), none, none, none] [] (T, m_I (((md_q J M x2.1 x2.2.1 x2.2.2.1 x2.2.2.2.1 x2.2.2.2.2.1 x2.2.2.2.2.2))), P, L, z, w) Q
      refine r_aln eMd_readBlock_25 rfl ?_
      refine r_con eMd_readBlock_26 ?_
      refine r_aln eMd_readBlock_27 rfl ?_
      refine r_con eMd_readBlock_28 ?_
      refine r_vir eMd_readBlock_29 rfl rfl rfl hM.2.1 rfl rfl ?_
      refine t_Md_reading (i := 13) (u := J (M + 2) 13) hM (by omega) rfl (by simp [m_up]) ?_
      show m_wp en _ mMd_readBlock 32 [some (.ref M), some (.int (m_i (6 + J (M + 2) 20))), none, none, none] [(.int (m_i (J (M + 2) 13))), (.int (m_i (0))), (.ref M)] (T, m_I (((md_q J M x2.1 x2.2.1 x2.2.2.1 x2.2.2.2.1 x2.2.2.2.2.1 x2.2.2.2.2.2))), P, L, z, w) Q
      refine r_con eMd_readBlock_32 ?_
      refine r_sub eMd_readBlock_33 ?_
      refine r_vir eMd_readBlock_34 rfl rfl rfl hM.2.1 rfl rfl ?_
      refine c_Md_numeral (x := x2) hM ht (by assumption) (by unfold m_in; omega) (by unfold m_in; omega) (fun r34 x34 hn34 hb34 => ?_)
      · have bd34 := s_nu_bd hn34
        show m_wp en _ mMd_readBlock 37 [some (.ref M), some (.int (m_i (6 + J (M + 2) 20))), none, none, none] [(.int (m_i (r34)))] (T, m_I (((md_q J M x34.1 x34.2.1 x34.2.2.1 x34.2.2.2.1 x34.2.2.2.2.1 x34.2.2.2.2.2))), P, L, z, w) Q
        refine r_isn (ls' := [some (.ref M), some (.int (m_i (6 + J (M + 2) 20))), some (.int (m_i (r34))), none, none]) eMd_readBlock_37 (Nat.le_of_ble_eq_true rfl) rfl ?_
        refine r_aln eMd_readBlock_38 rfl ?_
        refine r_iln eMd_readBlock_39 rfl ?_
        refine r_aln eMd_readBlock_40 rfl ?_
        refine r_con eMd_readBlock_41 ?_
        refine r_vir eMd_readBlock_42 rfl rfl rfl hM.2.1 rfl rfl ?_
        refine t_Md_reading (i := 13) (u := J (M + 2) 13) hM (by omega) rfl (by simp [m_up]) ?_
        show m_wp en _ mMd_readBlock 45 [some (.ref M), some (.int (m_i (6 + J (M + 2) 20))), some (.int (m_i (r34))), none, none] [(.int (m_i (J (M + 2) 13))), (.int (m_i (r34))), (.ref M)] (T, m_I (((md_q J M x34.1 x34.2.1 x34.2.2.1 x34.2.2.2.1 x34.2.2.2.2.1 x34.2.2.2.2.2))), P, L, z, w) Q
        refine r_con eMd_readBlock_45 ?_
        refine r_sub eMd_readBlock_46 ?_
        refine r_vir eMd_readBlock_47 rfl rfl rfl hM.2.1 rfl rfl ?_
        refine c_Md_numeral (x := x34) hM ht (by assumption) (by unfold m_in; omega) (by unfold m_in; omega) (fun r47 x47 hn47 hb47 => ?_)
        · have bd47 := s_nu_bd hn47
          show m_wp en _ mMd_readBlock 50 [some (.ref M), some (.int (m_i (6 + J (M + 2) 20))), some (.int (m_i (r34))), none, none] [(.int (m_i (r47)))] (T, m_I (((md_q J M x47.1 x47.2.1 x47.2.2.1 x47.2.2.2.1 x47.2.2.2.2.1 x47.2.2.2.2.2))), P, L, z, w) Q
          refine r_isn (ls' := [some (.ref M), some (.int (m_i (6 + J (M + 2) 20))), some (.int (m_i (r34))), some (.int (m_i (r47))), none]) eMd_readBlock_50 (Nat.le_of_ble_eq_true rfl) rfl ?_
          refine r_aln eMd_readBlock_51 rfl ?_
          refine r_con eMd_readBlock_52 ?_
          refine r_aln eMd_readBlock_53 rfl ?_
          refine r_con eMd_readBlock_54 ?_
          refine r_vir eMd_readBlock_55 rfl rfl rfl hM.2.1 rfl rfl ?_
          refine t_Md_reading (i := 14) (u := J (M + 2) 14) hM (by omega) rfl (by simp [m_up]) ?_
          show m_wp en _ mMd_readBlock 58 [some (.ref M), some (.int (m_i (6 + J (M + 2) 20))), some (.int (m_i (r34))), some (.int (m_i (r47))), none] [(.int (m_i (J (M + 2) 14))), (.int (m_i (0))), (.ref M)] (T, m_I (((md_q J M x47.1 x47.2.1 x47.2.2.1 x47.2.2.2.1 x47.2.2.2.2.1 x47.2.2.2.2.2))), P, L, z, w) Q
          refine r_vir eMd_readBlock_58 rfl rfl rfl hM.2.1 rfl rfl ?_
          refine c_Md_numeral (x := x47) hM ht (by assumption) (by unfold m_in; omega) (by unfold m_in; omega) (fun r58 x58 hn58 hb58 => ?_)
          · have bd58 := s_nu_bd hn58
            show m_wp en _ mMd_readBlock 61 [some (.ref M), some (.int (m_i (6 + J (M + 2) 20))), some (.int (m_i (r34))), some (.int (m_i (r47))), none] [(.int (m_i (r58)))] (T, m_I (((md_q J M x58.1 x58.2.1 x58.2.2.1 x58.2.2.2.1 x58.2.2.2.2.1 x58.2.2.2.2.2))), P, L, z, w) Q
            refine r_is (ls' := [some (.ref M), some (.int (m_i (6 + J (M + 2) 20))), some (.int (m_i (r34))), some (.int (m_i (r47))), some (.int (m_i (r58)))]) eMd_readBlock_61 (Nat.le_of_ble_eq_true rfl) rfl ?_
            have hkk := hb58.2.2.2.2.1
            refine r_aln eMd_readBlock_63 rfl ?_
            refine r_gete (x := x58.2.2.2.2.1) eMd_readBlock_64 rfl (by decide) hM.2.1 (by simp [m_up, md_q, md_put_at, m_fl]) ?_
            refine r_zeq (tgt := 71) eMd_readBlock_67 rfl ⟨(by omega), (by omega)⟩ (fun c67 => ?_) (fun c67 => ?_)
            · have hk0 : x58.2.2.2.2.1 = 0 := by omega
              have hk1 := s_nu_f hn34 (s_nu_f hn47 (s_nu_f hn58 hk0))
              rw [s_go_k hg, hy] at hk1
              have hc6 := (a_wr_k (by omega) hk1).1
              have hne : J (M + 2) 20 ≠ 6 := fun q => hc6 (decide_eq_true q)
              refine r_aln eMd_readBlock_71 rfl ?_
              refine m_getR eMd_readBlock_72 rfl hM.2.1 (md_blockFrom_p hM) ?_
              refine r_iln eMd_readBlock_75 rfl ?_
              refine r_iln eMd_readBlock_76 rfl ?_
              refine r_iast eMd_readBlock_77 (md_blockFrom_t hM) (by decide) (by omega) (by omega) (md_b hM 7) ?_
              rw [q_up (by omega)]
              refine r_aln eMd_readBlock_78 rfl ?_
              refine m_getR eMd_readBlock_79 rfl hM.2.1 (md_blockTo_p hM) ?_
              refine r_iln eMd_readBlock_82 rfl ?_
              refine r_iln eMd_readBlock_83 rfl ?_
              refine r_iast eMd_readBlock_84 (md_blockTo_t hM) (by decide) (by omega) (by omega) (md_b hM 8) ?_
              rw [q_up (by omega)]
              refine r_aln eMd_readBlock_85 rfl ?_
              refine m_getR eMd_readBlock_86 rfl hM.2.1 (md_blockFree_p hM) ?_
              refine r_iln eMd_readBlock_89 rfl ?_
              refine r_il eMd_readBlock_90 rfl ?_
              refine r_iast eMd_readBlock_92 (md_blockFree_t hM) (by decide) (by omega) (by omega) (md_b hM 9) ?_
              rw [q_up (by omega)]
              refine r_aln eMd_readBlock_93 rfl ?_
              refine r_bip eMd_readBlock_94 (by decide) ?_
              refine r_aln eMd_readBlock_96 rfl ?_
              refine r_bip eMd_readBlock_97 (by decide) ?_
              refine r_vir eMd_readBlock_99 rfl rfl rfl hM.2.1 rfl rfl ?_
              refine t_Md_reading (i := 20) (u := J (M + 2) 20) hM (by omega) rfl (by simp [m_up]) ?_
              show m_wp en _ mMd_readBlock 102 [some (.ref M), some (.int (m_i (6 + J (M + 2) 20))), some (.int (m_i (r34))), some (.int (m_i (r47))), some (.int (m_i (r58)))] [(.int (m_i (J (M + 2) 20))), (.int (m_i (7))), (.ref M)] (T, m_I ((md_q (m_up (m_up (m_up J (M + 7) ((6 + J (M + 2) 20).toNat) r34) (M + 8) ((6 + J (M + 2) 20).toNat) r47) (M + 9) ((6 + J (M + 2) 20).toNat) r58) M x58.1 x58.2.1 x58.2.2.1 x58.2.2.2.1 x58.2.2.2.2.1 x58.2.2.2.2.2)), P, L, z, w) Q
              refine r_con eMd_readBlock_102 ?_
              refine r_add eMd_readBlock_103 ?_
              refine r_vir eMd_readBlock_104 rfl rfl rfl hM.2.1 rfl rfl ?_
              refine t_Md_reads (i := 20) hM (by omega) rfl ?_
              show m_wp en _ mMd_readBlock 107 [some (.ref M), some (.int (m_i (6 + J (M + 2) 20))), some (.int (m_i (r34))), some (.int (m_i (r47))), some (.int (m_i (r58)))] [] (T, m_I (((md_q (m_up (m_up (m_up (m_up J (M + 7) ((6 + J (M + 2) 20).toNat) r34) (M + 8) ((6 + J (M + 2) 20).toNat) r47) (M + 9) ((6 + J (M + 2) 20).toNat) r58) (M + 2) 20 (((J (M + 2) 20) + (1)))) M x58.1 x58.2.1 x58.2.2.1 x58.2.2.2.1 x58.2.2.2.2.1 x58.2.2.2.2.2))), P, L, z, w) Q
              refine r_ret eMd_readBlock_107 rfl ?_
              refine hq _ x58 ⟨x2, x34, x47, r34, r47, r58, by rw [← hy]; exact hg, hn34, hn47, hn58, (if_pos hk0).symm⟩ ((((hd.r (k := 7) (by omega) (by omega) (by show 0 ≤ r34 ∧ r34 ≤ 15; omega)).r (k := 8) (by omega) (by omega) (by show 0 ≤ r47 ∧ r47 ≤ 15; omega)).r (k := 9) (by omega) (by omega) (by show 0 ≤ r58 ∧ r58 ≤ 6; omega)).n (y := 7) (by omega) (by show 0 ≤ J (M + 2) 20 + 1 ∧ J (M + 2) 20 + 1 ≤ 6; omega)) (((((dr_f.refl J M).up (by unfold dr_c; omega) _).up (by unfold dr_c; omega) _).up (by unfold dr_c; omega) _).up (by unfold dr_c; omega) _) hb58
            · refine r_ret eMd_readBlock_70 rfl ?_
              exact hq J x58 ⟨x2, x34, x47, r34, r47, r58, by rw [← hy]; exact hg, hn34, hn47, hn58, (if_neg (by omega)).symm⟩ hd (dr_f.refl J M) hb58
  refine m_into (by decide) (Nat.le_of_ble_eq_true rfl) rfl ?_
  show m_wp en _ mMd_readBlock 0 [some (.ref M), none, none, none, none] [] (T, m_I ((md_q J M x.1 x.2.1 x.2.2.1 x.2.2.2.1 x.2.2.2.2.1 x.2.2.2.2.2)), P, L, z, w) Q
  refine r_bip eMd_readBlock_0 (by decide) ?_
  refine r_aln eMd_readBlock_2 rfl ?_
  refine r_bip eMd_readBlock_3 (by decide) ?_
  refine r_vir eMd_readBlock_5 rfl rfl rfl hM.2.1 rfl rfl ?_
  refine t_Md_reading (i := 20) (u := J (M + 2) 20) hM (by omega) rfl (by simp [m_up]) ?_
  show m_wp en _ mMd_readBlock 8 [some (.ref M), none, none, none, none] [(.int (m_i (J (M + 2) 20))), (.int (m_i (6)))] (T, m_I ((md_q J M x.1 x.2.1 x.2.2.1 x.2.2.2.1 x.2.2.2.2.1 x.2.2.2.2.2)), P, L, z, w) Q
  refine r_add eMd_readBlock_8 ?_
  refine r_isn (ls' := [some (.ref M), some (.int (m_i ((6) + (J (M + 2) 20)))), none, none, none]) eMd_readBlock_9 (Nat.le_of_ble_eq_true rfl) rfl ?_
  refine r_iln eMd_readBlock_10 rfl ?_
  refine r_bip eMd_readBlock_11 (by decide) ?_
  refine r_cne (tgt := 21) eMd_readBlock_13 rfl ⟨(by omega), (by omega)⟩ ⟨(by omega), (by omega)⟩ (fun c13 => ?_) (fun c13 => ?_)
  · first | (have ee : x1 = a_wr (decide (J (M + 2) 20 = 6)) 2 x := by rw [e1, decide_eq_true (show J (M + 2) 20 = 6 by omega)]) <;> exact rest x1 ee (by rw [e1]; exact a_wr_b hb (by omega)) | exact rest x (a_wr_n (fun q => by have := of_decide_eq_true q; omega)).symm hb
  · refine r_aln eMd_readBlock_16 rfl ?_
    refine r_con eMd_readBlock_17 ?_
    refine r_vir eMd_readBlock_18 rfl rfl rfl hM.2.1 rfl rfl ?_
    refine t_Md_wrong hM (by omega) (fun x1 e1 => ?_)
    · show m_wp en _ mMd_readBlock 21 [some (.ref M), some (.int (m_i ((6) + (J (M + 2) 20)))), none, none, none] [] (T, m_I (((md_q J M x1.1 x1.2.1 x1.2.2.1 x1.2.2.2.1 x1.2.2.2.2.1 x1.2.2.2.2.2))), P, L, z, w) Q
      first | (have ee : x1 = a_wr (decide (J (M + 2) 20 = 6)) 2 x := by rw [e1, decide_eq_true (show J (M + 2) 20 = 6 by omega)]) <;> exact rest x1 ee (by rw [e1]; exact a_wr_b hb (by omega)) | exact rest x (a_wr_n (fun q => by have := of_decide_eq_true q; omega)).symm hb
end MDLN
