/-! the words of the language -/
def a_wst (n : Nat) : Nat := [0, 6, 11, 15, 21, 27, 32, 38, 43, 46, 51, 55, 60, 65, 70, 75, 81, 86].getD n 0
def a_wln (n : Nat) : Nat := [5, 4, 3, 5, 5, 4, 5, 4, 2, 4, 3, 4, 4, 4, 4, 5, 4, 5].getD n 0
theorem a_wd_d : ∀ n : Nat, n < 18 → (∀ i : Nat, i < a_wln n → a_tx ((a_wst n + i : Nat) : Int) ≠ 32) ∧ a_tx ((a_wst n + a_wln n : Nat) : Int) = 32 ∧ a_wst n + a_wln n < 92 ∧ a_wln n ≤ 5 ∧ (n < 17 → a_wst (n + 1) = a_wst n + a_wln n + 1) := by decide +kernel
theorem a_tx_d : ∀ i : Nat, i < 92 → 0 ≤ a_tx (i : Int) ∧ a_tx (i : Int) ≤ 200 := by decide +kernel
theorem a_tx_b {i : Int} (h : 0 ≤ i ∧ i < 92) : 0 ≤ a_tx i ∧ a_tx i ≤ 200 := by
  obtain ⟨n, rfl⟩ : ∃ n : Nat, i = n := ⟨i.toNat, by omega⟩
  exact a_tx_d n (by omega)
/-- whether the letters from p to e are the n-th word -/
def a_wm (f : Nat → Int) (p e : Int) (n : Nat) : Prop := e - p = (a_wln n : Int) ∧ ∀ i : Nat, i < a_wln n → f (p + (i : Int)).toNat = a_tx ((a_wst n : Int) + (i : Int))
/-- the number of the word, -1: none -/
def s_wh (f : Nat → Int) (p e r : Int) : Prop := (∃ n : Nat, n < 18 ∧ a_wm f p e n ∧ (∀ m, m < n → ¬ a_wm f p e m) ∧ r = (n : Int)) ∨ ((∀ n : Nat, n < 18 → ¬ a_wm f p e n) ∧ r = -1)
theorem s_wh_bd {f : Nat → Int} {p e r : Int} (h : s_wh f p e r) : -1 ≤ r ∧ r < 18 := by
  rcases h with ⟨n, h1, -, -, h2⟩ | ⟨-, h⟩ <;> omega
theorem s_wh_u {f : Nat → Int} {p e r r' : Int} (h : s_wh f p e r) (h' : s_wh f p e r') : r = r' := by
  rcases h with ⟨n, a1, a2, a3, a4⟩ | ⟨a1, a2⟩ <;> rcases h' with ⟨m, b1, b2, b3, b4⟩ | ⟨b1, b2⟩
  · rcases Nat.lt_trichotomy n m with q | q | q
    · exact absurd a2 (b3 n q)
    · omega
    · exact absurd b2 (a3 m q)
  · exact absurd a2 (b1 n a1)
  · exact absurd b2 (a1 m b1)
  · omega
section MDWO
variable {en : Nat → Nat} {d : Nat} {T : Nat → Option (Nat × Nat)} {J J0 J1 : Nat → Nat → Int} {P : Nat → Nat → Option Nat} {L : Nat → Nat → Int64} {z w M : Nat} {Q : m_Q} {σ : a_S} {a p s v k g : Int}
theorem l_Md_wh1 (hM : md_sh en M T P) (hp : 0 ≤ p ∧ p ≤ a ∧ a ≤ 700) (hby : ∀ i : Nat, i < 700 → 0 ≤ J (M + 1) i ∧ J (M + 1) i ≤ 255) {n : Nat} (hn : n < 18)
    (hq1 : a_wm (J (M + 1)) p a n → Q (some (.int (m_i (n : Int)))) (T, m_I (md_q J M a p s v k g), P, L, z, w))
    (hq0 : ∀ o3, ¬ a_wm (J (M + 1)) p a n → m_wp en d mMd_wordHere 97 [some (.ref M), some (.int (m_i (n : Int))), some (.int (m_i (a_wst n : Int))), o3] [] (T, m_I (md_q J M a p s v k g), P, L, z, w) Q) :
    ∀ (m i : Nat), i + m = a_wln n → p + (i : Int) ≤ a → (∀ j : Nat, j < i → J (M + 1) (p + (j : Int)).toNat = a_tx ((a_wst n : Int) + (j : Int))) → m_wp en d mMd_wordHere 15 [some (.ref M), some (.int (m_i (n : Int))), some (.int (m_i (a_wst n : Int))), some (.int (m_i (i : Int)))] [] (T, m_I (md_q J M a p s v k g), P, L, z, w) Q := by
  obtain ⟨w1, w2, w3, w4, w5⟩ := a_wd_d n hn
  intro m
  induction m with
  | zero =>
    intro i him hle hall
    obtain rfl : i = a_wln n := by omega
    have e32 : a_tx ((a_wst n : Int) + (a_wln n : Int)) = 32 := by rw [← w2]; congr 1
    have hrest : m_wp en d mMd_wordHere 69 [some (.ref M), some (.int (m_i (n : Int))), some (.int (m_i (a_wst n : Int))), some (.int (m_i (a_wln n : Int)))] [] (T, m_I (md_q J M a p s v k g), P, L, z, w) Q := by
      refine r_ldz eMd_wordHere_69 rfl rfl ?_
      refine r_iln eMd_wordHere_71 rfl ?_
      refine r_iln eMd_wordHere_72 rfl ?_
      refine r_add eMd_wordHere_73 ?_
      refine r_chr eMd_wordHere_74 rfl (Nat.le_of_ble_eq_true rfl) (by omega) (by omega) ?_
      refine r_bip eMd_wordHere_77 (by decide) ?_
      refine r_cne (tgt := 97) eMd_wordHere_79 rfl ⟨(by omega), (by omega)⟩ ⟨(by omega), (by omega)⟩ (fun c79 => ?_) (fun c79 => ?_)
      · first | (exfalso; omega) | exact hq0 _ (fun q => by have := q.1; omega)
      · refine r_aln eMd_wordHere_82 rfl ?_
        refine r_gete (x := p) eMd_wordHere_83 rfl (by decide) hM.2.1 (by simp [m_up, md_q, md_put_at, m_fl]) ?_
        refine r_iln eMd_wordHere_86 rfl ?_
        refine r_add eMd_wordHere_87 ?_
        refine r_aln eMd_wordHere_88 rfl ?_
        refine r_gete (x := a) eMd_wordHere_89 rfl (by decide) hM.2.1 (by simp [m_up, md_q, md_put_at, m_fl]) ?_
        refine r_cne (tgt := 97) eMd_wordHere_92 rfl ⟨(by omega), (by omega)⟩ ⟨(by omega), (by omega)⟩ (fun c92 => ?_) (fun c92 => ?_)
        · first | (exfalso; omega) | exact hq0 _ (fun q => by have := q.1; omega)
        · refine r_iln eMd_wordHere_95 rfl ?_
          refine r_iret eMd_wordHere_96 rfl ?_
          exact hq1 ⟨by omega, hall⟩
    refine r_ldz eMd_wordHere_15 rfl rfl ?_
    refine r_iln eMd_wordHere_17 rfl ?_
    refine r_iln eMd_wordHere_18 rfl ?_
    refine r_add eMd_wordHere_19 ?_
    refine r_chr eMd_wordHere_20 rfl (Nat.le_of_ble_eq_true rfl) (by omega) (by omega) ?_
    refine r_bip eMd_wordHere_23 (by decide) ?_
    refine r_ceq (tgt := 69) eMd_wordHere_25 rfl ⟨(by omega), (by omega)⟩ ⟨(by omega), (by omega)⟩ (fun c25 => ?_) (fun c25 => ?_)
    · exact hrest
    · exfalso; omega
  | succ m ih =>
    intro i him hle hall
    have hne := w1 i (by omega)
    have e1 : a_tx ((a_wst n : Int) + (i : Int)) ≠ 32 := by
      intro q
      apply hne
      rw [← q]
      congr 1
    have hb := a_tx_b (i := (a_wst n : Int) + (i : Int)) (by omega)
    have no : (p + (i : Int) < a → J (M + 1) (p + (i : Int)).toNat ≠ a_tx ((a_wst n : Int) + (i : Int))) → ¬ a_wm (J (M + 1)) p a n := fun q q2 => by
      have h1 := q2.1
      exact q (by omega) (q2.2 i (by omega))
    have hrest : ¬ a_wm (J (M + 1)) p a n → m_wp en d mMd_wordHere 69 [some (.ref M), some (.int (m_i (n : Int))), some (.int (m_i (a_wst n : Int))), some (.int (m_i (i : Int)))] [] (T, m_I (md_q J M a p s v k g), P, L, z, w) Q := fun hno => by
      refine r_ldz eMd_wordHere_69 rfl rfl ?_
      refine r_iln eMd_wordHere_71 rfl ?_
      refine r_iln eMd_wordHere_72 rfl ?_
      refine r_add eMd_wordHere_73 ?_
      refine r_chr eMd_wordHere_74 rfl (Nat.le_of_ble_eq_true rfl) (by omega) (by omega) ?_
      refine r_bip eMd_wordHere_77 (by decide) ?_
      refine r_cne (tgt := 97) eMd_wordHere_79 rfl ⟨(by omega), (by omega)⟩ ⟨(by omega), (by omega)⟩ (fun c79 => ?_) (fun c79 => ?_)
      · exact hq0 _ hno
      · exfalso; omega
    have hby2 : p + (i : Int) < a → _ := fun q => hby (p + (i : Int)).toNat (by omega)
    refine r_ldz eMd_wordHere_15 rfl rfl ?_
    refine r_iln eMd_wordHere_17 rfl ?_
    refine r_iln eMd_wordHere_18 rfl ?_
    refine r_add eMd_wordHere_19 ?_
    refine r_chr eMd_wordHere_20 rfl (Nat.le_of_ble_eq_true rfl) (by omega) (by omega) ?_
    refine r_bip eMd_wordHere_23 (by decide) ?_
    refine r_ceq (tgt := 69) eMd_wordHere_25 rfl ⟨(by omega), (by omega)⟩ ⟨(by omega), (by omega)⟩ (fun c25 => ?_) (fun c25 => ?_)
    · first | (exfalso; omega) | exact hrest (no (fun q => by omega)) | exact hrest (no (fun _ => by omega))
    · refine r_aln eMd_wordHere_28 rfl ?_
      refine r_gete (x := p) eMd_wordHere_29 rfl (by decide) hM.2.1 (by simp [m_up, md_q, md_put_at, m_fl]) ?_
      refine r_iln eMd_wordHere_32 rfl ?_
      refine r_add eMd_wordHere_33 ?_
      refine r_aln eMd_wordHere_34 rfl ?_
      refine r_gete (x := a) eMd_wordHere_35 rfl (by decide) hM.2.1 (by simp [m_up, md_q, md_put_at, m_fl]) ?_
      refine r_cge (tgt := 69) eMd_wordHere_38 rfl ⟨(by omega), (by omega)⟩ ⟨(by omega), (by omega)⟩ (fun c38 => ?_) (fun c38 => ?_)
      · first | (exfalso; omega) | exact hrest (no (fun q => by omega)) | exact hrest (no (fun _ => by omega))
      · have hby3 := hby2 (by omega)
        refine r_aln eMd_wordHere_41 rfl ?_
        refine m_getR eMd_wordHere_42 rfl hM.2.1 (md_tape_p hM) ?_
        refine r_aln eMd_wordHere_45 rfl ?_
        refine r_gete (x := p) eMd_wordHere_46 rfl (by decide) hM.2.1 (by simp [m_up, md_q, md_put_at, m_fl]) ?_
        refine r_iln eMd_wordHere_49 rfl ?_
        refine r_add eMd_wordHere_50 ?_
        refine r_ialde (x := J (M + 1) (((p) + ((i : Int))).toNat)) eMd_wordHere_51 (md_tape_t hM) (by decide) (by omega) (by omega) (by simp [m_up, md_put_at, m_fl, md_q]) ?_
        refine r_ldz eMd_wordHere_52 rfl rfl ?_
        refine r_iln eMd_wordHere_54 rfl ?_
        refine r_iln eMd_wordHere_55 rfl ?_
        refine r_add eMd_wordHere_56 ?_
        refine r_chr eMd_wordHere_57 rfl (Nat.le_of_ble_eq_true rfl) (by omega) (by omega) ?_
        refine r_cne (tgt := 69) eMd_wordHere_60 rfl ⟨(by omega), (by omega)⟩ ⟨(by omega), (by omega)⟩ (fun c60 => ?_) (fun c60 => ?_)
        · first | (exfalso; omega) | exact hrest (no (fun q => by omega)) | exact hrest (no (fun _ => by omega))
        · refine r_inc (ls' := [some (.ref M), some (.int (m_i ((n : Int)))), some (.int (m_i ((a_wst n : Int)))), some (.int (m_i ((i : Int) + 1)))]) eMd_wordHere_63 rfl rfl ?_
          refine r_go (tgt := 15) eMd_wordHere_66 rfl ?_
          refine ih (i + 1) (by omega) (by omega) (fun j hj => ?_)
          rcases Nat.lt_or_eq_of_le (Nat.le_of_lt_succ hj) with q | q
          · exact hall j q
          · rw [q]; omega
theorem l_Md_wh2 (hM : md_sh en M T P) {n : Nat} (hn : n < 18) {o3 : Option Value}
    (hq : m_wp en d mMd_wordHere 4 [some (.ref M), some (.int (m_i ((n : Int) + 1))), some (.int (m_i ((a_wst n : Int) + (a_wln n : Int) + 1))), o3] [] (T, m_I J, P, L, z, w) Q) :
    ∀ (m i : Nat), i + m = a_wln n → m_wp en d mMd_wordHere 97 [some (.ref M), some (.int (m_i (n : Int))), some (.int (m_i ((a_wst n : Int) + (i : Int)))), o3] [] (T, m_I J, P, L, z, w) Q := by
  obtain ⟨w1, w2, w3, w4, w5⟩ := a_wd_d n hn
  intro m
  induction m with
  | zero =>
    intro i him
    obtain rfl : i = a_wln n := by omega
    have e32 : a_tx ((a_wst n : Int) + (a_wln n : Int)) = 32 := by rw [← w2]; congr 1
    refine r_ldz eMd_wordHere_97 rfl rfl ?_
    refine r_iln eMd_wordHere_99 rfl ?_
    refine r_chr eMd_wordHere_100 rfl (Nat.le_of_ble_eq_true rfl) (by omega) (by omega) ?_
    refine r_bip eMd_wordHere_103 (by decide) ?_
    refine r_ceq (tgt := 114) eMd_wordHere_105 rfl ⟨(by omega), (by omega)⟩ ⟨(by omega), (by omega)⟩ (fun c105 => ?_) (fun c105 => ?_)
    · refine r_inc (ls' := [some (.ref M), some (.int (m_i ((n : Int)))), some (.int (m_i ((a_wst n : Int) + (a_wln n : Int) + 1))), o3]) eMd_wordHere_114 rfl rfl ?_
      refine r_inc (ls' := [some (.ref M), some (.int (m_i ((n : Int) + 1))), some (.int (m_i ((a_wst n : Int) + (a_wln n : Int) + 1))), o3]) eMd_wordHere_117 rfl rfl ?_
      refine r_go (tgt := 4) eMd_wordHere_120 rfl ?_
      exact hq
    · exfalso; omega
  | succ m ih =>
    intro i him
    have hne := w1 i (by omega)
    have e1 : a_tx ((a_wst n : Int) + (i : Int)) ≠ 32 := by
      intro q
      apply hne
      rw [← q]
      congr 1
    have hb := a_tx_b (i := (a_wst n : Int) + (i : Int)) (by omega)
    refine r_ldz eMd_wordHere_97 rfl rfl ?_
    refine r_iln eMd_wordHere_99 rfl ?_
    refine r_chr eMd_wordHere_100 rfl (Nat.le_of_ble_eq_true rfl) (by omega) (by omega) ?_
    refine r_bip eMd_wordHere_103 (by decide) ?_
    refine r_ceq (tgt := 114) eMd_wordHere_105 rfl ⟨(by omega), (by omega)⟩ ⟨(by omega), (by omega)⟩ (fun c105 => ?_) (fun c105 => ?_)
    · exfalso; omega
    · refine r_inc (ls' := [some (.ref M), some (.int (m_i ((n : Int)))), some (.int (m_i ((a_wst n : Int) + (i : Int) + 1))), o3]) eMd_wordHere_108 rfl rfl ?_
      refine r_go (tgt := 97) eMd_wordHere_111 rfl ?_
      rw [show (a_wst n : Int) + (i : Int) + 1 = (a_wst n : Int) + ((i + 1 : Nat) : Int) by omega]
      exact ih (i + 1) (by omega)
theorem l_Md_wh3 (hM : md_sh en M T P) (hp : 0 ≤ p ∧ p ≤ a ∧ a ≤ 700) (hby : ∀ i : Nat, i < 700 → 0 ≤ J (M + 1) i ∧ J (M + 1) i ≤ 255)
    (hq : ∀ r, s_wh (J (M + 1)) p a r → Q (some (.int (m_i r))) (T, m_I (md_q J M a p s v k g), P, L, z, w)) :
    ∀ (m n : Nat) (x : Int) (o3 : Option Value), n + m = 18 → (n < 18 → x = (a_wst n : Int)) → (n = 18 → x = 92) → (∀ j, j < n → ¬ a_wm (J (M + 1)) p a j) → m_wp en d mMd_wordHere 4 [some (.ref M), some (.int (m_i (n : Int))), some (.int (m_i x)), o3] [] (T, m_I (md_q J M a p s v k g), P, L, z, w) Q := by
  intro m
  induction m with
  | zero =>
    intro n x o3 hm h1 h2 hno
    obtain rfl : x = 92 := h2 (by omega)
    refine r_iln eMd_wordHere_4 rfl ?_
    refine r_ldz eMd_wordHere_5 rfl rfl ?_
    refine r_len eMd_wordHere_7 rfl (Nat.le_of_ble_eq_true rfl) ?_
    refine r_cge (tgt := 123) eMd_wordHere_10 rfl ⟨(by omega), (by omega)⟩ ⟨(by omega), (by omega)⟩ (fun c10 => ?_) (fun c10 => ?_)
    · refine r_con eMd_wordHere_123 ?_
      refine r_iret eMd_wordHere_124 rfl ?_
      exact hq (-1) (Or.inr ⟨fun j hj => hno j (by omega), rfl⟩)
    · exfalso; omega
  | succ m ih =>
    intro n x o3 hm h1 h2 hno
    have hn : n < 18 := by omega
    obtain ⟨w1, w2, w3, w4, w5⟩ := a_wd_d n hn
    obtain rfl : x = (a_wst n : Int) := h1 hn
    have hnx : ¬ a_wm (J (M + 1)) p a n → ∀ o3, m_wp en d mMd_wordHere 97 [some (.ref M), some (.int (m_i (n : Int))), some (.int (m_i (a_wst n : Int))), o3] [] (T, m_I (md_q J M a p s v k g), P, L, z, w) Q := fun hnm o3 => by
      have e92 : n + 1 = 18 → (a_wst n : Int) + (a_wln n : Int) + 1 = 92 := fun q => by
        obtain rfl : n = 17 := by omega
        rfl
      have h4 := ih (n + 1) ((a_wst n : Int) + (a_wln n : Int) + 1) o3 (by omega) (fun q => by have := w5 (by omega); omega) e92 (fun j hj => by
        rcases Nat.lt_or_eq_of_le (Nat.le_of_lt_succ hj) with q | q
        · exact hno j q
        · rw [q]; exact hnm)
      have h := l_Md_wh2 (d := d) (z := z) (w := w) (L := L) (P := P) (Q := Q) (J := md_q J M a p s v k g) (o3 := o3) hM hn h4 (a_wln n) 0 (by omega)
      rw [show (a_wst n : Int) + ((0 : Nat) : Int) = (a_wst n : Int) by omega] at h
      exact h
    refine r_iln eMd_wordHere_4 rfl ?_
    refine r_ldz eMd_wordHere_5 rfl rfl ?_
    refine r_len eMd_wordHere_7 rfl (Nat.le_of_ble_eq_true rfl) ?_
    refine r_cge (tgt := 123) eMd_wordHere_10 rfl ⟨(by omega), (by omega)⟩ ⟨(by omega), (by omega)⟩ (fun c10 => ?_) (fun c10 => ?_)
    · exfalso; omega
    · refine r_con eMd_wordHere_13 ?_
      refine r_isn (ls' := [some (.ref M), some (.int (m_i ((n : Int)))), some (.int (m_i ((a_wst n : Int)))), some (.int (m_i (0)))]) eMd_wordHere_14 (Nat.le_of_ble_eq_true rfl) rfl ?_
      exact l_Md_wh1 hM hp hby hn (fun hm2 => hq _ (Or.inl ⟨n, hn, hm2, hno, rfl⟩)) (fun o hnm => hnx hnm o) (a_wln n) 0 (by omega) (by omega) (fun j hj => by omega)
theorem c_Md_wordHere (hM : md_sh en M T P) (hp : 0 ≤ p ∧ p ≤ a ∧ a ≤ 700) (hby : ∀ i : Nat, i < 700 → 0 ≤ J (M + 1) i ∧ J (M + 1) i ≤ 255)
    (hq : ∀ r, s_wh (J (M + 1)) p a r → Q (some (.int (m_i r))) (T, m_I (md_q J M a p s v k g), P, L, z, w)) : m_call en (d + 1) mMd_wordHere [.ref M] (T, m_I (md_q J M a p s v k g), P, L, z, w) Q := by
  refine m_into (by decide) (Nat.le_of_ble_eq_true rfl) rfl ?_
  show m_wp en _ mMd_wordHere 0 [some (.ref M), none, none, none] [] (T, m_I ((md_q J M a p s v k g)), P, L, z, w) Q
  refine r_con eMd_wordHere_0 ?_
  refine r_isn (ls' := [some (.ref M), some (.int (m_i (0))), none, none]) eMd_wordHere_1 (Nat.le_of_ble_eq_true rfl) rfl ?_
  refine r_con eMd_wordHere_2 ?_
  refine r_isn (ls' := [some (.ref M), some (.int (m_i (0))), some (.int (m_i (0))), none]) eMd_wordHere_3 (Nat.le_of_ble_eq_true rfl) rfl ?_
  exact l_Md_wh3 hM hp hby hq 18 0 0 none (by omega) (fun _ => rfl) (fun q => by omega) (fun j hj => by omega)
end MDWO
