/-! a space of the class: what is free, what stands -/
def sp_i0 (J : Nat → Nat → Int) (A : Nat) (C : a_C) : Prop := J A 0 = C.1 ∧ J A 1 = C.2.1 ∧ J A 2 = C.2.2.1 ∧ J A 3 = C.2.2.2.1 ∧ J A 5 = C.2.2.2.2.1 ∧ ∀ x : Int, 0 ≤ x → x < 16 → J (A + 1) x.toNat = C.2.2.2.2.2 x
section SPC
variable {en : Nat → Nat} {d : Nat} {T : Nat → Option (Nat × Nat)} {J : Nat → Nat → Int} {P : Nat → Nat → Option Nat} {L : Nat → Nat → Int64} {z w A B R : Nat} {Q : m_Q} {σ : a_S} {C : a_C}
theorem c_Sp_freeAt (hA : sp_sh en A T P) (hC : sp_i0 J A C) {x : Int} (hx : 0 ≤ x ∧ x < 16) (hq : Q (some (.int (m_i (C.2.2.2.2.2 x)))) (T, m_I J, P, L, z, w)) : m_call en (d + 1) mSp_freeAt [.ref A, .int (m_i x)] (T, m_I J, P, L, z, w) Q := by
  have e := hC.2.2.2.2.2 x hx.1 hx.2
  refine m_into (by decide) (Nat.le_of_ble_eq_true rfl) rfl ?_
  show m_wp en _ mSp_freeAt 0 [some (.ref A), some (.int (m_i (x)))] [] (T, m_I J, P, L, z, w) Q
  refine r_iln eSp_freeAt_0 rfl ?_
  refine r_zlt (tgt := 22) eSp_freeAt_1 rfl ⟨(by omega), (by omega)⟩ (fun c1 => ?_) (fun c1 => ?_)
  · exfalso; omega
  · refine r_iln eSp_freeAt_4 rfl ?_
    refine r_aln eSp_freeAt_5 rfl ?_
    refine m_getR eSp_freeAt_6 rfl hA.2.1 (ob_p hA (i := 0) rfl) ?_
    refine r_alen eSp_freeAt_9 (ob_t hA (i := 0) rfl) (by decide) ?_
    refine r_cge (tgt := 22) eSp_freeAt_10 rfl ⟨(by omega), (by omega)⟩ ⟨(by omega), (by omega)⟩ (fun c10 => ?_) (fun c10 => ?_)
    · exfalso; omega
    · refine r_aln eSp_freeAt_13 rfl ?_
      refine m_getR eSp_freeAt_14 rfl hA.2.1 (ob_p hA (i := 0) rfl) ?_
      refine r_iln eSp_freeAt_17 rfl ?_
      skip
      refine r_ialde (x := J (A + 1) ((x).toNat)) eSp_freeAt_18 (ob_t hA (i := 0) rfl) (by decide) (by omega) (by omega) rfl ?_
      refine r_go (tgt := 23) eSp_freeAt_19 rfl ?_
      refine r_iret eSp_freeAt_23 rfl ?_
      first | (rw [e]; exact hq) | (exfalso; omega)
/-- what the rope needs of the columns between -/
def a_rp (C : a_C) (x e t k : Int) : Prop := (e * k + a_abs t - 1) / a_abs t ≤ C.2.2.2.2.2 (if 0 < t then x + k else x - k)
theorem a_cl_r {C : a_C} (ok : a_ok C) {x v t t' e : Int} (hx : 0 ≤ x ∧ x < 16) : a_cl C (x, v, t, t', e) = true ↔ (∀ k : Int, 1 ≤ k → k < a_abs t → a_rp C x e t k) ∧ e + C.2.2.2.2.1 ≤ C.2.2.2.2.2 (x + t) := by
  rw [a_cl_iff]
  constructor
  · rintro ⟨h1, h2⟩
    exact ⟨fun k a b => h1 k (by omega) b, h2⟩
  · rintro ⟨h1, h2⟩
    refine ⟨fun k a b => ?_, h2⟩
    by_cases q : k = 0
    · subst q
      have b2 : (0 : Int) < a_abs t := b
      have hf := ok.2.2.2.2.2 x hx.1 hx.2
      have e0 : (e * 0 + a_abs t - 1) / a_abs t = 0 := by
        rw [Int.mul_zero]
        exact Int.ediv_eq_zero_of_lt (by omega) (by omega)
      show (e * 0 + a_abs t - 1) / a_abs t ≤ C.2.2.2.2.2 (if 0 < t then x + 0 else x - 0)
      rw [e0, show (if 0 < t then x + 0 else x - 0) = x by split <;> omega]
      omega
    · exact h1 k (by omega) b
theorem l_Sp_isClear (hA : sp_sh en A T P) (hC : sp_i0 J A C) (ok : a_ok C) {x v t t' e n sg : Int} (hx : 0 ≤ x ∧ x < 16) (ht : 0 ≤ x + t ∧ x + t < 16) (he : 1 ≤ e ∧ e ≤ 6) (hn : n = a_abs t) (hsg : (sg = 1 ∧ 0 ≤ t ∧ n = t) ∨ (sg = -1 ∧ t < 0 ∧ n = -t)) (hq : Q (some (.int (m_i (a_b (a_cl C (x, v, t, t', e)))))) (T, m_I J, P, L, z, w)) :
    ∀ (m : Nat) (k : Int), 1 ≤ k → (k + m = n ∨ (m = 0 ∧ n ≤ k ∧ k ≤ 1)) → (∀ i : Int, 1 ≤ i → i < k → i < n → a_rp C x e t i) → m_wp en (d + 1) mSp_isClear 26 [some (.ref A), some (.int (m_i x)), some (.int (m_i e)), some (.int (m_i t)), some (.int (m_i n)), some (.int (m_i sg)), some (.int (m_i k))] [] (T, m_I J, P, L, z, w) Q := by
  have hcl := a_cl_r (C := C) ok (v := v) (t := t) (t' := t') (e := e) hx
  have hf := ok.2.2.2.2.2 (x + t) ht.1 ht.2
  have e5 : J A 5 = C.2.2.2.2.1 := hC.2.2.2.2.1
  have hh := ok.2.2.2.2.1
  intro m
  induction m with
  | zero =>
    intro k h1 hk hall
    refine r_il eSp_isClear_26 rfl ?_
    refine r_il eSp_isClear_28 rfl ?_
    refine r_cge (tgt := 67) eSp_isClear_30 rfl ⟨(by omega), (by omega)⟩ ⟨(by omega), (by omega)⟩ (fun c30 => ?_) (fun c30 => ?_)
    · refine r_iln eSp_isClear_67 rfl ?_
      refine r_aln eSp_isClear_68 rfl ?_
      refine r_gete (x := J A 5) eSp_isClear_69 rfl (by decide) hA.2.1 rfl ?_
      refine r_add eSp_isClear_72 ?_
      refine r_aln eSp_isClear_73 rfl ?_
      refine r_iln eSp_isClear_74 rfl ?_
      refine r_iln eSp_isClear_75 rfl ?_
      refine r_add eSp_isClear_76 ?_
      refine r_vir eSp_isClear_77 rfl rfl rfl hA.2.1 rfl rfl ?_
      refine c_Sp_freeAt hA hC (by omega) ?_
      show m_wp en _ mSp_isClear 80 [some (.ref A), some (.int (m_i (x))), some (.int (m_i (e))), some (.int (m_i (t))), some (.int (m_i (n))), some (.int (m_i (sg))), some (.int (m_i (k)))] [(.int (m_i ((C.2.2.2.2.2 (((x) + (t))))))), (.int (m_i ((e) + (J A 5))))] (T, m_I J, P, L, z, w) Q
      refine r_cgt (tgt := 87) eSp_isClear_80 rfl ⟨(by omega), (by omega)⟩ ⟨(by omega), (by omega)⟩ (fun c80 => ?_) (fun c80 => ?_)
      · refine r_con eSp_isClear_87 ?_
        refine r_zret eSp_isClear_88 rfl (by first | exact Or.inl rfl | exact Or.inr rfl | omega) ?_
        first | (rw [a_b_t (hcl.mpr ⟨fun i a b => hall i a (by omega) (by omega), by omega⟩)] at hq; exact hq) | (rw [a_b_f (fun q => by have := (hcl.mp q).2; omega)] at hq; exact hq)
      · refine r_con eSp_isClear_83 ?_
        refine r_go (tgt := 88) eSp_isClear_84 rfl ?_
        refine r_zret eSp_isClear_88 rfl (by first | exact Or.inl rfl | exact Or.inr rfl | omega) ?_
        first | (rw [a_b_t (hcl.mpr ⟨fun i a b => hall i a (by omega) (by omega), by omega⟩)] at hq; exact hq) | (rw [a_b_f (fun q => by have := (hcl.mp q).2; omega)] at hq; exact hq)
    · exfalso; omega
  | succ m ih =>
    intro k h1 hk hall
    have hsk : (sg = 1 ∧ sg * k = k) ∨ (sg = -1 ∧ sg * k = -k) := by
      rcases hsg with ⟨h, -⟩ | ⟨h, -⟩
      · exact Or.inl ⟨h, by rw [h, Int.one_mul]⟩
      · exact Or.inr ⟨h, by rw [h]; omega⟩
    have hek : 0 ≤ e * k ∧ e * k ≤ 6 * 16 := ⟨Int.mul_nonneg (by omega) (by omega), Int.mul_le_mul (by omega) (by omega) (by omega) (by omega)⟩
    have hdv : 0 ≤ (e * k + n - 1) / n ∧ (e * k + n - 1) / n ≤ 200 := ⟨Int.ediv_nonneg (by omega) (by omega), Int.le_trans (Int.ediv_le_self _ (by omega)) (by omega)⟩
    have hxk : (if 0 < t then x + k else x - k) = x + sg * k := by split <;> omega
    have hfk := ok.2.2.2.2.2 (x + sg * k) (by omega) (by omega)
    have hi := ih (k + 1) (by omega) (by omega)
    have hrp : a_rp C x e t k ↔ (e * k + n - 1) / n ≤ C.2.2.2.2.2 (x + sg * k) := by
      unfold a_rp
      rw [hxk, ← hn]
    refine r_il eSp_isClear_26 rfl ?_
    refine r_il eSp_isClear_28 rfl ?_
    refine r_cge (tgt := 67) eSp_isClear_30 rfl ⟨(by omega), (by omega)⟩ ⟨(by omega), (by omega)⟩ (fun c30 => ?_) (fun c30 => ?_)
    · exfalso; omega
    · refine r_iln eSp_isClear_33 rfl ?_
      refine r_il eSp_isClear_34 rfl ?_
      refine r_mul eSp_isClear_36 ?_
      refine r_il eSp_isClear_37 rfl ?_
      refine r_add eSp_isClear_39 ?_
      refine r_con eSp_isClear_40 ?_
      refine r_sub eSp_isClear_41 ?_
      refine r_il eSp_isClear_42 rfl ?_
      refine r_div eSp_isClear_44 ⟨(by omega), (by omega)⟩ ⟨(by omega), (by omega)⟩ ?_
      refine r_aln eSp_isClear_45 rfl ?_
      refine r_iln eSp_isClear_46 rfl ?_
      refine r_il eSp_isClear_47 rfl ?_
      refine r_il eSp_isClear_49 rfl ?_
      refine r_mul eSp_isClear_51 ?_
      refine r_add eSp_isClear_52 ?_
      refine r_vir eSp_isClear_53 rfl rfl rfl hA.2.1 rfl rfl ?_
      refine c_Sp_freeAt hA hC (by omega) ?_
      show m_wp en _ mSp_isClear 56 [some (.ref A), some (.int (m_i (x))), some (.int (m_i (e))), some (.int (m_i (t))), some (.int (m_i (n))), some (.int (m_i (sg))), some (.int (m_i (k)))] [(.int (m_i ((C.2.2.2.2.2 (((x) + ((sg) * (k)))))))), (.int (m_i (((((e) * (k)) + (n)) - (1)) / (n))))] (T, m_I J, P, L, z, w) Q
      refine r_cle (tgt := 61) eSp_isClear_56 rfl ⟨(by omega), (by omega)⟩ ⟨(by omega), (by omega)⟩ (fun c56 => ?_) (fun c56 => ?_)
      · refine r_inc (ls' := [some (.ref A), some (.int (m_i (x))), some (.int (m_i (e))), some (.int (m_i (t))), some (.int (m_i (n))), some (.int (m_i (sg))), some (.int (m_i (k + 1)))]) eSp_isClear_61 rfl rfl ?_
        refine r_go (tgt := 26) eSp_isClear_64 rfl ?_
        exact hi (fun i a b c => by by_cases q : i = k; (rw [q]; exact hrp.mpr (by omega)); (exact hall i a (by omega) c))
      · refine r_con eSp_isClear_59 ?_
        refine r_zret eSp_isClear_60 rfl (by first | exact Or.inl rfl | exact Or.inr rfl | omega) ?_
        rw [a_b_f (fun q => by have := hrp.mp ((hcl.mp q).1 k h1 (by omega)); omega)] at hq
        exact hq
theorem c_Sp_isClear (hA : sp_sh en A T P) (hC : sp_i0 J A C) (ok : a_ok C) {x v t t' e : Int} (hx : 0 ≤ x ∧ x < 16) (ht : 0 ≤ x + t ∧ x + t < 16) (he : 1 ≤ e ∧ e ≤ 6) (hq : Q (some (.int (m_i (a_b (a_cl C (x, v, t, t', e)))))) (T, m_I J, P, L, z, w)) : m_call en (d + 2) mSp_isClear [.ref A, .int (m_i x), .int (m_i e), .int (m_i t)] (T, m_I J, P, L, z, w) Q := by
  have ha : (0 ≤ t ∧ a_abs t = t) ∨ (t < 0 ∧ a_abs t = -t) := by unfold a_abs; split <;> omega
  have h26 := fun (n sg : Int) (hn : n = a_abs t) (hsg : (sg = 1 ∧ 0 ≤ t ∧ n = t) ∨ (sg = -1 ∧ t < 0 ∧ n = -t)) => l_Sp_isClear (d := d) (L := L) (z := z) (w := w) hA hC ok hx ht he hn hsg hq (n - 1).toNat 1 (by omega) (by omega) (fun i a b => by omega)
  refine m_into (by decide) (Nat.le_of_ble_eq_true rfl) rfl ?_
  show m_wp en _ mSp_isClear 0 [some (.ref A), some (.int (m_i (x))), some (.int (m_i (e))), some (.int (m_i (t))), none, none, none] [] (T, m_I J, P, L, z, w) Q
  refine r_iln eSp_isClear_0 rfl ?_
  refine r_zge (tgt := 9) eSp_isClear_1 rfl ⟨(by omega), (by omega)⟩ (fun c1 => ?_) (fun c1 => ?_)
  · refine r_iln eSp_isClear_9 rfl ?_
    refine r_is (ls' := [some (.ref A), some (.int (m_i (x))), some (.int (m_i (e))), some (.int (m_i (t))), some (.int (m_i (t))), none, none]) eSp_isClear_10 (Nat.le_of_ble_eq_true rfl) rfl ?_
    refine r_iln eSp_isClear_12 rfl ?_
    refine r_zge (tgt := 20) eSp_isClear_13 rfl ⟨(by omega), (by omega)⟩ (fun c13 => ?_) (fun c13 => ?_)
    · refine r_con eSp_isClear_20 ?_
      refine r_is (ls' := [some (.ref A), some (.int (m_i (x))), some (.int (m_i (e))), some (.int (m_i (t))), some (.int (m_i (t))), some (.int (m_i (1))), none]) eSp_isClear_21 (Nat.le_of_ble_eq_true rfl) rfl ?_
      refine r_con eSp_isClear_23 ?_
      refine r_is (ls' := [some (.ref A), some (.int (m_i (x))), some (.int (m_i (e))), some (.int (m_i (t))), some (.int (m_i (t))), some (.int (m_i (1))), some (.int (m_i (1)))]) eSp_isClear_24 (Nat.le_of_ble_eq_true rfl) rfl ?_
      first | (exfalso; omega) | exact h26 _ _ (by omega) (by omega)
    · refine r_con eSp_isClear_16 ?_
      refine r_go (tgt := 21) eSp_isClear_17 rfl ?_
      refine r_is (ls' := [some (.ref A), some (.int (m_i (x))), some (.int (m_i (e))), some (.int (m_i (t))), some (.int (m_i (t))), some (.int (m_i ((-1)))), none]) eSp_isClear_21 (Nat.le_of_ble_eq_true rfl) rfl ?_
      refine r_con eSp_isClear_23 ?_
      refine r_is (ls' := [some (.ref A), some (.int (m_i (x))), some (.int (m_i (e))), some (.int (m_i (t))), some (.int (m_i (t))), some (.int (m_i ((-1)))), some (.int (m_i (1)))]) eSp_isClear_24 (Nat.le_of_ble_eq_true rfl) rfl ?_
      first | (exfalso; omega) | exact h26 _ _ (by omega) (by omega)
  · refine r_iln eSp_isClear_4 rfl ?_
    refine r_neg eSp_isClear_5 ?_
    refine r_go (tgt := 10) eSp_isClear_6 rfl ?_
    refine r_is (ls' := [some (.ref A), some (.int (m_i (x))), some (.int (m_i (e))), some (.int (m_i (t))), some (.int (m_i (-(t)))), none, none]) eSp_isClear_10 (Nat.le_of_ble_eq_true rfl) rfl ?_
    refine r_iln eSp_isClear_12 rfl ?_
    refine r_zge (tgt := 20) eSp_isClear_13 rfl ⟨(by omega), (by omega)⟩ (fun c13 => ?_) (fun c13 => ?_)
    · refine r_con eSp_isClear_20 ?_
      refine r_is (ls' := [some (.ref A), some (.int (m_i (x))), some (.int (m_i (e))), some (.int (m_i (t))), some (.int (m_i (-(t)))), some (.int (m_i (1))), none]) eSp_isClear_21 (Nat.le_of_ble_eq_true rfl) rfl ?_
      refine r_con eSp_isClear_23 ?_
      refine r_is (ls' := [some (.ref A), some (.int (m_i (x))), some (.int (m_i (e))), some (.int (m_i (t))), some (.int (m_i (-(t)))), some (.int (m_i (1))), some (.int (m_i (1)))]) eSp_isClear_24 (Nat.le_of_ble_eq_true rfl) rfl ?_
      first | (exfalso; omega) | exact h26 _ _ (by omega) (by omega)
    · refine r_con eSp_isClear_16 ?_
      refine r_go (tgt := 21) eSp_isClear_17 rfl ?_
      refine r_is (ls' := [some (.ref A), some (.int (m_i (x))), some (.int (m_i (e))), some (.int (m_i (t))), some (.int (m_i (-(t)))), some (.int (m_i ((-1)))), none]) eSp_isClear_21 (Nat.le_of_ble_eq_true rfl) rfl ?_
      refine r_con eSp_isClear_23 ?_
      refine r_is (ls' := [some (.ref A), some (.int (m_i (x))), some (.int (m_i (e))), some (.int (m_i (t))), some (.int (m_i (-(t)))), some (.int (m_i ((-1)))), some (.int (m_i (1)))]) eSp_isClear_24 (Nat.le_of_ble_eq_true rfl) rfl ?_
      first | (exfalso; omega) | exact h26 _ _ (by omega) (by omega)
theorem c_Sp_whyNot (hA : sp_sh en A T P) (hB : po_sh en B T P) (hC : sp_i0 J A C) (ok : a_ok C) (hs : a_sm (po_get J B)) (hq : Q (some (.int (m_i (a_why C (po_get J B))))) (T, m_I J, P, L, z, w)) : m_call en (d + 3) mSp_whyNot [.ref A, .ref B] (T, m_I J, P, L, z, w) Q := by
  have h0 : -100000 ≤ J B 0 ∧ J B 0 ≤ 100000 := hs.1
  have h1 : -100000 ≤ J B 1 ∧ J B 1 ≤ 100000 := hs.2.1
  have h2 : -100000 ≤ J B 2 ∧ J B 2 ≤ 100000 := hs.2.2.1
  have h4 : -100000 ≤ J B 4 ∧ J B 4 ≤ 100000 := hs.2.2.2.2
  have e0 : J A 0 = C.1 := hC.1
  have e1 : J A 1 = C.2.1 := hC.2.1
  have e2 : J A 2 = C.2.2.1 := hC.2.2.1
  have e3 : J A 3 = C.2.2.2.1 := hC.2.2.2.1
  have k0 := ok.1
  have k1 := ok.2.1
  have k2 := ok.2.2.1
  have k3 := ok.2.2.2.1
  have a1 : (0 ≤ J B 1 ∧ a_abs (J B 1) = J B 1) ∨ (J B 1 < 0 ∧ a_abs (J B 1) = -J B 1) := by unfold a_abs; split <;> omega
  have a2 : (0 ≤ J B 2 ∧ a_abs (J B 2) = J B 2) ∨ (J B 2 < 0 ∧ a_abs (J B 2) = -J B 2) := by unfold a_abs; split <;> omega
  have hcb : (a_b (a_cl C (po_get J B)) = 1 ∧ a_cl C (po_get J B) = true) ∨ (a_b (a_cl C (po_get J B)) = 0 ∧ ¬ a_cl C (po_get J B) = true) := by
    by_cases q : a_cl C (po_get J B) = true
    · exact Or.inl ⟨a_b_t q, q⟩
    · exact Or.inr ⟨a_b_f q, q⟩
  have hw : a_why C (po_get J B) = if ¬ (0 ≤ J B 0 ∧ J B 0 < C.1) then 1 else if C.2.2.1 < a_abs (J B 1) then 2 else if J B 4 < 1 ∨ C.2.1 < J B 4 then 3 else if C.2.2.2.1 < a_abs (J B 2) then 4 else if ¬ (0 ≤ J B 0 + J B 2 ∧ J B 0 + J B 2 < C.1) then 5 else if a_cl C (po_get J B) = true then 0 else 6 := rfl
  rw [hw] at hq
  refine m_into (by decide) (Nat.le_of_ble_eq_true rfl) rfl ?_
  show m_wp en _ mSp_whyNot 0 [some (.ref A), some (.ref B), none] [] (T, m_I J, P, L, z, w) Q
  refine r_aln eSp_whyNot_0 rfl ?_
  refine r_gete (x := J B 0) eSp_whyNot_1 rfl (by decide) hB.2.1 rfl ?_
  refine r_zlt (tgt := 18) eSp_whyNot_4 rfl ⟨(by omega), (by omega)⟩ (fun c4 => ?_) (fun c4 => ?_)
  · refine r_con eSp_whyNot_18 ?_
    refine r_iret eSp_whyNot_19 rfl ?_
    rw [if_pos (by omega)] at hq
    exact hq
  · refine r_aln eSp_whyNot_7 rfl ?_
    refine r_gete (x := J B 0) eSp_whyNot_8 rfl (by decide) hB.2.1 rfl ?_
    refine r_aln eSp_whyNot_11 rfl ?_
    refine r_gete (x := J A 0) eSp_whyNot_12 rfl (by decide) hA.2.1 rfl ?_
    refine r_clt (tgt := 20) eSp_whyNot_15 rfl ⟨(by omega), (by omega)⟩ ⟨(by omega), (by omega)⟩ (fun c15 => ?_) (fun c15 => ?_)
    · refine r_aln eSp_whyNot_20 rfl ?_
      refine r_gete (x := J B 1) eSp_whyNot_21 rfl (by decide) hB.2.1 rfl ?_
      refine r_aln eSp_whyNot_24 rfl ?_
      refine r_gete (x := J A 2) eSp_whyNot_25 rfl (by decide) hA.2.1 rfl ?_
      refine r_neg eSp_whyNot_28 ?_
      refine r_clt (tgt := 43) eSp_whyNot_29 rfl ⟨(by omega), (by omega)⟩ ⟨(by omega), (by omega)⟩ (fun c29 => ?_) (fun c29 => ?_)
      · refine r_con eSp_whyNot_43 ?_
        refine r_iret eSp_whyNot_44 rfl ?_
        rw [if_neg (by omega), if_pos (by omega)] at hq
        exact hq
      · refine r_aln eSp_whyNot_32 rfl ?_
        refine r_gete (x := J B 1) eSp_whyNot_33 rfl (by decide) hB.2.1 rfl ?_
        refine r_aln eSp_whyNot_36 rfl ?_
        refine r_gete (x := J A 2) eSp_whyNot_37 rfl (by decide) hA.2.1 rfl ?_
        refine r_cle (tgt := 45) eSp_whyNot_40 rfl ⟨(by omega), (by omega)⟩ ⟨(by omega), (by omega)⟩ (fun c40 => ?_) (fun c40 => ?_)
        · refine r_aln eSp_whyNot_45 rfl ?_
          refine r_gete (x := J B 4) eSp_whyNot_46 rfl (by decide) hB.2.1 rfl ?_
          refine r_con eSp_whyNot_49 ?_
          refine r_clt (tgt := 64) eSp_whyNot_50 rfl ⟨(by omega), (by omega)⟩ ⟨(by omega), (by omega)⟩ (fun c50 => ?_) (fun c50 => ?_)
          · refine r_con eSp_whyNot_64 ?_
            refine r_iret eSp_whyNot_65 rfl ?_
            rw [if_neg (by omega), if_neg (by omega), if_pos (by omega)] at hq
            exact hq
          · refine r_aln eSp_whyNot_53 rfl ?_
            refine r_gete (x := J B 4) eSp_whyNot_54 rfl (by decide) hB.2.1 rfl ?_
            refine r_aln eSp_whyNot_57 rfl ?_
            refine r_gete (x := J A 1) eSp_whyNot_58 rfl (by decide) hA.2.1 rfl ?_
            refine r_cle (tgt := 66) eSp_whyNot_61 rfl ⟨(by omega), (by omega)⟩ ⟨(by omega), (by omega)⟩ (fun c61 => ?_) (fun c61 => ?_)
            · refine r_aln eSp_whyNot_66 rfl ?_
              refine r_gete (x := J B 2) eSp_whyNot_67 rfl (by decide) hB.2.1 rfl ?_
              refine r_aln eSp_whyNot_70 rfl ?_
              refine r_gete (x := J A 3) eSp_whyNot_71 rfl (by decide) hA.2.1 rfl ?_
              refine r_neg eSp_whyNot_74 ?_
              refine r_clt (tgt := 89) eSp_whyNot_75 rfl ⟨(by omega), (by omega)⟩ ⟨(by omega), (by omega)⟩ (fun c75 => ?_) (fun c75 => ?_)
              · refine r_con eSp_whyNot_89 ?_
                refine r_iret eSp_whyNot_90 rfl ?_
                rw [if_neg (by omega), if_neg (by omega), if_neg (by omega), if_pos (by omega)] at hq
                exact hq
              · refine r_aln eSp_whyNot_78 rfl ?_
                refine r_gete (x := J B 2) eSp_whyNot_79 rfl (by decide) hB.2.1 rfl ?_
                refine r_aln eSp_whyNot_82 rfl ?_
                refine r_gete (x := J A 3) eSp_whyNot_83 rfl (by decide) hA.2.1 rfl ?_
                refine r_cle (tgt := 91) eSp_whyNot_86 rfl ⟨(by omega), (by omega)⟩ ⟨(by omega), (by omega)⟩ (fun c86 => ?_) (fun c86 => ?_)
                · refine r_aln eSp_whyNot_91 rfl ?_
                  refine r_vir eSp_whyNot_92 rfl rfl rfl hB.2.1 rfl rfl ?_
                  refine c_Po_load hB ?_
                  show m_wp en _ mSp_whyNot 95 [some (.ref A), some (.ref B), none] [(.int (m_i ((J B 0 + J B 2))))] (T, m_I J, P, L, z, w) Q
                  refine r_isn (ls' := [some (.ref A), some (.ref B), some (.int (m_i ((J B 0 + J B 2))))]) eSp_whyNot_95 (Nat.le_of_ble_eq_true rfl) rfl ?_
                  refine r_iln eSp_whyNot_96 rfl ?_
                  refine r_zlt (tgt := 108) eSp_whyNot_97 rfl ⟨(by omega), (by omega)⟩ (fun c97 => ?_) (fun c97 => ?_)
                  · refine r_con eSp_whyNot_108 ?_
                    refine r_iret eSp_whyNot_109 rfl ?_
                    rw [if_neg (by omega), if_neg (by omega), if_neg (by omega), if_neg (by omega), if_pos (by omega)] at hq
                    exact hq
                  · refine r_iln eSp_whyNot_100 rfl ?_
                    refine r_aln eSp_whyNot_101 rfl ?_
                    refine r_gete (x := J A 0) eSp_whyNot_102 rfl (by decide) hA.2.1 rfl ?_
                    refine r_clt (tgt := 110) eSp_whyNot_105 rfl ⟨(by omega), (by omega)⟩ ⟨(by omega), (by omega)⟩ (fun c105 => ?_) (fun c105 => ?_)
                    · refine r_aln eSp_whyNot_110 rfl ?_
                      refine r_aln eSp_whyNot_111 rfl ?_
                      refine r_gete (x := J B 0) eSp_whyNot_112 rfl (by decide) hB.2.1 rfl ?_
                      refine r_aln eSp_whyNot_115 rfl ?_
                      refine r_gete (x := J B 4) eSp_whyNot_116 rfl (by decide) hB.2.1 rfl ?_
                      refine r_aln eSp_whyNot_119 rfl ?_
                      refine r_gete (x := J B 2) eSp_whyNot_120 rfl (by decide) hB.2.1 rfl ?_
                      refine r_vir eSp_whyNot_123 rfl rfl rfl hA.2.1 rfl rfl ?_
                      refine c_Sp_isClear (v := J B 1) (t' := J B 3) hA hC ok (by omega) (by omega) (by omega) ?_
                      show m_wp en _ mSp_whyNot 126 [some (.ref A), some (.ref B), some (.int (m_i ((J B 0 + J B 2))))] [(.int (m_i ((a_b (a_cl C (po_get J B))))))] (T, m_I J, P, L, z, w) Q
                      refine r_zeq (tgt := 133) eSp_whyNot_126 rfl ⟨(by omega), (by omega)⟩ (fun c126 => ?_) (fun c126 => ?_)
                      · refine r_bip eSp_whyNot_133 (by decide) ?_
                        refine r_iret eSp_whyNot_135 rfl ?_
                        rw [if_neg (by omega), if_neg (by omega), if_neg (by omega), if_neg (by omega), if_neg (by omega)] at hq
                        rcases hcb with ⟨g1, g2⟩ | ⟨g1, g2⟩
                        all_goals first | (exfalso; omega) | (rw [if_pos g2] at hq; exact hq) | (rw [if_neg g2] at hq; exact hq)
                      · refine r_con eSp_whyNot_129 ?_
                        refine r_go (tgt := 135) eSp_whyNot_130 rfl ?_
                        refine r_iret eSp_whyNot_135 rfl ?_
                        rw [if_neg (by omega), if_neg (by omega), if_neg (by omega), if_neg (by omega), if_neg (by omega)] at hq
                        rcases hcb with ⟨g1, g2⟩ | ⟨g1, g2⟩
                        all_goals first | (exfalso; omega) | (rw [if_pos g2] at hq; exact hq) | (rw [if_neg g2] at hq; exact hq)
                    · refine r_con eSp_whyNot_108 ?_
                      refine r_iret eSp_whyNot_109 rfl ?_
                      rw [if_neg (by omega), if_neg (by omega), if_neg (by omega), if_neg (by omega), if_pos (by omega)] at hq
                      exact hq
                · refine r_con eSp_whyNot_89 ?_
                  refine r_iret eSp_whyNot_90 rfl ?_
                  rw [if_neg (by omega), if_neg (by omega), if_neg (by omega), if_pos (by omega)] at hq
                  exact hq
            · refine r_con eSp_whyNot_64 ?_
              refine r_iret eSp_whyNot_65 rfl ?_
              rw [if_neg (by omega), if_neg (by omega), if_pos (by omega)] at hq
              exact hq
        · refine r_con eSp_whyNot_43 ?_
          refine r_iret eSp_whyNot_44 rfl ?_
          rw [if_neg (by omega), if_pos (by omega)] at hq
          exact hq
    · refine r_con eSp_whyNot_18 ?_
      refine r_iret eSp_whyNot_19 rfl ?_
      rw [if_pos (by omega)] at hq
      exact hq
end SPC
