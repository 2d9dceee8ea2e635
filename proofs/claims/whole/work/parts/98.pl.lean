/-! a plan of the class -/
/-- bounds of a plan -/
def pl_ok (J : Nat → Nat → Int) (A : Nat) : Prop := (4 ≤ J A 0 ∧ J A 0 ≤ 16) ∧ (2 ≤ J A 1 ∧ J A 1 ≤ 6) ∧ (1 ≤ J A 2 ∧ J A 2 ≤ 2) ∧ (1 ≤ J A 3 ∧ J A 3 ≤ 4) ∧ (0 ≤ J (A + 12) 5 ∧ J (A + 12) 5 ≤ 6) ∧ (0 ≤ J (A + 12) 7 ∧ J (A + 12) 7 ≤ 8) ∧ (0 ≤ J (A + 12) 8 ∧ J (A + 12) 8 ≤ 16) ∧ (0 ≤ J (A + 12) 10 ∧ J (A + 12) 10 ≤ 3) ∧
  (∀ i : Nat, i < 16 → (0 ≤ J (A + 1) i ∧ J (A + 1) i ≤ 6) ∧ 0 ≤ J (A + 2) i ∧ J (A + 2) i ≤ 6) ∧ (∀ i : Nat, i < 6 → m_in (J (A + 3) i) ∧ (0 ≤ J (A + 4) i ∧ J (A + 4) i < 16) ∧ 0 ≤ J (A + 5) i ∧ J (A + 5) i ≤ 6) ∧ (∀ i : Nat, i < 8 → m_in (J (A + 6) i) ∧ -100 ≤ J (A + 7) i ∧ J (A + 7) i ≤ 100) ∧ (∀ i : Nat, i < 16 → m_in (J (A + 8) i) ∧ 0 ≤ J (A + 9) i ∧ J (A + 9) i ≤ 30) ∧ (∀ i : Nat, i < 3 → (0 ≤ J (A + 10) i ∧ J (A + 10) i < 16) ∧ 0 ≤ J (A + 11) i ∧ J (A + 11) i < 16)
/-- the first wind told for a tick -/
def a_w1 (f g : Nat → Int) (t : Int) : Nat → Nat → Int
  | 0, _ => 0
  | n + 1, k => if f k = t then g k else a_w1 f g t n (k + 1)
/-- the order at a place of the orders laid out -/
def a_oa (f g : Nat → Int) (p : Int) : Nat → Nat → Int → Int
  | 0, _, _ => -1
  | n + 1, k, s => if p < s + g k then f k else a_oa f g p n (k + 1) (s + g k)
section PLN
variable {en : Nat → Nat} {d : Nat} {T : Nat → Option (Nat × Nat)} {J : Nat → Nat → Int} {P : Nat → Nat → Option Nat} {L : Nat → Nat → Int64} {z w A B R : Nat} {Q : m_Q} {σ : a_S}
theorem c_Pl_hasColumn (hA : pl_sh en A T P) (ok : pl_ok J A) {x : Int} (hx : m_in x) (hq : Q (some (.int (m_i (a_b (decide (0 ≤ x ∧ x < J A 0)))))) (T, m_I J, P, L, z, w)) : m_call en (d + 1) mPl_hasColumn [.ref A, .int (m_i x)] (T, m_I J, P, L, z, w) Q := by
  have h0 := ok.1
  unfold m_in at hx
  refine m_into (by decide) (Nat.le_of_ble_eq_true rfl) rfl ?_
  show m_wp en _ mPl_hasColumn 0 [some (.ref A), some (.int (m_i (x)))] [] (T, m_I J, P, L, z, w) Q
  refine r_iln ePl_hasColumn_0 rfl ?_
  refine r_zlt (tgt := 22) ePl_hasColumn_1 rfl ⟨(by omega), (by omega)⟩ (fun c1 => ?_) (fun c1 => ?_)
  · refine r_con ePl_hasColumn_22 ?_
    refine r_zret ePl_hasColumn_23 rfl (by first | exact Or.inl rfl | exact Or.inr rfl | omega) ?_
    first | (rw [a_b_t (decide_eq_true (by omega))] at hq; exact hq) | (rw [a_b_f (by rw [decide_eq_true_eq]; omega)] at hq; exact hq)
  · refine r_iln ePl_hasColumn_4 rfl ?_
    refine r_aln ePl_hasColumn_5 rfl ?_
    refine r_gete (x := J A 0) ePl_hasColumn_6 rfl (by decide) hA.2.1 rfl ?_
    refine r_cge (tgt := 22) ePl_hasColumn_9 rfl ⟨(by omega), (by omega)⟩ ⟨(by omega), (by omega)⟩ (fun c9 => ?_) (fun c9 => ?_)
    · refine r_con ePl_hasColumn_22 ?_
      refine r_zret ePl_hasColumn_23 rfl (by first | exact Or.inl rfl | exact Or.inr rfl | omega) ?_
      first | (rw [a_b_t (decide_eq_true (by omega))] at hq; exact hq) | (rw [a_b_f (by rw [decide_eq_true_eq]; omega)] at hq; exact hq)
    · refine r_iln ePl_hasColumn_12 rfl ?_
      refine r_bip ePl_hasColumn_13 (by decide) ?_
      refine r_cge (tgt := 22) ePl_hasColumn_15 rfl ⟨(by omega), (by omega)⟩ ⟨(by omega), (by omega)⟩ (fun c15 => ?_) (fun c15 => ?_)
      · refine r_con ePl_hasColumn_22 ?_
        refine r_zret ePl_hasColumn_23 rfl (by first | exact Or.inl rfl | exact Or.inr rfl | omega) ?_
        first | (rw [a_b_t (decide_eq_true (by omega))] at hq; exact hq) | (rw [a_b_f (by rw [decide_eq_true_eq]; omega)] at hq; exact hq)
      · refine r_con ePl_hasColumn_18 ?_
        refine r_go (tgt := 23) ePl_hasColumn_19 rfl ?_
        refine r_zret ePl_hasColumn_23 rfl (by first | exact Or.inl rfl | exact Or.inr rfl | omega) ?_
        first | (rw [a_b_t (decide_eq_true (by omega))] at hq; exact hq) | (rw [a_b_f (by rw [decide_eq_true_eq]; omega)] at hq; exact hq)
theorem c_Pl_hasSpot (hA : pl_sh en A T P) (ok : pl_ok J A) {x : Int} (hx : m_in x) (hq : Q (some (.int (m_i (a_b (decide (0 ≤ x ∧ x < J (A + 12) 5)))))) (T, m_I J, P, L, z, w)) : m_call en (d + 1) mPl_hasSpot [.ref A, .int (m_i x)] (T, m_I J, P, L, z, w) Q := by
  have h0 := ok.2.2.2.2.1
  unfold m_in at hx
  refine m_into (by decide) (Nat.le_of_ble_eq_true rfl) rfl ?_
  show m_wp en _ mPl_hasSpot 0 [some (.ref A), some (.int (m_i (x)))] [] (T, m_I J, P, L, z, w) Q
  refine r_iln ePl_hasSpot_0 rfl ?_
  refine r_zlt (tgt := 24) ePl_hasSpot_1 rfl ⟨(by omega), (by omega)⟩ (fun c1 => ?_) (fun c1 => ?_)
  · refine r_con ePl_hasSpot_24 ?_
    refine r_zret ePl_hasSpot_25 rfl (by first | exact Or.inl rfl | exact Or.inr rfl | omega) ?_
    first | (rw [a_b_t (decide_eq_true (by omega))] at hq; exact hq) | (rw [a_b_f (by rw [decide_eq_true_eq]; omega)] at hq; exact hq)
  · refine r_iln ePl_hasSpot_4 rfl ?_
    refine r_aln ePl_hasSpot_5 rfl ?_
    refine m_getR ePl_hasSpot_6 rfl hA.2.1 (ob_p hA (i := 11) rfl) ?_
    refine r_con ePl_hasSpot_9 ?_
    refine r_ialde (x := J (A + 12) 5) ePl_hasSpot_10 (ob_t hA (i := 11) rfl) (by decide) (by omega) (by omega) rfl ?_
    refine r_cge (tgt := 24) ePl_hasSpot_11 rfl ⟨(by omega), (by omega)⟩ ⟨(by omega), (by omega)⟩ (fun c11 => ?_) (fun c11 => ?_)
    · refine r_con ePl_hasSpot_24 ?_
      refine r_zret ePl_hasSpot_25 rfl (by first | exact Or.inl rfl | exact Or.inr rfl | omega) ?_
      first | (rw [a_b_t (decide_eq_true (by omega))] at hq; exact hq) | (rw [a_b_f (by rw [decide_eq_true_eq]; omega)] at hq; exact hq)
    · refine r_iln ePl_hasSpot_14 rfl ?_
      refine r_bip ePl_hasSpot_15 (by decide) ?_
      refine r_cge (tgt := 24) ePl_hasSpot_17 rfl ⟨(by omega), (by omega)⟩ ⟨(by omega), (by omega)⟩ (fun c17 => ?_) (fun c17 => ?_)
      · refine r_con ePl_hasSpot_24 ?_
        refine r_zret ePl_hasSpot_25 rfl (by first | exact Or.inl rfl | exact Or.inr rfl | omega) ?_
        first | (rw [a_b_t (decide_eq_true (by omega))] at hq; exact hq) | (rw [a_b_f (by rw [decide_eq_true_eq]; omega)] at hq; exact hq)
      · refine r_con ePl_hasSpot_20 ?_
        refine r_go (tgt := 25) ePl_hasSpot_21 rfl ?_
        refine r_zret ePl_hasSpot_25 rfl (by first | exact Or.inl rfl | exact Or.inr rfl | omega) ?_
        first | (rw [a_b_t (decide_eq_true (by omega))] at hq; exact hq) | (rw [a_b_f (by rw [decide_eq_true_eq]; omega)] at hq; exact hq)
/-- how deep a column is free above its boxes -/
def pl_fr (J : Nat → Nat → Int) (A : Nat) (f : Nat → Int) (x : Int) : Int := if 0 ≤ x ∧ x < J A 0 then max 0 (min (J A 1) (J (A + 1) x.toNat) - f x.toNat) else 0
theorem c_Pl_freeOf (hA : pl_sh en A T P) (ok : pl_ok J A) (hR : T R = some (20, 16)) (hr : ∀ i : Nat, i < 16 → -1000 ≤ J R i ∧ J R i ≤ 1000) {x : Int} (hx0 : m_in x) (hq : Q (some (.int (m_i (pl_fr J A (J R) x)))) (T, m_I J, P, L, z, w)) : m_call en (d + 2) mPl_freeOf [.ref A, .ref R, .int (m_i x)] (T, m_I J, P, L, z, w) Q := by
  have h0 := ok.1
  have h1 := ok.2.1
  have hx := hx0
  unfold m_in at hx
  have hb : (a_b (decide (0 ≤ x ∧ x < J A 0)) = 1 ∧ (0 ≤ x ∧ x < J A 0)) ∨ (a_b (decide (0 ≤ x ∧ x < J A 0)) = 0 ∧ ¬ (0 ≤ x ∧ x < J A 0)) := by
    by_cases q : 0 ≤ x ∧ x < J A 0
    · exact Or.inl ⟨a_b_t (decide_eq_true q), q⟩
    · exact Or.inr ⟨a_b_f (by rw [decide_eq_true_eq]; exact q), q⟩
  refine m_into (by decide) (Nat.le_of_ble_eq_true rfl) rfl ?_
  show m_wp en _ mPl_freeOf 0 [some (.ref A), some (.ref R), some (.int (m_i (x)))] [] (T, m_I J, P, L, z, w) Q
  refine r_aln ePl_freeOf_0 rfl ?_
  refine r_iln ePl_freeOf_1 rfl ?_
  refine r_vir ePl_freeOf_2 rfl rfl rfl hA.2.1 rfl rfl ?_
  refine c_Pl_hasColumn hA ok hx0 ?_
  show m_wp en _ mPl_freeOf 5 [some (.ref A), some (.ref R), some (.int (m_i (x)))] [(.int (m_i ((a_b (decide (0 ≤ x ∧ x < J A 0))))))] (T, m_I J, P, L, z, w) Q
  refine r_zeq (tgt := 14) ePl_freeOf_5 rfl ⟨(by omega), (by omega)⟩ (fun c5 => ?_) (fun c5 => ?_)
  · refine r_con ePl_freeOf_14 ?_
    refine r_iret ePl_freeOf_15 rfl ?_
    unfold pl_fr at hq
    rw [if_neg (by omega)] at hq
    exact hq
  · refine r_iln ePl_freeOf_8 rfl ?_
    refine r_aln ePl_freeOf_9 rfl ?_
    refine r_alen ePl_freeOf_10 hR (by decide) ?_
    refine r_clt (tgt := 16) ePl_freeOf_11 rfl ⟨(by omega), (by omega)⟩ ⟨(by omega), (by omega)⟩ (fun c11 => ?_) (fun c11 => ?_)
    · have hbx := (ok.2.2.2.2.2.2.2.2.1 x.toNat (by omega)).1
      have hrx := hr x.toNat (by omega)
      refine r_con ePl_freeOf_16 ?_
      refine r_aln ePl_freeOf_17 rfl ?_
      refine r_gete (x := J A 1) ePl_freeOf_18 rfl (by decide) hA.2.1 rfl ?_
      refine r_aln ePl_freeOf_21 rfl ?_
      refine m_getR ePl_freeOf_22 rfl hA.2.1 (ob_p hA (i := 0) rfl) ?_
      refine r_iln ePl_freeOf_25 rfl ?_
      refine r_ialde (x := J (A + 1) ((x).toNat)) ePl_freeOf_26 (ob_t hA (i := 0) rfl) (by decide) (by omega) (by omega) rfl ?_
      refine r_min ePl_freeOf_27 rfl (Nat.le_of_ble_eq_true rfl) ⟨(by omega), (by omega)⟩ ⟨(by omega), (by omega)⟩ ?_
      refine r_aln ePl_freeOf_30 rfl ?_
      refine r_iln ePl_freeOf_31 rfl ?_
      refine r_ialde (x := J R ((x).toNat)) ePl_freeOf_32 hR (by decide) (by omega) (by omega) rfl ?_
      refine r_sub ePl_freeOf_33 ?_
      refine r_max ePl_freeOf_34 rfl (Nat.le_of_ble_eq_true rfl) ⟨(by omega), (by omega)⟩ ⟨(by omega), (by omega)⟩ ?_
      refine r_iret ePl_freeOf_37 rfl ?_
      unfold pl_fr at hq
      rw [if_pos (by omega)] at hq
      exact hq
    · refine r_con ePl_freeOf_14 ?_
      refine r_iret ePl_freeOf_15 rfl ?_
      unfold pl_fr at hq
      rw [if_neg (by omega)] at hq
      exact hq
theorem l_Pl_spotNamed (hA : pl_sh en A T P) (ok : pl_ok J A) {v : Int} (hv : m_in v) :
    ∀ (n k : Nat), (k : Int) + n = J (A + 12) 5 → Q (some (.int (m_i (a_find (J (A + 3)) v 0 n k)))) (T, m_I J, P, L, z, w) → m_wp en d mPl_spotNamed 2 [some (.ref A), some (.int (m_i v)), some (.int (m_i (k : Int)))] [] (T, m_I J, P, L, z, w) Q := by
  have h0 := ok.2.2.2.2.1
  unfold m_in at hv
  intro n
  induction n with
  | zero =>
    intro k hk hq
    refine r_iln ePl_spotNamed_2 rfl ?_
    refine r_aln ePl_spotNamed_3 rfl ?_
    refine m_getR ePl_spotNamed_4 rfl hA.2.1 (ob_p hA (i := 11) rfl) ?_
    refine r_con ePl_spotNamed_7 ?_
    refine r_ialde (x := J (A + 12) 5) ePl_spotNamed_8 (ob_t hA (i := 11) rfl) (by decide) (by omega) (by omega) rfl ?_
    refine r_cge (tgt := 36) ePl_spotNamed_9 rfl ⟨(by omega), (by omega)⟩ ⟨(by omega), (by omega)⟩ (fun c9 => ?_) (fun c9 => ?_)
    · refine r_con ePl_spotNamed_36 ?_
      refine r_iret ePl_spotNamed_37 rfl ?_
      exact hq
    · exfalso; omega
  | succ n ih =>
    intro k hk hq
    have hb2 := (ok.2.2.2.2.2.2.2.2.2.1 k (by omega)).1
    unfold m_in at hb2
    have e : ((k : Int)).toNat = k := Int.toNat_natCast k
    have hi := ih (k + 1) (by omega)
    unfold a_find at hq
    rw [Nat.zero_add] at hq
    refine r_iln ePl_spotNamed_2 rfl ?_
    refine r_aln ePl_spotNamed_3 rfl ?_
    refine m_getR ePl_spotNamed_4 rfl hA.2.1 (ob_p hA (i := 11) rfl) ?_
    refine r_con ePl_spotNamed_7 ?_
    refine r_ialde (x := J (A + 12) 5) ePl_spotNamed_8 (ob_t hA (i := 11) rfl) (by decide) (by omega) (by omega) rfl ?_
    refine r_cge (tgt := 36) ePl_spotNamed_9 rfl ⟨(by omega), (by omega)⟩ ⟨(by omega), (by omega)⟩ (fun c9 => ?_) (fun c9 => ?_)
    · exfalso; omega
    · refine r_iln ePl_spotNamed_12 rfl ?_
      refine r_bip ePl_spotNamed_13 (by decide) ?_
      refine r_cge (tgt := 36) ePl_spotNamed_15 rfl ⟨(by omega), (by omega)⟩ ⟨(by omega), (by omega)⟩ (fun c15 => ?_) (fun c15 => ?_)
      · exfalso; omega
      · refine r_aln ePl_spotNamed_18 rfl ?_
        refine m_getR ePl_spotNamed_19 rfl hA.2.1 (ob_p hA (i := 2) rfl) ?_
        refine r_iln ePl_spotNamed_22 rfl ?_
        refine r_ialde (x := J (A + 3) (((k : Int)).toNat)) ePl_spotNamed_23 (ob_t hA (i := 2) rfl) (by decide) (by omega) (by omega) rfl ?_
        rw [e]
        refine r_iln ePl_spotNamed_24 rfl ?_
        refine r_cne (tgt := 30) ePl_spotNamed_25 rfl ⟨(by omega), (by omega)⟩ ⟨(by omega), (by omega)⟩ (fun c25 => ?_) (fun c25 => ?_)
        · refine r_inc (ls' := [some (.ref A), some (.int (m_i (v))), some (.int (m_i ((k : Int) + 1)))]) ePl_spotNamed_30 rfl rfl ?_
          refine r_go (tgt := 2) ePl_spotNamed_33 rfl ?_
          rw [if_neg (by omega)] at hq
          exact hi hq
        · refine r_iln ePl_spotNamed_28 rfl ?_
          refine r_iret ePl_spotNamed_29 rfl ?_
          rw [if_pos (by omega)] at hq
          exact hq
theorem c_Pl_spotNamed (hA : pl_sh en A T P) (ok : pl_ok J A) {v : Int} (hv : m_in v) (hq : Q (some (.int (m_i (a_find (J (A + 3)) v 0 (J (A + 12) 5).toNat 0)))) (T, m_I J, P, L, z, w)) : m_call en (d + 1) mPl_spotNamed [.ref A, .int (m_i v)] (T, m_I J, P, L, z, w) Q := by
  have h0 := ok.2.2.2.2.1
  refine m_into (by decide) (Nat.le_of_ble_eq_true rfl) rfl ?_
  show m_wp en _ mPl_spotNamed 0 [some (.ref A), some (.int (m_i (v))), none] [] (T, m_I J, P, L, z, w) Q
  refine r_con ePl_spotNamed_0 ?_
  refine r_isn (ls' := [some (.ref A), some (.int (m_i (v))), some (.int (m_i (0)))]) ePl_spotNamed_1 (Nat.le_of_ble_eq_true rfl) rfl ?_
  exact l_Pl_spotNamed hA ok hv (J (A + 12) 5).toNat 0 (by omega) hq
theorem l_Pl_windAt (hA : pl_sh en A T P) (ok : pl_ok J A) {v : Int} (hv : m_in v) :
    ∀ (n k : Nat), (k : Int) + n = J (A + 12) 7 → Q (some (.int (m_i (a_w1 (J (A + 6)) (J (A + 7)) v n k)))) (T, m_I J, P, L, z, w) → m_wp en d mPl_windAt 2 [some (.ref A), some (.int (m_i v)), some (.int (m_i (k : Int)))] [] (T, m_I J, P, L, z, w) Q := by
  have h0 := ok.2.2.2.2.2.1
  unfold m_in at hv
  intro n
  induction n with
  | zero =>
    intro k hk hq
    refine r_iln ePl_windAt_2 rfl ?_
    refine r_aln ePl_windAt_3 rfl ?_
    refine m_getR ePl_windAt_4 rfl hA.2.1 (ob_p hA (i := 11) rfl) ?_
    refine r_bip ePl_windAt_7 (by decide) ?_
    refine r_ialde (x := J (A + 12) 7) ePl_windAt_9 (ob_t hA (i := 11) rfl) (by decide) (by omega) (by omega) rfl ?_
    refine r_cge (tgt := 42) ePl_windAt_10 rfl ⟨(by omega), (by omega)⟩ ⟨(by omega), (by omega)⟩ (fun c10 => ?_) (fun c10 => ?_)
    · refine r_con ePl_windAt_42 ?_
      refine r_iret ePl_windAt_43 rfl ?_
      exact hq
    · exfalso; omega
  | succ n ih =>
    intro k hk hq
    have hb2 := (ok.2.2.2.2.2.2.2.2.2.2.1 k (by omega)).1
    unfold m_in at hb2
    have e : ((k : Int)).toNat = k := Int.toNat_natCast k
    have hi := ih (k + 1) (by omega)
    unfold a_w1 at hq
    refine r_iln ePl_windAt_2 rfl ?_
    refine r_aln ePl_windAt_3 rfl ?_
    refine m_getR ePl_windAt_4 rfl hA.2.1 (ob_p hA (i := 11) rfl) ?_
    refine r_bip ePl_windAt_7 (by decide) ?_
    refine r_ialde (x := J (A + 12) 7) ePl_windAt_9 (ob_t hA (i := 11) rfl) (by decide) (by omega) (by omega) rfl ?_
    refine r_cge (tgt := 42) ePl_windAt_10 rfl ⟨(by omega), (by omega)⟩ ⟨(by omega), (by omega)⟩ (fun c10 => ?_) (fun c10 => ?_)
    · exfalso; omega
    · refine r_iln ePl_windAt_13 rfl ?_
      refine r_bip ePl_windAt_14 (by decide) ?_
      refine r_cge (tgt := 42) ePl_windAt_16 rfl ⟨(by omega), (by omega)⟩ ⟨(by omega), (by omega)⟩ (fun c16 => ?_) (fun c16 => ?_)
      · exfalso; omega
      · refine r_aln ePl_windAt_19 rfl ?_
        refine m_getR ePl_windAt_20 rfl hA.2.1 (ob_p hA (i := 5) rfl) ?_
        refine r_iln ePl_windAt_23 rfl ?_
        refine r_ialde (x := J (A + 6) (((k : Int)).toNat)) ePl_windAt_24 (ob_t hA (i := 5) rfl) (by decide) (by omega) (by omega) rfl ?_
        rw [e]
        refine r_iln ePl_windAt_25 rfl ?_
        refine r_cne (tgt := 36) ePl_windAt_26 rfl ⟨(by omega), (by omega)⟩ ⟨(by omega), (by omega)⟩ (fun c26 => ?_) (fun c26 => ?_)
        · refine r_inc (ls' := [some (.ref A), some (.int (m_i (v))), some (.int (m_i ((k : Int) + 1)))]) ePl_windAt_36 rfl rfl ?_
          refine r_go (tgt := 2) ePl_windAt_39 rfl ?_
          rw [if_neg (by omega)] at hq
          exact hi hq
        · refine r_aln ePl_windAt_29 rfl ?_
          refine m_getR ePl_windAt_30 rfl hA.2.1 (ob_p hA (i := 6) rfl) ?_
          refine r_iln ePl_windAt_33 rfl ?_
          refine r_ialde (x := J (A + 7) (((k : Int)).toNat)) ePl_windAt_34 (ob_t hA (i := 6) rfl) (by decide) (by omega) (by omega) rfl ?_
          refine r_iret ePl_windAt_35 rfl ?_
          rw [if_pos (by omega), ← e] at hq
          exact hq
theorem c_Pl_windAt (hA : pl_sh en A T P) (ok : pl_ok J A) {v : Int} (hv : m_in v) (hq : Q (some (.int (m_i (a_w1 (J (A + 6)) (J (A + 7)) v (J (A + 12) 7).toNat 0)))) (T, m_I J, P, L, z, w)) : m_call en (d + 1) mPl_windAt [.ref A, .int (m_i v)] (T, m_I J, P, L, z, w) Q := by
  have h0 := ok.2.2.2.2.2.1
  refine m_into (by decide) (Nat.le_of_ble_eq_true rfl) rfl ?_
  show m_wp en _ mPl_windAt 0 [some (.ref A), some (.int (m_i (v))), none] [] (T, m_I J, P, L, z, w) Q
  refine r_con ePl_windAt_0 ?_
  refine r_isn (ls' := [some (.ref A), some (.int (m_i (v))), some (.int (m_i (0)))]) ePl_windAt_1 (Nat.le_of_ble_eq_true rfl) rfl ?_
  exact l_Pl_windAt hA ok hv (J (A + 12) 7).toNat 0 (by omega) hq
theorem l_Pl_orderAt (hA : pl_sh en A T P) (ok : pl_ok J A) {v : Int} (hv : m_in v) :
    ∀ (n k : Nat) (s : Int), (k : Int) + n = J (A + 12) 8 → (0 ≤ s ∧ s ≤ 30 * k) → Q (some (.int (m_i (a_oa (J (A + 8)) (J (A + 9)) v n k s)))) (T, m_I J, P, L, z, w) → m_wp en d mPl_orderAt 4 [some (.ref A), some (.int (m_i v)), some (.int (m_i s)), some (.int (m_i (k : Int)))] [] (T, m_I J, P, L, z, w) Q := by
  have h0 := ok.2.2.2.2.2.2.1
  unfold m_in at hv
  intro n
  induction n with
  | zero =>
    intro k s hk hs hq
    refine r_iln ePl_orderAt_4 rfl ?_
    refine r_aln ePl_orderAt_5 rfl ?_
    refine m_getR ePl_orderAt_6 rfl hA.2.1 (ob_p hA (i := 11) rfl) ?_
    refine r_bip ePl_orderAt_9 (by decide) ?_
    refine r_ialde (x := J (A + 12) 8) ePl_orderAt_11 (ob_t hA (i := 11) rfl) (by decide) (by omega) (by omega) rfl ?_
    refine r_cge (tgt := 48) ePl_orderAt_12 rfl ⟨(by omega), (by omega)⟩ ⟨(by omega), (by omega)⟩ (fun c12 => ?_) (fun c12 => ?_)
    · refine r_con ePl_orderAt_48 ?_
      refine r_iret ePl_orderAt_49 rfl ?_
      exact hq
    · exfalso; omega
  | succ n ih =>
    intro k s hk hs hq
    have hb2 := (ok.2.2.2.2.2.2.2.2.2.2.2.1 k (by omega)).2
    have e : ((k : Int)).toNat = k := Int.toNat_natCast k
    have hi := ih (k + 1) (s + J (A + 9) k) (by omega) (by omega)
    unfold a_oa at hq
    refine r_iln ePl_orderAt_4 rfl ?_
    refine r_aln ePl_orderAt_5 rfl ?_
    refine m_getR ePl_orderAt_6 rfl hA.2.1 (ob_p hA (i := 11) rfl) ?_
    refine r_bip ePl_orderAt_9 (by decide) ?_
    refine r_ialde (x := J (A + 12) 8) ePl_orderAt_11 (ob_t hA (i := 11) rfl) (by decide) (by omega) (by omega) rfl ?_
    refine r_cge (tgt := 48) ePl_orderAt_12 rfl ⟨(by omega), (by omega)⟩ ⟨(by omega), (by omega)⟩ (fun c12 => ?_) (fun c12 => ?_)
    · exfalso; omega
    · refine r_iln ePl_orderAt_15 rfl ?_
      refine r_bip ePl_orderAt_16 (by decide) ?_
      refine r_cge (tgt := 48) ePl_orderAt_18 rfl ⟨(by omega), (by omega)⟩ ⟨(by omega), (by omega)⟩ (fun c18 => ?_) (fun c18 => ?_)
      · exfalso; omega
      · refine r_iln ePl_orderAt_21 rfl ?_
        refine r_aln ePl_orderAt_22 rfl ?_
        refine m_getR ePl_orderAt_23 rfl hA.2.1 (ob_p hA (i := 8) rfl) ?_
        refine r_iln ePl_orderAt_26 rfl ?_
        refine r_ialde (x := J (A + 9) (((k : Int)).toNat)) ePl_orderAt_27 (ob_t hA (i := 8) rfl) (by decide) (by omega) (by omega) rfl ?_
        rw [e]
        refine r_add ePl_orderAt_28 ?_
        refine r_isn (ls' := [some (.ref A), some (.int (m_i (v))), some (.int (m_i ((s) + (J (A + 9) k)))), some (.int (m_i ((k : Int))))]) ePl_orderAt_29 (Nat.le_of_ble_eq_true rfl) rfl ?_
        refine r_iln ePl_orderAt_30 rfl ?_
        refine r_iln ePl_orderAt_31 rfl ?_
        refine r_cge (tgt := 42) ePl_orderAt_32 rfl ⟨(by omega), (by omega)⟩ ⟨(by omega), (by omega)⟩ (fun c32 => ?_) (fun c32 => ?_)
        · refine r_inc (ls' := [some (.ref A), some (.int (m_i (v))), some (.int (m_i ((s) + (J (A + 9) k)))), some (.int (m_i ((k : Int) + 1)))]) ePl_orderAt_42 rfl rfl ?_
          refine r_go (tgt := 4) ePl_orderAt_45 rfl ?_
          rw [if_neg (by omega)] at hq
          exact hi hq
        · refine r_aln ePl_orderAt_35 rfl ?_
          refine m_getR ePl_orderAt_36 rfl hA.2.1 (ob_p hA (i := 7) rfl) ?_
          refine r_iln ePl_orderAt_39 rfl ?_
          refine r_ialde (x := J (A + 8) (((k : Int)).toNat)) ePl_orderAt_40 (ob_t hA (i := 7) rfl) (by decide) (by omega) (by omega) rfl ?_
          refine r_iret ePl_orderAt_41 rfl ?_
          rw [if_pos (by omega), ← e] at hq
          exact hq
theorem c_Pl_orderAt (hA : pl_sh en A T P) (ok : pl_ok J A) {v : Int} (hv : m_in v) (hq : Q (some (.int (m_i (a_oa (J (A + 8)) (J (A + 9)) v (J (A + 12) 8).toNat 0 0)))) (T, m_I J, P, L, z, w)) : m_call en (d + 1) mPl_orderAt [.ref A, .int (m_i v)] (T, m_I J, P, L, z, w) Q := by
  have h0 := ok.2.2.2.2.2.2.1
  refine m_into (by decide) (Nat.le_of_ble_eq_true rfl) rfl ?_
  show m_wp en _ mPl_orderAt 0 [some (.ref A), some (.int (m_i (v))), none, none] [] (T, m_I J, P, L, z, w) Q
  refine r_con ePl_orderAt_0 ?_
  refine r_isn (ls' := [some (.ref A), some (.int (m_i (v))), some (.int (m_i (0))), none]) ePl_orderAt_1 (Nat.le_of_ble_eq_true rfl) rfl ?_
  refine r_con ePl_orderAt_2 ?_
  refine r_isn (ls' := [some (.ref A), some (.int (m_i (v))), some (.int (m_i (0))), some (.int (m_i (0)))]) ePl_orderAt_3 (Nat.le_of_ble_eq_true rfl) rfl ?_
  exact l_Pl_orderAt hA ok hv (J (A + 12) 8).toNat 0 0 (by omega) (by omega) hq
end PLN
