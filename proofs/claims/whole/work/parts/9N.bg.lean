/-! a search of the class begins: its rows are made anew where they are too short -/
section SEE
variable {en : Nat → Nat} {d : Nat} {T T' : Nat → Option (Nat × Nat)} {J J0 J1 K H : Nat → Nat → Int} {P P' : Nat → Nat → Option Nat} {L L' : Nat → Nat → Int64} {z w A B R U S n X A0 : Nat} {Q : m_Q} {σ τ γ : a_S} {C : a_C} {h : Int} {bw most by_ : Int}
theorem sp_sh_e (h : sp_sh en A T P) (h0 : T' A = T A) (h1 : T' (A + 1) = T (A + 1)) (h2 : T' (A + 2) = T (A + 2)) (hP : ∀ i, P' A i = P A i) : sp_sh en A T' P' := by
  refine ⟨h.1, h0.trans h.2.1, fun q hq => ?_⟩
  have e := h.2.2 q hq
  simp only [sp_tab, List.mem_cons, List.not_mem_nil, or_false] at hq
  rcases hq with rfl | rfl
  · exact ⟨(hP _).trans e.1, h1.trans e.2⟩
  · exact ⟨(hP _).trans e.1, h2.trans e.2⟩
theorem po_sh_e (h : po_sh en A T P) (h0 : T' A = T A) : po_sh en A T' P' := ⟨h.1, h0.trans h.2.1, fun q hq => absurd hq List.not_mem_nil⟩
theorem l92_Se_begin (t0 : T S = some (8, 0)) (p0 : P S 0 = some R) (tR : T R = some (20, n)) (bR : en 0 ≤ R) {sz : Int} (hsz : 0 ≤ sz ∧ sz ≤ n) (hn : n ≤ 38880) {o1 o2 o3 o4 : Option Value} (hq : Q none (T, m_I (m_fl H R 0 (fun _ => 0) sz), P, L, z, w)) :
    ∀ (r k : Nat), (k : Int) + r = sz → m_wp en d mSe_begin 92 [some (.ref S), o1, o2, o3, o4, some (.int (m_i sz)), some (.int (m_i (k : Int)))] [] (T, m_I (m_fl H R 0 (fun _ => 0) (k : Int)), P, L, z, w) Q := by
  intro r
  induction r with
  | zero =>
    intro k hk
    obtain rfl : (k : Int) = sz := by omega
    refine r_il eSe_begin_92 rfl ?_
    refine r_il eSe_begin_94 rfl ?_
    refine r_cge (tgt := 123) eSe_begin_96 rfl ⟨(by omega), (by omega)⟩ ⟨(by omega), (by omega)⟩ (fun c96 => ?_) (fun c96 => ?_)
    · refine r_ret eSe_begin_123 rfl ?_
      exact hq
    · exfalso; omega
  | succ r ih =>
    intro k hk
    have hi := ih (k + 1) (by omega)
    rw [show ((k + 1 : Nat) : Int) = (k : Int) + 1 by omega, ← m_fl_s (n := (k : Int).toNat) (v := 0) (by omega) (by omega) rfl] at hi
    refine r_il eSe_begin_92 rfl ?_
    refine r_il eSe_begin_94 rfl ?_
    refine r_cge (tgt := 123) eSe_begin_96 rfl ⟨(by omega), (by omega)⟩ ⟨(by omega), (by omega)⟩ (fun c96 => ?_) (fun c96 => ?_)
    · exfalso; omega
    · refine r_il eSe_begin_99 rfl ?_
      refine r_aln eSe_begin_101 rfl ?_
      refine m_getR eSe_begin_102 rfl t0 p0 ?_
      refine r_alen eSe_begin_105 tR (by decide) ?_
      refine r_cge (tgt := 123) eSe_begin_106 rfl ⟨(by omega), (by omega)⟩ ⟨(by omega), (by omega)⟩ (fun c106 => ?_) (fun c106 => ?_)
      · exfalso; omega
      · refine r_aln eSe_begin_109 rfl ?_
        refine m_getR eSe_begin_110 rfl t0 p0 ?_
        refine r_il eSe_begin_113 rfl ?_
        refine r_con eSe_begin_115 ?_
        refine r_iast eSe_begin_116 tR (by omega) (by omega) (by omega) bR ?_
        refine r_inc (ls' := [some (.ref S), o1, o2, o3, o4, some (.int (m_i (sz))), some (.int (m_i ((k : Int) + 1)))]) eSe_begin_117 rfl rfl ?_
        refine r_go (tgt := 92) eSe_begin_120 rfl ?_
        exact hi
theorem l89_Se_begin (t0 : T S = some (8, 0)) (p0 : P S 0 = some R) (tR : T R = some (20, n)) (bR : en 0 ≤ R) {sz : Int} (hsz : 0 ≤ sz ∧ sz ≤ n) (hn : n ≤ 38880) {o1 o2 o3 o4 o6 : Option Value} (hq : Q none (T, m_I (m_fl H R 0 (fun _ => 0) sz), P, L, z, w)) :
    m_wp en d mSe_begin 89 [some (.ref S), o1, o2, o3, o4, some (.int (m_i sz)), o6] [] (T, m_I H, P, L, z, w) Q := by
  have h := l92_Se_begin (d := d) (o1 := o1) (o2 := o2) (o3 := o3) (o4 := o4) t0 p0 tR bR hsz hn hq sz.toNat 0 (by omega)
  rw [show ((0 : Nat) : Int) = 0 from rfl, m_fl_0] at h
  refine r_con eSe_begin_89 ?_
  refine r_is (ls' := [some (.ref S), o1, o2, o3, o4, some (.int (m_i sz)), some (.int (m_i 0))]) eSe_begin_90 (Nat.le_of_ble_eq_true rfl) rfl ?_
  exact h
theorem m_nT_o {T : Nat → Option (Nat × Nat)} {a b : Nat} {v : Nat × Nat} (h : b ≠ a) : m_nT T a v b = T b := if_neg h
theorem m_nT_s {T : Nat → Option (Nat × Nat)} {a : Nat} {v : Nat × Nat} : m_nT T a v a = some v := if_pos rfl
theorem m_nw_o {α : Type} {f : Nat → Nat → α} {a b i : Nat} {v : α} (h : b ≠ a) : m_nw f a v b i = f b i := if_neg h
theorem m_nw_s {α : Type} {f : Nat → Nat → α} {a i : Nat} {v : α} : m_nw f a v a i = v := if_pos rfl
theorem m_uq_o {f : Nat → Nat → Option Nat} {a j b i : Nat} {v : Option Nat} (h : ¬ (b = a ∧ i = j)) : m_up f a j v b i = f b i := if_neg h
/-- P behind new rows -/
def se_nP (P : Nat → Nat → Option Nat) (S z : Nat) : Nat → Nat → Option Nat := m_up (m_nw (m_up (m_nw P z none) S 0 (some z)) (z + 1) none) S 1 (some (z + 1))
theorem se_nP_o {b i : Nat} (h : b < z) (h2 : ¬ (b = S ∧ (i = 0 ∨ i = 1))) : se_nP P S z b i = P b i := by
  unfold se_nP
  rw [m_uq_o (fun q => h2 ⟨q.1, Or.inr q.2⟩), m_nw_o (by omega), m_uq_o (fun q => h2 ⟨q.1, Or.inl q.2⟩), m_nw_o (by omega)]
theorem l73_Se_begin (t0 : T S = some (8, 0)) (b0 : en 0 ≤ S) (hSz : S < z) {n' : Nat} {sz : Int} (hsz : 0 ≤ sz ∧ sz ≤ n') (hn : n' ≤ 38880) {o1 o2 o3 o4 : Option Value} (hq : Q none (m_nT (m_nT T z (20, n')) (z + 1) (20, n'), m_I (m_fl (m_nw (m_nw H z 0) (z + 1) 0) z 0 (fun _ => 0) sz), se_nP P S z, m_nw (m_nw L z 0) (z + 1) 0, z + 1 + 1, w + n' + n')) :
    m_wp en d mSe_begin 73 [some (.ref S), o1, o2, o3, o4, some (.int (m_i sz)), some (.int (m_i (n' : Int)))] [] (T, m_I H, P, L, z, w) Q := by
  refine r_aln eSe_begin_73 rfl ?_
  refine r_il eSe_begin_74 rfl ?_
  refine r_nwa (k := 20) eSe_begin_76 rfl (by omega) ?_
  refine m_putR eSe_begin_78 rfl (by rw [m_nT_o (by omega)]; exact t0) b0 (Or.inl rfl) ?_
  refine r_aln eSe_begin_81 rfl ?_
  refine r_il eSe_begin_82 rfl ?_
  refine r_nwa (k := 20) eSe_begin_84 rfl (by omega) ?_
  refine m_putR eSe_begin_86 rfl (by rw [m_nT_o (by omega), m_nT_o (by omega)]; exact t0) b0 (Or.inl rfl) ?_
  refine l89_Se_begin (n := n') (R := z) (by rw [m_nT_o (by omega), m_nT_o (by omega)]; exact t0) ?_ (by rw [m_nT_o (by omega), m_nT_s]) (by omega) hsz hn hq
  rw [m_uq_o (by omega), m_nw_o (by omega)]
  exact m_up_same
/-- behind begin -/
def se_bn (en : Nat → Nat) (S A : Nat) (C : a_C) (bw by_ most : Int) (R U n : Nat) (T : Nat → Option (Nat × Nat)) (J : Nat → Nat → Int) (P : Nat → Nat → Option Nat) (L : Nat → Nat → Int64) (z w R' U' n' : Nat) (T' : Nat → Option (Nat × Nat)) (J' : Nat → Nat → Int) (P' : Nat → Nat → Option Nat) (L' : Nat → Nat → Int64) (z' w' : Nat) : Prop :=
  se_at en S R' U' n' A T' P' ∧ a_sz C ≤ n' ∧
  ((R' = R ∧ U' = U ∧ n' = n ∧ T' = T ∧ L' = L ∧ z' = z ∧ w' = w) ∨ (R' = z ∧ U' = z + 1 ∧ n < n' ∧ (2 * n ≤ n' ∨ n' = 38880) ∧ z' = z + 2 ∧ w' = w + 2 * n')) ∧
  (∀ b, b < z → T' b = T b) ∧ (∀ b i, b < z → ¬ (b = S ∧ (i = 0 ∨ i = 1 ∨ i = 4)) → P' b i = P b i) ∧ (∀ b i, b < z → L' b i = L b i) ∧
  (∀ b i, b < z → b ≠ R' → ¬ (b = S ∧ (i = 2 ∨ i = 3 ∨ i = 5 ∨ i = 6 ∨ i = 7)) → J' b i = J b i) ∧
  (∀ i : Nat, (i : Int) < a_sz C → J' R' i = 0) ∧ J' S 2 = 0 ∧ J' S 3 = 0 ∧ J' S 5 = bw ∧ J' S 6 = by_ ∧ J' S 7 = most
def se_b5 (J : Nat → Nat → Int) (S : Nat) (bw by_ most : Int) : Nat → Nat → Int := m_up (m_up (m_up (m_up (m_up J S 5 bw) S 6 by_) S 7 most) S 2 0) S 3 0
theorem se_b5_o {b i : Nat} (h : ¬ (b = S ∧ (i = 2 ∨ i = 3 ∨ i = 5 ∨ i = 6 ∨ i = 7))) : se_b5 J S bw by_ most b i = J b i := by
  unfold se_b5
  rw [m_up_at, if_neg (fun q => h ⟨q.1, by omega⟩), m_up_at, if_neg (fun q => h ⟨q.1, by omega⟩), m_up_at, if_neg (fun q => h ⟨q.1, by omega⟩), m_up_at, if_neg (fun q => h ⟨q.1, by omega⟩), m_up_at, if_neg (fun q => h ⟨q.1, by omega⟩)]
theorem se_b5_v : se_b5 J S bw by_ most S 2 = 0 ∧ se_b5 J S bw by_ most S 3 = 0 ∧ se_b5 J S bw by_ most S 5 = bw ∧ se_b5 J S bw by_ most S 6 = by_ ∧ se_b5 J S bw by_ most S 7 = most := by
  unfold se_b5
  refine ⟨?_, ?_, ?_, ?_, ?_⟩ <;> simp [m_up]
theorem c_Se_begin (hS : se_at en S R U n A0 T P) (hA : sp_sh en A T P) (hAS : A + 3 ≤ S) (ok : a_ok C) (hC : sp_is J A C) (hz : S + 5 ≤ z ∧ R < z ∧ U < z) (hbw : bw = 0 ∨ bw = 1)
    (hq : ∀ R' U' n' T' J' P' L' z' w', se_bn en S A C bw by_ most R U n T J P L z w R' U' n' T' J' P' L' z' w' → Q none (T', m_I J', P', L', z', w')) :
    m_call en (d + 1) mSe_begin [.ref S, .ref A, .int (m_i bw), .int (m_i by_), .int (m_i most)] (T, m_I J, P, L, z, w) Q := by
  obtain ⟨⟨b0, t0⟩, ⟨p0, tR, bR⟩, ⟨p1, tU, bU⟩, -, ⟨p8, hfm⟩, ⟨p9, hnr⟩, hn, hAS0, hRS, hUS, hRU⟩ := hS
  have hszb := a_sz_b ok
  have e4 : J A 4 = a_sz C := hC.2.2.2.1
  obtain ⟨P1, eP1⟩ : ∃ P1, P1 = m_up P S 4 (some A) := ⟨_, rfl⟩
  have o1 : ∀ b i, ¬ (b = S ∧ i = 4) → P1 b i = P b i := fun b i q => by rw [eP1]; exact m_uq_o q
  have q4 : P1 S 4 = some A := by rw [eP1]; exact m_up_same
  have hA1 : sp_sh en A T P1 := sp_sh_e hA rfl rfl rfl (fun i => o1 A i (by omega))
  obtain ⟨b5o, b5v⟩ : (∀ b i, ¬ (b = S ∧ (i = 2 ∨ i = 3 ∨ i = 5 ∨ i = 6 ∨ i = 7)) → se_b5 J S bw by_ most b i = J b i) ∧ se_b5 J S bw by_ most S 2 = 0 ∧ se_b5 J S bw by_ most S 3 = 0 ∧ se_b5 J S bw by_ most S 5 = bw ∧ se_b5 J S bw by_ most S 6 = by_ ∧ se_b5 J S bw by_ most S 7 = most := ⟨fun b i q => se_b5_o q, se_b5_v⟩
  -- the rows are long enough
  have h89 : a_sz C ≤ n → ∀ o1' o2 o3 o4 o6, m_wp en d mSe_begin 89 [some (.ref S), o1', o2, o3, o4, some (.int (m_i (a_sz C))), o6] [] (T, m_I (se_b5 J S bw by_ most), P1, L, z, w) Q := fun q o1' o2 o3 o4 o6 => by
    refine l89_Se_begin t0 ((o1 S 0 (by omega)).trans p0) tR bR ⟨by omega, q⟩ hn ?_
    refine hq R U n T _ P1 L z w ⟨⟨⟨b0, t0⟩, ⟨(o1 S 0 (by omega)).trans p0, tR, bR⟩, ⟨(o1 S 1 (by omega)).trans p1, tU, bU⟩, ⟨q4, hA1⟩, ⟨(o1 S 8 (by omega)).trans p8, po_sh_e hfm rfl⟩, ⟨(o1 S 9 (by omega)).trans p9, po_sh_e hnr rfl⟩, hn, hAS, hRS, hUS, hRU⟩, q, Or.inl ⟨rfl, rfl, rfl, rfl, rfl, rfl, rfl⟩, fun b _ => rfl, fun b i _ g => o1 b i (fun e => g ⟨e.1, by omega⟩), fun b i _ => rfl, fun b i _ g1 g2 => ?_, fun i hi => ?_, ?_, ?_, ?_, ?_, ?_⟩
    · rw [m_fl_o g1]; exact b5o b i g2
    · rw [m_fl_i (by omega)]
    · rw [m_fl_o (by omega)]; exact b5v.1
    · rw [m_fl_o (by omega)]; exact b5v.2.1
    · rw [m_fl_o (by omega)]; exact b5v.2.2.1
    · rw [m_fl_o (by omega)]; exact b5v.2.2.2.1
    · rw [m_fl_o (by omega)]; exact b5v.2.2.2.2
  -- they are made anew
  have h73 : ∀ n' : Nat, (n' : Int) = max (a_sz C) (min 38880 (2 * (n : Int))) → n < a_sz C → ∀ o1' o2 o3 o4, m_wp en d mSe_begin 73 [some (.ref S), o1', o2, o3, o4, some (.int (m_i (a_sz C))), some (.int (m_i (n' : Int)))] [] (T, m_I (se_b5 J S bw by_ most), P1, L, z, w) Q := fun n' en' q o1' o2 o3 o4 => by
    have hn1 : a_sz C ≤ n' ∧ n < n' ∧ n' ≤ 38880 ∧ (2 * n ≤ n' ∨ n' = 38880) := by omega
    refine l73_Se_begin t0 b0 (by omega) ⟨by omega, hn1.1⟩ (by omega) ?_
    have tz : ∀ b, b < z → m_nT (m_nT T z (20, n')) (z + 1) (20, n') b = T b := fun b hb => by rw [m_nT_o (by omega), m_nT_o (by omega)]
    have pz : ∀ b i, b < z → ¬ (b = S ∧ (i = 0 ∨ i = 1)) → se_nP P1 S z b i = P1 b i := fun b i hb g => se_nP_o hb g
    have pz0 : se_nP P1 S z S 0 = some z := by
      unfold se_nP
      rw [m_uq_o (by omega), m_nw_o (by omega)]
      exact m_up_same
    have jz : ∀ b i, b < z → m_fl (m_nw (m_nw (se_b5 J S bw by_ most) z 0) (z + 1) 0) z 0 (fun _ => 0) (a_sz C) b i = se_b5 J S bw by_ most b i := fun b i hb => by rw [m_fl_o (by omega), m_nw_o (by omega), m_nw_o (by omega)]
    refine hq z (z + 1) n' _ _ _ _ _ _ ⟨⟨⟨b0, (tz S (by omega)).trans t0⟩, ⟨pz0, by rw [m_nT_o (by omega), m_nT_s], by omega⟩, ⟨m_up_same, m_nT_s, by omega⟩, ⟨(pz S 4 (by omega) (by omega)).trans q4, sp_sh_e hA1 (tz A (by omega)) (tz _ (by omega)) (tz _ (by omega)) (fun i => pz A i (by omega) (by omega))⟩, ⟨(pz S 8 (by omega) (by omega)).trans ((o1 S 8 (by omega)).trans p8), po_sh_e hfm (tz _ (by omega))⟩, ⟨(pz S 9 (by omega) (by omega)).trans ((o1 S 9 (by omega)).trans p9), po_sh_e hnr (tz _ (by omega))⟩, by omega, hAS, by omega, by omega, by omega⟩, hn1.1, Or.inr ⟨rfl, rfl, hn1.2.1, hn1.2.2.2, rfl, by omega⟩, tz, fun b i hb g => (pz b i hb (fun e => g ⟨e.1, by omega⟩)).trans (o1 b i (fun e => g ⟨e.1, by omega⟩)), fun b i hb => by rw [m_nw_o (by omega), m_nw_o (by omega)], fun b i hb g1 g2 => (jz b i hb).trans (b5o b i g2), fun i hi => by rw [m_fl_i (by omega)], (jz S 2 (by omega)).trans b5v.1, (jz S 3 (by omega)).trans b5v.2.1, (jz S 5 (by omega)).trans b5v.2.2.1, (jz S 6 (by omega)).trans b5v.2.2.2.1, (jz S 7 (by omega)).trans b5v.2.2.2.2⟩
  have h73' : ∀ x : Int, x = max (a_sz C) (min 38880 (2 * (n : Int))) → n < a_sz C → ∀ o1' o2 o3 o4, m_wp en d mSe_begin 73 [some (.ref S), o1', o2, o3, o4, some (.int (m_i (a_sz C))), some (.int (m_i x))] [] (T, m_I (se_b5 J S bw by_ most), P1, L, z, w) Q := fun x ex q o1' o2 o3 o4 => by
    have := h73 x.toNat (by omega) q o1' o2 o3 o4
    rw [show ((x.toNat : Nat) : Int) = x by omega] at this
    exact this
  refine m_into (by decide) (Nat.le_of_ble_eq_true rfl) rfl ?_
  refine r_aln eSe_begin_0 rfl ?_
  refine r_aln eSe_begin_1 rfl ?_
  refine m_putR eSe_begin_2 rfl t0 b0 (Or.inl rfl) ?_
  rw [← eP1]
  have p0' := (o1 S 0 (by omega)).trans p0
  refine r_aln eSe_begin_5 rfl ?_
  refine r_iln eSe_begin_6 rfl ?_
  refine r_puz eSe_begin_7 rfl t0 b0 (Or.inl rfl) (by first | exact Or.inl rfl | exact Or.inr rfl | omega) ?_
  refine r_aln eSe_begin_10 rfl ?_
  refine r_iln eSe_begin_11 rfl ?_
  refine r_put eSe_begin_12 rfl t0 b0 (Or.inl rfl) ?_
  refine r_aln eSe_begin_15 rfl ?_
  refine r_il eSe_begin_16 rfl ?_
  refine r_put eSe_begin_18 rfl t0 b0 (Or.inl rfl) ?_
  refine r_aln eSe_begin_21 rfl ?_
  refine r_con eSe_begin_22 ?_
  refine r_put eSe_begin_23 rfl t0 b0 (Or.inl rfl) ?_
  refine r_aln eSe_begin_26 rfl ?_
  refine r_con eSe_begin_27 ?_
  refine r_put eSe_begin_28 rfl t0 b0 (Or.inl rfl) ?_
  refine r_aln eSe_begin_31 rfl ?_
  refine r_gete (x := J A 4) eSe_begin_32 rfl (by decide) hA.2.1 (by rw [m_up_at, if_neg (by omega), m_up_at, if_neg (by omega), m_up_at, if_neg (by omega), m_up_at, if_neg (by omega), m_up_at, if_neg (by omega)]) ?_
  rw [e4]
  refine r_is (ls' := [some (.ref S), some (.ref A), some (.int (m_i (bw))), some (.int (m_i (by_))), some (.int (m_i (most))), some (.int (m_i (a_sz C))), none]) eSe_begin_35 (Nat.le_of_ble_eq_true rfl) rfl ?_
  refine r_il eSe_begin_37 rfl ?_
  refine r_aln eSe_begin_39 rfl ?_
  refine m_getR eSe_begin_40 rfl t0 p0' ?_
  refine r_alen eSe_begin_43 tR (by decide) ?_
  refine r_cle (tgt := 89) eSe_begin_44 rfl ⟨(by omega), (by omega)⟩ ⟨(by omega), (by omega)⟩ (fun c44 => ?_) (fun c44 => ?_)
  · exact h89 (by omega) _ _ _ _ _
  · refine r_il eSe_begin_47 rfl ?_
    refine r_ldc (x := 38880) eSe_begin_49 rfl (by decide) ?_
    refine r_cgt (tgt := 89) eSe_begin_51 rfl ⟨(by omega), (by omega)⟩ ⟨(by omega), (by omega)⟩ (fun c51 => ?_) (fun c51 => ?_)
    · exact h89 (by omega) _ _ _ _ _
    · refine r_il eSe_begin_54 rfl ?_
      refine r_ldc (x := 38880) eSe_begin_56 rfl (by decide) ?_
      refine r_con eSe_begin_58 ?_
      refine r_aln eSe_begin_59 rfl ?_
      refine m_getR eSe_begin_60 rfl t0 p0' ?_
      refine r_alen eSe_begin_63 tR (by decide) ?_
      refine r_mul eSe_begin_64 ?_
      refine r_min eSe_begin_65 rfl (Nat.le_of_ble_eq_true rfl) ⟨(by omega), (by omega)⟩ ⟨(by omega), (by omega)⟩ ?_
      refine r_max eSe_begin_68 rfl (Nat.le_of_ble_eq_true rfl) ⟨(by omega), (by omega)⟩ ⟨(by omega), (by omega)⟩ ?_
      refine r_is (ls' := [some (.ref S), some (.ref A), some (.int (m_i (bw))), some (.int (m_i (by_))), some (.int (m_i (most))), some (.int (m_i (a_sz C))), some (.int (m_i (max (a_sz C) (min (38880) ((2) * (n))))))]) eSe_begin_71 (Nat.le_of_ble_eq_true rfl) rfl ?_
      exact h73' _ rfl (by omega) _ _ _ _
end SEE
