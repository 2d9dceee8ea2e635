/-! THE TIE: now -/
/-- behind the law's now the reference is asked, then what it threw -/
def to_N (en : Nat → Nat) (X M N O z0 w0 : Nat) (T0 : Nat → Option (Nat × Nat)) (J0 : Nat → Nat → Int) (k : Nat) (x : Int) : m_Q := fun v s =>
  ∃ kk y T' J' P' L' z' w', (kk = 0 ∨ kk = 1 ∨ kk = 2) ∧ m_in y ∧ v = some (.int (m_i kk)) ∧ s = (T', m_I J', P', L', z', w') ∧ (kk = 0 → L' O 0 = (m_i y).toInt64) ∧ (∀ b, b < X → T' b = T0 b ∧ J' b = J0 b) ∧ (md_sh en M T' P' ∧ T' O = some (24, 1)) ∧
    m_call en 40 mMd_now [.ref M, .int (m_i x)] s (fun v2 s2 => ∃ r J2, v2 = some (.int (m_i r)) ∧ s2 = (T', m_I J2, P', L', z', w') ∧ (kk = 0 → r = y) ∧ J2 M 0 = kk ∧ to_I en X M N O z0 w0 T0 J0 (k + 1) T' J2 P' L' z' w')
section TNW
variable {en : Nat → Nat} {X M N O z0 w0 : Nat} {T0 : Nat → Option (Nat × Nat)} {J0 : Nat → Nat → Int} {k : Nat} {T T' : Nat → Option (Nat × Nat)} {J J' J1 K : Nat → Nat → Int} {P P' : Nat → Nat → Option Nat} {L L' : Nat → Nat → Int64} {z w z' w' zb wb : Nat} {C : a_C}
theorem cl_W_zw (h : cl_W en X N zb wb C T J P z w) : cl_W en X N (zb + 1) (wb + 6) C T J P (z + 1) (w + 6) := by
  obtain ⟨⟨h1, h2, h3, c, u, h4, h5, h6⟩, hr⟩ := h
  refine ⟨⟨h1, ⟨h2.1, by omega⟩, h3, c, u, fun o ho => ?_, by omega, by omega⟩, hr⟩
  obtain ⟨a1, a2, a3, a4, a5, a6, a7, a8, a9, a10⟩ := h4 o ho
  exact ⟨a1, a2, a3, a4, a5, a6, ⟨by omega, by omega⟩, a8, a9, a10⟩
theorem to_zw (h : to_I en X M N O z0 w0 T0 J0 k T J P L z w) : to_I en X M N O z0 w0 T0 J0 (k + 1) T J P L (z + 1) (w + 6) := by
  have h2 := h.kk (Nat.le_succ k)
  obtain ⟨⟨⟨zb, wb, hW, hz, hw⟩, -, -⟩, -⟩ := h
  exact ⟨⟨⟨zb + 1, wb + 6, cl_W_zw hW, by omega, by omega⟩, h2.1.2.1, h2.1.2.2⟩, h2.2⟩
theorem to_LL (h : to_I en X M N O z0 w0 T0 J0 k T J P L z w) {L2 : Nat → Nat → Int64} : to_I en X M N O z0 w0 T0 J0 k T J P L2 z w := h
theorem md_fy_v {v : Int} : md_fy J (m_up J M 0 v) M := fun b i _ _ _ _ _ q => by rw [m_up_at, if_neg (by omega)]
theorem md_kp_v {v : Int} (h : md_kp J M) : md_kp (m_up J M 0 v) M := by
  have e : ∀ b i, ¬ (b = M ∧ i = 0) → m_up J M 0 v b i = J b i := fun b i q => by rw [m_up_at, if_neg q]
  exact md_kp_eq (funext (fun i => e _ _ (by omega))) (funext (fun i => e _ _ (by omega))) (e _ _ (by omega)) (e _ _ (by omega)) (e _ _ (by omega)) (md_fy_v (J := J)).cf h
theorem to_now (h : to_I en X M N O z0 w0 T0 J0 k T J P L z w) {x : Int} (hx : 0 ≤ x ∧ x ≤ 8) : cl_now J X (cl_cf J X) x = md_now J M x ∧ m_in (md_now J M x) := by
  have hpi := to_pi h
  have p0 : J (X + 31) 0 = (a_of (J (M + 22) 0)).1 := by rw [← hpi]; rfl
  have p1 : J (X + 31) 1 = (a_of (J (M + 22) 0)).2.1 := by rw [← hpi]; rfl
  have p2 : J (X + 31) 2 = (a_of (J (M + 22) 0)).2.2.1 := by rw [← hpi]; rfl
  have p3 : J (X + 31) 3 = (a_of (J (M + 22) 0)).2.2.2.1 := by rw [← hpi]; rfl
  have p4 : J (X + 31) 4 = (a_of (J (M + 22) 0)).2.2.2.2 := by rw [← hpi]; rfl
  have p8 : J (X + 30) 2 = J (M + 22) 5 := h.rel.2.1.1.2.2.1.1
  obtain ⟨c0, c1, c2, c3, c4⟩ := to_bx h
  have h5 := h.inv.row.2.2.2.2.1
  have hw := a_why_bd (md_cf J M) (a_of (J (M + 22) 0))
  have hb := a_b_01 (a_hs (a_of (J (M + 22) 0)))
  have e6 : a_b (decide (J (X + 31) 1 = 0 ∧ J (X + 31) 2 = 0 ∧ J (X + 31) 3 = 0)) = a_b (a_hs (a_of (J (M + 22) 0))) := by
    rw [p1, p2, p3]; rfl
  unfold cl_now md_now m_in
  rw [e6, to_why h, hpi, p0, p1, p2, p3, p4, p8]
  refine ⟨rfl, ?_⟩
  repeat' split
  all_goals omega
theorem t_now (h : to_I en X M N O z0 w0 T0 J0 k T J P L z w) {x : Int} (hx : m_in x) : m_call en 40 mLa_now [.ref X, .int (m_i x), .ref O] (T, m_I J, P, L, z, w) (to_N en X M N O z0 w0 T0 J0 k x) := by
  have hO := h.2.1.2.1
  have hO2 := h.2.1.2.2
  have i0 : m_in 0 := ⟨by omega, by omega⟩
  have i8 : m_in 8 := ⟨by omega, by omega⟩
  have hx2 := hx
  unfold m_in at hx2
  show m_call en (39 + 1) mLa_now _ _ _
  unfold m_call
  rw [if_pos ⟨rfl, rfl⟩]
  refine ⟨X, m_i x, O, 1, rfl, hO, by decide, ⟨hO2, _, _, _, _, h.csh.2.1 (0, 11, 0) (by decide), h.csh.2.2.1 (0, 2, 30) (by decide), h.csh.2.1 (30, 2, 0) (by decide), h.csh.2.2.1 (30, 0, 31) (by decide)⟩, ?_⟩
  have hthr : ∀ kk : Int, (kk = 1 ∨ kk = 2) → (kk = 1 ↔ x < 0) → (x < 0 ∨ 8 < x) → to_N en X M N O z0 w0 T0 J0 k x (some (.int (m_i kk))) (T, m_I J, P, L, z + 1, w + 6) := fun kk q1 q2 q3 => by
    have hZ := to_zw h
    have hK := to_Q hZ md_fy_0 (md_kp_0 hZ.inv.hkp)
    refine ⟨kk, 0, T, J, P, L, z + 1, w + 6, by omega, i0, rfl, rfl, fun q => by omega, h.lo, ⟨h.sh, hO⟩, ?_⟩
    refine c_Md_now (d := 35) h.sh rfl hK.inv.ok hK.inv.hs hx (fun q => ?_) (fun q => ?_) (fun q => by omega)
    · have e : kk = 1 := q2.mpr q
      refine ⟨0, _, rfl, rfl, fun q => by omega, ?_, to_Q hK md_fy_v (md_kp_v hK.inv.hkp)⟩
      rw [m_up_e, e]
    · have e : kk = 2 := by
        rcases q1 with e | e
        · have := q2.mp e; omega
        · exact e
      refine ⟨0, _, rfl, rfl, fun q => by omega, ?_, to_Q hK md_fy_v (md_kp_v hK.inv.hkp)⟩
      rw [m_up_e, e]
  have E0 : m_i 0 = (0 : Int32) := by decide
  have E8 : m_i 8 = (8 : Int32) := by decide
  have f0 : m_i x < (0 : Int32) ↔ x < 0 := by rw [← E0]; exact m_i_lt hx i0
  have f8 : (8 : Int32) < m_i x ↔ 8 < x := by rw [← E8]; exact m_i_lt i8 hx
  by_cases c1 : x < 0
  · rw [if_pos (f0.mpr c1)]
    exact hthr 1 (Or.inl rfl) ⟨fun _ => c1, fun _ => rfl⟩ (Or.inl c1)
  · rw [if_neg (fun q => c1 (f0.mp q))]
    by_cases c2 : 8 < x
    · rw [if_pos (f8.mpr c2)]
      exact hthr 2 (Or.inr rfl) ⟨fun q => absurd q (by decide), fun q => absurd q c1⟩ (Or.inr c2)
    · rw [if_neg (fun q => c2 (f8.mp q))]
      have hv := to_now h (x := x) (by omega)
      refine c_Sc_now (d := 35) h.csh h.mo h.ok h.spi (by omega) ⟨_, rfl, ?_⟩
      have hK := to_Q h md_fy_0 (md_kp_0 h.inv.hkp)
      refine ⟨0, md_now J M x, T, J, P, m_up L O 0 (m_i (cl_now J X (cl_cf J X) x)).toInt64, z, w, Or.inl rfl, hv.2, rfl, rfl, fun _ => ?_, h.lo, ⟨h.sh, hO⟩, ?_⟩
      · rw [up_e, hv.1]
      · have en : md_now (m_up J M 0 0) M x = md_now J M x := by
          have e22 : m_up J M 0 0 (M + 22) = J (M + 22) := funext (fun i => m_up_z (by omega))
          unfold md_now
          rw [e22, (md_fy_0 (J := J) (M := M)).cf]
        refine c_Md_now (d := 35) h.sh rfl hK.inv.ok hK.inv.hs hx (fun q => by omega) (fun q => by omega) (fun q => ?_)
        refine ⟨_, _, rfl, rfl, fun _ => en, ?_, (to_Q (to_LL hK) ((md_fx.refl _ M).put _).fy (md_kp_put _ hK.inv.hkp)).kk (Nat.le_succ k)⟩
        rw [md_put_at, if_neg (by omega), if_neg (by omega), if_neg (by omega), if_neg (by omega), if_neg (by omega), m_up_e]
end TNW
