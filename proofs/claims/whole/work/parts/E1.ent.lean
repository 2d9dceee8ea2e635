/-! the law from its entry -/
section LWE
variable {en : Nat → Nat} {Q : m_Q} {X S n : Nat} {T0 : Nat → Option (Nat × Nat)} {J0 : Nat → Nat → Int} {P0 : Nat → Nat → Option Nat} {L0 : Nat → Nat → Int64} {w : Nat}
theorem sc_N_f {T1 T2 : Nat → Option (Nat × Nat)} {J1 J2 : Nat → Nat → Int} {P2 : Nat → Nat → Option Nat} (h : sc_N en X T1 J1 T2 J2 P2) (e : ∀ b, b < X → T1 b = T0 b ∧ ∀ i, J1 b i = J0 b i) : sc_N en X T0 J0 T2 J2 P2 := ⟨fun b q => ⟨(h.1 b q).1.trans (e b q).1, fun i => ((h.1 b q).2 i).trans ((e b q).2 i)⟩, h.2⟩
theorem m_W_60 : ∀ c, c < 13 → m_W c ≤ 60 := by decide
theorem law_all (hX : en 0 ≤ X) (hst : re_st en T0 J0) (hos : cl_os en T0 J0) (hS : T0 S = some (20, n)) (hn : n ≤ 3072) (hSX : S < X) (hSi : ∀ j, m_in (J0 S j))
    (hq : ∀ z0 w0 k T J P L z' w', z0 = X + 193 → w0 ≤ w + 100000 → k ≤ 512 → to_I en X (X + 165) (X + 193) (X + 192) z0 w0 T0 J0 k T J P L z' w' → Q (some (.int (m_i 1))) (T, m_I J, P, L, z', w')) : m_wp en 40 mLa_law 0 [some (.ref S), none, none, none, none, none, none] [] (T0, m_I J0, P0, L0, X, w) Q := by
  refine r_nwo (c := 11) eLa_law_0 rfl ?_
  refine r_dupr eLa_law_3 ?_
  refine r_spe eLa_law_4 rfl rfl rfl (by decide) rfl ?_
  refine c_Sc_init (d := 34) nT_e hX (fun i => nw_e) (fun T1 J1 P1 L1 hs => ?_)
  have hs := sc_N_f (T0 := T0) (J0 := J0) hs (fun b q => ⟨nT_o (by omega), fun i => nw_o (by omega)⟩)
  show m_wp en 40 mLa_law 7 [some (.ref S), none, none, none, none, none, none] [.ref X] (T1, m_I J1, P1, L1, X + 165, _) Q
  refine r_asn (ls' := [some (.ref S), some (.ref X), none, none, none, none, none]) eLa_law_7 (Nat.le_of_ble_eq_true rfl) rfl ?_
  refine r_nwo (c := 12) eLa_law_8 rfl ?_
  refine r_dupr eLa_law_11 ?_
  refine r_spe eLa_law_12 rfl rfl rfl (by decide) rfl ?_
  refine c_Md_init (d := 36) (M := X + 165) nT_e (by omega) (fun i => nw_e) (fun hM => ?_)
  show m_wp en 40 mLa_law 15 [some (.ref S), some (.ref X), none, none, none, none, none] [.ref (X + 165)] (_, _, _, _, X + 192, _) Q
  refine r_asn (ls' := [some (.ref S), some (.ref X), some (.ref (X + 165)), none, none, none, none]) eLa_law_15 (Nat.le_of_ble_eq_true rfl) rfl ?_
  refine r_con eLa_law_16 ?_
  refine r_nwa (n := 1) (k := 24) eLa_law_17 rfl (by decide) ?_
  refine r_asn (ls' := [some (.ref S), some (.ref X), some (.ref (X + 165)), some (.ref (X + 192)), none, none, none]) eLa_law_19 (Nat.le_of_ble_eq_true rfl) rfl ?_
  refine r_con eLa_law_20 ?_
  refine r_is (ls' := [some (.ref S), some (.ref X), some (.ref (X + 165)), some (.ref (X + 192)), some (.int (m_i (6 * ((0 : Nat) : Int)))), none, none]) eLa_law_21 (Nat.le_of_ble_eq_true rfl) rfl ?_
  have h0 := fun L w => to_0 (en := en) (X := X) (M := X + 165) (O := X + 192) (z := X + 193) (T0 := T0) (J0 := J0) (T1 := T1) (J1 := J1) (P1 := P1) (K := m_nw J1 (X + 165) 0) (F := m_nw (md_n1 (m_nw J1 (X + 165) 0) (X + 165)) (X + 192) 0) (T := m_nT (md_nT (m_nT T1 (X + 165) (12, 0)) (X + 165) 26) (X + 192) (24, 1)) (P := m_nw (md_nP (m_nw P1 (X + 165) none) (X + 165) 26) (X + 192) none) (L := L) (w := w) hs rfl rfl rfl hst hos (fun b q => by rw [nT_o (by omega), md_nT_o (by omega), nT_o (by omega)]) (fun b i q => by rw [nw_o (by omega), md_nP_o (by omega), nw_o (by omega)]) (fun b i q => by rw [nw_o (by omega), md_n1_o (by omega), nw_o (by omega)]) (fun i => nw_e) (fun b q1 q2 => funext (fun i => nw_o (by omega))) (md_sh_e hM (fun b q1 q2 => nT_o (by omega)) (fun i => nw_o (by omega))) nT_e
  refine l_law hS hn hSX hSi (fun k T J P L z1 w1 q h => hq _ _ k T J P L z1 w1 rfl ?_ q h) 512 0 _ _ _ _ _ _ none none rfl (h0 _ _)
  have y0 := m_W_60 0 (by decide)
  have y1 := m_W_60 1 (by decide)
  have y2 := m_W_60 2 (by decide)
  have y3 := m_W_60 3 (by decide)
  have y4 := m_W_60 4 (by decide)
  have y5 := m_W_60 5 (by decide)
  have y6 := m_W_60 6 (by decide)
  have y7 := m_W_60 7 (by decide)
  have y8 := m_W_60 8 (by decide)
  have y9 := m_W_60 9 (by decide)
  have y10 := m_W_60 10 (by decide)
  have y11 := m_W_60 11 (by decide)
  have y12 := m_W_60 12 (by decide)
  omega
end LWE
