/-! THE TIE: class and reference, just made -/
section TZR
variable {en : Nat → Nat} {X M N O : Nat} {T0 T T1 : Nat → Option (Nat × Nat)} {J0 J J1 K F : Nat → Nat → Int} {P P1 : Nat → Nat → Option Nat} {L : Nat → Nat → Int64} {z w : Nat}
theorem re_W_b : ∀ i : Nat, i < 18 → -2147483648 ≤ re_W i ∧ re_W i < 2147483648 := by decide
theorem md_nZ_o {α : Type} {v : α} {H : Nat → Nat → α} {b i : Nat} (h : b ≤ M ∨ M + 26 < b) : ∀ k, k ≤ 26 → md_nZ v H M k b i = H b i := by
  intro k
  induction k with
  | zero => intro _; rfl
  | succ k ih =>
    intro hk
    unfold md_nZ
    rw [nw_o (by omega)]
    exact ih (by omega)
theorem md_n1_o {b i : Nat} (h : ¬ (M ≤ b ∧ b ≤ M + 26)) : md_n1 K M b i = K b i := by
  unfold md_n1
  rw [md_bg_o (by omega) (by omega) (by omega) (by omega), md_tt_x (by omega), md_f0_o (by omega) (by omega) (by omega) (by omega)]
  unfold md_n0
  rw [md_nZ_o (by omega) 26 (by omega), m_up_z (by omega), m_up_z (by omega)]
theorem md_nP_x {b : Nat} (h : M + 26 < b) (i : Nat) : ∀ k, k ≤ 26 → md_nP P M k b i = P b i := by
  intro k
  induction k with
  | zero => intro _; rfl
  | succ k ih =>
    intro hk
    unfold md_nP
    rw [up_z (by omega), nw_o (by omega)]
    exact ih (by omega)
set_option maxRecDepth 100000 in
theorem cl_sh_k {T' : Nat → Option (Nat × Nat)} {P' : Nat → Nat → Option Nat} (h : cl_sh en X T P) (eT : ∀ b, b < X + 165 → T' b = T b) (eP : ∀ b i, b < X + 165 → P' b i = P b i) : cl_sh en X T' P' := by
  have h1 : ∀ q ∈ cl_ob, q.1 < 165 := by decide
  have h2 : ∀ q ∈ cl_fd, q.1 < 165 := by decide
  refine ⟨h.1, fun q hq => ?_, fun q hq => ?_, fun i hi => ?_⟩
  · have := h1 q hq
    rw [eT _ (by omega)]; exact h.2.1 q hq
  · have := h2 q hq
    rw [eP _ _ (by omega)]; exact h.2.2.1 q hq
  · rw [eP _ _ (by omega)]; exact h.2.2.2 i hi
theorem sc_s_R {o : Nat} (h : sc_s X o T P) : (sR P (X + o) = X + (o + 1) ∧ sU P (X + o) = X + (o + 2)) ∧ sN T P (X + o) = 0 := by
  obtain ⟨h0, h1, -, h3, -⟩ := h
  have e0 : sR P (X + o) = X + (o + 1) := by unfold sR; rw [h0]; rfl
  have e1 : sU P (X + o) = X + (o + 2) := by unfold sU; rw [h1]; rfl
  refine ⟨⟨e0, e1⟩, ?_⟩
  unfold sN
  rw [e0, h3]
  rfl
theorem sc_V (hs : cl_sh en X T P) (h : sc_s X 139 T P ∧ sc_s X 144 T P ∧ sc_s X 149 T P) (hz : X + 165 ≤ z) : cl_V en X z z w T P z w := by
  obtain ⟨⟨a1, a2⟩, a3⟩ := sc_s_R h.1
  obtain ⟨⟨b1, b2⟩, b3⟩ := sc_s_R h.2.1
  obtain ⟨⟨c1, c2⟩, c3⟩ := sc_s_R h.2.2
  refine ⟨hs, ⟨hz, Nat.le_refl z⟩, fun o o' ho ho' hne => ?_, fun _ => 0, fun _ => 0, fun o ho => ?_, by dsimp only; omega, by dsimp only; omega⟩
  · rcases ho with e | e | e <;> rcases ho' with e' | e' | e' <;> subst e <;> subst e'
    · exact absurd rfl hne
    · rw [a1, a2, b1, b2]; omega
    · rw [a1, a2, c1, c2]; omega
    · rw [a1, a2, b1, b2]; omega
    · exact absurd rfl hne
    · rw [b1, b2, c1, c2]; omega
    · rw [a1, a2, c1, c2]; omega
    · rw [b1, b2, c1, c2]; omega
    · exact absurd rfl hne
  · have key : ∀ o, sc_s X o T P → o ≤ 149 → cl_s X z o T P z 0 0 := fun o h ho => by
      obtain ⟨⟨d1, d2⟩, d3⟩ := sc_s_R h
      obtain ⟨h0, h1, h2, h3, h4⟩ := h
      unfold cl_s
      rw [d1, d2, d3]
      exact ⟨⟨h0, h3⟩, ⟨h1, h4⟩, Or.inl h2, by omega, Or.inl (by omega), Or.inl (by omega), ⟨by omega, by omega⟩, by omega, Or.inl (by omega), Or.inl (by omega)⟩
    rcases ho with e | e | e <;> subst e
    · exact key 139 h.1 (by omega)
    · exact key 144 h.2.1 (by omega)
    · exact key 149 h.2.2 (by omega)
/-- all holds at the first call -/
theorem to_0 (hs : sc_N en X T0 J0 T1 J1 P1) (hM : M = X + 165) (hO : O = M + 27) (hz : z = O + 1) (hst : re_st en T0 J0) (hos : cl_os en T0 J0)
    (eT : ∀ b, b < X + 165 → T b = T1 b) (eP : ∀ b i, b < X + 165 → P b i = P1 b i) (eF : ∀ b i, b < X + 165 → F b i = J1 b i) (hKz : ∀ i, K M i = 0) (eM : ∀ b, M ≤ b → b ≤ M + 26 → F b = md_n1 K M b) (hsh : md_sh en M T P) (hTO : T O = some (24, 1)) : to_I en X M z O z w T0 J0 0 T F P L z w := by
  obtain ⟨h0, hcl, hsr, ⟨⟨r1, r2, r3, r4⟩, d1, ⟨d2, d3⟩, d4⟩, ⟨p1, ⟨p2, p3⟩, p4⟩, ⟨m1, m2, m3⟩, ⟨l1, l2, l3, l4, l5, l6⟩, ⟨v1, v2⟩, ⟨w1, w2, w3, w4, w5⟩⟩ := hs
  have hX := hcl.1
  have hst2 := hst.1.2
  have hos2 := hos.1.2
  have hcl2 : cl_sh en X T P := cl_sh_k hcl eT eP
  have hsr2 : ∀ o, o ≤ 149 → sc_s X o T1 P1 → sc_s X o T P := fun o q h => by
    unfold sc_s at h ⊢
    rw [eP _ _ (by omega), eP _ _ (by omega), eP _ _ (by omega), eT _ (by omega), eT _ (by omega)]
    exact h
  have el : ∀ b, b < X → T b = T0 b ∧ F b = J0 b := fun b q => ⟨(eT b (by omega)).trans (h0 b q).1, funext (fun i => (eF b i (by omega)).trans ((h0 b q).2 i))⟩
  have e32 : ∀ i : Nat, i < 16 → F (X + 32) i = 0 := fun i hi => by rw [eF _ _ (by omega)]; exact m3 i hi
  have e30 : ∀ i, F (X + 30) i = 0 := fun i => by rw [eF _ _ (by omega)]; exact m1 i
  have e31 : po_get F (X + 31) = (0, 0, 0, 0, 1) := by rw [po_get_e (J := J1) (fun i => eF _ _ (by omega))]; exact m2
  have hpok : pl_ok F (X + 17) := by
    refine pl_ok_0 ⟨?_, ?_, ?_, ?_⟩ (fun i hi => ?_) (fun i hi => ?_) (fun b i q1 q2 => ?_)
    · rw [eF _ _ (by omega)]; exact p1.1
    · rw [eF _ _ (by omega)]; exact p1.2.1
    · rw [eF _ _ (by omega)]; exact p1.2.2.1
    · rw [eF _ _ (by omega)]; exact p1.2.2.2.1
    · rw [eF _ _ (by omega), eF _ _ (by omega)]; exact p2 i hi
    · rw [eF _ _ (by omega)]; exact p3 i hi
    · rw [eF _ _ (by omega)]; exact p4 b i (by omega) (by omega)
  have hpod : pl_ok F (X + 3) := by
    refine pl_ok_0 ⟨?_, ?_, ?_, ?_⟩ (fun i hi => ?_) (fun i hi => ?_) (fun b i q1 q2 => ?_)
    · rw [eF _ _ (by omega)]; exact d1.1
    · rw [eF _ _ (by omega)]; exact d1.2.1
    · rw [eF _ _ (by omega)]; exact d1.2.2.1
    · rw [eF _ _ (by omega)]; exact d1.2.2.2.1
    · rw [eF _ _ (by omega), eF _ _ (by omega)]; exact d2 i hi
    · rw [eF _ _ (by omega)]; exact d3 i hi
    · rw [eF _ _ (by omega)]; exact d4 b i (by omega) (by omega)
  have hmo : cl_mo F X := ⟨fun i hi => by rw [e32 i hi]; omega, Or.inl (e30 2), by rw [e30 3]; omega, by rw [e30 4]; omega, by rw [e31]; exact bx_01⟩
  have ecf : cl_cf F X = cl_cf J1 X := cl_cf_e (fun b i q => eF b i (by omega))
  have hsp : sp_is F (X + 133) (cl_cf F X) := by
    rw [ecf]
    exact sp_is_e w5 (fun i => eF _ _ (by omega)) (fun i => eF _ _ (by omega)) (fun i => eF _ _ (by omega))
  have f8 : F (X + 132) 8 = 0 := by rw [eF _ _ (by omega)]; exact w3
  have hW : cl_W en X z z w (cl_cf F X) T F P z w := by
    refine ⟨sc_V hcl2 ⟨hsr2 139 (by omega) hsr.1, hsr2 144 (by omega) hsr.2.1, hsr2 149 (by omega) hsr.2.2⟩ (by omega), ⟨hpok, hmo, pl_cf_ok hpok (fun i hi => (hmo.1 i hi).1) hmo.2.1, ⟨rfl, rfl, rfl, rfl, rfl, fun _ _ _ => rfl⟩, hsp⟩, Or.inl (by rw [eF _ _ (by omega)]; exact w1), Or.inl (by rw [eF _ _ (by omega)]; exact w2), ⟨by rw [f8]; omega, fun f _ q => ?_⟩⟩
    rw [f8, Int.zero_ediv] at q
    exact absurd q (by decide)
  -- the reference
  have htop : md_top F M := md_top_e (md_n1_top hKz) (eM M (by omega) (by omega)) (fun k q => eM _ (by omega) (by omega))
  obtain ⟨B, hB⟩ : ∃ B, B = md_f0 (md_n0 K M) M := ⟨_, rfl⟩
  have hdB : dr_b B M := by rw [hB]; exact md_f0_b (md_n0_dr K M)
  have hbB := dr_rd hdB
  have fB : ∀ b i, M ≤ b → b ≤ M + 26 → F b i = md_bg (md_tt B M) M b i := fun b i q1 q2 => by rw [eM b q1 q2, hB]; rfl
  have fo : ∀ b i, M < b → b ≤ M + 26 → b ≠ M + 18 → b ≠ M + 19 → b ≠ M + 22 → F b i = md_tt B M b i := fun b i q1 q2 q3 q4 q5 => by rw [fB b i (by omega) q2, md_bg_o (by omega) q3 q4 q5]
  have fM : ∀ i, i ≠ 32 ∧ i ≠ 40 ∧ i ≠ 45 ∧ i ≠ 46 → i ≠ 18 → F M i = md_n0 K M M i := fun i q q2 => by rw [fB M i (by omega) (by omega), md_bg_M q, md_tt_x (by omega), hB, md_f0_o (by omega) (by omega) (by omega) (by omega)]
  have fz : ∀ i, i ≠ 32 ∧ i ≠ 40 ∧ i ≠ 45 ∧ i ≠ 46 → i ≠ 18 → i ≠ 28 → F M i = 0 := fun i q q2 q3 => by rw [fM i q q2, md_n0_M hKz (by omega)]
  have f28 : F M 28 = -1 := by
    rw [fM 28 (by omega) (by omega)]
    unfold md_n0
    rw [md_nZ_o (by omega) 26 (by omega), m_up_z (by omega), m_up_e]
  have f45 : F M 45 = 0 := by
    rw [fB _ _ (by omega) (by omega)]; unfold md_bg; rw [md_as_M _ _ (by omega) (by omega)]; unfold md_b2; rw [m_up_z (by omega), m_up_e]
  have f46 : F M 46 = 0 := by
    rw [fB _ _ (by omega) (by omega)]; unfold md_bg; rw [md_as_M _ _ (by omega) (by omega)]; unfold md_b2; rw [m_up_e]
  have f22 : ∀ i : Nat, i < 143 → F (M + 22) i = if 7 ≤ i ∧ i < 23 then F (M + 16) (i - 7) else if i = 0 then a_no (F (M + 2) 9, 0, 0, 0, F (M + 2) 10) else 0 := fun i hi => by
    rw [fo (M + 16) _ (by omega) (by omega) (by omega) (by omega) (by omega), fo (M + 2) _ (by omega) (by omega) (by omega) (by omega) (by omega), fo (M + 2) _ (by omega) (by omega) (by omega) (by omega) (by omega), fB _ _ (by omega) (by omega)]
    unfold md_bg
    rw [md_as_o _ _ (by omega) (by omega) (by omega), md_b2_r]
    by_cases c1 : 7 ≤ i ∧ i < 23
    · rw [if_pos c1, if_pos c1]
    · rw [if_neg c1, if_neg c1]
      by_cases c2 : i = 0
      · rw [if_pos c2, if_pos c2]
      · rw [if_neg c2, if_neg c2, if_pos hi]
  obtain ⟨A, hA⟩ : ∃ A : Nat → Nat → Int, A = fun b i => F (b + 14) i := ⟨_, rfl⟩
  have eA : ∀ k i, A (X + 3 + k) i = F (X + 17 + k) i := fun k i => by rw [hA]; show F (X + 3 + k + 14) i = _; rw [show X + 3 + k + 14 = X + 17 + k by omega]
  have hRd : rd_R A B X M := by
    refine rd_0 ⟨?_, ?_, ?_, ?_, ?_, ?_, ?_⟩ (fun i hi => ?_) (fun i hi => ?_) (fun i hi => by rw [hB]; exact md_f0_2 hi) (fun i hi => by rw [hB]; exact md_f0_3 hi) (fun i hi => by rw [hB]; exact md_f0_16 hi) (by rw [hB]; exact md_f0_18)
    · exact (eA 0 0).trans ((eF (X + 17) 0 (by omega)).trans p1.1)
    · exact (eA 0 1).trans ((eF (X + 17) 1 (by omega)).trans p1.2.1)
    · exact (eA 0 2).trans ((eF (X + 17) 2 (by omega)).trans p1.2.2.1)
    · exact (eA 0 3).trans ((eF (X + 17) 3 (by omega)).trans p1.2.2.2.1)
    · exact (eA 0 4).trans ((eF (X + 17) 4 (by omega)).trans p1.2.2.2.2.1)
    · exact (eA 0 5).trans ((eF (X + 17) 5 (by omega)).trans p1.2.2.2.2.2.1)
    · exact (eA 0 6).trans ((eF (X + 17) 6 (by omega)).trans p1.2.2.2.2.2.2)
    · exact ⟨(eA 1 i).trans ((eF (X + 18) i (by omega)).trans (p2 i hi).1), (eA 2 i).trans ((eF (X + 19) i (by omega)).trans (p2 i hi).2)⟩
    · exact (eA 12 i).trans ((eF (X + 29) i (by omega)).trans (p3 i hi))
  obtain ⟨u0, u1, u2, u3, u4, u5, u6⟩ := tx_tt hbB
  have hP : tx_P A B F X M := by
    refine ⟨⟨fun i hi => (eA 0 i).symm, fun k q1 q2 i hi => (eA k i).symm⟩, ⟨fun i hi => ?_, fun k q1 q2 i hi => ?_, fun k q1 i hi => ?_, fun k q1 i hi => ?_, fun k q1 i hi => ?_⟩, fun i hi => ?_, fun i hi => ?_⟩
    · rw [fo _ _ (by omega) (by omega) (by omega) (by omega) (by omega), u0 i hi]
    · rw [fo _ _ (by omega) (by omega) (by omega) (by omega) (by omega), u1 k q1 q2 i hi]
    · rw [fo _ _ (by omega) (by omega) (by omega) (by omega) (by omega), u2 k q1 i hi]
    · rw [fo _ _ (by omega) (by omega) (by omega) (by omega) (by omega), u3 k q1 i hi]
    · rw [fo _ _ (by omega) (by omega) (by omega) (by omega) (by omega), u4 k q1 i hi]
    · rw [fo _ _ (by omega) (by omega) (by omega) (by omega) (by omega), u5 i hi]
    · rw [fo _ _ (by omega) (by omega) (by omega) (by omega) (by omega), u6 i hi]
  have a5 : A (X + 3) 5 = 0 := (eA 0 5).trans ((eF (X + 17) 5 (by omega)).trans p1.2.2.2.2.2.1)
  have a6 : A (X + 3) 6 = 1 := (eA 0 6).trans ((eF (X + 17) 6 (by omega)).trans p1.2.2.2.2.2.2)
  have hmR : mo_R F M (X + 30) (F (M + 22)) := tx_mo hRd hbB (by omega) hP (by rw [e31, a5, a6]) (fun i hi => by rw [e32 i hi]; exact ((eA 2 i).trans ((eF (X + 19) i (by omega)).trans (p2 i hi).2)).symm) (e30 2) (e30 3) (e30 4) f22
  have h6 : F (M + 22) 6 = 0 := by rw [f22 6 (by omega), if_neg (by omega), if_neg (by omega)]
  have z33 : ∀ i, F (X + 33) i = 0 := fun i => by rw [eF _ _ (by omega)]; exact l1 i
  have z35 : ∀ i, F (X + 35) i = 0 := fun i => by rw [eF _ _ (by omega)]; exact l3 i
  have f1 : F (X + 1) 1 = 0 := by rw [eF _ _ (by omega)]; exact r1 1 (by omega)
  have fv : F (X + 132) 13 = 1 := by rw [eF _ _ (by omega)]; exact w4
  have fv1 : F (X + 157) 5 = -1 := by rw [eF _ _ (by omega)]; exact v1
  have fv2 : F (X + 160) 7 = -1 := by rw [eF _ _ (by omega)]; exact v2
  have fm2 : F M 2 = 0 := fz 2 (by omega) (by omega) (by omega)
  refine ⟨⟨⟨z, w, hW, by omega, by omega⟩, hsh, htop⟩, ⟨⟨by omega, by omega, by omega⟩, hTO, by omega⟩, ⟨⟨⟨by omega, fun i hi => ?_⟩, hpod, fun i hi => ?_, ?_, fun i hi => ?_⟩, ?_, ⟨?_, ?_⟩, fun i hi => ?_, ⟨?_, ?_, ?_⟩⟩, ⟨tx_pl hRd hbB hP, ⟨hmR, ?_⟩, ?_, ⟨?_, fun q => by rw [f46] at q; omega⟩, ⟨by rw [f1, fm2], fun i q => by rw [fm2] at q; omega, ?_, ?_⟩⟩, ⟨fun q => by rw [fv, fv1] at q; omega, fun q => by rw [fv, fv2] at q; omega⟩, el⟩
  · rw [eF _ _ (by omega), r3 i]; omega
  · rw [eF _ _ (by omega), r4 i hi]; exact re_W_b i hi
  · unfold re_st at hst ⊢
    rw [(el _ (by omega)).1, (el _ (by omega)).2]
    exact hst
  · rw [eF _ _ (by omega), d4 _ _ (by omega) (by omega)]; omega
  · unfold cl_os at hos ⊢
    rw [(el _ (by omega)).1, (el _ (by omega)).2]
    exact hos
  · unfold lo_ok
    rw [z33 1, z33 2]
    exact ⟨by omega, by omega, fun i hi => by rw [show X + 33 + 1 = X + 34 from rfl, eF _ _ (by omega), l2 i]; omega⟩
  · unfold lo_ok
    rw [eF (X + 130) 1 (by omega), eF (X + 130) 2 (by omega), l4 1, l4 2]
    exact ⟨by omega, by omega, fun i hi => by rw [show X + 130 + 1 = X + 131 from rfl, eF _ _ (by omega), l5 i]; omega⟩
  · rw [eF _ _ (by omega)]; exact r4 i hi
  · rw [fv]; omega
  · rw [fv, fv1]; omega
  · rw [fv, fv2]; omega
  · unfold lo_R
    rw [z33 2, h6]
    exact ⟨by omega, by omega, fun k q => by omega⟩
  · unfold pa_R
    rw [z35 1, z35 2, f45]
    exact ⟨rfl, by omega, fun k q => by omega, fun k q => by omega, fun k q => by omega⟩
  · rw [f46, eF _ _ (by omega)]; exact l6 7
  · rw [eF _ _ (by omega), fz 27 (by omega) (by omega) (by omega)]; exact r1 3 (by omega)
  · rw [eF _ _ (by omega), f28]; exact r2
end TZR
