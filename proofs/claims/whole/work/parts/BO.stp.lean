/-! THE TIE: a step; the order at hand -/
/-- what the reference is, but its scratch -/
def md_E (M : Nat) (A B : Nat → Nat → Int) : Prop := (∀ k, (1 ≤ k ∧ k ≤ 19) ∨ k = 22 ∨ k = 23 → A (M + k) = B (M + k)) ∧ ∀ i, (0 < i ∧ i < 33) ∨ i = 45 ∨ i = 46 → A M i = B M i
section TSP
variable {en : Nat → Nat} {X M N O z0 w0 : Nat} {T0 : Nat → Option (Nat × Nat)} {J0 : Nat → Nat → Int} {k : Nat} {T T' : Nat → Option (Nat × Nat)} {J J' J1 K : Nat → Nat → Int} {P P' : Nat → Nat → Option Nat} {L L' : Nat → Nat → Int64} {z w z' w' zb wb : Nat} {C : a_C}
theorem md_E.refl (M : Nat) (A : Nat → Nat → Int) : md_E M A A := ⟨fun _ _ => rfl, fun _ _ => rfl⟩
theorem md_E.symm {A B : Nat → Nat → Int} (h : md_E M A B) : md_E M B A := ⟨fun k q => (h.1 k q).symm, fun i q => (h.2 i q).symm⟩
theorem md_E.trans {A B D : Nat → Nat → Int} (h : md_E M A B) (h' : md_E M B D) : md_E M A D := ⟨fun k q => (h.1 k q).trans (h'.1 k q), fun i q => (h.2 i q).trans (h'.2 i q)⟩
theorem md_E.cf {A B : Nat → Nat → Int} (h : md_E M A B) : md_cf A M = md_cf B M := md_cf_eq (h.1 2 (by omega)) (h.1 19 (by omega)) (h.2 32 (by omega))
theorem md_E.wd {A B : Nat → Nat → Int} (h : md_E M A B) (t : Int) : md_wd A M t = md_wd B M t := by
  unfold md_wd
  rw [h.1 10 (by omega), h.1 11 (by omega), h.1 2 (by omega)]
theorem md_E.sg {A B : Nat → Nat → Int} (h : md_E M A B) (c : Int) : md_sg A M c = md_sg B M c := by
  unfold md_sg
  rw [h.1 22 (by omega), h.wd]
theorem md_E.tok {A B : Nat → Nat → Int} (h : md_E M A B) (c : Int) : md_tok A M c ↔ md_tok B M c := by
  unfold md_tok
  rw [h.1 22 (by omega), h.cf, h.sg]
theorem md_E.go {A B : Nat → Nat → Int} (h : md_E M A B) (c : Int) : md_go A M c ↔ md_go B M c := by
  unfold md_go
  rw [h.1 22 (by omega), h.1 2 (by omega), h.1 12 (by omega), h.cf, h.tok]
theorem md_tt_23 {A B : Nat → Nat → Int} (h : md_E M A B) (hu : 0 ≤ B M 45 ∧ B M 45 ≤ 30) (i : Nat) : md_rem A M (M + 23) i = md_rem B M (M + 23) i := md_rem_c (h.2 45 (by omega)) (h.1 22 (by omega)) (h.1 23 (by omega)) hu i
theorem md_E.tik {A B : Nat → Nat → Int} (h : md_E M A B) (hu : 0 ≤ B M 45 ∧ B M 45 ≤ 30) (c : Int) : md_E M (md_tik A M c) (md_tik B M c) := by
  have hu' : 0 ≤ A M 45 ∧ A M 45 ≤ 30 := by rw [h.2 45 (by omega)]; exact hu
  refine ⟨fun k q => funext (fun i => ?_), fun i q => ?_⟩
  · by_cases k22 : k = 22
    · subst k22
      rw [md_tik_22, md_tik_22, h.1 22 (by omega), h.sg]
    · by_cases k23 : k = 23
      · subst k23
        rw [md_tik_23 c hu', md_tik_23 c hu, md_tt_23 h hu]
      · rw [md_tik_o _ _ _ (by omega) (by omega) (by omega), md_tik_o _ _ _ (by omega) (by omega) (by omega), h.1 k q]
  · by_cases i45 : i = 45
    · subst i45
      rw [md_tik_45, md_tik_45, h.2 45 (by omega)]
    · rw [md_tik_M _ _ _ (by omega) i45, md_tik_M _ _ _ (by omega) i45, h.2 i q]
theorem md_E.ft {A B : Nat → Nat → Int} (h : md_E M A B) (hu : 0 ≤ B M 45 ∧ B M 45 ≤ 30) (c : Int) : md_E M (md_ft A M c) (md_ft B M c) := by
  have ht := h.tik hu c
  refine ⟨fun k q => funext (fun i => ?_), fun i q => ?_⟩
  · by_cases k22 : k = 22
    · subst k22
      rw [md_ft_22, md_ft_22, h.1 22 (by omega), h.1 13 (by omega), h.sg]
    · unfold md_ft
      rw [md_fo2_o _ _ (by omega), md_fo2_o _ _ (by omega), ht.1 k q]
  · unfold md_ft
    rw [md_fo2_o _ _ (by omega), md_fo2_o _ _ (by omega), ht.2 i q]
/-- the reference's scratch has changed -/
theorem to_Z {F : Nat → Nat → Int} (h : to_I en X M N O z0 w0 T0 J0 k T J P L z w) (e : ∀ b i, ¬ (M ≤ b ∧ b ≤ M + 26) → F b i = J b i) (hE : md_E M F J) (hinv : md_inv F M) : to_I en X M N O z0 w0 T0 J0 k T F P L z w := by
  have hen := h.en0
  obtain ⟨⟨⟨zb, wb, hW, hz, hw⟩, hM, -, hr, htp, hv⟩, ⟨hb, hO, hO2⟩, hK, hR, hB, hl⟩ := h
  have eX : ∀ k, k < 165 → F (X + k) = J (X + k) := fun k q => funext (fun i => e _ _ (by omega))
  have ecf : cl_cf F X = cl_cf J X := cl_cf_e (fun b i q => e b i (by omega))
  refine ⟨⟨⟨zb, wb, by rw [ecf]; exact cl_W_M hW (by omega) e, hz, hw⟩, hM, hinv, fun k a b i hi => ?_, ?_, ?_⟩, ⟨hb, hO, hO2⟩, ?_, ?_, ?_, fun b q => ?_⟩
  · rw [hE.1 k (by omega)]
    exact hr k a b i hi
  · rw [hE.1 1 (by omega), hE.2 2 (by omega)]
    exact htp
  · rw [hE.2 24 (by omega)]
    exact hv
  · exact cl_K_e hK hen (fun b _ => rfl) (fun b q => funext (fun i => e b i (by omega))) (fun k q => eX k (by omega)) (by rw [eX 132 (by omega)]) (by rw [eX 157 (by omega)]) (by rw [eX 160 (by omega)]) (Nat.le_refl k)
  · exact cl_R_e hR (by rw [← hE.2 45 (by omega)]; exact hinv.hu.2) (eX 0 (by omega)) (fun k q => eX k (by omega)) (fun k _ q => hE.1 k (by omega)) (fun i q => hE.2 i (by omega))
  · rw [ecf]
    exact cl_B_e hB (fun k q => eX k (by omega)) (by rw [eX 132 (by omega)]) (eX 157 (by omega)) (eX 159 (by omega)) (eX 160 (by omega)) (eX 163 (by omega))
  · rw [funext (fun i => e b i (by omega))]
    exact hl b q
theorem to_sg (h : to_I en X M N O z0 w0 T0 J0 k T J P L z w) (c : Int) : a_step (po_get J (X + 31)) c (cl_wd J X (J (X + 30) 3)) = md_sg J M c := by
  unfold md_sg
  rw [to_pi h, to_wd h, h.rel.2.1.1.2.2.1.2.1]
theorem to_tok (h : to_I en X M N O z0 w0 T0 J0 k T J P L z w) (c : Int) : md_tok J M c ↔ J (X + 30) 3 < 9999 ∧ a_why (cl_cf J X) (a_step (po_get J (X + 31)) c (cl_wd J X (J (X + 30) 3))) = 0 := by
  unfold md_tok
  rw [to_sg h, to_why h, h.rel.2.1.1.2.2.1.2.1]
  have := h.inv.ht
  exact ⟨fun q => ⟨by omega, q.2⟩, fun q => ⟨by omega, q.2⟩⟩
theorem to_sv (h : to_I en X M N O z0 w0 T0 J0 k T J P L z w) {c : Int} (hc : md_tok J M c) : a_abs (md_sg J M c).2.2.1 ≤ J (M + 2) 3 := (a_why_sw hc.2).2
theorem t_step (h : to_I en X M N O z0 w0 T0 J0 k T J P L z w) {x y : Int} (hx : m_in x) (hy : m_in y) : m_call en 40 mSc_step [.ref X, .int (m_i x), .int (m_i y)] (T, m_I J, P, L, z, w) (to_C en X M N O z0 w0 T0 J0 k mMd_step [.ref M, .int (m_i x), .int (m_i y)]) := by
  have hlo := h.cK.2.2.1.1
  have ha := h.rel.2.2.1
  have hu := h.inv.hu
  refine c_Sc_step h.csh h.pok h.mo h.ok h.spi hlo ha.2.1 (by rw [ha.1]; exact hu) hx hy rfl (fun q => ?_) (fun q q2 => ?_) (fun q q2 q3 => ?_) (fun q q2 q3 => ?_)
  · refine to_mk h (fun K Q eK hK eX hQ => ?_)
    exact c_Md_step hK.sh eK hK.inv.ok hK.inv.hwn hK.inv.hwb hK.inv.hwv hK.inv.ht hK.inv.hs hK.inv.hu hK.inv.h6 hx hy (fun _ => hQ K (md_fy.refl K M) hK.inv.hkp) (fun p' => absurd p' (by omega)) (fun p' => absurd p' (by omega))
  · refine to_mk h (fun K Q eK hK eX hQ => ?_)
    have e : ∀ b, b < X + 132 → K b = J b := fun b p => eX b (by omega)
    refine c_Md_step hK.sh eK hK.inv.ok hK.inv.hwn hK.inv.hwb hK.inv.hwv hK.inv.ht hK.inv.hs hK.inv.hu hK.inv.h6 hx hy (fun p' => absurd q (by omega)) (fun _ _ σ => hQ _ ((md_fx.refl K M).put σ).fy (md_kp_put σ hK.inv.hkp)) (fun _ p' => absurd ((to_tok hK _).mp p').1 (by rw [e _ (by omega)]; exact q2))
  · have h' := to_164 h (J' := po_put J (X + 164) (a_step (po_get J (X + 31)) (3 * (x + 1) + y + 1) (cl_wd J X (J (X + 30) 3)))) (fun b i q => po_put_o (by omega))
    refine to_mk h' (fun K Q eK hK eX hQ => ?_)
    have e : ∀ b, b < X + 132 → K b = J b := fun b p => (eX b (by omega)).trans (funext (fun i => po_put_o (by omega)))
    refine c_Md_step hK.sh eK hK.inv.ok hK.inv.hwn hK.inv.hwb hK.inv.hwv hK.inv.ht hK.inv.hs hK.inv.hu hK.inv.h6 hx hy (fun p' => absurd q (by omega)) (fun _ _ σ => hQ _ ((md_fx.refl K M).put σ).fy (md_kp_put σ hK.inv.hkp)) (fun _ p' => absurd ((to_tok hK _).mp p').2 ?_)
    rw [x_cf e, x_pi e, cl_wd_e (J := J) (fun b i _ _ => by rw [e b (by omega)]), e (X + 30) (by omega)]
    exact q3
  · have hb := h.2.1.1
    have he := ha.2.1
    have ek : ∀ b i, M ≤ b → cl_tk J X (3 * (x + 1) + y + 1) 0 (a_step (po_get J (X + 31)) (3 * (x + 1) + y + 1) (cl_wd J X (J (X + 30) 3))) b i = J b i := fun b i q => cl_tk_o he (by omega)
    refine ⟨_, T, _, P, L, z, w, rfl, rfl, fun b q => ⟨(h.lo b q).1, ?_⟩, ?_⟩
    · exact (funext (fun i => cl_tk_o he (by omega))).trans (h.lo b q).2
    · have hE : md_E M (m_up (cl_tk J X (3 * (x + 1) + y + 1) 0 (a_step (po_get J (X + 31)) (3 * (x + 1) + y + 1) (cl_wd J X (J (X + 30) 3)))) M 0 0) J := ⟨fun k q => funext (fun i => by rw [m_up_z (by omega), ek _ _ (by omega)]), fun i q => by rw [m_up_z (by omega), ek _ _ (by omega)]⟩
      have hin : md_inv (m_up (cl_tk J X (3 * (x + 1) + y + 1) 0 (a_step (po_get J (X + 31)) (3 * (x + 1) + y + 1) (cl_wd J X (J (X + 30) 3)))) M 0 0) M := (md_top_e h.top (funext (fun i => ek _ i (by omega))) (fun k q => funext (fun i => ek _ i (by omega)))).1.fy md_fy_0 (md_kp_0 (md_top_e h.top (funext (fun i => ek _ i (by omega))) (fun k q => funext (fun i => ek _ i (by omega)))).1.hkp)
      have htk : md_tok J M (3 * (x + 1) + y + 1) := (to_tok h _).mpr ⟨q2, q3⟩
      refine c_Md_step h.sh rfl hin.ok hin.hwn hin.hwb hin.hwv hin.ht hin.hs hin.hu hin.h6 hx hy (fun p' => absurd q (by omega)) (fun _ p' => absurd ((hE.tok _).mpr htk) p') (fun _ p' => ?_)
      have ht1 : md_tik (m_up (cl_tk J X (3 * (x + 1) + y + 1) 0 (a_step (po_get J (X + 31)) (3 * (x + 1) + y + 1) (cl_wd J X (J (X + 30) 3)))) M 0 0) M (3 * (x + 1) + y + 1) (M + 22) 1 = J (X + 30) 3 + 1 := by
        rw [md_tik_22, hE.1 22 (by omega), h.rel.2.1.1.2.2.1.2.1]
        rfl
      refine ⟨_, by rw [ht1], rfl, ?_⟩
      refine (to_tk (h.kk (Nat.le_succ k)) (Or.inl rfl) (by omega) rfl q2 q3 (by have := h.cK.2.2.2.2.1; omega) (fun b i q => ?_) (fun b i q1 q2 q3 q4 => ?_) (fun i q1 q2 => ?_) ?_ (fun i => ?_) (fun i => md_tik_22 _ _ _ i) (hin.tik p') ?_ ?_ ?_ (fun i hi => ?_) (fun i hi => ?_) ?_ ?_).1
      · rw [md_tik_o _ _ _ (by omega) (by omega) (by omega), m_up_z (by omega)]
      · rw [md_tik_o _ _ _ (by omega) (by omega) (by omega), m_up_z (by omega), ek _ _ (by omega)]
      · rw [md_tik_M _ _ _ (by omega) (by omega), m_up_z (by omega), ek _ _ (by omega)]
      · rw [md_tik_45, hE.2 45 (by omega)]
      · rw [md_tik_23 _ hin.hu, md_tt_23 hE hu]
      · rw [hE.1 22 (by omega), hE.sg, to_sg h]; rfl
      · rw [hE.1 22 (by omega)]; rfl
      · rw [hE.1 22 (by omega)]; rfl
      · rw [hE.1 22 (by omega)]
        unfold a_tik
        rw [if_neg (by omega), if_neg (by omega), if_neg (by omega), if_neg (by omega), if_neg (by omega), if_neg (by omega), if_neg (by omega)]
      · rw [hE.1 22 (by omega), hE.sg, to_sg h]
      · rw [hE.1 22 (by omega), if_pos rfl, Int.add_zero]; rfl
      · rw [hE.1 22 (by omega)]
        exact h.rel.2.1.1.2.2.2.2
theorem a_sum_mono {g : Nat → Int} {n : Nat} (h : ∀ i, i < n → 0 ≤ g i) : ∀ i, i ≤ n → ∀ k, k ≤ i → a_sum g k ≤ a_sum g i := by
  intro i
  induction i with
  | zero => intro _ k hk; rw [show k = 0 from by omega]; exact Int.le_refl _
  | succ i ih =>
    intro hi k hk
    by_cases e : k = i + 1
    · rw [e]; exact Int.le_refl _
    · have := ih (by omega) k (by omega)
      have := h i (by omega)
      show a_sum g k ≤ a_sum g i + g i
      omega
theorem oa_hit {f g : Nat → Int} {p : Int} {i N0 : Nat} (hg : ∀ j, j < N0 → 0 ≤ g j) (hi : i < N0) (h1 : a_sum g i ≤ p) (h2 : p < a_sum g (i + 1)) : ∀ (n k : Nat), k ≤ i → i < k + n → k + n ≤ N0 → a_oa f g p n k (a_sum g k) = f i := by
  intro n
  induction n with
  | zero => intro k a b; omega
  | succ n ih =>
    intro k a b c
    show (if p < a_sum g k + g k then f k else a_oa f g p n (k + 1) (a_sum g k + g k)) = f i
    by_cases e : k = i
    · subst e
      rw [if_pos (show p < a_sum g k + g k from h2)]
    · have := a_sum_mono hg i (by omega) (k + 1) (by omega)
      have e2 : a_sum g (k + 1) = a_sum g k + g k := rfl
      rw [if_neg (by omega)]
      exact ih (k + 1) (by omega) (by omega) (by omega)
theorem oa_no {f g : Nat → Int} {p : Int} {N0 : Nat} (hg : ∀ j, j < N0 → 0 ≤ g j) (h : a_sum g N0 ≤ p) : ∀ (n k : Nat), k + n = N0 → a_oa f g p n k (a_sum g k) = -1 := by
  intro n
  induction n with
  | zero => intro k _; rfl
  | succ n ih =>
    intro k c
    show (if p < a_sum g k + g k then f k else a_oa f g p n (k + 1) (a_sum g k + g k)) = -1
    have := a_sum_mono hg N0 (Nat.le_refl _) (k + 1) (by omega)
    have e2 : a_sum g (k + 1) = a_sum g k + g k := rfl
    rw [if_neg (by omega)]
    exact ih (k + 1) (by omega)
theorem to_ow (h : to_I en X M N O z0 w0 T0 J0 k T J P L z w) : (J (M + 22) 2 < J (M + 2) 5 ∧ cl_ow J X = J (M + 12) (J (M + 22) 2).toNat ∧ 12 ≤ cl_ow J X ∧ cl_ow J X ≤ 17) ∨ (J (M + 22) 2 = J (M + 2) 5 ∧ cl_ow J X = -1) := by
  obtain ⟨hp, ⟨hm, -⟩, -⟩ := h.rel
  obtain ⟨o1, o2, o3, o4⟩ := hm.2.2.2.2
  have hr2 := h.inv.row.2.2.1
  have h5 := h.inv.pl.2.2.2.2.2.1
  have hg : ∀ j, j < (J (M + 2) 5).toNat → J (X + 26) j = J (M + 13) j := fun j hj => (hp.2.2.2.2.1 j (by omega)).1.2
  have hg0 : ∀ j, j < (J (M + 2) 5).toNat → 0 ≤ J (X + 26) j := fun j hj => by rw [hg j hj]; have := (hp.2.2.2.2.1 j (by omega)).2.2; omega
  have hs : ∀ i, i ≤ (J (M + 2) 5).toNat → a_sum (J (X + 26)) i = a_sum (J (M + 13)) i := fun i hi => a_sum_c i (fun j hj => hg j (by omega))
  have hgo : J (X + 30) 4 = J (M + 22) 4 := hm.2.2.1.2.2
  have e0 : cl_ow J X = a_oa (J (X + 25)) (J (X + 26)) (J (M + 22) 4) (J (M + 2) 5).toNat 0 (a_sum (J (X + 26)) 0) := by
    unfold cl_ow
    rw [hgo, show J (X + 17 + 12) 8 = J (M + 2) 5 from hp.1.2.2.1]
    rfl
  by_cases c : J (M + 22) 2 < J (M + 2) 5
  · have hlt := o3 c
    have e1 := oa_hit (f := J (X + 25)) (g := J (X + 26)) (p := J (M + 22) 4) (i := (J (M + 22) 2).toNat) (N0 := (J (M + 2) 5).toNat) hg0 (by omega) (by rw [hs _ (by omega)]; have := h.inv.row.2.2.2.1; omega) (by
      rw [hs _ (by omega)]
      show J (M + 22) 4 < a_sum (J (M + 13)) (J (M + 22) 2).toNat + J (M + 13) (J (M + 22) 2).toNat
      omega) (J (M + 2) 5).toNat 0 (by omega) (by omega) (by omega)
    have e2 := hp.2.2.2.2.1 (J (M + 22) 2).toNat (by omega)
    rw [← e0, e2.1.1] at e1
    exact Or.inl ⟨c, e1, by rw [e1]; exact e2.2.1.1, by rw [e1]; exact e2.2.1.2⟩
  · have e3 : J (M + 22) 2 = J (M + 2) 5 := by omega
    refine Or.inr ⟨e3, ?_⟩
    rw [e0]
    refine oa_no hg0 ?_ _ 0 (by omega)
    rw [hs _ (Nat.le_refl _), ← e3]
    have := o4 e3
    omega
theorem or_cod {n o c : Int} (ho : 12 ≤ o ∧ o ≤ 17) {σ : a_S} (h : cl_or C σ o c) (hn : a_no σ = n) : s_cod C o n c := by
  unfold s_cod
  rcases h with ⟨h1, h2⟩ | ⟨h1, h2⟩
  · have : o = 12 ∨ o = 13 ∨ o = 14 ∨ o = 15 ∨ o = 16 := by omega
    rcases this with e | e | e | e | e <;> subst e <;> exact h2
  · rw [if_neg (by omega), if_neg (by omega), if_neg (by omega), if_neg (by omega), if_neg (by omega), ← hn]
    exact h2
end TSP
