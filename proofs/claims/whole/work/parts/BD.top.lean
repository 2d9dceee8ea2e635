/-! THE TIE: a question of the class, a question of the reference leave what holds -/
/-- behind the class's answer the reference is asked: the same answer, and all holds as before -/
def to_C (en : Nat → Nat) (X M N O z0 w0 : Nat) (T0 : Nat → Option (Nat × Nat)) (J0 : Nat → Nat → Int) (k : Nat) (me : m_Me) (as : List Value) : m_Q := fun v s =>
  ∃ r T' J' P' L' z' w', v = some (.int (m_i r)) ∧ s = (T', m_I J', P', L', z', w') ∧ (∀ b, b < X → T' b = T0 b ∧ J' b = J0 b) ∧
    m_call en 40 me as s (fun v2 s2 => ∃ J2, v2 = some (.int (m_i r)) ∧ s2 = (T', m_I J2, P', L', z', w') ∧ to_I en X M N O z0 w0 T0 J0 (k + 1) T' J2 P' L' z' w')
section TOP
variable {en : Nat → Nat} {X M N O z0 w0 : Nat} {T0 : Nat → Option (Nat × Nat)} {J0 : Nat → Nat → Int} {k k' : Nat} {T T' : Nat → Option (Nat × Nat)} {J J' J1 K : Nat → Nat → Int} {P P' : Nat → Nat → Option Nat} {L L' : Nat → Nat → Int64} {z w z' w' zb wb n : Nat} {C : a_C} {d0 : Nat → Int} {dl : Nat → Nat → Int} {sf : (Nat → Int) → Int → Int → Int → Int → Int}
theorem ro_H_x (h : ro_H J X n C d0 dl) (eX : ∀ k, k < 132 → J' (X + k) = J (X + k)) : ro_H J' X n C d0 dl := by
  unfold ro_H cl_leg cl_spt po_get at h ⊢
  rw [eX 29 (by omega), eX 31 (by omega), eX 21 (by omega), eX 22 (by omega)]
  exact h
theorem pl_fr_x (eX : ∀ k, k < 132 → J' (X + k) = J (X + k)) : pl_fr J' (X + 17) = pl_fr J (X + 17) := by
  funext f x
  unfold pl_fr
  rw [eX 17 (by omega), show J' (X + 17 + 1) = J (X + 17 + 1) from eX 18 (by omega)]
theorem ha_H_x (h : ha_H J X n C sf) (eX : ∀ k, k < 132 → J' (X + k) = J (X + k)) : ha_H J' X n C sf := by
  unfold ha_H ha_so pl_cf po_get at h ⊢
  rw [pl_fr_x eX, eX 17 (by omega), eX 29 (by omega), eX 31 (by omega)]
  exact h
theorem ro_V_e (h : ro_V J X n d0 dl) (e4 : J' (X + 157) 4 = J (X + 157) 4) (e5 : J' (X + 159) = J (X + 159)) : ro_V J' X n d0 dl := by
  unfold ro_V at h ⊢
  rw [e4, e5]
  exact h
theorem ha_V_e (h : ha_V J X n sf) (eX : ∀ k, k < 132 → J' (X + k) = J (X + k)) (e4 : J' (X + 160) 6 = J (X + 160) 6) (e5 : J' (X + 163) = J (X + 163)) : ha_V J' X n sf := by
  have e : ha_dd J' X = ha_dd J X := by
    funext p t
    unfold ha_dd
    rw [pl_fr_x eX]
  unfold ha_V at h ⊢
  rw [e4, e5, e, eX 27 (by omega), eX 28 (by omega), eX 32 (by omega)]
  exact h
theorem cl_B_e (h : cl_B J X C) (eX : ∀ k, k < 132 → J' (X + k) = J (X + k)) (e1 : J' (X + 132) 13 = J (X + 132) 13) (e2 : J' (X + 157) = J (X + 157)) (e3 : J' (X + 159) = J (X + 159)) (e4 : J' (X + 160) = J (X + 160)) (e5 : J' (X + 163) = J (X + 163)) : cl_B J' X C := by
  unfold cl_B
  rw [e1, e2, e4]
  refine ⟨fun q => ?_, fun q => ?_⟩
  · obtain ⟨n, d0, dl, a, b, c, d⟩ := h.1 q
    exact ⟨n, d0, dl, ro_H_x a eX, b, c, ro_V_e d (by rw [e2]) e3⟩
  · obtain ⟨n, sf, a, b⟩ := h.2 q
    exact ⟨n, sf, ha_H_x a eX, ha_V_e b eX (by rw [e4]) e5⟩
theorem to_I.en0 (h : to_I en X M N O z0 w0 T0 J0 k T J P L z w) : en 0 ≤ X := by
  obtain ⟨⟨⟨zb, wb, hW, -, -⟩, -, -⟩, -⟩ := h
  exact hW.1.1.1
theorem to_I.sh (h : to_I en X M N O z0 w0 T0 J0 k T J P L z w) : md_sh en M T P := h.1.2.1
theorem to_I.top (h : to_I en X M N O z0 w0 T0 J0 k T J P L z w) : md_top J M := h.1.2.2
theorem to_I.inv (h : to_I en X M N O z0 w0 T0 J0 k T J P L z w) : md_inv J M := h.1.2.2.1
theorem to_I.rel (h : to_I en X M N O z0 w0 T0 J0 k T J P L z w) : cl_R J X M := h.2.2.2.1
theorem to_I.cK (h : to_I en X M N O z0 w0 T0 J0 k T J P L z w) : cl_K en X k T J := h.2.2.1
theorem to_I.lo (h : to_I en X M N O z0 w0 T0 J0 k T J P L z w) : ∀ b, b < X → T b = T0 b ∧ J b = J0 b := h.2.2.2.2.2
theorem to_I.csh (h : to_I en X M N O z0 w0 T0 J0 k T J P L z w) : cl_sh en X T P := by
  obtain ⟨⟨⟨zb, wb, hW, -, -⟩, -, -⟩, -⟩ := h
  exact hW.1.1
theorem to_I.pok (h : to_I en X M N O z0 w0 T0 J0 k T J P L z w) : pl_ok J (X + 17) := by
  obtain ⟨⟨⟨zb, wb, hW, -, -⟩, -, -⟩, -⟩ := h
  exact hW.2.1.1
theorem to_I.mo (h : to_I en X M N O z0 w0 T0 J0 k T J P L z w) : cl_mo J X := by
  obtain ⟨⟨⟨zb, wb, hW, -, -⟩, -, -⟩, -⟩ := h
  exact hW.2.1.2.1
theorem to_I.ok (h : to_I en X M N O z0 w0 T0 J0 k T J P L z w) : a_ok (cl_cf J X) := by
  obtain ⟨⟨⟨zb, wb, hW, -, -⟩, -, -⟩, -⟩ := h
  exact hW.2.1.2.2.1
theorem to_I.spi (h : to_I en X M N O z0 w0 T0 J0 k T J P L z w) : sp_is J (X + 133) (cl_cf J X) := by
  obtain ⟨⟨⟨zb, wb, hW, -, -⟩, -, -⟩, -⟩ := h
  exact hW.2.1.2.2.2.2
/-- the class was asked -/
theorem to_X (h : to_I en X M N O z0 w0 T0 J0 k T J P L z w) (hW : cl_W en X N zb wb (cl_cf J X) T' J' P' z' w') (hz : zb ≤ z0 + k) (hw : wb ≤ w0 + 6 * k) (fT : ∀ b, b < N → T' b = T b) (fJ : ∀ b i, b < X + 132 ∨ ((X + 157 ≤ b ∧ b < N) ∧ b ≠ X + 161 ∧ b ≠ X + 164) ∨ (b = X + 132 ∧ i = 13) → J' b i = J b i) (fP : ∀ b i, (X + 165 ≤ b ∧ b < N) → P' b i = P b i) : to_I en X M N O z0 w0 T0 J0 k T' J' P' L' z' w' := by
  have hen := h.en0
  obtain ⟨⟨-, hM, ht⟩, ⟨hb, hO, hO2⟩, hK, hR, hB, hl⟩ := h
  have hN := hW.1.2.1.1
  have eX : ∀ k, k < 132 → J' (X + k) = J (X + k) := fun k q => funext (fun i => fJ _ _ (by omega))
  have eM : ∀ k, k ≤ 26 → J' (M + k) = J (M + k) := fun k q => funext (fun i => fJ _ _ (by omega))
  have eM0 : J' M = J M := funext (fun i => fJ _ _ (by omega))
  have ecf : cl_cf J' X = cl_cf J X := cl_cf_e (fun b i q => fJ b i (by omega))
  refine ⟨⟨⟨zb, wb, by rw [ecf]; exact hW, hz, hw⟩, md_sh_e hM (fun b p q => fT b (by omega)) (fun i => fP M i (by omega)), md_top_e ht eM0 eM⟩, ⟨hb, by rw [fT O (by omega)]; exact hO, hO2⟩, ?_, ?_, ?_, fun b q => ?_⟩
  · exact cl_K_e hK hen (fun b q => fT b (by omega)) (fun b q => funext (fun i => fJ b i (by omega))) eX (fJ _ _ (by omega)) (fJ _ _ (by omega)) (fJ _ _ (by omega)) (Nat.le_refl k)
  · exact cl_R_e hR ht.1.hu.2 (funext (fun i => fJ X i (by omega))) eX (fun k _ q => eM k (by omega)) (fun i _ => by rw [eM0])
  · rw [ecf]
    exact cl_B_e hB eX (fJ _ _ (by omega)) (funext (fun i => fJ _ _ (by omega))) (funext (fun i => fJ _ _ (by omega))) (funext (fun i => fJ _ _ (by omega))) (funext (fun i => fJ _ _ (by omega)))
  · rw [fT b (by omega), funext (fun i => fJ b i (by omega))]
    exact hl b q
theorem to_Xq (h : to_I en X M N O z0 w0 T0 J0 k T J P L z w) (hW : cl_W en X N zb wb (cl_cf J X) T' J' P' z' w') (hz : zb ≤ z0 + k) (hw : wb ≤ w0 + 6 * k) (q : cl_q X N T J P L T' J' P' L') : to_I en X M N O z0 w0 T0 J0 k T' J' P' L' z' w' := to_X h hW hz hw q.1 (fun b i p => q.2.1 b i (by omega)) (fun b i p => q.2.2.1 b i (by omega))
theorem to_Xe {E : Nat → Nat → Prop} (hE : ∀ b i, E b i → b = X + 156 ∨ b = X + 161 ∨ b = X + 164) (h : to_I en X M N O z0 w0 T0 J0 k T J P L z w) (hW : cl_W en X N zb wb (cl_cf J X) T' J' P' z' w') (hz : zb ≤ z0 + k) (hw : wb ≤ w0 + 6 * k) (q : cl_qe X N E T J P L T' J' P' L') : to_I en X M N O z0 w0 T0 J0 k T' J' P' L' z' w' :=
  to_X h hW hz hw q.1 (fun b i p => q.2.1 b i (by omega) (fun e => by have := hE b i e; omega)) (fun b i p => q.2.2.1 b i (by omega))
theorem cl_W_M (h : cl_W en X N zb wb C T J P z w) (hM : X + 165 ≤ M ∧ M + 26 < N) (e : ∀ b i, ¬ (M ≤ b ∧ b ≤ M + 26) → J1 b i = J b i) : cl_W en X N zb wb C T J1 P z w := by
  have key : ∀ o, cl_o o → cl_sm X o T J P T J1 P := fun o ho => by
    have hz := cl_z h.1 ho
    have ho2 := ho
    unfold cl_o at ho2
    exact ⟨⟨rfl, rfl, rfl, rfl⟩, fun i => e _ i (by omega), funext (fun i => e _ i (by omega)), funext (fun i => e _ i (by omega))⟩
  exact cl_W_e h h.1 (fun b i q => e b i (by omega)) (fun i => e _ i (by omega)) (key 139 (Or.inl rfl)) (key 144 (Or.inr (Or.inl rfl)))
/-- the reference was asked -/
theorem to_Q (h : to_I en X M N O z0 w0 T0 J0 k T J P L z w) (fy : md_fy J J1 M) (kp : md_kp J1 M) : to_I en X M N O z0 w0 T0 J0 k T J1 P L z w := by
  have hen := h.en0
  obtain ⟨⟨⟨zb, wb, hW, hz, hw⟩, hM, hinv, hr, htp, hv⟩, ⟨hb, hO, hO2⟩, hK, hR, hB, hl⟩ := h
  have e : ∀ b i, ¬ (M ≤ b ∧ b ≤ M + 26) → J1 b i = J b i := fun b i q => fy b i (by omega) (by omega) (by omega) (by omega) (by omega) (by omega)
  have eX : ∀ k, k < 165 → J1 (X + k) = J (X + k) := fun k q => funext (fun i => e _ _ (by omega))
  have ecf : cl_cf J1 X = cl_cf J X := cl_cf_e (fun b i q => e b i (by omega))
  refine ⟨⟨⟨zb, wb, by rw [ecf]; exact cl_W_M hW (by omega) e, hz, hw⟩, hM, hinv.fy fy kp, fun k a b i hi => ?_, ?_, ?_⟩, ⟨hb, hO, hO2⟩, ?_, ?_, ?_, fun b q => ?_⟩
  · rw [fy.r (k := k) (by omega)]
    exact hr k a b i hi
  · rw [fy.r (k := 1) (by omega), fy.f (i := 2) (by omega)]
    exact htp
  · rw [fy.f (i := 24) (by omega)]
    exact hv
  · exact cl_K_e hK hen (fun b _ => rfl) (fun b q => funext (fun i => e b i (by omega))) (fun k q => eX k (by omega)) (by rw [eX 132 (by omega)]) (by rw [eX 157 (by omega)]) (by rw [eX 160 (by omega)]) (Nat.le_refl k)
  · exact cl_R_e hR hinv.hu.2 (eX 0 (by omega)) (fun k q => eX k (by omega)) (fun k _ q => fy.r (by omega)) (fun i q => fy.f (by omega))
  · rw [ecf]
    exact cl_B_e hB (fun k q => eX k (by omega)) (by rw [eX 132 (by omega)]) (eX 157 (by omega)) (eX 159 (by omega)) (eX 160 (by omega)) (eX 163 (by omega))
  · rw [funext (fun i => e b i (by omega))]
    exact hl b q
theorem md_fy_0 : md_fy J (m_up J M 0 0) M := fun b i _ _ _ _ _ q => by rw [m_up_at, if_neg (by omega)]
theorem md_kp_0 (h : md_kp J M) : md_kp (m_up J M 0 0) M := by
  have e : ∀ b i, ¬ (b = M ∧ i = 0) → m_up J M 0 0 b i = J b i := fun b i q => by rw [m_up_at, if_neg q]
  exact md_kp_eq (funext (fun i => e _ _ (by omega))) (funext (fun i => e _ _ (by omega))) (e _ _ (by omega)) (e _ _ (by omega)) (e _ _ (by omega)) (md_fy_0 (J := J)).cf h
theorem to_I.kk (h : to_I en X M N O z0 w0 T0 J0 k T J P L z w) (hk : k ≤ k') : to_I en X M N O z0 w0 T0 J0 k' T J P L z w := by
  have hen := h.en0
  obtain ⟨⟨⟨zb, wb, hW, hz, hw⟩, hM, ht⟩, hb, hK, hR, hB, hl⟩ := h
  exact ⟨⟨⟨zb, wb, hW, by omega, by omega⟩, hM, ht⟩, hb, cl_K_e hK hen (fun _ _ => rfl) (fun _ _ => rfl) (fun _ _ => rfl) rfl rfl rfl hk, hR, hB, hl⟩
/-- a question: the class has answered r, the reference's heap K has its 'thrown' at 0 -/
theorem to_mk {r : Int} {me : m_Me} {as : List Value} (h : to_I en X M N O z0 w0 T0 J0 k T J P L z w)
    (hc : ∀ (K : Nat → Nat → Int) (Q : m_Q), m_up J M 0 0 = K → to_I en X M N O z0 w0 T0 J0 k T K P L z w → (∀ b, b < X + 165 → K b = J b) → (∀ J1, md_fy K J1 M → md_kp J1 M → Q (some (.int (m_i r))) (T, m_I J1, P, L, z, w)) → m_call en 40 me as (T, m_I J, P, L, z, w) Q) :
    to_C en X M N O z0 w0 T0 J0 k me as (some (.int (m_i r))) (T, m_I J, P, L, z, w) := by
  have hK := to_Q h md_fy_0 (md_kp_0 h.inv.hkp)
  have hXM := h.2.1.1.1
  refine ⟨r, T, J, P, L, z, w, rfl, rfl, h.lo, hc _ _ rfl hK (fun b q => funext (fun i => by rw [m_up_at, if_neg (by omega)])) (fun J1 fy kp => ⟨J1, rfl, rfl, (to_Q hK fy kp).kk (Nat.le_succ k)⟩)⟩
end TOP
