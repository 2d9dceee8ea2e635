/-! THE TIE: the class's words of a question in the reference's -/
section PUR
variable {C : a_C} {π γ ρ σ : a_S} {r lev goal : Int} {en : Nat → Nat} {X M N O z0 w0 : Nat} {T0 : Nat → Option (Nat × Nat)} {J0 : Nat → Nat → Int} {k : Nat} {T : Nat → Option (Nat × Nat)} {J : Nat → Nat → Int} {P : Nat → Nat → Option Nat} {L : Nat → Nat → Int64} {z w : Nat}
theorem w_sd_t (h : a_is C π = true) : w_sd C π = (fun x => x = π) := by
  funext x
  unfold w_sd
  exact propext ⟨fun q => q.2, fun q => ⟨h, q⟩⟩
theorem b_D_none {α : Type} {S : α → Prop} {E : α → α → Prop} (h : ∀ x, ¬ S x) : ∀ t σ, ¬ b_D S E t σ := by
  intro t
  induction t with
  | zero => intro σ q; exact h σ q
  | succ t ih => intro σ q; obtain ⟨τ, q1, -⟩ := q; exact ih τ q1
theorem b_ans_none {α : Type} {S : α → Prop} {E : α → α → Prop} {x : α} (h : ∀ x, ¬ S x) (q : b_ans S E x r) : r = -2 := by
  rcases q with ⟨t, -, q, -⟩ | ⟨q, -⟩
  · exact (b_D_none h t _ q).elim
  · exact q
theorem fx_ans (ok : a_ok C) (hb : a_bx ρ) (hg : a_bx γ) (hr : w_rs γ) (h : cl_fx C 511 4 ρ γ r) : s_ans C (a_no γ) 0 (a_no ρ) r := by
  rcases h with ⟨h1, h2⟩ | ⟨h1, h2⟩
  · by_cases hi : a_is C ρ = true
    · rw [w_sd_t hi, g_E_0 ok] at h2
      exact (w_ans ok hi h1 hr).mpr h2
    · rw [b_ans_none (fun x q => hi q.1) h2]
      exact w_no_s ok hb hi
  · rw [h2]
    exact w_no_g hg h1
theorem fw_ans (ok : a_ok C) (hb : a_bx ρ) (hg : a_bx γ) (hr : w_rs γ) (h : cl_fw C ρ γ r) : s_ans C (a_no γ) 0 (a_no ρ) r := fx_ans ok hb hg hr h
theorem fl_ans (ok : a_ok C) (hb : a_bx ρ) (hg : a_bx γ) (hr : w_rs γ) (h : cl_fx C 146 4 ρ γ r) : s_ans C (a_no γ) 1 (a_no ρ) r := by
  rcases h with ⟨h1, h2⟩ | ⟨h1, h2⟩
  · by_cases hi : a_is C ρ = true
    · rw [w_sd_t hi, g_E_1 ok] at h2
      exact (w_ans ok hi h1 hr).mpr h2
    · rw [b_ans_none (fun x q => hi q.1) h2]
      exact w_no_s ok hb hi
  · rw [h2]
    exact w_no_g hg h1
theorem fh_ans (ok : a_ok C) (hb : a_bx ρ) (h : cl_fh C ρ r) : s_ans C (-1) 0 (a_no ρ) r := by
  rcases h with ⟨h1, h2⟩ | ⟨h1, h2⟩
  · exact (w_home ok (fun _ => Iff.rfl) h1).mpr h2
  · rw [h2]
    exact w_no_s ok hb h1
/-- one stands from which there is a way -/
theorem s_ans_is (ok : a_ok C) (hb : a_bx ρ) (h : s_ans C goal lev (a_no ρ) r) (h0 : 0 ≤ r) : a_is C ρ = true := by
  rcases h with ⟨h1, -⟩ | ⟨t, -, h1, -⟩
  · omega
  · have := (w_D_is ok t _ h1).1
    rw [a_of_no hb] at this
    exact this
theorem to_cf (h : to_I en X M N O z0 w0 T0 J0 k T J P L z w) : cf_w (cl_cf J X) (md_cf J M) := by
  obtain ⟨hp, ⟨hm, -⟩, -⟩ := h.rel
  obtain ⟨c1, c2, c3⟩ := h.inv.2.1
  refine ⟨hp.1.1.1, hp.1.1.2.1, hp.1.1.2.2.1, hp.1.1.2.2.2.1, ?_, fun x h0 h1 => ?_⟩
  · exact hm.2.2.1.1.trans c1.symm
  · have hw : (4 ≤ J (X + 17) 0 ∧ J (X + 17) 0 ≤ 16) := h.pok.1
    have h1' : x < J (X + 17) 0 := h1
    have hi : x.toNat < 16 := by omega
    show pl_fr J (X + 17) (J (X + 32)) x = J (M + 19) x.toNat
    rw [c3 _ hi]
    unfold pl_fr md_fr
    rw [if_pos ⟨h0, h1'⟩, c2 _ hi, hm.2.1 _ hi]
    have e1 := hp.2.2.2.2.2.2 _ hi
    have e2 : J (X + 17 + 1) x.toNat = J (X + 18) x.toNat := rfl
    rw [e2, hp.1.1.2.1, e1]
    split <;> omega
theorem to_why (h : to_I en X M N O z0 w0 T0 J0 k T J P L z w) : a_why (cl_cf J X) = a_why (md_cf J M) := cf_why (to_cf h)
theorem to_pi (h : to_I en X M N O z0 w0 T0 J0 k T J P L z w) : po_get J (X + 31) = a_of (J (M + 22) 0) := h.rel.2.1.1.1
theorem to_bx (h : to_I en X M N O z0 w0 T0 J0 k T J P L z w) : a_bx (a_of (J (M + 22) 0)) := a_of_bx h.inv.hs.1 h.inv.hs.2
theorem to_no (h : to_I en X M N O z0 w0 T0 J0 k T J P L z w) : a_no (a_of (J (M + 22) 0)) = J (M + 22) 0 := a_no_of h.inv.hs.1
theorem to_is (h : to_I en X M N O z0 w0 T0 J0 k T J P L z w) : a_is (md_cf J M) (a_of (J (M + 22) 0)) = true ↔ a_why (md_cf J M) (a_of (J (M + 22) 0)) = 0 := by
  unfold a_is
  rw [Bool.and_eq_true, decide_eq_true_eq, decide_eq_true_eq]
  exact ⟨fun q => q.1, fun q => ⟨q, h.rel.2.1.1.2.2.2.1.2⟩⟩
theorem to_spn (h : to_I en X M N O z0 w0 T0 J0 k T J P L z w) : J (X + 29) 5 = J (M + 2) 4 := h.rel.1.1.2.1
theorem to_wid (h : to_I en X M N O z0 w0 T0 J0 k T J P L z w) : J (X + 17) 0 = J (M + 2) 0 := h.rel.1.1.1.1
theorem to_spt (h : to_I en X M N O z0 w0 T0 J0 k T J P L z w) {x : Int} (hx : 0 ≤ x ∧ x < J (M + 2) 4) : md_sp J M x = a_no (cl_spt J X x.toNat) ∧ a_bx (cl_spt J X x.toNat) ∧ w_rs (cl_spt J X x.toNat) := by
  have hn := h.inv.hsb.1
  have hb := h.inv.hsb.2 x.toNat (by omega)
  obtain ⟨⟨-, e1, e2⟩, e3⟩ := h.rel.1.2.1 x.toNat (by omega)
  unfold md_sp cl_spt
  rw [e1, e2]
  exact ⟨rfl, ⟨⟨hb.1.1, hb.1.2⟩, ⟨(by decide : (-2 : Int) ≤ 0), (by decide : (0 : Int) ≤ 2)⟩, ⟨(by decide : (-4 : Int) ≤ 0), (by decide : (0 : Int) ≤ 4)⟩, ⟨(by decide : (-4 : Int) ≤ 0), (by decide : (0 : Int) ≤ 4)⟩, e3, hb.2.2⟩, rfl, rfl, rfl⟩
theorem s_few_of (h : to_I en X M N O z0 w0 T0 J0 k T J P L z w) (q : s_ans (md_cf J M) goal lev (J (M + 22) 0) r) : s_few (md_cf J M) goal lev (J (M + 22) 0) r := by
  by_cases hw : a_why (md_cf J M) (a_of (J (M + 22) 0)) = 0
  · exact Or.inr ⟨hw, q⟩
  · refine Or.inl ⟨hw, ?_⟩
    rw [← to_no h] at q
    exact s_ans_u q (w_no_s h.inv.ok (to_bx h) (fun e => hw ((to_is h).mp e)))
theorem u_fw (h : to_I en X M N O z0 w0 T0 J0 k T J P L z w) {x : Int} (hx : 0 ≤ x ∧ x < J (M + 2) 4) (hr : cl_fw (cl_cf J X) (po_get J (X + 31)) (cl_spt J X x.toNat) r) : s_ans (md_cf J M) (md_sp J M x) 0 (J (M + 22) 0) r := by
  obtain ⟨e1, e2, e3⟩ := to_spt h hx
  rw [cf_fw (to_cf h), to_pi h] at hr
  rw [e1, ← to_no h]
  exact fw_ans h.inv.ok (to_bx h) e2 e3 hr
theorem u_fl (h : to_I en X M N O z0 w0 T0 J0 k T J P L z w) {x : Int} (hx : 0 ≤ x ∧ x < J (M + 2) 4) (hr : cl_fx (cl_cf J X) 146 4 (po_get J (X + 31)) (cl_spt J X x.toNat) r) : s_ans (md_cf J M) (md_sp J M x) 1 (J (M + 22) 0) r := by
  obtain ⟨e1, e2, e3⟩ := to_spt h hx
  rw [cf_fx (to_cf h), to_pi h] at hr
  rw [e1, ← to_no h]
  exact fl_ans h.inv.ok (to_bx h) e2 e3 hr
theorem u_fh (h : to_I en X M N O z0 w0 T0 J0 k T J P L z w) (hr : cl_fh (cl_cf J X) (po_get J (X + 31)) r) : s_ans (md_cf J M) (-1) 0 (J (M + 22) 0) r := by
  rw [cf_fh (to_cf h), to_pi h] at hr
  rw [← to_no h]
  exact fh_ans h.inv.ok (to_bx h) hr
/-- the class's words, where only what lies behind X + 132 has changed -/
theorem x_cf {J' : Nat → Nat → Int} (e : ∀ b, b < X + 132 → J' b = J b) : cl_cf J' X = cl_cf J X := cl_cf_e (fun b i q => by rw [e b q])
theorem x_pi {J' : Nat → Nat → Int} (e : ∀ b, b < X + 132 → J' b = J b) : po_get J' (X + 31) = po_get J (X + 31) := po_get_e (fun i => by rw [e _ (by omega)])
theorem x_sp {J' : Nat → Nat → Int} (e : ∀ b, b < X + 132 → J' b = J b) {i : Nat} : cl_spt J' X i = cl_spt J X i := cl_spt_e (fun b i q => by rw [e b q])
end PUR
