/-! THE TIE: tour, stop -/
section TTO
variable {en : Nat → Nat} {X M N O z0 w0 : Nat} {T0 : Nat → Option (Nat × Nat)} {J0 : Nat → Nat → Int} {k : Nat} {T T' : Nat → Option (Nat × Nat)} {J J' J1 K : Nat → Nat → Int} {P P' : Nat → Nat → Option Nat} {L L' : Nat → Nat → Int64} {z w z' w' zb wb : Nat} {C : a_C}
variable {n : Nat} {d0 : Nat → Int} {dl : Nat → Nat → Int} {tb lf : Nat → Int}
/-- behind a tour the class keeps its best order -/
theorem to_XR (h : to_I en X M N O z0 w0 T0 J0 k T J P L z w) (hW : cl_W en X N zb wb (cl_cf J X) T' J' P' z' w') (hz : zb ≤ z0 + k) (hw : wb ≤ w0 + 6 * k) (fT : ∀ b, b < N → T' b = T b) (fJ : ∀ b i, b < X + 132 ∨ (X + 160 ≤ b ∧ b < N) ∨ (b = X + 132 ∧ i = 13) → J' b i = J b i) (fP : ∀ b i, (X + 165 ≤ b ∧ b < N) → P' b i = P b i)
    (hv : J' (X + 157) 5 = J' (X + 132) 13) (hH : ro_H J X n (cl_cf J X) d0 dl) (hd0 : ∀ k, d0 k < 100000) (hdl : ∀ f t, dl f t < 100000) (hV : ro_V J' X n d0 dl) : to_I en X M N O z0 w0 T0 J0 k T' J' P' L' z' w' := by
  have hen := h.en0
  obtain ⟨⟨-, hM, ht⟩, ⟨hb, hO, hO2⟩, hK, hR, hB, hl⟩ := h
  have hN := hW.1.2.1.1
  have eX : ∀ k, k < 132 → J' (X + k) = J (X + k) := fun k q => funext (fun i => fJ _ _ (by omega))
  have eM : ∀ k, k ≤ 26 → J' (M + k) = J (M + k) := fun k q => funext (fun i => fJ _ _ (by omega))
  have eM0 : J' M = J M := funext (fun i => fJ _ _ (by omega))
  have e13 : J' (X + 132) 13 = J (X + 132) 13 := fJ _ _ (by omega)
  have ecf : cl_cf J' X = cl_cf J X := cl_cf_e (fun b i q => fJ b i (by omega))
  have e160 : J' (X + 160) = J (X + 160) := funext (fun i => fJ _ _ (by omega))
  have e163 : J' (X + 163) = J (X + 163) := funext (fun i => fJ _ _ (by omega))
  refine ⟨⟨⟨zb, wb, by rw [ecf]; exact hW, hz, hw⟩, md_sh_e hM (fun b p q => fT b (by omega)) (fun i => fP M i (by omega)), md_top_e ht eM0 eM⟩, ⟨hb, by rw [fT O (by omega)]; exact hO, hO2⟩, ?_, ?_, ⟨fun q => ?_, fun q => ?_⟩, fun b q => ?_⟩
  · obtain ⟨⟨a1, a2, a3, a4, a5⟩, a6, ⟨a7, a8⟩, a9, a10, a11, a12⟩ := hK
    refine ⟨⟨?_, pl_ok_e a2 (fun b i p q => by
      obtain ⟨j, rfl⟩ : ∃ j, b = X + j := ⟨b - X, by omega⟩
      rw [eX j (by omega)]), ?_, ?_, ?_⟩, ?_, ⟨?_, ?_⟩, ?_, ?_, ?_, ?_⟩
    · rw [eX 1 (by omega), eX 2 (by omega)]; exact a1
    · rw [eX 16 (by omega)]; exact a3
    · unfold re_st at a4 ⊢
      have := a4.1.2
      rw [fT _ (by omega), show J' (en 2) = J (en 2) from funext (fun i => fJ _ _ (by omega))]
      exact a4
    · rw [eX 9 (by omega)]; exact a5
    · unfold cl_os at a6 ⊢
      have := a6.1.2
      rw [fT _ (by omega), show J' (en 3) = J (en 3) from funext (fun i => fJ _ _ (by omega))]
      exact a6
    · unfold lo_ok at a7 ⊢
      rw [eX 33 (by omega), show J' (X + 33 + 1) = J (X + 33 + 1) from eX 34 (by omega)]
      exact a7
    · unfold lo_ok at a8 ⊢
      rw [eX 130 (by omega), show J' (X + 130 + 1) = J (X + 130 + 1) from eX 131 (by omega)]
      exact a8
    · rw [eX 16 (by omega)]; exact a9
    · rw [e13]; exact a10
    · rw [hv, e13]; omega
    · rw [e13, e160]; exact a12
  · exact cl_R_e hR ht.1.hu.2 (funext (fun i => fJ X i (by omega))) eX (fun k _ q => eM k (by omega)) (fun i _ => by rw [eM0])
  · rw [ecf]
    exact ⟨n, d0, dl, ro_H_x hH eX, hd0, hdl, hV⟩
  · rw [e13, e160] at q
    obtain ⟨n2, sf, a, b⟩ := hB.2 q
    rw [ecf]
    exact ⟨n2, sf, ha_H_x a eX, ha_V_e b eX (by rw [e160]) e163⟩
  · rw [fT b (by omega), show J' b = J b from funext (fun i => fJ _ _ (by omega))]
    exact hl b q
/-- the class's legs, told by its own plan -/
theorem to_ro (h : to_I en X M N O z0 w0 T0 J0 k T J P L z w) (hn : J (M + 2) 4 = (n : Int)) (hn6 : n ≤ 6) : ∃ d0 dl, ro_H J X n (cl_cf J X) d0 dl ∧ (∀ k, d0 k < 100000) ∧ (∀ f t, dl f t < 100000) ∧ (J (X + 157) 5 = J (X + 132) 13 → ro_V J X n d0 dl) := by
  have hpn := to_spn h
  have hpk := h.pok
  by_cases q : J (X + 157) 5 = J (X + 132) 13
  · obtain ⟨n', d0, dl, h1, h2, h3, h4⟩ := h.2.2.2.2.1.1 q
    have e : n' = n := by have := h1.1; omega
    subst e
    exact ⟨d0, dl, h1, h2, h3, fun _ => h4⟩
  · obtain ⟨d0, dl, h1, h2, h3⟩ := ro_ex (C := cl_cf J X) hpk.1.2 hpk.2.1.2 hpk.2.2.1.2 hpk.2.2.2.1.2 (hpn.trans hn) hn6
    exact ⟨d0, dl, h1, h2, h3, fun q2 => absurd q2 q⟩
/-- .. in the reference's words -/
theorem to_d0 (h : to_I en X M N O z0 w0 T0 J0 k T J P L z w) (hH : ro_H J X n (cl_cf J X) d0 dl) {t : Nat} (ht : t < n) : (a_is (md_cf J M) (cl_spt J X t) = true → b_ans (w_sd (md_cf J M) (a_of (J (M + 22) 0))) (w_E (md_cf J M) 0) (cl_spt J X t) (d0 t)) ∧ (¬ a_is (md_cf J M) (cl_spt J X t) = true → d0 t = -2) := by
  have h1 := (hH.2.2.1 t ht).1
  have ok := h.inv.ok
  rw [to_pi h] at h1
  constructor
  · intro hi
    obtain ⟨r, hr⟩ := b_ans_ex (w_sd (md_cf J M) (a_of (J (M + 22) 0))) (w_E (md_cf J M) 0) (cl_spt J X t)
    rw [← h1 r (by rw [cf_fw (to_cf h)]; exact Or.inl ⟨hi, by rw [g_E_0 ok]; exact hr⟩)]
    exact hr
  · intro hi
    exact (h1 (-2) (by rw [cf_fw (to_cf h)]; exact Or.inr ⟨hi, rfl⟩)).symm
theorem to_dl (h : to_I en X M N O z0 w0 T0 J0 k T J P L z w) (hH : ro_H J X n (cl_cf J X) d0 dl) {f t : Nat} (hf : f < n) (ht : t < n) : ((a_is (md_cf J M) (cl_spt J X f) = true ∧ a_is (md_cf J M) (cl_spt J X t) = true) → b_ans (fun x => x = cl_spt J X f) (w_E (md_cf J M) 0) (cl_spt J X t) (dl f t)) ∧ (¬ (a_is (md_cf J M) (cl_spt J X f) = true ∧ a_is (md_cf J M) (cl_spt J X t) = true) → dl f t = -2) := by
  have h1 := (hH.2.2.2 f t hf ht).1
  have ok := h.inv.ok
  have hn := hH.1
  constructor
  · intro hi
    obtain ⟨r, hr⟩ := b_ans_ex (fun x => x = cl_spt J X f) (w_E (md_cf J M) 0) (cl_spt J X t)
    rw [← h1 r (by
      unfold cl_leg
      rw [cf_is (to_cf h), if_pos ⟨⟨by omega, hi.1⟩, hi.2⟩, cf_sd (to_cf h), cf_gE (to_cf h), w_sd_t hi.1, g_E_0 ok]
      exact hr)]
    exact hr
  · intro hi
    exact (h1 (-2) (by
      unfold cl_leg
      rw [cf_is (to_cf h), if_neg (fun q => hi ⟨q.1.2, q.2⟩)])).symm
theorem a_lm_30 {b f : Int} : ∀ m : Nat, (∀ k : Nat, k < m → a_bit b (k : Int) ≠ 1 → 30000 ≤ tb (6 * f + (k : Int)).toNat + lf (7 * a_set b (k : Int) + (k : Int)).toNat) → 30000 ≤ a_lm tb lf b f m := by
  intro m
  induction m with
  | zero => intro _; exact Int.le_refl _
  | succ m ih =>
    intro h
    unfold a_lm
    have h1 := ih (fun k hk => h k (by omega))
    by_cases q : a_bit b (m : Int) = 1
    · rw [if_pos q]; exact h1
    · rw [if_neg q]
      have := h m (by omega) q
      unfold a_mn
      split <;> omega
theorem ro_fb : ∀ n : Nat, n < 7 → ∀ u : Nat, u < n → a_bit (a_fu (n : Int)) (u : Int) = 1 := by decide +kernel
def ro_F (n : Nat) (U : Nat → Prop) (f : Int) : Prop := f = 6 ∨ ∃ i : Nat, f = i ∧ i < n ∧ ¬ U i
/-- a spot that cannot be: the table is never -/
theorem ro_nev (hn : n ≤ 6) (hl : s_lf (n : Int) tb lf (-1) 0) (htb : a_tbb tb (n : Int)) {U : Nat → Prop} {u : Nat} (hu : u < n) (hU : U u) (ht : ∀ (f : Int) (t : Nat), t < n → U t → ro_F n U f → 30000 ≤ tb (6 * f + (t : Int)).toNat) :
    ∀ (m : Nat) (b f : Int), (64 - b).toNat = m → (0 ≤ b ∧ b ≤ a_fu (n : Int)) → ro_F n U f → (∀ t : Nat, t < n → U t → a_bit b (t : Int) ≠ 1) → 30000 ≤ lf (7 * b + f).toNat := by
  have hf := a_fu_b (n := (n : Int)) (by omega)
  intro m
  induction m using Nat.strongRecOn with
  | ind m ih =>
    intro b f hm hb hff hbit
    have hfb : (0 ≤ f ∧ f < (n : Int)) ∨ f = 6 := by
      rcases hff with h | ⟨i, h1, h2, -⟩
      · exact Or.inr h
      · exact Or.inl (by omega)
    have e := (hl b f (Or.inl ⟨by omega, hb.2, by omega, by omega⟩)).1
    rw [e]
    unfold a_ll
    rw [if_neg (fun q => hbit u hu hU (by rw [q]; exact ro_fb n (by omega) u hu)), if_pos (by omega), show ((n : Int)).toNat = n by omega]
    refine a_lm_30 n (fun t h1 h2 => ?_)
    have hbs := a_bs (b := b) (t := (t : Int)) (by omega) (by omega)
    have hle := hf.2 b (t : Int) hb.1 hb.2 (by omega) (by omega)
    have hlt := hbs.2.2.2 h2
    by_cases q : U t
    · have k1 := ht f t h1 q hff
      have k2 := (hl (a_set b (t : Int)) (t : Int) (Or.inl ⟨by omega, hle, by omega, by omega⟩)).2.1
      omega
    · have k1 := ih (64 - a_set b (t : Int)).toNat (by omega) (a_set b (t : Int)) (t : Int) rfl ⟨hbs.2.1, hle⟩ (Or.inr ⟨t, rfl, h1, q⟩) (fun j hj hUj => by
        rw [o_b (by omega) (by omega) (by omega), if_neg (fun e => q (by rw [← e]; exact hUj))]
        exact hbit j hj hUj)
      have k2 := (htb f (t : Int) (by rcases hfb with h | h; exact Or.inl h; exact Or.inr h) (by omega)).1
      omega
/-- an order has every spot -/
theorem o_mem (o : List Nat) (hd : o.Nodup) (hb : ∀ k ∈ o, k < n) (hl : o.length = n) {u : Nat} (hu : u < n) : u ∈ o := by
  by_cases q : u ∈ o
  · exact q
  · have hp := b_pig n ((List.range n).filter (fun k => decide (k ≠ u))) (fun i => o.getD i 0) (fun i j hi hj e => by
      have e : o.getD i 0 = o.getD j 0 := e
      rw [List.getD_eq_getElem?_getD, List.getD_eq_getElem?_getD, List.getElem?_eq_getElem (by omega), List.getElem?_eq_getElem (by omega)] at e
      exact (List.getElem_inj hd).mp e) (fun i hi => by
      have hm : o.getD i 0 ∈ o := by
        rw [List.getD_eq_getElem?_getD, List.getElem?_eq_getElem (by omega)]
        exact List.getElem_mem _
      exact List.mem_filter.mpr ⟨List.mem_range.mpr (hb _ hm), decide_eq_true (fun e => q (by rw [← e]; exact hm))⟩)
    have hlt := o_fl_lt (p := fun _ => true) (p' := fun k => decide (k ≠ u)) (fun _ _ => rfl) (x := u) rfl (by simp) (List.range n) (List.mem_range.mpr hu)
    rw [List.filter_eq_self.mpr (fun _ _ => rfl : ∀ a ∈ List.range n, (fun _ => true) a = true), List.length_range] at hlt
    omega
theorem o_ch_m {u : Nat} : ∀ (o : List Nat) (c : Option Nat), o_ch d0 dl c o → u ∈ o → 0 ≤ o_lg d0 dl c u ∨ ∃ i ∈ o, 0 ≤ dl i u
  | [], _, _, h => absurd h List.not_mem_nil
  | a :: o, c, hc, h => by
    rcases List.mem_cons.mp h with rfl | h
    · exact Or.inl hc.1
    · rcases o_ch_m o (some a) hc.2 h with q | ⟨i, q1, q2⟩
      · exact Or.inr ⟨a, List.mem_cons_self, q⟩
      · exact Or.inr ⟨i, List.mem_cons_of_mem _ q1, q2⟩
/-- the class's best order and the reference's table -/
theorem to_rt (h : to_I en X M N O z0 w0 T0 J0 k T J P L z w) (hn : J (M + 2) 4 = (n : Int)) (hn6 : n ≤ 6) (hH : ro_H J X n (cl_cf J X) d0 dl) (hV : ro_V J X n d0 dl) (htb : s_tb J M tb (n : Int)) (hl : s_lf (n : Int) tb lf (-1) 0) :
    (30000 ≤ lf 6 ∧ J (X + 157) 4 = -2) ∨ ((0 ≤ lf 6 ∧ lf 6 < 30000) ∧ J (X + 157) 4 = lf 6 ∧ ∀ (k : Nat) (r : Int), k < n → s_sp tb lf (n : Int) (k + 1) 0 6 r → r = J (X + 159) k) := by
  have ok := h.inv.ok
  have htbb : a_tbb tb (n : Int) := s_tb_b hn (by omega) htb
  have hfu := (a_fu_b (n := (n : Int)) (by omega)).1
  have h00 : ro_I n 0 [] := ⟨⟨Int.le_refl _, hfu.1⟩, rfl, Nat.zero_le _, fun k hk => absurd hk List.not_mem_nil⟩
  have la0 : ro_la [] = 6 := rfl
  have l6 : (7 * (0 : Int) + 6).toNat = 6 := rfl
  have hspt : ∀ t : Nat, t < n → md_sp J M (t : Int) = a_no (cl_spt J X t) ∧ a_bx (cl_spt J X t) ∧ w_rs (cl_spt J X t) := fun t ht => by
    have := to_spt h (x := (t : Int)) (by omega)
    rw [Int.toNat_natCast] at this
    exact this
  have hV2 : jb_R n (ro_go n d0 dl (n + 1) 0 0 0 (hV.choose, -2, hV.choose_spec.choose)) (jb_f (ro_L n d0 dl (n + 1) 0 0 []) (-2, [])) := (ro_go_L hn6 (n + 1) 0 0 [] (hV.choose, -2, hV.choose_spec.choose) (-2, []) (Int.le_refl _) (fun i hi => absurd hi (Nat.not_lt_zero i)) ⟨rfl, fun q => absurd rfl q⟩).2
  have hV4 := hV.choose_spec.choose_spec.1
  have hV5 := hV.choose_spec.choose_spec.2
  have hemp : ro_L n d0 dl (n + 1) 0 0 [] = [] → J (X + 157) 4 = -2 := fun e => by
    rw [hV4, hV2.1, e]
    rfl
  have hnone : (∀ v, ¬ v ∈ ro_L n d0 dl (n + 1) 0 0 []) → J (X + 157) 4 = -2 := fun q => hemp (List.eq_nil_iff_forall_not_mem.mpr q)
  have h6 : 0 ≤ lf 6 := by
    have := (ro_lf hn6 hl h00).2.2
    rw [la0, l6] at this
    exact this
  by_cases hπ : a_is (md_cf J M) (a_of (J (M + 22) 0)) = true
  · have hπ0 := (to_is h).mp hπ
    by_cases hst : ∀ t, t < n → a_is (md_cf J M) (cl_spt J X t) = true
    · -- all stand
      have b0 : ∀ t, t < n → b_ans (fun x => x = a_of (J (M + 22) 0)) (w_E (md_cf J M) 0) (cl_spt J X t) (d0 t) := fun t ht => by
        have := (to_d0 h hH ht).1 (hst t ht)
        rw [w_sd_t hπ] at this
        exact this
      have b1 : ∀ f t, f < n → t < n → b_ans (fun x => x = cl_spt J X f) (w_E (md_cf J M) 0) (cl_spt J X t) (dl f t) := fun f t hf ht => (to_dl h hH hf ht).1 ⟨hst f hf, hst t ht⟩
      have hT : ro_T2 n d0 dl tb := by
        refine ⟨fun t ht => ?_, fun f t hf ht => ?_⟩
        · obtain ⟨e1, e2, e3⟩ := hspt t ht
          obtain ⟨⟨r, hr, hb, hv⟩, -⟩ := htb (t : Int) (by omega) (by omega)
          have hr2 : s_ans (md_cf J M) (md_sp J M (t : Int)) 0 (J (M + 22) 0) r := by
            rcases hr with ⟨q, -⟩ | ⟨-, q⟩
            · exact absurd hπ0 q
            · exact q
          have hbd := s_ans_bd ok hr2
          rw [e1, ← to_no h] at hr2
          have er : r = d0 t := b_ans_u ((w_ans ok hπ (hst t ht) e3).mp hr2) (b0 t ht)
          subst er
          rw [show 36 + t = (36 + (t : Int)).toNat by omega, hv]
          refine ⟨?_, by omega⟩
          rcases hbd with q | q
          · rw [if_pos q, if_pos (by omega)]
          · rw [if_neg (by omega), if_neg (by omega)]
        · obtain ⟨e1, e2, e3⟩ := hspt t ht
          obtain ⟨f1, f2, f3⟩ := hspt f hf
          obtain ⟨hb, hc⟩ := (htb (t : Int) (by omega) (by omega)).2 (f : Int) (by omega) (by omega)
          rw [show 6 * f + t = (6 * (f : Int) + (t : Int)).toNat by omega]
          rcases hc hπ0 with ⟨q1, q2⟩ | ⟨-, q1, -⟩ | ⟨-, q1, r, q2, q3⟩
          · have eγ : cl_spt J X f = cl_spt J X t := a_no_inj f2 e2 (by rw [← f1, ← e1]; exact q1)
            have hz : dl f t = 0 := by
              have := (v_an (b1 f t hf ht)).2 0 eγ
              omega
            rw [hz, q2]
            exact ⟨rfl, by omega⟩
          · rw [f1, a_of_no f2] at q1
            exact absurd (hst f hf) q1
          · have hbd := s_ans_bd ok q2
            rw [e1, f1] at q2
            have er : r = dl f t := b_ans_u ((w_ans ok (hst f hf) (hst t ht) e3).mp q2) (b1 f t hf ht)
            subst er
            rw [q3]
            refine ⟨?_, by omega⟩
            rcases hbd with q | q
            · rw [if_pos q, if_pos (by omega)]
            · rw [if_neg (by omega), if_neg (by omega)]
      by_cases hlt : lf 6 < 30000
      · obtain ⟨G, G1, G2, G3⟩ := ro_best hn6 hl hT (n + 1) 0 0 [] (-2, []) h00 (by simp) (Int.le_refl _) (by rw [la0, l6]; exact hlt) (Or.inl rfl)
        rw [la0, l6] at G1
        rw [la0] at G3
        have G2' : G.length = n := by simpa using G2
        refine Or.inr ⟨⟨h6, hlt⟩, ?_, fun k r hk hr => ?_⟩
        · rw [hV4, hV2.1, G1]
          show 0 + lf 6 = lf 6
          omega
        · rw [G3 k r (by omega) hr, hV5]
          have := hV2.2 (by rw [G1]; show 0 + lf 6 ≠ -2; omega) k hk
          rw [this, G1]
          rfl
      · refine Or.inl ⟨by omega, hnone (fun v hv => ?_)⟩
        obtain ⟨v', v1, v2⟩ := v_bd ok hn6 hπ (fun i hi => ⟨hst i hi, (hspt i hi).2.2⟩) b0 b1 hv
        have := ro_low hn6 hl hT (n + 1) 0 0 [] h00 v' v1
        rw [la0, l6] at this
        omega
    · -- a spot that does not stand
      obtain ⟨u, hu⟩ := Classical.not_forall.mp hst
      obtain ⟨hu1, hu2⟩ := Classical.not_imp.mp hu
      obtain ⟨u1, u2, u3⟩ := hspt u hu1
      have dead : ∀ t, t < n → md_sp J M (t : Int) = md_sp J M (u : Int) → ¬ a_is (md_cf J M) (cl_spt J X t) = true := fun t ht e => by
        obtain ⟨e1, e2, -⟩ := hspt t ht
        rw [show cl_spt J X t = cl_spt J X u from a_no_inj e2 u2 (by rw [← e1, ← u1]; exact e)]
        exact hu2
      have hnv := ro_nev hn6 hl htbb (U := fun t => md_sp J M (t : Int) = md_sp J M (u : Int)) hu1 rfl (fun f t ht hU hff => by
        obtain ⟨e1, e2, e3⟩ := hspt t ht
        have hno := dead t ht hU
        have hgo : ∀ m r, s_ans (md_cf J M) (md_sp J M (t : Int)) 0 m r → r = -2 := fun m r hr => by
          rw [e1] at hr
          exact s_ans_u hr (w_no_g e2 hno)
        rcases hff with rfl | ⟨i, rfl, hi, hUi⟩
        · obtain ⟨⟨r, hr, hb, hv⟩, -⟩ := htb (t : Int) (by omega) (by omega)
          rw [show 6 * (6 : Int) + (t : Int) = 36 + (t : Int) by omega, hv]
          rcases hr with ⟨q, -⟩ | ⟨-, q⟩
          · exact absurd hπ0 q
          · rw [if_pos (hgo _ _ q)]; exact Int.le_refl _
        · obtain ⟨hb, hc⟩ := (htb (t : Int) (by omega) (by omega)).2 (i : Int) (by omega) (by omega)
          rcases hc hπ0 with ⟨q1, -⟩ | ⟨-, -, q⟩ | ⟨-, -, r, q2, q3⟩
          · exact absurd (q1.trans hU) hUi
          · rw [q]; exact Int.le_refl _
          · rw [q3, if_pos (hgo _ _ q2)]; exact Int.le_refl _) _ 0 6 rfl ⟨Int.le_refl _, hfu.1⟩ (Or.inl rfl) (fun t ht _ => by
        have : ∀ t : Nat, t < 6 → a_bit 0 (t : Int) ≠ 1 := by decide
        exact this t (by omega))
      rw [l6] at hnv
      refine Or.inl ⟨hnv, hnone (fun v hv => ?_)⟩
      obtain ⟨o, q1, q2, q3, q4⟩ := o_get hn6 (n + 1) 0 0 [] ⟨by omega, by omega⟩ (Nat.zero_le _) v hv
      have hm := o_mem o q2 (fun k hk => (q3 k hk).1) (by simpa using q4) hu1
      rcases o_ch_m o none q1 hm with g | ⟨i, g1, g2⟩
      · have : d0 u = -2 := (to_d0 h hH hu1).2 hu2
        have g : 0 ≤ d0 u := g
        omega
      · have := (to_dl h hH (q3 i g1).1 hu1).2 (fun q => hu2 q.2)
        omega
  · -- NOW does not stand
    have hπ0 : ¬ a_why (md_cf J M) (a_of (J (M + 22) 0)) = 0 := fun q => hπ ((to_is h).mpr q)
    cases n with
    | zero =>
      have e6 := (ro_lf hn6 hl h00).1 (Nat.le_refl 0)
      rw [la0, l6] at e6
      refine Or.inr ⟨⟨h6, by omega⟩, ?_, fun k r hk => absurd hk (Nat.not_lt_zero k)⟩
      rw [hV4, hV2.1, e6]
      rfl
    | succ n' =>
      have hnv := ro_nev hn6 hl htbb (U := fun _ => True) (u := 0) (by omega) trivial (fun f t ht hU hff => by
        rcases hff with rfl | ⟨i, rfl, hi, hUi⟩
        · obtain ⟨⟨r, hr, hb, hv⟩, -⟩ := htb (t : Int) (by omega) (by omega)
          rw [show 6 * (6 : Int) + (t : Int) = 36 + (t : Int) by omega, hv]
          rcases hr with ⟨-, q⟩ | ⟨q, -⟩
          · rw [if_pos q]; exact Int.le_refl _
          · exact absurd q hπ0
        · exact absurd trivial hUi) _ 0 6 rfl ⟨Int.le_refl _, hfu.1⟩ (Or.inl rfl) (fun t ht _ => by
        have : ∀ t : Nat, t < 6 → a_bit 0 (t : Int) ≠ 1 := by decide
        exact this t (by omega))
      rw [l6] at hnv
      refine Or.inl ⟨hnv, hnone (fun v hv => ?_)⟩
      obtain ⟨o, q1, q2, q3, q4⟩ := o_get hn6 (n' + 1 + 1) 0 0 [] ⟨by omega, by omega⟩ (Nat.zero_le _) v hv
      cases o with
      | nil => simp at q4
      | cons a o =>
        have ha := (q3 a List.mem_cons_self).1
        have g : 0 ≤ d0 a := q1.1
        by_cases hi : a_is (md_cf J M) (cl_spt J X a) = true
        · have := b_ans_none (fun x q => hπ q.1) ((to_d0 h hH ha).1 hi)
          omega
        · have := (to_d0 h hH ha).2 hi
          omega
theorem t_tour (h : to_I en X M N O z0 w0 T0 J0 k T J P L z w) (hk : k ≤ 600) : m_call en 40 mSc_tour [.ref X] (T, m_I J, P, L, z, w) (to_C en X M N O z0 w0 T0 J0 k mMd_tour [.ref M]) := by
  obtain ⟨⟨⟨zb, wb, hW, hz, hw⟩, -, -⟩, -⟩ := id h
  have hb4 := h.inv.hsb.1
  obtain ⟨n, hn⟩ := Int.eq_ofNat_of_zero_le hb4.1
  have hn6 : n ≤ 6 := by omega
  obtain ⟨d0, dl, hH, hd0, hdl, hc⟩ := to_ro h hn hn6
  obtain ⟨k1, k2, k3⟩ := h.cK.2.2.2.2
  have hd : (32 - n) + n + 8 = 40 := by omega
  rw [← hd]
  refine c_Sc_tour hW hH hd0 hdl ⟨⟨by omega, by omega⟩, ⟨by omega, by omega⟩⟩ hc (fun T' J' P' L' z' w' hW' hq hv hV => ?_)
  have h' := to_XR (M := M) (O := O) (L' := L') (n := n) h hW' hz hw hq.1 (fun b i p => hq.2.1 b i (by omega) (by omega)) (fun b i p => hq.2.2.1 b i (by omega)) hv hH hd0 hdl hV
  refine to_mk h' (fun K Q eK hK eX hQ => ?_)
  have e : ∀ b, b < X + 132 → K b = J b := fun b p => (eX b (by omega)).trans (funext (fun i => hq.2.1 b i (by omega) (by omega)))
  have hnK : K (M + 2) 4 = (n : Int) := by
    rw [← to_spn hK, e _ (by omega), to_spn h]; exact hn
  have hHK : ro_H K X n (cl_cf K X) d0 dl := by rw [x_cf e]; exact ro_H_x hH (fun k2 p => e _ (by omega))
  have hVK : ro_V K X n d0 dl := ro_V_e hV (by rw [eX _ (by omega)]) (eX _ (by omega))
  rw [← eX (X + 157) (by omega)] at hQ
  refine c_Md_tour (d := 30) hK.sh eK hK.inv (fun J1 tb lf fy hi htb hl => ?_)
  rw [hnK] at htb hl
  rcases to_rt hK hnK hn6 hHK hVK htb hl with ⟨q1, q2⟩ | ⟨q1, q2, -⟩
  · rw [if_pos q1, ← q2]
    exact hQ J1 fy hi.hkp
  · rw [if_neg (by omega), ← q2]
    exact hQ J1 fy hi.hkp
theorem t_stop (h : to_I en X M N O z0 w0 T0 J0 k T J P L z w) (hk : k ≤ 600) {x : Int} (hx : m_in x) : m_call en 40 mSc_stop [.ref X, .int (m_i x)] (T, m_I J, P, L, z, w) (to_C en X M N O z0 w0 T0 J0 k mMd_stop [.ref M, .int (m_i x)]) := by
  obtain ⟨⟨⟨zb, wb, hW, hz, hw⟩, -, -⟩, -⟩ := id h
  have hb4 := h.inv.hsb.1
  obtain ⟨n, hn⟩ := Int.eq_ofNat_of_zero_le hb4.1
  have hn6 : n ≤ 6 := by omega
  obtain ⟨d0, dl, hH, hd0, hdl, hc⟩ := to_ro h hn hn6
  obtain ⟨k1, k2, k3⟩ := h.cK.2.2.2.2
  have hd : (32 - n) + n + 8 = 40 := by omega
  rw [← hd]
  refine c_Sc_stop hW hx hH hd0 hdl ⟨⟨by omega, by omega⟩, ⟨by omega, by omega⟩⟩ hc (fun q => ?_) (fun q T' J' P' L' z' w' hW' hq hv hV => ?_)
  · refine to_mk h (fun K Q eK hK eX hQ => ?_)
    have p : ¬ (0 ≤ x ∧ x < K (M + 2) 4) := by rw [← to_spn hK, eX _ (by omega)]; exact q
    exact c_Md_stop (d := 30) hK.sh eK hK.inv hx (fun _ => hQ K (md_fy.refl K M) hK.inv.hkp) (fun p' => absurd p' p) (fun p' => absurd p' p)
  · have h' := to_XR (M := M) (O := O) (L' := L') (n := n) h hW' hz hw hq.1 (fun b i p => hq.2.1 b i (by omega) (by omega)) (fun b i p => hq.2.2.1 b i (by omega)) hv hH hd0 hdl hV
    refine to_mk h' (fun K Q eK hK eX hQ => ?_)
    have e : ∀ b, b < X + 132 → K b = J b := fun b p => (eX b (by omega)).trans (funext (fun i => hq.2.1 b i (by omega) (by omega)))
    have hnK : K (M + 2) 4 = (n : Int) := by
      rw [← to_spn hK, e _ (by omega), to_spn h]; exact hn
    have p : 0 ≤ x ∧ x < K (M + 2) 4 := by rw [← to_spn hK, e _ (by omega)]; exact q
    have hHK : ro_H K X n (cl_cf K X) d0 dl := by rw [x_cf e]; exact ro_H_x hH (fun k2 p => e _ (by omega))
    have hVK : ro_V K X n d0 dl := ro_V_e hV (by rw [eX _ (by omega)]) (eX _ (by omega))
    rw [← eX (X + 157) (by omega), ← eX (X + 159) (by omega)] at hQ
    refine c_Md_stop (d := 30) hK.sh eK hK.inv hx (fun p' => absurd p p') (fun _ J1 tb lf fy hi htb hl hlf => ?_) (fun _ J1 tb lf r fy hi htb hl hlf hs => ?_)
    · rw [hnK] at htb hl
      rcases to_rt hK hnK hn6 hHK hVK htb hl with ⟨-, q2⟩ | ⟨q1, -⟩
      · rw [if_pos (by omega)] at hQ
        exact hQ J1 fy hi.hkp
      · omega
    · rw [hnK] at htb hl hs
      rcases to_rt hK hnK hn6 hHK hVK htb hl with ⟨q1, -⟩ | ⟨q1, q2, q3⟩
      · omega
      · rw [if_neg (by omega), ← q3 x.toNat r (by omega) hs] at hQ
        exact hQ J1 fy hi.hkp
end TTO
