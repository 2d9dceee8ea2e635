/-! THE TIE. What stands depends on the columns of the width alone: the class tells 0 behind it, the reference how deep it is -/
def cf_w (C C' : a_C) : Prop := C.1 = C'.1 ∧ C.2.1 = C'.2.1 ∧ C.2.2.1 = C'.2.2.1 ∧ C.2.2.2.1 = C'.2.2.2.1 ∧ C.2.2.2.2.1 = C'.2.2.2.2.1 ∧ ∀ x : Int, 0 ≤ x → x < C.1 → C.2.2.2.2.2 x = C'.2.2.2.2.2 x
section CFW
variable {C C' : a_C} {goal lev : Int}
theorem cf_cl (h : cf_w C C') {σ : a_S} (h0 : 0 ≤ σ.1 ∧ σ.1 < C.1) (h1 : 0 ≤ σ.1 + σ.2.2.1 ∧ σ.1 + σ.2.2.1 < C.1) : a_cl C σ = true ↔ a_cl C' σ = true := by
  have hn : (0 ≤ σ.2.2.1 ∧ a_abs σ.2.2.1 = σ.2.2.1) ∨ (σ.2.2.1 < 0 ∧ a_abs σ.2.2.1 = -σ.2.2.1) := by unfold a_abs; split <;> omega
  have e1 := h.2.2.2.2.2 _ h1.1 h1.2
  have e2 := h.2.2.2.2.1
  have key : ∀ k : Int, 0 ≤ k → k < a_abs σ.2.2.1 → C.2.2.2.2.2 (if 0 < σ.2.2.1 then σ.1 + k else σ.1 - k) = C'.2.2.2.2.2 (if 0 < σ.2.2.1 then σ.1 + k else σ.1 - k) := by
    intro k h2 h3
    refine h.2.2.2.2.2 _ ?_ ?_ <;> split <;> omega
  rw [a_cl_iff, a_cl_iff, e1, e2]
  constructor
  · rintro ⟨p, q⟩
    exact ⟨fun k h2 h3 => by rw [← key k h2 h3]; exact p k h2 h3, q⟩
  · rintro ⟨p, q⟩
    exact ⟨fun k h2 h3 => by rw [key k h2 h3]; exact p k h2 h3, q⟩
theorem cf_why (h : cf_w C C') : a_why C = a_why C' := by
  funext σ
  unfold a_why
  rw [← h.1, ← h.2.1, ← h.2.2.1, ← h.2.2.2.1]
  by_cases h0 : 0 ≤ σ.1 ∧ σ.1 < C.1
  · by_cases h1 : 0 ≤ σ.1 + σ.2.2.1 ∧ σ.1 + σ.2.2.1 < C.1
    · by_cases h2 : a_cl C σ = true
      · rw [if_pos h2, if_pos ((cf_cl h h0 h1).mp h2)]
      · rw [if_neg h2, if_neg (fun q => h2 ((cf_cl h h0 h1).mpr q))]
    · rw [if_pos h1, if_pos h1]
  · rw [if_pos h0, if_pos h0]
theorem cf_is (h : cf_w C C') : a_is C = a_is C' := by
  funext σ
  unfold a_is
  rw [cf_why h, h.2.2.2.1]
theorem cf_gE (h : cf_w C C') {bw most by_ : Int} : g_E C bw most by_ = g_E C' bw most by_ := by
  funext σ τ
  unfold g_E g_e
  rw [cf_is h]
theorem cf_wE (h : cf_w C C') : w_E C lev = w_E C' lev := by
  funext σ τ
  unfold w_E
  rw [cf_is h]
theorem cf_sd (h : cf_w C C') {π : a_S} : w_sd C π = w_sd C' π := by
  funext σ
  unfold w_sd
  rw [cf_is h]
theorem cf_sh (h : cf_w C C') : w_sh C = w_sh C' := by
  funext σ
  unfold w_sh
  rw [cf_is h]
theorem cf_sS (h : cf_w C C') : s_S C goal = s_S C' goal := by
  funext n
  unfold s_S
  rw [cf_is h]
theorem cf_sE (h : cf_w C C') : s_E C lev = s_E C' lev := by
  funext n m
  unfold s_E
  rw [cf_is h]
theorem cf_ans (h : cf_w C C') : s_ans C goal lev = s_ans C' goal lev := by
  funext n r
  unfold s_ans
  rw [cf_sS h, cf_sE h]
theorem cf_nr (h : cf_w C C') : s_nr C goal = s_nr C' goal := by
  funext n c
  unfold s_nr
  rw [cf_is h, cf_ans h]
theorem cf_first (h : cf_w C C') : s_first C goal = s_first C' goal := by
  funext n c
  unfold s_first
  rw [cf_nr h]
theorem cf_stl (h : cf_w C C') : s_stl C = s_stl C' := by
  funext n c
  unfold s_stl
  rw [cf_is h, cf_ans h, cf_first h]
theorem cf_way (h : cf_w C C') {n0 : Int} : ∀ k, s_way C goal n0 k = s_way C' goal n0 k := by
  intro k
  induction k with
  | zero => rfl
  | succ k ih => funext st; unfold s_way; rw [ih, cf_first h]
theorem cf_can (h : cf_w C C') {s0 : Int} : ∀ n, a_can C s0 n = a_can C' s0 n := by
  intro n
  induction n with
  | zero => rfl
  | succ n ih => unfold a_can; rw [ih, cf_why h]
theorem cf_dr (h : cf_w C C') {wd : Int → Int} {t0 : Int} : ∀ n st k, a_dr C wd t0 n st k = a_dr C' wd t0 n st k := by
  intro n
  induction n with
  | zero => intro st k; rfl
  | succ n ih => intro st k; unfold a_dr; rw [ih, cf_why h]
theorem cf_chn (h : cf_w C C') {t0 n : Int} : ∀ k dr st sw mn, s_chn C t0 n k dr st sw mn = s_chn C' t0 n k dr st sw mn := by
  intro k
  induction k with
  | zero => intro dr st sw mn; rfl
  | succ k ih =>
    intro dr st sw mn
    funext mn' sw' st'
    unfold s_chn
    rw [cf_why h, cf_stl h]
    simp only [ih]
theorem cf_fw (h : cf_w C C') {π γ : a_S} : cl_fw C π γ = cl_fw C' π γ := by
  funext r
  unfold cl_fw
  rw [cf_is h, cf_sd h, cf_gE h]
theorem cf_fx (h : cf_w C C') {by_ most : Int} {π γ : a_S} : cl_fx C by_ most π γ = cl_fx C' by_ most π γ := by
  funext r
  unfold cl_fx
  rw [cf_is h, cf_sd h, cf_gE h]
theorem cf_fh (h : cf_w C C') {γ : a_S} : cl_fh C γ = cl_fh C' γ := by
  funext r
  unfold cl_fh
  rw [cf_is h, cf_sh h, cf_gE h]
theorem cf_ok (h : cf_w C C') (ok : a_ok C') : 4 ≤ C.1 ∧ C.1 ≤ 16 := by rw [h.1]; exact ok.1
end CFW
