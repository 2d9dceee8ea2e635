section MDL
variable {en : Nat → Nat} {d : Nat} {T : Nat → Option (Nat × Nat)} {J J0 : Nat → Nat → Int} {P : Nat → Nat → Option Nat} {L : Nat → Nat → Int64} {z w M : Nat} {Q : m_Q} {σ : a_S}
theorem l_Md_seeksFrom2 (hM : md_sh en M T P) (ok : a_ok (md_cf J0 M)) {goal lev fr : Int} {o6 : Option Value} (hlev : lev = 0 ∨ lev = 1) (hfr : 0 ≤ fr ∧ fr ≤ 38880) (hbd : ∀ t n, b_D (s_S (md_cf J0 M) goal) (s_E (md_cf J0 M) lev) t n → (∀ t', b_D (s_S (md_cf J0 M) goal) (s_E (md_cf J0 M) lev) t' n → t ≤ t') → t < 29999)
    (hq : ∀ (J : Nat → Nat → Int) (k : Nat), md_fs J0 J M → rw_ok J M → b_I (s_S (md_cf J0 M) goal) (s_E (md_cf J0 M) lev) (rf J M) (rq J M) (J M 42).toNat k → (k = (J M 42).toNat ∨ (fr ≠ 38880 ∧ J (M + 20) fr.toNat ≠ 30000)) → Q none (T, m_I J, P, L, z, w)) :
    ∀ (n k : Nat) (J : Nat → Nat → Int) (o : Option Value), k + n = 38881 → md_fs J0 J M → rw_ok J M → b_I (s_S (md_cf J0 M) goal) (s_E (md_cf J0 M) lev) (rf J M) (rq J M) (J M 42).toNat k →
      m_wp en (d + 4) mMd_seeksFrom 137 [some (.ref M), some (.int (m_i goal)), some (.int (m_i lev)), some (.int (m_i fr)), some (.int (m_i (k : Int))), o, o6] [] (T, m_I J, P, L, z, w) Q := by
  intro n
  induction n with
  | zero =>
    intro k J o hk hfx rok hI
    have h1 := hI.2.2.2.2.2.2.2
    have r2 := rok.2.1
    exfalso
    omega
  | succ n ih =>
    intro k J o hk hfx rok hI
    have h1 := hI.2.2.2.2.2.2.2
    have r2 := rok.2.1
    have hin : k < (J M 42).toNat → m_wp en (d + 4) mMd_seeksFrom 167 [some (.ref M), some (.int (m_i goal)), some (.int (m_i lev)), some (.int (m_i fr)), some (.int (m_i (k : Int))), some (.int (m_i 0)), o6] [] (T, m_I J, P, L, z, w) Q := fun hkm =>
      l_Md_seeksFrom1 hM ok hlev hbd (fun J' o' f1 f2 f3 => ih (k + 1) J' o' (by omega) f1 f2 f3) 9 0 J (by omega) (by omega) hfx rok hI hkm (fun c' a b => by omega)
    have hfb : fr < 38880 → 0 ≤ J (M + 20) fr.toNat ∧ J (M + 20) fr.toNat ≤ 30000 := fun q => rok.1 fr.toNat (by omega)
    refine r_il eMd_seeksFrom_137 rfl ?_
    refine r_aln eMd_seeksFrom_139 rfl ?_
    refine r_gete (x := J M 42) eMd_seeksFrom_140 rfl (by decide) hM.2.1 rfl ?_
    refine r_cge (tgt := 247) eMd_seeksFrom_143 rfl ⟨(by omega), (by omega)⟩ ⟨(by omega), (by omega)⟩ (fun c143 => ?_) (fun c143 => ?_)
    · refine r_ret eMd_seeksFrom_247 rfl ?_
      first | exact hq J k hfx rok hI (Or.inl (by omega)) | exact hq J k hfx rok hI (Or.inr ⟨by omega, by omega⟩)
    · refine r_iln eMd_seeksFrom_146 rfl ?_
      refine r_ldc (x := 38880) eMd_seeksFrom_147 rfl (by decide) ?_
      refine r_ceq (tgt := 164) eMd_seeksFrom_149 rfl ⟨(by omega), (by omega)⟩ ⟨(by omega), (by omega)⟩ (fun c149 => ?_) (fun c149 => ?_)
      · refine r_con eMd_seeksFrom_164 ?_
        refine r_is (ls' := [some (.ref M), some (.int (m_i (goal))), some (.int (m_i (lev))), some (.int (m_i (fr))), some (.int (m_i ((k : Int)))), some (.int (m_i (0))), o6]) eMd_seeksFrom_165 (Nat.le_of_ble_eq_true rfl) rfl ?_
        exact hin (by omega)
      · have hfb2 := hfb (by omega)
        refine r_aln eMd_seeksFrom_152 rfl ?_
        refine m_getR eMd_seeksFrom_153 rfl hM.2.1 (md_far_p hM) ?_
        refine r_iln eMd_seeksFrom_156 rfl ?_
        refine r_salde (x := J (M + 20) ((fr).toNat)) eMd_seeksFrom_157 (md_far_t hM) (by decide) (by omega) (by omega) rfl ?_
        refine r_sip eMd_seeksFrom_158 (by decide) ?_
        refine r_cne (tgt := 247) eMd_seeksFrom_161 rfl ⟨(by omega), (by omega)⟩ ⟨(by omega), (by omega)⟩ (fun c161 => ?_) (fun c161 => ?_)
        · refine r_ret eMd_seeksFrom_247 rfl ?_
          first | exact hq J k hfx rok hI (Or.inl (by omega)) | exact hq J k hfx rok hI (Or.inr ⟨by omega, by omega⟩)
        · refine r_con eMd_seeksFrom_164 ?_
          refine r_is (ls' := [some (.ref M), some (.int (m_i (goal))), some (.int (m_i (lev))), some (.int (m_i (fr))), some (.int (m_i ((k : Int)))), some (.int (m_i (0))), o6]) eMd_seeksFrom_165 (Nat.le_of_ble_eq_true rfl) rfl ?_
          exact hin (by omega)
/-- the seeds before column x, or in it before depth e -/
def s_P (n x e : Int) : Prop := (a_of n).1 < x ∨ ((a_of n).1 = x ∧ (a_of n).2.2.2.2 < e)
def s_I (C : a_C) (goal : Int) (J : Nat → Nat → Int) (M : Nat) (x e : Int) : Prop := rw_ok J M ∧
  (∀ n : Int, 0 ≤ n → n < 38880 → (J (M + 20) n.toNat = 0 ∧ (s_S C goal n ∧ s_P n x e) ∧ ∃ i, i < (J M 42).toNat ∧ rq J M i = n) ∨ (J (M + 20) n.toNat = 30000 ∧ ¬ (s_S C goal n ∧ s_P n x e))) ∧
  (∀ i j, i < (J M 42).toNat → j < (J M 42).toNat → rq J M i = rq J M j → i = j) ∧ ∀ i, i < (J M 42).toNat → s_S C goal (rq J M i) ∧ s_P (rq J M i) x e
theorem s_I_b {C : a_C} {goal lev : Int} {J : Nat → Nat → Int} {M : Nat} {x e : Int} (h : s_I C goal J M x e) (hx : ∀ n, s_S C goal n → s_P n x e) : b_I (s_S C goal) (s_E C lev) (rf J M) (rq J M) (J M 42).toNat 0 := by
  obtain ⟨h1, h2, h3, h4⟩ := h
  refine b_init h3 (fun n => ?_) (fun i hi => (h4 i hi).1)
  by_cases hn : 0 ≤ n ∧ n < 38880
  · rcases h2 n hn.1 hn.2 with ⟨a, b, c⟩ | ⟨a, b⟩
    · refine Or.inl ⟨?_, b.1, c⟩
      rw [rf_some hn (by omega), a]
      rfl
    · exact Or.inr ⟨rf_none a, fun q => b ⟨q, hx n q⟩⟩
  · exact Or.inr ⟨if_neg (fun q => hn q.1), fun q => hn q.2.2.1⟩
theorem s_I_put {C : a_C} {goal : Int} {J : Nat → Nat → Int} {M : Nat} {x e : Int} (σ : a_S) (h : s_I C goal J M x e) : s_I C goal (md_put J M σ) M x e := by
  obtain ⟨h1, h2, h3, h4⟩ := h
  have e42 : md_put J M σ M 42 = J M 42 := md_put_f J M σ (by omega)
  refine ⟨rw_put σ h1, fun n a b => ?_, fun i j => ?_, fun i => ?_⟩
  · rw [md_put_o J M σ (by omega), rq_put, e42]; exact h2 n a b
  · rw [rq_put, e42]; exact h3 i j
  · rw [rq_put, e42]; exact h4 i
/-- a state that hangs still -/
theorem a_still_bx {x e : Int} (hx : 0 ≤ x ∧ x < 16) (he : 1 ≤ e ∧ e ≤ 6) : a_bx (x, 0, 0, 0, e) := by
  unfold a_bx
  simp only
  omega
theorem s_P_succ {n x e : Int} : s_P n x (e + 1) ↔ s_P n x e ∨ ((a_of n).1 = x ∧ (a_of n).2.2.2.2 = e) := by
  unfold s_P
  omega
/-- a still state is no seed: the next one -/
theorem s_I_skip {C : a_C} {goal : Int} {J : Nat → Nat → Int} {M : Nat} {x e : Int} (hx : 0 ≤ x ∧ x < 16) (he : 1 ≤ e ∧ e ≤ 6) (h : s_I C goal J M x e) (hn : ¬ s_S C goal (a_no (x, 0, 0, 0, e))) : s_I C goal J M x (e + 1) := by
  obtain ⟨h1, h2, h3, h4⟩ := h
  have key : ∀ n : Int, s_S C goal n → (a_of n).1 = x → (a_of n).2.2.2.2 = e → False := fun n hs a b => by
    obtain ⟨s1, s2, s3, s4, s5, s6⟩ := hs
    have e1 : a_of n = (x, 0, 0, 0, e) := Prod.ext a (Prod.ext s4 (Prod.ext s5 (Prod.ext s6 b)))
    have e2 : n = a_no (x, 0, 0, 0, e) := (a_no_of s3.1).symm.trans (congrArg a_no e1)
    rw [← e2] at hn
    exact hn ⟨s1, s2, s3, s4, s5, s6⟩
  refine ⟨h1, fun n a b => ?_, h3, fun i hi => ⟨(h4 i hi).1, s_P_succ.mpr (Or.inl (h4 i hi).2)⟩⟩
  rcases h2 n a b with ⟨c1, c2, c3⟩ | ⟨c1, c2⟩
  · exact Or.inl ⟨c1, ⟨c2.1, s_P_succ.mpr (Or.inl c2.2)⟩, c3⟩
  · refine Or.inr ⟨c1, fun q => ?_⟩
    rcases s_P_succ.mp q.2 with g | g
    · exact c2 ⟨q.1, g⟩
    · exact key n q.1 g.1 g.2
end MDL
