/-! THE TIE: the flow. The class goes on first: V is the heap in which the reference has gone on too -/
def md_ov (M : Nat) (A B : Nat → Nat → Int) : Nat → Nat → Int := fun b i => if M ≤ b ∧ b ≤ M + 26 then B b i else A b i
def fl_d (M : Nat) : Nat → (Nat → Nat → Int) → (Nat → Nat → Int) → Prop
  | 0, A, V => md_E M A V
  | j + 1, A, V => ∃ c, md_go A M c ∧ fl_d M j (md_ft A M c) V
section TFL
variable {en : Nat → Nat} {X M N O z0 w0 : Nat} {T0 : Nat → Option (Nat × Nat)} {J0 : Nat → Nat → Int} {k : Nat} {T T' : Nat → Option (Nat × Nat)} {J J' J1 K : Nat → Nat → Int} {P P' : Nat → Nat → Option Nat} {L L' : Nat → Nat → Int64} {z w z' w' zb wb : Nat} {C : a_C}
variable {A B V F : Nat → Nat → Int}
theorem ov_c {b i : Nat} (h : ¬ (M ≤ b ∧ b ≤ M + 26)) : md_ov M A B b i = A b i := if_neg h
theorem ov_m {b i : Nat} (h : M ≤ b ∧ b ≤ M + 26) : md_ov M A B b i = B b i := if_pos h
theorem ov_up {a j : Nat} {v : Int} (ha : ¬ (M ≤ a ∧ a ≤ M + 26)) : m_up (md_ov M A B) a j v = md_ov M (m_up A a j v) B := by
  funext b i
  by_cases q : M ≤ b ∧ b ≤ M + 26
  · rw [ov_m q, m_up_z (b := b) (a := a) (fun e => ha (by rw [← e.1]; exact q)), ov_m q]
  · rw [ov_c q, m_up_at, m_up_at, ov_c q]
theorem ov_fl {a o : Nat} {f : Nat → Int} {n : Int} (ha : ¬ (M ≤ a ∧ a ≤ M + 26)) : m_fl (md_ov M A B) a o f n = md_ov M (m_fl A a o f n) B := by
  funext b i
  by_cases q : M ≤ b ∧ b ≤ M + 26
  · rw [ov_m q, m_fl_o (b := b) (A := a) (fun e => ha (by rw [← e]; exact q)), ov_m q]
  · rw [ov_c q]
    unfold m_fl
    rw [ov_c q]
theorem ov_po {a : Nat} {σ : a_S} (ha : ¬ (M ≤ a ∧ a ≤ M + 26)) : po_put (md_ov M A B) a σ = md_ov M (po_put A a σ) B := by
  funext b i
  by_cases q : M ≤ b ∧ b ≤ M + 26
  · rw [ov_m q, po_put_o (b := b) (A := a) (fun e => ha (by rw [← e.1]; exact q)), ov_m q]
  · rw [ov_c q]
    unfold po_put
    rw [ov_c q]
theorem ov_g {a : Nat} (ha : ¬ (M ≤ a ∧ a ≤ M + 26)) : po_get (md_ov M A B) a = po_get A a := po_get_e (fun i => ov_c ha)
theorem ov_pu (hb : X + 165 ≤ M) (he : 0 ≤ A (X + 35) 1 ∧ A (X + 35) 1 < 30) : pa_pu (md_ov M A B) X (X + 30) = md_ov M (pa_pu A X (X + 30)) B := by
  unfold pa_pu mo_cp
  rw [show md_ov M A B (X + 30 + 2) = A (X + 30 + 2) from funext (fun i => ov_c (by omega))]
  rw [ov_c (b := X + 35) (i := 1) (by omega), ov_c (b := X + 35) (i := 2) (by omega), ov_c (b := X + 30) (i := 2) (by omega), ov_c (b := X + 30) (i := 3) (by omega), ov_c (b := X + 30) (i := 4) (by omega), ov_g (by omega)]
  rw [ov_po (by omega), ov_fl (by omega), ov_up (by omega), ov_up (by omega), ov_up (by omega), ov_up (by omega), ov_up (by omega)]
theorem ov_t3 (hb : X + 165 ≤ M) (he : 0 ≤ A (X + 35) 1 ∧ A (X + 35) 1 < 30) {c : Int} : cl_t3 (md_ov M A B) X c = md_ov M (cl_t3 A X c) B := by
  unfold cl_t3
  rw [ov_pu hb he, ov_c (by omega)]
  unfold lo_ad
  rw [ov_c (b := X + 33) (i := 1) (by omega), ov_c (b := X + 33) (i := 2) (by omega), ov_up (by omega), ov_up (by omega), ov_up (by omega)]
theorem ov_tk (hb : X + 165 ≤ M) (he : 0 ≤ A (X + 35) 1 ∧ A (X + 35) 1 < 30) {c v : Int} {τ : a_S} : cl_tk (md_ov M A B) X c v τ = md_ov M (cl_tk A X c v τ) B := by
  have e4 : cl_t4 (po_put (md_ov M A B) (X + 164) τ) X c = md_ov M (cl_t4 (po_put A (X + 164) τ) X c) B := by
    unfold cl_t4
    rw [ov_po (by omega), ov_t3 hb (by rw [po_put_o (by omega)]; exact he), ov_g (by omega), ov_po (by omega)]
  have e5 : cl_t5 (po_put (md_ov M A B) (X + 164) τ) X c = md_ov M (cl_t5 (po_put A (X + 164) τ) X c) B := by
    unfold cl_t5
    rw [e4, ov_c (by omega), ov_up (by omega)]
  have e6 : cl_t6 (po_put (md_ov M A B) (X + 164) τ) X c v = md_ov M (cl_t6 (po_put A (X + 164) τ) X c v) B := by
    unfold cl_t6
    rw [e5, e4]
    split
    · rfl
    · rw [ov_c (by omega), ov_up (by omega)]
  unfold cl_tk cl_mv
  rw [e6, ov_c (by omega), ov_up (by omega), ov_up (by omega)]
theorem md_go_u {c c' : Int} (h : md_go J M c) (h' : md_go J M c') : c = c' := s_cod_u h.2.1 h'.2.1
theorem fl_d_E : ∀ (j : Nat) (A : Nat → Nat → Int), fl_d M j A V → md_E M V F → fl_d M j A F := by
  intro j
  induction j with
  | zero => intro A h e; exact md_E.trans h e
  | succ j ih => intro A h e; obtain ⟨c, h1, h2⟩ := h; exact ⟨c, h1, ih _ h2 e⟩
theorem md_ft_45 {c : Int} (h : 0 ≤ A M 45 ∧ A M 45 ≤ 30) : 0 ≤ md_ft A M c M 45 ∧ md_ft A M c M 45 ≤ 30 := by
  unfold md_ft
  rw [md_fo2_o _ _ (by omega), md_tik_45]
  split <;> omega
theorem fl_d_l : ∀ (j : Nat) (A B : Nat → Nat → Int), 0 ≤ A M 45 ∧ A M 45 ≤ 30 → md_E M B A → fl_d M j A V → fl_d M j B V := by
  intro j
  induction j with
  | zero => intro A B _ e h; exact md_E.trans e h
  | succ j ih =>
    intro A B hu e h
    obtain ⟨c, h1, h2⟩ := h
    exact ⟨c, (e.go c).mpr h1, ih _ _ (md_ft_45 hu) (e.ft hu c) h2⟩
theorem fl_d_s : ∀ (j : Nat) (A : Nat → Nat → Int) (c : Int), 0 ≤ V M 45 ∧ V M 45 ≤ 30 → fl_d M j A V → md_go V M c → md_E M (md_ft V M c) F → fl_d M (j + 1) A F := by
  intro j
  induction j with
  | zero => intro A c hu h g e; exact ⟨c, (md_E.go h c).mpr g, (md_E.ft h hu c).trans e⟩
  | succ j ih =>
    intro A c hu h g e
    obtain ⟨c0, h1, h2⟩ := h
    exact ⟨c0, h1, ih _ c hu h2 g e⟩
theorem md_ft_o {c : Int} {b i : Nat} (h : ¬ (M ≤ b ∧ b ≤ M + 26)) : md_ft A M c b i = A b i := by
  unfold md_ft
  rw [md_fo2_o _ _ (by omega), md_tik_o _ _ _ (by omega) (by omega) (by omega)]
theorem fl_w : ∀ (j n : Nat) (A : Nat → Nat → Int) (r : Int) (Jx : Nat → Nat → Int), fl_d M j A V → (j = n ∨ (j < n ∧ ∀ c, ¬ md_go V M c)) → md_flw M n A r Jx → r = (j : Int) ∧ md_E M Jx V ∧ ∀ b i, ¬ (M ≤ b ∧ b ≤ M + 26) → Jx b i = A b i := by
  intro j
  induction j with
  | zero =>
    intro n A r Jx h hs q
    cases n with
    | zero => obtain ⟨q1, q2⟩ := q; rw [q2]; exact ⟨q1, h, fun _ _ _ => rfl⟩
    | succ n =>
      rcases q with ⟨c, q1, -⟩ | ⟨-, q1, q2⟩
      · rcases hs with hs | hs
        · omega
        · exact (hs.2 c ((md_E.go h c).mp q1)).elim
      · rw [q2]; exact ⟨q1, h, fun _ _ _ => rfl⟩
  | succ j ih =>
    intro n A r Jx h hs q
    obtain ⟨c, h1, h2⟩ := h
    cases n with
    | zero => exact absurd hs (by omega)
    | succ n =>
      rcases q with ⟨c', q1, q2⟩ | ⟨q1, -, -⟩
      · obtain rfl := md_go_u h1 q1
        obtain ⟨i1, i2, i3⟩ := ih n _ _ _ h2 (hs.elim (fun e => Or.inl (by omega)) (fun e => Or.inr ⟨by omega, e.2⟩)) q2
        exact ⟨by omega, i2, fun b i e => (i3 b i e).trans (md_ft_o e)⟩
      · exact (q1 c h1).elim
/-- the class has gone on j ticks and stops: the reference goes on as many -/
theorem fl_fin {n : Int} {j : Nat} (hn : 1 ≤ n ∧ n ≤ 40) (h0 : to_I en X M N O z0 w0 T0 J0 k T J P L z w) (h : to_I en X M N O z0 w0 T0 J0 (k + 1) T' V P' L' z' w') (hd : fl_d M j J V) (hs : (j : Int) = n ∨ ((j : Int) < n ∧ ∀ c, ¬ md_go V M c)) : to_C en X M N O z0 w0 T0 J0 k mMd_flow [.ref M, .int (m_i n)] (some (.int (m_i (j : Int)))) (T', m_I (md_ov M V J), P', L', z', w') := by
  have hb := h.2.1.1
  have ht : md_top (md_ov M V J) M := md_top_e h0.top (funext (fun i => ov_m (by omega))) (fun k q => funext (fun i => ov_m (by omega)))
  have hE : md_E M (m_up (md_ov M V J) M 0 0) J := ⟨fun k q => funext (fun i => by rw [m_up_z (by omega), ov_m (by omega)]), fun i q => by rw [m_up_z (by omega), ov_m (by omega)]⟩
  refine ⟨_, T', _, P', L', z', w', rfl, rfl, fun b q => ⟨(h.lo b q).1, (funext (fun i => ov_c (by omega))).trans (h.lo b q).2⟩, ?_⟩
  refine c_Md_flow h.sh rfl (ht.1.fy md_fy_0 (md_kp_0 ht.1.hkp)) ⟨by omega, by omega⟩ (fun q => absurd hn q) (fun _ r Jx J2 hf fx hi => ?_)
  obtain ⟨r1, r2, r3⟩ := fl_w j n.toNat _ r Jx (fl_d_l j _ _ h0.inv.hu hE hd) (hs.elim (fun e => Or.inl (by omega)) (fun e => Or.inr ⟨by omega, e.2⟩)) hf
  refine ⟨J2, by rw [r1], rfl, to_Z h (fun b i e => ?_) ?_ hi⟩
  · rw [fx b i (by omega) (by omega) (by omega), r3 b i e, m_up_z (by omega), ov_c e]
  · refine md_E.trans ⟨fun k q => funext (fun i => fx _ _ (by omega) (by omega) (by omega)), fun i q => fx _ _ (by omega) (by omega) (by omega)⟩ r2
theorem md_E_ov {J2 : Nat → Nat → Int} (e : ∀ b i, (M ≤ b ∧ b ≤ M + 26) → A b i = B b i) : md_E M A B := ⟨fun k q => funext (fun i => e _ _ (by omega)), fun i q => e _ _ (by omega)⟩
/-- one order of the flow -/
theorem fl_on {n j : Int} (hn : 1 ≤ n ∧ n ≤ 40) (hj : 0 ≤ j ∧ j < n) (h0 : to_I en X M N O z0 w0 T0 J0 k T' J P' L' z' w') (h : to_I en X M N O z0 w0 T0 J0 (k + 1) T V P L z w) (hd : fl_d M j.toNat J V) (hv : V (X + 132) 13 ≤ 50 * (k : Int) + 10 + j) :
    m_call en 39 mSc_flowOn [.ref X] (T, m_I (md_ov M V J), P, L, z, w) (fun r s => ∃ T' J' P' L' z' w', s = (T', m_I J', P', L', z', w') ∧ ((r = some (.int (m_i 0)) ∧ to_C en X M N O z0 w0 T0 J0 k mMd_flow [.ref M, .int (m_i n)] (some (.int (m_i j))) s) ∨ (r = some (.int (m_i 1)) ∧ ∃ V', to_I en X M N O z0 w0 T0 J0 (k + 1) T' V' P' L' z' w' ∧ J' = md_ov M V' J ∧ fl_d M (j + 1).toNat J V' ∧ V' (X + 132) 13 ≤ 50 * (k : Int) + 10 + (j + 1)))) := by
  have hb := h.2.1.1
  have eX : ∀ b, b < M → md_ov M V J b = V b := fun b q => funext (fun i => ov_c (by omega))
  have ha := h.rel.2.2.1
  have hu := h.inv.hu
  obtain ⟨⟨⟨zb, wb, hW, hz, hw⟩, -, -⟩, -⟩ := id h
  have hWJ : cl_W en X N zb wb (cl_cf V X) T (md_ov M V J) P z w := cl_W_M hW (by omega) (fun b i e => ov_c e)
  have eow : cl_ow (md_ov M V J) X = cl_ow V X := by
    unfold cl_ow
    rw [eX _ (by omega), eX _ (by omega), eX _ (by omega), eX _ (by omega)]
  have how := to_ow h
  have hj2 : ((j.toNat : Nat) : Int) = j := by omega
  refine c_Sc_flowOn hWJ ?_ ?_ ?_ ?_ ?_ (fun q => ?_) (fun q T2 J2 P2 L2 z2 w2 c hW2 hq h164 hor hc => ?_)
  · have := h.cK.2.1
    unfold cl_os at this ⊢
    have hen := h.en0
    rw [eX _ (by have := this.1.2; omega)]
    exact this
  · have := h.cK.2.2.1.1
    unfold lo_ok at this ⊢
    rw [eX _ (by omega), eX _ (by omega)]
    exact this
  · rw [eX _ (by omega)]; exact ha.2.1
  · rw [eX _ (by omega), ha.1]; exact hu
  · rw [eow]; rcases how with hw2 | hw2 <;> omega
  · refine ⟨_, _, _, _, _, _, rfl, Or.inl ⟨rfl, ?_⟩⟩
    have := fl_fin hn h0 h hd (Or.inr ⟨by omega, fun c g => by
      rw [eow] at q
      rcases how with hw2 | hw2
      · omega
      · have := g.1
        omega⟩)
    rw [hj2] at this
    exact this
  · have hrow : ∀ b i, (M ≤ b ∧ b ≤ M + 26) → J2 b i = J b i := fun b i e => by rw [hq.2.1 b i (by omega), ov_m e]
    have hcl : ∀ b i, b < X + 132 ∨ (X + 156 ≤ b ∧ b < N ∧ ¬ (M ≤ b ∧ b ≤ M + 26)) ∨ (b = X + 132 ∧ i = 13) → J2 b i = V b i := fun b i e => by rw [hq.2.1 b i (by omega), ov_c (by omega)]
    have e2 : J2 = md_ov M (md_ov M J2 V) J := by
      funext b i
      by_cases e : M ≤ b ∧ b ≤ M + 26
      · rw [ov_m e, hrow b i e]
      · rw [ov_c e, ov_c e]
    have h2 : to_I en X M N O z0 w0 T0 J0 (k + 1) T2 (md_ov M J2 V) P2 L2 z2 w2 := by
      refine to_X h (cl_W_M hW2 (by omega) (fun b i e => ov_c e)) hz hw (fun b e => hq.1 b e) (fun b i e => ?_) (fun b i e => hq.2.2.1 b i (by omega))
      by_cases e3 : M ≤ b ∧ b ≤ M + 26
      · rw [ov_m e3]
      · rw [ov_c e3]
        exact hcl b i (by omega)
    have hE2 : md_E M V (md_ov M J2 V) := md_E_ov (J2 := V) (fun b i e => by rw [ov_m e])
    have hd2 := fl_d_E j.toNat J hd hE2
    have ecf : cl_cf (md_ov M J2 V) X = cl_cf V X := cl_cf_e (fun b i e => by rw [ov_c (by omega)]; exact hcl b i (by omega))
    have epi : po_get (md_ov M J2 V) (X + 31) = po_get V (X + 31) := po_get_e (fun i => by rw [ov_c (by omega)]; exact hcl _ i (by omega))
    have eow2 : cl_ow (md_ov M J2 V) X = cl_ow V X := by
      have e5 : ∀ b, b < X + 132 → md_ov M J2 V b = V b := fun b q => funext (fun i => by rw [ov_c (by omega)]; exact hcl b i (by omega))
      unfold cl_ow
      rw [e5 _ (by omega), e5 _ (by omega), e5 _ (by omega), e5 _ (by omega)]
    have how2 := to_ow h2
    rw [eow2] at how2
    rw [eow] at q hor
    rw [ov_g (by omega), ← epi, ← ecf] at hor
    have hgo : ∀ c', md_go (md_ov M J2 V) M c' ↔ c' = c ∧ md_tok (md_ov M J2 V) M c := by
      rcases how2 with hw2 | hw2
      · have hs : s_cod (md_cf (md_ov M J2 V) M) ((md_ov M J2 V) (M + 12) ((md_ov M J2 V) (M + 22) 2).toNat) ((md_ov M J2 V) (M + 22) 0) c := by
          rw [← hw2.2.1]
          have := or_cod (C := cl_cf (md_ov M J2 V) X) (n := (md_ov M J2 V) (M + 22) 0) ⟨hw2.2.2.1, hw2.2.2.2⟩ hor (by rw [to_pi h2, to_no h2])
          unfold s_cod at this ⊢
          rw [cf_stl (to_cf h2)] at this
          exact this
        intro c'
        constructor
        · intro g
          obtain rfl := s_cod_u g.2.1 hs
          exact ⟨rfl, g.2.2⟩
        · rintro ⟨rfl, g⟩
          exact ⟨hw2.1, hs, g⟩
      · omega
    have htok := to_tok h2 c
    have eτ : a_step (po_get J2 (X + 31)) c (cl_wd J2 X (J2 (X + 30) 3)) = a_step (po_get (md_ov M J2 V) (X + 31)) c (cl_wd (md_ov M J2 V) X ((md_ov M J2 V) (X + 30) 3)) := by
      rw [ov_g (by omega), ov_c (by omega), cl_wd_e (J := J2) (J' := md_ov M J2 V) (fun b i _ _ => ov_c (by omega))]
    have et : J2 (X + 30) 3 = (md_ov M J2 V) (X + 30) 3 := by rw [ov_c (by omega)]
    refine ⟨fun q1 => ?_, fun q1 q2 => ?_, fun q1 q2 => ?_⟩
    · refine ⟨_, _, _, _, _, _, rfl, Or.inl ⟨rfl, ?_⟩⟩
      have := fl_fin hn h0 h2 hd2 (Or.inr ⟨by omega, fun c' g => by
        have := (htok.mp ((hgo c').mp g).2).1
        omega⟩)
      rw [hj2, ← e2] at this
      exact this
    · refine ⟨_, _, _, _, _, _, rfl, Or.inl ⟨rfl, ?_⟩⟩
      have h3 := to_164 h2 (J' := po_put (md_ov M J2 V) (X + 164) (a_step (po_get J2 (X + 31)) c (cl_wd J2 X (J2 (X + 30) 3)))) (fun b i q => po_put_o (by omega))
      have hE3 : md_E M (md_ov M J2 V) (po_put (md_ov M J2 V) (X + 164) (a_step (po_get J2 (X + 31)) c (cl_wd J2 X (J2 (X + 30) 3)))) := md_E_ov (J2 := V) (fun b i e => (po_put_o (by omega)).symm)
      have := fl_fin hn h0 h3 (fl_d_E j.toNat J hd2 hE3) (Or.inr ⟨by omega, fun c' g => by
        have := (htok.mp ((hgo c').mp ((hE3.go c').mpr g)).2).2
        rw [← eτ, ecf] at this
        exact q2 this⟩)
      rw [hj2, ← ov_po (by omega), ← e2] at this
      exact this
    · refine ⟨_, _, _, _, _, _, rfl, Or.inr ⟨rfl, ?_⟩⟩
      have he2 := h2.rel.2.2.1.2.1
      have htk : md_tok (md_ov M J2 V) M c := htok.mpr ⟨by omega, by rw [← eτ, ecf]; exact q2⟩
      have hg := (hgo c).mpr ⟨rfl, htk⟩
      have hu2 := h2.inv.hu
      have ek : ∀ b i, M ≤ b → cl_tk (md_ov M J2 V) X c 1 (a_step (po_get J2 (X + 31)) c (cl_wd J2 X (J2 (X + 30) 3))) b i = (md_ov M J2 V) b i := fun b i q => cl_tk_o he2 (by omega)
      have hE : md_E M (cl_tk (md_ov M J2 V) X c 1 (a_step (po_get J2 (X + 31)) c (cl_wd J2 X (J2 (X + 30) 3)))) (md_ov M J2 V) := md_E_ov (J2 := V) (fun b i e => ek b i e.1)
      have hin : md_inv (cl_tk (md_ov M J2 V) X c 1 (a_step (po_get J2 (X + 31)) c (cl_wd J2 X (J2 (X + 30) 3)))) M := (md_top_e h2.top (funext (fun i => ek _ i (by omega))) (fun k q => funext (fun i => ek _ i (by omega)))).1
      have hEf := hE.ft hu2 c
      obtain ⟨o1, o2, o3, o4⟩ := h2.rel.2.1.1.2.2.2.2
      have hr3 := o3 hg.1
      have hr0 := h2.inv.row.2.2.1
      have key := to_tk (F := md_ft (cl_tk (md_ov M J2 V) X c 1 (a_step (po_get J2 (X + 31)) c (cl_wd J2 X (J2 (X + 30) 3)))) M c) (r' := a_fo (a_tik ((md_ov M J2 V) (M + 22)) c (a_no (md_sg (md_ov M J2 V) M c))) ((md_ov M J2 V) (M + 13) ((md_ov M J2 V) (M + 22) 2).toNat)) h2 (Or.inr rfl) hc eτ (by omega) (by rw [ecf]; exact q2) (by
        have : (md_ov M J2 V) (X + 132) 13 = V (X + 132) 13 := by rw [ov_c (by omega)]; exact hcl _ _ (by omega)
        rw [this, Int.natCast_add]
        omega) (fun b i q => ?_) (fun b i q1 q2 q3 q4 => ?_) (fun i q1 q2 => ?_) ?_ (fun i => ?_) (fun i => ?_) (hin.ft ((hE.tok c).mpr htk) ?_) ?_ ?_ ?_ (fun i hi => ?_) (fun i hi => ?_) ?_ ?_
      · refine ⟨md_ft (cl_tk (md_ov M J2 V) X c 1 (a_step (po_get J2 (X + 31)) c (cl_wd J2 X (J2 (X + 30) 3)))) M c, key.1, ?_, ?_, ?_⟩
        · have e7 : cl_tk J2 X c 1 (a_step (po_get J2 (X + 31)) c (cl_wd J2 X (J2 (X + 30) 3))) = md_ov M (cl_tk (md_ov M J2 V) X c 1 (a_step (po_get J2 (X + 31)) c (cl_wd J2 X (J2 (X + 30) 3)))) J := by
            have := ov_tk (M := M) (A := md_ov M J2 V) (B := J) (c := c) (v := 1) (τ := a_step (po_get J2 (X + 31)) c (cl_wd J2 X (J2 (X + 30) 3))) hb.1 he2
            rw [← e2] at this
            exact this
          rw [e7]
          funext b i
          by_cases e : M ≤ b ∧ b ≤ M + 26
          · rw [ov_m e, ov_m e]
          · rw [ov_c e, ov_c e, md_ft_o e]
        · rw [show (j + 1).toNat = j.toNat + 1 from by omega]
          exact fl_d_s j.toNat J c hu2 hd2 hg hEf.symm
        · rw [key.2]
          have : (md_ov M J2 V) (X + 132) 13 = V (X + 132) 13 := by rw [ov_c (by omega)]; exact hcl _ _ (by omega)
          omega
      · rw [md_ft_o (by omega)]
      · unfold md_ft
        rw [md_fo2_o _ _ (by omega), md_tik_o _ _ _ (by omega) (by omega) (by omega), ek _ _ (by omega)]
      · unfold md_ft
        rw [md_fo2_o _ _ (by omega), md_tik_M _ _ _ (by omega) (by omega), ek _ _ (by omega)]
      · unfold md_ft
        rw [md_fo2_o _ _ (by omega), md_tik_45, ek _ _ (by omega)]
      · unfold md_ft
        rw [md_fo2_o _ _ (by omega), md_tik_23 _ hin.hu, md_tt_23 hE hu2]
      · rw [md_ft_22, hE.1 22 (by omega), hE.1 13 (by omega), hE.sg]
      · rw [hE.1 22 (by omega), hE.1 2 (by omega)]; exact hg.1
      · rw [eτ, to_sg h2]; rfl
      · rfl
      · rfl
      · unfold a_fo
        rw [if_neg (by omega), if_neg (by omega), if_neg (by omega)]
        unfold a_tik
        rw [if_neg (by omega), if_neg (by omega), if_neg (by omega), if_neg (by omega), if_neg (by omega), if_neg (by omega), if_neg (by omega)]
      · unfold a_fo
        rw [if_neg (by omega), if_neg (by omega), if_neg (by omega), eτ, to_sg h2]
      · rw [if_neg (by omega)]; rfl
      · have a4 : a_fo (a_tik ((md_ov M J2 V) (M + 22)) c (a_no (md_sg (md_ov M J2 V) M c))) ((md_ov M J2 V) (M + 13) ((md_ov M J2 V) (M + 22) 2).toNat) 4 = (md_ov M J2 V) (M + 22) 4 + 1 := rfl
        have a3 : a_fo (a_tik ((md_ov M J2 V) (M + 22)) c (a_no (md_sg (md_ov M J2 V) M c))) ((md_ov M J2 V) (M + 13) ((md_ov M J2 V) (M + 22) 2).toNat) 3 = if (md_ov M J2 V) (M + 22) 3 + 1 = (md_ov M J2 V) (M + 13) ((md_ov M J2 V) (M + 22) 2).toNat then 0 else (md_ov M J2 V) (M + 22) 3 + 1 := rfl
        have a2 : a_fo (a_tik ((md_ov M J2 V) (M + 22)) c (a_no (md_sg (md_ov M J2 V) M c))) ((md_ov M J2 V) (M + 13) ((md_ov M J2 V) (M + 22) 2).toNat) 2 = if (md_ov M J2 V) (M + 22) 3 + 1 = (md_ov M J2 V) (M + 13) ((md_ov M J2 V) (M + 22) 2).toNat then (md_ov M J2 V) (M + 22) 2 + 1 else (md_ov M J2 V) (M + 22) 2 := rfl
        have hg1 := hg.1
        rw [a4, a3, a2]
        by_cases e : (md_ov M J2 V) (M + 22) 3 + 1 = (md_ov M J2 V) (M + 13) ((md_ov M J2 V) (M + 22) 2).toNat
        · rw [if_pos e, if_pos e]
          have es : a_sum ((md_ov M J2 V) (M + 13)) ((md_ov M J2 V) (M + 22) 2 + 1).toNat = a_sum ((md_ov M J2 V) (M + 13)) ((md_ov M J2 V) (M + 22) 2).toNat + (md_ov M J2 V) (M + 13) ((md_ov M J2 V) (M + 22) 2).toNat := by
            rw [show ((md_ov M J2 V) (M + 22) 2 + 1).toNat = ((md_ov M J2 V) (M + 22) 2).toNat + 1 from by omega]
            rfl
          refine ⟨by rw [es]; omega, by omega, fun q => ?_, fun _ => rfl⟩
          have := (h2.rel.1.2.2.2.2.1 ((md_ov M J2 V) (M + 22) 2 + 1).toNat (by omega)).2.2
          omega
        · rw [if_neg e, if_neg e]
          exact ⟨by omega, by omega, fun _ => by omega, fun q => by omega⟩
theorem t_flow (h : to_I en X M N O z0 w0 T0 J0 k T J P L z w) {x : Int} (hx : m_in x) : m_call en 40 mSc_flow [.ref X, .int (m_i x)] (T, m_I J, P, L, z, w) (to_C en X M N O z0 w0 T0 J0 k mMd_flow [.ref M, .int (m_i x)]) := by
  refine c_Sc_flow hx (fun q => ?_) (fun q => ?_)
  · refine to_mk h (fun K Q eK hK eX hQ => ?_)
    exact c_Md_flow hK.sh eK hK.inv hx (fun _ => hQ K (md_fy.refl K M) hK.inv.hkp) (fun p' => absurd p' q)
  · refine l_Sc_flow q (I := fun j T' J' P' L' z' w' => 0 ≤ j ∧ ∃ V, to_I en X M N O z0 w0 T0 J0 (k + 1) T' V P' L' z' w' ∧ J' = md_ov M V J ∧ fl_d M j.toNat J V ∧ V (X + 132) 13 ≤ 50 * (k : Int) + 10 + j) (fun j T' J' P' L' z' w' hI => ?_) (fun j T' J' P' L' z' w' hI hj => ?_) (fun T' J' P' L' z' w' hI => ?_) x.toNat 0 T J P L z w (Int.le_refl 0) (by omega) ⟨Int.le_refl 0, J, h.kk (Nat.le_succ k), ?_, md_E.refl M J, by have := h.cK.2.2.2.2.1; omega⟩
    · obtain ⟨-, V, hV, -⟩ := hI
      exact hV.csh.2.1 (0, 11, 0) List.mem_cons_self
    · obtain ⟨h0, V, hV, rfl, h1, h2⟩ := hI
      refine m_call_mono _ _ _ _ _ _ (fun r s hr => ?_) (fl_on q ⟨h0, hj⟩ h hV h1 h2)
      obtain ⟨T2, J2, P2, L2, z2, w2, e, hr⟩ := hr
      refine ⟨T2, J2, P2, L2, z2, w2, e, ?_⟩
      rcases hr with hr | ⟨e1, V', a, b, c, d⟩
      · exact Or.inl hr
      · exact Or.inr ⟨e1, by omega, V', a, b, c, d⟩
    · obtain ⟨h0, V, hV, rfl, h1, h2⟩ := hI
      have := fl_fin q h hV h1 (Or.inl (by omega))
      rw [show ((x.toNat : Nat) : Int) = x from by omega] at this
      exact this
    · funext b i
      by_cases e : M ≤ b ∧ b ≤ M + 26
      · rw [ov_m e]
      · rw [ov_c e]
end TFL
