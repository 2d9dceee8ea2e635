/-! the class's world with its searches -/
def sR (P : Nat → Nat → Option Nat) (S : Nat) : Nat := (P S 0).getD 0
def sU (P : Nat → Nat → Option Nat) (S : Nat) : Nat := (P S 1).getD 0
def sN (T : Nat → Option (Nat × Nat)) (P : Nat → Nat → Option Nat) (S : Nat) : Nat := ((T (sR P S)).getD (0, 0)).2
def cl_o (o : Nat) : Prop := o = 139 ∨ o = 144 ∨ o = 149
/-- a search in the world: its rows, how often they were made and how long in all -/
def cl_s (X N o : Nat) (T : Nat → Option (Nat × Nat)) (P : Nat → Nat → Option Nat) (z c u : Nat) : Prop :=
  (P (X + o) 0 = some (sR P (X + o)) ∧ T (sR P (X + o)) = some (20, sN T P (X + o))) ∧ (P (X + o) 1 = some (sU P (X + o)) ∧ T (sU P (X + o)) = some (20, sN T P (X + o))) ∧ (P (X + o) 4 = some (X + 133) ∨ P (X + o) 4 = some (X + 136)) ∧
  sN T P (X + o) ≤ 38880 ∧ (sR P (X + o) = X + o + 1 ∨ N ≤ sR P (X + o)) ∧ (sU P (X + o) = X + o + 2 ∨ N ≤ sU P (X + o)) ∧ (sR P (X + o) < z ∧ sU P (X + o) < z) ∧ sR P (X + o) ≠ sU P (X + o) ∧
  (216 * c ≤ sN T P (X + o) ∨ (sN T P (X + o) = 38880 ∧ c ≤ 181)) ∧ (u ≤ 2 * sN T P (X + o) ∨ (sN T P (X + o) = 38880 ∧ u ≤ 116640))
def cl_d (X : Nat) (P : Nat → Nat → Option Nat) : Prop := ∀ o o', cl_o o → cl_o o' → o ≠ o' → sR P (X + o) ≠ sR P (X + o') ∧ sR P (X + o) ≠ sU P (X + o') ∧ sU P (X + o) ≠ sU P (X + o')
def cl_V (en : Nat → Nat) (X N zb wb : Nat) (T : Nat → Option (Nat × Nat)) (P : Nat → Nat → Option Nat) (z w : Nat) : Prop := cl_sh en X T P ∧ (X + 165 ≤ N ∧ N ≤ z) ∧ cl_d X P ∧ ∃ c u : Nat → Nat, (∀ o, cl_o o → cl_s X N o T P z (c o) (u o)) ∧ z = zb + 2 * (c 139 + c 144 + c 149) ∧ w = wb + 2 * (u 139 + u 144 + u 149)
/-- what a question leaves as it was -/
def cl_q (X N : Nat) (T : Nat → Option (Nat × Nat)) (J : Nat → Nat → Int) (P : Nat → Nat → Option Nat) (L : Nat → Nat → Int64) (T' : Nat → Option (Nat × Nat)) (J' : Nat → Nat → Int) (P' : Nat → Nat → Option Nat) (L' : Nat → Nat → Int64) : Prop :=
  (∀ b, b < N → T' b = T b) ∧ (∀ b i, b < X + 132 ∨ (X + 156 ≤ b ∧ b < N) ∨ (b = X + 132 ∧ i = 13) → J' b i = J b i) ∧ (∀ b i, b < X + 132 ∨ (X + 165 ≤ b ∧ b < N) → P' b i = P b i) ∧ (∀ b i, b < N → L' b i = L b i)
section WD
variable {en : Nat → Nat} {d : Nat} {T T' T2 : Nat → Option (Nat × Nat)} {J J' J0 J1 J2 K H : Nat → Nat → Int} {P P' P2 : Nat → Nat → Option Nat} {L L' L2 : Nat → Nat → Int64} {z w z' w' A B R U S n X N zb wb o o' A0 : Nat} {Q : m_Q} {σ τ γ : a_S} {C : a_C} {bw most by_ : Int}
theorem cl_q_r : cl_q X N T J P L T J P L := ⟨fun _ _ => rfl, fun _ _ _ => rfl, fun _ _ _ => rfl, fun _ _ _ => rfl⟩
theorem cl_q_t (h : cl_q X N T J P L T' J' P' L') (h2 : cl_q X N T' J' P' L' T2 J2 P2 L2) : cl_q X N T J P L T2 J2 P2 L2 := ⟨fun b q => (h2.1 b q).trans (h.1 b q), fun b i q => (h2.2.1 b i q).trans (h.2.1 b i q), fun b i q => (h2.2.2.1 b i q).trans (h.2.2.1 b i q), fun b i q => (h2.2.2.2 b i q).trans (h.2.2.2 b i q)⟩
theorem cl_q_J (h : ∀ b i, b < X + 132 ∨ (X + 156 ≤ b ∧ b < N) ∨ (b = X + 132 ∧ i = 13) → J' b i = J b i) : cl_q X N T J P L T J' P L := ⟨fun _ _ => rfl, h, fun _ _ _ => rfl, fun _ _ _ => rfl⟩
theorem cl_po (hX : cl_sh en X T P) {k : Nat} (hk : (k, 5, 0) ∈ cl_ob) : po_sh en (X + k) T P := ⟨cl_e hX k, hX.2.1 _ hk, fun q hq => absurd hq List.not_mem_nil⟩
theorem cl_sp (hX : cl_sh en X T P) (hA : A = X + 133 ∨ A = X + 136) : sp_sh en A T P := by
  rcases hA with rfl | rfl
  · refine ⟨cl_e hX 133, hX.2.1 (133, 9, 0) (by decide), fun q hq => ?_⟩
    simp only [sp_tab, List.mem_cons, List.not_mem_nil, or_false] at hq
    rcases hq with rfl | rfl
    · exact ⟨hX.2.2.1 (133, 9, 134) (by decide), hX.2.1 (134, 20, 16) (by decide)⟩
    · exact ⟨hX.2.2.1 (133, 10, 135) (by decide), hX.2.1 (135, 22, 864) (by decide)⟩
  · refine ⟨cl_e hX 136, hX.2.1 (136, 9, 0) (by decide), fun q hq => ?_⟩
    simp only [sp_tab, List.mem_cons, List.not_mem_nil, or_false] at hq
    rcases hq with rfl | rfl
    · exact ⟨hX.2.2.1 (136, 9, 137) (by decide), hX.2.1 (137, 20, 16) (by decide)⟩
    · exact ⟨hX.2.2.1 (136, 10, 138) (by decide), hX.2.1 (138, 22, 864) (by decide)⟩
theorem cl_se (hX : cl_sh en X T P) (ho : cl_o o) : (en 0 ≤ X + o ∧ T (X + o) = some (8, 0)) ∧ (P (X + o) 8 = some (X + o + 3) ∧ po_sh en (X + o + 3) T P) ∧ (P (X + o) 9 = some (X + o + 4) ∧ po_sh en (X + o + 4) T P) := by
  rcases ho with rfl | rfl | rfl
  · exact ⟨⟨cl_e hX 139, hX.2.1 (139, 8, 0) (by decide)⟩, ⟨hX.2.2.1 (139, 8, 142) (by decide), cl_po hX (k := 142) (by decide)⟩, ⟨hX.2.2.1 (139, 9, 143) (by decide), cl_po hX (k := 143) (by decide)⟩⟩
  · exact ⟨⟨cl_e hX 144, hX.2.1 (144, 8, 0) (by decide)⟩, ⟨hX.2.2.1 (144, 8, 147) (by decide), cl_po hX (k := 147) (by decide)⟩, ⟨hX.2.2.1 (144, 9, 148) (by decide), cl_po hX (k := 148) (by decide)⟩⟩
  · exact ⟨⟨cl_e hX 149, hX.2.1 (149, 8, 0) (by decide)⟩, ⟨hX.2.2.1 (149, 8, 152) (by decide), cl_po hX (k := 152) (by decide)⟩, ⟨hX.2.2.1 (149, 9, 153) (by decide), cl_po hX (k := 153) (by decide)⟩⟩
/-- a search stands as its laws want it -/
theorem cl_at (hV : cl_V en X N zb wb T P z w) (ho : cl_o o) (hA : A = X + 133 ∨ A = X + 136) (hP : P (X + o) 4 = some A) : se_at en (X + o) (sR P (X + o)) (sU P (X + o)) (sN T P (X + o)) A T P := by
  obtain ⟨hX, hN, hd, c, u, hs, -, -⟩ := hV
  obtain ⟨s1, s2, -, s4, s5, s6, s7, s8, -⟩ := hs o ho
  obtain ⟨e1, e2, e3⟩ := cl_se hX ho
  have hx0 : en 0 ≤ X := hX.1
  have ho2 := ho
  unfold cl_o at ho2
  exact ⟨e1, ⟨s1.1, s1.2, by omega⟩, ⟨s2.1, s2.2, by omega⟩, ⟨hP, cl_sp hX hA⟩, e2, e3, s4, by omega, by omega, by omega, s8⟩
theorem cl_at0 (hV : cl_V en X N zb wb T P z w) (ho : cl_o o) : ∃ A0, (A0 = X + 133 ∨ A0 = X + 136) ∧ se_at en (X + o) (sR P (X + o)) (sU P (X + o)) (sN T P (X + o)) A0 T P := by
  obtain ⟨c, u, hs, -, -⟩ := hV.2.2.2
  rcases (hs o ho).2.2.1 with q | q
  · exact ⟨_, Or.inl rfl, cl_at hV ho (Or.inl rfl) q⟩
  · exact ⟨_, Or.inr rfl, cl_at hV ho (Or.inr rfl) q⟩
theorem cl_z (hV : cl_V en X N zb wb T P z w) (ho : cl_o o) : (X + o + 5 ≤ z ∧ sR P (X + o) < z ∧ sU P (X + o) < z) ∧ (sR P (X + o) = X + o + 1 ∨ N ≤ sR P (X + o)) ∧ (sU P (X + o) = X + o + 2 ∨ N ≤ sU P (X + o)) := by
  obtain ⟨hX, hN, hd, c, u, hs, -, -⟩ := hV
  obtain ⟨s1, s2, -, s4, s5, s6, s7, s8, -⟩ := hs o ho
  unfold cl_o at ho
  exact ⟨by omega, s5, s6⟩
/-- the shape stays when only new cells and a search's rows change -/
theorem cl_sh_e (hX : cl_sh en X T P) (ho : cl_o o) (hz : X + 165 ≤ z) (hT : ∀ b, b < z → T' b = T b) (hP : ∀ b i, b < z → ¬ (b = X + o ∧ (i = 0 ∨ i = 1 ∨ i = 4)) → P' b i = P b i) : cl_sh en X T' P' := by
  have g1 : ∀ q ∈ cl_ob, q.1 < 165 := by decide +kernel
  have g2 : ∀ q ∈ cl_fd, q.1 < 165 ∧ ((q.1 = 139 ∨ q.1 = 144 ∨ q.1 = 149) → q.2.1 ≠ 0 ∧ q.2.1 ≠ 1 ∧ q.2.1 ≠ 4) := by decide +kernel
  unfold cl_o at ho
  refine ⟨hX.1, fun q hq => ?_, fun q hq => ?_, fun i hi => ?_⟩
  · rw [hT _ (by have := g1 q hq; omega)]
    exact hX.2.1 q hq
  · have h2 := g2 q hq
    rw [hP _ _ (by omega) (fun e => by have := h2.2 (by omega); omega)]
    exact hX.2.2.1 q hq
  · rw [hP _ _ (by omega) (by omega)]
    exact hX.2.2.2 i hi
/-- the world behind begin -/
theorem cl_V_bn (hV : cl_V en X N zb wb T P z w) (ho : cl_o o) (hA : A = X + 133 ∨ A = X + 136) {R' U' n' : Nat} (hb : se_bn en (X + o) A C bw by_ most (sR P (X + o)) (sU P (X + o)) (sN T P (X + o)) T J P L z w R' U' n' T' J' P' L' z' w') (hC : 216 ≤ a_sz C) :
    cl_V en X N zb wb T' P' z' w' ∧ (sR P' (X + o) = R' ∧ sU P' (X + o) = U' ∧ sN T' P' (X + o) = n') ∧ (∀ o', cl_o o' → o' ≠ o → sR P' (X + o') = sR P (X + o') ∧ sU P' (X + o') = sU P (X + o') ∧ sN T' P' (X + o') = sN T P (X + o') ∧ P' (X + o') 4 = P (X + o') 4) ∧ cl_q X N T J P L T' J' P' L' := by
  obtain ⟨hX, hN, hd, c, u, hs, ez, ew⟩ := hV
  obtain ⟨b1, b2, b3, b4, b5, b6, b7, b8, b9⟩ := hb
  have hso := hs o ho
  have p0 := b1.2.1.1
  have t0 := b1.2.1.2.1
  have p1 := b1.2.2.1.1
  have t1 := b1.2.2.1.2.1
  have q4 := b1.2.2.2.1.1
  have eR : sR P' (X + o) = R' := by unfold sR; rw [p0]; rfl
  have eU : sU P' (X + o) = U' := by unfold sU; rw [p1]; rfl
  have eN : sN T' P' (X + o) = n' := by unfold sN; rw [eR, t0]; rfl
  have ho2 := ho
  unfold cl_o at ho2
  have oth : ∀ o', cl_o o' → o' ≠ o → sR P' (X + o') = sR P (X + o') ∧ sU P' (X + o') = sU P (X + o') ∧ sN T' P' (X + o') = sN T P (X + o') ∧ P' (X + o') 4 = P (X + o') 4 := fun o' ho' hne => by
    have h9 := hs o' ho'
    unfold cl_o at ho'
    have e0 := b5 (X + o') 0 (by omega) (by omega)
    have e1 := b5 (X + o') 1 (by omega) (by omega)
    have e4 := b5 (X + o') 4 (by omega) (by omega)
    have r0 : sR P' (X + o') = sR P (X + o') := by unfold sR; rw [e0]
    refine ⟨r0, by unfold sU; rw [e1], ?_, e4⟩
    unfold sN
    rw [r0, b4 _ h9.2.2.2.2.2.2.1.1]
  have hzz : z ≤ z' := by
    rcases b3 with q | q
    · omega
    · omega
  have hRn : R' = sR P (X + o) ∧ U' = sU P (X + o) ∨ z ≤ R' ∧ z ≤ U' := by
    rcases b3 with q | q
    · exact Or.inl ⟨q.1, q.2.1⟩
    · exact Or.inr ⟨by omega, by omega⟩
  refine ⟨⟨cl_sh_e hX ho (by omega) b4 b5, by omega, ?_, ?_⟩, ⟨eR, eU, eN⟩, oth, ⟨fun b hb => b4 b (by omega), fun b i q => ?_, fun b i q => b5 b i (by omega) (by omega), fun b i q => b6 b i (by omega)⟩⟩
  · -- rows are others
    have key : ∀ o', cl_o o' → o' ≠ o → (R' ≠ sR P (X + o') ∧ R' ≠ sU P (X + o')) ∧ U' ≠ sR P (X + o') ∧ U' ≠ sU P (X + o') := fun o' ho' hne => by
      have h7 := (hs o' ho').2.2.2.2.2.2.1
      rcases hRn with q | q
      · have d1 := hd o o' ho ho' (fun e => hne e.symm)
        have d2 := hd o' o ho' ho hne
        rw [q.1, q.2]
        exact ⟨⟨d1.1, d1.2.1⟩, fun e => d2.2.1 e.symm, d1.2.2⟩
      · omega
    intro a a' ha ha' hne
    by_cases qa : a = o
    · subst qa
      have qa' : a' ≠ a := fun e => hne e.symm
      obtain ⟨x1, x2, -, -⟩ := oth a' ha' qa'
      have k1 := key a' ha' qa'
      rw [eR, eU, x1, x2]
      exact ⟨k1.1.1, k1.1.2, k1.2.2⟩
    · obtain ⟨x1, x2, -, -⟩ := oth a ha qa
      by_cases qb : a' = o
      · subst qb
        have k1 := key a ha qa
        rw [eR, eU, x1, x2]
        exact ⟨fun e => k1.1.1 e.symm, fun e => k1.2.1 e.symm, fun e => k1.2.2 e.symm⟩
      · obtain ⟨y1, y2, -, -⟩ := oth a' ha' qb
        rw [x1, x2, y1, y2]
        exact hd a a' ha ha' hne
  · have others : ∀ cc uu o', cl_o o' → o' ≠ o → cl_s X N o' T P z cc uu → cl_s X N o' T' P' z' cc uu := fun cc uu o' ho' hne h9 => by
      obtain ⟨x1, x2, x3, x4⟩ := oth o' ho' hne
      obtain ⟨⟨s1, s1'⟩, ⟨s2, s2'⟩, s3, s4, s5, s6, s7, s8, s9⟩ := h9
      unfold cl_o at ho'
      unfold cl_s
      rw [x1, x2, x3, x4, b5 (X + o') 0 (by omega) (by omega), b5 (X + o') 1 (by omega) (by omega), b4 _ s7.1, b4 _ s7.2]
      exact ⟨⟨s1, s1'⟩, ⟨s2, s2'⟩, s3, s4, s5, s6, by omega, s8, s9⟩
    obtain ⟨⟨s1, s1'⟩, ⟨s2, s2'⟩, s3, s4, s5, s6, s7, s8, s9, s10⟩ := hso
    have hA4 : P' (X + o) 4 = some (X + 133) ∨ P' (X + o) 4 = some (X + 136) := by
      rcases hA with e | e
      · left; rw [q4, e]
      · right; rw [q4, e]
    have hn' := b1.2.2.2.2.2.2.1
    rcases b3 with ⟨r1, r2, r3, r4, r5, r6, r7⟩ | ⟨r1, r2, r3, r4, r5, r6⟩
    · refine ⟨c, u, fun o' ho' => ?_, by omega, by omega⟩
      by_cases q : o' = o
      · subst q
        unfold cl_s
        rw [eR, eU, eN]
        rw [← r1] at s5 s7 s8
        rw [← r2] at s6 s7 s8
        rw [← r3] at s9 s10
        exact ⟨⟨p0, t0⟩, ⟨p1, t1⟩, hA4, hn', s5, s6, by omega, s8, s9, s10⟩
      · exact others _ _ o' ho' q (hs o' ho')
    · refine ⟨fun o' => if o' = o then c o + 1 else c o', fun o' => if o' = o then u o + n' else u o', fun o' ho' => ?_, ?_, ?_⟩
      · by_cases q : o' = o
        · subst q
          simp only [if_true]
          unfold cl_s
          rw [eR, eU, eN]
          refine ⟨⟨p0, t0⟩, ⟨p1, t1⟩, hA4, hn', by omega, by omega, by omega, by omega, ?_, ?_⟩
          · omega
          · omega
        · simp only [q, if_false]
          exact others _ _ o' ho' q (hs o' ho')
      · rcases ho2 with e | e | e <;> subst e <;> simp only [if_true, if_false, Nat.reduceEqDiff, reduceIte] <;> omega
      · rcases ho2 with e | e | e <;> subst e <;> simp only [if_true, if_false, Nat.reduceEqDiff, reduceIte] <;> omega
  · have h5 := hso.2.2.2.2.1
    exact b7 b i (by omega) (by omega) (by omega)
end WD
