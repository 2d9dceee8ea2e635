/-! THE TIE: what was read so far. A: the class's heap, B: the reference's -/
/-- how deep the blocks leave a column, of those that were read -/
def a_cb (B : Nat → Nat → Int) (M x : Nat) : Nat → Int
  | 0 => 6
  | k + 1 => if (B (M + 7) (6 + k) ≤ (x : Int) ∧ (x : Int) ≤ B (M + 8) (6 + k)) ∧ B (M + 9) (6 + k) < a_cb B M x k then B (M + 9) (6 + k) else a_cb B M x k
def rd_R (A B : Nat → Nat → Int) (X M : Nat) : Prop :=
  ((A (X + 3) 0 = B (M + 2) 13 ∧ A (X + 3) 1 = B (M + 2) 14 ∧ A (X + 3) 2 = B (M + 2) 15 ∧ A (X + 3) 3 = B (M + 2) 16) ∧ (A (X + 3) 4 = B (M + 2) 21 ∧ A (X + 3) 5 = B (M + 2) 22 ∧ A (X + 3) 6 = B (M + 2) 23)) ∧
  ((A (X + 15) 5 = B (M + 2) 17 ∧ A (X + 15) 8 = B (M + 2) 18 ∧ A (X + 15) 7 = B (M + 2) 19 ∧ A (X + 15) 4 = B (M + 2) 20 ∧ A (X + 15) 10 = B (M + 2) 24 ∧ A (X + 15) 9 = B (M + 2) 25) ∧ (∀ w : Nat, w < 4 ∨ w = 6 ∨ w = 11 → A (X + 15) w = B (M + 3) w ∧ (B (M + 3) w = 0 ∨ B (M + 3) w = 1)) ∧ (∀ w : Nat, w < 12 → 0 ≤ A (X + 15) w) ∧ (B M 18 ≠ 0 ↔ 0 < re_bg (A (X + 15)))) ∧
  (∀ i : Nat, (i : Int) < B (M + 2) 17 → (A (X + 6) i = B (M + 4) (6 + i) ∧ A (X + 7) i = B (M + 5) (6 + i) ∧ A (X + 8) i = B (M + 6) (6 + i)) ∧ 1 ≤ B (M + 6) (6 + i)) ∧
  (∀ i : Nat, (i : Int) < B (M + 2) 19 → A (X + 9) i = B (M + 10) (8 + i) ∧ A (X + 10) i = B (M + 11) (8 + i)) ∧
  (∀ i j : Nat, i < j → (j : Int) < B (M + 2) 19 → B (M + 10) (8 + i) < B (M + 10) (8 + j)) ∧
  (∀ i : Nat, (i : Int) < B (M + 2) 18 → (A (X + 11) i = B (M + 12) (16 + i) ∧ A (X + 12) i = B (M + 13) (16 + i)) ∧ (12 ≤ B (M + 12) (16 + i) ∧ B (M + 12) (16 + i) ≤ 17) ∧ 1 ≤ B (M + 13) (16 + i)) ∧
  (∀ i : Nat, (i : Int) < B (M + 2) 24 → (A (X + 13) i = B (M + 14) (3 + i) ∧ A (X + 14) i = B (M + 15) (3 + i)) ∧ B (M + 14) (3 + i) < B (M + 2) 13 ∧ B (M + 15) (3 + i) < B (M + 2) 13 ∧ B (M + 14) (3 + i) ≠ B (M + 15) (3 + i)) ∧
  (∀ i : Nat, i < 16 → A (X + 5) i = B (M + 16) (16 + i)) ∧ ∀ i : Nat, i < 16 → A (X + 4) i = a_cb B M i (B (M + 2) 20).toNat
/-- what does not change while a text is read -/
def rd_T (A B : Nat → Nat → Int) (X M : Nat) (n : Int) : Prop := tp_R (A (X + 2)) (B (M + 1)) n ∧ (A (X + 1) 6 = n ∧ B M 20 = n) ∧ ∀ i : Nat, i < 18 → A (X + 16) i = re_W i
section RDR
variable {A B A' B' : Nat → Nat → Int} {X M : Nat} {n : Int} {y x x' y' : a_Q}
theorem rd_wn (hT : rd_T A B X M n) : re_wn (A (X + 16)) y = if y.2.2.2.2.1 = 1 then a_find re_W y.2.2.2.2.2 0 18 0 else -1 := by
  unfold re_wn
  rw [a_find_c (f := A (X + 16)) (g := re_W) (o := 0) 18 0 (fun i _ q => by rw [Nat.zero_add]; exact hT.2.2 i (by omega))]
/-- the word that begins a line -/
theorem its_tie (hT : rd_T A B X M n) (hS : rs_S n y x) : (re_wn (A (X + 16)) y = a_its x ∧ 0 ≤ a_its x ∧ a_its x < 18) ∨ (re_wn (A (X + 16)) y = -1 ∧ a_its x = 12) := by
  rw [rd_wn hT]
  unfold a_its
  rcases hS.2.1.2 with t | ⟨t1, t⟩ | t | t | t | t
  · exact Or.inr ⟨if_neg (by omega), if_neg (by omega)⟩
  · rcases t with t | t
    · rw [if_pos t1, if_pos t.1]
      exact Or.inl ⟨t.2.1, t.2.2.1, t.2.2.2⟩
    · rw [if_pos t1, if_neg (by omega)]
      exact Or.inr ⟨t.2.1, rfl⟩
  · exact Or.inr ⟨if_neg (by omega), if_neg (by omega)⟩
  · exact Or.inr ⟨if_neg (by omega), if_neg (by omega)⟩
  · exact Or.inr ⟨if_neg (by omega), if_neg (by omega)⟩
  · exact Or.inr ⟨if_neg (by omega), if_neg (by omega)⟩
/-- a fault stays -/
theorem go_f {g : Nat → Int} (h : x.2.2.2.2.1 ≠ 0) (hg : s_go g n x x') : x' = x := by
  rcases hg with ⟨g0, -⟩ | ⟨-, g1⟩
  · exact absurd g0 h
  · exact g1
theorem on_tie {f : Nat → Int} (h : tp_R f (B (M + 1)) n) (h20 : B M 20 = n) (hs : rs_F y x ∨ rs_S n y x) {wd : Nat} (hon : s_on B M (wd : Int) x x') : rs_B f n (if B (M + 3) wd ≠ 0 then re_rf 3 y else y) x' := by
  unfold s_on at hon
  rw [h20, show ((wd : Int)).toNat = wd from by omega] at hon
  rcases hs with hs | hs
  · have e : (if B (M + 3) wd ≠ 0 then re_rf 3 y else y) = y := by
      split
      · exact rf_id hs.1
      · rfl
    rw [if_neg (fun q => hs.1 (hs.2.1.symm.trans q.2))] at hon
    rw [e]
    exact Or.inl (go_F hs hon)
  · by_cases c : B (M + 3) wd ≠ 0
    · rw [if_pos ⟨c, hs.1.2⟩] at hon
      rw [if_pos c]
      exact Or.inl (go_F (rf_F hs (by decide)) hon)
    · rw [if_neg (fun q => c q.1)] at hon
      rw [if_neg c]
      exact Or.inr (go_S h hs hon)
theorem wr_r {b : Bool} {k : Int} (hk : k ≠ 0) (hs : rs_S n y x) : rs_F (if b = true then re_rf k y else y) (a_wr b k x) ∨ rs_S n (if b = true then re_rf k y else y) (a_wr b k x) := by
  unfold a_wr
  by_cases c : b = true
  · rw [if_pos c, if_pos ⟨c, hs.1.2⟩]
    exact Or.inl (rf_F hs hk)
  · rw [if_neg c, if_neg (fun q => c q.1)]
    exact Or.inr hs
/-- width, deep, top, swing may stand -/
theorem ms_ra (hT : rd_T A B X M n) (hR : rd_R A B X M) (hS : rs_S n y x) {wd : Nat} (hw : wd < 4) (hon : s_on B M (wd : Int) (a_wr (decide (B M 18 ≠ 0)) 1 x) x') : rs_B (A (X + 2)) n (re_ms (A (X + 15)) (wd : Int) y) x' := by
  obtain ⟨h1, h2⟩ := hR.2.1.2.1 wd (Or.inl hw)
  have hbg := hR.2.1.2.2.2
  have key := on_tie hT.1 hT.2.1.2 (wr_r (b := decide (B M 18 ≠ 0)) (k := 1) (by decide) hS) hon
  have hmt : re_mt wd = 1 := by
    have : wd = 0 ∨ wd = 1 ∨ wd = 2 ∨ wd = 3 := by omega
    rcases this with e | e | e | e <;> subst e <;> rfl
  have e1 : re_ms (A (X + 15)) (wd : Int) y = (if B (M + 3) wd ≠ 0 then re_rf 3 (if decide (B M 18 ≠ 0) = true then re_rf 1 y else y) else (if decide (B M 18 ≠ 0) = true then re_rf 1 y else y)) := by
    unfold re_ms
    rw [show ((wd : Int)).toNat = wd from by omega, hmt]
    by_cases c : B M 18 ≠ 0
    · rw [if_pos (Or.inr (Or.inr ⟨by omega, hbg.mp c⟩)), decide_eq_true c, if_pos rfl]
      have : (re_rf 1 y).1 ≠ 0 := by unfold re_rf; rw [if_pos hS.1.1]; exact (by decide : (1 : Int) ≠ 0)
      rw [rf_id this]
      split <;> rfl
    · rw [if_neg (fun q => q.elim (fun q => by omega) (fun q => q.elim (fun q => by omega) (fun q => c (hbg.mpr q.2)))), show (if decide (B M 18 ≠ 0) = true then re_rf 1 y else y) = y from if_neg (by rw [decide_eq_true_eq]; exact c)]
      by_cases c2 : B (M + 3) wd ≠ 0
      · rw [if_pos (by omega), if_pos rfl, if_pos c2]
      · rw [if_neg (by omega), if_neg c2]
  rw [e1]
  exact key
/-- start and seed may stand -/
theorem ms_on (hT : rd_T A B X M n) (hR : rd_R A B X M) (hS : rs_S n y x) {wd : Nat} (hw : wd = 6 ∨ wd = 11) (hon : s_on B M (wd : Int) x x') : rs_B (A (X + 2)) n (re_ms (A (X + 15)) (wd : Int) y) x' := by
  obtain ⟨h1, h2⟩ := hR.2.1.2.1 wd (Or.inr hw)
  have key := on_tie hT.1 hT.2.1.2 (Or.inr hS) hon
  have hmt : re_mt wd = 1 := by rcases hw with e | e <;> subst e <;> rfl
  have e1 : re_ms (A (X + 15)) (wd : Int) y = (if B (M + 3) wd ≠ 0 then re_rf 3 y else y) := by
    unfold re_ms
    rw [show ((wd : Int)).toNat = wd from by omega, hmt, if_neg (by omega)]
    by_cases c2 : B (M + 3) wd ≠ 0
    · rw [if_pos (by omega), if_pos rfl, if_pos c2]
    · rw [if_neg (by omega), if_neg c2]
  rw [e1]
  exact key
/-- the lines of which there may be several -/
theorem ms_mt (hT : rd_T A B X M n) (hS : rs_S n y x) {wd : Nat} {c mx : Int} (hw : 4 ≤ wd ∧ wd < 12) (hmt : re_mt wd = mx) (hmx : mx ≠ 1) (hc : A (X + 15) wd = c) (hcb : c ≤ mx) (hg : s_go (B (M + 1)) (B M 20) (a_wr (decide (c = mx)) 2 x) x') : rs_B (A (X + 2)) n (re_ms (A (X + 15)) (wd : Int) y) x' := by
  rw [hT.2.1.2] at hg
  have key := wr_S hT.1 hS (b := decide (c = mx)) (k := 2) (by decide) hg
  have e1 : re_ms (A (X + 15)) (wd : Int) y = (if decide (c = mx) = true then re_rf 2 y else y) := by
    unfold re_ms
    rw [show ((wd : Int)).toNat = wd from by omega, hmt, hc, if_neg (by omega)]
    by_cases c2 : c = mx
    · rw [if_pos (by omega), if_neg hmx, decide_eq_true c2, if_pos rfl]
    · rw [if_neg (by omega), decide_eq_false c2, if_neg (by decide)]
  rw [e1]
  exact key
end RDR
