/-! orders by groups: few long ways -/
section TGR
variable {n : Nat} {d0 : Nat → Int} {dl : Nat → Nat → Int} {comp : Nat → Nat} {Rl : List Nat} {D : Int}
def o_lg (d0 : Nat → Int) (dl : Nat → Nat → Int) (c : Option Nat) (k : Nat) : Int := match c with
  | none => d0 k
  | some i => dl i k
def o_to (d0 : Nat → Int) (dl : Nat → Nat → Int) : Option Nat → List Nat → Int
  | _, [] => 0
  | c, k :: o => o_lg d0 dl c k + o_to d0 dl (some k) o
def o_ch (d0 : Nat → Int) (dl : Nat → Nat → Int) : Option Nat → List Nat → Prop
  | _, [] => True
  | c, k :: o => 0 ≤ o_lg d0 dl c k ∧ o_ch d0 dl (some k) o
def o_la (ds : List Nat) : Option Nat := if ds.length < 1 then none else some (ds.getD (ds.length - 1) 0)
theorem o_la_leg {ds : List Nat} {k : Nat} : ro_leg d0 dl ds k = o_lg d0 dl (o_la ds) k := by
  unfold ro_leg o_la
  by_cases c : ds.length < 1
  · rw [if_pos c, if_pos c]; rfl
  · rw [if_neg c, if_neg c]; rfl
theorem o_la_s {ds : List Nat} {k : Nat} : o_la (ds ++ [k]) = some k := by
  unfold o_la
  rw [if_neg (by simp)]
  simp
theorem o_bs : ∀ b : Nat, b < 64 → ∀ k : Nat, k < 6 → ∀ j : Nat, j < 6 → a_bit (a_set (b : Int) (k : Int)) (j : Int) = if j = k then 1 else a_bit (b : Int) (j : Int) := by decide +kernel
theorem o_b {vis : Int} (hv : 0 ≤ vis ∧ vis < 64) {k j : Nat} (hk : k < 6) (hj : j < 6) : a_bit (a_set vis (k : Int)) (j : Int) = if j = k then 1 else a_bit vis (j : Int) := by
  obtain ⟨b, rfl⟩ : ∃ b : Nat, vis = b := ⟨vis.toNat, by omega⟩
  exact o_bs b (by omega) k hk j hj
/-- an order of the list, and its legs -/
theorem o_get (hn : n ≤ 6) : ∀ (f : Nat) (vis st : Int) (ds : List Nat), (0 ≤ vis ∧ vis < 64) → ds.length ≤ n → ∀ v ∈ ro_L n d0 dl f vis st ds, ∃ o : List Nat, o_ch d0 dl (o_la ds) o ∧ o.Nodup ∧ (∀ k ∈ o, k < n ∧ a_bit vis (k : Int) = 0) ∧ ds.length + o.length = n := by
  intro f
  induction f with
  | zero => intro vis st ds _ _ v hv; exact absurd hv List.not_mem_nil
  | succ f ih =>
    intro vis st ds hvis hds v hv
    unfold ro_L at hv
    by_cases c : n ≤ ds.length
    · exact ⟨[], trivial, List.nodup_nil, fun k hk => absurd hk List.not_mem_nil, by simp; omega⟩
    · rw [if_neg c] at hv
      obtain ⟨k, h1, h2, h3, h4⟩ := (ro_LL_m n).mp hv
      have hb := a_bs hvis (t := (k : Int)) (by omega)
      obtain ⟨o, q1, q2, q3, q4⟩ := ih _ _ _ ⟨hb.2.1, hb.2.2.1⟩ (by rw [List.length_append]; simp; omega) v h4
      rw [o_la_s] at q1
      have q3' : ∀ j ∈ o, j ≠ k ∧ a_bit vis (j : Int) = 0 := fun j hj => by
        have := (q3 j hj).2
        rw [o_b hvis (by omega) (by have := (q3 j hj).1; omega)] at this
        by_cases e : j = k
        · rw [if_pos e] at this; omega
        · rw [if_neg e] at this; exact ⟨e, this⟩
      refine ⟨k :: o, ⟨by rw [← o_la_leg]; exact h3, q1⟩, List.nodup_cons.mpr ⟨fun q => (q3' k q).1 rfl, q2⟩, fun j hj => ?_, ?_⟩
      · rcases List.mem_cons.mp hj with rfl | hj
        · exact ⟨h1, h2⟩
        · exact ⟨(q3 j hj).1, (q3' j hj).2⟩
      · rw [List.length_append] at q4
        simp at q4 ⊢
        omega
theorem o_put (hn : n ≤ 6) : ∀ (o : List Nat) (f : Nat) (vis st : Int) (ds : List Nat), (0 ≤ vis ∧ vis < 64) → o_ch d0 dl (o_la ds) o → o.Nodup → (∀ k ∈ o, k < n ∧ a_bit vis (k : Int) = 0) → ds.length + o.length = n → o.length < f → (st + o_to d0 dl (o_la ds) o, ds ++ o) ∈ ro_L n d0 dl f vis st ds := by
  intro o
  induction o with
  | nil =>
    intro f vis st ds hvis _ _ _ hl hf
    match f, hf with
    | f + 1, _ =>
      unfold ro_L
      rw [if_pos (by simp at hl; omega), List.append_nil]
      show (st + 0, ds) ∈ _
      rw [Int.add_zero]
      exact List.mem_singleton.mpr rfl
  | cons k o ih =>
    intro f vis st ds hvis hc hd hb hl hf
    match f, hf with
    | f + 1, hf =>
      unfold ro_L
      simp only [List.length_cons] at hl hf
      rw [if_neg (by omega)]
      obtain ⟨c1, c2⟩ := hc
      obtain ⟨n1, n2⟩ := List.nodup_cons.mp hd
      obtain ⟨k1, k2⟩ := hb k List.mem_cons_self
      have hbs := a_bs hvis (t := (k : Int)) (by omega)
      refine (ro_LL_m n).mpr ⟨k, k1, k2, by rw [o_la_leg]; exact c1, ?_⟩
      have := ih f (a_set vis (k : Int)) (st + ro_leg d0 dl ds k) (ds ++ [k]) ⟨hbs.2.1, hbs.2.2.1⟩ (by rw [o_la_s]; exact c2) n2 (fun j hj => by
        have := hb j (List.mem_cons_of_mem _ hj)
        refine ⟨this.1, ?_⟩
        rw [o_b hvis (by omega) (by omega), if_neg (fun e => n1 (by rw [← e]; exact hj))]
        exact this.2) (by rw [List.length_append]; simp; omega) (by omega)
      rw [o_la_s, List.append_assoc] at this
      show (st + (o_lg d0 dl (o_la ds) k + o_to d0 dl (some k) o), ds ++ ([k] ++ o)) ∈ _
      rw [← o_la_leg, ← Int.add_assoc]
      exact this
theorem o_fl_le {p p' : Nat → Bool} (h : ∀ a, p' a = true → p a = true) : ∀ l : List Nat, (l.filter p').length ≤ (l.filter p).length
  | [] => Nat.le_refl _
  | a :: l => by
    have ih := o_fl_le h l
    rw [List.filter_cons, List.filter_cons]
    by_cases c : p' a = true
    · rw [if_pos c, if_pos (h a c)]
      simp only [List.length_cons]
      omega
    · rw [if_neg c]
      split
      · simp only [List.length_cons]; omega
      · exact ih
theorem o_fl_lt {p p' : Nat → Bool} (h : ∀ a, p' a = true → p a = true) {x : Nat} (hx : p x = true) (hx' : ¬ p' x = true) : ∀ l : List Nat, x ∈ l → (l.filter p').length + 1 ≤ (l.filter p).length
  | [], hm => absurd hm List.not_mem_nil
  | a :: l, hm => by
    have ih0 := o_fl_le h l
    rw [List.filter_cons, List.filter_cons]
    by_cases e : x = a
    · subst e
      rw [if_neg hx', if_pos hx]
      simp only [List.length_cons]
      omega
    · have ih := o_fl_lt h hx hx' l ((List.mem_cons.mp hm).resolve_left e)
      by_cases c : p' a = true
      · rw [if_pos c, if_pos (h a c)]
        simp only [List.length_cons]
        omega
      · rw [if_neg c]
        split
        · simp only [List.length_cons]; omega
        · exact ih
def o_p (comp : Nat → Nat) (c : Option Nat) (rem : List Nat) (r : Nat) : Bool := decide (c.map comp ≠ some r) && rem.any (fun e => decide (comp e = r))
theorem o_p_iff {c : Option Nat} {rem : List Nat} {r : Nat} : o_p comp c rem r = true ↔ c.map comp ≠ some r ∧ ∃ e ∈ rem, comp e = r := by
  unfold o_p
  rw [Bool.and_eq_true, decide_eq_true_iff, List.any_eq_true]
  exact ⟨fun ⟨q, e, h1, h2⟩ => ⟨q, e, h1, of_decide_eq_true h2⟩, fun ⟨q, e, h1, h2⟩ => ⟨q, e, h1, decide_eq_true h2⟩⟩
/-- all that follow can be reached -/
theorem o_all (ht : ∀ i j k, i < n → j < n → k < n → 0 ≤ dl i j → 0 ≤ dl j k → 0 ≤ dl i k) (ht0 : ∀ i j, i < n → j < n → 0 ≤ d0 i → 0 ≤ dl i j → 0 ≤ d0 j) : ∀ (rem : List Nat) (c : Option Nat), (∀ i, c = some i → i < n) → (∀ k ∈ rem, k < n) → o_ch d0 dl c rem → ∀ k ∈ rem, 0 ≤ o_lg d0 dl c k := by
  intro rem
  induction rem with
  | nil => intro c _ _ _ k hk; exact absurd hk List.not_mem_nil
  | cons a rem ih =>
    intro c hc hb h k hk
    rcases List.mem_cons.mp hk with rfl | hk
    · exact h.1
    · have h1 := ih (some a) (fun i e => by cases e; exact hb a List.mem_cons_self) (fun j hj => hb j (List.mem_cons_of_mem _ hj)) h.2 k hk
      have h0 := h.1
      cases c with
      | none => exact ht0 a k (hb a List.mem_cons_self) (hb k (List.mem_cons_of_mem _ hk)) h0 h1
      | some i => exact ht i a k (hc i rfl) (hb a List.mem_cons_self) (hb k (List.mem_cons_of_mem _ hk)) h0 h1
/-- one less: what follows is still a chain -/
theorem o_ch_e (ht : ∀ i j k, i < n → j < n → k < n → 0 ≤ dl i j → 0 ≤ dl j k → 0 ≤ dl i k) (ht0 : ∀ i j, i < n → j < n → 0 ≤ d0 i → 0 ≤ dl i j → 0 ≤ d0 j) (e : Nat) : ∀ (rem : List Nat) (c : Option Nat), (∀ i, c = some i → i < n) → (∀ k ∈ rem, k < n) → o_ch d0 dl c rem → o_ch d0 dl c (rem.erase e) := by
  intro rem
  induction rem with
  | nil => intro c _ _ h; exact h
  | cons a rem ih =>
    intro c hc hb h
    have ha := hb a List.mem_cons_self
    by_cases q : a = e
    · subst q
      rw [List.erase_cons_head]
      cases rem with
      | nil => trivial
      | cons b rem =>
        exact ⟨o_all ht ht0 (a :: b :: rem) c hc hb h b (List.mem_cons_of_mem _ List.mem_cons_self), h.2.2⟩
    · rw [List.erase_cons_tail (by simpa using q)]
      exact ⟨h.1, ih (some a) (fun i e => by cases e; exact ha) (fun j hj => hb j (List.mem_cons_of_mem _ hj)) h.2⟩
/-- the same, from another begin that reaches as much -/
theorem o_ch_c {c c' : Option Nat} : ∀ {rem : List Nat}, (∀ k ∈ rem, 0 ≤ o_lg d0 dl c k → 0 ≤ o_lg d0 dl c' k) → o_ch d0 dl c rem → o_ch d0 dl c' rem
  | [], _, _ => trivial
  | a :: _, h, hc => ⟨h a List.mem_cons_self hc.1, hc.2⟩
/-- by groups: few long legs -/
theorem o_grp (ht : ∀ i j k, i < n → j < n → k < n → 0 ≤ dl i j → 0 ≤ dl j k → 0 ≤ dl i k) (ht0 : ∀ i j, i < n → j < n → 0 ≤ d0 i → 0 ≤ dl i j → 0 ≤ d0 j) (hD : ∀ i j, i < n → j < n → dl i j ≤ D) (hD0 : ∀ j, j < n → d0 j ≤ D) (hs : ∀ i j, i < n → j < n → comp i = comp j → 0 ≤ dl i j ∧ dl i j ≤ 110) (hR : ∀ i, i < n → comp i ∈ Rl) :
    ∀ (N : Nat) (rem : List Nat) (c : Option Nat), rem.length = N → (∀ i, c = some i → i < n) → (∀ k ∈ rem, k < n) → rem.Nodup → o_ch d0 dl c rem →
      ∃ (o : List Nat) (k : Nat), o.Nodup ∧ (∀ j, j ∈ o ↔ j ∈ rem) ∧ o.length = rem.length ∧ o_ch d0 dl c o ∧ k ≤ (Rl.filter (o_p comp c rem)).length ∧ k ≤ rem.length ∧ o_to d0 dl c o ≤ (k : Int) * D + 110 * ((rem.length : Int) - (k : Int)) := by
  intro N
  induction N with
  | zero =>
    intro rem c hN _ _ _ _
    have : rem = [] := List.length_eq_zero_iff.mp hN
    subst this
    exact ⟨[], 0, List.nodup_nil, fun _ => Iff.rfl, rfl, trivial, Nat.zero_le _, Nat.zero_le _, by simp [o_to]⟩
  | succ N ih =>
    intro rem c hN hc hb hnd hch
    by_cases q : ∃ e ∈ rem, c.map comp = some (comp e)
    · obtain ⟨e, e1, e2⟩ := q
      obtain ⟨i, rfl⟩ : ∃ i, c = some i := by
        cases c with
        | none => cases e2
        | some i => exact ⟨i, rfl⟩
      have ei : comp i = comp e := Option.some.inj e2
      have hi := hc i rfl
      have he := hb e e1
      obtain ⟨s1, s2⟩ := hs i e hi he ei
      obtain ⟨s3, -⟩ := hs e i he hi ei.symm
      have hl : (rem.erase e).length = N := by rw [List.length_erase_of_mem e1, hN]; rfl
      have hb' : ∀ k ∈ rem.erase e, k < n := fun k hk => hb k (List.mem_of_mem_erase hk)
      obtain ⟨o, k, o1, o2, o3, o4, o5, o6, o7⟩ := ih (rem.erase e) (some e) hl (fun j q => by cases q; exact he) hb' (hnd.erase e) (o_ch_c (c := some i) (fun k hk h => ht e i k he hi (hb' k hk) s3 h) (o_ch_e ht ht0 e rem (some i) hc hb hch))
      refine ⟨e :: o, k, List.nodup_cons.mpr ⟨fun q => ?_, o1⟩, fun j => ?_, by rw [List.length_cons, o3, hl, hN], ⟨s1, o4⟩, Nat.le_trans o5 (o_fl_le (fun a h => ?_) Rl), by omega, ?_⟩
      · have := (o2 e).mp q
        rw [List.Nodup.mem_erase_iff hnd] at this
        exact this.1 rfl
      · rw [List.mem_cons, o2, List.Nodup.mem_erase_iff hnd]
        constructor
        · rintro (h | h)
          · rw [h]; exact e1
          · exact h.2
        · intro h
          by_cases ee : j = e
          · exact Or.inl ee
          · exact Or.inr ⟨ee, h⟩
      · obtain ⟨h1, x, h2, h3⟩ := o_p_iff.mp h
        refine o_p_iff.mpr ⟨?_, x, List.mem_of_mem_erase h2, h3⟩
        rw [show (some i).map comp = (some e).map comp from congrArg some ei]
        exact h1
      · show dl i e + o_to d0 dl (some e) o ≤ _
        rw [hl] at o7
        rw [hN]
        have : ((N + 1 : Nat) : Int) = (N : Int) + 1 := by omega
        rw [this]
        generalize (k : Int) * D = kd at *
        omega
    · cases rem with
      | nil => cases hN
      | cons a rem =>
        have ha := hb a List.mem_cons_self
        obtain ⟨n1, n2⟩ := List.nodup_cons.mp hnd
        have hl : rem.length = N := by simpa using hN
        obtain ⟨o, k, o1, o2, o3, o4, o5, o6, o7⟩ := ih rem (some a) hl (fun j q => by cases q; exact ha) (fun j hj => hb j (List.mem_cons_of_mem _ hj)) n2 hch.2
        refine ⟨a :: o, k + 1, List.nodup_cons.mpr ⟨fun q => n1 ((o2 a).mp q), o1⟩, fun j => by rw [List.mem_cons, List.mem_cons, o2], by simp [o3], ⟨hch.1, o4⟩, ?_, by simp; omega, ?_⟩
        · refine Nat.le_trans (Nat.succ_le_succ o5) (o_fl_lt (x := comp a) (fun r h => ?_) ?_ ?_ Rl (hR a ha))
          · obtain ⟨h1, x, h2, h3⟩ := o_p_iff.mp h
            exact o_p_iff.mpr ⟨fun e => q ⟨x, List.mem_cons_of_mem _ h2, by rw [h3]; exact e⟩, x, List.mem_cons_of_mem _ h2, h3⟩
          · exact o_p_iff.mpr ⟨fun e => q ⟨a, List.mem_cons_self, e⟩, a, List.mem_cons_self, rfl⟩
          · intro h
            exact (o_p_iff.mp h).1 rfl
        · show o_lg d0 dl c a + o_to d0 dl (some a) o ≤ _
          have hleg : o_lg d0 dl c a ≤ D := by
            cases c with
            | none => exact hD0 a ha
            | some i => exact hD i a (hc i rfl) ha
          rw [hl] at o7
          simp only [List.length_cons, hl]
          have e1 : ((k + 1 : Nat) : Int) * D = (k : Int) * D + D := by
            rw [show ((k + 1 : Nat) : Int) = (k : Int) + 1 by omega, Int.add_mul, Int.one_mul]
          rw [e1]
          generalize (k : Int) * D = kd at *
          omega
end TGR
