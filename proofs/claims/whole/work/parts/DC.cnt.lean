/-! how many keys a way can meet: within sixteen columns, with a step ahead and one behind (numbers shifted: X column, V speed + 2, S sway + 4, L last + 4, A push + 1) -/
def q_ok (X V S L : Nat) : Bool := Nat.ble 4 (X + S) && Nat.ble (X + S) 19 && Nat.ble V (X + 2) && Nat.ble (X + 2) (V + 15) && Nat.ble (V + 2) (X + L) && Nat.ble (X + L) (V + 17)
def q_iy (m X V S L : Nat) : Bool := match m with
  | 0 => Nat.ble (2 * V + L + S) (X + 12) && Nat.ble (X + 12) (2 * V + L + S + 15)
  | 3 => Nat.ble (2 * V + S) (X + 4 + L) && Nat.ble (X + 4 + L) (2 * V + S + 15)
  | _ => Nat.ble (2 * V + S) (X + 8) && Nat.ble (X + 8) (2 * V + S + 15)
def q_iA (m X V S L A : Nat) : Bool := Nat.ble A (V + 1) && Nat.ble (V + 1) (A + 4) && Nat.ble (2 * V) (X + 3 + A) && Nat.ble (X + 3 + A) (2 * V + 15) && (match m with
  | 0 => Nat.ble (L + S + A) 13 && Nat.ble 5 (L + S + A)
  | 3 => Nat.ble (S + A) (L + 5) && Nat.ble L (S + A + 3)
  | _ => Nat.ble (S + A) 9 && Nat.ble 1 (S + A))
def q_oA (c X V S L A : Nat) : Bool := Nat.ble 1 (V + A) && Nat.ble (V + A) 5 && Nat.ble 3 (X + V + A) && Nat.ble (X + V + A) 18 && (match c with
  | 0 => Nat.ble (S + L) (X + V + 6) && Nat.ble (X + V + 6) (S + L + 15) && Nat.ble (S + L + A) 13 && Nat.ble 5 (S + L + A)
  | 1 => Nat.ble L (X + V + 2) && Nat.ble (X + V + 2) (L + 15) && Nat.ble (L + A) 9 && Nat.ble 1 (L + A)
  | _ => Nat.ble (L + 2) (X + V + S) && Nat.ble (X + V + S) (L + 17) && Nat.ble (L + A) (S + 5) && Nat.ble S (L + A + 3))
def q_in (m X V S L : Nat) : Bool := q_iA m X V S L 0 || q_iA m X V S L 1 || q_iA m X V S L 2
def q_o1 (c X V S L : Nat) : Bool := q_oA c X V S L 0 || q_oA c X V S L 1 || q_oA c X V S L 2
def q_ou (m X V S L : Nat) : Bool := match m with
  | 0 => q_o1 0 X V S L || q_o1 1 X V S L
  | 3 => q_o1 1 X V S L || q_o1 2 X V S L
  | _ => q_o1 0 X V S L || q_o1 1 X V S L || q_o1 2 X V S L
def q_g (X V S L m : Nat) : Bool := q_iy m X V S L && q_in m X V S L && q_ou m X V S L
def q_l4 (X V S L : Nat) : List Nat := if q_ok X V S L = true then [0, 1, 2, 3].filter (q_g X V S L) else []
def q_L : List Nat := [0, 1, 2, 3, 4, 5, 6, 7, 8, 9, 10, 11, 12, 13, 14, 15].flatMap fun X => [0, 1, 2, 3, 4].flatMap fun V => [0, 1, 2, 3, 4, 5, 6, 7, 8].flatMap fun S => [0, 1, 2, 3, 4, 5, 6, 7, 8].flatMap fun L => (q_l4 X V S L).map (fun m => 4 * (((X * 5 + V) * 9 + S) * 9 + L) + m)
def q_sm (l : List Nat) (f : Nat → Nat) : Nat := match l with
  | [] => 0
  | a :: l => f a + q_sm l f
theorem q_sm_fl {f : Nat → List Nat} : ∀ l : List Nat, (l.flatMap f).length = q_sm l (fun a => (f a).length)
  | [] => rfl
  | a :: l => by rw [List.flatMap_cons, List.length_append, q_sm_fl l]; rfl
set_option maxRecDepth 100000 in
theorem q_cnt : q_sm [0, 1, 2, 3, 4, 5, 6, 7, 8, 9, 10, 11, 12, 13, 14, 15] (fun X => q_sm [0, 1, 2, 3, 4] fun V => q_sm [0, 1, 2, 3, 4, 5, 6, 7, 8] fun S => q_sm [0, 1, 2, 3, 4, 5, 6, 7, 8] fun L => (q_l4 X V S L).length) = 14230 := by decide +kernel
theorem q_len : q_L.length = 14230 := by
  rw [← q_cnt]
  unfold q_L
  simp only [q_sm_fl, List.length_map]
