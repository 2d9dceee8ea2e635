/-! A SMALL MACHINE over the program's own bytes: the heap is four tables (what a cell is, its ints, its references, its longs), a frame is a program counter, locals and a stack.
    m_wp me pc ls st s Q: from there method me returns, and Q holds of its answer and of the state then. m_call: the same of a whole call. Nothing here speaks of the JVM: part 06 does. -/
abbrev m_S : Type := (Nat → Option (Nat × Nat)) × (Nat → Nat → Int32) × (Nat → Nat → Option Nat) × (Nat → Nat → Int64) × Nat × Nat
abbrev m_L : Type := List (Option Value)
abbrev m_Q : Type := Option Value → m_S → Prop
abbrev m_R : Type := (Nat × m_L × List Value × m_S) ⊕ (Option Value ⊕ (m_Me × List Value × List Value))
def m_up {α : Type} (f : Nat → Nat → α) (a j : Nat) (v : α) : Nat → Nat → α := fun b i => if b = a ∧ i = j then v else f b i
def m_nw {α : Type} (f : Nat → Nat → α) (a : Nat) (v : α) : Nat → Nat → α := fun b i => if b = a then v else f b i
def m_nT (f : Nat → Option (Nat × Nat)) (a : Nat) (v : Nat × Nat) : Nat → Option (Nat × Nat) := fun b => if b = a then some v else f b
def m_cmp (c : ClassFile.Cond) (x y : Int32) : Bool := match c with
  | .eq => decide (x = y)
  | .ne => decide (¬ x = y)
  | .lt => decide (x < y)
  | .ge => decide (y ≤ x)
  | .gt => decide (y < x)
  | .le => decide (x ≤ y)
/-- the text of the words -/
def m_txt : List Nat := [119, 105, 100, 116, 104, 32, 100, 101, 101, 112, 32, 116, 111, 112, 32, 115, 119, 105, 110, 103, 32, 98, 108, 111, 99, 107, 32, 115, 112, 111, 116, 32, 115, 116, 97, 114, 116, 32, 119, 105, 110, 100, 32, 100, 111, 32, 112, 105, 108, 101, 32, 106, 111, 98, 32, 115, 101, 101, 100, 32, 101, 97, 115, 116, 32, 119, 101, 115, 116, 32, 108, 105, 102, 116, 32, 108, 111, 119, 101, 114, 32, 119, 97, 105, 116, 32, 115, 116, 105, 108, 108, 32]
def m_atc (t : ArrayType) : Option Nat := match t with
  | .int => some 20
  | .byte => some 21
  | .boolean => some 22
  | .short => some 23
  | .long => some 24
  | _ => none
def m_nx (pc : Nat) (ls : m_L) (st : List Value) (s : m_S) : Option m_R := some (.inl (pc, ls, st, s))
def m_go (pc : Nat) (off : Int) (ls : m_L) (st : List Value) (s : m_S) : Option m_R := if 0 ≤ (pc : Int) + off then m_nx ((pc : Int) + off).toNat ls st s else none
def m_ldi (ls : m_L) (i : Nat) (pc : Nat) (st : List Value) (s : m_S) : Option m_R := match ls[i]? with
  | some (some (.int x)) => m_nx pc ls (.int x :: st) s
  | _ => none
def m_lda (ls : m_L) (i : Nat) (pc : Nat) (st : List Value) (s : m_S) : Option m_R := match ls[i]? with
  | some (some (.ref x)) => m_nx pc ls (.ref x :: st) s
  | _ => none
def m_sti (ls : m_L) (i : Nat) (pc : Nat) (st : List Value) (s : m_S) : Option m_R := match st with
  | .int x :: st => if i < ls.length then m_nx pc (ls.set i (some (.int x))) st s else none
  | _ => none
def m_sta (ls : m_L) (i : Nat) (pc : Nat) (st : List Value) (s : m_S) : Option m_R := match st with
  | .ref x :: st => if i < ls.length then m_nx pc (ls.set i (some (.ref x))) st s else none
  | _ => none
def m_b2 (f : Int32 → Int32 → Int32) (pc : Nat) (ls : m_L) (st : List Value) (s : m_S) : Option m_R := match st with
  | .int y :: .int x :: st => m_nx (pc + 1) ls (.int (f x y) :: st) s
  | _ => none
def m_b1 (f : Int32 → Int32) (pc : Nat) (ls : m_L) (st : List Value) (s : m_S) : Option m_R := match st with
  | .int x :: st => m_nx (pc + 1) ls (.int (f x) :: st) s
  | _ => none
/-- a field is read -/
def m_gf (c j : Nat) (a pc : Nat) (ls : m_L) (st : List Value) (s : m_S) : Option m_R := match s.1 a with
  | some (t, _) => if t = c ∧ j < m_W c then (if m_fk c j = 2 then m_nx pc ls (va_rf (s.2.2.1 a j) :: st) s else m_nx pc ls (.int (s.2.1 a j) :: st) s) else none
  | none => none
/-- a field is written: an int, a boolean, a reference; a final one only by a constructor of its class -/
def m_pf (en : Nat → Nat) (me : m_Me) (c j : Nat) (v : Value) (a pc : Nat) (ls : m_L) (st : List Value) (s : m_S) : Option m_R := match s.1 a with
  | some (t, _) => if (t = c ∧ j < m_W c ∧ en 0 ≤ a) ∧ ((m_T c j).2.2.2 = false ∨ (me.2.1.name = "<init>" ∧ me.1 = c)) then
      (match v with
      | .int x => if m_fk c j = 0 ∨ (m_fk c j = 1 ∧ (x = 0 ∨ x = 1)) then m_nx pc ls st (s.1, m_up s.2.1 a j x, s.2.2) else none
      | .ref r => if m_fk c j = 2 then m_nx pc ls st (s.1, s.2.1, m_up s.2.2.1 a j (some r), s.2.2.2) else none
      | _ => none) else none
  | none => none
/-- an element of a row of ints is read, written -/
def m_al (k : Nat) (pc : Nat) (ls : m_L) (st : List Value) (s : m_S) : Option m_R := match st with
  | .int i :: .ref a :: st => (match s.1 a with
    | some (t, n) => if t = k ∧ 0 ≤ i.toInt ∧ i.toInt < n then m_nx (pc + 1) ls (.int (s.2.1 a i.toNatClampNeg) :: st) s else none
    | none => none)
  | _ => none
def m_as (en : Nat → Nat) (k : Nat) (f : Int32 → Int32) (pc : Nat) (ls : m_L) (st : List Value) (s : m_S) : Option m_R := match st with
  | .int x :: .int i :: .ref a :: st => (match s.1 a with
    | some (t, n) => if t = k ∧ 0 ≤ i.toInt ∧ i.toInt < n ∧ en 0 ≤ a then m_nx (pc + 1) ls st (s.1, m_up s.2.1 a i.toNatClampNeg (f x), s.2.2) else none
    | none => none)
  | _ => none
def m_new (c n w : Nat) (s : m_S) : m_S := (m_nT s.1 s.2.2.2.2.1 (c, n), m_nw s.2.1 s.2.2.2.2.1 0, m_nw s.2.2.1 s.2.2.2.2.1 none, m_nw s.2.2.2.1 s.2.2.2.2.1 0, s.2.2.2.2.1 + 1, s.2.2.2.2.2 + w)
/-- a call: so many values of the stack -/
def m_inv (me : m_Me) (n : Nat) (st : List Value) : Option m_R := if (n ≤ st.length ∧ (st.take n).all (fun v => v.category == 1) = true) ∧ ((st.drop n).map fun v => v.category).sum ≤ 8 then some (.inr (.inr (me, (st.take n).reverse, st.drop n))) else none
def m_bi (en : Nat → Nat) (b pc : Nat) (ls : m_L) (st : List Value) (s : m_S) : Option m_R := match b with
  | 10 => (match st with | .int y :: .int x :: st => if (st.map fun v => v.category).sum ≤ 8 then m_nx (pc + 3) ls (.int (if x < y then y else x) :: st) s else none | _ => none)
  | 11 => (match st with | .int y :: .int x :: st => if (st.map fun v => v.category).sum ≤ 8 then m_nx (pc + 3) ls (.int (if y < x then y else x) :: st) s else none | _ => none)
  | 12 => (match st with | .int x :: st => if (st.map fun v => v.category).sum ≤ 8 then m_nx (pc + 3) ls (.int (if 0 ≤ x then x else 0 - x) :: st) s else none | _ => none)
  | 13 => (match st with | .ref _ :: st => if (st.map fun v => v.category).sum ≤ 8 then m_nx (pc + 3) ls st s else none | _ => none)
  | 14 => (match st with | .ref a :: st => if a = en 1 ∧ (st.map fun v => v.category).sum ≤ 8 then m_nx (pc + 3) ls (.int 92 :: st) s else none | _ => none)
  | 15 => (match st with | .int i :: .ref a :: st => if (a = en 1 ∧ 0 ≤ i.toInt ∧ i.toInt < 92) ∧ (st.map fun v => v.category).sum ≤ 8 then m_nx (pc + 3) ls (.int (Int32.ofNat (m_txt.getD i.toNatClampNeg 0)) :: st) s else none | _ => none)
  | _ => none
/-- one instruction -/
def m_st (en : Nat → Nat) (me : m_Me) (i : Instr) (pc : Nat) (ls : m_L) (st : List Value) (s : m_S) : Option m_R := match i with
  | .iconst n => m_nx (pc + 1) ls (.int (Int32.ofInt n) :: st) s
  | .bipush n => m_nx (pc + 2) ls (.int (Int8.ofInt n).toInt32 :: st) s
  | .sipush n => m_nx (pc + 3) ls (.int (Int16.ofInt n).toInt32 :: st) s
  | .ldc x => (match m_K me.1 x with
    | some v => m_nx (pc + 2) ls (.int v :: st) s
    | none => (match m_Z me.1 x with
      | some z => m_nx (pc + 2) ls (.ref (en z) :: st) s
      | none => none))
  | .ldc_w x => (match m_K me.1 x with
    | some v => m_nx (pc + 3) ls (.int v :: st) s
    | none => none)
  | .iload k => m_ldi ls k (pc + 2) st s
  | .iload_n k => m_ldi ls k.val (pc + 1) st s
  | .aload k => m_lda ls k (pc + 2) st s
  | .aload_n k => m_lda ls k.val (pc + 1) st s
  | .istore k => m_sti ls k (pc + 2) st s
  | .istore_n k => m_sti ls k.val (pc + 1) st s
  | .astore k => m_sta ls k (pc + 2) st s
  | .astore_n k => m_sta ls k.val (pc + 1) st s
  | .iinc k n => (match ls[k]? with
    | some (some (.int x)) => m_nx (pc + 3) (ls.set k (some (.int (x + Int32.ofInt n)))) st s
    | _ => none)
  | .iadd => m_b2 (fun x y => x + y) pc ls st s
  | .isub => m_b2 (fun x y => x - y) pc ls st s
  | .imul => m_b2 (fun x y => x * y) pc ls st s
  | .iand => m_b2 (fun x y => x &&& y) pc ls st s
  | .ior => m_b2 (fun x y => x ||| y) pc ls st s
  | .ishl => m_b2 (fun x y => x <<< (y &&& 31)) pc ls st s
  | .ishr => m_b2 (fun x y => x >>> (y &&& 31)) pc ls st s
  | .idiv => (match st with
    | .int y :: .int x :: st => if y = 0 then none else m_nx (pc + 1) ls (.int (x / y) :: st) s
    | _ => none)
  | .irem => (match st with
    | .int y :: .int x :: st => if y = 0 then none else m_nx (pc + 1) ls (.int (x - x / y * y) :: st) s
    | _ => none)
  | .ineg => m_b1 (fun x => -x) pc ls st s
  | .i2b => m_b1 (fun x => x.toInt8.toInt32) pc ls st s
  | .i2s => m_b1 (fun x => x.toInt16.toInt32) pc ls st s
  | .i2l => (match st with
    | .int x :: st => m_nx (pc + 1) ls (.long x.toInt64 :: st) s
    | _ => none)
  | .lcmp => (match st with
    | .long y :: .long x :: st => m_nx (pc + 1) ls (.int (lg_cmp x y) :: st) s
    | _ => none)
  | .dup => (match st with
    | v :: st => if v.category = 1 then m_nx (pc + 1) ls (v :: v :: st) s else none
    | _ => none)
  | .dup2 => (match st with
    | a :: b :: st => if a.category = 1 ∧ b.category = 1 then m_nx (pc + 1) ls (a :: b :: a :: b :: st) s else none
    | _ => none)
  | .pop => (match st with
    | v :: st => if v.category = 1 then m_nx (pc + 1) ls st s else none
    | _ => none)
  | .goto off => m_go pc off ls st s
  | .if_icmp c off => (match st with
    | .int y :: .int x :: st => if 0 ≤ (pc : Int) + off then m_nx (if m_cmp c x y = true then ((pc : Int) + off).toNat else pc + 3) ls st s else none
    | _ => none)
  | .ifCond c off => (match st with
    | .int x :: st => if 0 ≤ (pc : Int) + off then m_nx (if m_cmp c x 0 = true then ((pc : Int) + off).toNat else pc + 3) ls st s else none
    | _ => none)
  | .tableswitch d lo hi offs => (match st with
    | .int x :: st => if x.toInt < lo ∨ hi < x.toInt then m_go pc d ls st s else (match offs[(x.toInt - lo).toNat]? with
      | some off => m_go pc off ls st s
      | none => none)
    | _ => none)
  | .getfield x => (match st, m_F me.1 x with
    | .ref a :: st, some (c, j) => m_gf c j a (pc + 3) ls st s
    | _, _ => none)
  | .putfield x => (match st, m_F me.1 x with
    | v :: .ref a :: st, some (c, j) => m_pf en me c j v a (pc + 3) ls st s
    | _, _ => none)
  | .getstatic x => (match m_G me.1 x with
    | some k => m_nx (pc + 3) ls (.ref (en k) :: st) s
    | none => none)
  | .iaload => m_al 20 pc ls st s
  | .saload => m_al 23 pc ls st s
  | .baload => (match st with
    | .int i :: .ref a :: st => (match s.1 a with
      | some (t, n) => if (t = 21 ∨ t = 22) ∧ 0 ≤ i.toInt ∧ i.toInt < n then m_nx (pc + 1) ls (.int (s.2.1 a i.toNatClampNeg) :: st) s else none
      | none => none)
    | _ => none)
  | .iastore => m_as en 20 (fun x => x) pc ls st s
  | .sastore => m_as en 23 (fun x => x.toInt16.toInt32) pc ls st s
  | .bastore => (match st with
    | .int x :: .int i :: .ref a :: st => (match s.1 a with
      | some (t, n) => if (t = 21 ∨ (t = 22 ∧ (x = 0 ∨ x = 1))) ∧ 0 ≤ i.toInt ∧ i.toInt < n ∧ en 0 ≤ a then m_nx (pc + 1) ls st (s.1, m_up s.2.1 a i.toNatClampNeg (if t = 21 then x.toInt8.toInt32 else x), s.2.2) else none
      | none => none)
    | _ => none)
  | .aaload => (match st with
    | .int i :: .ref a :: st => (match s.1 a with
      | some (t, n) => if t = 25 ∧ 0 ≤ i.toInt ∧ i.toInt < n then m_nx (pc + 1) ls (va_rf (s.2.2.1 a i.toNatClampNeg) :: st) s else none
      | none => none)
    | _ => none)
  | .aastore => (match st with
    | .ref v :: .int i :: .ref a :: st => (match s.1 a, s.1 v with
      | some (t, n), some (u, _) => if (t = 25 ∧ u = 2) ∧ 0 ≤ i.toInt ∧ i.toInt < n ∧ en 0 ≤ a then m_nx (pc + 1) ls st (s.1, s.2.1, m_up s.2.2.1 a i.toNatClampNeg (some v), s.2.2.2) else none
      | _, _ => none)
    | _ => none)
  | .laload => (match st with
    | .int i :: .ref a :: st => (match s.1 a with
      | some (t, n) => if t = 24 ∧ 0 ≤ i.toInt ∧ i.toInt < n then m_nx (pc + 1) ls (.long (s.2.2.2.1 a i.toNatClampNeg) :: st) s else none
      | none => none)
    | _ => none)
  | .arraylength => (match st with
    | .ref a :: st => (match s.1 a with
      | some (t, n) => if 20 ≤ t then m_nx (pc + 1) ls (.int (Int32.ofNat n) :: st) s else none
      | none => none)
    | _ => none)
  | .new x => (match m_N me.1 x with
    | some c => m_nx (pc + 3) ls (.ref s.2.2.2.2.1 :: st) (m_new c 0 (m_W c) s)
    | none => none)
  | .newarray t => (match st, m_atc t with
    | .int n :: st, some k => if 0 ≤ n.toInt ∧ n.toInt ≤ 1000000 then m_nx (pc + 2) ls (.ref s.2.2.2.2.1 :: st) (m_new k n.toNatClampNeg n.toNatClampNeg s) else none
    | _, _ => none)
  | .anewarray x => (match st, m_N me.1 x with
    | .int n :: st, some 2 => if 0 ≤ n.toInt ∧ n.toInt ≤ 1000000 then m_nx (pc + 3) ls (.ref s.2.2.2.2.1 :: st) (m_new 25 n.toNatClampNeg n.toNatClampNeg s) else none
    | _, _ => none)
  | .invokestatic x => (match m_B me.1 x with
    | some b => if 10 ≤ b ∧ b ≤ 12 then m_bi en b pc ls st s else none
    | none => (match m_C me.1 x with
      | some (kd, m', n) => if kd = 1 ∨ kd = 3 ∨ kd = 20 then m_inv m' n st else none
      | none => none))
  | .invokevirtual x => (match m_B me.1 x with
    | some b => if 14 ≤ b then m_bi en b pc ls st s else none
    | none => (match m_C me.1 x with
      | some (kd, m', n) => (match st[n]? with
        | some (.ref b) => (match s.1 b with
          | some (t, _) => if kd = 0 ∧ t = m'.1 then m_inv m' (n + 1) st else none
          | none => none)
        | _ => none)
      | none => none))
  | .invokespecial x => (match m_B me.1 x with
    | some b => if b = 13 then m_bi en b pc ls st s else none
    | none => (match m_C me.1 x with
      | some (kd, m', n) => (match st[n]? with
        | some (.ref _) => if kd = 2 ∨ kd = 4 then m_inv m' (n + 1) st else none
        | _ => none)
      | none => none))
  | .ireturn => (match st, me.2.2.2.2 with
    | [.int x], some .int => some (.inr (.inl (some (.int x))))
    | [.int x], some .boolean => if x = 0 ∨ x = 1 then some (.inr (.inl (some (.int x)))) else none
    | _, _ => none)
  | .areturn => (match st, me.2.2.2.2 with
    | [.ref a], some (.object _) => some (.inr (.inl (some (.ref a))))
    | _, _ => none)
  | .return_ => (match st, me.2.2.2.2 with
    | [], none => some (.inr (.inl none))
    | _, _ => none)
  | _ => none
/-- the length that an instruction has -/
def m_lok (i : Instr) (len : Nat) : Bool := match i with
  | .tableswitch _ _ _ _ => true
  | .iload _ | .aload _ | .istore _ | .astore _ | .bipush _ | .ldc _ | .newarray _ => len == 2
  | .sipush _ | .ldc_w _ | .iinc _ _ | .goto _ | .if_icmp _ _ | .ifCond _ _ | .getfield _ | .putfield _ | .getstatic _ | .new _ | .anewarray _ | .invokestatic _ | .invokevirtual _ | .invokespecial _ => len == 3
  | _ => len == 1
abbrev m_Cl : Type := m_Me → List Value → m_S → m_Q → Prop
/-- n instructions at most -/
def m_run (en : Nat → Nat) (C : m_Cl) (me : m_Me) (Q : m_Q) : Nat → Nat → m_L → List Value → m_S → Prop
  | 0, _, _, _, _ => False
  | n + 1, pc, ls, st, s => ∃ i len, decode me.2.2.1 pc = .ok (i, len) ∧ m_lok i len = true ∧ ∃ r, m_st en me i pc ls st s = some r ∧ (match r with
    | .inl (pc', ls', st', s') => m_run en C me Q n pc' ls' st' s'
    | .inr (.inl v) => Q v s
    | .inr (.inr (m', as, st')) => C m' as s (fun v s' => m_run en C me Q n (pc + 3) ls (v.toList ++ st') s'))
def m_ent (me : m_Me) (as : List Value) : m_L := as.map some ++ List.replicate (me.2.2.2.1 - as.length) none
/-- what the class's now reads of the crane x before it throws -/
def m_nwx (s : m_S) (x : Nat) : Prop := ∃ n u k r, s.1 x = some (11, n) ∧ s.2.2.1 x 2 = some u ∧ s.1 u = some (2, k) ∧ s.2.2.1 u 0 = some r
/-- a call of depth d at most. The law's own 'now' is told here: what it answers where the class throws -/
def m_call (en : Nat → Nat) : Nat → m_Cl
  | 0, _, _, _, _ => False
  | d + 1, me, as, s, Q => if me.2.1.name = "now" ∧ me.1 = 13 then
      (∃ x p o n, as = [.ref x, .int p, .ref o] ∧ s.1 o = some (24, n) ∧ 0 < n ∧ (en 0 ≤ o ∧ m_nwx s x) ∧
        if p < 0 then Q (some (.int 1)) (s.1, s.2.1, s.2.2.1, s.2.2.2.1, s.2.2.2.2.1 + 1, s.2.2.2.2.2 + 6)
        else if 8 < p then Q (some (.int 2)) (s.1, s.2.1, s.2.2.1, s.2.2.2.1, s.2.2.2.2.1 + 1, s.2.2.2.2.2 + 6)
        else m_call en d mSc_now [.ref x, .int p] s (fun v s' => ∃ y, v = some (.int y) ∧ Q (some (.int 0)) (s'.1, s'.2.1, s'.2.2.1, m_up s'.2.2.2.1 o 0 y.toInt64, s'.2.2.2.2)))
    else as.length ≤ me.2.2.2.1 ∧ ∃ n, m_run en (m_call en d) me Q n 0 (m_ent me as) [] s
def m_wp (en : Nat → Nat) (d : Nat) (me : m_Me) (pc : Nat) (ls : m_L) (st : List Value) (s : m_S) (Q : m_Q) : Prop := ∃ n, m_run en (m_call en d) me Q n pc ls st s
