/-! A small machine that runs the class's bytecode over a world of cells counted from 0; 02 proves that what it answers, the methods answer. -/
/-- a cell of the world: an array, or an object (its class's number, its fields) -/
abbrev ez_C : Type := vp_A ⊕ (Nat × List Value)
abbrev ez_H : Type := List ez_C
/-- an instruction: itself, its length, two operands that are resolved, locals to keep (200: all), a place in the tables, a class's number -/
abbrev ez_I : Type := Instr × Nat × Nat × Nat × Nat × Nat × Nat
abbrev ez_O : Type := Option (Option Value × ez_H × Nat × Nat)
abbrev ez_P : Type := Nat → Nat → Option ez_I
/-- the script: its length, its ints -/
abbrev ez_X : Type := Nat × (Nat → Int32)
def ez_fill : Value := .retAddr 0
def ez_scr : Value := .retAddr 1
def ez_real : Value → Bool
  | .retAddr n => n == 1
  | _ => true
/-- set a place, the list grown by fillers where it is short -/
def ez_put : List Value → Nat → Value → List Value
  | [], 0, v => [v]
  | [], n + 1, v => ez_fill :: ez_put [] n v
  | _ :: t, 0, v => v :: t
  | a :: t, n + 1, v => a :: ez_put t n v
def ez_isL (v : Value) : Bool := Nat.beq v.category 2
/-- a store over the second half of a long takes the long away -/
def ez_clr (ls : List Value) : Nat → List Value
  | 0 => ls
  | n + 1 => match ls[n]? with
    | some v => bif ez_isL v then ez_put ls n ez_fill else ls
    | none => ls
def ez_st1 (ls : List Value) (i : Nat) (v : Value) : List Value := ez_put (ez_clr ls i) i v
def ez_st2 (ls : List Value) (i : Nat) (v : Value) : List Value := ez_put (ez_put (ez_clr ls i) i v) (i + 1) ez_fill
def ez_lay : List Value → List Value
  | [] => []
  | v :: t => bif ez_isL v then v :: ez_fill :: ez_lay t else v :: ez_lay t
def ez_cut (n : Nat) (ls : List Value) : List Value := bif Nat.ble 200 n then ls else ls.take n
def ez_bin (f : Int32 → Int32 → Int32) : List Value → Option (List Value)
  | .int y :: .int x :: r => some (.int (f x y) :: r)
  | _ => none
def ez_binD (f : Int32 → Int32 → Int32) : List Value → Option (List Value)
  | .int y :: .int x :: r => bif decide (y = 0) then none else some (.int (f x y) :: r)
  | _ => none
def ez_binL (f : Int64 → Int64 → Int64) : List Value → Option (List Value)
  | .long y :: .long x :: r => some (.long (f x y) :: r)
  | _ => none
def ez_sh (f : Int64 → Int32 → Int64) : List Value → Option (List Value)
  | .int y :: .long x :: r => some (.long (f x y) :: r)
  | _ => none
def ez_lcmp : List Value → Option (List Value)
  | .long y :: .long x :: r => some (.int (lg_cmp x y) :: r)
  | _ => none
def ez_i2l : List Value → Option (List Value)
  | .int x :: r => some (.long x.toInt64 :: r)
  | _ => none
def ez_l2i : List Value → Option (List Value)
  | .long x :: r => some (.int x.toInt32 :: r)
  | _ => none
def ez_cat1 : Value → Bool
  | .int _ => true
  | .ref _ => true
  | _ => false
def ez_dup : List Value → Option (List Value)
  | v :: r => bif ez_cat1 v then some (v :: v :: r) else none
  | _ => none
def ez_dup2 : List Value → Option (List Value)
  | v :: w :: r => bif ez_cat1 v && ez_cat1 w then some (v :: w :: v :: w :: r) else none
  | _ => none
def ez_pop : List Value → Option (List Value)
  | v :: r => bif ez_cat1 v then some r else none
  | _ => none
def ez_pop2 : List Value → Option (List Value)
  | v :: r => bif ez_isL v then some r else none
  | _ => none
def ez_ldI (ls : List Value) (i : Nat) (st : List Value) : Option (List Value) := match ls[i]? with
  | some (.int v) => some (.int v :: st)
  | _ => none
def ez_ldL (ls : List Value) (i : Nat) (st : List Value) : Option (List Value) := match ls[i]? with
  | some (.long v) => some (.long v :: st)
  | _ => none
def ez_ldA (ls : List Value) (i : Nat) (st : List Value) : Option (List Value) := match ls[i]? with
  | some (.ref v) => some (.ref v :: st)
  | some (.retAddr n) => bif n == 1 then some (ez_scr :: st) else none
  | _ => none
def ez_in {α : Type} (i : Int32) (n : Nat) (x : α) : Option α := bif decide (i < 0) then none else bif Nat.ble n i.toNatClampNeg then none else some x
def ez_iald (X : ez_X) (h : ez_H) : List Value → Option (List Value)
  | .int i :: .ref p :: r => match h[p]? with
    | some (.inl (n, .inl f)) => ez_in i n (.int (f i.toNatClampNeg) :: r)
    | _ => none
  | .int i :: .retAddr n :: r => bif n == 1 then ez_in i X.1 (.int (X.2 i.toNatClampNeg) :: r) else none
  | _ => none
def ez_lald (h : ez_H) : List Value → Option (List Value)
  | .int i :: .ref p :: r => match h[p]? with
    | some (.inl (n, .inr (.inl f))) => ez_in i n (.long (f i.toNatClampNeg) :: r)
    | _ => none
  | _ => none
def ez_iast (h : ez_H) : List Value → Option (List Value × ez_H)
  | .int x :: .int i :: .ref p :: r => match h[p]? with
    | some (.inl (n, .inl f)) => ez_in i n (r, h.set p (.inl (n, .inl (upd f i.toNatClampNeg x))))
    | _ => none
  | _ => none
def ez_last (h : ez_H) : List Value → Option (List Value × ez_H)
  | .long x :: .int i :: .ref p :: r => match h[p]? with
    | some (.inl (n, .inr (.inl f))) => ez_in i n (r, h.set p (.inl (n, .inr (.inl (vp_updL f i.toNatClampNeg x)))))
    | _ => none
  | _ => none
def ez_alen (X : ez_X) (h : ez_H) : List Value → Option (List Value)
  | .ref p :: r => match h[p]? with
    | some (.inl (n, .inl _)) => some (.int (Int32.ofNat n) :: r)
    | some (.inl (n, .inr (.inl _))) => some (.int (Int32.ofNat n) :: r)
    | _ => none
  | .retAddr n :: r => bif n == 1 then some (.int (Int32.ofNat X.1) :: r) else none
  | _ => none
def ez_get (ci k : Nat) (h : ez_H) : List Value → Option (List Value)
  | .ref p :: r => match h[p]? with
    | some (.inr (cj, fs)) => bif Nat.beq cj ci then (match fs[k]? with
      | some v => some (v :: r)
      | none => none) else none
    | _ => none
  | _ => none
def ez_set (ty : FieldType) (ci k : Nat) (h : ez_H) : List Value → Option (List Value × ez_H)
  | v :: .ref p :: r => match h[p]? with
    | some (.inr (cj, fs)) => bif Nat.beq cj ci && fits ty v && Nat.blt k fs.length then some (r, h.set p (.inr (cj, fs.set k v))) else none
    | _ => none
  | _ => none
def ez_icmp (o : ClassFile.Cond) : List Value → Option (Bool × List Value)
  | .int y :: .int x :: r => some (match o with
    | .eq => decide (x = y)
    | .ne => decide (¬ x = y)
    | .lt => decide (x < y)
    | .ge => decide (y ≤ x)
    | .gt => decide (y < x)
    | .le => decide (x ≤ y), r)
  | _ => none
def ez_ifc (o : ClassFile.Cond) : List Value → Option (Bool × List Value)
  | .int x :: r => some (match o with
    | .eq => decide (x = 0)
    | .ne => decide (¬ x = 0)
    | .lt => decide (x < 0)
    | .ge => decide (0 ≤ x)
    | .gt => decide (0 < x)
    | .le => decide (x ≤ 0), r)
  | _ => none
def ez_tg (pc : Nat) (off : Int) : Option Nat := bif decide ((pc : Int) + off < 0) then none else some ((pc : Int) + off).toNat
def ez_sw (dflt lo hi : Int) (offs : Array Int) (pc : Nat) (x : Int32) : Option Nat :=
  bif decide (x.toInt < lo ∨ hi < x.toInt) then ez_tg pc dflt else (match offs[(x.toInt - lo).toNat]? with
    | some off => ez_tg pc off
    | none => none)
/-- the instructions that neither make, call, jump nor end -/
def ez_b (X : ez_X) (ty : Nat → Nat → FieldType) (i : Instr) (a b : Nat) (ls st : List Value) (h : ez_H) : Option (List Value × List Value × ez_H) := match i with
  | .aload_n k => (ez_ldA ls k.val st).map fun t => (ls, t, h)
  | .aload k => (ez_ldA ls k st).map fun t => (ls, t, h)
  | .iload_n k => (ez_ldI ls k.val st).map fun t => (ls, t, h)
  | .iload k => (ez_ldI ls k st).map fun t => (ls, t, h)
  | .lload_n k => (ez_ldL ls k.val st).map fun t => (ls, t, h)
  | .lload k => (ez_ldL ls k st).map fun t => (ls, t, h)
  | .istore_n k => match st with
    | .int v :: r => some (ez_st1 ls k.val (.int v), r, h)
    | _ => none
  | .istore k => match st with
    | .int v :: r => some (ez_st1 ls k (.int v), r, h)
    | _ => none
  | .lstore_n k => match st with
    | .long v :: r => some (ez_st2 ls k.val (.long v), r, h)
    | _ => none
  | .lstore k => match st with
    | .long v :: r => some (ez_st2 ls k (.long v), r, h)
    | _ => none
  | .astore_n k => match st with
    | .ref v :: r => some (ez_st1 ls k.val (.ref v), r, h)
    | _ => none
  | .astore k => match st with
    | .ref v :: r => some (ez_st1 ls k (.ref v), r, h)
    | _ => none
  | .iinc k n => match ls[k]? with
    | some (.int v) => some (ez_st1 ls k (.int (v + Int32.ofInt n)), st, h)
    | _ => none
  | .iconst n => some (ls, .int (Int32.ofInt n) :: st, h)
  | .lconst n => some (ls, .long (Int64.ofNat n.val) :: st, h)
  | .bipush n => some (ls, .int (Int8.ofInt n).toInt32 :: st, h)
  | .sipush n => some (ls, .int (Int16.ofInt n).toInt32 :: st, h)
  | .ldc _ => some (ls, .int (Int32.ofNat b) :: st, h)
  | .ldc_w _ => some (ls, .int (Int32.ofNat b) :: st, h)
  | .ldc2_w _ => some (ls, .long (Int64.ofNat b) :: st, h)
  | .iadd => (ez_bin (fun x y => x + y) st).map fun t => (ls, t, h)
  | .isub => (ez_bin (fun x y => x - y) st).map fun t => (ls, t, h)
  | .imul => (ez_bin (fun x y => x * y) st).map fun t => (ls, t, h)
  | .idiv => (ez_binD (fun x y => x / y) st).map fun t => (ls, t, h)
  | .irem => (ez_binD (fun x y => x - x / y * y) st).map fun t => (ls, t, h)
  | .iand => (ez_bin (fun x y => x &&& y) st).map fun t => (ls, t, h)
  | .ior => (ez_bin (fun x y => x ||| y) st).map fun t => (ls, t, h)
  | .ixor => (ez_bin (fun x y => x ^^^ y) st).map fun t => (ls, t, h)
  | .ishl => (ez_bin (fun x y => x <<< (y &&& 31)) st).map fun t => (ls, t, h)
  | .ishr => (ez_bin (fun x y => x >>> (y &&& 31)) st).map fun t => (ls, t, h)
  | .iushr => (ez_bin (fun x y => (x.toUInt32 >>> (y.toUInt32 &&& Int32.toUInt32 31)).toInt32) st).map fun t => (ls, t, h)
  | .ladd => (ez_binL (fun x y => x + y) st).map fun t => (ls, t, h)
  | .lsub => (ez_binL (fun x y => x - y) st).map fun t => (ls, t, h)
  | .lmul => (ez_binL (fun x y => x * y) st).map fun t => (ls, t, h)
  | .land => (ez_binL (fun x y => x &&& y) st).map fun t => (ls, t, h)
  | .lor => (ez_binL (fun x y => x ||| y) st).map fun t => (ls, t, h)
  | .lxor => (ez_binL (fun x y => x ^^^ y) st).map fun t => (ls, t, h)
  | .lshl => (ez_sh (fun x y => x <<< (y.toInt64 &&& 63)) st).map fun t => (ls, t, h)
  | .lshr => (ez_sh (fun x y => x >>> (y.toInt64 &&& 63)) st).map fun t => (ls, t, h)
  | .lushr => (ez_sh (fun x y => (x.toUInt64 >>> (y.toInt64.toUInt64 &&& Int64.toUInt64 63)).toInt64) st).map fun t => (ls, t, h)
  | .lcmp => (ez_lcmp st).map fun t => (ls, t, h)
  | .i2l => (ez_i2l st).map fun t => (ls, t, h)
  | .l2i => (ez_l2i st).map fun t => (ls, t, h)
  | .dup => (ez_dup st).map fun t => (ls, t, h)
  | .dup2 => (ez_dup2 st).map fun t => (ls, t, h)
  | .pop => (ez_pop st).map fun t => (ls, t, h)
  | .pop2 => (ez_pop2 st).map fun t => (ls, t, h)
  | .iaload => (ez_iald X h st).map fun t => (ls, t, h)
  | .laload => (ez_lald h st).map fun t => (ls, t, h)
  | .iastore => (ez_iast h st).map fun t => (ls, t.1, t.2)
  | .lastore => (ez_last h st).map fun t => (ls, t.1, t.2)
  | .arraylength => (ez_alen X h st).map fun t => (ls, t, h)
  | .getfield _ => (ez_get a b h st).map fun t => (ls, t, h)
  | .putfield _ => (ez_set (ty a b) a b h st).map fun t => (ls, t.1, t.2)
  | _ => none
/-- what a machine that answers a call with 'ih' does at one instruction -/
abbrev ez_F : Type := Nat → Nat → List Value → List Value → ez_H → Nat → Nat → ez_O
def ez_cats : List Value → Nat
  | [] => 0
  | v :: t => v.category + ez_cats t
/-- a receiver's class -/
def ez_isO (ci : Nat) (h : ez_H) : List Value → Bool
  | .ref p :: _ => match h[p]? with
    | some (.inr (cj, _)) => Nat.beq cj ci
    | _ => false
  | _ => false
def ez_isR : List Value → Bool
  | .ref _ :: _ => true
  | _ => false
def ez_go (mL : Nat → Nat) (ih : ez_F) (m pc a n : Nat) (ls st : List Value) (h : ez_H) (c k : Nat) : ez_O :=
  bif Nat.ble n st.length && (Nat.ble (ez_cats (st.drop n)) 8 && Nat.ble (ez_cats (st.take n).reverse) (mL a)) then (match ih a 0 (ez_lay (st.take n).reverse) [] h 0 0 with
    | some (r, h', c1, k1) => ih m (pc + 3) ls (r.toList ++ st.drop n) h' (c + c1) (k + k1)
    | none => none) else none
def ez_stp (P : ez_P) (X : ez_X) (ty : Nat → Nat → FieldType) (nw : Nat → List Value) (mL : Nat → Nat) (ih : ez_F) : ez_F := fun m pc ls0 st h c k =>
  match P m pc with
  | none => none
  | some (i, len, a, b, cut, _, d) => match i with
    | .goto _ => ih m a (ez_cut cut ls0) st h c k
    | .if_icmp o _ => match ez_icmp o st with
      | some (t, r) => bif t then ih m a (ez_cut cut ls0) r h c k else ih m (pc + 3) (ez_cut cut ls0) r h c k
      | none => none
    | .ifCond o _ => match ez_ifc o st with
      | some (t, r) => bif t then ih m a (ez_cut cut ls0) r h c k else ih m (pc + 3) (ez_cut cut ls0) r h c k
      | none => none
    | .tableswitch dflt lo hi offs => match st with
      | .int x :: r => match ez_sw dflt lo hi offs pc x with
        | some q => ih m q (ez_cut cut ls0) r h c k
        | none => none
      | _ => none
    | .ireturn => match st with
      | [.int v] => bif Nat.beq b 0 || decide (v = 0) || decide (v = 1) then some (some (.int v), h, c, k) else none
      | _ => none
    | .lreturn => match st with
      | [.long v] => some (some (.long v), h, c, k)
      | _ => none
    | .areturn => match st with
      | [.ref v] => some (some (.ref v), h, c, k)
      | _ => none
    | .return_ => match st with
      | [] => some (none, h, c, k)
      | _ => none
    | .new _ => ih m (pc + 3) (ez_cut cut ls0) (.ref h.length :: st) (h ++ [.inr (a, nw a)]) (c + 1) (k + b)
    | .newarray ty => match st with
      | .int n :: r => bif decide (n < 0) || Nat.ble 1000000 n.toNatClampNeg then none else (match ty with
        | .int => ih m (pc + 2) (ez_cut cut ls0) (.ref h.length :: r) (h ++ [.inl (n.toNatClampNeg, .inl fun _ => 0)]) (c + 1) (k + n.toNatClampNeg)
        | .long => ih m (pc + 2) (ez_cut cut ls0) (.ref h.length :: r) (h ++ [.inl (n.toNatClampNeg, .inr (.inl fun _ => 0))]) (c + 1) (k + n.toNatClampNeg)
        | _ => none)
      | _ => none
    | .invokevirtual _ => bif ez_isO d h (st.take b).reverse then ez_go mL ih m pc a b (ez_cut cut ls0) st h c k else none
    | .invokestatic _ => bif Nat.beq a 901 then (match st with
        | .int y :: .int x :: r => bif Nat.ble (ez_cats r) 8 then ih m (pc + 3) (ez_cut cut ls0) (.int (if x < y then y else x) :: r) h c k else none
        | _ => none) else bif Nat.beq a 902 then (match st with
        | .int y :: .int x :: r => bif Nat.ble (ez_cats r) 8 then ih m (pc + 3) (ez_cut cut ls0) (.int (if y < x then y else x) :: r) h c k else none
        | _ => none) else ez_go mL ih m pc a b (ez_cut cut ls0) st h c k
    | .invokespecial _ => bif Nat.beq a 900 then (match st with
        | .ref _ :: r => bif Nat.ble (ez_cats r) 8 then ih m (pc + 3) (ez_cut cut ls0) r h c k else none
        | _ => none) else bif ez_isR (st.take b).reverse then ez_go mL ih m pc a b (ez_cut cut ls0) st h c k else none
    | i => match ez_b X ty i a b (ez_cut cut ls0) st h with
      | some (ls', st', h') => ih m (pc + len) ls' st' h' c k
      | none => none
noncomputable def ez_ev (P : ez_P) (X : ez_X) (ty : Nat → Nat → FieldType) (nw : Nat → List Value) (mL : Nat → Nat) (F : Nat) : ez_F :=
  Nat.rec (motive := fun _ => ez_F) (fun _ _ _ _ _ _ _ => none) (fun _ ih => ez_stp P X ty nw mL ih) F
theorem ez_ev_s (P : ez_P) (X : ez_X) (ty : Nat → Nat → FieldType) (nw : Nat → List Value) (mL : Nat → Nat) (F : Nat) : ez_ev P X ty nw mL (F + 1) = ez_stp P X ty nw mL (ez_ev P X ty nw mL F) := rfl
