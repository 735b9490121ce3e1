/-! What the tables must say of the machine's code, and that the machine is sound. -/
/-- methods: name, bytes, locals, result, frames below, words below, parameters, kind (0 static, 1 of an object, 2 a constructor) -/
abbrev ez_M : Type := Nat → MethodName × ByteArray × Nat × Option FieldType × Nat × Nat × Nat × Nat
abbrev ez_K : Type := Nat → String × u_T × Nat
def ez_my (M : ez_M) (m : Nat) : MethodName := (M m).1
def ez_mb (M : ez_M) (m : Nat) : ByteArray := (M m).2.1
def ez_mL (M : ez_M) (m : Nat) : Nat := (M m).2.2.1
def ez_mr (M : ez_M) (m : Nat) : Option FieldType := (M m).2.2.2.1
def ez_md (M : ez_M) (m : Nat) : Nat := (M m).2.2.2.2.1
def ez_ml (M : ez_M) (m : Nat) : Nat := (M m).2.2.2.2.2.1
def ez_mn (M : ez_M) (m : Nat) : Nat := (M m).2.2.2.2.2.2.1
def ez_mk (M : ez_M) (m : Nat) : Nat := (M m).2.2.2.2.2.2.2
def ez_ln : Instr → Nat
  | .aload _ => 2
  | .iload _ => 2
  | .lload _ => 2
  | _ => 1
def ez_w (_ : Unit) (w : Nat) (x : Cond) : Bool := ez_fine x && decide ((ez_pt (w / 1000))[w % 1000]? = some x)
theorem ez_w_mem {tbl : Unit} {w : Nat} {x : Cond} (h : ez_w tbl w x = true) : x ∈ ez_tb := by
  obtain ⟨h1, h2⟩ := Bool.and_eq_true_iff.mp h
  exact List.mem_filter.mpr ⟨ez_pt_in (List.mem_of_getElem? (of_decide_eq_true h2)), h1⟩
/-- links between nest mates: they go by the contract's own premise -/
def ez_nest : Cond → Bool
  | .fieldLinkNest .. => true
  | .methodLinkNest .. => true
  | _ => false
/-- the nest's host -/
def ez_host : String := "SquaredShips"
def ez_okJ (tbl : Unit) (M : ez_M) (K : ez_K) (nM nK m pc : Nat) (i : Instr) (len a b w d : Nat) : Bool := match i with
  | .istore_n k => Nat.blt k.val (ez_mL M m) && Nat.beq len 1
  | .istore k => Nat.blt k (ez_mL M m) && Nat.beq len 2
  | .astore_n k => Nat.blt k.val (ez_mL M m) && Nat.beq len 1
  | .astore k => Nat.blt k (ez_mL M m) && Nat.beq len 2
  | .lstore_n k => Nat.blt (k.val + 1) (ez_mL M m) && Nat.beq len 1
  | .lstore k => Nat.blt (k + 1) (ez_mL M m) && Nat.beq len 2
  | .iinc k _ => Nat.blt k (ez_mL M m) && Nat.beq len 3
  | .bipush _ => Nat.beq len 2
  | .sipush _ => Nat.beq len 3
  | .ldc idx => ez_w tbl w (.constant (ez_my M m).cls idx (Int32.ofNat b)) && Nat.beq len 2
  | .ldc_w idx => ez_w tbl w (.constant (ez_my M m).cls idx (Int32.ofNat b)) && Nat.beq len 3
  | .ldc2_w idx => ez_w tbl w (.constantLong (ez_my M m).cls idx (Int64.ofNat b)) && Nat.beq len 3
  | .getfield idx => Nat.blt a nK && (Nat.blt b (K a).2.2 && (Nat.beq len 3 && (ez_w tbl w (.fieldLink (ez_my M m).cls idx ((K a).2.1 b).1 ((K a).2.1 b).2.1 ((K a).2.1 b).2.2.1) || ez_w tbl w (.fieldLinkNest (ez_my M m).cls idx ((K a).2.1 b).1 ((K a).2.1 b).2.1 ((K a).2.1 b).2.2.1 ez_host))))
  | .putfield idx => Nat.blt a nK && (Nat.blt b (K a).2.2 && (Nat.beq len 3 && ((ez_w tbl w (.fieldLink (ez_my M m).cls idx ((K a).2.1 b).1 ((K a).2.1 b).2.1 ((K a).2.1 b).2.2.1) && (decide (((K a).2.1 b).2.2.2 = false) || (decide (((K a).2.1 b).2.2.2 = true) && (decide ((ez_my M m).name = "<init>") && decide (((K a).2.1 b).1 = (ez_my M m).cls))))) || (ez_w tbl w (.fieldLinkNest (ez_my M m).cls idx ((K a).2.1 b).1 ((K a).2.1 b).2.1 ((K a).2.1 b).2.2.1 ez_host) && decide (((K a).2.1 b).2.2.2 = false)))))
  | .goto off => decide ((pc : Int) + off = (a : Int)) && Nat.beq len 3
  | .if_icmp _ off => decide ((pc : Int) + off = (a : Int)) && Nat.beq len 3
  | .ifCond _ off => decide ((pc : Int) + off = (a : Int)) && Nat.beq len 3
  | .tableswitch _ _ _ _ => true
  | .new idx => Nat.blt a nK && (Nat.beq b (K a).2.2 && (Nat.beq len 3 && ez_w tbl w (.classLink (ez_my M m).cls idx (K a).1)))
  | .newarray .int => ez_w tbl w (.arrayClass .int) && Nat.beq len 2
  | .newarray .long => ez_w tbl w (.arrayClass .long) && Nat.beq len 2
  | .newarray _ => false
  | .invokestatic idx => Nat.beq len 3 && (bif Nat.beq a 901 then Nat.ble 1 (ez_md M m) && (Nat.ble 21 (ez_ml M m) && ez_w tbl w (.methodLink (ez_my M m).cls idx Lib.Math.max.name)) else bif Nat.beq a 902 then Nat.ble 1 (ez_md M m) && (Nat.ble 21 (ez_ml M m) && ez_w tbl w (.methodLink (ez_my M m).cls idx Lib.Math.min.name)) else
      Nat.blt a nM && (Nat.blt (ez_md M a) (ez_md M m) && (Nat.ble (19 + ez_mL M a + ez_ml M a) (ez_ml M m) && (Nat.beq b (ez_mn M a) && (Nat.beq (ez_mk M a) 0 && (ez_w tbl w (.methodLink (ez_my M m).cls idx (ez_my M a)) || ez_w tbl w (.methodLinkNest (ez_my M m).cls idx (ez_my M a) ez_host)))))))
  | .invokevirtual idx => Nat.beq len 3 && (Nat.blt a nM && (Nat.blt (ez_md M a) (ez_md M m) && (Nat.ble (19 + ez_mL M a + ez_ml M a) (ez_ml M m) && (Nat.beq b (ez_mn M a + 1) && (Nat.beq (ez_mk M a) 1 && (Nat.blt d nK && (decide ((K d).1 = (ez_my M a).cls) && (ez_w tbl w (.methodLink (ez_my M m).cls idx (ez_my M a)) || ez_w tbl w (.methodLinkNest (ez_my M m).cls idx (ez_my M a) ez_host)))))))))
  | .invokespecial idx => Nat.beq len 3 && (bif Nat.beq a 900 then Nat.ble 1 (ez_md M m) && (Nat.ble 20 (ez_ml M m) && ez_w tbl w (.methodLink (ez_my M m).cls idx Lib.objectInit)) else
      Nat.blt a nM && (Nat.blt (ez_md M a) (ez_md M m) && (Nat.ble (19 + ez_mL M a + ez_ml M a) (ez_ml M m) && (Nat.beq b (ez_mn M a + 1) && (Nat.beq (ez_mk M a) 2 && ez_w tbl w (.methodLink (ez_my M m).cls idx (ez_my M a)))))))
  | .ireturn => (bif Nat.beq b 0 then decide (ez_mr M m = some .int) else decide (ez_mr M m = some .boolean)) && Nat.beq len 1
  | .lreturn => decide (ez_mr M m = some .long) && Nat.beq len 1
  | .areturn => (match ez_mr M m with
    | some (.object _) => true
    | _ => false) && Nat.beq len 1
  | .return_ => decide (ez_mr M m = none) && Nat.beq len 1
  | i => Nat.beq len (ez_ln i)
def ez_okI (tbl : Unit) (M : ez_M) (K : ez_K) (nM nK m pc : Nat) : ez_I → Bool := fun (i, len, a, b, _, w, d) =>
  decide (decode (ez_mb M m) pc = .ok (i, len)) && ez_okJ tbl M K nM nK m pc i len a b w d
/-- a method's own words -/
def ez_okH (tbl : Unit) (M : ez_M) (m w1 w2 w3 w4 : Nat) : Bool :=
  plainFor (ez_my M m) && (decide ((ez_my M m).cls ≠ "java/lang/invoke/MethodHandle") && (decide ((ez_my M m).cls ≠ "java/lang/invoke/VarHandle") && (ez_w tbl w1 (.code (ez_my M m) (ez_mb M m) (ez_mL M m) (ez_mr M m)) && (ez_w tbl w2 (.initialized (ez_my M m).cls) && (decide ((parseMethodDescriptor (ez_my M m).desc).map (fun d => d.parameters.length) = some (ez_mn M m)) &&
    (match ez_mk M m with
    | 0 => ez_w tbl w3 (.static (ez_my M m))
    | 1 => ez_w tbl w3 (.instanceMethod (ez_my M m)) && ez_w tbl w4 (.selects (ez_my M m).cls (ez_my M m) (ez_my M m))
    | _ => ez_w tbl w3 (.instanceMethod (ez_my M m)) && (decide ((ez_my M m).name = "<init>") && decide (ez_mr M m = none))))))))
def ez_tyok : FieldType → Bool
  | .int => true
  | .long => true
  | .boolean => true
  | .object _ => true
  | .array _ => true
  | _ => false
/-- a class's own words -/
def ez_okC (tbl : Unit) (cl : List vw_C) (K : ez_K) (ty : Nat → Nat → FieldType) (nw : Nat → List Value) (ci : Nat) : Prop :=
  cl[ci]? = some (K ci) ∧ (∀ w ∈ u_ws (K ci).1 (K ci).2.1 (K ci).2.2, w ∈ ez_tb) ∧ (∀ k, k < (K ci).2.2 → parseFieldDescriptor ((K ci).2.1 k).2.2.1 = some (ty ci k) ∧ ez_tyok (ty ci k) = true) ∧
  (∀ a, a < (K ci).2.2 → ∀ b, b < (K ci).2.2 → a ≠ b → ((K ci).2.1 a).2.1 ≠ ((K ci).2.1 b).2.1) ∧ Cond.instantiable (K ci).1 (K ci).2.2 ∈ ez_tb ∧ Cond.initialized (K ci).1 ∈ ez_tb ∧
  (∀ j, j < (K ci).2.2 → defaultValue (ty ci j) = vp_V (nw ci) j) ∧ (∀ v ∈ nw ci, v = .int 0 ∨ v = .long 0 ∨ v = .null)
/-! the machine's pieces, read backwards -/
theorem ez_bif {α : Type} {c : Bool} {x : Option α} {y : α} (h : (bif c then x else none) = some y) : c = true ∧ x = some y := by
  cases c with
  | true => exact ⟨rfl, h⟩
  | false => cases h
theorem ez_bifN {α : Type} {c : Bool} {x : Option α} {y : α} (h : (bif c then none else x) = some y) : c = false ∧ x = some y := by
  cases c with
  | true => cases h
  | false => exact ⟨rfl, h⟩
theorem ez_bin_s {f : Int32 → Int32 → Int32} {st t : List Value} (h : ez_bin f st = some t) : ∃ x y r, st = .int y :: .int x :: r ∧ t = .int (f x y) :: r := by
  unfold ez_bin at h
  split at h
  · exact ⟨_, _, _, rfl, (Option.some.inj h).symm⟩
  · cases h
theorem ez_binD_s {f : Int32 → Int32 → Int32} {st t : List Value} (h : ez_binD f st = some t) : ∃ x y r, st = .int y :: .int x :: r ∧ t = .int (f x y) :: r ∧ ¬ y = 0 := by
  unfold ez_binD at h
  split at h
  · obtain ⟨h1, h2⟩ := ez_bifN h
    exact ⟨_, _, _, rfl, (Option.some.inj h2).symm, of_decide_eq_false h1⟩
  · cases h
theorem ez_binL_s {f : Int64 → Int64 → Int64} {st t : List Value} (h : ez_binL f st = some t) : ∃ x y r, st = .long y :: .long x :: r ∧ t = .long (f x y) :: r := by
  unfold ez_binL at h
  split at h
  · exact ⟨_, _, _, rfl, (Option.some.inj h).symm⟩
  · cases h
theorem ez_sh_s {f : Int64 → Int32 → Int64} {st t : List Value} (h : ez_sh f st = some t) : ∃ x y r, st = .int y :: .long x :: r ∧ t = .long (f x y) :: r := by
  unfold ez_sh at h
  split at h
  · exact ⟨_, _, _, rfl, (Option.some.inj h).symm⟩
  · cases h
theorem ez_lcmp_s {st t : List Value} (h : ez_lcmp st = some t) : ∃ x y r, st = .long y :: .long x :: r ∧ t = .int (lg_cmp x y) :: r := by
  unfold ez_lcmp at h
  split at h
  · exact ⟨_, _, _, rfl, (Option.some.inj h).symm⟩
  · cases h
theorem ez_i2l_s {st t : List Value} (h : ez_i2l st = some t) : ∃ x r, st = .int x :: r ∧ t = .long x.toInt64 :: r := by
  unfold ez_i2l at h
  split at h
  · exact ⟨_, _, rfl, (Option.some.inj h).symm⟩
  · cases h
theorem ez_l2i_s {st t : List Value} (h : ez_l2i st = some t) : ∃ x r, st = .long x :: r ∧ t = .int x.toInt32 :: r := by
  unfold ez_l2i at h
  split at h
  · exact ⟨_, _, rfl, (Option.some.inj h).symm⟩
  · cases h
theorem ez_cat1_s {v : Value} (h : ez_cat1 v = true) : v.category = 1 := by
  unfold ez_cat1 at h
  split at h
  · rfl
  · rfl
  · cases h
theorem ez_dup_s {st t : List Value} (h : ez_dup st = some t) : ∃ v r, st = v :: r ∧ t = v :: v :: r ∧ v.category = 1 := by
  unfold ez_dup at h
  split at h
  · obtain ⟨h1, h2⟩ := ez_bif h
    exact ⟨_, _, rfl, (Option.some.inj h2).symm, ez_cat1_s h1⟩
  · cases h
theorem ez_dup2_s {st t : List Value} (h : ez_dup2 st = some t) : ∃ v w r, st = v :: w :: r ∧ t = v :: w :: v :: w :: r ∧ v.category = 1 ∧ w.category = 1 := by
  unfold ez_dup2 at h
  split at h
  · obtain ⟨h1, h2⟩ := ez_bif h
    obtain ⟨h3, h4⟩ := Bool.and_eq_true_iff.mp h1
    exact ⟨_, _, _, rfl, (Option.some.inj h2).symm, ez_cat1_s h3, ez_cat1_s h4⟩
  · cases h
theorem ez_pop_s {st t : List Value} (h : ez_pop st = some t) : ∃ v, st = v :: t ∧ v.category = 1 := by
  unfold ez_pop at h
  split at h
  · obtain ⟨h1, h2⟩ := ez_bif h
    cases h2
    exact ⟨_, rfl, ez_cat1_s h1⟩
  · cases h
theorem ez_pop2_s {st t : List Value} (h : ez_pop2 st = some t) : ∃ v, st = v :: t ∧ v.category = 2 := by
  unfold ez_pop2 at h
  split at h
  · obtain ⟨h1, h2⟩ := ez_bif h
    cases h2
    exact ⟨_, rfl, Nat.eq_of_beq_eq_true h1⟩
  · cases h
theorem ez_ldI_s {ls st t : List Value} {i : Nat} (h : ez_ldI ls i st = some t) : ∃ v, ls[i]? = some (.int v) ∧ t = .int v :: st := by
  unfold ez_ldI at h
  split at h
  · exact ⟨_, by assumption, (Option.some.inj h).symm⟩
  · cases h
theorem ez_ldL_s {ls st t : List Value} {i : Nat} (h : ez_ldL ls i st = some t) : ∃ v, ls[i]? = some (.long v) ∧ t = .long v :: st := by
  unfold ez_ldL at h
  split at h
  · exact ⟨_, by assumption, (Option.some.inj h).symm⟩
  · cases h
theorem ez_ldA_s {S0 b0 : Nat} {ls st t : List Value} {i : Nat} (h : ez_ldA ls i st = some t) : ∃ v x, ls[i]? = some v ∧ ez_real v = true ∧ t = v :: st ∧ ez_mv S0 b0 v = .ref x := by
  unfold ez_ldA at h
  split at h
  · exact ⟨_, _, by assumption, rfl, (Option.some.inj h).symm, rfl⟩
  · rename_i n hn
    obtain ⟨h1, h2⟩ := ez_bif h
    have h3 : n = 1 := by simpa using h1
    subst h3
    exact ⟨_, b0, hn, rfl, (Option.some.inj h2).symm, rfl⟩
  · cases h
theorem ez_in_s {α : Type} {i : Int32} {n : Nat} {x y : α} (h : ez_in i n x = some y) : vp_in i n ∧ x = y := by
  unfold ez_in at h
  obtain ⟨h1, h2⟩ := ez_bifN h
  obtain ⟨h3, h4⟩ := ez_bifN h2
  refine ⟨?_, Option.some.inj h4⟩
  rintro (q | q)
  · exact of_decide_eq_false h1 q
  · rw [Nat.ble_eq_true_of_le q] at h3
    cases h3
theorem ez_lv_at {S0 b0 : Nat} {lsA : Array Slot} {nL : Nat} {ls : List Value} (hl : lv_has lsA nL (ez_lv S0 b0 0 ls)) {i : Nat} {v : Value} (h : ls[i]? = some v) (hr : ez_real v = true) : lsA[i]? = some (.val (ez_mv S0 b0 v)) :=
  hl.2.2 (i, ez_mv S0 b0 v) ((ez_lv_mem _ _ _ _ _).mpr ⟨i, v, h, hr, by rw [Nat.zero_add]⟩)
