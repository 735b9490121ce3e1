/-! The instructions that neither make, call, jump nor end: each is a row of the kit. -/
/-- what a walk of method m stands on -/
def ez_ctx (tbl : Unit) (M : ez_M) (D : va_G) (cl : List vw_C) (b0 : Nat) (cI cJ : ClassId) (X : ez_X) (m : Nat) (p : Program) (s : State) (mid : MethodId) (args : Array Value) (meth : Method) (c : Code) : Prop :=
  p.tables.exec = Jvm.exec ∧ c.code = ez_mb M m ∧ c.maxLocals = ez_mL M m ∧ s.vm.findClass (ez_my M m).cls = some mid.cls ∧ (∀ w ∈ ez_tb, w.before args s = true) ∧ va_K D cl [(cI, .int), (cJ, .long)] s ∧ va_X b0 X.1 X.2 s s.heap ∧ b0 < s.heap.size ∧ ((ez_my M m).name = "<init>" → meth.name = "<init>")
theorem ez_narrow {ty : FieldType} {v : Value} (ht : ez_tyok ty = true) (h : fits ty v = true) : narrow ty v = v := by
  cases ty <;> first | (cases ht; done) | skip
  all_goals cases v <;> first | rfl | (simp [fits] at h; done) | skip
  rename_i x
  simp only [fits, Bool.or_eq_true, beq_iff_eq] at h
  rcases h with rfl | rfl <;> decide +kernel
section EZB
variable {p : Program} {l : Launch} {e : Env} {R : Room} {s : State} {mid : MethodId} {args : Array Value} {below : List Frame} {meth : Method} {c : Code} {H : Heap} {locs : List Loc} {cells slots : Nat} {Q : State → Prop}
variable {tbl : Unit} {M : ez_M} {K : ez_K} {ty : Nat → Nat → FieldType} {nw : Nat → List Value} {D : va_G} {cl : List vw_C} {S0 b0 : Nat} {cI cJ : ClassId} {X : ez_X}
theorem ez_fits_mv (t : FieldType) (v : Value) (h : fits t v = true) : fits t (ez_mv S0 b0 v) = true := by
  cases v <;> first | exact h | (cases t <;> first | exact h | (simp [fits] at h; done))
set_option maxHeartbeats 4000000 in
theorem ez_b_ok {nM nK m pc len a b w d : Nat} {i : Instr} {ls st ls' st' : List Value} {h h' : ez_H} {lsA : Array Slot} (hC : ∀ ci, ci < nK → ez_okC tbl cl K ty nw ci) (C : ez_ctx tbl M D cl b0 cI cJ X m p s mid args meth c) (hb0 : b0 < S0)
    (hrun : ez_b X ty i a b ls st h = some (ls', st', h')) (hdg : decode (ez_mb M m) pc = .ok (i, len)) (hok : ez_okJ tbl M K nM nK m pc i len a b w d = true)
    (hR : ez_R D cl S0 b0 cI cJ h H) (hS : va_S (ez_A S0) s.heap H locs) (hl : lv_has lsA (ez_mL M m) (ez_lv S0 b0 0 ls))
    (kk : ∀ (H1 : Heap) (locs1 : List Loc) (lsB : Array Slot), ez_R D cl S0 b0 cI cJ h' H1 → va_S (ez_A S0) s.heap H1 locs1 → lv_has lsB (ez_mL M m) (ez_lv S0 b0 0 ls') → W p l e R s mid args below meth c H1 locs1 cells slots Q (F0 mid (pc + len) lsB (st'.map (ez_mv S0 b0)))) :
    W p l e R s mid args below meth c H locs cells slots Q (F0 mid pc lsA (st.map (ez_mv S0 b0))) := by
  obtain ⟨hx, hb, hml, hown, hts, hK, hX, hbl, hin⟩ := C
  have hbA : ¬ ez_A S0 b0 := Nat.not_le.mpr hb0
  cases i
  case aload_n k =>
    obtain ⟨t, ht, he⟩ := Option.map_eq_some_iff.mp hrun
    cases he
    obtain rfl : len = 1 := Nat.eq_of_beq_eq_true hok
    obtain ⟨v, x, h1, h2, rfl, h3⟩ := ez_ldA_s (S0 := S0) (b0 := b0) ht
    have h4 := ez_lv_at hl h1 h2
    rw [h3] at h4
    have kk := kk _ _ _ hR hS hl
    rw [List.map_cons, h3] at kk
    exact lv_aload_n hx hb hdg rfl h4 kk
  case aload k =>
    obtain ⟨t, ht, he⟩ := Option.map_eq_some_iff.mp hrun
    cases he
    obtain rfl : len = 2 := Nat.eq_of_beq_eq_true hok
    obtain ⟨v, x, h1, h2, rfl, h3⟩ := ez_ldA_s (S0 := S0) (b0 := b0) ht
    have h4 := ez_lv_at hl h1 h2
    rw [h3] at h4
    have kk := kk _ _ _ hR hS hl
    rw [List.map_cons, h3] at kk
    exact lv_aload hx hb hdg h4 kk
  case iload_n k =>
    obtain ⟨t, ht, he⟩ := Option.map_eq_some_iff.mp hrun
    cases he
    obtain rfl : len = 1 := Nat.eq_of_beq_eq_true hok
    obtain ⟨v, h1, rfl⟩ := ez_ldI_s ht
    exact lv_iload_n hx hb hdg rfl (ez_lv_at hl h1 rfl) (kk _ _ _ hR hS hl)
  case iload k =>
    obtain ⟨t, ht, he⟩ := Option.map_eq_some_iff.mp hrun
    cases he
    obtain rfl : len = 2 := Nat.eq_of_beq_eq_true hok
    obtain ⟨v, h1, rfl⟩ := ez_ldI_s ht
    exact lv_iload hx hb hdg (ez_lv_at hl h1 rfl) (kk _ _ _ hR hS hl)
  case lload_n k =>
    obtain ⟨t, ht, he⟩ := Option.map_eq_some_iff.mp hrun
    cases he
    obtain rfl : len = 1 := Nat.eq_of_beq_eq_true hok
    obtain ⟨v, h1, rfl⟩ := ez_ldL_s ht
    exact lv_lload_n hx hb hdg rfl (ez_lv_at hl h1 rfl) (kk _ _ _ hR hS hl)
  case lload k =>
    obtain ⟨t, ht, he⟩ := Option.map_eq_some_iff.mp hrun
    cases he
    obtain rfl : len = 2 := Nat.eq_of_beq_eq_true hok
    obtain ⟨v, h1, rfl⟩ := ez_ldL_s ht
    exact lv_lload hx hb hdg (ez_lv_at hl h1 rfl) (kk _ _ _ hR hS hl)
  case istore_n k =>
    obtain ⟨h1, h2⟩ := Bool.and_eq_true_iff.mp hok
    obtain rfl : len = 1 := Nat.eq_of_beq_eq_true h2
    simp only [ez_b] at hrun
    split at hrun
    · rename_i v r
      cases hrun
      exact lv_istore_n hx hb hdg rfl hl (Nat.le_of_ble_eq_true h1) rfl fun lsB hB => kk _ _ _ hR hS (ez_has_sub hB ez_st1_in)
    · cases hrun
  case istore k =>
    obtain ⟨h1, h2⟩ := Bool.and_eq_true_iff.mp hok
    obtain rfl : len = 2 := Nat.eq_of_beq_eq_true h2
    simp only [ez_b] at hrun
    split at hrun
    · rename_i v r
      cases hrun
      exact lv_istore hx hb hdg hl (Nat.le_of_ble_eq_true h1) rfl fun lsB hB => kk _ _ _ hR hS (ez_has_sub hB ez_st1_in)
    · cases hrun
  case astore_n k =>
    obtain ⟨h1, h2⟩ := Bool.and_eq_true_iff.mp hok
    obtain rfl : len = 1 := Nat.eq_of_beq_eq_true h2
    simp only [ez_b] at hrun
    split at hrun
    · rename_i v r
      cases hrun
      exact lv_astore_n hx hb hdg rfl hl (Nat.le_of_ble_eq_true h1) rfl fun lsB hB => kk _ _ _ hR hS (ez_has_sub hB ez_st1_in)
    · cases hrun
  case astore k =>
    obtain ⟨h1, h2⟩ := Bool.and_eq_true_iff.mp hok
    obtain rfl : len = 2 := Nat.eq_of_beq_eq_true h2
    simp only [ez_b] at hrun
    split at hrun
    · rename_i v r
      cases hrun
      exact lv_astore hx hb hdg hl (Nat.le_of_ble_eq_true h1) rfl fun lsB hB => kk _ _ _ hR hS (ez_has_sub hB ez_st1_in)
    · cases hrun
  case lstore_n k =>
    obtain ⟨h1, h2⟩ := Bool.and_eq_true_iff.mp hok
    obtain rfl : len = 1 := Nat.eq_of_beq_eq_true h2
    simp only [ez_b] at hrun
    split at hrun
    · rename_i v r
      cases hrun
      exact lv_lstore_n hx hb hdg rfl hl (Nat.le_of_ble_eq_true h1) rfl fun lsB hB => kk _ _ _ hR hS (ez_has_sub hB ez_st2_in)
    · cases hrun
  case lstore k =>
    obtain ⟨h1, h2⟩ := Bool.and_eq_true_iff.mp hok
    obtain rfl : len = 2 := Nat.eq_of_beq_eq_true h2
    simp only [ez_b] at hrun
    split at hrun
    · rename_i v r
      cases hrun
      exact lv_lstore hx hb hdg hl (Nat.le_of_ble_eq_true h1) rfl fun lsB hB => kk _ _ _ hR hS (ez_has_sub hB ez_st2_in)
    · cases hrun
  case iinc k n =>
    obtain ⟨h1, h2⟩ := Bool.and_eq_true_iff.mp hok
    obtain rfl : len = 3 := Nat.eq_of_beq_eq_true h2
    simp only [ez_b] at hrun
    split at hrun
    · rename_i v hv
      cases hrun
      obtain ⟨j, hj⟩ := List.getElem?_of_mem ((ez_lv_mem S0 b0 _ 0 _).mpr ⟨k, _, hv, rfl, rfl⟩)
      rw [Nat.zero_add] at hj
      exact lv_iinc hx hb hdg hl (k := j) hj rfl (Nat.le_of_ble_eq_true h1) rfl fun lsB hB => kk _ _ _ hR hS (ez_has_sub hB ez_st1_in)
    · cases hrun
  case iconst n =>
    obtain rfl : len = 1 := Nat.eq_of_beq_eq_true hok
    cases hrun
    exact lv_iconst hx hb hdg rfl (kk _ _ _ hR hS hl)
  case lconst n =>
    obtain rfl : len = 1 := Nat.eq_of_beq_eq_true hok
    cases hrun
    exact lv_lconst hx hb hdg rfl (kk _ _ _ hR hS hl)
  case bipush n =>
    obtain rfl : len = 2 := Nat.eq_of_beq_eq_true hok
    cases hrun
    exact lv_bipush hx hb hdg rfl (kk _ _ _ hR hS hl)
  case sipush n =>
    obtain rfl : len = 3 := Nat.eq_of_beq_eq_true hok
    cases hrun
    exact lv_sipush hx hb hdg rfl (kk _ _ _ hR hS hl)
  case ldc n =>
    obtain ⟨h1, h2⟩ := Bool.and_eq_true_iff.mp hok
    obtain rfl : len = 2 := Nat.eq_of_beq_eq_true h2
    cases hrun
    exact lv_ldc hx hb hown (hts _ (ez_w_mem h1)) hdg (kk _ _ _ hR hS hl)
  case ldc_w n =>
    obtain ⟨h1, h2⟩ := Bool.and_eq_true_iff.mp hok
    obtain rfl : len = 3 := Nat.eq_of_beq_eq_true h2
    cases hrun
    exact lv_ldcw hx hb hown (hts _ (ez_w_mem h1)) hdg (kk _ _ _ hR hS hl)
  case ldc2_w n =>
    obtain ⟨h1, h2⟩ := Bool.and_eq_true_iff.mp hok
    obtain rfl : len = 3 := Nat.eq_of_beq_eq_true h2
    cases hrun
    exact lv_ldc2 hx hb hown (hts _ (ez_w_mem h1)) hdg (kk _ _ _ hR hS hl)
  case iadd =>
    obtain ⟨t, ht, he⟩ := Option.map_eq_some_iff.mp hrun
    cases he
    obtain rfl : len = 1 := Nat.eq_of_beq_eq_true hok
    obtain ⟨x, y, r, rfl, rfl⟩ := ez_bin_s ht
    exact lv_iadd hx hb hdg (kk _ _ _ hR hS hl)
  case isub =>
    obtain ⟨t, ht, he⟩ := Option.map_eq_some_iff.mp hrun
    cases he
    obtain rfl : len = 1 := Nat.eq_of_beq_eq_true hok
    obtain ⟨x, y, r, rfl, rfl⟩ := ez_bin_s ht
    exact lv_isub hx hb hdg (kk _ _ _ hR hS hl)
  case imul =>
    obtain ⟨t, ht, he⟩ := Option.map_eq_some_iff.mp hrun
    cases he
    obtain rfl : len = 1 := Nat.eq_of_beq_eq_true hok
    obtain ⟨x, y, r, rfl, rfl⟩ := ez_bin_s ht
    exact lv_imul hx hb hdg (kk _ _ _ hR hS hl)
  case iand =>
    obtain ⟨t, ht, he⟩ := Option.map_eq_some_iff.mp hrun
    cases he
    obtain rfl : len = 1 := Nat.eq_of_beq_eq_true hok
    obtain ⟨x, y, r, rfl, rfl⟩ := ez_bin_s ht
    exact lv_iand hx hb hdg (kk _ _ _ hR hS hl)
  case ior =>
    obtain ⟨t, ht, he⟩ := Option.map_eq_some_iff.mp hrun
    cases he
    obtain rfl : len = 1 := Nat.eq_of_beq_eq_true hok
    obtain ⟨x, y, r, rfl, rfl⟩ := ez_bin_s ht
    exact lv_ior hx hb hdg (kk _ _ _ hR hS hl)
  case ixor =>
    obtain ⟨t, ht, he⟩ := Option.map_eq_some_iff.mp hrun
    cases he
    obtain rfl : len = 1 := Nat.eq_of_beq_eq_true hok
    obtain ⟨x, y, r, rfl, rfl⟩ := ez_bin_s ht
    exact lv_ixor hx hb hdg (kk _ _ _ hR hS hl)
  case ishl =>
    obtain ⟨t, ht, he⟩ := Option.map_eq_some_iff.mp hrun
    cases he
    obtain rfl : len = 1 := Nat.eq_of_beq_eq_true hok
    obtain ⟨x, y, r, rfl, rfl⟩ := ez_bin_s ht
    exact lv_ishl hx hb hdg (kk _ _ _ hR hS hl)
  case ishr =>
    obtain ⟨t, ht, he⟩ := Option.map_eq_some_iff.mp hrun
    cases he
    obtain rfl : len = 1 := Nat.eq_of_beq_eq_true hok
    obtain ⟨x, y, r, rfl, rfl⟩ := ez_bin_s ht
    exact lv_ishr hx hb hdg (kk _ _ _ hR hS hl)
  case iushr =>
    obtain ⟨t, ht, he⟩ := Option.map_eq_some_iff.mp hrun
    cases he
    obtain rfl : len = 1 := Nat.eq_of_beq_eq_true hok
    obtain ⟨x, y, r, rfl, rfl⟩ := ez_bin_s ht
    exact lv_iushr hx hb hdg rfl (kk _ _ _ hR hS hl)
  case idiv =>
    obtain ⟨t, ht, he⟩ := Option.map_eq_some_iff.mp hrun
    cases he
    obtain rfl : len = 1 := Nat.eq_of_beq_eq_true hok
    obtain ⟨x, y, r, rfl, rfl, h1⟩ := ez_binD_s ht
    exact lv_idiv hx hb hdg h1 (kk _ _ _ hR hS hl)
  case irem =>
    obtain ⟨t, ht, he⟩ := Option.map_eq_some_iff.mp hrun
    cases he
    obtain rfl : len = 1 := Nat.eq_of_beq_eq_true hok
    obtain ⟨x, y, r, rfl, rfl, h1⟩ := ez_binD_s ht
    exact lv_irem hx hb hdg h1 (kk _ _ _ hR hS hl)
  case ladd =>
    obtain ⟨t, ht, he⟩ := Option.map_eq_some_iff.mp hrun
    cases he
    obtain rfl : len = 1 := Nat.eq_of_beq_eq_true hok
    obtain ⟨x, y, r, rfl, rfl⟩ := ez_binL_s ht
    exact lv_ladd hx hb hdg (kk _ _ _ hR hS hl)
  case lsub =>
    obtain ⟨t, ht, he⟩ := Option.map_eq_some_iff.mp hrun
    cases he
    obtain rfl : len = 1 := Nat.eq_of_beq_eq_true hok
    obtain ⟨x, y, r, rfl, rfl⟩ := ez_binL_s ht
    exact lv_lsub hx hb hdg (kk _ _ _ hR hS hl)
  case lmul =>
    obtain ⟨t, ht, he⟩ := Option.map_eq_some_iff.mp hrun
    cases he
    obtain rfl : len = 1 := Nat.eq_of_beq_eq_true hok
    obtain ⟨x, y, r, rfl, rfl⟩ := ez_binL_s ht
    exact lv_lmul hx hb hdg (kk _ _ _ hR hS hl)
  case land =>
    obtain ⟨t, ht, he⟩ := Option.map_eq_some_iff.mp hrun
    cases he
    obtain rfl : len = 1 := Nat.eq_of_beq_eq_true hok
    obtain ⟨x, y, r, rfl, rfl⟩ := ez_binL_s ht
    exact lv_land hx hb hdg (kk _ _ _ hR hS hl)
  case lor =>
    obtain ⟨t, ht, he⟩ := Option.map_eq_some_iff.mp hrun
    cases he
    obtain rfl : len = 1 := Nat.eq_of_beq_eq_true hok
    obtain ⟨x, y, r, rfl, rfl⟩ := ez_binL_s ht
    exact lv_lor hx hb hdg (kk _ _ _ hR hS hl)
  case lxor =>
    obtain ⟨t, ht, he⟩ := Option.map_eq_some_iff.mp hrun
    cases he
    obtain rfl : len = 1 := Nat.eq_of_beq_eq_true hok
    obtain ⟨x, y, r, rfl, rfl⟩ := ez_binL_s ht
    exact lv_lxor hx hb hdg (kk _ _ _ hR hS hl)
  case lshl =>
    obtain ⟨t, ht, he⟩ := Option.map_eq_some_iff.mp hrun
    cases he
    obtain rfl : len = 1 := Nat.eq_of_beq_eq_true hok
    obtain ⟨x, y, r, rfl, rfl⟩ := ez_sh_s ht
    exact lv_lshl hx hb hdg rfl (kk _ _ _ hR hS hl)
  case lshr =>
    obtain ⟨t, ht, he⟩ := Option.map_eq_some_iff.mp hrun
    cases he
    obtain rfl : len = 1 := Nat.eq_of_beq_eq_true hok
    obtain ⟨x, y, r, rfl, rfl⟩ := ez_sh_s ht
    exact lv_lshr hx hb hdg rfl (kk _ _ _ hR hS hl)
  case lushr =>
    obtain ⟨t, ht, he⟩ := Option.map_eq_some_iff.mp hrun
    cases he
    obtain rfl : len = 1 := Nat.eq_of_beq_eq_true hok
    obtain ⟨x, y, r, rfl, rfl⟩ := ez_sh_s ht
    exact lv_lushr hx hb hdg rfl (kk _ _ _ hR hS hl)
  case lcmp =>
    obtain ⟨t, ht, he⟩ := Option.map_eq_some_iff.mp hrun
    cases he
    obtain rfl : len = 1 := Nat.eq_of_beq_eq_true hok
    obtain ⟨x, y, r, rfl, rfl⟩ := ez_lcmp_s ht
    exact W.lcmp hx hb hdg (kk _ _ _ hR hS hl)
  case i2l =>
    obtain ⟨t, ht, he⟩ := Option.map_eq_some_iff.mp hrun
    cases he
    obtain rfl : len = 1 := Nat.eq_of_beq_eq_true hok
    obtain ⟨x, r, rfl, rfl⟩ := ez_i2l_s ht
    exact lv_i2l hx hb hdg rfl (kk _ _ _ hR hS hl)
  case l2i =>
    obtain ⟨t, ht, he⟩ := Option.map_eq_some_iff.mp hrun
    cases he
    obtain rfl : len = 1 := Nat.eq_of_beq_eq_true hok
    obtain ⟨x, r, rfl, rfl⟩ := ez_l2i_s ht
    exact lv_l2i hx hb hdg rfl (kk _ _ _ hR hS hl)
  case dup =>
    obtain ⟨t, ht, he⟩ := Option.map_eq_some_iff.mp hrun
    cases he
    obtain rfl : len = 1 := Nat.eq_of_beq_eq_true hok
    obtain ⟨v, r, rfl, rfl, h1⟩ := ez_dup_s ht
    exact lv_dup hx hb hdg ((ez_mv_cat S0 b0 v).trans h1) (kk _ _ _ hR hS hl)
  case dup2 =>
    obtain ⟨t, ht, he⟩ := Option.map_eq_some_iff.mp hrun
    cases he
    obtain rfl : len = 1 := Nat.eq_of_beq_eq_true hok
    obtain ⟨v, w, r, rfl, rfl, h1, h2⟩ := ez_dup2_s ht
    exact lv_dup2_11 hx hb hdg ((ez_mv_cat S0 b0 v).trans h1) ((ez_mv_cat S0 b0 w).trans h2) (kk _ _ _ hR hS hl)
  case pop =>
    obtain ⟨t, ht, he⟩ := Option.map_eq_some_iff.mp hrun
    cases he
    obtain rfl : len = 1 := Nat.eq_of_beq_eq_true hok
    obtain ⟨v, rfl, h1⟩ := ez_pop_s ht
    exact lv_pop hx hb hdg ((ez_mv_cat S0 b0 v).trans h1) (kk _ _ _ hR hS hl)
  case pop2 =>
    obtain ⟨t, ht, he⟩ := Option.map_eq_some_iff.mp hrun
    cases he
    obtain rfl : len = 1 := Nat.eq_of_beq_eq_true hok
    obtain ⟨v, rfl, h1⟩ := ez_pop2_s ht
    exact lv_pop2_2 hx hb hdg ((ez_mv_cat S0 b0 v).trans h1) (kk _ _ _ hR hS hl)
  case iaload =>
    obtain ⟨t, ht, he⟩ := Option.map_eq_some_iff.mp hrun
    cases he
    obtain rfl : len = 1 := Nat.eq_of_beq_eq_true hok
    unfold ez_iald at ht
    split at ht
    · rename_i i q r
      split at ht
      · rename_i n f hq
        obtain ⟨h1, rfl⟩ := ez_in_s ht
        exact va_iald hx hb hK hR.2 q 0 (ez_ws_at hq) rfl h1 hdg (kk _ _ _ hR hS hl)
      · cases ht
    · rename_i i n r
      obtain ⟨h0, ht⟩ := ez_bif ht
      obtain ⟨h1, rfl⟩ := ez_in_s ht
      have h3 : n = 1 := by simpa using h0
      subst h3
      exact va_sld hx hb hX hbl hbA hS h1 hdg (kk _ _ _ hR hS hl)
    · cases ht
  case laload =>
    obtain ⟨t, ht, he⟩ := Option.map_eq_some_iff.mp hrun
    cases he
    obtain rfl : len = 1 := Nat.eq_of_beq_eq_true hok
    unfold ez_lald at ht
    split at ht
    · rename_i i q r
      split at ht
      · rename_i n f hq
        obtain ⟨h1, rfl⟩ := ez_in_s ht
        exact va_lald hx hb hK hR.2 q 1 (ez_ws_at hq) rfl h1 hdg (kk _ _ _ hR hS hl)
      · cases ht
    · cases ht
  case iastore =>
    obtain ⟨t, ht, he⟩ := Option.map_eq_some_iff.mp hrun
    cases he
    obtain rfl : len = 1 := Nat.eq_of_beq_eq_true hok
    unfold ez_iast at ht
    split at ht
    · rename_i x i q r
      split at ht
      · rename_i n f hq
        obtain ⟨h1, rfl⟩ := ez_in_s ht
        exact ez_iastrow hx hb hK hR hS hq h1 hdg fun H1 locs1 hR1 hS1 => kk _ _ _ hR1 hS1 hl
      · cases ht
    · cases ht
  case lastore =>
    obtain ⟨t, ht, he⟩ := Option.map_eq_some_iff.mp hrun
    cases he
    obtain rfl : len = 1 := Nat.eq_of_beq_eq_true hok
    unfold ez_last at ht
    split at ht
    · rename_i x i q r
      split at ht
      · rename_i n f hq
        obtain ⟨h1, rfl⟩ := ez_in_s ht
        exact ez_lastrow hx hb hK hR hS hq h1 hdg fun H1 locs1 hR1 hS1 => kk _ _ _ hR1 hS1 hl
      · cases ht
    · cases ht
  case arraylength =>
    obtain ⟨t, ht, he⟩ := Option.map_eq_some_iff.mp hrun
    cases he
    obtain rfl : len = 1 := Nat.eq_of_beq_eq_true hok
    unfold ez_alen at ht
    split at ht
    · rename_i q r
      split at ht
      · rename_i n f hq
        cases ht
        exact va_alen hx hb hK hR.2 q 0 (ez_ws_at hq) rfl rfl hdg (kk _ _ _ hR hS hl)
      · rename_i n f hq
        cases ht
        exact va_alen hx hb hK hR.2 q 1 (ez_ws_at hq) rfl rfl hdg (kk _ _ _ hR hS hl)
      · cases ht
    · rename_i n r
      obtain ⟨h0, ht⟩ := ez_bif ht
      cases ht
      have h3 : n = 1 := by simpa using h0
      subst h3
      exact va_slen hx hb hX hbl hbA hS hdg (kk _ _ _ hR hS hl)
    · cases ht
  case getfield idx =>
    obtain ⟨t, ht, he⟩ := Option.map_eq_some_iff.mp hrun
    cases he
    obtain ⟨ha, hok⟩ := Bool.and_eq_true_iff.mp hok
    obtain ⟨hb1, hok⟩ := Bool.and_eq_true_iff.mp hok
    obtain ⟨h2, hok⟩ := Bool.and_eq_true_iff.mp hok
    obtain rfl : len = 3 := Nat.eq_of_beq_eq_true h2
    obtain ⟨c1, c2, c3, c4, -⟩ := hC a (Nat.le_of_ble_eq_true ha)
    unfold ez_get at ht
    split at ht
    · rename_i q r
      split at ht
      · rename_i cj fs hq
        obtain ⟨h3, ht2⟩ := ez_bif ht
        clear ht
        obtain rfl : cj = a := Nat.eq_of_beq_eq_true h3
        split at ht2
        · rename_i v hv
          cases ht2
          have hv' : (fs.map (ez_mv S0 b0))[b]? = some (ez_mv S0 b0 v) := by rw [List.getElem?_map, hv]; rfl
          rcases Bool.or_eq_true_iff.mp hok with hw | hw
          · exact va_get hx hb hts c2 hown hK hR.2 q (ez_ws_at hq) c1 b (Nat.le_of_ble_eq_true hb1) (hts _ (ez_w_mem hw)) (fun _ h9 => h9) hv' hdg (kk _ _ _ hR hS hl)
          · exact va_getN hx hb hts c2 hown hK hR.2 q (ez_ws_at hq) c1 b (Nat.le_of_ble_eq_true hb1) (hts _ (ez_w_mem hw)) (fun _ h9 => h9) hv' hdg (kk _ _ _ hR hS hl)
        · cases ht2
      · cases ht
    · cases ht
  case putfield idx =>
    obtain ⟨t, ht, he⟩ := Option.map_eq_some_iff.mp hrun
    cases he
    obtain ⟨ha, hok⟩ := Bool.and_eq_true_iff.mp hok
    obtain ⟨hb1, hok⟩ := Bool.and_eq_true_iff.mp hok
    obtain ⟨h2, hok⟩ := Bool.and_eq_true_iff.mp hok
    obtain rfl : len = 3 := Nat.eq_of_beq_eq_true h2
    obtain ⟨c1, c2, c3, c4, -⟩ := hC a (Nat.le_of_ble_eq_true ha)
    unfold ez_set at ht
    split at ht
    · rename_i v q r
      split at ht
      · rename_i cj fs hq
        obtain ⟨h3, ht2⟩ := ez_bif ht
        clear ht
        obtain ⟨h3, h5⟩ := Bool.and_eq_true_iff.mp h3
        obtain ⟨h3, h4⟩ := Bool.and_eq_true_iff.mp h3
        obtain rfl : cj = a := Nat.eq_of_beq_eq_true h3
        cases ht2
        have hf := ez_fits_mv (S0 := S0) (b0 := b0) _ _ h4
        refine ez_putrow hx hb hts c2 (ty cj) (fun k hk => (c3 k hk).1) c4 hown hK hR hS hq c1 b (Nat.le_of_ble_eq_true hb1) ?_ (ez_narrow (c3 b (Nat.le_of_ble_eq_true hb1)).2 hf) hf (Nat.le_of_ble_eq_true h5) hdg fun H1 locs1 hR1 hS1 => kk _ _ _ hR1 hS1 hl
        rcases Bool.or_eq_true_iff.mp hok with hw | hw
        · obtain ⟨hw, hz⟩ := Bool.and_eq_true_iff.mp hw
          refine Or.inl ⟨hts _ (ez_w_mem hw), ?_⟩
          rcases Bool.or_eq_true_iff.mp hz with hz | hz
          · exact Or.inl (of_decide_eq_true hz)
          · obtain ⟨z1, hz⟩ := Bool.and_eq_true_iff.mp hz
            obtain ⟨z2, z3⟩ := Bool.and_eq_true_iff.mp hz
            exact Or.inr ⟨of_decide_eq_true z1, hin (of_decide_eq_true z2), of_decide_eq_true z3⟩
        · obtain ⟨hw, hz⟩ := Bool.and_eq_true_iff.mp hw
          exact Or.inr ⟨ez_host, hts _ (ez_w_mem hw), of_decide_eq_true hz⟩
      · cases ht
    · cases ht
  all_goals (simp [ez_b] at hrun; done)
end EZB
