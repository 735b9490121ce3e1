/-! Rows of the machine over the heap: a store or a making, and how large the heap is behind it. -/
section EZROWS
variable {p : Program} {l : Launch} {e : Env} {R : Room} {s : State} {m : MethodId} {args : Array Value} {below : List Frame} {meth : Method} {c : Code} {H : Heap} {locs : List Loc} {cells slots : Nat} {Q : State → Prop}
variable {cc : ByteArray} {pc : Nat} {ls : Array Slot} {rest : List Value}
variable {D : va_G} {cl : List vw_C} {S0 b0 : Nat} {cI cJ : ClassId} {h : ez_H} {H0 : Heap} {tbl : List Cond}
theorem ez_R.put {H1 : Heap} {q : Nat} {x y : ez_C} (hR : ez_R D cl S0 b0 cI cJ h H) (hq : h[q]? = some x) (z : H1.size = H.size) (o : ∀ j : Nat, j ≠ S0 + q → H1[j]? = H[j]?) (hy : va_at D cl (S0 + q, ez_mc S0 b0 cI cJ y) H1) : ez_R D cl S0 b0 cI cJ (h.set q y) H1 := by
  refine ⟨by rw [z, hR.1, List.length_set], ?_⟩
  rw [ez_ws_set, Nat.zero_add]
  exact hR.2.set (ez_ws_D S0 b0 cI cJ h) (ez_ws_at hq) hy o
theorem ez_R.push {H1 : Heap} {y : ez_C} (hR : ez_R D cl S0 b0 cI cJ h H) (z : H1.size = H.size + 1) (o : ∀ j : Nat, j < H.size → H1[j]? = H[j]?) (hy : va_at D cl (H.size, ez_mc S0 b0 cI cJ y) H1) : ez_R D cl S0 b0 cI cJ (h ++ [y]) H1 := by
  refine ⟨by rw [z, hR.1, List.length_append]; rfl, ?_⟩
  rw [ez_ws_app, Nat.zero_add, ← hR.1]
  refine (hR.2.kept fun k q hk => o q.1 (hR.2 k q hk).lt).app fun k q hk => ?_
  have hz : k < 1 := (List.getElem?_eq_some_iff.mp hk).1
  rw [show k = 0 by omega] at hk
  cases hk
  exact hy
theorem ez_S.push {H1 : Heap} (hS : va_S (ez_A S0) H0 H locs) (z : H1.size = H.size + 1) (o : ∀ j : Nat, j < H.size → H1[j]? = H[j]?) : va_S (ez_A S0) H0 H1 locs :=
  ⟨Nat.le_trans hS.1 (by omega), fun q h1 h2 => (o q (Nat.lt_of_lt_of_le h1 hS.1)).trans (hS.2.1 q h1 h2), hS.2.2⟩
/-- a field is written, by any of the three kinds of links -/
theorem ez_putrow (hexec : p.tables.exec = Jvm.exec) (hb : c.code = cc) {own C : String} {T : u_T} {N ci index q : Nat} (hts : ∀ w ∈ tbl, w.before args s = true) (hin : ∀ w ∈ u_ws C T N, w ∈ tbl) (ty : Nat → FieldType) (hty : ∀ k, k < N → parseFieldDescriptor (T k).2.2.1 = some (ty k)) (hnm : ∀ a, a < N → ∀ b, b < N → a ≠ b → (T a).2.1 ≠ (T b).2.1) (hown : s.vm.findClass own = some m.cls)
    {tys : List (ClassId × FieldType)} (hK : va_K D cl tys s) (hR : ez_R D cl S0 b0 cI cJ h H) (hS0 : va_S (ez_A S0) H0 H locs) {fs : List Value} (he : h[q]? = some (.inr (ci, fs))) (hc : cl[ci]? = some (C, T, N)) (k : Nat) (hk : k < N)
    (hlink : ((Cond.fieldLink own index (T k).1 (T k).2.1 (T k).2.2.1).before args s = true ∧ ((T k).2.2.2 = false ∨ ((T k).2.2.2 = true ∧ meth.name = "<init>" ∧ (T k).1 = own))) ∨ (∃ host, (Cond.fieldLinkNest own index (T k).1 (T k).2.1 (T k).2.2.1 host).before args s = true ∧ (T k).2.2.2 = false))
    {v : Value} (hn : narrow (ty k) (ez_mv S0 b0 v) = ez_mv S0 b0 v) (hfit : fits (ty k) (ez_mv S0 b0 v) = true) (hl : k < fs.length) (hdg : decode cc pc = .ok (.putfield index, 3))
    (kk : ∀ (H1 : Heap) (locs1 : List Loc), ez_R D cl S0 b0 cI cJ (h.set q (.inr (ci, fs.set k v))) H1 → va_S (ez_A S0) H0 H1 locs1 → W p l e R s m args below meth c H1 locs1 cells slots Q (F0 m (pc + 3) ls rest)) : W p l e R s m args below meth c H locs cells slots Q (F0 m pc ls (ez_mv S0 b0 v :: .ref (S0 + q) :: rest)) := by
  have hap := va_apart (own := own) hts hin ty hty hnm hK hc
  obtain ⟨r, h1, cell, q1, q2, q3, q4⟩ := hR.2 q _ (ez_ws_at he)
  have hr : r = (C, T, N) := Option.some.inj (h1.symm.trans hc)
  subst hr
  obtain ⟨hS, hfc, kC, hkC, hkind⟩ := hK.1 ci _ hc
  obtain ⟨cf, kf, fi, f, hi, hsl⟩ := hS k hk
  have hst := (u_facts hfc hkC (u_lays hts hin hk) hi).1
  have hlay := hts _ (hin _ (u_in_lay hk))
  unfold u_lay at hlay
  have fin : ∀ H' : Heap, H'[S0 + q]? = some (cell.setSlot f.slot (ez_mv S0 b0 v)) → H'.size = H.size → (∀ j, j ≠ S0 + q → H'[j]? = H[j]?) → W p l e R s m args below meth c H' (locs ++ [⟨S0 + q, f.slot⟩]) cells slots Q (F0 m (pc + 3) ls rest) := by
    intro H' e1 e2 e3
    rw [hsl] at e1 ⊢
    refine kk H' _ (hR.put he e2 e3 ?_) (hS0.put e2 e3 (Nat.le_add_right S0 q))
    refine ⟨_, hc, t_OB.to (V := updV (vp_V (fs.map (ez_mv S0 b0))) k (ez_mv S0 b0 v)) ⟨_, e1, q2, q3, t_set q4 hap hk _⟩ fun j _ => ?_⟩
    rw [vp_updV_set (by rw [List.length_map]; exact hl), ← List.map_set]
  have hz : k2_hasslot (q4 k hk) = k2_hasslot (q4 k hk) := rfl
  rcases hlink with ⟨hlink, hf | ⟨hf, hi2, hdecl⟩⟩ | ⟨host, hlink, hf⟩
  · rw [if_neg (by rw [hf]; decide)] at hlay
    have h6 := u_store hfc hkC hkind hlay hi (hty k hk) hn hfit
    exact W.putK hexec hb (f := f) ⟨hown, hlink, ⟨_, _, _, hi⟩, hst⟩ (by rw [q2]; exact h6) q1 q3 (by rw [hsl]; exact k2_hasslot (q4 k hk)) rfl rfl hdg fin
  · rw [if_pos hf] at hlay
    have hcf : m.cls = cf := by
      obtain ⟨_, _, c', _, _, _, -, -, hf', -, -, -, hown2, -⟩ := Cond.laysFinal_spec hlay
      have e1 : c' = cf := by have := hi.symm.trans hf'; simp at this; exact this.1.symm
      rw [hdecl] at hown2
      rw [← e1]; exact Option.some.inj (hown.symm.trans hown2)
    have h6 := u_fits hfc hkC hkind (Or.inr hlay) hi (hty k hk) hn hfit
    exact W.putFinK hexec hb hown hlink hi hst hcf hi2 (by rw [q2]; exact h6) q1 q3 (by rw [hsl]; exact k2_hasslot (q4 k hk)) rfl rfl hdg fin
  · rw [if_neg (by rw [hf]; decide)] at hlay
    have h6 := u_store hfc hkC hkind hlay hi (hty k hk) hn hfit
    exact va_WputK hexec hb (f := f) hown hlink hi hst (by rw [q2]; exact h6) q1 q3 (by rw [hsl]; exact k2_hasslot (q4 k hk)) rfl rfl hdg fin
theorem ez_iastrow (hexec : p.tables.exec = Jvm.exec) (hb : c.code = cc) (hK : va_K D cl [(cI, .int), (cJ, .long)] s) (hR : ez_R D cl S0 b0 cI cJ h H) (hS0 : va_S (ez_A S0) H0 H locs) {q n : Nat} {f : Nat → Int32} (he : h[q]? = some (.inl (n, .inl f))) {i x : Int32} (hin : vp_in i n) (hdg : decode cc pc = .ok (.iastore, 1))
    (kk : ∀ (H1 : Heap) (locs1 : List Loc), ez_R D cl S0 b0 cI cJ (h.set q (.inl (n, .inl (upd f i.toNatClampNeg x)))) H1 → va_S (ez_A S0) H0 H1 locs1 → W p l e R s m args below meth c H1 locs1 cells slots Q (F0 m (pc + 1) ls rest)) : W p l e R s m args below meth c H locs cells slots Q (F0 m pc ls (.int x :: .int i :: .ref (S0 + q) :: rest)) := by
  refine W.iast hexec hb (hR.2 q _ (ez_ws_at he)) ((hK.2 0 _ rfl).1 n (fun j => .int (f j))) (fun q => by cases q) (by show ¬ (i < 0 ∨ (arrV _ _ _).slots.size ≤ _); rw [arrV_size]; exact hin) rfl rfl hdg fun H1 e1 z o => ?_
  refine kk H1 _ (hR.put he z o ?_) (hS0.put z o (Nat.le_add_right S0 q))
  show H1[S0 + q]? = some (vp_cell _ _)
  rw [e1]
  show some ((arrV cI n fun j => .int (f j)).setSlot _ _) = some (arrV cI n fun j => .int (upd f i.toNatClampNeg x j))
  rw [arrV_store]
  congr 2
  funext j
  show (if j = i.toNatClampNeg then Value.int x else .int (f j)) = .int (if j = i.toNatClampNeg then x else f j)
  split <;> rfl
theorem ez_lastrow (hexec : p.tables.exec = Jvm.exec) (hb : c.code = cc) (hK : va_K D cl [(cI, .int), (cJ, .long)] s) (hR : ez_R D cl S0 b0 cI cJ h H) (hS0 : va_S (ez_A S0) H0 H locs) {q n : Nat} {f : Nat → Int64} (he : h[q]? = some (.inl (n, .inr (.inl f)))) {i : Int32} {x : Int64} (hin : vp_in i n) (hdg : decode cc pc = .ok (.lastore, 1))
    (kk : ∀ (H1 : Heap) (locs1 : List Loc), ez_R D cl S0 b0 cI cJ (h.set q (.inl (n, .inr (.inl (vp_updL f i.toNatClampNeg x))))) H1 → va_S (ez_A S0) H0 H1 locs1 → W p l e R s m args below meth c H1 locs1 cells slots Q (F0 m (pc + 1) ls rest)) : W p l e R s m args below meth c H locs cells slots Q (F0 m pc ls (.long x :: .int i :: .ref (S0 + q) :: rest)) := by
  refine W.last hexec hb (hR.2 q _ (ez_ws_at he)) ((hK.2 1 _ rfl).1 n (fun j => .long (f j))) (fun q => by cases q) (by show ¬ (i < 0 ∨ (arrV _ _ _).slots.size ≤ _); rw [arrV_size]; exact hin) rfl rfl hdg fun H1 e1 z o => ?_
  refine kk H1 _ (hR.put he z o ?_) (hS0.put z o (Nat.le_add_right S0 q))
  show H1[S0 + q]? = some (vp_cell _ _)
  rw [e1]
  show some ((arrV cJ n fun j => .long (f j)).setSlot _ _) = some (arrV cJ n fun j => .long (vp_updL f i.toNatClampNeg x j))
  rw [arrV_store]
  congr 2
  funext j
  show (if j = i.toNatClampNeg then Value.long x else .long (f j)) = .long (if j = i.toNatClampNeg then x else f j)
  split <;> rfl
theorem ez_newrow (hexec : p.tables.exec = Jvm.exec) (hb : c.code = cc) {own C : String} {T : u_T} {N ci index : Nat} (hts : ∀ w ∈ tbl, w.before args s = true) (hin : ∀ w ∈ u_ws C T N, w ∈ tbl) (ty : Nat → FieldType) (hty : ∀ k, k < N → parseFieldDescriptor (T k).2.2.1 = some (ty k)) (hown : s.vm.findClass own = some m.cls)
    (hcl : (Cond.classLink own index C).before args s = true) (hinst : (Cond.instantiable C N).before args s = true) (hini : (Cond.initialized C).before args s = true)
    {tys : List (ClassId × FieldType)} (hK : va_K D cl tys s) (hR : ez_R D cl S0 b0 cI cJ h H) (hS0 : va_S (ez_A S0) H0 H locs) (hc : cl[ci]? = some (C, T, N)) {fs : List Value} (hfs : ∀ j, j < N → defaultValue (ty j) = vp_V (fs.map (ez_mv S0 b0)) j) (hcells : cells + 1 ≤ R.cells) (hslots : slots + N ≤ R.slots) (hdg : decode cc pc = .ok (.new index, 3))
    (kk : ∀ H1 : Heap, ez_R D cl S0 b0 cI cJ (h ++ [.inr (ci, fs)]) H1 → va_S (ez_A S0) H0 H1 locs → W p l e R s m args below meth c H1 locs (cells + 1) (slots + N) Q (F0 m (pc + 3) ls (.ref (S0 + h.length) :: rest))) : W p l e R s m args below meth c H locs cells slots Q (F0 m pc ls rest) := by
  have hKn := hK.1 ci _ hc
  refine W.newcK hexec hb hown hcl hinst hini rfl hdg hcells hslots hKn.2.1 rfl fun H1 kC hkC e1 z1 o1 => ?_
  rw [hR.1]
  exact kk H1 (hR.push z1 o1 ⟨_, hc, (u_born ty hts hin hKn hkC e1 hty).to hfs⟩) (ez_S.push hS0 z1 o1)
theorem ez_cls_eq {ty : FieldType} {cA cB : ClassId} (hty : ty = .int ∨ ty = .long) (h1 : s.vm.findClass ("[" ++ ty.toString) = some cA) (h2 : va_RA s cB ty) : cA = cB := by
  rcases hty with rfl | rfl
  · exact Option.some.inj (h1.symm.trans h2)
  · exact Option.some.inj (h1.symm.trans h2)
theorem ez_newIrow (hexec : p.tables.exec = Jvm.exec) (hb : c.code = cc) (harr : (Cond.arrayClass .int).before args s = true) (hK : va_K D cl [(cI, .int), (cJ, .long)] s) (hR : ez_R D cl S0 b0 cI cJ h H) (hS0 : va_S (ez_A S0) H0 H locs)
    {n : Int32} (hn : ¬ n < 0) (hbytes : n.toNatClampNeg ≤ 1000000) (hcells : cells + 1 ≤ R.cells) (hslots : slots + n.toNatClampNeg ≤ R.slots) (hdg : decode cc pc = .ok (.newarray .int, 2))
    (kk : ∀ H1 : Heap, ez_R D cl S0 b0 cI cJ (h ++ [.inl (n.toNatClampNeg, .inl fun _ => 0)]) H1 → va_S (ez_A S0) H0 H1 locs → W p l e R s m args below meth c H1 locs (cells + 1) (slots + n.toNatClampNeg) Q (F0 m (pc + 2) ls (.ref (S0 + h.length) :: rest))) : W p l e R s m args below meth c H locs cells slots Q (F0 m pc ls (.int n :: rest)) := by
  refine va_newaK hexec hb (atype := .int) harr rfl hdg rfl hn rfl (by show _ * 4 ≤ _; omega) hcells hslots rfl fun H1 cA e1 z1 o1 hAr hNm => ?_
  have he : cA = cI := ez_cls_eq (Or.inl rfl) hNm (hK.2 0 _ rfl).2
  subst he
  rw [hR.1]
  exact kk H1 (hR.push z1 o1 e1) (ez_S.push hS0 z1 o1)
theorem ez_newJrow (hexec : p.tables.exec = Jvm.exec) (hb : c.code = cc) (harr : (Cond.arrayClass .long).before args s = true) (hK : va_K D cl [(cI, .int), (cJ, .long)] s) (hR : ez_R D cl S0 b0 cI cJ h H) (hS0 : va_S (ez_A S0) H0 H locs)
    {n : Int32} (hn : ¬ n < 0) (hbytes : n.toNatClampNeg ≤ 1000000) (hcells : cells + 1 ≤ R.cells) (hslots : slots + n.toNatClampNeg ≤ R.slots) (hdg : decode cc pc = .ok (.newarray .long, 2))
    (kk : ∀ H1 : Heap, ez_R D cl S0 b0 cI cJ (h ++ [.inl (n.toNatClampNeg, .inr (.inl fun _ => 0))]) H1 → va_S (ez_A S0) H0 H1 locs → W p l e R s m args below meth c H1 locs (cells + 1) (slots + n.toNatClampNeg) Q (F0 m (pc + 2) ls (.ref (S0 + h.length) :: rest))) : W p l e R s m args below meth c H locs cells slots Q (F0 m pc ls (.int n :: rest)) := by
  refine va_newaK hexec hb (atype := .long) harr rfl hdg rfl hn rfl (by show _ * 8 ≤ _; omega) hcells hslots rfl fun H1 cA e1 z1 o1 hAr hNm => ?_
  have he : cA = cJ := ez_cls_eq (Or.inr rfl) hNm (hK.2 1 _ rfl).2
  subst he
  rw [hR.1]
  exact kk H1 (hR.push z1 o1 e1) (ez_S.push hS0 z1 o1)
end EZROWS
