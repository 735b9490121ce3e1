section
/-! New objects keep to the bounds; the law from its start. -/
theorem lw_c1 (f : Nat → Int32) (hf : ∀ k, f k = if k = 3 then 5 else if k = 4 then 5 else if k = 6 then 25 else 0) (k : Nat) : (cx_B0 1 k).1 ≤ (f k).toInt ∧ (f k).toInt ≤ (cx_B0 1 k).2 := by
  rw [show cx_B0 1 k = (bif Nat.beq k 1 then (-1, 1) else bif Nat.beq k 2 then (-1, 1) else bif Nat.beq k 3 then (2, 6) else bif Nat.beq k 4 then (2, 6) else bif Nat.beq k 5 then (0, 1) else bif Nat.beq k 6 then (4, 36) else cx_i32) from rfl, hf k]
  by_cases h1 : k = 1
  · subst h1; exact ⟨by decide, by decide⟩
  by_cases h2 : k = 2
  · subst h2; exact ⟨by decide, by decide⟩
  by_cases h3 : k = 3
  · subst h3; exact ⟨by decide, by decide⟩
  by_cases h4 : k = 4
  · subst h4; exact ⟨by decide, by decide⟩
  by_cases h5 : k = 5
  · subst h5; exact ⟨by decide, by decide⟩
  by_cases h6 : k = 6
  · subst h6; exact ⟨by decide, by decide⟩
  rw [if_neg h3, if_neg h4, if_neg h6, cx_beqf h1, cx_beqf h2, cx_beqf h3, cx_beqf h4, cx_beqf h5, cx_beqf h6]
  exact ⟨by decide, by decide⟩
theorem lw_c35 (f : Nat → Int32) (hf : ∀ k, f k = if k = 0 then 5 else if k = 1 then 5 else if k = 7 then 1 else 0) (k : Nat) : (cx_B0 35 k).1 ≤ (f k).toInt ∧ (f k).toInt ≤ (cx_B0 35 k).2 := by
  rw [show cx_B0 35 k = (bif Nat.beq k 0 then (2, 6) else bif Nat.beq k 1 then (2, 6) else bif Nat.beq k 2 then (0, 1) else bif Nat.beq k 3 then (0, 3) else bif Nat.beq k 6 then (0, 2) else bif Nat.beq k 7 then (0, 1) else bif Nat.beq k 8 then (0, 2) else bif Nat.beq k 9 then (-1, 1) else bif Nat.beq k 10 then (-1, 1) else bif Nat.beq k 14 then (0, 10000) else bif Nat.beq k 16 then (0, 30) else bif Nat.beq k 24 then (0, 10000) else cx_i32) from rfl, hf k]
  by_cases h0 : k = 0
  · subst h0; exact ⟨by decide, by decide⟩
  by_cases h1 : k = 1
  · subst h1; exact ⟨by decide, by decide⟩
  by_cases h2 : k = 2
  · subst h2; exact ⟨by decide, by decide⟩
  by_cases h3 : k = 3
  · subst h3; exact ⟨by decide, by decide⟩
  by_cases h6 : k = 6
  · subst h6; exact ⟨by decide, by decide⟩
  by_cases h7 : k = 7
  · subst h7; exact ⟨by decide, by decide⟩
  by_cases h8 : k = 8
  · subst h8; exact ⟨by decide, by decide⟩
  by_cases h9 : k = 9
  · subst h9; exact ⟨by decide, by decide⟩
  by_cases h10 : k = 10
  · subst h10; exact ⟨by decide, by decide⟩
  by_cases h14 : k = 14
  · subst h14; exact ⟨by decide, by decide⟩
  by_cases h16 : k = 16
  · subst h16; exact ⟨by decide, by decide⟩
  by_cases h24 : k = 24
  · subst h24; exact ⟨by decide, by decide⟩
  rw [if_neg h0, if_neg h1, if_neg h7, cx_beqf h0, cx_beqf h1, cx_beqf h2, cx_beqf h3, cx_beqf h6, cx_beqf h7, cx_beqf h8, cx_beqf h9, cx_beqf h10, cx_beqf h14, cx_beqf h16, cx_beqf h24]
  exact ⟨by decide, by decide⟩
theorem lw_c22 (f : Nat → Int32) (hf : ∀ k, f k = if k = 11 then (-1) else 0) (k : Nat) : (cx_B0 22 k).1 ≤ (f k).toInt ∧ (f k).toInt ≤ (cx_B0 22 k).2 := by
  rw [show cx_B0 22 k = (bif Nat.beq k 8 then (0, 1) else cx_i32) from rfl, hf k]
  by_cases h8 : k = 8
  · subst h8; exact ⟨by decide, by decide⟩
  by_cases h11 : k = 11
  · subst h11; exact ⟨by decide, by decide⟩
  rw [if_neg h11, cx_beqf h8]
  exact ⟨by decide, by decide⟩
abbrev lw_z (p : cx_Iv) : Prop := p.1 ≤ 0 ∧ 0 ≤ p.2
theorem lw_zc {b : Bool} {p q : cx_Iv} (h1 : lw_z p) (h2 : lw_z q) : lw_z (bif b then p else q) := by
  cases b
  · exact h2
  · exact h1
theorem lw_zero {a k : Nat} (h1 : a ≠ 1) (h35 : a ≠ 35) : lw_z (cx_B0 a k) := by
  unfold cx_B0
  rw [cx_beqf h1, cx_beqf h35]
  simp only [cond_false]
  repeat' (first | exact (show lw_z _ from ⟨by decide, by decide⟩) | apply lw_zc)
theorem lw_hB : cx_hB cx_B0 ev_I0 := by
  have e0 : (0 : Int32).toInt = 0 := by decide
  intro a k
  by_cases h61 : a = 61
  · subst h61; exact cx_full32 _
  by_cases h35 : a = 35
  · subst h35
    refine lw_c35 _ (fun k => ?_) k
    unfold ev_I0
    rw [cx_sI_n _ _ (by decide), cx_sI_s]
    unfold upd
    by_cases z7 : k = 7
    · subst z7; rfl
    by_cases z1 : k = 1
    · subst z1; rfl
    by_cases z0 : k = 0
    · subst z0; rfl
    rw [if_neg z7, if_neg z1, if_neg z0, if_neg z0, if_neg z1, if_neg z7]
  by_cases h33 : a = 33
  · subst h33; exact cx_full32 _
  by_cases h22 : a = 22
  · subst h22
    refine lw_c22 _ (fun k => ?_) k
    unfold ev_I0
    rw [cx_sI_n _ _ (by decide), cx_sI_n _ _ (by decide), cx_sI_n _ _ (by decide), cx_sI_s]
    rfl
  by_cases h2 : a = 2
  · subst h2
    rw [show cx_B0 2 k = (0, 2) from rfl]
    unfold ev_I0
    rw [cx_sI_n _ _ (by decide), cx_sI_n _ _ (by decide), cx_sI_n _ _ (by decide), cx_sI_n _ _ (by decide), cx_sI_s]
    unfold upd
    split
    · exact ⟨by decide, by decide⟩
    · exact (show (0 : Int) ≤ (0 : Int32).toInt ∧ (0 : Int32).toInt ≤ 2 from ⟨by decide, by decide⟩)
  by_cases h1 : a = 1
  · subst h1
    refine lw_c1 _ (fun k => ?_) k
    unfold ev_I0
    rw [cx_sI_n _ _ (by decide), cx_sI_n _ _ (by decide), cx_sI_n _ _ (by decide), cx_sI_n _ _ (by decide), cx_sI_n _ _ (by decide), cx_sI_s]
    unfold upd
    by_cases z6 : k = 6
    · subst z6; rfl
    by_cases z4 : k = 4
    · subst z4; rfl
    by_cases z3 : k = 3
    · subst z3; rfl
    rw [if_neg z6, if_neg z4, if_neg z3, if_neg z3, if_neg z4, if_neg z6]
  · have hz : ev_I0 a k = 0 := by
      unfold ev_I0
      rw [cx_sI_n _ _ h61, cx_sI_n _ _ h35, cx_sI_n _ _ h33, cx_sI_n _ _ h22, cx_sI_n _ _ h2, cx_sI_n _ _ h1]
    rw [hz, e0]
    exact lw_zero h1 h35
theorem lw_rows : cx_rows ev_R0 [] :=
  ⟨fun x hx => (by cases hx), 0, 0, 0, Or.inl ⟨by decide, rfl, [], rfl⟩, Or.inl ⟨by decide, rfl, [], rfl⟩, Or.inl ⟨by decide, rfl, [], rfl⟩, Or.inl ⟨by decide, rfl, [], rfl⟩, Or.inl ⟨by decide, rfl, [], rfl⟩, by decide, by decide, by decide, by decide⟩
theorem lw_k0 : kx ev_I0 = km ev_I0 := by
  have h : (5 : Int32) * 5 = 25 := by decide
  have e : ev_I0 35 0 * ev_I0 35 1 = 25 := h
  unfold km
  rw [e]
  rfl
theorem lw_r0 : rl ev_I0 ev_J0 := ⟨lw_k0, fi_none rfl⟩
theorem el_run (L : Nat) (xs : Nat → Int32) (hL : L ≤ 2048) : ev_W (L, xs) 241 0 [ez_scr] [] [] 0 0 (fun r _ c k => r = some (.int 1) ∧ c ≤ 600000 ∧ k ≤ 7302250) :=
  rw_start (L, xs) (law_l (L, xs) hL 3000 0 ev_I0 ev_J0 ev_R0 [] 65 121826 (by decide) (by decide) (by decide) ⟨lw_hB, lw_rows⟩ ⟨⟨⟨lw_r0, l2_0⟩, l3_0⟩, d4_0⟩ rfl rfl)
end
section
/-! The claim out of the run: the kit's skeleton behind its part A, its whole_start filled. -/
theorem ez_hA : Cond.arrayClass .int ∈ ez_tb ∧ Cond.arrayClass .long ∈ ez_tb := by decide +kernel
/-! THE CLAIM OUT OF ONE WALK OF THE LAW'S BODY. Your part is whole_start (and what it stands on); all else here is the same for every law, but numbers. -/
noncomputable def R_law : String := "SquaredShipsLaw"
noncomputable def lw_P (b : Addr) (xs : List Int32) (args : Array Value) (s : State) : Prop := args = #[.ref b] ∧ s.IntsAt b xs ∧ xs.length ≤ 2048 ∧ (Jvm.Cond.and given_1 narrow_1).before args s = true
noncomputable def lw_Q (_ : Array Value) (s : State) (o : Outcome) (t : State) : Prop := o = .returned (some (.int 1)) ∧ Framed s o t [] 600000 7302250
noncomputable def lw_Z (below : List Frame) (a : Array Value) (s : State) : State → Prop := fun t => ∃ o, t.status = .running ∧ Ended t below o ∧ lw_Q a s o t
/-- the law's own end, with 1 on the stack, nothing written that was there before, its room as the claim has it -/
theorem lw_ret {p : Program} {l : Launch} {e : Env} {s : State} {m : MethodId} {below : List Frame} {meth : Method} {c : Code} {b : Nat} (hx : p.tables.exec = Jvm.exec) (hb : c.code = code) (hr : meth.sig.returnType = ret) (hlocks : meth.locks = false) {pc : Nat} {H : Heap} {ls : Array Slot} (hdg : decode code pc = .ok (.ireturn, 1)) : W p l e room_1 s m #[Value.ref b] below meth c H [] 600000 7302250 (lw_Z below #[Value.ref b] s) (F0 m pc ls [.int 1]) := by
  intro T hT X
  obtain ⟨fs, hret, hrun, hended, hW, hframe⟩ := X.leave (v := some (.int 1)) (hlocks := hlocks) (fun h => by rw [hr] at h; cases h)
  have hmeth' : T.vm.method? m = some meth := X.method'
  refine ⟨T.setFrames fs, ?_, .returned (some (.int 1)), hrun, hended, rfl, ⟨_, rfl⟩, hW, hframe⟩
  jvm_step X.here [X.here.top, hx, hb, hdg, hmeth', hr, ret, narrow_b1]
  (try refine ⟨rfl, ?_⟩); (try refine ⟨rfl, ?_⟩)
  first | (intro acts; rw [hret _ acts rfl rfl rfl]) | rw [hret _ _ rfl rfl rfl]
  exact Steps.refl _
/-- what holds at the law's entry: the machine, the code, the tables' words (any of lw_tbl by 'hts w (by decide +kernel)'), the script of L ints xs at the cell b, what the Statement gives of the start (any of its parts by flat_of_before) -/
noncomputable def lw_At (p : Program) (s : State) (m : MethodId) (meth : Method) (c : Code) (b L : Nat) (xs : Nat → Int32) : Prop :=
  p.tables.exec = Jvm.exec ∧ c.code = code ∧ meth.sig.returnType = ret ∧ c.maxLocals = 4 ∧ s.vm.findClass R_law = some m.cls ∧ (∀ w ∈ lw_tbl, w.before #[Value.ref b] s = true) ∧ va_X b L xs s s.heap ∧ b < s.heap.size ∧ meth.locks = false ∧ (Jvm.Cond.and given_1 narrow_1).before #[Value.ref b] s = true
-- ===== YOUR PART BEGINS =====
/-- YOUR PART: from the entry, for every script of at most 2048 ints, the law comes to its end with true ('hflags': the launch's flags, for a law that throws: no stack traces) -/
theorem whole_start {p : Program} {e : Env} {s : State} {m : MethodId} {below : List Frame} {meth : Method} {c : Code} (l : Launch) (hflags : l.flags = flags0) {b L : Nat} {xs : Nat → Int32} (hL : L ≤ 2048) (C0 : lw_At p s m meth c b L xs) : W p l e room_1 s m #[Value.ref b] below meth c s.heap [] 0 0 (lw_Z below #[Value.ref b] s) (entryFrame m ([Value.ref b] : List Value).toArray 4) := by
  obtain ⟨hx, hb, hr, hml, hown, hts, hX, hbl, hlocks, hgv⟩ := id C0
  have htb : ∀ w ∈ ez_tb, w.before #[Value.ref b] s = true := fun w hw => hts w (List.mem_filter.mp hw).1
  obtain ⟨cI, kI, tI, i1, i2, i3⟩ := Cond.arrayClass_spec (htb (.arrayClass .int) ez_hA.1)
  obtain ⟨cJ, kJ, tJ, j1, j2, j3⟩ := Cond.arrayClass_spec (htb (.arrayClass .long) ez_hA.2)
  have hk : ∀ ci : Nat, ∃ (cC : ClassId) (iS : Nat → Nat), ci < 13 → u_Kn s (ez_K0 ci).1 (ez_K0 ci).2.1 (ez_K0 ci).2.2 cC iS := by
    intro ci
    by_cases h : ci < 13
    · obtain ⟨-, d2, -, -, d5, -⟩ := ez_hC ci h
      obtain ⟨cC, iS, hh⟩ := u_known htb d2 (htb _ d5)
      exact ⟨cC, iS, fun _ => hh⟩
    · exact ⟨cI, fun _ => 0, fun z => absurd z h⟩
  have hKc : ∀ (c : Nat) (q : vw_C), ez_cl0[c]? = some q → u_Kn s q.1 q.2.1 q.2.2 (Classical.choose (hk c)) (Classical.choose (Classical.choose_spec (hk c))) := by
    intro c q hq
    have hc : c < 13 := (List.getElem?_eq_some_iff.mp hq).1
    have h := Classical.choose_spec (Classical.choose_spec (hk c)) hc
    have e := (ez_hC c hc).1
    obtain rfl : q = ez_K0 c := Option.some.inj (hq.symm.trans e)
    exact h
  have hK : va_K (fun c => Classical.choose (hk c), fun c => Classical.choose (Classical.choose_spec (hk c))) ez_cl0 [(cI, .int), (cJ, .long)] s := by
    refine ⟨hKc, fun k q h => ?_⟩
    match k, h with
    | 0, h => cases h; exact ⟨fun n z => ⟨fun k h => (by cases h), kI, i2, tI, i3⟩, i1⟩
    | 1, h => cases h; exact ⟨fun n z => ⟨fun k h => (by cases h), kJ, j2, tJ, j3⟩, j1⟩
    | k + 2, h => simp at h
  obtain ⟨r, h', c', k', ⟨hr1, hc1, hk1⟩, F, hF⟩ := el_run L xs hL
  have hrun : ez_ev ez_P0 (L, xs) ez_ty0 ez_nw0 (ez_mL ez_M0) F 241 0 [ez_scr] [] [] 0 0 = some (r, h', c', k') := by
    rw [← fx_is]
    exact hF 0
  obtain ⟨-, hw⟩ := ez_sound (l := l) (K := ez_K0) (nK := 13) (S0 := s.heap.size) (b0 := b) (X := (L, xs)) (cl := ez_cl0) hbl ez_hg (fun a ha => ez_ph_241 a ha) ez_hC (fun m hm => ez_hI m hm) ez_hmax ez_hmin ez_hobj F 241 0 [ez_scr] [] [] 0 0 r h' c' k' (Nat.le_refl _) hrun
  have hl := lv_entry ([.ref b]) (n := 4) (Nat.le_of_ble_eq_true rfl)
  rw [lg_entry_eq]
  refine hw _ cI cJ p e room_1 s m _ below meth c s.heap [] _ _ ⟨hx, hb, hml, hown, htb, hK, hX, hbl, fun z => absurd z (by decide +kernel)⟩ (Nat.le_of_ble_eq_true rfl) (Nat.le_of_ble_eq_true rfl) hc1 hk1 ⟨by simp, fun k q h => by simp [ez_ws] at h⟩ va_S.rf hl ?_
  intro i q lsB H1 locs1 hdg hrt hR1 hS1
  subst hr1
  rcases hrt with ⟨rfl, v, hv, -⟩ | ⟨-, v, hv, -⟩ | ⟨-, q1, C, hv, -⟩ | ⟨-, hv, -⟩
  · refine va_forget (fun q hq => hS1.2.2 q hq) ?_
    exact W.widen hc1 hk1 (lw_ret hx hb hr hlocks hdg)
  · cases hv
  · cases hv
  · cases hv
-- ===== YOUR PART ENDS =====
set_option maxHeartbeats 4000000 in
theorem lw_walk (l : Launch) (hflags : l.flags = flags0) (b : Addr) (xs : List Int32) : MetFree l x (headSpec (Jvm.Cond.code x code maxLocals ret :: tables_1) room_1) (lw_P b xs) (fun _ _ _ _ _ => True) lw_Q := by
  refine MetFree.of_bodyS (code := code) (maxLocals := maxLocals) (ret := ret) (by decide) ?_ ?_
  · intro args s m h hn
    obtain ⟨meth, c, h1, h2, h3, h4, h5, h6, -, -⟩ := Cond.code_spec hn (atoms_spec (ws := Jvm.Cond.code x code maxLocals ret :: tables_1) h _ List.mem_cons_self)
    exact ⟨meth, c, h1, h2, h3, h4, h5, h6⟩
  · intro p e s m args below meth c s₁ B hml0 hP _
    obtain ⟨rfl, hx, hbd, hgv⟩ := hP
    obtain ⟨scr, harrAt, hlist, hof, hsmall⟩ := hx
    obtain ⟨hcb, hkn, -, -⟩ := State.arrayAt?_spec harrAt
    have hown : s.vm.findClass R_law = some m.cls := findClass_of_methodNamed B.named
    have hts0 : ∀ c ∈ (Jvm.Cond.code x code maxLocals ret :: tables_1), c.before #[Value.ref b] s = true := atoms_spec (ws := Jvm.Cond.code x code maxLocals ret :: tables_1) B.pre
    have hts : ∀ w ∈ lw_tbl, w.before #[Value.ref b] s = true := k2_hts_sels lw_privs (fun w hw => hts0 w (List.mem_cons_of_mem _ hw)) lw_privs_ok
    have hml : c.maxLocals = 4 := B.maxLocals_eq (hts0 _ List.mem_cons_self)
    have X₀ : Stand p l e room_1 s m #[Value.ref b] below meth c s₁ [] 0 0 := Stand.of_body B
    have hh0 : s₁.heap = s.heap := by rw [B.state]; rfl
    have hsz : scr.slots.size = xs.length := by rw [← Array.length_toList, hlist, List.length_map]
    have hval : ∀ j : Nat, j < xs.length → scr.slots[j]? = some (.int (xs.getD j 0)) := fun j hj => by
      rw [← Array.getElem?_toList, hlist]
      simp [hj]
    have hbl : b < s.heap.size := (Array.getElem?_eq_some_iff.mp hcb).1
    have hX : va_X b xs.length (fun j => xs.getD j 0) s s.heap := ⟨scr, hcb, hof, hkn, hsz, hval⟩
    have K : W p l e room_1 s m #[Value.ref b] below meth c s₁.heap [] 0 0 (lw_Z below #[Value.ref b] s) (entryFrame m ([Value.ref b] : List Value).toArray 4) := by
      rw [hh0]
      exact whole_start l hflags hbd ⟨B.exec, B.bytes, B.returns, hml, hown, hts, hX, hbl, B.notSynchronized, hgv⟩
    obtain ⟨t, a1, o, b1, b2, b3⟩ := K s₁ rfl X₀
    exact ⟨t, o, a1, b1, b2, b3⟩
theorem lw_pre_spec {args : Array Value} {s : State} (h : (Jvm.Cond.and given_1 narrow_1).before args s = true) (hr : rest_1_c.before args s = true) : ∃ (b : Addr) (xs : List Int32), lw_P b xs args s := by
  have hs := flat_of_before _ h
  have hq := flat_of_before _ hr
  have hc : (Cond.count 1).before args s = true := hs _ (by decide +kernel)
  have harr : (Cond.arrayOf (.arg 0) .int).before args s = true := hs _ (by decide +kernel)
  have hle : (Cond.le (.length (.arg 0)) (.int 2048)).before args s = true := hs _ (by decide +kernel)
  have hlen : (Cond.isInt (.length (.arg 0))).before args s = true := hq _ (by decide +kernel)
  have hall : (Cond.all (.arg 0) (.isInt (.elem (.arg 0) (.index 0)))).before args s = true := hq _ (by decide +kernel)
  obtain ⟨b, xs, hb, hx⟩ := State.ints_of_pre rfl harr hlen hall
  have hsm : xs.length < 2 ^ 31 := hx.choose_spec.2.2.2
  have hev : (Term.length (.arg 0)).eval args s none [] s = some (.int xs.length.toInt32) := hx.length_eval hb
  have hv := Cond.le_ints hev (show (Term.int 2048).eval args s none [] s = some (.int 2048) from rfl)
  have hd : xs.length.toInt32 ≤ 2048 := by
    simpa [Cond.before, Cond.holds, hv] using hle
  have hN : xs.length ≤ 2048 := (Int32.ofNat_le_ofNat hsm (by decide)).mp (show Int32.ofNat xs.length ≤ Int32.ofNat 2048 from hd)
  exact ⟨b, xs, Cond.one_arg hc (show args[0]? = some (.ref b) from hb), hx, hN, h⟩
theorem lw_comes (l : Launch) (hflags : l.flags = flags0) : Comes l x (Jvm.Cond.code x code maxLocals ret :: tables_1) room_1 (fun tb e args s => Calls_1 tb e args s ∧ rest_1 tb e args s ∧ Pre_1 tb e args s)
    (fun _ _ args s o t => lw_Q args s o t) := by
  intro p e ha hc hk s m args below hf hfit hheap happ hpre
  obtain ⟨b, xs, hP⟩ := lw_pre_spec hpre.2.2 hpre.2.1
  obtain ⟨k, o, h1, h2, h3, hQ⟩ := lw_walk l hflags b xs p e ha hc hk s m args below hf ((Spec.applies_iff_loose hf).mp happ).1 hP trivial
  exact ⟨k, o, h1, h2, h3, hQ⟩
theorem lw_frame {s t : State} {o : Outcome} {args : Array Value} (h : Framed s o t [] 600000 7302250) :
    Framed s o t (fieldLocs frame_1_writes args s ++ arrayLocs frame_1_arrays args s ++ staticLocs frame_1_statics s) 600000 7302250 := h
theorem lw_limb (L : Cond) (hL : ∀ (args : Array Value) (s t : State), L.after args s (.returned (some (.int 1))) t = true) :
    ArmFor flags0 classFile x code maxLocals ret World_1 tables_1 room_1 Calls_1 rest_1 Pre_1
      (fun tb e a s o t => postC L tb e a s o t ∧ Framed s o t (fieldLocs frame_1_writes a s ++ arrayLocs frame_1_arrays a s ++ staticLocs frame_1_statics s) 600000 7302250) := by
  intro l hflags _ _ p e ha hc hk s m args below hf hfit hheap happ hpre
  obtain ⟨k, o, h1, h2, h3, rfl, hF⟩ := lw_comes l hflags p e ha hc hk s m args below hf hfit hheap happ hpre
  exact ⟨k, _, h1, h2, h3, hL args s _, lw_frame hF⟩
theorem i_vc : Claimed_1_1 ∧ Claimed_1_2 := ⟨lw_limb limb_1_1 (fun args s t => by simp [limb_1_1, Cond.after, Cond.holds, Cond.value]), lw_limb limb_1_2 (fun args s t => Cond.after_iff.mpr (by
  first | (rw [show limb_1_2 = Cond.eq .result (.int 1) from rfl, Cond.eq_ints (x := 1) (y := 1) rfl rfl]; simp; done) | (simp [limb_1_2, Cond.value, Term.eval]; done)))⟩
end
