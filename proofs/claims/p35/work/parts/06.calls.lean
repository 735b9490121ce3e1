/-! A method's contract out of a run of the machine, and a call. -/
/-- a method's words -/
def ez_wsm (tbl : Unit) (M : ez_M) (m : Nat) : List Cond := .code (ez_my M m) (ez_mb M m) (ez_mL M m) (ez_mr M m) :: ez_tb.filter goodWord
/-- the nest mates' links in a state -/
def ez_Nw (tbl : Unit) (U : State) : Prop := ∀ w ∈ ez_tb, ez_nest w = true → va_Nw w U
theorem ez_nest_on {w : Cond} (h : ez_nest w = true) : w.onTables = true := by
  cases w <;> first | rfl | (cases h; done)
theorem ez_Nw.of {tbl : Unit} {A : Array Value} {s : State} (h : ∀ w ∈ ez_tb, w.before A s = true) : ez_Nw tbl s := fun w hw hn => va_Nw.of (ez_nest_on hn) (h w hw)
theorem ez_Nw.warm {tbl : Unit} {s U : State} (hW : s.WarmedH U.vm) (h : ez_Nw tbl s) : ez_Nw tbl U := by
  intro w hw hn
  have h1 := h w hw hn
  cases w <;> first | (cases hn; done) | exact va_Nw.warmF hW h1 | exact va_Nw.warmM hW h1
def ez_rm (M : ez_M) (m c k : Nat) : Room := { frames := ez_md M m, cells := c, slots := k, locals := ez_ml M m }
def ez_Pc (tbl : Unit) (D : va_G) (cl : List vw_C) (S0 b0 : Nat) (cI cJ : ClassId) (X : ez_X) (as : List Value) (h : ez_H) : Array Value → State → Prop := fun v U => v = (as.map (ez_mv S0 b0)).toArray ∧ ez_R D cl S0 b0 cI cJ h U.heap ∧ va_K D cl [(cI, .int), (cJ, .long)] U ∧ va_X b0 X.1 X.2 U U.heap ∧ ez_Nw tbl U
def ez_Qc (D : va_G) (cl : List vw_C) (S0 b0 : Nat) (cI cJ : ClassId) (r : Option Value) (h : ez_H) : Array Value → State → Outcome → State → Prop := fun _ st oc t => oc = .returned (r.map (ez_mv S0 b0)) ∧ ez_R D cl S0 b0 cI cJ h t.heap ∧ va_F (ez_A S0) st t
/-- the instruction at which a method ends, and its answer -/
def ez_rt (ret : Option FieldType) (i : Instr) (r : Option Value) : Prop :=
  (i = .ireturn ∧ ∃ v, r = some (.int v) ∧ (ret = some .int ∨ (ret = some .boolean ∧ (v = 0 ∨ v = 1)))) ∨ (i = .lreturn ∧ ∃ v, r = some (.long v) ∧ ret = some .long) ∨ (i = .areturn ∧ ∃ q C, r = some (.ref q) ∧ ret = some (.object C)) ∨ (i = .return_ ∧ r = none ∧ ret = none)
theorem ez_blind {tbl : Unit} {D : va_G} {cl : List vw_C} {S0 b0 : Nat} {cI cJ : ClassId} {X : ez_X} {as : List Value} {h : ez_H} : FrameBlind (ez_Pc tbl D cl S0 b0 cI cJ X as h) := by
  intro a U g mk q
  obtain ⟨q0, q1, q2, q3, q4⟩ := q
  exact ⟨q0, q1, va_K.moved (u := U) (U := U.calling g mk a) (Vm.Alike.refl U.vm) q2, va_X.moved (u := U) (U := U.calling g mk a) (Vm.Alike.refl U.vm) q3, fun w hw hn => va_Nw.same (u := U) (U := U.calling g mk a) (ez_nest_on hn) rfl (q4 w hw hn)⟩
theorem ez_sl_len (S0 b0 : Nat) (as : List Value) : (lg_sl (as.map (ez_mv S0 b0))).length = ez_cats as := by
  induction as with
  | nil => rfl
  | cons v t ih =>
    have h : lg_sl ((v :: t).map (ez_mv S0 b0)) = (if (ez_mv S0 b0 v).category = 2 then [.val (ez_mv S0 b0 v), .second] else [.val (ez_mv S0 b0 v)]) ++ lg_sl (t.map (ez_mv S0 b0)) := rfl
    rw [h, List.length_append, ih, ez_mv_cat]
    show _ = v.category + ez_cats t
    rcases lv_cat v with h1 | h1
    · rw [h1]; rfl
    · rw [h1]; rfl
section EZC
variable {p : Program} {l : Launch} {e : Env} {R : Room} {s : State} {mid : MethodId} {args : Array Value} {below : List Frame} {meth : Method} {c : Code} {H : Heap} {locs : List Loc} {cells slots : Nat} {Q : State → Prop}
variable {tbl : Unit} {M : ez_M} {D : va_G} {cl : List vw_C} {S0 b0 : Nat} {cI cJ : ClassId} {X : ez_X}
/-- a script that a walk hasn't touched -/
theorem ez_X_kept {U : State} (hX : va_X b0 X.1 X.2 s s.heap) (hb0 : b0 < S0) (hbl : b0 < s.heap.size) (hS : va_S (ez_A S0) s.heap H locs) (hU : U.heap = H) (hW : s.WarmedH U.vm) : va_X b0 X.1 X.2 U U.heap := by
  rw [hU]
  exact (hX.kept (hS.2.1 b0 hbl (Nat.not_le.mpr hb0))).moved hW.alike
theorem ez_back {pc : Nat} {ls : Array Slot} {rest st0 : List Value} {a : Array Value} {mc ms : Nat} {r : Option Value} {h' : ez_H}
    (hr : va_Run p l e R s mid args below meth c H locs cells slots mc ms (F0 mid pc ls st0) rest (ez_Qc D cl S0 b0 cI cJ r h' a) (ez_A S0)) (hS : va_S (ez_A S0) s.heap H locs)
    (kk : ∀ (H1 : Heap) (locs1 : List Loc), ez_R D cl S0 b0 cI cJ h' H1 → va_S (ez_A S0) s.heap H1 locs1 → W p l e R s mid args below meth c H1 locs1 (cells + mc) (slots + ms) Q (F0 mid (pc + 3) ls ((r.map (ez_mv S0 b0)).toList ++ rest))) :
    W p l e R s mid args below meth c H locs cells slots Q (F0 mid pc ls st0) := by
  intro T hT X0
  obtain ⟨v, st₀, t, T', L, h0, X', hL, e1, e2, ⟨hv, hR1, hz, hk⟩, st⟩ := hr T hT X0
  cases hv
  rw [h0] at hz hk
  obtain ⟨t2, a1, b1⟩ := kk T'.heap (locs ++ L) (by rw [e1]; exact hR1) ⟨Nat.le_trans hS.1 (by rw [e1]; exact hz), fun q h1 h2 => by rw [e1, hk q (Nat.lt_of_lt_of_le h1 hS.1) h2]; exact hS.2.1 q h1 h2, fun q hq => by
      rcases List.mem_append.mp hq with h | h
      · exact hS.2.2 q h
      · exact hL q h⟩ T' rfl X'
  exact ⟨t2, st t2 a1, b1⟩
end EZC
