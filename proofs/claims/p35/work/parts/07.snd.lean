/-! The machine is sound: what it answers, the method answers. -/
def ez_exit (l : Launch) (M : ez_M) (D : va_G) (cl : List vw_C) (S0 b0 : Nat) (cI cJ : ClassId) (m : Nat) (r : Option Value) (h' : ez_H) (c' k' : Nat) (p : Program) (e : Env) (R : Room) (s : State) (mid : MethodId) (args : Array Value) (below : List Frame) (meth : Method) (co : Code) (Q : State → Prop) : Prop :=
  ∀ (i : Instr) (q : Nat) (lsB : Array Slot) (H1 : Heap) (locs1 : List Loc), decode (ez_mb M m) q = .ok (i, 1) → ez_rt (ez_mr M m) i r → ez_R D cl S0 b0 cI cJ h' H1 → va_S (ez_A S0) s.heap H1 locs1 → W p l e R s mid args below meth co H1 locs1 c' k' Q (F0 mid q lsB (r.map (ez_mv S0 b0)).toList)
def ez_snd (l : Launch) (tbl : Unit) (M : ez_M) (P : ez_P) (X : ez_X) (ty : Nat → Nat → FieldType) (nw : Nat → List Value) (cl : List vw_C) (S0 b0 nM F : Nat) : Prop :=
  ∀ (m pc : Nat) (ls st : List Value) (h : ez_H) (c k : Nat) (r : Option Value) (h' : ez_H) (c' k' : Nat), m ≤ nM → ez_ev P X ty nw (ez_mL M) F m pc ls st h c k = some (r, h', c', k') → (c ≤ c' ∧ k ≤ k') ∧
    ∀ (D : va_G) (cI cJ : ClassId) (p : Program) (e : Env) (R : Room) (s : State) (mid : MethodId) (args : Array Value) (below : List Frame) (meth : Method) (co : Code) (H : Heap) (locs : List Loc) (lsA : Array Slot) (Q : State → Prop),
      ez_ctx tbl M D cl b0 cI cJ X m p s mid args meth co → ez_md M m ≤ R.frames → ez_ml M m ≤ R.locals → c' ≤ R.cells → k' ≤ R.slots → ez_R D cl S0 b0 cI cJ h H → va_S (ez_A S0) s.heap H locs → lv_has lsA (ez_mL M m) (ez_lv S0 b0 0 ls) →
      ez_exit l M D cl S0 b0 cI cJ m r h' c' k' p e R s mid args below meth co Q → W p l e R s mid args below meth co H locs c k Q (F0 mid pc lsA (st.map (ez_mv S0 b0)))
/-- a method's words, one by one -/
def ez_mok (tbl : Unit) (M : ez_M) (m : Nat) : Prop :=
  plainFor (ez_my M m) = true ∧ ((ez_my M m).cls ≠ "java/lang/invoke/MethodHandle" ∧ (ez_my M m).cls ≠ "java/lang/invoke/VarHandle" ∧ (parseMethodDescriptor (ez_my M m).desc).map (fun d => d.parameters.length) = some (ez_mn M m)) ∧ Cond.code (ez_my M m) (ez_mb M m) (ez_mL M m) (ez_mr M m) ∈ ez_tb ∧ Cond.initialized (ez_my M m).cls ∈ ez_tb ∧
  (ez_mk M m = 0 → Cond.static (ez_my M m) ∈ ez_tb) ∧ (ez_mk M m = 1 → Cond.instanceMethod (ez_my M m) ∈ ez_tb ∧ Cond.selects (ez_my M m).cls (ez_my M m) (ez_my M m) ∈ ez_tb) ∧ (ez_mk M m = 2 → Cond.instanceMethod (ez_my M m) ∈ ez_tb ∧ (ez_my M m).name = "<init>" ∧ ez_mr M m = none)
theorem ez_mok_of {tbl : Unit} {M : ez_M} {m w1 w2 w3 w4 : Nat} (h : ez_okH tbl M m w1 w2 w3 w4 = true) : ez_mok tbl M m := by
  obtain ⟨h1, h⟩ := Bool.and_eq_true_iff.mp h
  obtain ⟨h2, h⟩ := Bool.and_eq_true_iff.mp h
  obtain ⟨h3, h⟩ := Bool.and_eq_true_iff.mp h
  obtain ⟨h4, h⟩ := Bool.and_eq_true_iff.mp h
  obtain ⟨h5, h⟩ := Bool.and_eq_true_iff.mp h
  obtain ⟨h6, h⟩ := Bool.and_eq_true_iff.mp h
  refine ⟨h1, ⟨of_decide_eq_true h2, of_decide_eq_true h3, of_decide_eq_true h6⟩, ez_w_mem h4, ez_w_mem h5, fun z => ?_, fun z => ?_, fun z => ?_⟩
  · rw [z] at h
    exact ez_w_mem h
  · rw [z] at h
    obtain ⟨g1, g2⟩ := Bool.and_eq_true_iff.mp h
    exact ⟨ez_w_mem g1, ez_w_mem g2⟩
  · rw [z] at h
    obtain ⟨g1, g2⟩ := Bool.and_eq_true_iff.mp h
    obtain ⟨g2, g3⟩ := Bool.and_eq_true_iff.mp g2
    exact ⟨ez_w_mem g1, of_decide_eq_true g2, of_decide_eq_true g3⟩
/-- a contract out of a walk, for a method for which no native row stands -/
theorem ez_ofW {l : Launch} {y : MethodName} {ws ws' : List Cond} {rm : Room} {Pc : Array Value → State → Prop} {Qc : Array Value → State → Outcome → State → Prop} {mc ms : Nat} {free : Addr → Prop} {cc : ByteArray} {maxL : Nat} {ret : Option FieldType}
    (hy : plainFor y = true) (hw : ws = Cond.code y cc maxL ret :: ws')
    (body : ∀ p e s m args below meth c s₁, BodyLoose p l y (headSpec ws rm) cc maxL ret e s m args below meth c s₁ → c.maxLocals = maxL → Pc args s →
      W p l e (headSpec ws rm).room s m args below meth c s.heap [] 0 0 (MQ below Qc args s mc ms free) (entryFrame m args maxL)) : Met l y ws rm Pc Qc mc ms free := by
  refine MetFree.of_bodySF (code := cc) (maxLocals := maxL) (ret := ret) hy ?_ ?_
  · intro args s m h hn
    obtain ⟨meth, c, h1, h2, h3, h4, h5, h6, -, -⟩ := Cond.code_spec hn (atoms_spec (ws := ws) h _ (by rw [hw]; exact List.mem_cons_self))
    exact ⟨meth, c, h1, h2, h3, h4, h5, h6⟩
  · intro p e s m args below meth c s₁ B hml hP _
    have hh0 : s₁.heap = s.heap := by rw [B.state]; rfl
    obtain ⟨t, a1, o, b1, b2, b3⟩ := body p e s m args below meth c s₁ B hml hP s₁ hh0 (Stand.of_body B)
    exact ⟨t, o, a1, b1, b2, ⟨b3.1, b3.2⟩⟩
section EZS
variable {l : Launch} {tbl : Unit} {M : ez_M} {K : ez_K} {P : ez_P} {X : ez_X} {ty : Nat → Nat → FieldType} {nw : Nat → List Value} {cl : List vw_C} {S0 b0 nM nK : Nat}
theorem ez_good (hg : ∀ w ∈ ez_tb, (goodWord w || ez_nest w) = true) {m : Nat} (hm : ez_mok tbl M m) : GoodIn ez_tb (ez_wsm tbl M m) := by
  intro w hw
  rcases List.mem_cons.mp hw with rfl | hw
  · exact ⟨hm.2.2.1, good_of_word rfl⟩
  · obtain ⟨h1, h2⟩ := List.mem_filter.mp hw
    exact ⟨h1, good_of_word h2⟩
theorem ez_met (hg : ∀ w ∈ ez_tb, (goodWord w || ez_nest w) = true) {F a : Nat} {as : List Value} {h h' : ez_H} {r : Option Value} {c1 k1 : Nat} (D : va_G) (cI cJ : ClassId) (hb0 : b0 < S0) (hF : ez_snd l tbl M P X ty nw cl S0 b0 nM F) (ha : a ≤ nM) (hm : ez_mok tbl M a) (hrun : ez_ev P X ty nw (ez_mL M) F a 0 (ez_lay as) [] h 0 0 = some (r, h', c1, k1)) (hcat : ez_cats as ≤ ez_mL M a) :
    Met l (ez_my M a) (ez_wsm tbl M a) (ez_rm M a c1 k1) (ez_Pc tbl D cl S0 b0 cI cJ X as h) (ez_Qc D cl S0 b0 cI cJ r h') c1 k1 (ez_A S0) := by
  refine ez_ofW (cc := ez_mb M a) (maxL := ez_mL M a) (ret := ez_mr M a) hm.1 rfl ?_
  intro p e s mid args below meth co s₁ B hml hP
  obtain ⟨rfl, hR, hK, hX, hN⟩ := hP
  have hts0 := atoms_spec (ws := ez_wsm tbl M a) B.pre
  have hts : ∀ w ∈ ez_tb, w.before ((as.map (ez_mv S0 b0)).toArray) s = true := by
    intro w hw
    rcases Bool.or_eq_true_iff.mp (hg w hw) with h1 | h1
    · exact hts0 w (List.mem_cons_of_mem _ (List.mem_filter.mpr ⟨hw, h1⟩))
    · exact va_Nw.use (ez_nest_on h1) (hN w hw h1)
  have hown : s.vm.findClass (ez_my M a).cls = some mid.cls := findClass_of_methodNamed B.named
  have hl := ez_has_sub (lv_entry (as.map (ez_mv S0 b0)) (n := ez_mL M a) (by rw [ez_sl_len]; exact hcat)) (ez_lay_in as 0)
  rw [lg_entry_eq]
  have hbl : b0 < s.heap.size := by rw [hR.1]; omega
  obtain ⟨-, hw⟩ := hF a 0 (ez_lay as) [] h 0 0 r h' c1 k1 ha hrun
  refine hw D cI cJ p e _ s mid _ below meth co s.heap [] _ _ ⟨B.exec, B.bytes, hml, hown, hts, hK, hX, hbl, fun z => (name_of_methodNamed B.named B.method).1.trans z⟩ (Nat.le_refl _) (Nat.le_refl _) (Nat.le_refl _) (Nat.le_refl _) hR va_S.rf hl ?_
  intro i q lsB H1 locs1 hdg hrt hR1 hS1
  have hlocks := B.notSynchronized
  rcases hrt with ⟨rfl, v, rfl, hz | ⟨hz, hv⟩⟩ | ⟨rfl, v, rfl, hz⟩ | ⟨rfl, q1, C, rfl, hz⟩ | ⟨rfl, rfl, hz⟩
  · exact W.iret B.exec B.bytes (B.returns.trans hz) (fun t ht hW => ⟨rfl, by rw [ht]; exact hR1, hS1.F ht⟩) hS1.2.2 hdg hlocks
  · exact W.zret B.exec B.bytes (B.returns.trans hz) (by rcases hv with rfl | rfl <;> decide +kernel) (fun t ht hW => ⟨rfl, by rw [ht]; exact hR1, hS1.F ht⟩) hS1.2.2 hdg hlocks
  · exact W.lret B.exec B.bytes (B.returns.trans hz) (fun t ht hW => ⟨rfl, by rw [ht]; exact hR1, hS1.F ht⟩) hS1.2.2 hdg hlocks
  · exact W.aret B.exec B.bytes (B.returns.trans hz) (Or.inl ⟨C, rfl⟩) (Or.inr ⟨S0 + q1, rfl⟩) (fun t ht hW => ⟨rfl, by rw [ht]; exact hR1, hS1.F ht⟩) hS1.2.2 hdg hlocks
  · exact W.vret B.exec B.bytes (B.returns.trans hz) (fun t ht hW => ⟨rfl, by rw [ht]; exact hR1, hS1.F ht⟩) hS1.2.2 hdg hlocks
/-- what a call comes to, once its own row is at hand -/
theorem ez_go_ok {F m pc a n : Nat} {ls st : List Value} {h h' : ez_H} {c k c' k' : Nat} {r : Option Value} (hF : ez_snd l tbl M P X ty nw cl S0 b0 nM F) (hm : m ≤ nM)
    (hgo : ez_go (ez_mL M) (ez_ev P X ty nw (ez_mL M) F) m pc a n ls st h c k = some (r, h', c', k')) :
    ∃ (r1 : Option Value) (h1 : ez_H) (c1 k1 : Nat), n ≤ st.length ∧ ez_cats (st.drop n) ≤ 8 ∧ ez_cats (st.take n).reverse ≤ ez_mL M a ∧ ez_ev P X ty nw (ez_mL M) F a 0 (ez_lay (st.take n).reverse) [] h 0 0 = some (r1, h1, c1, k1) ∧ ez_ev P X ty nw (ez_mL M) F m (pc + 3) ls (r1.toList ++ st.drop n) h1 (c + c1) (k + k1) = some (r, h', c', k') ∧ c + c1 ≤ c' ∧ k + k1 ≤ k' := by
  unfold ez_go at hgo
  obtain ⟨hz, hgo⟩ := ez_bif hgo
  obtain ⟨z1, hz⟩ := Bool.and_eq_true_iff.mp hz
  obtain ⟨z2, z3⟩ := Bool.and_eq_true_iff.mp hz
  split at hgo
  · rename_i r1 h1 c1 k1 h2
    obtain ⟨⟨g1, g2⟩, -⟩ := hF m _ _ _ _ _ _ _ _ _ _ hm hgo
    exact ⟨r1, h1, c1, k1, Nat.le_of_ble_eq_true z1, Nat.le_of_ble_eq_true z2, Nat.le_of_ble_eq_true z3, h2, hgo, g1, g2⟩
  · cases hgo
end EZS
